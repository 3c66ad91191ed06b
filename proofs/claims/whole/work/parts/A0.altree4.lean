/-! ===== what is in all rows that are alike ===== -/
theorem foK_tb {g : Nat → Nat → Nat} {B : Nat → Prop} {i : Nat} : ∀ k acc, (∀ d, d < k → ∀ a, (g d a).testBit i = true ↔ (a.testBit i = true ∧ B d)) → ((foK g k acc).testBit i = true ↔ (acc.testBit i = true ∧ ∀ d, d < k → B d))
  | 0, acc, _ => ⟨fun h => ⟨h, fun d hd => absurd hd (by omega)⟩, fun h => h.1⟩
  | k + 1, acc, h => by
    show (g k (foK g k acc)).testBit i = true ↔ _
    rw [h k (by omega), foK_tb k acc (fun d hd => h d (by omega))]
    constructor
    · intro ⟨⟨a1, a2⟩, a3⟩
      refine ⟨a1, fun d hd => ?_⟩
      rcases (by omega : d < k ∨ d = k) with h1 | h1
      · exact a2 d h1
      · rw [h1]; exact a3
    · intro ⟨a1, a2⟩
      exact ⟨⟨a1, fun d hd => a2 d (by omega)⟩, a2 k (by omega)⟩
theorem tr_all {n : Nat} {net cP cQ : Nat → Nat} {w k : Nat} {Si : Nat → Nat} (hn : n ≤ 4) (hw : w < n) (hSi : ∀ i, i < k → Si i = sgS w (cP i) (cQ i) (stS n cP cQ (i + 1))) (hcp : ∀ i, i < k → cP i < n ∧ cQ i < n) (i : Nat) : ∀ j c y st acc, c + j = k → y < 16 ^ c → rS n net y c = some st → VS n st → (∀ i, i < c → seeC n net cP cQ w y i = true) → ((trA n net w Si j c st acc).testBit i = true ↔ (acc.testBit i = true ∧ ∀ z, z < 16 ^ j → ∀ s1, rT n net cP cQ w k (y + 16 ^ c * z) = some s1 → s1.testBit i = true))
  | 0, c, y, st, acc, hk, hy, hs, hv, hse => by
    have e : c = k := by omega
    subst e
    have h1 : rT n net cP cQ w c (y + 16 ^ c * 0) = some st := by
      rw [Nat.mul_zero, Nat.add_zero]
      unfold rT
      rw [if_pos (show seeA n net cP cQ w y c = true from decide_eq_true hse)]; exact hs
    show (acc &&& st).testBit i = true ↔ _
    rw [Nat.testBit_and, Bool.and_eq_true]
    constructor
    · intro ⟨a1, a2⟩
      refine ⟨a1, fun z hz s1 hr => ?_⟩
      have ez : z = 0 := by simp at hz; omega
      subst ez; rw [h1] at hr; cases hr; exact a2
    · intro ⟨a1, a2⟩
      exact ⟨a1, a2 0 (by decide) st h1⟩
  | j + 1, c, y, st, acc, hk, hy, hs, hv, hse => by
    simp only [trA]
    rw [foK_tb (B := fun d => ∀ z, z < 16 ^ j → ∀ s1, rT n net cP cQ w k (y + 16 ^ c * d + 16 ^ (c + 1) * z) = some s1 → s1.testBit i = true) 16 acc (fun d hd a => ?_)]
    · constructor
      · intro ⟨a1, a2⟩
        refine ⟨a1, fun z hz s1 hr => ?_⟩
        refine a2 (z % 16) (by omega) (z / 16) ?_ s1 ?_
        · rw [Nat.pow_succ] at hz; omega
        · rw [← hr, Nat.add_assoc, ← pow_16, show z % 16 + 16 * (z / 16) = z by omega]
      · intro ⟨a1, a2⟩
        refine ⟨a1, fun d hd z hz s1 hr => a2 (d + 16 * z) (by rw [Nat.pow_succ]; omega) s1 ?_⟩
        rw [pow_16, ← Nat.add_assoc]; exact hr
    · have hr := row_d hn hw hSi hcp (by omega) hy hs hv hse hd
      cases hg : gdD n net w Si c st d with
      | true =>
        obtain ⟨a1, a2, a3⟩ := hr.1 hg
        rw [if_pos rfl]
        exact tr_all hn hw hSi hcp i j (c + 1) _ _ a (by omega) (y_lt hy hd) a1 a2 a3
      | false =>
        rw [if_neg (by decide)]
        exact ⟨fun h => ⟨h, fun z hz s1 h2 => by rw [hr.2 hg z] at h2; cases h2⟩, fun h => h.1⟩
theorem tr_C0 {n : Nat} {net cP cQ : Nat → Nat} {w k : Nat} {Si : Nat → Nat} (hn : n ≤ 4) (hw : w < n) (hSi : ∀ i, i < k → Si i = sgS w (cP i) (cQ i) (stS n cP cQ (i + 1))) (hcp : ∀ i, i < k → cP i < n ∧ cQ i < n) : trC n net w Si k 0 (startN n) = alC (ALf n k net cP cQ w) (16 ^ k) := by
  have h := tr_cnt (net := net) hn hw hSi hcp k 0 0 (startN n) (by omega) (by decide) rfl (VS_start hn) (fun i hi => absurd hi (by omega))
  rw [← h]
  refine alC_cong _ (fun x _ => ?_)
  rw [Nat.pow_zero, Nat.one_mul, Nat.zero_add]
theorem tr_A0 {n : Nat} {net cP cQ : Nat → Nat} {w k : Nat} {Si : Nat → Nat} (hn : n ≤ 4) (hw : w < n) (hSi : ∀ i, i < k → Si i = sgS w (cP i) (cQ i) (stS n cP cQ (i + 1))) (hcp : ∀ i, i < k → cP i < n ∧ cQ i < n) : trA n net w Si k 0 (startN n) 65535 = alA (ALf n k net cP cQ w) (16 ^ k) := by
  apply Nat.eq_of_testBit_eq; intro i
  have h := tr_all (net := net) hn hw hSi hcp i k 0 0 (startN n) 65535 (by omega) (by decide) rfl (VS_start hn) (fun i hi => absurd hi (by omega))
  rw [Bool.eq_iff_iff, h]
  have e : ∀ z, 0 + 16 ^ 0 * z = z := fun z => by rw [Nat.pow_zero, Nat.one_mul, Nat.zero_add]
  simp only [e]
  rcases Nat.lt_or_ge i 16 with hi | hi
  · rw [alA_tb hi]
    have h6 : (65535 : Nat).testBit i = true := by
      rw [show (65535 : Nat) = 2 ^ 16 - 1 from rfl, Nat.testBit_two_pow_sub_one]; exact decide_eq_true hi
    exact ⟨fun h x s1 hx hr => h.2 x hx s1 hr, fun h => ⟨h6, fun z hz s1 hr => h z s1 hz hr⟩⟩
  · have h6 : (65535 : Nat).testBit i = false := by
      rw [show (65535 : Nat) = 2 ^ 16 - 1 from rfl, Nat.testBit_two_pow_sub_one]; exact decide_eq_false (by omega)
    rw [h6, tb_big (alA_le _ _) hi]; simp
/-! steps of the class's search -/
def fC (n : Nat) (net : Nat → Nat) (w : Nat) (Si : Nat → Nat) (j c st : Nat) : Nat → Nat := fun d => if gdD n net w Si c st d = true then trC n net w Si j (c + 1) (aft st (d / 4) (d % 4)) else 0
def fA (n : Nat) (net : Nat → Nat) (w : Nat) (Si : Nat → Nat) (j c st : Nat) : Nat → Nat → Nat := fun d a => if gdD n net w Si c st d = true then trA n net w Si j (c + 1) (aft st (d / 4) (d % 4)) a else a
theorem fC_t {n : Nat} {net : Nat → Nat} {w : Nat} {Si : Nat → Nat} {j c st p q : Nat} (hq : q < 4) (hg : gdD n net w Si c st (4 * p + q) = true) : smK (fC n net w Si j c st) (4 * p + (q + 1)) = smK (fC n net w Si j c st) (4 * p + q) + trC n net w Si j (c + 1) (aft st p q) := by
  show smK _ (4 * p + q) + fC n net w Si j c st (4 * p + q) = _
  unfold fC; rw [if_pos hg, (dm4 hq).1, (dm4 hq).2]
theorem fC_f {n : Nat} {net : Nat → Nat} {w : Nat} {Si : Nat → Nat} {j c st p q : Nat} (hg : gdD n net w Si c st (4 * p + q) = false) : smK (fC n net w Si j c st) (4 * p + (q + 1)) = smK (fC n net w Si j c st) (4 * p + q) := by
  show smK _ (4 * p + q) + fC n net w Si j c st (4 * p + q) = _
  unfold fC; rw [if_neg (by rw [hg]; decide), Nat.add_zero]
theorem fA_t {n : Nat} {net : Nat → Nat} {w : Nat} {Si : Nat → Nat} {j c st p q acc : Nat} (hq : q < 4) (hg : gdD n net w Si c st (4 * p + q) = true) : foK (fA n net w Si j c st) (4 * p + (q + 1)) acc = trA n net w Si j (c + 1) (aft st p q) (foK (fA n net w Si j c st) (4 * p + q) acc) := by
  show fA n net w Si j c st (4 * p + q) (foK _ (4 * p + q) acc) = _
  unfold fA; rw [if_pos hg, (dm4 hq).1, (dm4 hq).2]
theorem fA_f {n : Nat} {net : Nat → Nat} {w : Nat} {Si : Nat → Nat} {j c st p q acc : Nat} (hg : gdD n net w Si c st (4 * p + q) = false) : foK (fA n net w Si j c st) (4 * p + (q + 1)) acc = foK (fA n net w Si j c st) (4 * p + q) acc := by
  show fA n net w Si j c st (4 * p + q) (foK _ (4 * p + q) acc) = _
  unfold fA; rw [if_neg (by rw [hg]; decide)]
theorem smK_skip {g : Nat → Nat} {a : Nat} : ∀ b, (∀ d, a ≤ d → d < a + b → g d = 0) → smK g (a + b) = smK g a
  | 0, _ => rfl
  | b + 1, h => by
    show smK g (a + b) + g (a + b) = _
    rw [smK_skip b (fun d h1 h2 => h d h1 (by omega)), h (a + b) (by omega) (by omega)]; rfl
theorem foK_skip {g : Nat → Nat → Nat} {a acc : Nat} : ∀ b, (∀ d, a ≤ d → d < a + b → ∀ x, g d x = x) → foK g (a + b) acc = foK g a acc
  | 0, _ => rfl
  | b + 1, h => by
    show g (a + b) (foK g (a + b) acc) = _
    rw [h (a + b) (by omega) (by omega), foK_skip b (fun d h1 h2 => h d h1 (by omega))]
theorem gd_out {n : Nat} {net : Nat → Nat} {w : Nat} {Si : Nat → Nat} {c st d : Nat} (h : n ≤ d / 4 ∨ n ≤ d % 4) : gdD n net w Si c st d = false := by
  unfold gdD okD
  rw [decide_eq_false (fun h2 => by have := h2.1; omega)]; rfl
theorem fC_row {n : Nat} {net : Nat → Nat} {w : Nat} {Si : Nat → Nat} {j c st p : Nat} (hn : n ≤ 4) : smK (fC n net w Si j c st) (4 * p + n) = smK (fC n net w Si j c st) (4 * (p + 1)) := by
  rw [show 4 * (p + 1) = 4 * p + n + (4 - n) by omega]
  exact (smK_skip _ (fun d h1 h2 => by unfold fC; rw [if_neg (by rw [gd_out (by omega)]; decide)])).symm
theorem fC_end {n : Nat} {net : Nat → Nat} {w : Nat} {Si : Nat → Nat} {j c st : Nat} (hn : n ≤ 4) : smK (fC n net w Si j c st) (4 * n) = trC n net w Si (j + 1) c st := by
  show _ = smK (fC n net w Si j c st) 16
  rw [show 16 = 4 * n + (16 - 4 * n) by omega]
  exact (smK_skip _ (fun d h1 h2 => by unfold fC; rw [if_neg (by rw [gd_out (by omega)]; decide)])).symm
theorem fA_row {n : Nat} {net : Nat → Nat} {w : Nat} {Si : Nat → Nat} {j c st p acc : Nat} (hn : n ≤ 4) : foK (fA n net w Si j c st) (4 * p + n) acc = foK (fA n net w Si j c st) (4 * (p + 1)) acc := by
  rw [show 4 * (p + 1) = 4 * p + n + (4 - n) by omega]
  exact (foK_skip _ (fun d h1 h2 x => by unfold fA; rw [if_neg (by rw [gd_out (by omega)]; decide)])).symm
theorem fA_end {n : Nat} {net : Nat → Nat} {w : Nat} {Si : Nat → Nat} {j c st acc : Nat} (hn : n ≤ 4) : foK (fA n net w Si j c st) (4 * n) acc = trA n net w Si (j + 1) c st acc := by
  show _ = foK (fA n net w Si j c st) 16 acc
  rw [show 16 = 4 * n + (16 - 4 * n) by omega]
  exact (foK_skip _ (fun d h1 h2 x => by unfold fA; rw [if_neg (by rw [gd_out (by omega)]; decide)])).symm
theorem fol_ok {n : Nat} {net : Nat → Nat} {st t2 t3 P p q : Nat} (hn : n ≤ 4) (h : Ps n net st t2 t3 P) (hp : p < n) (hq : q < n) : (nO P p &&& (1 <<< p ^^^ 4294967295)).testBit q = okD n net st (4 * p + q) := by
  have hq4 : q < 4 := by omega
  rw [Nat.testBit_and, not_tb (by omega), Nat.one_shiftLeft, Nat.testBit_two_pow, h.num p (by omega), if_pos hp]
  unfold okD
  rw [(dm4 hq4).1, (dm4 hq4).2]
  cases hb : (numO net st p).testBit q with
  | false => simp
  | true =>
    by_cases e : p = q
    · rw [decide_eq_true e, decide_eq_false (fun h2 => h2.2.1 e)]; rfl
    · rw [decide_eq_false e, decide_eq_true ⟨⟨hp, hq⟩, e, rfl⟩]; rfl
theorem fol_sg {n : Nat} {net : Nat → Nat} {st t2 t3 P w p q : Nat} (h : Ps n net st t2 t3 P) (hw : w < 4) : sgt w p q P = sgS w p q st := by
  unfold sgt sgS; rw [h.sec w hw]
theorem gd_mk {n : Nat} {net : Nat → Nat} {w : Nat} {Si : Nat → Nat} {c st p q : Nat} (hq : q < 4) : gdD n net w Si c st (4 * p + q) = (okD n net st (4 * p + q) && decide (sgS w p q (aft st p q) = Si c)) := by
  unfold gdD; rw [(dm4 hq).1, (dm4 hq).2]
theorem okD_pq {n : Nat} {net : Nat → Nat} {st p q : Nat} (hq : q < 4) (h : okD n net st (4 * p + q) = true) : p ≠ q := by
  unfold okD at h
  rw [(dm4 hq).1, (dm4 hq).2] at h
  exact (of_decide_eq_true h).2.1
theorem vu_vu {α : Type} (f : Nat → α) (k : Nat) (a b : α) : va_up (va_up f k a) k b = va_up f k b := by
  funext j; by_cases e : j = k
  · rw [e, vu_s, vu_s]
  · rw [vu_n _ _ e, vu_n _ _ e, vu_n _ _ e]
theorem vu_id {α : Type} (f : Nat → α) (k : Nat) : va_up f k (f k) = f := by
  funext j; by_cases e : j = k
  · rw [e, vu_s]
  · rw [vu_n _ _ e]
/-- the search below, in a room k -/
def FolS (l : Launch) (E : EE) (ao a1 a2 a3 nn : Nat) (net : Nat → Nat) (ww k : Nat) : Prop := ∀ (jj dd st t2 t3 x0 fo sc : Nat) (Rw Su Si : Nat → Nat) (sz : Nat), jj < k → dd + jj = sc → sc ≤ 4 → Ps nn net st t2 t3 x0 → VS nn st → (∀ i, Si i < 256) →
  Wr l yX0_follow cX0_follow 11 none (rm_X0_follow_k k) 0 0 E (alW E ao a1 a2 a3 fo sc Rw Su Si) sz [.ref ao, .int (nI ww), .long (lN x0), .int (nI dd)] (fun v1 w1 => v1 = none ∧ w1 = alW E ao a1 a2 a3 fo sc (va_up Rw ww (Rw ww + trC nn net ww Si jj dd st)) (va_up Su ww (trA nn net ww Si jj dd st (Su ww))) Si)
