theorem prt_x {x : Nat} (h : x < 65536) : x = jx (prt x 0) (prt x 1) (prt x 2) (prt x 3) := by
  have e : ∀ p, prt x p = x / 2 ^ (4 * p) % 16 := fun p => of4_dm x p
  unfold jx
  rw [e, e, e, e]
  simp
  omega
/-- what the class has of a person's numbers, but for its own -/
theorem own_out {a p : Nat} (ha : a < 16) (hp : p < 4) (ho : a.testBit p = false) : (a ||| 1 <<< p) ^^^ 1 <<< p = a ∧ (a ||| 1 <<< p) &&& (1 <<< p ^^^ 4294967295) = a := by
  have h1 : 1 <<< p < 16 := one_shl (n := 4) hp
  have h2 : (a ||| 1 <<< p) < 16 := or4 ha h1
  refine ⟨eq4 (Nat.xor_lt_two_pow (n := 4) h2 h1) ha (fun i hi => ?_), eq4 (Nat.lt_of_le_of_lt Nat.and_le_left h2) ha (fun i hi => ?_)⟩
  · rw [Nat.testBit_xor, Nat.testBit_or, Nat.one_shiftLeft, Nat.testBit_two_pow]
    by_cases e : p = i
    · subst e; rw [ho]; simp
    · rw [decide_eq_false e]; simp
  · rw [Nat.testBit_and, Nat.testBit_or, not_tb (by omega), Nat.one_shiftLeft, Nat.testBit_two_pow]
    by_cases e : p = i
    · subst e; rw [ho]; simp
    · rw [decide_eq_false e]; simp
theorem nb_lt {n a : Nat} (h : ∀ i, a.testBit i = true → i < n) : a < 2 ^ n := Nat.lt_pow_two_of_testBit _ fun i hi => by
  cases hb : a.testBit i with
  | false => rfl
  | true => exact absurd (h i hb) (by omega)
theorem joC_eq {n : Nat} {net : Nat → Nat} {x : Nat} (h1 : 0 < n) (hn : n ≤ 4) (h : NX n net x) (hb : NB n net) (ho : ∀ p, p < n → (net p).testBit p = false) (h16 : ∀ j, net j < 16) : joC n x = joinM net n := by
  have ej : ∀ p, p < n → net p = jn x p := fun p hp => by
    show _ = prt x p ^^^ 1 <<< p
    rw [h.2 p (by omega), if_pos hp, (own_out (h16 p) (by omega) (ho p hp)).1]
  rw [joinM_cong ej]
  have hx := prt_x h.1
  have hp : ∀ p, p < n → ins p (cod p (prt x p)) = prt x p ∧ cod p (prt x p) < 2 ^ (n - 1) := fun p hp => by
    have e := h.2 p (by omega)
    rw [if_pos hp] at e
    have hbit : (prt x p).testBit p = true := by rw [e]; exact bit_or _ _
    refine ⟨ins_cod p (by omega) _ (prt_lt x p) hbit, cod_n hn hp (nb_lt fun i hi => ?_) hbit⟩
    rw [e, Nat.testBit_or, Nat.one_shiftLeft, Nat.testBit_two_pow, Bool.or_eq_true] at hi
    rcases hi with hi | hi
    · exact hb p hp i hi
    · rw [← of_decide_eq_true hi]; exact hp
  have h0 : ∀ p, n ≤ p → p < 4 → prt x p = 0 := fun p h2 h3 => by rw [h.2 p h3, if_neg (by omega)]
  rcases (by omega : n = 1 ∨ n = 2 ∨ n = 3 ∨ n = 4) with rfl | rfl | rfl | rfl
  · have a0 := hp 0 (by omega)
    have c0 : cod 0 (prt x 0) = 0 := by have := a0.2; simp at this; exact this
    have e : jx (ins 0 0) 0 0 0 = x := by
      have a9 := a0.1
      rw [c0] at a9
      rw [a9]
      rw [h0 1 (by omega) (by omega), h0 2 (by omega) (by omega), h0 3 (by omega) (by omega)] at hx; exact hx.symm
    have k := jo_1
    rw [e] at k; exact k
  · have a0 := hp 0 (by omega); have a1 := hp 1 (by omega)
    have k := jo_2 _ a0.2 _ a1.2
    rw [a0.1, a1.1, show jx (prt x 0) (prt x 1) 0 0 = x by rw [h0 2 (by omega) (by omega), h0 3 (by omega) (by omega)] at hx; exact hx.symm] at k
    exact k
  · have a0 := hp 0 (by omega); have a1 := hp 1 (by omega); have a2 := hp 2 (by omega)
    have k := jo_3 _ a0.2 _ a1.2 _ a2.2
    rw [a0.1, a1.1, a2.1, show jx (prt x 0) (prt x 1) (prt x 2) 0 = x by rw [h0 3 (by omega) (by omega)] at hx; exact hx.symm] at k
    exact k
  · have a0 := hp 0 (by omega); have a1 := hp 1 (by omega); have a2 := hp 2 (by omega); have a3 := hp 3 (by omega)
    have k := jo_4 a0.2 a1.2 a2.2 a3.2
    rw [a0.1, a1.1, a2.1, a3.1, ← hx] at k
    exact k
/-! the sun -/
theorem hoC_eq {n : Nat} {net : Nat → Nat} {x : Nat} (hn : n ≤ 4) (h : NX n net x) (ho : ∀ p, p < n → (net p).testBit p = false) (h16 : ∀ j, net j < 16) : ∀ k, k ≤ n → hoC x k = wantK net k
  | 0, _ => rfl
  | k + 1, hk => by
    have ih := hoC_eq hn h ho h16 k (by omega)
    have e : prt x k &&& (1 <<< k ^^^ 4294967295) = net k := by
      rw [h.2 k (by omega), if_pos (by omega)]; exact (own_out (h16 k) (by omega) (ho k (by omega))).2
    simp only [hoC, wantK]
    rw [e, ih]
    split
    · rw [Nat.or_zero]
    · rfl
theorem rcQ_eq {n : Nat} {net : Nat → Nat} {x z : Nat} (hn : n ≤ 4) (h : NX n net x) : ∀ k, k ≤ n → rcQ x z k = sQ net z k
  | 0, _ => rfl
  | k + 1, hk => by
    have ih := rcQ_eq (z := z) hn h k (by omega)
    simp only [rcQ, sQ]
    rw [ih, h.2 k (by omega), if_pos (show k < n by omega)]
    by_cases hb : (sQ net z k).testBit k = true
    · rw [if_pos hb, if_pos hb]
      apply Nat.eq_of_testBit_eq; intro i
      rw [Nat.testBit_or, Nat.testBit_or, Nat.testBit_or, Nat.one_shiftLeft, Nat.testBit_two_pow]
      by_cases e : k = i
      · subst e; rw [hb]; rfl
      · rw [decide_eq_false e, Bool.or_false]
    · rw [if_neg hb, if_neg hb, Nat.or_zero]
theorem rcA_eq {n : Nat} {net : Nat → Nat} {x fr : Nat} (hn : n ≤ 4) (h : NX n net x) : ∀ k, rcA n x fr k = sA net n fr k
  | 0 => rfl
  | k + 1 => by simp only [rcA, sA]; rw [rcA_eq hn h k]; exact rcQ_eq hn h n (Nat.le_refl n)
theorem suC_eq {n : Nat} {net : Nat → Nat} {x : Nat} (hn : n ≤ 4) (h : NX n net x) (ho : ∀ p, p < n → (net p).testBit p = false) (h16 : ∀ j, net j < 16) : suC n x = sunM net n := by
  unfold suC sunM
  refine decide_eq_decide.mpr ⟨fun hq p hp => ?_, fun hq p hp => ?_⟩
  · have := hq p hp
    rw [hoC_eq hn h ho h16 n (Nat.le_refl n), show rch n x p = sA net n p n from rcA_eq hn h n] at this; exact this
  · rw [hoC_eq hn h ho h16 n (Nat.le_refl n), show rch n x p = sA net n p n from rcA_eq hn h n]; exact hq p hp
/-! the numbers of a position at the start -/
theorem NX_of {n : Nat} {net : Nat → Nat} {t2 t3 P : Nat} (hn : n ≤ 4) (h : Ps n net (startN n) t2 t3 P) : NX n net (P >>> 16 &&& 65535) := by
  have h6 : P >>> 16 &&& 65535 < 65536 := Nat.lt_of_le_of_lt Nat.and_le_right (by decide)
  refine ⟨h6, fun p hp => ?_⟩
  have e : prt (P >>> 16 &&& 65535) p = nO P p := eq4 (prt_lt _ _) (nO_lt _ _) (fun i hi => by
    rw [prt_tb, nO_tb, Nat.testBit_and, Nat.testBit_shiftRight, show (65535 : Nat) = 2 ^ 16 - 1 from rfl, Nat.testBit_two_pow_sub_one, decide_eq_true (show 4 * p + i < 16 by omega), Bool.and_true, show 16 + (4 * p + i) = 16 + 4 * p + i by omega])
  rw [e, h.num p hp]
  by_cases hpn : p < n
  · rw [if_pos hpn, if_pos hpn]
    show numS net (of4 (startN n) p) 4 = _
    rw [start_of n hn p hp, if_pos hpn, numS_one hp]
  · rw [if_neg hpn, if_neg hpn]
theorem NX_bit {n : Nat} {net : Nat → Nat} {x p q : Nat} (h : NX n net x) (hp : p < n) (hp4 : p < 4) (hq : q < 4) : x.testBit (4 * p + q) = ((net p).testBit q || decide (p = q)) := by
  have h1 := congrArg (fun z => z.testBit q) (h.2 p hp4)
  simp only [prt_tb, decide_eq_true hq, Bool.true_and, if_pos hp] at h1
  rw [h1, Nat.testBit_or, Nat.one_shiftLeft, Nat.testBit_two_pow]
/-! picks -/
theorem bits_cnt {S : Nat} {B : Nat → Bool} : ∀ k, (∀ j, j < k → S.testBit j = B j) → bitsN S k = cntB B k
  | 0, _ => rfl
  | k + 1, h => by rw [bitsN_tb, bits_cnt k (fun j hj => h j (by omega)), h k (by omega)]; rfl
theorem cnt_cg {A B : Nat → Bool} : ∀ k, (∀ j, j < k → A j = B j) → cntB A k = cntB B k
  | 0, _ => rfl
  | k + 1, h => by simp only [cntB]; rw [cnt_cg k (fun j hj => h j (by omega)), h k (by omega)]
theorem cnt_mid {B : Nat → Bool} {kk : Nat} : ∀ n, kk < cntB B n → ∃ j, j < n ∧ B j = true ∧ cntB B j = kk
  | 0, h => absurd h (by simp [cntB])
  | n + 1, h => by
    by_cases h1 : kk < cntB B n
    · obtain ⟨j, a, b⟩ := cnt_mid n h1; exact ⟨j, by omega, b⟩
    · cases hb : B n with
      | false => rw [cntB_f hb] at h; exact absurd h h1
      | true => rw [cntB_t hb] at h; exact ⟨n, by omega, hb, by omega⟩
theorem pick_m1 {S : Nat} {B : Nat → Bool} (h : ∀ j, j < 16 → S.testBit j = B j) : pickR B (-1) (nI (bitsN S 16)) := Or.inl ⟨rfl, by rw [bits_cnt 16 h]⟩
theorem pick_k {S kk : Nat} {B : Nat → Bool} (h : ∀ j, j < 16 → S.testBit j = B j) (hk : kk ≤ 11) : pickR B (nI kk) (pkS S kk) := by
  refine Or.inr ⟨kk, hk, rfl, ?_⟩
  unfold pkS
  by_cases hf : fF (fun j => S.testBit j && decide (cntB (fun i => S.testBit i) j = kk)) 16 < 16
  · rw [if_pos hf]
    obtain ⟨a, _⟩ := fF_spec hf
    generalize fF (fun j => S.testBit j && decide (cntB (fun i => S.testBit i) j = kk)) 16 = j at hf a
    rw [Bool.and_eq_true, decide_eq_true_eq] at a
    refine Or.inl ⟨j, hf, by rw [← h j hf]; exact a.1, ?_, ?_⟩
    · rw [← a.2]; exact (cnt_cg j (fun i hi => h i (by omega))).symm
    · rw [Nat.shiftRight_eq_div_pow, show (3 : Nat) = 2 ^ 2 - 1 from rfl, Nat.and_two_pow_sub_one_eq_mod]
  · rw [if_neg hf]
    refine Or.inr ⟨Nat.le_of_not_lt fun h2 => ?_, rfl⟩
    obtain ⟨j, a, b, c⟩ := cnt_mid 16 h2
    refine hf (fF_found (i := j) a ?_)
    rw [Bool.and_eq_true, decide_eq_true_eq]
    exact ⟨by rw [h j a]; exact b, by rw [← c]; exact cnt_cg j (fun i hi => h i (by omega))⟩
/-! a number taken out, or put in -/
theorem NX_flip {n : Nat} {net : Nat → Nat} {x p q : Nat} (hn : n ≤ 4) (hp : p < n) (hq : q < n) (hpq : p ≠ q) (h16 : ∀ j, net j < 16) (h : NX n net x) (hbit : (net p).testBit q = false) : NX n (flip net p q) (x ||| 1 <<< (4 * p + q)) := by
  refine ⟨or_lt (n := 16) h.1 (one_shl (by omega)), fun a ha => ?_⟩
  rw [prt_set (by omega) (by omega) ha, h.2 a ha]
  unfold flip
  by_cases e : a = p
  · subst e
    rw [if_pos rfl, if_pos hp, if_pos hp, vu_s]
    apply Nat.eq_of_testBit_eq; intro i
    simp only [Nat.testBit_or, Nat.testBit_xor, Nat.one_shiftLeft, Nat.testBit_two_pow]
    by_cases e2 : q = i
    · subst e2; rw [hbit]; simp
    · rw [decide_eq_false e2]; simp
  · rw [if_neg e, vu_n _ _ e]
theorem prt_clr {x a b p : Nat} (ha : a < 4) (hb : b < 4) (hp : p < 4) : prt (x &&& (1 <<< (4 * a + b) ^^^ 4294967295)) p = if p = a then prt x p &&& (1 <<< b ^^^ 4294967295) else prt x p := by
  refine eq4 (prt_lt _ _) (by split; exact Nat.lt_of_le_of_lt Nat.and_le_left (prt_lt _ _); exact prt_lt _ _) (fun i hi => ?_)
  rw [prt_tb, decide_eq_true hi, Bool.true_and, Nat.testBit_and, not_tb (by omega), Nat.one_shiftLeft, Nat.testBit_two_pow]
  by_cases e : p = a
  · rw [if_pos e, Nat.testBit_and, prt_tb, decide_eq_true hi, Bool.true_and, not_tb (by omega), Nat.one_shiftLeft, Nat.testBit_two_pow, decide_eq_decide.mpr (show 4 * a + b = 4 * p + i ↔ b = i by omega)]
  · rw [if_neg e, prt_tb, decide_eq_true hi, Bool.true_and, decide_eq_false (show ¬ 4 * a + b = 4 * p + i by omega)]; simp
theorem NX_clr {n : Nat} {net : Nat → Nat} {x p q : Nat} (hn : n ≤ 4) (hp : p < n) (hq : q < n) (hpq : p ≠ q) (h16 : ∀ j, net j < 16) (h : NX n net x) (hbit : (net p).testBit q = true) : NX n (flip net p q) (x &&& (1 <<< (4 * p + q) ^^^ 4294967295)) := by
  refine ⟨Nat.lt_of_le_of_lt Nat.and_le_left h.1, fun a ha => ?_⟩
  rw [prt_clr (by omega) (by omega) ha, h.2 a ha]
  unfold flip
  by_cases e : a = p
  · subst e
    rw [if_pos rfl, if_pos hp, if_pos hp, vu_s]
    have hlt : (net a ||| 1 <<< a) < 16 := or4 (h16 a) (one_shl (n := 4) (by omega))
    refine eq4 (Nat.lt_of_le_of_lt Nat.and_le_left hlt) (or4 (Nat.xor_lt_two_pow (n := 4) (h16 a) (one_shl (by omega))) (one_shl (n := 4) (by omega))) (fun i hi => ?_)
    rw [Nat.testBit_and, not_tb (by omega)]
    simp only [Nat.testBit_or, Nat.testBit_xor, Nat.one_shiftLeft, Nat.testBit_two_pow]
    by_cases e2 : q = i
    · subst e2; rw [hbit, decide_eq_false hpq]; simp
    · rw [decide_eq_false e2]; simp
  · rw [if_neg e, vu_n _ _ e]
theorem NB_flip {n : Nat} {net : Nat → Nat} {p q : Nat} (hq : q < n) (h : NB n net) : NB n (flip net p q) := fun a ha i hi => by
  unfold flip at hi
  by_cases e : a = p
  · subst e
    rw [vu_s, Nat.testBit_xor, Nat.one_shiftLeft, Nat.testBit_two_pow] at hi
    by_cases e2 : q = i
    · rw [← e2]; exact hq
    · rw [decide_eq_false e2, Bool.xor_false] at hi; exact h a ha i hi
  · rw [vu_n _ _ e] at hi; exact h a ha i hi
theorem own_flip {n : Nat} {net : Nat → Nat} {p q : Nat} (hpq : p ≠ q) (h : ∀ a, a < n → (net a).testBit a = false) : ∀ a, a < n → (flip net p q a).testBit a = false := fun a ha => by
  unfold flip
  by_cases e : a = p
  · subst e
    rw [vu_s, Nat.testBit_xor, Nat.one_shiftLeft, Nat.testBit_two_pow, h a ha, decide_eq_false (fun h9 => hpq h9.symm)]; rfl
  · rw [vu_n _ _ e]; exact h a ha
