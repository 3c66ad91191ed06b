/-! ===== steps of a count ===== -/
theorem whM_cv {n : Nat} {net : Nat → Nat} {st t2 t3 P r p q : Nat} (hn : n ≤ 4) (hv : VS n st) (hb : NB n net) (h : Ps n net st t2 t3 P) (hr : r < 4) (hp : p < n) (hq : q < n) : (whM P r p).testBit q = cv n net r st (tkR r t2 t3) (4 * p + q) := by
  rw [Ps_may hn hv hb h hr hp, maySet_tb, decide_eq_true hq, Bool.true_and]
  unfold cv
  rw [show (4 * p + q) / 4 = p by omega, show (4 * p + q) % 4 = q by omega, decide_eq_true hp, decide_eq_true hq]; rfl
theorem cv_ne {n : Nat} {net : Nat → Nat} {r st tok p q : Nat} (hn : n ≤ 4) (hp : p < n) (hq : q < n) (h : cv n net r st tok (4 * p + q) = true) : p ≠ q := by
  intro e; subst e
  unfold cv mayM at h
  rw [show (4 * p + p) / 4 = p by omega, show (4 * p + p) % 4 = p by omega, if_pos rfl] at h
  simp at h
theorem acc_n {n : Nat} {net : Nat → Nat} {r st tok p q : Nat} {f : Nat → Nat → C4} (h : cv n net r st tok (4 * p + q) = false) : accC n net r f st tok (4 * p + (q + 1)) = accC n net r f st tok (4 * p + q) := by
  show accC n net r f st tok (4 * p + q + 1) = _
  simp only [accC]; rw [h]; rfl
theorem acc_y {n : Nat} {net : Nat → Nat} {r st tok p q : Nat} {f : Nat → Nat → C4} (hq : q < 4) (h : cv n net r st tok (4 * p + q) = true) : accC n net r f st tok (4 * p + (q + 1)) = addC (accC n net r f st tok (4 * p + q)) (f (aft st p q) (tokA tok r p q)) := by
  show accC n net r f st tok (4 * p + q + 1) = _
  simp only [accC]; rw [if_pos h]
  show addC _ (f (aft st ((4 * p + q) / 4) ((4 * p + q) % 4)) (tokA tok r ((4 * p + q) / 4) ((4 * p + q) % 4))) = _
  rw [show (4 * p + q) / 4 = p by omega, show (4 * p + q) % 4 = q by omega]
theorem acc_skip {n : Nat} {net : Nat → Nat} {r st tok a : Nat} {f : Nat → Nat → C4} : ∀ j, (∀ i, a ≤ i → i < a + j → cv n net r st tok i = false) → accC n net r f st tok (a + j) = accC n net r f st tok a
  | 0, _ => rfl
  | j + 1, h => by
    show accC n net r f st tok (a + j + 1) = _
    simp only [accC]; rw [h (a + j) (by omega) (by omega)]
    exact acc_skip j (fun i h1 h2 => h i h1 (by omega))
theorem acc_row {n : Nat} {net : Nat → Nat} {r st tok p q : Nat} {f : Nat → Nat → C4} (hn : n ≤ 4) (hq : n ≤ q) (hq2 : q ≤ n) : accC n net r f st tok (4 * (p + 1)) = accC n net r f st tok (4 * p + q) := by
  have := acc_skip (n := n) (net := net) (r := r) (st := st) (tok := tok) (a := 4 * p + q) (f := f) (4 - q) (fun i h1 h2 => by
    unfold cv; rw [decide_eq_false (show ¬ i % 4 < n by omega)]; simp)
  rw [← this]; congr 1; omega
theorem acc_end {n : Nat} {net : Nat → Nat} {r st tok p : Nat} {f : Nat → Nat → C4} (hn : n ≤ 4) (hp : n ≤ p) (hp2 : p ≤ n) : accC n net r f st tok 16 = accC n net r f st tok (4 * p) := by
  have := acc_skip (n := n) (net := net) (r := r) (st := st) (tok := tok) (a := 4 * p) (f := f) (16 - 4 * p) (fun i h1 h2 => by
    unfold cv; rw [decide_eq_false (show ¬ i / 4 < n by omega)]; simp)
  rw [← this]; congr 1; omega
theorem CN_tk {n : Nat} {net : Nat → Nat} {r st t2 t3 p q : Nat} (hn : n ≤ 4) (hr : r < 4) (hv : VS n st) : CN n net r st (tkR r (tokA t2 2 p q) (tokA t3 3 p q)) = CN n net r st (tokA (tkR r t2 t3) r p q) := CN_num hn hv (fun _ _ => rfl) (fun h2 => by
  rcases (by omega : r = 2 ∨ r = 3) with e | e
  · subst e; rfl
  · subst e; rfl)
/-- what a child's slot holds -/
theorem VI_at {K Al Gd Fw Mo : Nat → Nat} {s1 n : Nat} {net : Nat → Nat} {r st t2 t3 P : Nat} (h1 : 0 < n) (hn : n ≤ 4) (hr : r < 4) (hV : VI K Al Gd Fw Mo) (hs : s1 < 8192) (hp : Pst n net r r st t2 t3 P) (e : K s1 = keyF P r r) : vC (Al s1) (Gd s1) (Fw s1) (Mo s1) (CN n net r st (tkR r t2 t3)) :=
  hV s1 hs (by rw [e]; exact keyF_ne hp.1 h1) n net st t2 t3 P r h1 hn hp.2.1 hp.2.2.1 hp.2.2.2.1 hp.1 hr e.symm
theorem vC_sm {al gd fw mo n : Nat} {net : Nat → Nat} {r st tok : Nat} (h : vC al gd fw mo (CN n net r st tok)) : al < 2 ^ 60 ∧ gd < 2 ^ 60 ∧ fw ≤ 12 ∧ mo ≤ 13 := by
  have := CN_sm (n := n) (net := net) (r := r) (st := st) (tok := tok)
  obtain ⟨a, b, _, d, f1⟩ := h
  exact ⟨by rw [a]; exact this.1, by rw [b]; exact this.2.1, d, f1⟩
theorem gC_sm {al gd fw mo n : Nat} {net : Nat → Nat} {r st tok k : Nat} (hk : k ≤ 16) (h : gC al gd fw mo (accC n net r (CN n net r) st tok k)) : al < 2 ^ 60 ∧ gd < 2 ^ 60 ∧ fw ≤ 12 ∧ mo ≤ 13 := by
  have := ACC_sm (n := n) (net := net) (r := r) (st := st) (tok := tok) hk
  obtain ⟨a, b, h3, h4, h5⟩ := h
  exact ⟨by rw [a]; exact this.1, by rw [b]; exact this.2.1, by omega, by omega⟩
theorem mmin_nI {a b : Nat} (ha : a < 2 ^ 31) (hb : b < 2 ^ 31) : (if nI b < nI a then nI b else nI a) = nI (min a b) := by
  by_cases h : b < a
  · rw [if_pos ((nI_ltI hb ha).mpr h), Nat.min_eq_right (by omega)]
  · rw [if_neg (fun h2 => h ((nI_ltI hb ha).mp h2)), Nat.min_eq_left (by omega)]
theorem mmax_nI {a b : Nat} (ha : a < 2 ^ 31) (hb : b < 2 ^ 31) : (if nI a < nI b then nI b else nI a) = nI (max a b) := by
  by_cases h : a < b
  · rw [if_pos ((nI_ltI ha hb).mpr h), Nat.max_eq_right (by omega)]
  · rw [if_neg (fun h2 => h ((nI_ltI ha hb).mp h2)), Nat.max_eq_left (by omega)]
/-- the table between two questions -/
def TBt (K : Nat → Nat) (u : Nat) : Prop := (∀ j, K j < 2 ^ 63) ∧ TI K ∧ nz K ≤ u ∧ u ≤ 7685
theorem TQ_bt {n : Nat} {net : Nat → Nat} {r o u0 S : Nat} {K : Nat → Nat} {u : Nat} (h1 : 0 < n) (hn : n ≤ 4) (h : TQ n net r o u0 S K u) : TBt K u := ⟨h.1, h.2.1, h.2.2.1, TQ_u h1 hn h⟩
theorem mr_tab {E : EE} {ta tk : Nat} {K : Nat → Nat} {u : Nat} {w : va_W} (h : TBt K u) (hw : w = tW E ta tk (if u ≤ 6144 then K else fun j => if j < 8192 then 0 else K j) (if u ≤ 6144 then u else 0)) :
    ∃ (Ka : Nat → Nat) (ua : Nat), w = tW E ta tk Ka ua ∧ (∀ n net r o, TQ n net r o ua 0 Ka ua) ∧ (∀ j, j < 8192 → Ka j ≠ 0 → Ka j = K j) := by
  by_cases h6 : u ≤ 6144
  · rw [if_pos h6, if_pos h6] at hw
    exact ⟨K, u, hw, fun n net r o => TQ_new h.1 h.2.1 h.2.2.1 h6, fun _ _ _ => rfl⟩
  · rw [if_neg h6, if_neg h6] at hw
    have hz : ∀ j, j < 8192 → (if j < 8192 then 0 else K j) = 0 := fun j hj => if_pos hj
    refine ⟨_, _, hw, fun n net r o => TQ_new (fun j => ?_) (TI_0 hz) (by rw [nz_0 hz]; exact Nat.le_refl _) (by decide), fun j hj hne => absurd (hz j hj) hne⟩
    by_cases hj : j < 8192
    · rw [hz j hj]; decide
    · have : (if j < 8192 then 0 else K j) = K j := if_neg hj
      rw [this]; exact h.1 j
theorem VI_sub {K Ka Al Gd Fw Mo : Nat → Nat} (h : VI K Al Gd Fw Mo) (hs : ∀ j, j < 8192 → Ka j ≠ 0 → Ka j = K j) : VI Ka Al Gd Fw Mo := by
  intro j hj hne n net st t2 t3 P r a1 a2 a3 a4 a5 a6 a7 e
  exact h j hj (by rw [← hs j hj hne]; exact hne) n net st t2 t3 P r a1 a2 a3 a4 a5 a6 a7 (by rw [e, hs j hj hne])
