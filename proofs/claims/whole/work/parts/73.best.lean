/-! ===== the best pair ===== -/
theorem acc_good {n : Nat} {net : Nat → Nat} {r st tok : Nat} {f : Nat → Nat → C4} {j : Nat} (hc : cv n net r st tok j = true) (hg : 0 < (f (nxS st j) (nxT tok r j)).2.1) : ∀ k, j < k → 0 < (accC n net r f st tok k).2.1
  | 0, h => absurd h (by omega)
  | k + 1, h => by
    simp only [accC]
    rcases Nat.lt_or_ge j k with h1 | h1
    · have ih := acc_good hc hg k h1
      split
      · simp only [addC]; omega
      · exact ih
    · have e : j = k := by omega
      subst e; rw [if_pos hc]; simp only [addC]; omega
theorem best_good {n : Nat} {net : Nat → Nat} {r st tok j : Nat} (hn : n ≤ 4) (hv : VS n st) (hj : j < 16) (h : bestB n net r st tok j = true) : 0 < (CN n net r st tok).2.1 ∧ 0 < (CN n net r st tok).2.2.1 := by
  unfold bestB at h
  simp only [Bool.and_eq_true, decide_eq_true_eq] at h
  obtain ⟨⟨h1, h2⟩, h3⟩ := h
  refine ⟨?_, by omega⟩
  have ha := acc_good (f := CN n net r) h1 h2 16 hj
  have hp := acc_pos (f := CN n net r) (fun a b => cnt_pos 12 a b) 16 ⟨j, hj, h1⟩
  rw [CN_eq hn hv, finC, if_neg (by omega)]; exact ha
theorem fewT_eq {x : C4} {a : Nat} (hx : x.2.2.1 ≤ 1000) (ha : a < 1000) (ha0 : 0 < a) : fewT x = nI (a - 1) ↔ 0 < x.2.1 ∧ x.2.2.1 + 1 = a := by
  unfold fewT
  by_cases h : x.2.1 = 0
  · rw [if_pos h]
    refine ⟨fun e => absurd e.symm ?_, fun e => absurd e.1 (by omega)⟩
    intro e
    have h2 := congrArg Int32.toInt e
    rw [nI_toInt (by omega)] at h2
    have h3 : (-9 : Int32).toInt = -9 := by decide
    omega
  · rw [if_neg h]
    refine ⟨fun e => ⟨by omega, ?_⟩, fun e => by rw [show a - 1 = x.2.2.1 by omega]⟩
    have h2 := congrArg Int32.toInt e
    rw [nI_toInt (by omega), nI_toInt (by omega)] at h2
    omega
theorem bestB_eq {n : Nat} {net : Nat → Nat} {r st t2 t3 p q : Nat} (hn : n ≤ 4) (hr : r < 4) (hv : VS n st) (hp : p < n) (hq : q < n) (hc : cv n net r st (tkR r t2 t3) (4 * p + q) = true) (h0 : 0 < (CN n net r st (tkR r t2 t3)).2.2.1) (h9 : (CN n net r st (tkR r t2 t3)).2.2.1 < 1000) :
    bestB n net r st (tkR r t2 t3) (4 * p + q) = true ↔ fewT (CN n net r (aft st p q) (tkR r (tokA t2 2 p q) (tokA t3 3 p q))) = nI ((CN n net r st (tkR r t2 t3)).2.2.1 - 1) := by
  rw [CN_tk hn hr (VS_aft hn hp hq hv), fewT_eq (CN_sm).2.2.1 h9 h0]
  unfold bestB
  have e1 : nxS st (4 * p + q) = aft st p q := by
    show aft st ((4 * p + q) / 4) ((4 * p + q) % 4) = _
    rw [show (4 * p + q) / 4 = p by omega, show (4 * p + q) % 4 = q by omega]
  have e2 : nxT (tkR r t2 t3) r (4 * p + q) = tokA (tkR r t2 t3) r p q := by
    show tokA _ r ((4 * p + q) / 4) ((4 * p + q) % 4) = _
    rw [show (4 * p + q) / 4 = p by omega, show (4 * p + q) % 4 = q by omega]
  rw [hc, e1, e2]
  simp
/-- the class's best pair -/
def bpR (n : Nat) (net : Nat → Nat) (r st tok : Nat) (x : Int32) : Prop :=
  (∃ j, j < 16 ∧ bestB n net r st tok j = true ∧ (∀ i, i < j → bestB n net r st tok i = false) ∧ x = nI j) ∨ ((∀ i, i < 16 → bestB n net r st tok i = false) ∧ x = -9)
theorem best_cv {n : Nat} {net : Nat → Nat} {r st tok j : Nat} (h : cv n net r st tok j = false) : bestB n net r st tok j = false := by unfold bestB; rw [h]; rfl
theorem best_row {n : Nat} {net : Nat → Nat} {r st tok p q : Nat} (hn : n ≤ 4) (hq : n ≤ q) (h : ∀ i, i < 4 * p + q → bestB n net r st tok i = false) : ∀ i, i < 4 * (p + 1) → bestB n net r st tok i = false := fun i hi => by
  rcases Nat.lt_or_ge i (4 * p + q) with h1 | h1
  · exact h i h1
  · exact best_cv (by unfold cv; rw [decide_eq_false (show ¬ i % 4 < n by omega)]; simp)
theorem best_end {n : Nat} {net : Nat → Nat} {r st tok p : Nat} (hp : n ≤ p) (h : ∀ i, i < 4 * p → bestB n net r st tok i = false) : ∀ i, i < 16 → bestB n net r st tok i = false := fun i hi => by
  rcases Nat.lt_or_ge i (4 * p) with h1 | h1
  · exact h i h1
  · exact best_cv (by unfold cv; rw [decide_eq_false (show ¬ i / 4 < n by omega)]; simp)
