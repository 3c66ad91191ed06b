/-! ===== the position of a fresh net ===== -/
def NX (n : Nat) (net : Nat → Nat) (x : Nat) : Prop := x < 65536 ∧ ∀ p, p < 4 → prt x p = if p < n then net p ||| 1 <<< p else 0
theorem frS_tb {n x j : Nat} : ∀ k, k ≤ 4 → (frS n x k).testBit j = ((decide (40 ≤ j) && n.testBit (j - 40)) || (decide (16 ≤ j) && x.testBit (j - 16)) || decide (j < 16 ∧ j % 5 = 0 ∧ j / 5 < k) || decide (32 ≤ j ∧ j < 32 + k) || decide (36 ≤ j ∧ j < 36 + k))
  | 0, _ => by
    simp only [frS]
    rw [Nat.testBit_or, Nat.testBit_shiftLeft, Nat.testBit_shiftLeft, decide_eq_false (show ¬ (j < 16 ∧ j % 5 = 0 ∧ j / 5 < 0) by omega), decide_eq_false (show ¬ (32 ≤ j ∧ j < 32 + 0) by omega), decide_eq_false (show ¬ (36 ≤ j ∧ j < 36 + 0) by omega), Bool.or_false, Bool.or_false, Bool.or_false]
  | k + 1, hk => by
    simp only [frS]
    rw [Nat.testBit_or, frS_tb k (by omega), Nat.testBit_or, Nat.testBit_or, Nat.one_shiftLeft, Nat.one_shiftLeft, Nat.one_shiftLeft, Nat.testBit_two_pow, Nat.testBit_two_pow, Nat.testBit_two_pow]
    have e1 : decide (j < 16 ∧ j % 5 = 0 ∧ j / 5 < k + 1) = (decide (j < 16 ∧ j % 5 = 0 ∧ j / 5 < k) || decide (4 * k + k = j)) := by
      rw [← Bool.decide_or]; exact decide_eq_decide.mpr (by omega)
    have e2 : decide (32 ≤ j ∧ j < 32 + (k + 1)) = (decide (32 ≤ j ∧ j < 32 + k) || decide (32 + k = j)) := by
      rw [← Bool.decide_or]; exact decide_eq_decide.mpr (by omega)
    have e3 : decide (36 ≤ j ∧ j < 36 + (k + 1)) = (decide (36 ≤ j ∧ j < 36 + k) || decide (36 + k = j)) := by
      rw [← Bool.decide_or]; exact decide_eq_decide.mpr (by omega)
    rw [e1, e2, e3]
    generalize (decide (40 ≤ j) && n.testBit (j - 40)) = b1
    generalize (decide (16 ≤ j) && x.testBit (j - 16)) = b2
    generalize decide (j < 16 ∧ j % 5 = 0 ∧ j / 5 < k) = b3
    generalize decide (32 ≤ j ∧ j < 32 + k) = b4
    generalize decide (36 ≤ j ∧ j < 36 + k) = b5
    generalize decide (4 * k + k = j) = b6
    generalize decide (32 + k = j) = b7
    generalize decide (36 + k = j) = b8
    revert b1 b2 b3 b4 b5 b6 b7 b8
    decide
theorem start_of : ∀ n, n ≤ 4 → ∀ p, p < 4 → of4 (startN n) p = if p < n then 1 <<< p else 0 := by decide +kernel
theorem numS_one {net : Nat → Nat} {p : Nat} (hp : p < 4) : numS net (1 <<< p) 4 = net p ||| 1 <<< p := by
  rcases (by omega : p = 0 ∨ p = 1 ∨ p = 2 ∨ p = 3) with rfl | rfl | rfl | rfl
  · show (((0 ||| (net 0 ||| 1 <<< 0)) ||| 0) ||| 0) ||| 0 = _
    simp
  · show (((0 ||| 0) ||| (net 1 ||| 1 <<< 1)) ||| 0) ||| 0 = _
    simp
  · show (((0 ||| 0) ||| 0) ||| (net 2 ||| 1 <<< 2)) ||| 0 = _
    simp
  · show (((0 ||| 0) ||| 0) ||| 0) ||| (net 3 ||| 1 <<< 3) = _
    simp
theorem full_tb : ∀ n, n ≤ 4 → ∀ p, p < 4 → (1 <<< n - 1 : Nat).testBit p = decide (p < n) := by decide +kernel
theorem n_big : ∀ n, n ≤ 4 → n < 2 ^ 3 := by decide
theorem Ps_first {n : Nat} {net : Nat → Nat} {x : Nat} (hn : n ≤ 4) (h : NX n net x) : Ps n net (startN n) (1 <<< n - 1) (1 <<< n - 1) (frS n x n) := by
  have xb : ∀ i, 16 ≤ i → x.testBit i = false := fun i hi => tb_big h.1 hi
  have nb : ∀ i, 3 ≤ i → n.testBit i = false := fun i hi => Nat.testBit_lt_two_pow (Nat.lt_of_lt_of_le (n_big n hn) (Nat.pow_le_pow_right (by decide) hi))
  refine ⟨lt43 fun j hj => ?_, ?_, fun p hp => ?_, fun p hp => ?_, fun p hp => ?_, fun p hp => ?_⟩
  · rw [frS_tb n hn, nb _ (by omega), xb _ (by omega), decide_eq_false (show ¬ (j < 16 ∧ j % 5 = 0 ∧ j / 5 < n) by omega), decide_eq_false (show ¬ (32 ≤ j ∧ j < 32 + n) by omega), decide_eq_false (show ¬ (36 ≤ j ∧ j < 36 + n) by omega)]; simp
  · apply Nat.eq_of_testBit_eq; intro i
    rw [pN_tb, frS_tb n hn, show 40 + i - 40 = i by omega, xb _ (by omega), decide_eq_true (show 40 ≤ 40 + i by omega), decide_eq_false (show ¬ (40 + i < 16 ∧ (40 + i) % 5 = 0 ∧ (40 + i) / 5 < n) by omega), decide_eq_false (show ¬ (32 ≤ 40 + i ∧ 40 + i < 32 + n) by omega), decide_eq_false (show ¬ (36 ≤ 40 + i ∧ 40 + i < 36 + n) by omega)]; simp
  · refine eq4 (of4_lt _ _) (of4_lt _ _) (fun i hi => ?_)
    rw [of4_tb, frS_tb n hn, start_of n hn p hp, decide_eq_true hi, decide_eq_false (show ¬ 40 ≤ 4 * p + i by omega), decide_eq_false (show ¬ 16 ≤ 4 * p + i by omega), decide_eq_false (show ¬ (32 ≤ 4 * p + i ∧ 4 * p + i < 32 + n) by omega), decide_eq_false (show ¬ (36 ≤ 4 * p + i ∧ 4 * p + i < 36 + n) by omega)]
    by_cases hpn : p < n
    · rw [if_pos hpn, Nat.one_shiftLeft, Nat.testBit_two_pow]
      simp only [Bool.false_and, Bool.false_or, Bool.true_and, Bool.or_false]
      exact decide_eq_decide.mpr (by omega)
    · rw [if_neg hpn, Nat.zero_testBit, decide_eq_false (show ¬ (4 * p + i < 16 ∧ (4 * p + i) % 5 = 0 ∧ (4 * p + i) / 5 < n) by omega)]; rfl
  · have e : nO (frS n x n) p = prt x p := by
      refine eq4 (nO_lt _ _) (prt_lt _ _) (fun i hi => ?_)
      have e2 : (prt x p).testBit i = x.testBit (4 * p + i) := by
        have := of4_tb x p i
        rw [decide_eq_true hi, Bool.true_and] at this
        exact this
      rw [nO_tb, frS_tb n hn, e2, decide_eq_true hi, decide_eq_false (show ¬ 40 ≤ 16 + 4 * p + i by omega), decide_eq_true (show 16 ≤ 16 + 4 * p + i by omega), show 16 + 4 * p + i - 16 = 4 * p + i by omega, decide_eq_false (show ¬ (16 + 4 * p + i < 16 ∧ (16 + 4 * p + i) % 5 = 0 ∧ (16 + 4 * p + i) / 5 < n) by omega), decide_eq_false (show ¬ (32 ≤ 16 + 4 * p + i ∧ 16 + 4 * p + i < 32 + n) by omega), decide_eq_false (show ¬ (36 ≤ 16 + 4 * p + i ∧ 16 + 4 * p + i < 36 + n) by omega)]; simp
    rw [e, h.2 p hp]
    by_cases hpn : p < n
    · rw [if_pos hpn, if_pos hpn]
      show _ = numS net (of4 (startN n) p) 4
      rw [start_of n hn p hp, if_pos hpn, numS_one hp]
    · rw [if_neg hpn, if_neg hpn]
  · rw [frS_tb n hn, full_tb n hn p hp, decide_eq_false (show ¬ 40 ≤ 32 + p by omega), xb _ (by omega), decide_eq_false (show ¬ (32 + p < 16 ∧ (32 + p) % 5 = 0 ∧ (32 + p) / 5 < n) by omega), decide_eq_false (show ¬ (36 ≤ 32 + p ∧ 32 + p < 36 + n) by omega)]
    simp
  · rw [frS_tb n hn, full_tb n hn p hp, decide_eq_false (show ¬ 40 ≤ 36 + p by omega), xb _ (by omega), decide_eq_false (show ¬ (36 + p < 16 ∧ (36 + p) % 5 = 0 ∧ (36 + p) / 5 < n) by omega), decide_eq_false (show ¬ (32 ≤ 36 + p ∧ 36 + p < 32 + n) by omega)]
    simp
