/-- a net's numbers anew, the first k persons' -/
def netU (old num : Nat → Nat) (k : Nat) : Nat → Nat := fun p => if p < k then num p else old p
theorem netU_0 (old num : Nat → Nat) : netU old num 0 = old := by funext p; unfold netU; rw [if_neg (by omega)]
theorem netU_s (old num : Nat → Nat) (k : Nat) : va_up (netU old num k) k (num k) = netU old num (k + 1) := by
  funext p; simp only [va_up, netU]
  by_cases h : p = k
  · rw [if_pos h, if_pos (by omega), h]
  · rw [if_neg h]
    by_cases h2 : p < k
    · rw [if_pos h2, if_pos (by omega)]
    · rw [if_neg h2, if_neg (by omega)]
theorem netU_eq {old num num2 : Nat → Nat} {k : Nat} (h : ∀ p, p < k → num p = num2 p) : netU old num k = netU old num2 k := by
  funext p; unfold netU; split
  · rename_i h2; exact h p h2
  · rfl
