def ntW (E : EE) (to pe nu : Nat) : va_W := [(to, .inr (2, [.int (nI pe), .int (nI nu)]))]
/-- a digit that is new -/
def dgB (pe nu : Nat) (c1 : Int32) : Bool := isIn c1 (nI 48) (nI 51) && !nu.testBit (4 * (pe - 1) + (c1 - nI 48).toNatClampNeg)
def dgN (pe nu : Nat) (c1 : Int32) : Nat := if dgB pe nu c1 = true then nu ||| 1 <<< (4 * (pe - 1) + (c1 - nI 48).toNatClampNeg) else nu
theorem isIn_dg {v : Int32} (h : isIn v (nI 48) (nI 51) = true) : ∃ j : Nat, j < 4 ∧ v = nI (48 + j) := by
  obtain ⟨h1, h2⟩ := of_decide_eq_true h
  have h0 : ¬ v < 0 := fun h3 => h1 (by
    rw [Int32.lt_iff_toInt_lt] at h3 ⊢
    rw [nI_toInt (by decide)]
    have : (0 : Int32).toInt = 0 := by decide
    omega)
  obtain ⟨j, hj, rfl⟩ := nI_of h0
  have a1 : ¬ j < 48 := fun h3 => h1 ((nI_ltI hj (by decide)).mpr h3)
  have a2 : ¬ 51 < j := fun h3 => h2 ((nI_ltI (by decide) hj).mpr h3)
  exact ⟨j - 48, by omega, by rw [show 48 + (j - 48) = j by omega]⟩
theorem and_tb {x k : Nat} : (x &&& 1 <<< k = 0) ↔ x.testBit k = false := by
  constructor
  · intro h
    have := congrArg (fun z => z.testBit k) h
    simp only [Nat.testBit_and, Nat.zero_testBit, Nat.one_shiftLeft, Nat.testBit_two_pow] at this
    simpa using this
  · intro h
    apply Nat.eq_of_testBit_eq; intro i
    rw [Nat.testBit_and, Nat.one_shiftLeft, Nat.testBit_two_pow, Nat.zero_testBit]
    by_cases e : k = i
    · subst e; rw [h]; rfl
    · rw [decide_eq_false e, Bool.and_false]
