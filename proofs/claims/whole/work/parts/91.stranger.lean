/-- a digit of nobody -/
def sgB (C : Nat → Int32) (f1 pe : Nat) : Nat → Bool := fun k => isIn (C (f1 + k) - nI 48) (nI pe) (nI 3)
def sgT (C : Nat → Int32) (f1 pe n1 : Nat) : Int32 := if fF (sgB C f1 pe) n1 < n1 then nI (fF (sgB C f1 pe) n1) else -1
theorem sg_no {v : Int32} {pe : Nat} (hp : pe ≤ 4) (h : isIn v (nI 48) (nI 51) = false) : isIn (v - nI 48) (nI pe) (nI 3) = false := by
  cases h2 : isIn (v - nI 48) (nI pe) (nI 3) with
  | false => rfl
  | true =>
    rw [← dg_sub] at h
    obtain ⟨h3, h4⟩ := of_decide_eq_true h2
    have h5 : v - nI 48 < nI 0 := Classical.byContradiction fun h6 => by rw [isIn_t h6 h4] at h; cases h
    exact absurd (by rw [Int32.lt_iff_toInt_lt, nI_toInt (by omega)]; rw [Int32.lt_iff_toInt_lt, nI_toInt (by decide)] at h5; omega) h3
theorem sg_lo {v : Int32} {pe : Nat} (h : v - nI 48 < nI pe) : isIn (v - nI 48) (nI pe) (nI 3) = false := isIn_f1 h
theorem sg_hi {v : Int32} {pe : Nat} (hd : isIn v (nI 48) (nI 51) = true) (h : ¬ v - nI 48 < nI pe) : isIn (v - nI 48) (nI pe) (nI 3) = true := by
  rw [← dg_sub] at hd
  exact isIn_t h (of_decide_eq_true hd).2
