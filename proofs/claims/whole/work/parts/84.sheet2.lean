def atS (C : Nat → Int32) (L : Nat) (v1 : Int32) : Int32 := if hasR v1 (nI 1) L = true then C v1.toNatClampNeg else 0
theorem hasR_1 {v1 : Int32} {L : Nat} (h : hasR v1 (nI 1) L = true) : ∃ j : Nat, j < L ∧ j < 2 ^ 31 ∧ v1 = nI j := by
  obtain ⟨h1, _, h3⟩ := of_decide_eq_true h
  obtain ⟨j, hj, rfl⟩ := nI_of h1
  rw [nI_clamp hj, nI_clamp (by decide)] at h3
  exact ⟨j, by omega, hj, rfl⟩
