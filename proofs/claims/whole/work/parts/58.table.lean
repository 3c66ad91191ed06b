/-! ===== the class's table of keys ===== -/
def tW (E : EE) (ta tk : Nat) (K : Nat → Nat) (u : Nat) : va_W := [(ta, .inr (6, [.ref tk, .int (nI u)])), (tk, .inl (E.2 2, 8192, .inr (.inl (fun j => lN (K j)))))]
def hmK (y : Nat) : Nat := (y * 11400714819323198485 % 18446744073709551616) >>> 51
def slJ (y i : Nat) : Nat := hmK y + i &&& 8191
def slB (K : Nat → Nat) (y : Nat) : Nat → Bool := fun i => decide (K (slJ y i) = y) || decide (K (slJ y i) = 0)
def slt (K : Nat → Nat) (y : Nat) : Nat := slJ y (fF (slB K y) 8192)
theorem hmK_lt (y : Nat) : hmK y < 8192 := by
  unfold hmK; rw [Nat.shiftRight_eq_div_pow]
  have := Nat.mod_lt (y * 11400714819323198485) (show 0 < 18446744073709551616 by decide)
  omega
theorem slJ_lt (y i : Nat) : slJ y i < 8192 := Nat.lt_of_le_of_lt Nat.and_le_right (by decide)
theorem slJ_mod (y i : Nat) : slJ y i = (hmK y + i) % 8192 := by
  unfold slJ; rw [show (8191 : Nat) = 2 ^ 13 - 1 from rfl, Nat.and_two_pow_sub_one_eq_mod]
theorem slt_lt (K : Nat → Nat) (y : Nat) : slt K y < 8192 := slJ_lt _ _
/-- there is a place for the key -/
def rmK (K : Nat → Nat) (y : Nat) : Prop := fF (slB K y) 8192 < 8192
theorem slt_or {K : Nat → Nat} {y : Nat} (h : rmK K y) : K (slt K y) = y ∨ K (slt K y) = 0 := by
  have := (fF_spec h).1
  simp only [slB, Bool.or_eq_true, decide_eq_true_eq] at this
  exact this
/-- a free slot makes a place -/
theorem rmK_free {K : Nat → Nat} {y j : Nat} (hj : j < 8192) (h0 : K j = 0) : rmK K y := by
  have hlt := hmK_lt y
  have e : slJ y ((j + 8192 - hmK y) % 8192) = j := by rw [slJ_mod]; omega
  exact fF_found (i := (j + 8192 - hmK y) % 8192) (Nat.mod_lt _ (by decide)) (by simp [slB, e, h0])
def fndT (K : Nat → Nat) (y : Nat) : Int32 := if K (slt K y) = y then nI (slt K y) else -1
def fW (E : EE) (ar nn : Nat) (K : Nat → Nat) : va_W := [(ar, .inl (E.2 2, nn, .inr (.inl (fun j => lN (K j)))))]
