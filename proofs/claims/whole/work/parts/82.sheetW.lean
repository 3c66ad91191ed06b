/-- the world of a sheet -/
def shW (E : EE) (so sa : Nat) (ln : Int32) (L : Nat) (C : Nat → Int32) : va_W := [(so, .inr (5, [.int ln, .ref sa])), (sa, .inl (E.2 1, L, .inl C))]
def trW (E : EE) (to : Nat) (tr : Int32) : va_W := [(to, .inr (7, [.int tr]))]
theorem sub_neg {L n i : Nat} (hL : L ≤ 60) (hn : n < 2 ^ 31) (hi : i < 2 ^ 31) (h : L < n) : nI L - nI n < nI i := by
  have e : nI L - nI n = -(nI (n - L)) := by
    rw [show nI n = nI (L + (n - L)) by rw [show L + (n - L) = n by omega], ← nI_add]
    generalize nI L = a
    generalize nI (n - L) = b
    rw [← Int32.sub_sub, Int32.sub_self, Int32.zero_sub]
  rw [e, Int32.lt_iff_toInt_lt, nI_toInt hi, Int32.toInt_neg, nI_toInt (show n - L < 2 ^ 31 by omega)]
  have : (-((n - L : Nat) : Int)).bmod (2 ^ 32) = -((n - L : Nat) : Int) := by
    rw [Int.bmod_eq_of_le (by omega) (by omega)]
  rw [this]; omega
