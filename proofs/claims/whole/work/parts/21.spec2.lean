/-! ===== what a call answers, 2: calls, telling, sheets ===== -/
def callOK (n k : Nat) (net cP cQ : Nat → Nat) (pp qq : Int32) : Bool :=
  isP pp n && isP qq n && !(decide (pp.toNatClampNeg = qq.toNatClampNeg)) && (numO net (stS n cP cQ k) pp.toNatClampNeg).testBit qq.toNatClampNeg && decide (k ≠ 12)
def s_call (n k : Nat) (net cP cQ : Nat → Nat) (pp qq : Int32) : Int32 :=
  if isP pp n = false then -1 else if isP qq n = false then -1 else if pp.toNatClampNeg = qq.toNatClampNeg then -2 else
  if (numO net (stS n cP cQ k) pp.toNatClampNeg).testBit qq.toNatClampNeg = false then -3 else if k = 12 then -4 else nI k
def newsN (n : Nat) (cP cQ : Nat → Nat) (c : Nat) : Nat := bitsN (lrn n cP cQ c (cP c)) 16 + bitsN (lrn n cP cQ c (cQ c)) 16
def tellV (n : Nat) (cP cQ : Nat → Nat) (c : Nat) : Nat :=
  if knd n cP cQ c = 1 then 10 * cP c + cQ c + 100 * newsN n cP cQ c else if knd n cP cQ c = 2 then 2 * (10 * cP c + cQ c) + 100 * newsN n cP cQ c else 10 * cP c + cQ c
def tellT (tr : Int32) (kd : Nat) : Int32 :=
  if kd = 1 then nI 31 * (nI 31 * tr + nI 2) + nI 1 else if kd = 2 then nI 31 * (nI 31 * (nI 31 * (nI 31 * tr + nI 3) + nI 2) + nI 1) + nI 1 else nI 31 * tr + nI 1
/-- an index among L cells -/
theorem isIn_len {v : Int32} {L : Nat} (hL : L ≤ 60) (h : isIn v (nI 0) (nI L - nI 1) = true) : ∃ j : Nat, j < L ∧ v = nI j := by
  rcases Nat.eq_zero_or_pos L with rfl | h0
  · obtain ⟨h1, h2⟩ := of_decide_eq_true h
    exfalso
    rw [show nI 0 - nI 1 = -1 by decide] at h2
    rw [nI_0, Int32.lt_iff_toInt_lt] at h1
    rw [Int32.lt_iff_toInt_lt] at h2
    have e1 : (0 : Int32).toInt = 0 := by decide
    have e2 : (-1 : Int32).toInt = -1 := by decide
    omega
  · rw [pk_sub h0] at h
    obtain ⟨j, hj, rfl⟩ := isIn_nat (by omega) h
    exact ⟨j, by omega, rfl⟩
theorem len_isIn {j L : Nat} (hL : L ≤ 60) (h : j < L) : isIn (nI j) (nI 0) (nI L - nI 1) = true := by
  rw [pk_sub (by omega : 1 ≤ L)]
  exact nat_isIn (by omega) (by omega)
/-- what comes to a cell of a lane -/
def cutL (ln v : Int32) : Int32 := if ln = 0 then v.toInt8.toInt32 else if ln = nI 1 then v.toInt16.toInt32 else v
/-- k's sixty cells, the first i of them nought -/
def zfill (C : Nat → Int32) (k i : Nat) : Nat → Int32 := fun j => if 60 * k ≤ j ∧ j < 60 * k + i then 0 else C j
theorem zfill_0 (C : Nat → Int32) (k : Nat) : zfill C k 0 = C := by
  funext j; unfold zfill; rw [if_neg (by omega)]
theorem zfill_s (C : Nat → Int32) (k i : Nat) : upd (zfill C k i) (60 * k + i) (nI 0) = zfill C k (i + 1) := by
  funext j; simp only [upd, zfill]
  by_cases h : j = 60 * k + i
  · rw [if_pos h, if_pos (by omega)]; rfl
  · rw [if_neg h]
    by_cases h2 : 60 * k ≤ j ∧ j < 60 * k + i
    · rw [if_pos h2, if_pos (by omega)]
    · rw [if_neg h2, if_neg (by omega)]
/-- n cells from i on of a sheet k go to the sheet o from j on, as they were -/
def cpyC (C : Nat → Int32) (a b n : Nat) : Nat → Int32 := fun j => if b ≤ j ∧ j < b + n then C (a + (j - b)) else C j
theorem i32_nlt {a b : Int32} (h : a ≤ b) : ¬ b < a := fun h2 => by
  rw [Int32.le_iff_toInt_le] at h; rw [Int32.lt_iff_toInt_lt] at h2; omega
theorem i32_lt {a b : Int32} (h : ¬ a ≤ b) : b < a := by
  rw [Int32.le_iff_toInt_le] at h; rw [Int32.lt_iff_toInt_lt]; omega
