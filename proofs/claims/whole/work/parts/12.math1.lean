/-! ===== the pure side, 1: bits, persons, calls ===== -/
/-- the nibble of a person in a state -/
def of4 (st p : Nat) : Nat := st >>> (4 * p) &&& 15
theorem of4_lt (st p : Nat) : of4 st p < 16 := Nat.lt_of_le_of_lt Nat.and_le_right (by decide)
theorem tb_1 {x k : Nat} (h : x >>> k &&& 1 = 1) : x.testBit k = true := by
  simp [Nat.testBit, Nat.and_comm, h]
theorem tb_0 {x k : Nat} (h : x >>> k &&& 1 ≠ 1) : x.testBit k = false := by
  have h2 : x >>> k &&& 1 < 2 := Nat.lt_of_le_of_lt Nat.and_le_right (by decide)
  have h3 : x >>> k &&& 1 = 0 := by omega
  simp [Nat.testBit, Nat.and_comm, h3]
theorem tb_v (x k : Nat) : x >>> k &&& 1 = (x.testBit k).toNat := by
  by_cases h : x >>> k &&& 1 = 1
  · rw [h, tb_1 h]; rfl
  · rw [tb_0 h]
    have h2 : x >>> k &&& 1 < 2 := Nat.lt_of_le_of_lt Nat.and_le_right (by decide)
    show _ = 0
    omega
/-- a number between two -/
def isIn (v a b : Int32) : Bool := decide (¬ v < a ∧ ¬ b < v)
theorem isIn_t {v a b : Int32} (h1 : ¬ v < a) (h2 : ¬ b < v) : isIn v a b = true := decide_eq_true ⟨h1, h2⟩
theorem isIn_f1 {v a b : Int32} (h1 : v < a) : isIn v a b = false := decide_eq_false (fun h => h.1 h1)
theorem isIn_f2 {v a b : Int32} (h1 : b < v) : isIn v a b = false := decide_eq_false (fun h => h.2 h1)
theorem isIn_nat {v : Int32} {b : Nat} (hb : b < 2 ^ 31) (h : isIn v (nI 0) (nI b) = true) : ∃ j : Nat, j ≤ b ∧ v = nI j := by
  obtain ⟨h1, h2⟩ := of_decide_eq_true h
  obtain ⟨j, hj, rfl⟩ := nI_of h1
  exact ⟨j, Nat.le_of_not_lt fun h => h2 ((nI_ltI hb hj).mpr h), rfl⟩
theorem nat_isIn {j b : Nat} (hb : b < 2 ^ 31) (h : j ≤ b) : isIn (nI j) (nI 0) (nI b) = true := isIn_t (fun h2 => absurd ((nI_ltI (by omega) (by decide)).mp h2) (by omega)) (fun h2 => absurd ((nI_ltI hb (by omega)).mp h2) (by omega))
/-- the bits of a set among the first k -/
def bitsN (x : Nat) : Nat → Nat
  | 0 => 0
  | k + 1 => bitsN x k + (x >>> k &&& 1)
theorem bitsN_le (x : Nat) : ∀ k, bitsN x k ≤ k
  | 0 => Nat.le_refl 0
  | k + 1 => by
    have h := bitsN_le x k
    have h2 : x >>> k &&& 1 ≤ 1 := Nat.and_le_right
    simp only [bitsN]; omega
/-- a call: both have what one of them had -/
def aft (st p q : Nat) : Nat := (st ||| (of4 st p ||| of4 st q) <<< (4 * p)) ||| (of4 st p ||| of4 st q) <<< (4 * q)
/-- tokens behind a call -/
def tokA (t rule p q : Nat) : Nat := if rule = 2 then (t &&& (1 <<< p ^^^ 4294967295)) ||| 1 <<< q else if rule = 3 then t &&& (1 <<< q ^^^ 4294967295) else t
/-- the numbers that go with a set of secrets, the first k of them -/
def numS (net : Nat → Nat) (S : Nat) : Nat → Nat
  | 0 => 0
  | q + 1 => numS net S q ||| (if S.testBit q then net q ||| 1 <<< q else 0)
abbrev numO (net : Nat → Nat) (st p : Nat) : Nat := numS net (of4 st p) 4
/-- a place among 65536 for a state and tokens -/
def plS (st tok : Nat) : Nat → Nat
  | 0 => tok
  | p + 1 => (plS st tok p <<< 3 ||| (of4 st p &&& (1 <<< p - 1))) ||| of4 st p >>> (p + 1) <<< p
def plc (st tok : Nat) : Nat := plS st tok 4 &&& 65535
theorem plc_lt (st tok : Nat) : plc st tok < 65536 := Nat.lt_of_le_of_lt Nat.and_le_right (by decide)
theorem pow_31 {x k n : Nat} (h : x < 2 ^ n) (hk : n ≤ k) : x < 2 ^ k := Nat.lt_of_lt_of_le h (Nat.pow_le_pow_right (by decide) hk)
theorem or_lt {a b n : Nat} (h1 : a < 2 ^ n) (h2 : b < 2 ^ n) : a ||| b < 2 ^ n := Nat.or_lt_two_pow h1 h2
theorem shl_lt {a n k m : Nat} (h : a < 2 ^ n) (hm : n + k ≤ m) : a <<< k < 2 ^ m := by
  rw [Nat.shiftLeft_eq]
  refine Nat.lt_of_lt_of_le (Nat.mul_lt_mul_of_pos_right h (Nat.two_pow_pos k)) ?_
  rw [← Nat.pow_add]; exact Nat.pow_le_pow_right (by decide) hm
theorem shr_le (a k : Nat) : a >>> k ≤ a := by rw [Nat.shiftRight_eq_div_pow]; exact Nat.div_le_self _ _
