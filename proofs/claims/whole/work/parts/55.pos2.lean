theorem eS_lt {n : Nat} (h : n ≤ 4) : 1 <<< n - 1 < 16 := by
  have : ∀ n, n ≤ 4 → 1 <<< n - 1 < 16 := by decide
  exact this n h
theorem wmS_lt (P oth sec : Nat) : ∀ k, k ≤ 4 → wmS P oth sec k < 16
  | 0, _ => show 0 < 16 by decide
  | k + 1, h => by
    have ih := wmS_lt P oth sec k (by omega)
    simp only [wmS]; split
    · exact or_lt (n := 4) ih (one_shl (by omega))
    · exact ih
theorem whM_lt {P : Nat} (h : pN P ≤ 4) (r p : Nat) : whM P r p < 16 := by
  unfold whM
  split
  · decide
  · split
    · exact Nat.lt_of_le_of_lt Nat.and_le_left (Nat.lt_of_le_of_lt Nat.and_le_left (nO_lt P p))
    · exact wmS_lt P _ _ _ h
def sgt (w p q P : Nat) : Nat := if w = p ∨ w = q then (of4 P w) <<< 4 ||| (4 * p + q) else 0
theorem sgt_lt {p q : Nat} (h1 : p < 4) (h2 : q < 4) (w P : Nat) : sgt w p q P < 256 := by
  unfold sgt
  split
  · refine or_lt (n := 8) ?_ (by omega)
    rw [Nat.shiftLeft_eq]; have := of4_lt P w; omega
  · decide
theorem in_ge {v : Int32} {b : Nat} (hb : b + 1 < 2 ^ 31) : (nI (b + 1) ≤ v) ↔ nI b < v := by
  rw [Int32.le_iff_toInt_le, Int32.lt_iff_toInt_lt, nI_toInt hb, nI_toInt (by omega : b < 2 ^ 31)]; omega
theorem isIn_t2 {v a : Int32} {b : Nat} (hb : b + 1 < 2 ^ 31) (h1 : ¬ v < a) (h2 : ¬ nI (b + 1) ≤ v) : isIn v a (nI b) = true := isIn_t h1 (fun h => h2 ((in_ge hb).mpr h))
theorem isIn_f3 {v a : Int32} {b : Nat} (hb : b + 1 < 2 ^ 31) (h2 : nI (b + 1) ≤ v) : isIn v a (nI b) = false := isIn_f2 ((in_ge hb).mp h2)
