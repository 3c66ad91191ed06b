/-! ===== the pure side, 3: the check's state ===== -/
def mW (E : EE) (ad : Nat → Nat) (lk : Nat) (tr : Int32) (N : Nat → Nat) (X : Nat → Nat → Int32) (F G : Nat → Nat → Nat) : va_W :=
  [(ad 0, .inr (10, [.int (nI (N 0)), .int tr, .ref (ad 2), .ref (ad 3), .ref (ad 4), .int (nI (N 5)), .ref (ad 6), .ref (ad 7), .int (nI (N 8)), .int (nI (N 9)), .ref (ad 10), .ref (ad 11), .ref (ad 12), .ref (ad 13), .ref (ad 14), .ref (ad 15), .ref (ad 16), .int (nI (N 17)), .ref (ad 18), .ref (ad 19), .ref (ad 20), .ref lk, .int (nI (N 22)), .int (nI (N 23)), .ref (ad 24), .ref (ad 25), .int (nI (N 26)), .int (nI (N 27)), .ref (ad 28), .ref (ad 29)])),
   (ad 2, .inl (E.2 1, 4, .inl (X 2))), (ad 3, .inl (E.2 1, 4, .inl (fun j => nI (F 3 j)))), (ad 4, .inl (E.2 1, 240, .inl (X 4))), (ad 6, .inl (E.2 1, 4, .inl (fun j => nI (F 6 j)))), (ad 7, .inl (E.2 1, 4, .inl (fun j => nI (F 7 j)))),
   (ad 10, .inl (E.2 1, 12, .inl (fun j => nI (F 10 j)))), (ad 11, .inl (E.2 1, 12, .inl (fun j => nI (F 11 j)))), (ad 12, .inl (E.2 1, 65536, .inl (fun j => nI (F 12 j)))), (ad 13, .inl (E.2 2, 65536, .inr (.inl (fun j => lN (G 13 j))))), (ad 14, .inl (E.2 2, 65536, .inr (.inl (fun j => lN (G 14 j))))),
   (ad 15, .inl (E.2 1, 65536, .inl (fun j => nI (F 15 j)))), (ad 16, .inl (E.2 1, 65536, .inl (X 16))), (ad 18, .inl (E.2 1, 16, .inl (fun j => nI (F 18 j)))), (ad 19, .inl (E.2 1, 16, .inl (fun j => nI (F 19 j)))), (ad 20, .inl (E.2 1, 16, .inl (fun j => nI (F 20 j)))),
   (ad 24, .inl (E.2 1, 4, .inl (fun j => nI (F 24 j)))), (ad 25, .inl (E.2 1, 4, .inl (fun j => nI (F 25 j)))), (ad 28, .inl (E.2 1, 4, .inl (fun j => nI (F 28 j)))), (ad 29, .inl (E.2 1, 65536, .inl (fun j => nI (F 29 j))))]
/-- what is always so of the check's state: persons, calls, who rang whom, the net -/
def MOK (N : Nat → Nat) (F : Nat → Nat → Nat) : Prop := N 5 ≤ 4 ∧ N 9 ≤ 12 ∧ (∀ c, F 10 c < 4) ∧ (∀ c, F 11 c < 4) ∧ (∀ j, F 6 j < 16)
def isP (v : Int32) (n : Nat) : Bool := decide (¬ v < 0 ∧ ¬ nI n ≤ v)
theorem isP_t {v : Int32} {n : Nat} (h1 : ¬ v < 0) (h2 : ¬ nI n ≤ v) : isP v n = true := decide_eq_true ⟨h1, h2⟩
theorem isP_f1 {v : Int32} {n : Nat} (h1 : v < 0) : isP v n = false := decide_eq_false (fun h => h.1 h1)
theorem isP_f2 {v : Int32} {n : Nat} (h1 : nI n ≤ v) : isP v n = false := decide_eq_false (fun h => h.2 h1)
theorem isP_nat {v : Int32} {n : Nat} (hn : n < 2 ^ 31) (h : isP v n = true) : ∃ j : Nat, j < n ∧ v = nI j := by
  obtain ⟨h1, h2⟩ := of_decide_eq_true h
  obtain ⟨j, hj, rfl⟩ := nI_of h1
  exact ⟨j, Nat.lt_of_not_le fun h => h2 ((nI_leI hn hj).mpr h), rfl⟩
theorem nat_isP {j n : Nat} (hn : n < 2 ^ 31) (h : j < n) : isP (nI j) n = true := isP_t (nI_pos (by omega)) (fun h2 => absurd ((nI_leI hn (by omega)).mp h2) (by omega))
def startN (n : Nat) : Nat := 33825 &&& (1 <<< (4 * n) - 1)
theorem startN_lt (n : Nat) : startN n < 65536 := Nat.lt_of_le_of_lt Nat.and_le_left (by decide)
theorem shl_16 {n : Nat} (h : n ≤ 4) : 1 ≤ 1 <<< (4 * n) ∧ 1 <<< (4 * n) ≤ 65536 := by
  rcases (by omega : n = 0 ∨ n = 1 ∨ n = 2 ∨ n = 3 ∨ n = 4) with rfl | rfl | rfl | rfl | rfl <;> decide
/-- the state behind k calls -/
def stS (n : Nat) (cP cQ : Nat → Nat) : Nat → Nat
  | 0 => startN n
  | c + 1 => aft (stS n cP cQ c) (cP c) (cQ c)
theorem stS_lt {n : Nat} {cP cQ : Nat → Nat} (h1 : ∀ c, cP c < 4) (h2 : ∀ c, cQ c < 4) : ∀ k, stS n cP cQ k < 65536
  | 0 => startN_lt n
  | k + 1 => aft_lt (stS_lt h1 h2 k) (h1 k) (h2 k)
/-- the tokens of a rule behind k calls -/
def tokS (n r : Nat) (cP cQ : Nat → Nat) : Nat → Nat
  | 0 => 1 <<< n - 1
  | c + 1 => tokA (tokS n r cP cQ c) r (cP c) (cQ c)
theorem tokS_lt {n r : Nat} {cP cQ : Nat → Nat} (hn : n ≤ 4) (h2 : ∀ c, cQ c < 4) : ∀ k, tokS n r cP cQ k < 16
  | 0 => by have := shl_le4 hn; show 1 <<< n - 1 < 16; omega
  | k + 1 => tokA_lt (tokS_lt hn h2 k) (h2 k)
def expM (st n : Nat) : Bool := decide (∀ p, p < n → of4 st p = 1 <<< n - 1)
def lrn (n : Nat) (cP cQ : Nat → Nat) (c who : Nat) : Nat := of4 (stS n cP cQ (c + 1)) who &&& (of4 (stS n cP cQ c) who ^^^ 4294967295)
theorem lrn_lt (n : Nat) (cP cQ : Nat → Nat) (c who : Nat) : lrn n cP cQ c who < 16 := Nat.lt_of_le_of_lt Nat.and_le_left (of4_lt _ _)
def knd (n : Nat) (cP cQ : Nat → Nat) (c : Nat) : Nat :=
  if bitsN (lrn n cP cQ c (cP c)) 16 + bitsN (lrn n cP cQ c (cQ c)) 16 = 0 then 0 else if of4 (stS n cP cQ (c + 1)) (cP c) = 1 <<< n - 1 then 2 else 1
theorem knd_le (n : Nat) (cP cQ : Nat → Nat) (c : Nat) : knd n cP cQ c ≤ 2 := by
  unfold knd; split
  · decide
  · split <;> decide
/-- whom a person may ring, the first k -/
def maySet (net : Nat → Nat) (r st tok pp : Nat) : Nat → Nat
  | 0 => 0
  | q + 1 => maySet net r st tok pp q ||| (if mayM net r st tok pp q then 1 <<< q else 0)
theorem maySet_lt (net : Nat → Nat) (r st tok pp : Nat) : ∀ k, k ≤ 4 → maySet net r st tok pp k < 16
  | 0, _ => show 0 < 16 by decide
  | k + 1, h => by
    have ih := maySet_lt net r st tok pp k (by omega)
    simp only [maySet]
    refine or_lt (n := 4) ih ?_
    split
    · exact one_shl (by omega)
    · decide
/-- how many experts, and numbers, among the first k -/
def expK (st n : Nat) : Nat → Nat
  | 0 => 0
  | p + 1 => expK st n p + (if of4 st p = 1 <<< n - 1 then 1 else 0)
def numK (net : Nat → Nat) : Nat → Nat
  | 0 => 0
  | p + 1 => numK net p + bitsN (net p) 16
