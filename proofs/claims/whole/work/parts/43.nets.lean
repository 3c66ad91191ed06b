/-! ===== all small nets ===== -/
def cQ (pp : Nat) : Nat → Nat
  | 0 => 0
  | q + 1 => cQ pp q + (if q = pp then 0 else 1)
def vQ (x b pp : Nat) : Nat → Nat
  | 0 => 0
  | q + 1 => if q = pp then vQ x b pp q else vQ x b pp q ||| (x >>> (b + cQ pp q) &&& 1) <<< q
def bP (n : Nat) : Nat → Nat
  | 0 => 0
  | p + 1 => bP n p + cQ p n
/-- the net of a number: its choices, person by person -/
def ntC (n x p : Nat) : Nat := vQ x (bP n p) p n
theorem vQ_lt (x b pp : Nat) : ∀ k, k ≤ 4 → vQ x b pp k < 16
  | 0, _ => show 0 < 16 by decide
  | k + 1, h => by
    have ih := vQ_lt x b pp k (by omega)
    simp only [vQ]
    split
    · exact ih
    · refine or_lt (n := 4) ih (shl_lt (n := 1) ?_ (by omega))
      exact Nat.lt_of_le_of_lt Nat.and_le_right (by decide)
theorem nn6 : ∀ n, n ≤ 3 → n * (n - 1) ≤ 6 ∧ 1 <<< (n * (n - 1)) ≤ 64 := by decide
theorem isIn_1 {v : Int32} {b : Nat} (hb : b < 2 ^ 31) (h : isIn v (nI 1) (nI b) = true) : ∃ j : Nat, 1 ≤ j ∧ j ≤ b ∧ v = nI j := by
  obtain ⟨h1, h2⟩ := of_decide_eq_true h
  have h0 : ¬ v < 0 := fun h => h1 (by
    rw [Int32.lt_iff_toInt_lt] at h ⊢
    rw [nI_toInt (by decide)]
    have : (0 : Int32).toInt = 0 := by decide
    omega)
  obtain ⟨j, hj, rfl⟩ := nI_of h0
  exact ⟨j, Nat.le_of_not_lt fun h => h1 ((nI_ltI hj (by decide)).mpr h), Nat.le_of_not_lt fun h => h2 ((nI_ltI hb hj).mpr h), rfl⟩
/-! only the numbers of persons that there are count -/
theorem jQ_cong {a b : Nat → Nat} {n : Nat} (h : ∀ j, j < n → a j = b j) {pp x : Nat} (hp : pp < n) : ∀ k, jQ a pp x k = jQ b pp x k
  | 0 => rfl
  | k + 1 => by simp only [jQ]; rw [jQ_cong h hp k, h pp hp]
theorem jP_cong {a b : Nat → Nat} {n : Nat} (h : ∀ j, j < n → a j = b j) {x : Nat} : ∀ k, k ≤ n → jP a n x k = jP b n x k
  | 0, _ => rfl
  | k + 1, hk => by simp only [jP]; rw [jP_cong h k (by omega), jQ_cong h (by omega)]
theorem jA_cong {a b : Nat → Nat} {n : Nat} (h : ∀ j, j < n → a j = b j) : ∀ k, jA a n k = jA b n k
  | 0 => rfl
  | k + 1 => by simp only [jA]; rw [jA_cong h k, jP_cong h n (Nat.le_refl n)]
theorem joinM_cong {a b : Nat → Nat} {n : Nat} (h : ∀ j, j < n → a j = b j) : joinM a n = joinM b n := by unfold joinM; rw [jA_cong h]
theorem numS_cong {a b : Nat → Nat} {n S : Nat} (h : ∀ j, j < n → a j = b j) (hS : ∀ i, S.testBit i = true → i < n) : ∀ k, numS a S k = numS b S k
  | 0 => rfl
  | k + 1 => by
    simp only [numS]; rw [numS_cong h hS k]
    cases hb : S.testBit k with
    | false => rfl
    | true => rw [h k (hS k hb)]
theorem may_cong {a b : Nat → Nat} {n r st tok pp qq : Nat} (hn : n ≤ 4) (h : ∀ j, j < n → a j = b j) (hv : VS n st) (hp : pp < n) : mayM a r st tok pp qq = mayM b r st tok pp qq := by
  unfold mayM
  rw [show numO a st pp = numO b st pp from numS_cong h (fun i hi => VS_of hn hp hv hi) 4]
theorem cv_cong {a b : Nat → Nat} {n r st tok k : Nat} (hn : n ≤ 4) (h : ∀ j, j < n → a j = b j) (hv : VS n st) : cv n a r st tok k = cv n b r st tok k := by
  unfold cv
  by_cases hp : k / 4 < n
  · rw [may_cong hn h hv hp]
  · rw [decide_eq_false hp]; rfl
theorem cnt_cong {a b : Nat → Nat} {n r : Nat} (hn : n ≤ 4) (h : ∀ j, j < n → a j = b j) : ∀ d st tok, VS n st → cnt n a r d st tok = cnt n b r d st tok
  | 0, _, _, _ => rfl
  | d + 1, st, tok, hv => by
    have : ∀ k, accC n a r (cnt n a r d) st tok k = accC n b r (cnt n b r d) st tok k := fun k => by
      induction k with
      | zero => rfl
      | succ k ih =>
        simp only [accC]
        rw [cv_cong hn h hv, ih]
        by_cases hc : cv n b r st tok k = true
        · rw [if_pos hc, if_pos hc, cnt_cong hn h d _ _ (cv_ok hn hv hc).2.2.2.1]
        · rw [if_neg hc, if_neg hc]
    simp only [cnt]; rw [this]
theorem CN_cong {a b : Nat → Nat} {n r st tok : Nat} (hn : n ≤ 4) (h : ∀ j, j < n → a j = b j) (hv : VS n st) : CN n a r st tok = CN n b r st tok := cnt_cong hn h 12 st tok hv
def netsB (n r what x : Nat) : Bool := joinM (ntC n x) n && (decide (what = 3) || decide (verd (CN n (ntC n x) r (startN n) (1 <<< n - 1)) = what))
def s_nets (a1 a2 a3 : Int32) : Int32 :=
  if isIn a2 (nI 0) (nI 3) = false then -1 else if isIn a1 (nI 1) (nI 3) = false then -2 else if isIn a3 (nI 0) (nI 3) = false then -2 else
  nI (cntB (netsB a1.toNatClampNeg a2.toNatClampNeg a3.toNatClampNeg) (1 <<< (a1.toNatClampNeg * (a1.toNatClampNeg - 1))))
