/-! ===== what a call answers, 3: copies ===== -/
def hasR (i n : Int32) (L : Nat) : Bool := decide (¬ i < 0 ∧ ¬ n < 0 ∧ i.toNatClampNeg + n.toNatClampNeg ≤ L)
theorem hasR_f1 {i n : Int32} {L : Nat} (h : i < 0) : hasR i n L = false := decide_eq_false (fun h2 => h2.1 h)
theorem hasR_f2 {i n : Int32} {L : Nat} (h : n < 0) : hasR i n L = false := decide_eq_false (fun h2 => h2.2.1 h)
theorem hasR_n {i n L : Nat} (hi : i < 2 ^ 31) (hn : n < 2 ^ 31) : hasR (nI i) (nI n) L = decide (i + n ≤ L) := by
  unfold hasR; rw [nI_clamp hi, nI_clamp hn]; simp [nI_pos hi, nI_pos hn]
def cpU (C : Nat → Int32) (a b n q : Nat) : Nat → Int32 := fun x => if b + (n - q) ≤ x ∧ x < b + n then C (a + (x - b)) else C x
theorem cpU_0 (C : Nat → Int32) (a b n : Nat) : cpU C a b n 0 = C := by funext x; unfold cpU; rw [if_neg (by omega)]
theorem cpU_n (C : Nat → Int32) (a b n : Nat) : cpU C a b n n = cpyC C a b n := by funext x; unfold cpU cpyC; simp
theorem cpU_s (C : Nat → Int32) {a b n q : Nat} (hq : q < n) (h : a < b ∨ a + n ≤ b ∨ b + n ≤ a) : upd (cpU C a b n q) (b + (n - 1 - q)) (cpU C a b n q (a + (n - 1 - q))) = cpU C a b n (q + 1) := by
  funext x; simp only [upd, cpU]
  by_cases h1 : x = b + (n - 1 - q)
  · rw [if_pos h1, if_neg (by omega), if_pos (by omega)]; congr 1; omega
  · rw [if_neg h1]
    by_cases h2 : b + (n - q) ≤ x ∧ x < b + n
    · rw [if_pos h2, if_pos (by omega)]
    · rw [if_neg h2, if_neg (by omega)]
theorem cpD_0 (C : Nat → Int32) (a b : Nat) : cpyC C a b 0 = C := by funext x; unfold cpyC; rw [if_neg (by omega)]
theorem cpD_s (C : Nat → Int32) {a b n q : Nat} (hq : q < n) (h : b ≤ a ∨ a + n ≤ b ∨ b + n ≤ a) : upd (cpyC C a b q) (b + q) (cpyC C a b q (a + q)) = cpyC C a b (q + 1) := by
  funext x; simp only [upd, cpyC]
  by_cases h1 : x = b + q
  · rw [if_pos h1, if_neg (by omega), if_pos (by omega)]; congr 1; omega
  · rw [if_neg h1]
    by_cases h2 : b ≤ x ∧ x < b + q
    · rw [if_pos h2, if_pos (by omega)]
    · rw [if_neg h2, if_neg (by omega)]
