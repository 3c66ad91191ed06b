/-! ===== a net as the class has it, and as the check has it ===== -/
/-- a person's own bit put among three others -/
def ins (p v : Nat) : Nat := ((v &&& (1 <<< p - 1)) ||| 1 <<< p) ||| (v >>> p) <<< (p + 1)
theorem ins_cod : ∀ p, p < 4 → ∀ s, s < 16 → s.testBit p = true → ins p (cod p s) = s := by decide +kernel
theorem cod_n0 : ∀ n, n < 5 → ∀ p, p < 4 → ∀ s, s < 16 → (!(decide (p < n)) || !(decide (s < 2 ^ n)) || !(s.testBit p) || decide (cod p s < 2 ^ (n - 1))) = true := by decide +kernel
theorem cod_n {n p s : Nat} (hn : n ≤ 4) (hp : p < n) (hs : s < 2 ^ n) (hb : s.testBit p = true) : cod p s < 2 ^ (n - 1) := by
  have h4 : 2 ^ n ≤ 2 ^ 4 := Nat.pow_le_pow_right (by decide) hn
  have h := cod_n0 n (by omega) p (by omega) s (by omega)
  rw [decide_eq_true hp, decide_eq_true hs, hb] at h
  simpa using h
abbrev jn (x : Nat) : Nat → Nat := fun p => prt x p ^^^ 1 <<< p
def jx (a b c d : Nat) : Nat := a + 16 * b + 256 * c + 4096 * d
theorem jo_1 : joC 1 (jx (ins 0 0) 0 0 0) = joinM (jn (jx (ins 0 0) 0 0 0)) 1 := by decide +kernel
theorem jo_2 : ∀ a, a < 2 → ∀ b, b < 2 → joC 2 (jx (ins 0 a) (ins 1 b) 0 0) = joinM (jn (jx (ins 0 a) (ins 1 b) 0 0)) 2 := by decide +kernel
theorem jo_3 : ∀ a, a < 4 → ∀ b, b < 4 → ∀ c, c < 4 → joC 3 (jx (ins 0 a) (ins 1 b) (ins 2 c) 0) = joinM (jn (jx (ins 0 a) (ins 1 b) (ins 2 c) 0)) 3 := by decide +kernel
theorem jo_4_0_0 : ∀ b, b < 4 → ∀ c, c < 8 → ∀ d, d < 8 → joC 4 (jx (ins 0 0) (ins 1 (b + 0)) (ins 2 c) (ins 3 d)) = joinM (jn (jx (ins 0 0) (ins 1 (b + 0)) (ins 2 c) (ins 3 d))) 4 := by decide +kernel
theorem jo_4_0_1 : ∀ b, b < 4 → ∀ c, c < 8 → ∀ d, d < 8 → joC 4 (jx (ins 0 0) (ins 1 (b + 4)) (ins 2 c) (ins 3 d)) = joinM (jn (jx (ins 0 0) (ins 1 (b + 4)) (ins 2 c) (ins 3 d))) 4 := by decide +kernel
theorem jo_4_1_0 : ∀ b, b < 4 → ∀ c, c < 8 → ∀ d, d < 8 → joC 4 (jx (ins 0 1) (ins 1 (b + 0)) (ins 2 c) (ins 3 d)) = joinM (jn (jx (ins 0 1) (ins 1 (b + 0)) (ins 2 c) (ins 3 d))) 4 := by decide +kernel
theorem jo_4_1_1 : ∀ b, b < 4 → ∀ c, c < 8 → ∀ d, d < 8 → joC 4 (jx (ins 0 1) (ins 1 (b + 4)) (ins 2 c) (ins 3 d)) = joinM (jn (jx (ins 0 1) (ins 1 (b + 4)) (ins 2 c) (ins 3 d))) 4 := by decide +kernel
theorem jo_4_2_0 : ∀ b, b < 4 → ∀ c, c < 8 → ∀ d, d < 8 → joC 4 (jx (ins 0 2) (ins 1 (b + 0)) (ins 2 c) (ins 3 d)) = joinM (jn (jx (ins 0 2) (ins 1 (b + 0)) (ins 2 c) (ins 3 d))) 4 := by decide +kernel
theorem jo_4_2_1 : ∀ b, b < 4 → ∀ c, c < 8 → ∀ d, d < 8 → joC 4 (jx (ins 0 2) (ins 1 (b + 4)) (ins 2 c) (ins 3 d)) = joinM (jn (jx (ins 0 2) (ins 1 (b + 4)) (ins 2 c) (ins 3 d))) 4 := by decide +kernel
theorem jo_4_3_0 : ∀ b, b < 4 → ∀ c, c < 8 → ∀ d, d < 8 → joC 4 (jx (ins 0 3) (ins 1 (b + 0)) (ins 2 c) (ins 3 d)) = joinM (jn (jx (ins 0 3) (ins 1 (b + 0)) (ins 2 c) (ins 3 d))) 4 := by decide +kernel
theorem jo_4_3_1 : ∀ b, b < 4 → ∀ c, c < 8 → ∀ d, d < 8 → joC 4 (jx (ins 0 3) (ins 1 (b + 4)) (ins 2 c) (ins 3 d)) = joinM (jn (jx (ins 0 3) (ins 1 (b + 4)) (ins 2 c) (ins 3 d))) 4 := by decide +kernel
theorem jo_4_4_0 : ∀ b, b < 4 → ∀ c, c < 8 → ∀ d, d < 8 → joC 4 (jx (ins 0 4) (ins 1 (b + 0)) (ins 2 c) (ins 3 d)) = joinM (jn (jx (ins 0 4) (ins 1 (b + 0)) (ins 2 c) (ins 3 d))) 4 := by decide +kernel
theorem jo_4_4_1 : ∀ b, b < 4 → ∀ c, c < 8 → ∀ d, d < 8 → joC 4 (jx (ins 0 4) (ins 1 (b + 4)) (ins 2 c) (ins 3 d)) = joinM (jn (jx (ins 0 4) (ins 1 (b + 4)) (ins 2 c) (ins 3 d))) 4 := by decide +kernel
theorem jo_4_5_0 : ∀ b, b < 4 → ∀ c, c < 8 → ∀ d, d < 8 → joC 4 (jx (ins 0 5) (ins 1 (b + 0)) (ins 2 c) (ins 3 d)) = joinM (jn (jx (ins 0 5) (ins 1 (b + 0)) (ins 2 c) (ins 3 d))) 4 := by decide +kernel
theorem jo_4_5_1 : ∀ b, b < 4 → ∀ c, c < 8 → ∀ d, d < 8 → joC 4 (jx (ins 0 5) (ins 1 (b + 4)) (ins 2 c) (ins 3 d)) = joinM (jn (jx (ins 0 5) (ins 1 (b + 4)) (ins 2 c) (ins 3 d))) 4 := by decide +kernel
theorem jo_4_6_0 : ∀ b, b < 4 → ∀ c, c < 8 → ∀ d, d < 8 → joC 4 (jx (ins 0 6) (ins 1 (b + 0)) (ins 2 c) (ins 3 d)) = joinM (jn (jx (ins 0 6) (ins 1 (b + 0)) (ins 2 c) (ins 3 d))) 4 := by decide +kernel
theorem jo_4_6_1 : ∀ b, b < 4 → ∀ c, c < 8 → ∀ d, d < 8 → joC 4 (jx (ins 0 6) (ins 1 (b + 4)) (ins 2 c) (ins 3 d)) = joinM (jn (jx (ins 0 6) (ins 1 (b + 4)) (ins 2 c) (ins 3 d))) 4 := by decide +kernel
theorem jo_4_7_0 : ∀ b, b < 4 → ∀ c, c < 8 → ∀ d, d < 8 → joC 4 (jx (ins 0 7) (ins 1 (b + 0)) (ins 2 c) (ins 3 d)) = joinM (jn (jx (ins 0 7) (ins 1 (b + 0)) (ins 2 c) (ins 3 d))) 4 := by decide +kernel
theorem jo_4_7_1 : ∀ b, b < 4 → ∀ c, c < 8 → ∀ d, d < 8 → joC 4 (jx (ins 0 7) (ins 1 (b + 4)) (ins 2 c) (ins 3 d)) = joinM (jn (jx (ins 0 7) (ins 1 (b + 4)) (ins 2 c) (ins 3 d))) 4 := by decide +kernel
theorem jo_4 {a b c d : Nat} (ha : a < 8) (hb : b < 8) (hc : c < 8) (hd : d < 8) : joC 4 (jx (ins 0 a) (ins 1 b) (ins 2 c) (ins 3 d)) = joinM (jn (jx (ins 0 a) (ins 1 b) (ins 2 c) (ins 3 d))) 4 := by
  rcases Nat.lt_or_ge b 4 with h | h
  · rcases (by omega : a = 0 ∨ a = 1 ∨ a = 2 ∨ a = 3 ∨ a = 4 ∨ a = 5 ∨ a = 6 ∨ a = 7) with rfl | rfl | rfl | rfl | rfl | rfl | rfl | rfl
    · exact jo_4_0_0 b h c hc d hd
    · exact jo_4_1_0 b h c hc d hd
    · exact jo_4_2_0 b h c hc d hd
    · exact jo_4_3_0 b h c hc d hd
    · exact jo_4_4_0 b h c hc d hd
    · exact jo_4_5_0 b h c hc d hd
    · exact jo_4_6_0 b h c hc d hd
    · exact jo_4_7_0 b h c hc d hd
  · obtain ⟨b1, rfl⟩ : ∃ b1, b = b1 + 4 := ⟨b - 4, by omega⟩
    rcases (by omega : a = 0 ∨ a = 1 ∨ a = 2 ∨ a = 3 ∨ a = 4 ∨ a = 5 ∨ a = 6 ∨ a = 7) with rfl | rfl | rfl | rfl | rfl | rfl | rfl | rfl
    · exact jo_4_0_1 b1 (by omega) c hc d hd
    · exact jo_4_1_1 b1 (by omega) c hc d hd
    · exact jo_4_2_1 b1 (by omega) c hc d hd
    · exact jo_4_3_1 b1 (by omega) c hc d hd
    · exact jo_4_4_1 b1 (by omega) c hc d hd
    · exact jo_4_5_1 b1 (by omega) c hc d hd
    · exact jo_4_6_1 b1 (by omega) c hc d hd
    · exact jo_4_7_1 b1 (by omega) c hc d hd
