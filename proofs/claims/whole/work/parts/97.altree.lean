/-! ===== rows that are alike, as a tree ===== -/
def sgS (w p q st : Nat) : Nat := if w = p ∨ w = q then of4 st w <<< 4 ||| (4 * p + q) else 0
/-- whether a call can be made, and is seen as the c-th was -/
def okD (n : Nat) (net : Nat → Nat) (st d : Nat) : Bool := decide ((d / 4 < n ∧ d % 4 < n) ∧ (d / 4 ≠ d % 4 ∧ (numO net st (d / 4)).testBit (d % 4) = true))
def gdD (n : Nat) (net : Nat → Nat) (w : Nat) (Si : Nat → Nat) (c st d : Nat) : Bool := okD n net st d && decide (sgS w (d / 4) (d % 4) (aft st (d / 4) (d % 4)) = Si c)
def foK (g : Nat → Nat → Nat) : Nat → Nat → Nat
  | 0, acc => acc
  | d + 1, acc => g d (foK g d acc)
/-- how many rows there are behind st, with j calls left from the c-th on -/
def trC (n : Nat) (net : Nat → Nat) (w : Nat) (Si : Nat → Nat) : Nat → Nat → Nat → Nat
  | 0, _, _ => 1
  | j + 1, c, st => smK (fun d => if gdD n net w Si c st d = true then trC n net w Si j (c + 1) (aft st (d / 4) (d % 4)) else 0) 16
/-- what is in all of them, and in acc -/
def trA (n : Nat) (net : Nat → Nat) (w : Nat) (Si : Nat → Nat) : Nat → Nat → Nat → Nat → Nat
  | 0, _, st, acc => acc &&& st
  | j + 1, c, st, acc => foK (fun d a => if gdD n net w Si c st d = true then trA n net w Si j (c + 1) (aft st (d / 4) (d % 4)) a else a) 16 acc
theorem rS_ok {n : Nat} {net : Nat → Nat} {x c st : Nat} (h : rS n net x c = some st) : rS n net x (c + 1) = if okD n net st (dgR x c) = true then some (aft st (dgR x c / 4) (dgR x c % 4)) else none := by
  rw [rS_s h]
  unfold okD
  by_cases h2 : (dgR x c / 4 < n ∧ dgR x c % 4 < n) ∧ (dgR x c / 4 ≠ dgR x c % 4 ∧ (numO net st (dgR x c / 4)).testBit (dgR x c % 4) = true)
  · rw [if_pos h2, if_pos (decide_eq_true h2)]
  · rw [if_neg h2, if_neg (by rw [decide_eq_false h2]; decide)]
/-- the digits of a row with a given beginning -/
theorem dgR_pre {y c z i : Nat} (hi : i < c) : dgR (y + 16 ^ c * z) i = dgR y i := by
  show (y + 16 ^ c * z) / 16 ^ i % 16 = y / 16 ^ i % 16
  have e : (16 : Nat) ^ c * z = 16 ^ i * (16 * (16 ^ (c - i - 1) * z)) := by
    rw [← Nat.mul_assoc, ← Nat.mul_assoc, ← Nat.pow_succ, ← Nat.pow_add, show i + 1 + (c - i - 1) = c by omega]
  rw [e, Nat.add_mul_div_left _ _ (Nat.pow_pos (by decide)), Nat.add_mul_mod_self_left]
theorem dgR_at {y c z : Nat} (hy : y < 16 ^ c) : dgR (y + 16 ^ c * z) c = z % 16 := by
  show (y + 16 ^ c * z) / 16 ^ c % 16 = z % 16
  rw [Nat.add_mul_div_left _ _ (Nat.pow_pos (by decide)), Nat.div_eq_of_lt hy, Nat.zero_add]
theorem rS_dig {n : Nat} {net : Nat → Nat} {x y : Nat} : ∀ c, (∀ i, i < c → dgR x i = dgR y i) → rS n net x c = rS n net y c
  | 0, _ => rfl
  | c + 1, h => by
    simp only [rS]
    rw [rS_dig c (fun i hi => h i (by omega)), h c (by omega)]
