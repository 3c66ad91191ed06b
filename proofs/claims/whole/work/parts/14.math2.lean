/-! ===== the pure side, 2: bounds; who may ring; joined ===== -/
theorem one_shl {k n : Nat} (h : k < n) : 1 <<< k < 2 ^ n := by
  rw [Nat.shiftLeft_eq, Nat.one_mul]; exact Nat.pow_lt_pow_right (by decide) h
theorem aft_lt {st pp qq : Nat} (h : st < 65536) (hp : pp < 4) (hq : qq < 4) : aft st pp qq < 65536 := by
  have h1 : (of4 st pp ||| of4 st qq) < 2 ^ 4 := or_lt (of4_lt _ _) (of4_lt _ _)
  exact or_lt (n := 16) (or_lt h (shl_lt h1 (by omega))) (shl_lt h1 (by omega))
theorem numS_lt {net : Nat → Nat} (hn : ∀ j, j < 4 → net j < 16) (S : Nat) : ∀ k, k ≤ 4 → numS net S k < 16
  | 0, _ => show 0 < 16 by decide
  | k + 1, h => by
    have ih := numS_lt hn S k (by omega)
    simp only [numS]
    refine or_lt (n := 4) ih ?_
    split
    · exact or_lt (n := 4) (hn k (by omega)) (one_shl (by omega))
    · decide
theorem numO_lt {net : Nat → Nat} (hn : ∀ j, j < 4 → net j < 16) (st pp : Nat) : numO net st pp < 16 := numS_lt hn _ 4 (Nat.le_refl 4)
theorem tokA_lt {t r pp qq : Nat} (h : t < 16) (hq : qq < 4) : tokA t r pp qq < 16 := by
  have h0 : ∀ y, t &&& y < 2 ^ 4 := fun y => Nat.lt_of_le_of_lt Nat.and_le_left h
  unfold tokA
  split
  · exact or_lt (n := 4) (h0 _) (one_shl hq)
  · split
    · exact h0 _
    · exact h
/-- who may ring whom by a rule: by whom each has the numbers net, in the state st, with the tokens tok -/
def mayM (net : Nat → Nat) (r st tok pp qq : Nat) : Bool :=
  if pp = qq then false else if (numO net st pp).testBit qq = false then false else
  if r = 1 then !(of4 st pp).testBit qq else
  if of4 st pp = of4 st qq then false else (r == 0 || tok.testBit pp)
/-- the union of what hangs together, as the check finds it: the others q in turn, then p in turn, then again -/
def jQ (net : Nat → Nat) (pp : Nat) (x : Nat) : Nat → Nat
  | 0 => x
  | k + 1 => if (pp ≠ k ∧ (net pp).testBit k = true) ∧ ((jQ net pp x k).testBit pp = true ∨ (jQ net pp x k).testBit k = true) then jQ net pp x k ||| (1 <<< pp ||| 1 <<< k) else jQ net pp x k
def jP (net : Nat → Nat) (n : Nat) (x : Nat) : Nat → Nat
  | 0 => x
  | k + 1 => jQ net k (jP net n x k) n
def jA (net : Nat → Nat) (n : Nat) : Nat → Nat
  | 0 => 1
  | k + 1 => jP net n (jA net n k) n
def joinM (net : Nat → Nat) (n : Nat) : Bool := decide (0 < n) && (jA net n n == 1 <<< n - 1)
theorem jQ_lt {net : Nat → Nat} {pp x : Nat} (hp : pp < 4) (hx : x < 16) : ∀ k, k ≤ 4 → jQ net pp x k < 16
  | 0, _ => hx
  | k + 1, h => by
    have ih := jQ_lt (net := net) hp hx k (by omega)
    simp only [jQ]
    split
    · exact or_lt (n := 4) ih (or_lt (one_shl hp) (one_shl (by omega)))
    · exact ih
theorem jP_lt {net : Nat → Nat} {n x : Nat} (hn : n ≤ 4) (hx : x < 16) : ∀ k, k ≤ 4 → jP net n x k < 16
  | 0, _ => hx
  | k + 1, h => jQ_lt (by omega) (jP_lt hn hx k (by omega)) n hn
theorem jA_lt {net : Nat → Nat} {n : Nat} (hn : n ≤ 4) : ∀ k, jA net n k < 16
  | 0 => show 1 < 16 by decide
  | k + 1 => jP_lt hn (jA_lt hn k) n hn
/-- one int array of four places -/
abbrev aW (E : EE) (a : Nat) (f : Nat → Nat) : va_W := [(a, .inl (E.2 1, 4, .inl (fun j => nI (f j))))]
theorem shl_le4 {n : Nat} (h : n ≤ 4) : 1 <<< n ≤ 16 ∧ 1 ≤ 1 <<< n := by
  rcases (by omega : n = 0 ∨ n = 1 ∨ n = 2 ∨ n = 3 ∨ n = 4) with rfl | rfl | rfl | rfl | rfl <;> decide
