/-! ===== what a call answers, 1 (over the check's own state) ===== -/
theorem sw4 (x : Int32) : x = nI 0 ∨ x = nI 1 ∨ x = nI 2 ∨ x = nI 3 ∨ (x.toInt < 0 ∨ 3 < x.toInt) := by
  rcases Classical.em (x.toInt < 0 ∨ 3 < x.toInt) with h | h
  · simp [h]
  · have h0 : ¬ x < 0 := fun h2 => h (Or.inl (by rw [Int32.lt_iff_toInt_lt] at h2; exact h2))
    obtain ⟨j, hj, rfl⟩ := nI_of h0
    rw [nI_toInt hj] at h
    rcases (by omega : j = 0 ∨ j = 1 ∨ j = 2 ∨ j = 3) with rfl | rfl | rfl | rfl <;> simp
theorem sw5 (x : Int32) : x = nI 0 ∨ x = nI 1 ∨ x = nI 2 ∨ x = nI 3 ∨ x = nI 4 ∨ (x.toInt < 0 ∨ 4 < x.toInt) := by
  rcases Classical.em (x.toInt < 0 ∨ 4 < x.toInt) with h | h
  · simp [h]
  · have h0 : ¬ x < 0 := fun h2 => h (Or.inl (by rw [Int32.lt_iff_toInt_lt] at h2; exact h2))
    obtain ⟨j, hj, rfl⟩ := nI_of h0
    rw [nI_toInt hj] at h
    rcases (by omega : j = 0 ∨ j = 1 ∨ j = 2 ∨ j = 3 ∨ j = 4) with rfl | rfl | rfl | rfl | rfl <;> simp
theorem sw6 (x : Int32) : x = nI 0 ∨ x = nI 1 ∨ x = nI 2 ∨ x = nI 3 ∨ x = nI 4 ∨ x = nI 5 ∨ (x.toInt < 0 ∨ 5 < x.toInt) := by
  rcases Classical.em (x.toInt < 0 ∨ 5 < x.toInt) with h | h
  · simp [h]
  · have h0 : ¬ x < 0 := fun h2 => h (Or.inl (by rw [Int32.lt_iff_toInt_lt] at h2; exact h2))
    obtain ⟨j, hj, rfl⟩ := nI_of h0
    rw [nI_toInt hj] at h
    rcases (by omega : j = 0 ∨ j = 1 ∨ j = 2 ∨ j = 3 ∨ j = 4 ∨ j = 5) with rfl | rfl | rfl | rfl | rfl | rfl <;> simp
theorem sw_ne {x : Int32} {a b : Int} (k : Nat) (hk : k < 2 ^ 31) (h : x.toInt < a ∨ b < x.toInt) (h2 : ¬ ((k : Int) < a ∨ b < (k : Int))) : ¬ x = nI k := fun e => by
  rw [e, nI_toInt hk] at h; exact h2 h
def s_ofPerson (n k : Nat) (net cP cQ : Nat → Nat) (pp what : Int32) : Int32 :=
  if isP pp n = false then -1 else
  if what = nI 0 then nI (of4 (stS n cP cQ k) pp.toNatClampNeg) else
  if what = nI 1 then nI (numO net (stS n cP cQ k) pp.toNatClampNeg) else
  if what = nI 2 then nI (net pp.toNatClampNeg ||| 1 <<< pp.toNatClampNeg) else
  if what = nI 3 then bI (of4 (stS n cP cQ k) pp.toNatClampNeg == 1 <<< n - 1) else
  if what = nI 4 then nI (tokS n 2 cP cQ k >>> pp.toNatClampNeg &&& 1) else
  if what = nI 5 then nI (tokS n 3 cP cQ k >>> pp.toNatClampNeg &&& 1) else -2
def s_ofCall (n k : Nat) (cP cQ : Nat → Nat) (c what : Int32) : Int32 :=
  if isP c k = false then -1 else
  if what = nI 0 then nI (knd n cP cQ c.toNatClampNeg) else
  if what = nI 1 then nI (cP c.toNatClampNeg) else
  if what = nI 2 then nI (cQ c.toNatClampNeg) else
  if what = nI 3 then nI (lrn n cP cQ c.toNatClampNeg (cP c.toNatClampNeg)) else
  if what = nI 4 then nI (lrn n cP cQ c.toNatClampNeg (cQ c.toNatClampNeg)) else -2
def s_may (n k : Nat) (net cP cQ : Nat → Nat) (r pp : Int32) : Int32 :=
  if isIn r (nI 0) (nI 3) = false then -1 else if isP pp n = false then -1 else
  nI (maySet net r.toNatClampNeg (stS n cP cQ k) (tokS n r.toNatClampNeg cP cQ k) pp.toNatClampNeg n)
def s_joined (n : Nat) (net : Nat → Nat) : Int32 := if n = 0 then -3 else bI (joinM net n)
/-- who has numbers, among the first k; whom one comes to -/
def wantK (net : Nat → Nat) : Nat → Nat
  | 0 => 0
  | p + 1 => wantK net p ||| (if net p = 0 then 0 else 1 <<< p)
def sQ (net : Nat → Nat) (x : Nat) : Nat → Nat
  | 0 => x
  | q + 1 => sQ net x q ||| (if (sQ net x q).testBit q then net q else 0)
def sA (net : Nat → Nat) (n pp : Nat) : Nat → Nat
  | 0 => 1 <<< pp
  | a + 1 => sQ net (sA net n pp a) n
def sunM (net : Nat → Nat) (n : Nat) : Bool := decide (∀ pp, pp < n → wantK net n &&& (sA net n pp n ^^^ 4294967295) = 0)
def s_sun (n : Nat) (net : Nat → Nat) : Int32 := if n = 0 then -3 else bI (sunM net n)
theorem sQ_lt {net : Nat → Nat} (hn : ∀ j, net j < 16) {x : Nat} (hx : x < 16) : ∀ k, sQ net x k < 16
  | 0 => hx
  | k + 1 => by
    have ih := sQ_lt hn hx k
    simp only [sQ]
    refine or_lt (n := 4) ih ?_
    split
    · exact hn k
    · decide
theorem sA_lt {net : Nat → Nat} (hn : ∀ j, net j < 16) {n pp : Nat} (hp : pp < 4) : ∀ k, sA net n pp k < 16
  | 0 => one_shl (n := 4) hp
  | k + 1 => sQ_lt hn (sA_lt hn hp k) n
theorem wantK_lt (net : Nat → Nat) : ∀ k, k ≤ 4 → wantK net k < 16
  | 0, _ => show 0 < 16 by decide
  | k + 1, h => by
    have ih := wantK_lt net k (by omega)
    simp only [wantK]
    refine or_lt (n := 4) ih ?_
    split
    · decide
    · exact one_shl (by omega)
def s_many (n k : Nat) (net cP cQ : Nat → Nat) (what : Int32) : Int32 :=
  if what = nI 0 then nI n else if what = nI 1 then nI k else if what = nI 2 then nI (expK (stS n cP cQ k) n n) else if what = nI 3 then nI (numK net n) else -2
