/-! ===== positions: what the class packs into a long ===== -/
def nO (P p : Nat) : Nat := P >>> (16 + 4 * p) &&& 15
def pN (P : Nat) : Nat := P >>> 40
def hT (P r p : Nat) : Bool := P.testBit ((if r = 2 then 32 else 36) + p)
theorem nO_lt (P p : Nat) : nO P p < 16 := Nat.lt_of_le_of_lt Nat.and_le_right (by decide)
def exK (P : Nat) : Nat → Nat
  | 0 => 0
  | p + 1 => exK P p + (if of4 P p = 1 <<< pN P - 1 then 1 else 0)
theorem exK_le (P : Nat) : ∀ k, exK P k ≤ k
  | 0 => Nat.le_refl 0
  | k + 1 => by have := exK_le P k; simp only [exK]; split <;> omega
def wmS (P oth sec : Nat) : Nat → Nat
  | 0 => 0
  | q + 1 => if oth.testBit q = true ∧ of4 P q ≠ sec then wmS P oth sec q ||| 1 <<< q else wmS P oth sec q
def whM (P r p : Nat) : Nat :=
  if (r = 2 ∨ r = 3) ∧ hT P r p = false then 0 else
  if r = 1 then (nO P p &&& (1 <<< p ^^^ 4294967295)) &&& (of4 P p ^^^ 4294967295) else wmS P (nO P p &&& (1 <<< p ^^^ 4294967295)) (of4 P p) (pN P)
def tld (P p q : Nat) : Nat := (of4 P p ||| of4 P q) ||| (nO P p ||| nO P q) <<< 16
def rng (P p q : Nat) : Nat := (P ||| ((tld P p q <<< (4 * p) ||| tld P p q <<< (4 * q)) ||| 1 <<< (32 + q))) &&& ((1 <<< (32 + p) ||| 1 <<< (36 + q)) ^^^ 18446744073709551615)
def kF1 (P r o : Nat) : Nat := if r = 2 then P else if o = 2 then P else P &&& 18446744009285042175
def kF2 (P r o : Nat) : Nat := if r = 3 then P else if o = 3 then P else P &&& 18446743042917400575
def keyF (P r o : Nat) : Nat := kF2 (kF1 P r o) r o ||| (4 * r + o) <<< 43
def frS (n x : Nat) : Nat → Nat
  | 0 => n <<< 40 ||| x <<< 16
  | p + 1 => frS n x p ||| ((1 <<< (4 * p + p) ||| 1 <<< (32 + p)) ||| 1 <<< (36 + p))
/-- bits counted as the library counts them -/
def bc1 (x : Nat) : Nat := x - (x >>> 1 &&& 1431655765)
def bc2 (x : Nat) : Nat := (x &&& 858993459) + (x >>> 2 &&& 858993459)
def bc3 (x : Nat) : Nat := x + x >>> 4 &&& 252645135
def bc4 (x : Nat) : Nat := x + x >>> 8
def bc5 (x : Nat) : Nat := x + x >>> 16
def bcN (x : Nat) : Nat := bc5 (bc4 (bc3 (bc2 (bc1 x)))) &&& 63
theorem two_tb {a b i : Nat} (ha : a < 256) : (a + 256 * b).testBit i = if i < 8 then a.testBit i else b.testBit (i - 8) := by
  rw [Nat.add_comm, show 256 * b = 2 ^ 8 * b from rfl, Nat.testBit_two_pow_mul_add b ha]
theorem two_and {a b s M : Nat} (ha : a < 256) (hb : b < 256) (hs : s ≤ 8) (hM : ∀ i, i < 8 → M.testBit (i + 8) = M.testBit i) (hM2 : ∀ i, i < 8 → 8 - s ≤ i → M.testBit i = false) : (a + 256 * b) >>> s &&& M = (a >>> s &&& M) + 256 * (b >>> s &&& M) := by
  have h1 : a >>> s &&& M < 256 := Nat.lt_of_le_of_lt Nat.and_le_left (Nat.lt_of_le_of_lt (shr_le a s) ha)
  apply Nat.eq_of_testBit_eq
  intro i
  rw [two_tb h1, Nat.testBit_and, Nat.testBit_shiftRight, two_tb ha]
  by_cases hi : i < 8
  · rw [if_pos hi, Nat.testBit_and, Nat.testBit_shiftRight]
    by_cases h2 : s + i < 8
    · rw [if_pos h2]
    · rw [hM2 i hi (by omega)]; simp
  · rw [if_neg hi, if_neg (by omega), Nat.testBit_and, Nat.testBit_shiftRight, show s + i - 8 = s + (i - 8) by omega]
    by_cases h3 : i - 8 < 8
    · have := hM (i - 8) h3
      rw [show i - 8 + 8 = i by omega] at this
      rw [this]
    · have : b.testBit (s + (i - 8)) = false := Nat.testBit_lt_two_pow (Nat.lt_of_lt_of_le hb (show 2 ^ 8 ≤ 2 ^ (s + (i - 8)) from Nat.pow_le_pow_right (by decide) (by omega)))
      rw [this]; rfl
theorem M1a : ∀ i, i < 8 → (1431655765 : Nat).testBit (i + 8) = (1431655765 : Nat).testBit i := by decide
theorem M2a : ∀ i, i < 8 → (858993459 : Nat).testBit (i + 8) = (858993459 : Nat).testBit i := by decide
theorem M3a : ∀ i, i < 8 → (252645135 : Nat).testBit (i + 8) = (252645135 : Nat).testBit i := by decide
theorem bc_small : ∀ a, a < 256 → bc1 a < 256 ∧ bc2 (bc1 a) < 256 ∧ bc2 (bc1 a) % 16 ≤ 4 ∧ bc2 (bc1 a) / 16 ≤ 4 ∧ (bc2 (bc1 a) + bc2 (bc1 a) / 16) % 16 = bitsN a 8 := by decide +kernel
theorem bits_two {a b : Nat} (ha : a < 256) : bitsN (a + 256 * b) 16 = bitsN a 8 + bitsN b 8 := by
  have h1 : ∀ k, k ≤ 8 → bitsN (a + 256 * b) k = bitsN a k := fun k => by
    induction k with
    | zero => intro _; rfl
    | succ k ih => intro hk; rw [bitsN_tb, bitsN_tb, ih (by omega), two_tb ha, if_pos (by omega)]
  have h2 : ∀ k, k ≤ 8 → bitsN (a + 256 * b) (8 + k) = bitsN a 8 + bitsN b k := fun k => by
    induction k with
    | zero => intro _; exact h1 8 (Nat.le_refl _)
    | succ k ih =>
      intro hk
      rw [show 8 + (k + 1) = (8 + k) + 1 by omega, bitsN_tb (a + 256 * b) (8 + k), bitsN_tb b k, ih (by omega), two_tb ha, if_neg (by omega), show 8 + k - 8 = k by omega]; omega
  exact h2 8 (Nat.le_refl _)
theorem bc_m3 : ∀ y, y < 256 → y &&& 252645135 = y % 16 := by decide +kernel
theorem bc_dm {u : Nat} (u3 : u % 16 ≤ 4) (u4 : u / 16 ≤ 4) : (u + u / 16) % 16 = u % 16 + u / 16 := by
  rw [show u + u / 16 = 16 * (u / 16) + (u % 16 + u / 16) by omega, Nat.mul_add_mod, Nat.mod_eq_of_lt (by omega)]
theorem bc_lo {x1 x2 : Nat} (h1 : x1 ≤ 8) (h2 : x2 ≤ 8) : ((x1 + 256 * x2) + (x1 + 256 * x2) / 256 + ((x1 + 256 * x2) + (x1 + 256 * x2) / 256) / 65536) % 64 = x1 + x2 := by
  have e : (x1 + 256 * x2) / 256 = x2 := by omega
  rw [e]
  have e2 : (x1 + 256 * x2 + x2) / 65536 = 0 := by omega
  rw [e2, show x1 + 256 * x2 + x2 + 0 = 64 * (4 * x2) + (x1 + x2) by omega, Nat.mul_add_mod, Nat.mod_eq_of_lt (by omega)]
theorem bc_fin {u w : Nat} (u3 : u % 16 ≤ 4) (u4 : u / 16 ≤ 4) (w3 : w % 16 ≤ 4) (w4 : w / 16 ≤ 4) : bc5 (bc4 (bc3 (u + 256 * w))) &&& 63 = (u + u / 16) % 16 + (w + w / 16) % 16 := by
  have hA : u + u / 16 + 16 * (w % 16) < 256 := by omega
  have hB : w + w / 16 < 256 := by omega
  have e3 : bc3 (u + 256 * w) = (u % 16 + u / 16) + 256 * (w % 16 + w / 16) := by
    unfold bc3
    rw [show u + 256 * w + (u + 256 * w) >>> 4 = (u + u / 16 + 16 * (w % 16)) + 256 * (w + w / 16) by rw [Nat.shiftRight_eq_div_pow]; omega]
    have h0 := two_and (s := 0) hA hB (by decide) M3a (by decide)
    rw [Nat.shiftRight_zero, Nat.shiftRight_zero, Nat.shiftRight_zero] at h0
    rw [h0, bc_m3 _ hA, bc_m3 _ hB, Nat.add_mul_mod_self_left, bc_dm u3 u4, bc_dm w3 w4]
  rw [e3, bc_dm u3 u4, bc_dm w3 w4]
  unfold bc5 bc4
  rw [Nat.shiftRight_eq_div_pow, Nat.shiftRight_eq_div_pow, show (63 : Nat) = 2 ^ 6 - 1 from rfl, Nat.and_two_pow_sub_one_eq_mod]
  exact bc_lo (by omega) (by omega)
theorem bcN_eq {x : Nat} (h : x < 65536) : bcN x = bitsN x 16 := by
  obtain ⟨a, b, ha, hb, rfl⟩ : ∃ a b, a < 256 ∧ b < 256 ∧ x = a + 256 * b := ⟨x % 256, x / 256, by omega, by omega, by omega⟩
  obtain ⟨a1, a2, a3, a4, a5⟩ := bc_small a ha
  obtain ⟨b1, b2, b3, b4, b5⟩ := bc_small b hb
  have e1 : bc1 (a + 256 * b) = bc1 a + 256 * bc1 b := by
    unfold bc1
    rw [two_and ha hb (by decide) M1a (by decide)]
    have h1 : a >>> 1 &&& 1431655765 ≤ a := Nat.le_trans Nat.and_le_left (shr_le a 1)
    have h2 : b >>> 1 &&& 1431655765 ≤ b := Nat.le_trans Nat.and_le_left (shr_le b 1)
    omega
  have e2 : bc2 (bc1 a + 256 * bc1 b) = bc2 (bc1 a) + 256 * bc2 (bc1 b) := by
    unfold bc2
    have h0 := two_and (s := 0) a1 b1 (by decide) M2a (by decide)
    rw [Nat.shiftRight_zero, Nat.shiftRight_zero, Nat.shiftRight_zero] at h0
    rw [two_and (s := 2) a1 b1 (by decide) M2a (by decide), h0]
    omega
  unfold bcN
  rw [e1, e2, bits_two ha, ← a5, ← b5]
  exact bc_fin a3 a4 b3 b4
/-- the first of n with a property; n: none -/
def fF (B : Nat → Bool) : Nat → Nat
  | 0 => 0
  | n + 1 => if fF B n < n then fF B n else if B n then n else n + 1
theorem fF_no {B : Nat → Bool} : ∀ {n : Nat}, (∀ i, i < n → B i = false) → fF B n = n
  | 0, _ => rfl
  | n + 1, h => by simp only [fF]; rw [fF_no (fun i hi => h i (by omega)), if_neg (by omega), h n (by omega)]; rfl
theorem fF_yes {B : Nat → Bool} {n j : Nat} (hj : j < n) (h : ∀ i, i < j → B i = false) (hB : B j = true) : fF B n = j := by
  induction n with
  | zero => omega
  | succ n ih =>
    simp only [fF]
    rcases Nat.lt_or_ge j n with h6 | h6
    · rw [ih h6, if_pos h6]
    · have e : j = n := by omega
      subst e
      rw [fF_no h, if_neg (by omega), hB]; rfl
theorem fF_le (B : Nat → Bool) : ∀ n, fF B n ≤ n
  | 0 => Nat.le_refl 0
  | n + 1 => by
    have := fF_le B n
    simp only [fF]; split
    · omega
    · split <;> omega
theorem fF_found {B : Nat → Bool} {n i : Nat} (hi : i < n) (hb : B i = true) : fF B n < n := by
  induction n with
  | zero => omega
  | succ n ih =>
    simp only [fF]
    rcases Nat.lt_or_ge i n with h6 | h6
    · have := ih h6; rw [if_pos this]; omega
    · have e : i = n := by omega
      subst e
      split
      · omega
      · first | omega | (rw [if_pos hb]; omega)
theorem fF_spec {B : Nat → Bool} : ∀ {n : Nat}, fF B n < n → B (fF B n) = true ∧ ∀ i, i < fF B n → B i = false
  | 0, h => absurd h (by omega)
  | n + 1, h => by
    by_cases h1 : fF B n < n
    · have e : fF B (n + 1) = fF B n := by simp only [fF]; rw [if_pos h1]
      rw [e]; exact fF_spec h1
    · have e0 : fF B n = n := by have := fF_le B n; omega
      have hno : ∀ i, i < n → B i = false := by
        intro i hi
        cases hb : B i with
        | false => rfl
        | true =>
          exact absurd (fF_found hi hb) (by omega)
      by_cases hB : B n = true
      · have e : fF B (n + 1) = n := by simp only [fF]; rw [if_neg h1, if_pos hB]
        rw [e]; exact ⟨hB, hno⟩
      · have e : fF B (n + 1) = n + 1 := by simp only [fF]; rw [if_neg h1, if_neg hB]
        omega
/-- the k-th of a set of pairs, as the class picks it -/
def pkS (S kk : Nat) : Int32 := if fF (fun j => S.testBit j && decide (cntB (fun i => S.testBit i) j = kk)) 16 < 16 then nI (10 * (fF (fun j => S.testBit j && decide (cntB (fun i => S.testBit i) j = kk)) 16 >>> 2) + (fF (fun j => S.testBit j && decide (cntB (fun i => S.testBit i) j = kk)) 16 &&& 3)) else -9
/-! nets as the class has them: numbers as a set of pairs -/
def prt (x p : Nat) : Nat := x >>> (4 * p) &&& 15
theorem prt_lt (x p : Nat) : prt x p < 16 := Nat.lt_of_le_of_lt Nat.and_le_right (by decide)
def rcQ (x z : Nat) : Nat → Nat
  | 0 => z
  | p + 1 => if (rcQ x z p).testBit p = true then rcQ x z p ||| prt x p else rcQ x z p
def rcA (n x fr : Nat) : Nat → Nat
  | 0 => 1 <<< fr
  | a + 1 => rcQ x (rcA n x fr a) n
abbrev rch (n x fr : Nat) : Nat := rcA n x fr n
theorem rcQ_lt {x z : Nat} (h : z < 16) : ∀ k, rcQ x z k < 16
  | 0 => h
  | k + 1 => by
    have ih := rcQ_lt (x := x) h k
    simp only [rcQ]; split
    · exact or_lt (n := 4) ih (prt_lt x k)
    · exact ih
theorem rcA_lt {n x fr : Nat} (h : fr < 4) : ∀ k, rcA n x fr k < 16
  | 0 => one_shl (n := 4) h
  | k + 1 => rcQ_lt (rcA_lt h k) n
def bwQ (x p z : Nat) : Nat → Nat
  | 0 => z
  | q + 1 => if x.testBit (4 * p + q) = true then bwQ x p z q ||| 1 <<< (4 * q + p) else bwQ x p z q
def bwP (n x : Nat) : Nat → Nat
  | 0 => x
  | p + 1 => bwQ x p (bwP n x p) n
theorem bwQ_lt {x p z : Nat} (hp : p < 4) (h : z < 65536) : ∀ k, k ≤ 4 → bwQ x p z k < 65536
  | 0, _ => h
  | k + 1, hk => by
    have ih := bwQ_lt (x := x) hp h k (by omega)
    simp only [bwQ]; split
    · exact or_lt (n := 16) ih (one_shl (by omega))
    · exact ih
theorem bwP_lt {n x : Nat} (hn : n ≤ 4) (h : x < 65536) : ∀ k, k ≤ 4 → bwP n x k < 65536
  | 0, _ => h
  | k + 1, hk => bwQ_lt (by omega) (bwP_lt hn h k (by omega)) n hn
def joC (n x : Nat) : Bool := rch n (bwP n x n) 0 == 1 <<< n - 1
def hoC (x : Nat) : Nat → Nat
  | 0 => 0
  | p + 1 => if prt x p &&& (1 <<< p ^^^ 4294967295) = 0 then hoC x p else hoC x p ||| 1 <<< p
theorem hoC_lt (x : Nat) : ∀ k, k ≤ 4 → hoC x k < 16
  | 0, _ => show 0 < 16 by decide
  | k + 1, h => by
    have ih := hoC_lt x k (by omega)
    simp only [hoC]; split
    · exact ih
    · exact or_lt (n := 4) ih (one_shl (by omega))
def suC (n x : Nat) : Bool := decide (∀ p, p < n → hoC x n &&& (rch n x p ^^^ 4294967295) = 0)
/-- a set of pairs by a property, as two loops gather it -/
def nsQ (B : Nat → Nat → Bool) (p z : Nat) : Nat → Nat
  | 0 => z
  | q + 1 => if B p q = true then nsQ B p z q ||| 1 <<< (4 * p + q) else nsQ B p z q
def nsP (B : Nat → Nat → Bool) (n : Nat) : Nat → Nat
  | 0 => 0
  | p + 1 => nsQ B p (nsP B n p) n
theorem nsQ_lt {B : Nat → Nat → Bool} {p z : Nat} (hp : p < 4) (h : z < 65536) : ∀ k, k ≤ 4 → nsQ B p z k < 65536
  | 0, _ => h
  | k + 1, hk => by
    have ih := nsQ_lt (B := B) hp h k (by omega)
    simp only [nsQ]; split
    · exact or_lt (n := 16) ih (one_shl (by omega))
    · exact ih
theorem nsP_lt {B : Nat → Nat → Bool} {n : Nat} (hn : n ≤ 4) : ∀ k, k ≤ 4 → nsP B n k < 65536
  | 0, _ => show 0 < 65536 by decide
  | k + 1, hk => nsQ_lt (by omega) (nsP_lt hn k (by omega)) n hn
theorem nsQ_tb {B : Nat → Nat → Bool} {p z : Nat} : ∀ k, k ≤ 4 → ∀ a b, b < 4 → (nsQ B p z k).testBit (4 * a + b) = (z.testBit (4 * a + b) || (decide (a = p) && decide (b < k) && B a b))
  | 0, _, a, b, _ => by simp [nsQ]
  | k + 1, hk, a, b, hb => by
    have ih := nsQ_tb (B := B) (p := p) (z := z) k (by omega) a b hb
    by_cases hB : B p k = true
    · simp only [nsQ]; rw [if_pos hB, Nat.testBit_or, ih, Nat.one_shiftLeft, Nat.testBit_two_pow]
      by_cases e1 : a = p
      · subst e1
        by_cases e2 : b = k
        · subst e2; simp [hB]
        · have : ¬ (4 * a + k = 4 * a + b) := by omega
          have h2 : (b < k + 1) ↔ (b < k) := by omega
          rw [decide_eq_false this, Bool.or_false, decide_eq_decide.mpr h2]
      · have : ¬ (4 * p + k = 4 * a + b) := by omega
        rw [decide_eq_false this, Bool.or_false]; simp [e1]
    · simp only [nsQ]; rw [if_neg hB, ih]
      by_cases e1 : a = p
      · subst e1
        by_cases e2 : b = k
        · subst e2; simp [hB]
        · have h2 : (b < k + 1) ↔ (b < k) := by omega
          simp [h2]
      · simp [e1]
theorem nsP_tb {B : Nat → Nat → Bool} {n : Nat} (hn : n ≤ 4) : ∀ k, ∀ a b, b < 4 → (nsP B n k).testBit (4 * a + b) = (decide (a < k) && decide (b < n) && B a b)
  | 0, a, b, _ => by simp [nsP]
  | k + 1, a, b, hb => by
    simp only [nsP]
    rw [nsQ_tb n hn a b hb, nsP_tb hn k a b hb]
    by_cases e1 : a = k
    · subst e1; simp
    · have h2 : (a < k + 1) ↔ (a < k) := by omega
      simp [e1, h2]
def chB (n x p q : Nat) : Bool := decide (p = q) || x.testBit (bP n p + cQ p q)
abbrev chN (n x : Nat) : Nat := nsP (chB n x) n n
def brB (n x p q : Nat) : Bool := decide (p ≠ q) && decide (x &&& 1 <<< (4 * p + q) ≠ 0) && !joC n (x &&& (1 <<< (4 * p + q) ^^^ 4294967295))
theorem cQ_le (p : Nat) : ∀ q, cQ p q ≤ q
  | 0 => Nat.le_refl 0
  | q + 1 => by have := cQ_le p q; simp only [cQ]; split <;> omega
theorem bP_le (n : Nat) : ∀ p, bP n p ≤ p * n
  | 0 => Nat.zero_le _
  | p + 1 => by have := bP_le n p; have := cQ_le p n; simp only [bP]; rw [Nat.add_mul]; omega
theorem bP_16 {n p : Nat} (hn : n ≤ 4) (hp : p < 4) : bP n p ≤ 12 := by
  have h1 := bP_le n p
  have h2 : p * n ≤ 3 * 4 := Nat.mul_le_mul (by omega) hn
  omega
