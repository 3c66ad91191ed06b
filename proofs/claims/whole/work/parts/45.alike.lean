/-! ===== rows of calls that a person can't tell apart ===== -/
abbrev dgR (x c : Nat) : Nat := x / 16 ^ c % 16
theorem dgR_lt (x c : Nat) : dgR x c < 16 := Nat.mod_lt _ (by decide)
/-- the state behind the first c calls of the row x; none: it can't be -/
def rS (n : Nat) (net : Nat → Nat) (x : Nat) : Nat → Option Nat
  | 0 => some (startN n)
  | c + 1 => match rS n net x c with
    | none => none
    | some st => if (dgR x c / 4 < n ∧ dgR x c % 4 < n) ∧ (dgR x c / 4 ≠ dgR x c % 4 ∧ (numO net st (dgR x c / 4)).testBit (dgR x c % 4) = true) then some (aft st (dgR x c / 4) (dgR x c % 4)) else none
theorem rS_s {n : Nat} {net : Nat → Nat} {x c st : Nat} (h : rS n net x c = some st) : rS n net x (c + 1) = if (dgR x c / 4 < n ∧ dgR x c % 4 < n) ∧ (dgR x c / 4 ≠ dgR x c % 4 ∧ (numO net st (dgR x c / 4)).testBit (dgR x c % 4) = true) then some (aft st (dgR x c / 4) (dgR x c % 4)) else none := by simp only [rS, h]
theorem rS_lt {n : Nat} {net : Nat → Nat} {x : Nat} : ∀ {c st : Nat}, rS n net x c = some st → st < 65536
  | 0, st, h => by cases h; exact startN_lt n
  | c + 1, st, h => by
    cases hc : rS n net x c with
    | none => simp only [rS, hc] at h; cases h
    | some s0 =>
      rw [rS_s hc] at h
      split at h
      · have hd := dgR_lt x c
        cases h; exact aft_lt (rS_lt hc) (by omega) (by omega)
      · cases h
theorem rS_back {n : Nat} {net : Nat → Nat} {x c st : Nat} (h : rS n net x (c + 1) = some st) : ∃ s0, rS n net x c = some s0 ∧ (dgR x c / 4 < n ∧ dgR x c % 4 < n) ∧ st = aft s0 (dgR x c / 4) (dgR x c % 4) := by
  cases hc : rS n net x c with
  | none => simp only [rS, hc] at h; cases h
  | some s0 =>
    rw [rS_s hc] at h
    split at h
    · rename_i h2; cases h; exact ⟨s0, rfl, h2.1, rfl⟩
    · cases h
theorem rS_pre {n : Nat} {net : Nat → Nat} {x : Nat} : ∀ {k st : Nat}, rS n net x k = some st → ∀ c, c ≤ k → ∃ s0, rS n net x c = some s0
  | 0, st, h, c, hc => by rw [show c = 0 by omega]; exact ⟨st, h⟩
  | k + 1, st, h, c, hc => by
    rcases Nat.lt_or_ge c (k + 1) with h6 | h6
    · obtain ⟨s0, h1, _⟩ := rS_back h
      exact rS_pre h1 c (by omega)
    · rw [show c = k + 1 by omega]; exact ⟨st, h⟩
theorem rS_none {n : Nat} {net : Nat → Nat} {x c : Nat} (h : rS n net x c = none) : ∀ k, c ≤ k → rS n net x k = none := fun k hk => by
  cases hs : rS n net x k with
  | none => rfl
  | some st => obtain ⟨s0, h1⟩ := rS_pre hs c hk; rw [h] at h1; cases h1
def inC (a b p : Nat) : Bool := decide (a = p) || decide (b = p)
/-- what a person sees of the c-th call of the row and of the calls that were is the same -/
def seeC (n : Nat) (net cP cQ : Nat → Nat) (p x c : Nat) : Bool :=
  (inC (cP c) (cQ c) p == inC (dgR x c / 4) (dgR x c % 4) p) && (!(inC (cP c) (cQ c) p) || (decide (cP c = dgR x c / 4) && decide (cQ c = dgR x c % 4) && decide (of4 (stS n cP cQ (c + 1)) p = of4 ((rS n net x (c + 1)).getD 0) p)))
def seeA (n : Nat) (net cP cQ : Nat → Nat) (p x k : Nat) : Bool := decide (∀ c, c < k → seeC n net cP cQ p x c = true)
/-- the state behind a row that is alike, none for other rows -/
def rT (n : Nat) (net cP cQ : Nat → Nat) (p k x : Nat) : Option Nat := if seeA n net cP cQ p x k then rS n net x k else none
def alC (f : Nat → Option Nat) : Nat → Nat
  | 0 => 0
  | x + 1 => alC f x + (match f x with | some _ => 1 | none => 0)
def alA (f : Nat → Option Nat) : Nat → Nat
  | 0 => 65535
  | x + 1 => match f x with | some st => alA f x &&& st | none => alA f x
theorem alA_le (f : Nat → Option Nat) : ∀ x, alA f x < 65536
  | 0 => show 65535 < 65536 by decide
  | x + 1 => by
    have ih := alA_le f x
    simp only [alA]
    cases f x with
    | none => exact ih
    | some st => exact Nat.lt_of_le_of_lt Nat.and_le_left ih
theorem alC_le (f : Nat → Option Nat) : ∀ x, alC f x ≤ x
  | 0 => Nat.le_refl 0
  | x + 1 => by
    have ih := alC_le f x
    simp only [alC]
    cases f x <;> simp <;> omega
theorem isP_nI {e n : Nat} (he : e < 2 ^ 31) (hn : n < 2 ^ 31) : isP (nI e) n = decide (e < n) := by
  by_cases h : e < n
  · rw [nat_isP hn h, decide_eq_true h]
  · rw [isP_f2 ((nI_leI hn he).mpr (by omega)), decide_eq_false h]
theorem pw16 {k : Nat} (h : k ≤ 4) : 1 <<< (4 * k) = 16 ^ k ∧ 16 ^ k ≤ 65536 := by
  rcases (by omega : k = 0 ∨ k = 1 ∨ k = 2 ∨ k = 3 ∨ k = 4) with rfl | rfl | rfl | rfl | rfl <;> decide
/-- answers of what a person knows -/
abbrev ALf (n k : Nat) (net cP cQ : Nat → Nat) (p : Nat) : Nat → Option Nat := rT n net cP cQ p k
def s_alike (n k : Nat) (net cP cQ : Nat → Nat) (p : Int32) : Int32 :=
  if isP p n = false then -1 else if 4 < k then -3 else nI (alC (ALf n k net cP cQ p.toNatClampNeg) (16 ^ k))
def s_sure (n k : Nat) (net cP cQ : Nat → Nat) (p q s : Int32) : Int32 :=
  if isP p n = false then -1 else if isP q n = false then -1 else if isP s n = false then -1 else if 4 < k then -3 else nI (of4 (alA (ALf n k net cP cQ p.toNatClampNeg) (16 ^ k)) q.toNatClampNeg >>> s.toNatClampNeg &&& 1)
def s_known (n k : Nat) (net cP cQ : Nat → Nat) (p q : Int32) : Int32 :=
  if isP p n = false then -1 else if isP q n = false then -1 else if 4 < k then -3 else nI (of4 (alA (ALf n k net cP cQ p.toNatClampNeg) (16 ^ k)) q.toNatClampNeg)
def s_end (n k : Nat) (net cP cQ : Nat → Nat) (p : Int32) : Int32 :=
  if isP p n = false then -1 else if 4 < k then -3 else bI (expM (alA (ALf n k net cP cQ p.toNatClampNeg) (16 ^ k)) n)
theorem alC_some {f : Nat → Option Nat} {x st : Nat} (h : f x = some st) : alC f (x + 1) = alC f x + 1 := by simp only [alC, h]
theorem alC_none {f : Nat → Option Nat} {x : Nat} (h : f x = none) : alC f (x + 1) = alC f x := by simp only [alC, h, Nat.add_zero]
theorem alA_some {f : Nat → Option Nat} {x st : Nat} (h : f x = some st) : alA f (x + 1) = alA f x &&& st := by simp only [alA, h]
theorem alA_none {f : Nat → Option Nat} {x : Nat} (h : f x = none) : alA f (x + 1) = alA f x := by simp only [alA, h]
