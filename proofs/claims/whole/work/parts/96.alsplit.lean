/-! ===== rows of calls by their first call ===== -/
/-- numbers summed -/
def smK (g : Nat → Nat) : Nat → Nat
  | 0 => 0
  | k + 1 => smK g k + g k
def oc (o : Option Nat) : Nat := if o.isSome then 1 else 0
theorem alC_s (f : Nat → Option Nat) (x : Nat) : alC f (x + 1) = alC f x + oc (f x) := by
  cases h : f x with
  | none => rw [alC_none h]; rfl
  | some st => rw [alC_some h]; rfl
theorem alC_cong {f g : Nat → Option Nat} : ∀ m, (∀ x, x < m → f x = g x) → alC f m = alC g m
  | 0, _ => rfl
  | m + 1, h => by rw [alC_s, alC_s, alC_cong m (fun x hx => h x (by omega)), h m (by omega)]
theorem alC_no {f : Nat → Option Nat} : ∀ m, (∀ x, x < m → f x = none) → alC f m = 0
  | 0, _ => rfl
  | m + 1, h => by rw [alC_none (h m (by omega)), alC_no m (fun x hx => h x (by omega))]
theorem smK_cong {g h : Nat → Nat} : ∀ k, (∀ i, i < k → g i = h i) → smK g k = smK h k
  | 0, _ => rfl
  | k + 1, e => by simp only [smK]; rw [smK_cong k (fun i hi => e i (by omega)), e k (by omega)]
theorem smK_add {g h : Nat → Nat} : ∀ k, smK (fun i => g i + h i) k = smK g k + smK h k
  | 0 => rfl
  | k + 1 => by simp only [smK]; rw [smK_add k]; omega
theorem alC_add {f : Nat → Option Nat} (m : Nat) : ∀ j, alC f (m + j) = alC f m + smK (fun i => oc (f (m + i))) j
  | 0 => rfl
  | j + 1 => by
    show alC f (m + j + 1) = _
    rw [alC_s, alC_add m j]; simp only [smK]; omega
/-- by the lowest digit -/
theorem alC_split {f : Nat → Option Nat} : ∀ m, alC f (16 * m) = smK (fun d => alC (fun z => f (d + 16 * z)) m) 16
  | 0 => rfl
  | m + 1 => by
    rw [show 16 * (m + 1) = 16 * m + 16 by omega, alC_add, alC_split m, ← smK_add]
    refine smK_cong 16 (fun d _ => ?_)
    rw [alC_s, show 16 * m + d = d + 16 * m by omega]
theorem alA_tb {f : Nat → Option Nat} {i : Nat} (hi : i < 16) : ∀ m, (alA f m).testBit i = true ↔ ∀ x st, x < m → f x = some st → st.testBit i = true
  | 0 => by
    have : (alA f 0).testBit i = true := by
      show (65535 : Nat).testBit i = true
      rw [show (65535 : Nat) = 2 ^ 16 - 1 from rfl, Nat.testBit_two_pow_sub_one]; exact decide_eq_true hi
    exact ⟨fun _ x st hx => absurd hx (by omega), fun _ => this⟩
  | m + 1 => by
    have ih := alA_tb (f := f) hi m
    cases hf : f m with
    | none =>
      rw [alA_none hf, ih]
      constructor
      · intro h x st hx he
        rcases (by omega : x < m ∨ x = m) with h1 | h1
        · exact h x st h1 he
        · rw [h1, hf] at he; cases he
      · exact fun h x st hx he => h x st (by omega) he
    | some st0 =>
      rw [alA_some hf, Nat.testBit_and, Bool.and_eq_true, ih]
      constructor
      · intro h x st hx he
        rcases (by omega : x < m ∨ x = m) with h1 | h1
        · exact h.1 x st h1 he
        · rw [h1, hf] at he; cases he; exact h.2
      · exact fun h => ⟨fun x st hx he => h x st (by omega) he, h m st0 (by omega) hf⟩
