/-- a text read: its first fault, or what it says -/
def rdP (E : EE) (to so sa : Nat) (ln : Int32) (L : Nat) (C : Nat → Int32) (f1 n1 : Nat) (v1 : Option Value) (w1 : va_W) : Prop :=
  ∃ pe nu, w1 = rdW E to pe nu so sa ln L C ∧ ((∃ r1, v1 = some (.int (nI r1)) ∧ faultAt (fun j => C (f1 + j)) n1 r1) ∨ (v1 = some (.int (-1)) ∧ ∃ num, noFault (fun j => C (f1 + j)) n1 pe num ∧ NX pe num nu))
theorem sg_end {E : EE} {to so sa : Nat} {ln : Int32} {L : Nat} {C : Nat → Int32} {f1 n1 pe nu : Nat} {num : Nat → Nat} (h : parse (fun j => C (f1 + j)) n1 = some (false, pe, num)) (hx : NX pe num nu) : rdP E to so sa ln L C f1 n1 (some (.int (sgT C f1 pe n1))) (rdW E to pe nu so sa ln L C) := by
  refine ⟨pe, nu, rfl, ?_⟩
  unfold sgT
  by_cases hf : fF (sgB C f1 pe) n1 < n1
  · rw [if_pos hf]
    obtain ⟨a, b⟩ := fF_spec hf
    exact Or.inl ⟨_, rfl, Or.inr (Or.inr ⟨pe, num, h, hf, a, b⟩)⟩
  · rw [if_neg hf]
    refine Or.inr ⟨rfl, num, ⟨h, fun k hk => ?_⟩, hx⟩
    cases hb : sgB C f1 pe k with
    | false => exact hb
    | true => exact absurd (fF_found hk hb) hf
