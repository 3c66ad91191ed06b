/-- what stays of the counts behind a question -/
def RPost (E : EE) (ra : Nat → Nat) (K2 : Nat → Nat) (u2 : Nat) (v : Value) (v1 : Option Value) (w1 : va_W) : Prop :=
  v1 = some v ∧ ∃ (K : Nat → Nat) (u : Nat) (Al Gd Fw Mo : Nat → Nat), w1 = rW E ra K u Al Gd Fw Mo K2 u2 ∧ TBt K u ∧ VI K Al Gd Fw Mo
def fewT (x : C4) : Int32 := if x.2.1 = 0 then -9 else nI x.2.2.1
def mosT (x : C4) : Int32 := if x.2.1 = 0 then -9 else nI (x.2.2.2 - 1)
theorem vC_few {al gd fw mo : Nat} {x : C4} (h : vC al gd fw mo x) (h0 : gd ≠ 0) : nI fw = fewT x := by
  obtain ⟨a, b, d, _⟩ := h
  unfold fewT; rw [if_neg (by omega), (d (by omega)).1]
theorem vC_mos {al gd fw mo : Nat} {x : C4} (h : vC al gd fw mo x) (h0 : gd ≠ 0) : nI mo = mosT x := by
  obtain ⟨a, b, d, _⟩ := h
  unfold mosT; rw [if_neg (by omega), (d (by omega)).2]
