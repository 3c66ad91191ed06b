theorem shl4_or {x c : Nat} (h : c < 16) : x <<< 4 ||| c = 16 * x + c := by
  rw [Nat.shiftLeft_eq, Nat.mul_comm, ← Nat.two_pow_add_eq_or_of_lt (i := 4) h]
theorem sgS_in {w p q st : Nat} (hp : p < 4) (hq : q < 4) (h : w = p ∨ w = q) : sgS w p q st = 16 * of4 st w + (4 * p + q) := by
  unfold sgS; rw [if_pos h, shl4_or (by omega)]
theorem inC_iff {a b p : Nat} : inC a b p = true ↔ (p = a ∨ p = b) := by
  unfold inC
  rw [Bool.or_eq_true, decide_eq_true_eq, decide_eq_true_eq, eq_comm (a := a), eq_comm (a := b)]
theorem see_eq {n : Nat} {net cP cQ : Nat → Nat} {w x c st' : Nat} (hn : n ≤ 4) (hw : w < n) (hr : rS n net x (c + 1) = some st') (hv : VS n st') (hv2 : VS n (stS n cP cQ (c + 1))) (h1 : cP c < 4) (h2 : cQ c < 4) :
    seeC n net cP cQ w x c = decide (sgS w (dgR x c / 4) (dgR x c % 4) st' = sgS w (cP c) (cQ c) (stS n cP cQ (c + 1))) := by
  have hd := dgR_lt x c
  have o1 : of4 st' w ≠ 0 := fun e => by have := VS_own hn hw hv; rw [e] at this; simp at this
  have o2 : of4 (stS n cP cQ (c + 1)) w ≠ 0 := fun e => by have := VS_own hn hw hv2; rw [e] at this; simp at this
  have hg : (rS n net x (c + 1)).getD 0 = st' := by rw [hr]; rfl
  unfold seeC
  rw [hg]
  by_cases a1 : w = cP c ∨ w = cQ c
  · have b1 : inC (cP c) (cQ c) w = true := inC_iff.mpr a1
    rw [b1, sgS_in h1 h2 a1]
    by_cases a2 : w = dgR x c / 4 ∨ w = dgR x c % 4
    · have b2 : inC (dgR x c / 4) (dgR x c % 4) w = true := inC_iff.mpr a2
      rw [b2, sgS_in (by omega) (by omega) a2]
      simp only [beq_self_eq_true, Bool.true_and, Bool.not_true, Bool.false_or]
      rw [← Bool.decide_and, ← Bool.decide_and]
      refine decide_eq_decide.mpr ⟨fun h => ?_, fun h => ?_⟩
      · rw [h.2, h.1.1, h.1.2]
      · have q1 := of4_lt st' w
        have q2 := of4_lt (stS n cP cQ (c + 1)) w
        exact ⟨⟨by omega, by omega⟩, by omega⟩
    · have b2 : inC (dgR x c / 4) (dgR x c % 4) w = false := Bool.eq_false_iff.mpr (fun h => a2 (inC_iff.mp h))
      rw [b2]
      have : ¬ (sgS w (dgR x c / 4) (dgR x c % 4) st' = 16 * of4 (stS n cP cQ (c + 1)) w + (4 * cP c + cQ c)) := by
        unfold sgS; rw [if_neg a2]; omega
      rw [decide_eq_false this]; rfl
  · have b1 : inC (cP c) (cQ c) w = false := Bool.eq_false_iff.mpr (fun h => a1 (inC_iff.mp h))
    have e0 : sgS w (cP c) (cQ c) (stS n cP cQ (c + 1)) = 0 := by unfold sgS; rw [if_neg a1]
    rw [b1, e0]
    by_cases a2 : w = dgR x c / 4 ∨ w = dgR x c % 4
    · have b2 : inC (dgR x c / 4) (dgR x c % 4) w = true := inC_iff.mpr a2
      rw [b2, sgS_in (by omega) (by omega) a2, decide_eq_false (show ¬ (16 * of4 st' w + (4 * (dgR x c / 4) + dgR x c % 4) = 0) by omega)]; rfl
    · have b2 : inC (dgR x c / 4) (dgR x c % 4) w = false := Bool.eq_false_iff.mpr (fun h => a2 (inC_iff.mp h))
      have e1 : sgS w (dgR x c / 4) (dgR x c % 4) st' = 0 := by unfold sgS; rw [if_neg a2]
      rw [b2, e1]; rfl
