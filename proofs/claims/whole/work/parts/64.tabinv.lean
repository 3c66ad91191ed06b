/-! ===== the table: every key at its slot, how many slots are taken ===== -/
def TI (K : Nat → Nat) : Prop := ∀ j, j < 8192 → K j ≠ 0 → slt K (K j) = j
def nz (K : Nat → Nat) : Nat := cntB (fun j => !decide (K j = 0)) 8192
theorem TI_has {K : Nat → Nat} {y j : Nat} (h : TI K) (hj : j < 8192) (hy : y ≠ 0) (e : K j = y) : slt K y = j := by
  subst e; exact h j hj hy
theorem slB_f {K : Nat → Nat} {y i : Nat} (h : slB K y i = false) : K (slJ y i) ≠ y ∧ K (slJ y i) ≠ 0 := by
  simp only [slB, Bool.or_eq_false_iff, decide_eq_false_iff_not] at h; exact h
theorem slt_put {K : Nat → Nat} {y z s1 : Nat} (hr : rmK K z) (h0 : K s1 = 0) (hz : (va_up K s1 y) (slt K z) = z) : slt (va_up K s1 y) z = slt K z := by
  obtain ⟨h1, h2⟩ := fF_spec hr
  have : fF (slB (va_up K s1 y) z) 8192 = fF (slB K z) 8192 := by
    refine fF_yes hr (fun i hi => ?_) ?_
    · obtain ⟨a, b⟩ := slB_f (h2 i hi)
      have hne : slJ z i ≠ s1 := fun e => b (by rw [e]; exact h0)
      unfold slB; rw [vu_n _ _ hne, decide_eq_false a, decide_eq_false b]; rfl
    · have e7 : va_up K s1 y (slJ z (fF (slB K z) 8192)) = z := hz
      show (decide (va_up K s1 y (slJ z (fF (slB K z) 8192)) = z) || decide (va_up K s1 y (slJ z (fF (slB K z) 8192)) = 0)) = true
      rw [decide_eq_true e7]; rfl
  unfold slt; rw [this]
theorem TI_put {K : Nat → Nat} {y : Nat} (h : TI K) (hr : rmK K y) (h0 : K (slt K y) = 0) : TI (va_up K (slt K y) y) := by
  intro j hj hne
  by_cases e : j = slt K y
  · subst e
    rw [vu_s] at hne ⊢
    exact slt_put hr h0 (vu_s _ _ _)
  · rw [vu_n _ _ e] at hne ⊢
    have hs := h j hj hne
    have hrk : rmK K (K j) := by
      rcases Nat.lt_or_ge (fF (slB K (K j)) 8192) 8192 with h1 | h1
      · exact h1
      · exact absurd (rmK_free (y := K j) (slt_lt K y) h0) (by unfold rmK; omega)
    have := slt_put (y := y) hrk h0 (by rw [hs, vu_n _ _ e])
    rw [this, hs]
theorem TI_0 {K : Nat → Nat} (h : ∀ j, j < 8192 → K j = 0) : TI K := fun j hj hne => absurd (h j hj) hne
theorem cntB_put {K : Nat → Nat} {y s1 : Nat} (h0 : K s1 = 0) (hy : y ≠ 0) : ∀ k, cntB (fun j => !decide (va_up K s1 y j = 0)) k = cntB (fun j => !decide (K j = 0)) k + (if s1 < k then 1 else 0)
  | 0 => rfl
  | k + 1 => by
    simp only [cntB]
    rw [cntB_put h0 hy k]
    by_cases e : k = s1
    · subst e; rw [vu_s, h0, decide_eq_false hy, if_neg (Nat.lt_irrefl _), if_pos (Nat.lt_succ_self _)]; simp
    · rw [vu_n _ _ e]
      by_cases h1 : s1 < k
      · rw [if_pos h1, if_pos (by omega)]; omega
      · rw [if_neg h1, if_neg (by omega)]; omega
theorem nz_put {K : Nat → Nat} {y s1 : Nat} (h0 : K s1 = 0) (hy : y ≠ 0) (hs : s1 < 8192) : nz (va_up K s1 y) = nz K + 1 := by
  unfold nz; rw [cntB_put h0 hy 8192, if_pos hs]
theorem cntB_full {B : Nat → Bool} : ∀ k, cntB B k < k → ∃ j, j < k ∧ B j = false
  | 0, h => absurd h (by omega)
  | k + 1, h => by
    cases hb : B k with
    | false => exact ⟨k, by omega, hb⟩
    | true =>
      simp only [cntB, hb] at h
      simp at h
      obtain ⟨j, h1, h2⟩ := cntB_full k h
      exact ⟨j, by omega, h2⟩
theorem nz_free {K : Nat → Nat} (h : nz K < 8192) (y : Nat) : rmK K y := by
  obtain ⟨j, hj, hb⟩ := cntB_full 8192 h
  simp at hb
  exact rmK_free hj hb
theorem cntB_0 {B : Nat → Bool} : ∀ k, (∀ j, j < k → B j = false) → cntB B k = 0
  | 0, _ => rfl
  | k + 1, h => by simp only [cntB]; rw [cntB_0 k (fun j hj => h j (by omega)), h k (by omega)]; rfl
theorem nz_0 {K : Nat → Nat} (h : ∀ j, j < 8192 → K j = 0) : nz K = 0 := cntB_0 8192 (fun j hj => by rw [decide_eq_true (h j hj)]; rfl)
/-- one more bit -/
theorem bits_put {S pl : Nat} (h : S.testBit pl = false) : ∀ k, bitsN (S ||| 1 <<< pl) k = bitsN S k + (if pl < k then 1 else 0)
  | 0 => rfl
  | k + 1 => by
    rw [bitsN_tb, bitsN_tb, bits_put h k, Nat.testBit_or, Nat.one_shiftLeft, Nat.testBit_two_pow]
    by_cases e : pl = k
    · subst e; rw [h, decide_eq_true rfl, if_neg (Nat.lt_irrefl _), if_pos (Nat.lt_succ_self _)]; simp
    · rw [decide_eq_false e, Bool.or_false]
      by_cases h1 : pl < k
      · rw [if_pos h1, if_pos (by omega)]; omega
      · rw [if_neg h1, if_neg (by omega)]; omega
/-- a question's keys: at most 1541 -/
theorem S_le {n f S : Nat} (h1 : 0 < n) (hn : n ≤ 4) (hf : f = 0 ∨ f = 2 ∨ f = 3) (hS : ∀ i, S.testBit i = true → (CLb n f).testBit i = true) : bitsN S 65536 ≤ 1541 := Nat.le_trans (bitsN_mono 65536 (fun i _ => hS i)) (CL_bits h1 hn hf)
