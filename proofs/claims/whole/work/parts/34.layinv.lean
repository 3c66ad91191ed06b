/-! ===== the invariant of the check's search ===== -/
/-- a place that is seen holds its numbers, and so are all that may follow -/
def LInv (n r t : Nat) (nt : Nat → Nat) (X : Nat → Nat → Int32) (F G : Nat → Nat → Nat) : Prop :=
  ∀ st tok, VS n st → tok < 16 → F 12 (plc st tok) = t → Rp (G 13) (G 14) (F 15) (X 16) (plc st tok) (CN n nt r st tok) ∧ ∀ k, k < 16 → cv n nt r st tok k = true → F 12 (plc (nxS st k) (nxT tok r k)) = t
/-- what a search below a node leaves as it was -/
def LFr (n t m0 e0 : Nat) (X : Nat → Nat → Int32) (F G : Nat → Nat → Nat) (X2 : Nat → Nat → Int32) (F2 G2 : Nat → Nat → Nat) : Prop :=
  (∀ i, i < e0 → F2 18 i = F 18 i ∧ F2 19 i = F 19 i ∧ F2 20 i = F 20 i) ∧
  (∀ st tok, VS n st → tok < 16 → m0 < mis n st → F2 12 (plc st tok) = F 12 (plc st tok) ∧ G2 13 (plc st tok) = G 13 (plc st tok) ∧ G2 14 (plc st tok) = G 14 (plc st tok) ∧ F2 15 (plc st tok) = F 15 (plc st tok) ∧ X2 16 (plc st tok) = X 16 (plc st tok)) ∧
  (∀ j, F2 12 j = F 12 j ∨ F2 12 j = t) ∧
  (∀ j, j ≠ 12 → j ≠ 15 → j ≠ 18 → j ≠ 19 → j ≠ 20 → F2 j = F j) ∧ (∀ j, j ≠ 16 → X2 j = X j) ∧ (∀ j, j ≠ 13 → j ≠ 14 → G2 j = G j)
theorem LFr.rf {n t m0 e0 : Nat} {X : Nat → Nat → Int32} {F G : Nat → Nat → Nat} : LFr n t m0 e0 X F G X F G :=
  ⟨fun _ _ => ⟨rfl, rfl, rfl⟩, fun _ _ _ _ _ => ⟨rfl, rfl, rfl, rfl, rfl⟩, fun _ => Or.inl rfl, fun _ _ _ _ _ _ => rfl, fun _ _ => rfl, fun _ _ _ => rfl⟩
theorem LFr.tr {n t m0 e0 : Nat} {X X2 X3 : Nat → Nat → Int32} {F G F2 G2 F3 G3 : Nat → Nat → Nat} (h : LFr n t m0 e0 X F G X2 F2 G2) (g : LFr n t m0 e0 X2 F2 G2 X3 F3 G3) : LFr n t m0 e0 X F G X3 F3 G3 := by
  obtain ⟨h1, h2, h3, h4, h5, h6⟩ := h
  obtain ⟨g1, g2, g3, g4, g5, g6⟩ := g
  refine ⟨fun i hi => ?_, fun st tok hv ht hm => ?_, fun j => ?_, fun j a b c d e => (g4 j a b c d e).trans (h4 j a b c d e), fun j a => (g5 j a).trans (h5 j a), fun j a b => (g6 j a b).trans (h6 j a b)⟩
  · have a := h1 i hi; have b := g1 i hi
    exact ⟨b.1.trans a.1, b.2.1.trans a.2.1, b.2.2.trans a.2.2⟩
  · have a := h2 st tok hv ht hm; have b := g2 st tok hv ht hm
    exact ⟨b.1.trans a.1, b.2.1.trans a.2.1, b.2.2.1.trans a.2.2.1, b.2.2.2.1.trans a.2.2.2.1, b.2.2.2.2.trans a.2.2.2.2⟩
  · rcases g3 j with b | b
    · rw [b]; exact h3 j
    · exact Or.inr b
theorem LFr.wk {n t m0 e0 m1 e1 : Nat} {X X2 : Nat → Nat → Int32} {F G F2 G2 : Nat → Nat → Nat} (h : LFr n t m1 e1 X F G X2 F2 G2) (hm : m1 ≤ m0) (he : e0 ≤ e1) : LFr n t m0 e0 X F G X2 F2 G2 :=
  ⟨fun i hi => h.1 i (by omega), fun st tok hv ht h2 => h.2.1 st tok hv ht (by omega), h.2.2.1, h.2.2.2.1, h.2.2.2.2.1, h.2.2.2.2.2⟩
section LY
variable {n r t : Nat} {nt : Nat → Nat} {X : Nat → Nat → Int32} {F G : Nat → Nat → Nat} {g13 g14 f15 z : Nat → Nat} {x16 : Nat → Int32} {st0 tok0 e0 : Nat}
theorem L_fr0 (h : ∀ i, i ≠ e0 → z i = F 20 i) : LFr n t (mis n st0) e0 X F G X (va_up F 20 z) G := by
  refine ⟨fun i hi => ⟨rfl, rfl, h i (by omega)⟩, fun _ _ _ _ _ => ⟨rfl, rfl, rfl, rfl, rfl⟩, fun _ => Or.inl rfl, fun j _ _ _ _ h5 => ?_, fun _ _ => rfl, fun _ _ _ => rfl⟩
  exact vu_n _ _ h5
theorem L_k1 (hI : LInv n r t nt X F G) (hs : F 12 (plc st0 tok0) ≠ t) (ho : ∀ j, j ≠ plc st0 tok0 → g13 j = G 13 j ∧ g14 j = G 14 j ∧ f15 j = F 15 j ∧ x16 j = X 16 j) : LInv n r t nt (va_up X 16 x16) (va_up (va_up F 15 f15) 20 z) (va_up (va_up G 13 g13) 14 g14) := by
  intro st tok hv ht he
  have he : F 12 (plc st tok) = t := he
  have hne : plc st tok ≠ plc st0 tok0 := fun h => hs (h ▸ he)
  obtain ⟨⟨a1, a2, a3, a4⟩, b⟩ := hI st tok hv ht he
  obtain ⟨o1, o2, o3, o4⟩ := ho _ hne
  exact ⟨⟨o1.trans a1, o2.trans a2, o3.trans a3, o4.trans a4⟩, b⟩
theorem L_fr1 (hn : n ≤ 4) (hv0 : VS n st0) (ht0 : tok0 < 16) (ho : ∀ j, j ≠ plc st0 tok0 → g13 j = G 13 j ∧ g14 j = G 14 j ∧ f15 j = F 15 j ∧ x16 j = X 16 j) (h : ∀ i, i ≠ e0 → z i = F 20 i) : LFr n t (mis n st0) e0 X F G (va_up X 16 x16) (va_up (va_up F 15 f15) 20 z) (va_up (va_up G 13 g13) 14 g14) := by
  refine ⟨fun i hi => ⟨rfl, rfl, h i (by omega)⟩, fun st tok hv ht hm => ?_, fun _ => Or.inl rfl, fun j _ h2 _ _ h5 => (vu_n _ _ h5).trans (vu_n _ _ h2), fun j h => vu_n _ _ h, fun j h1 h2 => (vu_n _ _ h2).trans (vu_n _ _ h1)⟩
  have hne : plc st tok ≠ plc st0 tok0 := fun h => by
    have := (plc_inj hn hv hv0 ht ht0 h).1
    rw [this] at hm; omega
  obtain ⟨o1, o2, o3, o4⟩ := ho _ hne
  exact ⟨rfl, o1, o2, o3, o4⟩
theorem L_k2 {ch : Nat} (hI : LInv n r t nt X F G) (hs : F 12 ch ≠ t) (z18 z19 z20 : Nat → Nat) : LInv n r t nt (va_up X 16 (upd (X 16) ch (-1))) (va_up (va_up (va_up (va_up F 18 z18) 19 z19) 20 z20) 15 (va_up (F 15) ch 1000)) (va_up (va_up G 13 (va_up (G 13) ch 0)) 14 (va_up (G 14) ch 0)) := by
  intro st tok hv ht he
  have he : F 12 (plc st tok) = t := he
  have hne : plc st tok ≠ ch := fun h => hs (h ▸ he)
  obtain ⟨⟨a1, a2, a3, a4⟩, b⟩ := hI st tok hv ht he
  exact ⟨⟨(vu_n _ _ hne).trans a1, (vu_n _ _ hne).trans a2, (vu_n _ _ hne).trans a3, (ud_n _ _ hne).trans a4⟩, b⟩
theorem L_fr2 {sc tc : Nat} (hn : n ≤ 4) (hv0 : VS n sc) (ht0 : tc < 16) (hm0 : mis n sc < mis n st0) (a b : Nat) : LFr n t (mis n st0) e0 X F G (va_up X 16 (upd (X 16) (plc sc tc) (-1))) (va_up (va_up (va_up (va_up F 18 (va_up (F 18) (e0 + 1) a)) 19 (va_up (F 19) (e0 + 1) b)) 20 (va_up (F 20) (e0 + 1) 0)) 15 (va_up (F 15) (plc sc tc) 1000)) (va_up (va_up G 13 (va_up (G 13) (plc sc tc) 0)) 14 (va_up (G 14) (plc sc tc) 0)) := by
  refine ⟨fun i hi => ⟨vu_n _ _ (by omega), vu_n _ _ (by omega), vu_n _ _ (by omega)⟩, fun st tok hv ht hm => ?_, fun _ => Or.inl rfl, fun j _ h2 h3 h4 h5 => (vu_n _ _ h2).trans ((vu_n _ _ h5).trans ((vu_n _ _ h4).trans (vu_n _ _ h3))), fun j h => vu_n _ _ h, fun j h1 h2 => (vu_n _ _ h2).trans (vu_n _ _ h1)⟩
  have hne : plc st tok ≠ plc sc tc := fun h => by
    have := (plc_inj hn hv hv0 ht ht0 h).1
    rw [this] at hm; omega
  exact ⟨rfl, vu_n _ _ hne, vu_n _ _ hne, vu_n _ _ hne, ud_n _ _ hne⟩
theorem L_16 (hn : n ≤ 4) (hv0 : VS n st0) (ht0 : tok0 < 16) (hI : LInv n r t nt X F G) (hs : F 12 (plc st0 tok0) ≠ t) (hc : ∀ k, k < 16 → cv n nt r st0 tok0 k = true → F 12 (plc (nxS st0 k) (nxT tok0 r k)) = t)
    (hR : Rp g13 g14 f15 x16 (plc st0 tok0) (CN n nt r st0 tok0)) (ho : ∀ j, j ≠ plc st0 tok0 → g13 j = G 13 j ∧ g14 j = G 14 j ∧ f15 j = F 15 j ∧ x16 j = X 16 j) :
    LInv n r t nt (va_up X 16 x16) (va_up (va_up F 12 (va_up (F 12) (plc st0 tok0) t)) 15 f15) (va_up (va_up G 13 g13) 14 g14) ∧ LFr n t (mis n st0) e0 X F G (va_up X 16 x16) (va_up (va_up F 12 (va_up (F 12) (plc st0 tok0) t)) 15 f15) (va_up (va_up G 13 g13) 14 g14) := by
  have keep : ∀ j, F 12 j = t → va_up (F 12) (plc st0 tok0) t j = t := fun j h => by
    unfold va_up; split
    · rfl
    · exact h
  refine ⟨fun st tok hv ht he => ?_, ?_⟩
  · have he : va_up (F 12) (plc st0 tok0) t (plc st tok) = t := he
    by_cases hp : plc st tok = plc st0 tok0
    · obtain ⟨rfl, rfl⟩ := plc_inj hn hv hv0 ht ht0 hp
      exact ⟨hR, fun k hk hcv => keep _ (hc k hk hcv)⟩
    · rw [vu_n _ _ hp] at he
      obtain ⟨⟨a1, a2, a3, a4⟩, b⟩ := hI st tok hv ht he
      obtain ⟨o1, o2, o3, o4⟩ := ho _ hp
      exact ⟨⟨o1.trans a1, o2.trans a2, o3.trans a3, o4.trans a4⟩, fun k hk hcv => keep _ (b k hk hcv)⟩
  · refine ⟨fun i hi => ⟨rfl, rfl, rfl⟩, fun st tok hv ht hm => ?_, fun j => ?_, fun j h1 h2 _ _ _ => (vu_n _ _ h2).trans (vu_n _ _ h1), fun j h => vu_n _ _ h, fun j h1 h2 => (vu_n _ _ h2).trans (vu_n _ _ h1)⟩
    · have hne : plc st tok ≠ plc st0 tok0 := fun h => by
        have := (plc_inj hn hv hv0 ht ht0 h).1
        rw [this] at hm; omega
      obtain ⟨o1, o2, o3, o4⟩ := ho _ hne
      exact ⟨vu_n _ _ hne, o1, o2, o3, o4⟩
    · show va_up (F 12) (plc st0 tok0) t j = F 12 j ∨ _ = t
      by_cases hp : j = plc st0 tok0
      · right; show va_up (F 12) (plc st0 tok0) t j = t; rw [hp, vu_s]
      · left; exact vu_n _ _ hp
end LY
