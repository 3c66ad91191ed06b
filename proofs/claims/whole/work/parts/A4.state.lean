/-! ===== the class's state ===== -/
/-- the class of a call by its kind -/
def kci : Nat → Nat
  | 0 => 1
  | 1 => 3
  | _ => 8
/-- calls in a table Z: 0 address, 1 kind, 2 who rang, 3 who was rung, 4 and 5 the positions before and after -/
abbrev cF (Z : Nat → Nat → Nat) (i : Nat) : List Value := [.int (nI i), .int (nI (Z 2 i)), .int (nI (Z 3 i)), .long (lN (Z 4 i)), .long (lN (Z 5 i))]
def clC (Z : Nat → Nat → Nat) (i : Nat) : Nat × va_E := (Z 0 i, .inr (kci (Z 1 i), cF Z i))
def clL (Z : Nat → Nat → Nat) : Nat → va_W
  | 0 => []
  | k + 1 => clL Z k ++ [clC Z k]
theorem clL_mem {Z : Nat → Nat → Nat} {i : Nat} : ∀ k, i < k → clC Z i ∈ clL Z k
  | 0, h => absurd h (by omega)
  | k + 1, h => by
    show _ ∈ clL Z k ++ [clC Z k]
    rcases (by omega : i < k ∨ i = k) with h1 | h1
    · exact List.mem_append_left _ (clL_mem k h1)
    · rw [h1]; exact List.mem_append_right _ (List.mem_singleton.mpr rfl)
theorem clL_cong {Z Z2 : Nat → Nat → Nat} : ∀ k, (∀ c, c < 6 → ∀ i, i < k → Z c i = Z2 c i) → clL Z k = clL Z2 k
  | 0, _ => rfl
  | k + 1, h => by
    show clL Z k ++ [clC Z k] = clL Z2 k ++ [clC Z2 k]
    have e : clC Z k = clC Z2 k := by
      unfold clC cF
      rw [h 0 (by decide) k (by omega), h 1 (by decide) k (by omega), h 2 (by decide) k (by omega), h 3 (by decide) k (by omega), h 4 (by decide) k (by omega), h 5 (by decide) k (by omega)]
    rw [clL_cong k (fun c hc i hi => h c hc i (by omega)), e]
def mdC (E : EE) (m0 : Nat) (md : Nat → Option Nat) : Nat × va_E := (m0, .inl (E.2 4, 12, .inr (.inr (.inr (.inr md)))))
theorem cl_at {D : va_G} {cl : List vw_C} {ws : va_W} {H : Heap} {Z : Nat → Nat → Nat} {k i t : Nat} (hP : va_P D cl ws H) (hsub : ∀ q ∈ clL Z k, q ∈ ws) (hi : i < k) (hk : Z 1 i = t) : va_P D cl [(Z 0 i, .inr (kci t, cF Z i))] H := by
  refine va_P_mem.mpr fun q hq => ?_
  rw [List.mem_singleton.mp hq]
  have h := va_P_mem.mp hP _ (hsub _ (clL_mem k hi))
  unfold clC at h
  rw [hk] at h; exact h
/-- a position behind c calls -/
abbrev PsK (n : Nat) (net cP cQ : Nat → Nat) (c P : Nat) : Prop := Ps n net (stS n cP cQ c) (tokS n 2 cP cQ c) (tokS n 3 cP cQ c) P
/-- the class's state stands for: n persons, the net, k calls -/
def CS (n k : Nat) (net : Nat → Nat) (Z : Nat → Nat → Nat) (C : Nat → Nat) : Prop :=
  (n ≤ 4 ∧ k ≤ 12) ∧ ((∀ j, net j < 16) ∧ NB n net ∧ ∀ p, p < n → (net p).testBit p = false) ∧ (∀ c, c < k → Z 2 c < n ∧ Z 3 c < n ∧ Z 2 c ≠ Z 3 c) ∧ C 2 = k ∧ PsK n net (Z 2) (Z 3) 0 (C 3) ∧ PsK n net (Z 2) (Z 3) k (C 4) ∧ (∀ c, c < k → Z 1 c = knd n (Z 2) (Z 3) c ∧ PsK n net (Z 2) (Z 3) c (Z 4 c) ∧ Z 5 c = rng (Z 4 c) (Z 2 c) (Z 3 c))
section CS1
variable {n k : Nat} {net : Nat → Nat} {Z : Nat → Nat → Nat} {C : Nat → Nat}
theorem CS.n4 (h : CS n k net Z C) : n ≤ 4 := h.1.1
theorem CS.k12 (h : CS n k net Z C) : k ≤ 12 := h.1.2
theorem CS.n16 (h : CS n k net Z C) : ∀ j, net j < 16 := h.2.1.1
theorem CS.nb (h : CS n k net Z C) : NB n net := h.2.1.2.1
theorem CS.own (h : CS n k net Z C) : ∀ p, p < n → (net p).testBit p = false := h.2.1.2.2
theorem CS.pq (h : CS n k net Z C) : ∀ c, c < k → Z 2 c < n ∧ Z 3 c < n ∧ Z 2 c ≠ Z 3 c := h.2.2.1
theorem CS.pq2 (h : CS n k net Z C) : ∀ c, c < k → Z 2 c < n ∧ Z 3 c < n := fun c hc => ⟨(h.pq c hc).1, (h.pq c hc).2.1⟩
theorem CS.cnt (h : CS n k net Z C) : C 2 = k := h.2.2.2.1
theorem CS.st (h : CS n k net Z C) : PsK n net (Z 2) (Z 3) 0 (C 3) := h.2.2.2.2.1
theorem CS.nw (h : CS n k net Z C) : PsK n net (Z 2) (Z 3) k (C 4) := h.2.2.2.2.2.1
theorem CS.cl (h : CS n k net Z C) : ∀ c, c < k → Z 1 c = knd n (Z 2) (Z 3) c ∧ PsK n net (Z 2) (Z 3) c (Z 4 c) ∧ Z 5 c = rng (Z 4 c) (Z 2 c) (Z 3 c) := h.2.2.2.2.2.2
theorem CS.vs (h : CS n k net Z C) : ∀ c, c ≤ k → VS n (stS n (Z 2) (Z 3) c) := fun c hc => VS_stS h.n4 c (fun i hi => h.pq2 i (by omega))
theorem CS.af (h : CS n k net Z C) {c : Nat} (hc : c < k) : PsK n net (Z 2) (Z 3) (c + 1) (Z 5 c) := by
  rw [(h.cl c hc).2.2]
  exact Ps_ring h.n4 (h.vs c (by omega)) (h.cl c hc).2.1 (h.pq c hc).1 (h.pq c hc).2.1 (h.pq c hc).2.2
theorem CS.k1 (h : CS n k net Z C) {c : Nat} (hc : c < k) : Z 1 c = 0 ∨ Z 1 c = 1 ∨ Z 1 c = 2 := by
  rw [(h.cl c hc).1]; have := knd_le n (Z 2) (Z 3) c; omega
end CS1
/-- what was found of rows that are alike -/
def AI (n k : Nat) (net : Nat → Nat) (Z : Nat → Nat → Nat) (fo : Nat) (Rw Su Si : Nat → Nat) : Prop :=
  fo < 16 ∧ (∀ i, Si i < 256) ∧ ∀ p, p < n → fo.testBit p = true → Rw p = alC (ALf n k net (Z 2) (Z 3) p) (16 ^ k) ∧ Su p = alA (ALf n k net (Z 2) (Z 3) p) (16 ^ k)
/-- nothing found yet -/
theorem AI_0 {n k : Nat} {net : Nat → Nat} {Z : Nat → Nat → Nat} {Rw Su Si : Nat → Nat} (h : ∀ i, Si i < 256) : AI n k net Z 0 Rw Su Si := ⟨by decide, h, fun p _ hb => by simp at hb⟩
def fdW (E : EE) (ao a1 a2 a3 fo sc : Nat) (Rw Su Si : Nat → Nat) (m0 : Nat) (md : Nat → Option Nat) (Z : Nat → Nat → Nat) (k : Nat) : va_W := alW E ao a1 a2 a3 fo sc Rw Su Si ++ (mdC E m0 md :: clL Z k)
theorem fd_sub {E : EE} {ao a1 a2 a3 fo sc : Nat} {Rw Su Si : Nat → Nat} {m0 : Nat} {md : Nat → Option Nat} {Z : Nat → Nat → Nat} {k : Nat} : ∀ q ∈ clL Z k, q ∈ fdW E ao a1 a2 a3 fo sc Rw Su Si m0 md Z k := fun q hq => List.mem_append_right _ (List.mem_cons_of_mem _ hq)
theorem AI_put {n k : Nat} {net : Nat → Nat} {Z : Nat → Nat → Nat} {C : Nat → Nat} {fo ww : Nat} {Rw Su Si Sb : Nat → Nat} (hc : CS n k net Z C) (hw : ww < n) (h : AI n k net Z fo Rw Su Si) (hb : ∀ i, Sb i < 256) (hSi : ∀ i, i < k → Sb i = sgS ww (Z 2 i) (Z 3 i) (stS n (Z 2) (Z 3) (i + 1))) :
    AI n k net Z (fo ||| 1 <<< ww) (va_up (va_up Rw ww 0) ww (va_up Rw ww 0 ww + trC n net ww Sb k 0 (startN n))) (va_up (va_up Su ww 65535) ww (trA n net ww Sb k 0 (startN n) (va_up Su ww 65535 ww))) Sb := by
  have hn := hc.n4
  refine ⟨or_lt (n := 4) h.1 (one_shl (by omega)), hb, fun p hp hf => ?_⟩
  rw [vu_vu, vu_vu, vu_s, vu_s]
  by_cases e : p = ww
  · rw [e, vu_s, vu_s, Nat.zero_add, tr_C0 hn hw hSi hc.pq2, tr_A0 hn hw hSi hc.pq2]; exact ⟨rfl, rfl⟩
  · rw [vu_n _ _ e, vu_n _ _ e]
    refine h.2.2 p hp ?_
    rw [Nat.testBit_or, Nat.one_shiftLeft, Nat.testBit_two_pow, decide_eq_false (fun h9 => e h9.symm), Bool.or_false] at hf
    exact hf
theorem bit_or (x k : Nat) : (x ||| 1 <<< k).testBit k = true := by
  rw [Nat.testBit_or, Nat.one_shiftLeft, Nat.testBit_two_pow, decide_eq_true rfl, Bool.or_true]
/-- the object itself: field numbers are C's keys -/
def oC (ca ra : Nat → Nat) (ao : Nat) (C : Nat → Nat) : Nat × va_E := (ca 0, .inr (9, [.ref (ca 1), .ref (ca 2), .int (nI (C 2)), .long (lN (C 3)), .long (lN (C 4)), .int (nI (C 5)), .ref (ca 3), .ref (ra 0), .ref ao, .ref (ca 4), .int (nI (C 10)), .ref (ca 5), .int (nI (C 12))]))
def oW (ca ra : Nat → Nat) (ao : Nat) (C : Nat → Nat) : va_W := [oC ca ra ao C]
