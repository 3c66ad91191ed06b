/-! ===== worlds in any order; the calls' worlds ===== -/
theorem P_perm {D : va_G} {cl : List vw_C} {ws wt : va_W} {H : Heap} (h : List.Perm ws wt) (hP : va_P D cl ws H) : va_P D cl wt H := va_P_mem.mpr fun q hq => va_P_mem.mp hP q (h.mem_iff.mpr hq)
theorem D_iff {A : Nat → Prop} {ws : va_W} : va_D A ws ↔ (ws.Pairwise (fun p q => p.1 ≠ q.1) ∧ ∀ q ∈ ws, A q.1) := by
  constructor
  · intro h
    refine ⟨List.pairwise_iff_getElem.mpr (fun i j hi hj hij e => ?_), fun q hq => ?_⟩
    · have := h.1 i j ws[i] ws[j] (List.getElem?_eq_getElem hi) (List.getElem?_eq_getElem hj) e
      omega
    · obtain ⟨i, hi⟩ := List.getElem?_of_mem hq
      exact h.2 i q hi
  · intro ⟨hp, ha⟩
    have hp := List.pairwise_iff_getElem.mp hp
    refine ⟨fun i j p q hi hj e => ?_, fun k q hk => ha q (List.mem_of_getElem? hk)⟩
    obtain ⟨hi1, rfl⟩ := List.getElem?_eq_some_iff.mp hi
    obtain ⟨hj1, rfl⟩ := List.getElem?_eq_some_iff.mp hj
    rcases Nat.lt_trichotomy i j with h | h | h
    · exact absurd e (hp i j hi1 hj1 h)
    · exact h
    · exact absurd e.symm (hp j i hj1 hi1 h)
theorem D_perm {A : Nat → Prop} {ws wt : va_W} (h : List.Perm ws wt) (hD : va_D A ws) : va_D A wt := by
  obtain ⟨h1, h2⟩ := D_iff.mp hD
  exact D_iff.mpr ⟨(h.pairwise_iff (fun e => e.symm)).mp h1, fun q hq => h2 q (h.mem_iff.mpr hq)⟩
theorem call_perm {a b c : Nat × va_E} {L M : va_W} : List.Perm (a :: b :: (L ++ (c :: M))) (a :: (L ++ (c :: (M ++ [b])))) := by
  have e : L ++ (c :: (M ++ [b])) = (L ++ (c :: M)) ++ [b] := by simp
  rw [e]; exact (List.perm_append_singleton b _).symm.cons a
theorem P2 {D : va_G} {cl : List vw_C} {ws : va_W} {H : Heap} {a b : Nat × va_E} (hP : va_P D cl ws H) (ha : a ∈ ws) (hb : b ∈ ws) : va_P D cl [a, b] H := va_P_mem.mpr fun q hq => by
  rcases List.mem_cons.mp hq with rfl | hq
  · exact va_P_mem.mp hP _ ha
  · rw [List.mem_singleton.mp hq]; exact va_P_mem.mp hP _ hb
def oaW (ca ra : Nat → Nat) (ao : Nat) (C : Nat → Nat) (a1 a2 a3 fo sc : Nat) : va_W := [oC ca ra ao C, (ao, .inr (0, [.ref a1, .ref a2, .int (nI fo), .ref a3, .int (nI sc)]))]
def omd (E : EE) (ca ra : Nat → Nat) (ao : Nat) (C : Nat → Nat) (md : Nat → Option Nat) : va_W := [oC ca ra ao C, mdC E (ca 2) md]
def ocW (E : EE) (ca ra : Nat → Nat) (ao : Nat) (C : Nat → Nat) (md : Nat → Option Nat) (Z : Nat → Nat → Nat) (k : Nat) : va_W := oC ca ra ao C :: mdC E (ca 2) md :: clL Z k
def otW (E : EE) (ca ra : Nat → Nat) (ao : Nat) (C : Nat → Nat) (tr : Int32) (md : Nat → Option Nat) (Z : Nat → Nat → Nat) (k : Nat) : va_W := oC ca ra ao C :: (ca 3, .inr (7, [.int tr])) :: mdC E (ca 2) md :: clL Z k
theorem oc_sub {E : EE} {ca ra : Nat → Nat} {ao : Nat} {C : Nat → Nat} {md : Nat → Option Nat} {Z : Nat → Nat → Nat} {k : Nat} : ∀ q ∈ clL Z k, q ∈ ocW E ca ra ao C md Z k := fun q hq => List.mem_cons_of_mem _ (List.mem_cons_of_mem _ hq)
theorem ot_sub {E : EE} {ca ra : Nat → Nat} {ao : Nat} {C : Nat → Nat} {tr : Int32} {md : Nat → Option Nat} {Z : Nat → Nat → Nat} {k : Nat} : ∀ q ∈ clL Z k, q ∈ otW E ca ra ao C tr md Z k := fun q hq => List.mem_cons_of_mem _ (List.mem_cons_of_mem _ (List.mem_cons_of_mem _ hq))
theorem of_sub {E : EE} {ca ra : Nat → Nat} {ao : Nat} {C : Nat → Nat} {a1 a2 a3 fo sc : Nat} {Rw Su Si : Nat → Nat} {md : Nat → Option Nat} {Z : Nat → Nat → Nat} {k : Nat} : ∀ q ∈ clL Z k, q ∈ ofW E ca ra ao C a1 a2 a3 fo sc Rw Su Si md Z k := fun q hq => List.mem_cons_of_mem _ (fd_sub q hq)
theorem of_s {E : EE} {ca ra : Nat → Nat} {ao : Nat} {C : Nat → Nat} {a1 a2 a3 fo sc : Nat} {Rw Su Si : Nat → Nat} {md : Nat → Option Nat} {Z : Nat → Nat → Nat} {k : Nat} : ofW E ca ra ao C a1 a2 a3 fo sc Rw Su Si md Z (k + 1) = ofW E ca ra ao C a1 a2 a3 fo sc Rw Su Si md Z k ++ [clC Z k] := by
  show oC ca ra ao C :: (alW E ao a1 a2 a3 fo sc Rw Su Si ++ (mdC E (ca 2) md :: (clL Z k ++ [clC Z k]))) = oC ca ra ao C :: (alW E ao a1 a2 a3 fo sc Rw Su Si ++ (mdC E (ca 2) md :: clL Z k)) ++ [clC Z k]
  simp
theorem clL_new {Z : Nat → Nat → Nat} {k : Nat} {v : Nat → Nat} : clL (fun c => va_up (Z c) k (v c)) (k + 1) = clL Z k ++ [(v 0, .inr (kci (v 1), [.int (nI k), .int (nI (v 2)), .int (nI (v 3)), .long (lN (v 4)), .long (lN (v 5))]))] := by
  show clL _ k ++ [clC _ k] = _
  rw [clL_cong (Z2 := Z) k (fun c _ i hi => vu_n _ _ (by omega))]
  unfold clC cF
  simp only [vu_s]
theorem isP_0 (v : Int32) : isP v 0 = false := decide_eq_false (fun h => h.2 (by rw [nI_0]; exact Int32.not_lt.mp h.1))
theorem CS.lr {n k : Nat} {net : Nat → Nat} {Z : Nat → Nat → Nat} {C : Nat → Nat} (h : CS n k net Z C) {c w : Nat} (hc : c < k) (hw : w < 4) : of4 (Z 5 c) w &&& (of4 (Z 4 c) w ^^^ 4294967295) = lrn n (Z 2) (Z 3) c w := by
  unfold lrn; rw [(h.af hc).sec w hw, (h.cl c hc).2.1.sec w hw]
/-- answers with what is left behind: a fault, the trace -/
def asV (n k : Nat) (cP cQ : Nat → Nat) (a b : Int32) : Int32 × Nat := if isP a k = false then (-1, 0) else if isIn b (nI 0) (nI 2) = false then (-2, 0) else if knd n cP cQ a.toNatClampNeg < b.toNatClampNeg then ((-10) - nI 2, 2) else (nI 1, 0)
def tlV (n k : Nat) (cP cQ : Nat → Nat) (tr a : Int32) : Int32 × Int32 := if isP a k = false then (-1, tr) else (nI (tellV n cP cQ a.toNatClampNeg), tellT tr (knd n cP cQ a.toNatClampNeg))
def lgV (n k : Nat) (cP cQ : Nat → Nat) (tr a : Int32) : Int32 × Int32 := if isP a k = false then (-1, tr) else if knd n cP cQ a.toNatClampNeg = 2 then (nI 70, nI 31 * tr + nI 5) else (nI a.toNatClampNeg, nI 31 * tr + nI 4)
theorem lt3_isIn {v : Int32} (h0 : ¬ v < 0) (h : v < nI 3) : isIn v (nI 0) (nI 2) = true := isIn_z2 (by decide) h0 (fun h2 => absurd h (Int32.not_lt.mpr h2))
theorem ge3_isIn {v : Int32} (h : ¬ v < nI 3) : isIn v (nI 0) (nI 2) = false := isIn_f3 (b := 2) (by decide) (Int32.not_lt.mp h)
/-- the state behind a call -/
def CLP (E : EE) (ca ra : Nat → Nat) (ao : Nat) (C : Nat → Nat) (a1 a2 a3 : Nat) (Z : Nat → Nat → Nat) (n k : Nat) (net : Nat → Nat) (k2 : Nat) (p2 q2 : Nat → Nat) (w1 : va_W) : Prop :=
  ∃ (C2 : Nat → Nat) (fo sc : Nat) (Rw Su Si : Nat → Nat) (md : Nat → Option Nat) (Z2 : Nat → Nat → Nat), w1 = ofW E ca ra ao C2 a1 a2 a3 fo sc Rw Su Si md Z2 k2 ∧ CS n k2 net Z2 C2 ∧ (∀ i, i < k2 → md i = some (Z2 0 i)) ∧ AI n k2 net Z2 fo Rw Su Si ∧ Z2 2 = p2 ∧ Z2 3 = q2 ∧ ∀ j, j ≠ 2 → j ≠ 4 → C2 j = C j
