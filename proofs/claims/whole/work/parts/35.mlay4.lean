set_option maxHeartbeats 4000000 in
set_option maxRecDepth 100000 in
theorem lay_sub6 {p : Program} {l : Launch} {e : Env} {s : State} {m : MethodId} {args : Array Value} {below : List Frame} {meth : Method} {c : Code} {A : Nat → Prop} {Q : State → Prop} {E : EE} (hC : CX p s m meth c args cX12_lay 13 (some .int) yX12_lay.cls) (hK : va_K E.1 vwCl (tyE E) s) (hA : ∀ q : Nat, s.heap.size ≤ q → A q)
    (ad : Nat → Nat) (tr : Int32) (N nt : Nat → Nat) (root : Nat) (hn22 : N 22 ≤ 4) (hr23 : N 23 < 4) (ht : N 17 < 2 ^ 31) (hnt : ∀ j, nt j < 16) :
    ∀ (d st0 tok0 e0 : Nat), VS (N 22) st0 → tok0 < 16 → mis (N 22) st0 ≤ d → e0 + mis (N 22) st0 ≤ 14 → ∀ (j k : Nat) (X : Nat → Nat → Int32) (F G : Nat → Nat → Nat), k + j = 16 → F 6 = nt → F 18 e0 = st0 → F 19 e0 = tok0 → F 20 e0 = k →
      Rp (G 13) (G 14) (F 15) (X 16) (plc st0 tok0) (accC (N 22) nt (N 23) (CN (N 22) nt (N 23)) st0 tok0 k) → (∀ i, i < k → cv (N 22) nt (N 23) st0 tok0 i = true → F 12 (plc (nxS st0 i) (nxT tok0 (N 23) i)) = N 17) → F 12 (plc st0 tok0) ≠ N 17 → LInv (N 22) (N 23) (N 17) nt X F G → (∀ i, F 12 i ≤ N 17) →
      (∀ (X2 : Nat → Nat → Int32) (F2 G2 : Nat → Nat → Nat), LInv (N 22) (N 23) (N 17) nt X2 F2 G2 → LFr (N 22) (N 17) (mis (N 22) st0) e0 X F G X2 F2 G2 → F2 12 (plc st0 tok0) = N 17 → (∀ i, F2 12 i ≤ N 17) → ∀ (H : Heap) (locs : List Loc) (hP : va_P E.1 vwCl (mW E ad (ad 6) tr N X2 F2 G2) H) (hD : va_D A (mW E ad (ad 6) tr N X2 F2 G2)) (hS : va_S A s.heap H locs) (ls : Array Slot), lv_has ls 13 [(0, .ref (ad 0)), (3, .int (nI root)), (4, .int (nI e0 + Int32.ofInt (-1)))] → W p l e rm_X12_lay s m args below meth c H locs 0 0 Q (F0 m 31 ls [])) →
      ∀ (H : Heap) (locs : List Loc) (hP : va_P E.1 vwCl (mW E ad (ad 6) tr N X F G) H) (hD : va_D A (mW E ad (ad 6) tr N X F G)) (hS : va_S A s.heap H locs) (ls : Array Slot), lv_has ls 13 [(0, .ref (ad 0)), (3, .int (nI root)), (4, .int (nI e0))] → W p l e rm_X12_lay s m args below meth c H locs 0 0 Q (F0 m 31 ls []) := by
  intro d
  induction d using Nat.strongRecOn with
  | _ d ihd =>
  intro st0 tok0 e0 hv ht0 hm he j
  have hst : st0 < 65536 := VS_lt hn22 hv
  induction j with
  | zero =>
    intro k X F G hkj hF h18 h19 h20 hR hc hs hI hle Kont H locs hP hD hS ls hl
    have hk : k = 16 := by omega
    subst hk
    have it := lay_it6 (Q := Q) (below := below) (l := l) (e := e) hC hK hA ad tr N X F G root st0 tok0 e0 16 (by omega) h18 h19 h20 hst ht0 (by omega) hn22 hr23 ht (fun i => Nat.lt_of_le_of_lt (hle i) ht)
    rw [hF] at it
    refine it hnt _ (0, 0, 0, 0) hR (ACC_sm (by omega)) (fun hcv => ?_) (fun _ g13 g14 f15 x16 H locs hP hD hS hR9 ho9 ls hl => ?_) (fun h => absurd h (by omega)) (fun h => absurd h (by omega)) (fun h => absurd h (by omega)) H locs hP hD hS ls hl
    · exfalso
      have := (cv_ok hn22 hv hcv).1
      omega
    · rw [← CN_eq hn22 hv] at hR9
      obtain ⟨a1, a2⟩ := L_16 (e0 := e0) hn22 hv ht0 hI hs (fun k hk hcv => hc k hk hcv) hR9 ho9
      refine Kont _ _ _ a1 a2 (vu_s _ _ _) (fun i => ?_) H locs hP hD hS ls hl
      show va_up (F 12) (plc st0 tok0) (N 17) i ≤ N 17
      unfold va_up; split
      · exact Nat.le_refl _
      · exact hle i
  | succ j ihj =>
    have step : ∀ (k : Nat) (X : Nat → Nat → Int32) (F G : Nat → Nat → Nat), k + (j + 1) = 16 → F 6 = nt → F 18 e0 = st0 → F 19 e0 = tok0 → F 20 e0 = k →
      Rp (G 13) (G 14) (F 15) (X 16) (plc st0 tok0) (accC (N 22) nt (N 23) (CN (N 22) nt (N 23)) st0 tok0 k) → (∀ i, i < k → cv (N 22) nt (N 23) st0 tok0 i = true → F 12 (plc (nxS st0 i) (nxT tok0 (N 23) i)) = N 17) → F 12 (plc st0 tok0) ≠ N 17 → LInv (N 22) (N 23) (N 17) nt X F G → (∀ i, F 12 i ≤ N 17) → (cv (N 22) nt (N 23) st0 tok0 k = true → F 12 (plc (nxS st0 k) (nxT tok0 (N 23) k)) = N 17) →
      (∀ (X2 : Nat → Nat → Int32) (F2 G2 : Nat → Nat → Nat), LInv (N 22) (N 23) (N 17) nt X2 F2 G2 → LFr (N 22) (N 17) (mis (N 22) st0) e0 X F G X2 F2 G2 → F2 12 (plc st0 tok0) = N 17 → (∀ i, F2 12 i ≤ N 17) → ∀ (H : Heap) (locs : List Loc) (hP : va_P E.1 vwCl (mW E ad (ad 6) tr N X2 F2 G2) H) (hD : va_D A (mW E ad (ad 6) tr N X2 F2 G2)) (hS : va_S A s.heap H locs) (ls : Array Slot), lv_has ls 13 [(0, .ref (ad 0)), (3, .int (nI root)), (4, .int (nI e0 + Int32.ofInt (-1)))] → W p l e rm_X12_lay s m args below meth c H locs 0 0 Q (F0 m 31 ls [])) →
      ∀ (H : Heap) (locs : List Loc) (hP : va_P E.1 vwCl (mW E ad (ad 6) tr N X F G) H) (hD : va_D A (mW E ad (ad 6) tr N X F G)) (hS : va_S A s.heap H locs) (ls : Array Slot), lv_has ls 13 [(0, .ref (ad 0)), (3, .int (nI root)), (4, .int (nI e0))] → W p l e rm_X12_lay s m args below meth c H locs 0 0 Q (F0 m 31 ls []) := by
      intro k X F G hkj hF h18 h19 h20 hR hc hs hI hle hseen Kont H locs hP hD hS ls hl
      have it := lay_it6 (Q := Q) (below := below) (l := l) (e := e) hC hK hA ad tr N X F G root st0 tok0 e0 k (by omega) h18 h19 h20 hst ht0 (by omega) hn22 hr23 ht (fun i => Nat.lt_of_le_of_lt (hle i) ht)
      rw [hF] at it
      have ez : ∀ i, i ≠ e0 → va_up (F 20) e0 (k + 1) i = F 20 i := fun i hi => vu_n _ _ hi
      refine it hnt _ (CN (N 22) nt (N 23) (nxS st0 k) (nxT tok0 (N 23) k)) hR (ACC_sm (by omega)) (fun hcv hs9 => ?_) (fun h => absurd h (by omega)) (fun _ hcv H locs hP hD hS ls hl => ?_) (fun _ hcv hs9 g13 g14 f15 x16 H locs hP hD hS hR9 ho9 ls hl => ?_) (fun _ hcv hns => absurd (hseen hcv) hns) H locs hP hD hS ls hl
      · obtain ⟨c1, c2, c3, c4, c5⟩ := cv_ok hn22 hv hcv
        exact ⟨(hI _ _ c4 (tokA_lt ht0 (by omega)) hs9).1, CN_sm, fun h => hs (h ▸ hs9)⟩
      · refine ihj (k + 1) X (va_up F 20 (va_up (F 20) e0 (k + 1))) G (by omega) hF h18 h19 (vu_s _ _ _) ?_ ?_ hs hI hle (fun X2 F2 G2 a1 a2 a3 a4 => Kont X2 F2 G2 a1 ((L_fr0 ez).tr a2) a3 a4) H locs hP hD hS ls hl
        · rw [accC, hcv]; exact hR
        · intro i hi hci
          rcases Nat.lt_or_ge i k with h6 | h6
          · exact hc i h6 hci
          · rw [show i = k by omega, hcv] at hci; cases hci
      · refine ihj (k + 1) (va_up X 16 x16) (va_up (va_up F 15 f15) 20 (va_up (F 20) e0 (k + 1))) (va_up (va_up G 13 g13) 14 g14) (by omega) hF h18 h19 (vu_s _ _ _) ?_ ?_ hs (L_k1 hI hs ho9) hle (fun X2 F2 G2 a1 a2 a3 a4 => Kont X2 F2 G2 a1 ((L_fr1 hn22 hv ht0 ho9 ez).tr a2) a3 a4) H locs hP hD hS ls hl
        · rw [accC, if_pos hcv]; exact hR9
        · intro i hi hci
          rcases Nat.lt_or_ge i k with h6 | h6
          · exact hc i h6 hci
          · rw [show i = k by omega]; exact hs9
    intro k X F G hkj hF h18 h19 h20 hR hc hs hI hle Kont H locs hP hD hS ls hl
    by_cases hseen : cv (N 22) nt (N 23) st0 tok0 k = true → F 12 (plc (nxS st0 k) (nxT tok0 (N 23) k)) = N 17
    · exact step k X F G hkj hF h18 h19 h20 hR hc hs hI hle hseen Kont H locs hP hD hS ls hl
    · have hcv : cv (N 22) nt (N 23) st0 tok0 k = true := Classical.byContradiction fun h => hseen (fun h2 => absurd h2 h)
      have hns : F 12 (plc (nxS st0 k) (nxT tok0 (N 23) k)) ≠ N 17 := fun h => hseen (fun _ => h)
      obtain ⟨c1, c2, c3, c4, c5⟩ := cv_ok hn22 hv hcv
      have htc : nxT tok0 (N 23) k < 16 := tokA_lt ht0 (by omega)
      have it := lay_it6 (Q := Q) (below := below) (l := l) (e := e) hC hK hA ad tr N X F G root st0 tok0 e0 k (by omega) h18 h19 h20 hst ht0 (by omega) hn22 hr23 ht (fun i => Nat.lt_of_le_of_lt (hle i) ht)
      rw [hF] at it
      have hpne : plc st0 tok0 ≠ plc (nxS st0 k) (nxT tok0 (N 23) k) := fun h => by
        have := (plc_inj hn22 hv c4 ht0 htc h).1
        rw [← this] at c5; omega
      refine it hnt _ (0, 0, 0, 0) hR (ACC_sm (by omega)) (fun _ hs9 => absurd hs9 hns) (fun h => absurd h (by omega)) (fun _ hcf => absurd (hcf.symm.trans hcv) (by decide)) (fun _ _ hs9 => absurd hs9 hns) (fun _ _ _ H locs hP hD hS ls hl => ?_) H locs hP hD hS ls hl
      refine ihd (mis (N 22) (nxS st0 k)) (by omega) (nxS st0 k) (nxT tok0 (N 23) k) (e0 + 1) c4 htc (Nat.le_refl _) (by omega) 16 0 (va_up X 16 (upd (X 16) (plc (nxS st0 k) (nxT tok0 (N 23) k)) (-1))) (va_up (va_up (va_up (va_up F 18 (va_up (F 18) (e0 + 1) (nxS st0 k))) 19 (va_up (F 19) (e0 + 1) (nxT tok0 (N 23) k))) 20 (va_up (F 20) (e0 + 1) 0)) 15 (va_up (F 15) (plc (nxS st0 k) (nxT tok0 (N 23) k)) 1000)) (va_up (va_up G 13 (va_up (G 13) (plc (nxS st0 k) (nxT tok0 (N 23) k)) 0)) 14 (va_up (G 14) (plc (nxS st0 k) (nxT tok0 (N 23) k)) 0)) (by omega) hF (vu_s _ _ _) (vu_s _ _ _) (vu_s _ _ _) ⟨vu_s _ _ _, vu_s _ _ _, vu_s _ _ _, (ud_s _ _ _).trans (show (-1 : Int32) = nI 0 + (-1) by decide)⟩ (fun i hi => absurd hi (by omega)) hns (L_k2 hI hns _ _ _) hle (fun X2 F2 G2 b1 b2 b3 b4 H locs hP hD hS ls hl => ?_) H locs hP hD hS ls hl
      have hfr2 : LFr (N 22) (N 17) (mis (N 22) st0) e0 X F G _ _ _ := L_fr2 (sc := nxS st0 k) (tc := nxT tok0 (N 23) k) hn22 c4 htc c5 (nxS st0 k) (nxT tok0 (N 23) k)
      have hfr3 := hfr2.tr (b2.wk (by omega) (by omega))
      have hu := b2.1 e0 (by omega)
      have hw := b2.2.1 st0 tok0 hv ht0 c5
      have hne1 : e0 ≠ e0 + 1 := by omega
      refine step k X2 F2 G2 hkj ((b2.2.2.2.1 6 (by decide) (by decide) (by decide) (by decide) (by decide)).trans hF) (hu.1.trans ((vu_n _ _ hne1).trans h18)) (hu.2.1.trans ((vu_n _ _ hne1).trans h19)) (hu.2.2.trans ((vu_n _ _ hne1).trans h20)) ?_ (fun i hi hci => ?_) (fun h => hs (hw.1.symm.trans h)) b1 b4 (fun _ => b3) (fun X3 F3 G3 a1 a2 a3 a4 => Kont X3 F3 G3 a1 (hfr3.tr a2) a3 a4) H locs hP hD hS ls ?_
      · obtain ⟨r1, r2, r3, r4⟩ := hR
        exact ⟨hw.2.1.trans ((vu_n _ _ hpne).trans r1), hw.2.2.1.trans ((vu_n _ _ hpne).trans r2), hw.2.2.2.1.trans ((vu_n _ _ hpne).trans r3), hw.2.2.2.2.trans ((ud_n _ _ hpne).trans r4)⟩
      · rcases b2.2.2.1 (plc (nxS st0 i) (nxT tok0 (N 23) i)) with h6 | h6
        · exact h6.trans (hc i hi hci)
        · exact h6
      · rw [show nI (e0 + 1) + Int32.ofInt (-1) = nI e0 from pk_m1 e0] at hl
        exact hl

set_option maxHeartbeats 4000000 in
set_option maxRecDepth 100000 in
theorem lay_sub28 {p : Program} {l : Launch} {e : Env} {s : State} {m : MethodId} {args : Array Value} {below : List Frame} {meth : Method} {c : Code} {A : Nat → Prop} {Q : State → Prop} {E : EE} (hC : CX p s m meth c args cX12_lay 13 (some .int) yX12_lay.cls) (hK : va_K E.1 vwCl (tyE E) s) (hA : ∀ q : Nat, s.heap.size ≤ q → A q)
    (ad : Nat → Nat) (tr : Int32) (N nt : Nat → Nat) (root : Nat) (hn22 : N 22 ≤ 4) (hr23 : N 23 < 4) (ht : N 17 < 2 ^ 31) (hnt : ∀ j, nt j < 16) :
    ∀ (d st0 tok0 e0 : Nat), VS (N 22) st0 → tok0 < 16 → mis (N 22) st0 ≤ d → e0 + mis (N 22) st0 ≤ 14 → ∀ (j k : Nat) (X : Nat → Nat → Int32) (F G : Nat → Nat → Nat), k + j = 16 → F 28 = nt → F 18 e0 = st0 → F 19 e0 = tok0 → F 20 e0 = k →
      Rp (G 13) (G 14) (F 15) (X 16) (plc st0 tok0) (accC (N 22) nt (N 23) (CN (N 22) nt (N 23)) st0 tok0 k) → (∀ i, i < k → cv (N 22) nt (N 23) st0 tok0 i = true → F 12 (plc (nxS st0 i) (nxT tok0 (N 23) i)) = N 17) → F 12 (plc st0 tok0) ≠ N 17 → LInv (N 22) (N 23) (N 17) nt X F G → (∀ i, F 12 i ≤ N 17) →
      (∀ (X2 : Nat → Nat → Int32) (F2 G2 : Nat → Nat → Nat), LInv (N 22) (N 23) (N 17) nt X2 F2 G2 → LFr (N 22) (N 17) (mis (N 22) st0) e0 X F G X2 F2 G2 → F2 12 (plc st0 tok0) = N 17 → (∀ i, F2 12 i ≤ N 17) → ∀ (H : Heap) (locs : List Loc) (hP : va_P E.1 vwCl (mW E ad (ad 28) tr N X2 F2 G2) H) (hD : va_D A (mW E ad (ad 28) tr N X2 F2 G2)) (hS : va_S A s.heap H locs) (ls : Array Slot), lv_has ls 13 [(0, .ref (ad 0)), (3, .int (nI root)), (4, .int (nI e0 + Int32.ofInt (-1)))] → W p l e rm_X12_lay s m args below meth c H locs 0 0 Q (F0 m 31 ls [])) →
      ∀ (H : Heap) (locs : List Loc) (hP : va_P E.1 vwCl (mW E ad (ad 28) tr N X F G) H) (hD : va_D A (mW E ad (ad 28) tr N X F G)) (hS : va_S A s.heap H locs) (ls : Array Slot), lv_has ls 13 [(0, .ref (ad 0)), (3, .int (nI root)), (4, .int (nI e0))] → W p l e rm_X12_lay s m args below meth c H locs 0 0 Q (F0 m 31 ls []) := by
  intro d
  induction d using Nat.strongRecOn with
  | _ d ihd =>
  intro st0 tok0 e0 hv ht0 hm he j
  have hst : st0 < 65536 := VS_lt hn22 hv
  induction j with
  | zero =>
    intro k X F G hkj hF h18 h19 h20 hR hc hs hI hle Kont H locs hP hD hS ls hl
    have hk : k = 16 := by omega
    subst hk
    have it := lay_it28 (Q := Q) (below := below) (l := l) (e := e) hC hK hA ad tr N X F G root st0 tok0 e0 16 (by omega) h18 h19 h20 hst ht0 (by omega) hn22 hr23 ht (fun i => Nat.lt_of_le_of_lt (hle i) ht)
    rw [hF] at it
    refine it hnt _ (0, 0, 0, 0) hR (ACC_sm (by omega)) (fun hcv => ?_) (fun _ g13 g14 f15 x16 H locs hP hD hS hR9 ho9 ls hl => ?_) (fun h => absurd h (by omega)) (fun h => absurd h (by omega)) (fun h => absurd h (by omega)) H locs hP hD hS ls hl
    · exfalso
      have := (cv_ok hn22 hv hcv).1
      omega
    · rw [← CN_eq hn22 hv] at hR9
      obtain ⟨a1, a2⟩ := L_16 (e0 := e0) hn22 hv ht0 hI hs (fun k hk hcv => hc k hk hcv) hR9 ho9
      refine Kont _ _ _ a1 a2 (vu_s _ _ _) (fun i => ?_) H locs hP hD hS ls hl
      show va_up (F 12) (plc st0 tok0) (N 17) i ≤ N 17
      unfold va_up; split
      · exact Nat.le_refl _
      · exact hle i
  | succ j ihj =>
    have step : ∀ (k : Nat) (X : Nat → Nat → Int32) (F G : Nat → Nat → Nat), k + (j + 1) = 16 → F 28 = nt → F 18 e0 = st0 → F 19 e0 = tok0 → F 20 e0 = k →
      Rp (G 13) (G 14) (F 15) (X 16) (plc st0 tok0) (accC (N 22) nt (N 23) (CN (N 22) nt (N 23)) st0 tok0 k) → (∀ i, i < k → cv (N 22) nt (N 23) st0 tok0 i = true → F 12 (plc (nxS st0 i) (nxT tok0 (N 23) i)) = N 17) → F 12 (plc st0 tok0) ≠ N 17 → LInv (N 22) (N 23) (N 17) nt X F G → (∀ i, F 12 i ≤ N 17) → (cv (N 22) nt (N 23) st0 tok0 k = true → F 12 (plc (nxS st0 k) (nxT tok0 (N 23) k)) = N 17) →
      (∀ (X2 : Nat → Nat → Int32) (F2 G2 : Nat → Nat → Nat), LInv (N 22) (N 23) (N 17) nt X2 F2 G2 → LFr (N 22) (N 17) (mis (N 22) st0) e0 X F G X2 F2 G2 → F2 12 (plc st0 tok0) = N 17 → (∀ i, F2 12 i ≤ N 17) → ∀ (H : Heap) (locs : List Loc) (hP : va_P E.1 vwCl (mW E ad (ad 28) tr N X2 F2 G2) H) (hD : va_D A (mW E ad (ad 28) tr N X2 F2 G2)) (hS : va_S A s.heap H locs) (ls : Array Slot), lv_has ls 13 [(0, .ref (ad 0)), (3, .int (nI root)), (4, .int (nI e0 + Int32.ofInt (-1)))] → W p l e rm_X12_lay s m args below meth c H locs 0 0 Q (F0 m 31 ls [])) →
      ∀ (H : Heap) (locs : List Loc) (hP : va_P E.1 vwCl (mW E ad (ad 28) tr N X F G) H) (hD : va_D A (mW E ad (ad 28) tr N X F G)) (hS : va_S A s.heap H locs) (ls : Array Slot), lv_has ls 13 [(0, .ref (ad 0)), (3, .int (nI root)), (4, .int (nI e0))] → W p l e rm_X12_lay s m args below meth c H locs 0 0 Q (F0 m 31 ls []) := by
      intro k X F G hkj hF h18 h19 h20 hR hc hs hI hle hseen Kont H locs hP hD hS ls hl
      have it := lay_it28 (Q := Q) (below := below) (l := l) (e := e) hC hK hA ad tr N X F G root st0 tok0 e0 k (by omega) h18 h19 h20 hst ht0 (by omega) hn22 hr23 ht (fun i => Nat.lt_of_le_of_lt (hle i) ht)
      rw [hF] at it
      have ez : ∀ i, i ≠ e0 → va_up (F 20) e0 (k + 1) i = F 20 i := fun i hi => vu_n _ _ hi
      refine it hnt _ (CN (N 22) nt (N 23) (nxS st0 k) (nxT tok0 (N 23) k)) hR (ACC_sm (by omega)) (fun hcv hs9 => ?_) (fun h => absurd h (by omega)) (fun _ hcv H locs hP hD hS ls hl => ?_) (fun _ hcv hs9 g13 g14 f15 x16 H locs hP hD hS hR9 ho9 ls hl => ?_) (fun _ hcv hns => absurd (hseen hcv) hns) H locs hP hD hS ls hl
      · obtain ⟨c1, c2, c3, c4, c5⟩ := cv_ok hn22 hv hcv
        exact ⟨(hI _ _ c4 (tokA_lt ht0 (by omega)) hs9).1, CN_sm, fun h => hs (h ▸ hs9)⟩
      · refine ihj (k + 1) X (va_up F 20 (va_up (F 20) e0 (k + 1))) G (by omega) hF h18 h19 (vu_s _ _ _) ?_ ?_ hs hI hle (fun X2 F2 G2 a1 a2 a3 a4 => Kont X2 F2 G2 a1 ((L_fr0 ez).tr a2) a3 a4) H locs hP hD hS ls hl
        · rw [accC, hcv]; exact hR
        · intro i hi hci
          rcases Nat.lt_or_ge i k with h6 | h6
          · exact hc i h6 hci
          · rw [show i = k by omega, hcv] at hci; cases hci
      · refine ihj (k + 1) (va_up X 16 x16) (va_up (va_up F 15 f15) 20 (va_up (F 20) e0 (k + 1))) (va_up (va_up G 13 g13) 14 g14) (by omega) hF h18 h19 (vu_s _ _ _) ?_ ?_ hs (L_k1 hI hs ho9) hle (fun X2 F2 G2 a1 a2 a3 a4 => Kont X2 F2 G2 a1 ((L_fr1 hn22 hv ht0 ho9 ez).tr a2) a3 a4) H locs hP hD hS ls hl
        · rw [accC, if_pos hcv]; exact hR9
        · intro i hi hci
          rcases Nat.lt_or_ge i k with h6 | h6
          · exact hc i h6 hci
          · rw [show i = k by omega]; exact hs9
    intro k X F G hkj hF h18 h19 h20 hR hc hs hI hle Kont H locs hP hD hS ls hl
    by_cases hseen : cv (N 22) nt (N 23) st0 tok0 k = true → F 12 (plc (nxS st0 k) (nxT tok0 (N 23) k)) = N 17
    · exact step k X F G hkj hF h18 h19 h20 hR hc hs hI hle hseen Kont H locs hP hD hS ls hl
    · have hcv : cv (N 22) nt (N 23) st0 tok0 k = true := Classical.byContradiction fun h => hseen (fun h2 => absurd h2 h)
      have hns : F 12 (plc (nxS st0 k) (nxT tok0 (N 23) k)) ≠ N 17 := fun h => hseen (fun _ => h)
      obtain ⟨c1, c2, c3, c4, c5⟩ := cv_ok hn22 hv hcv
      have htc : nxT tok0 (N 23) k < 16 := tokA_lt ht0 (by omega)
      have it := lay_it28 (Q := Q) (below := below) (l := l) (e := e) hC hK hA ad tr N X F G root st0 tok0 e0 k (by omega) h18 h19 h20 hst ht0 (by omega) hn22 hr23 ht (fun i => Nat.lt_of_le_of_lt (hle i) ht)
      rw [hF] at it
      have hpne : plc st0 tok0 ≠ plc (nxS st0 k) (nxT tok0 (N 23) k) := fun h => by
        have := (plc_inj hn22 hv c4 ht0 htc h).1
        rw [← this] at c5; omega
      refine it hnt _ (0, 0, 0, 0) hR (ACC_sm (by omega)) (fun _ hs9 => absurd hs9 hns) (fun h => absurd h (by omega)) (fun _ hcf => absurd (hcf.symm.trans hcv) (by decide)) (fun _ _ hs9 => absurd hs9 hns) (fun _ _ _ H locs hP hD hS ls hl => ?_) H locs hP hD hS ls hl
      refine ihd (mis (N 22) (nxS st0 k)) (by omega) (nxS st0 k) (nxT tok0 (N 23) k) (e0 + 1) c4 htc (Nat.le_refl _) (by omega) 16 0 (va_up X 16 (upd (X 16) (plc (nxS st0 k) (nxT tok0 (N 23) k)) (-1))) (va_up (va_up (va_up (va_up F 18 (va_up (F 18) (e0 + 1) (nxS st0 k))) 19 (va_up (F 19) (e0 + 1) (nxT tok0 (N 23) k))) 20 (va_up (F 20) (e0 + 1) 0)) 15 (va_up (F 15) (plc (nxS st0 k) (nxT tok0 (N 23) k)) 1000)) (va_up (va_up G 13 (va_up (G 13) (plc (nxS st0 k) (nxT tok0 (N 23) k)) 0)) 14 (va_up (G 14) (plc (nxS st0 k) (nxT tok0 (N 23) k)) 0)) (by omega) hF (vu_s _ _ _) (vu_s _ _ _) (vu_s _ _ _) ⟨vu_s _ _ _, vu_s _ _ _, vu_s _ _ _, (ud_s _ _ _).trans (show (-1 : Int32) = nI 0 + (-1) by decide)⟩ (fun i hi => absurd hi (by omega)) hns (L_k2 hI hns _ _ _) hle (fun X2 F2 G2 b1 b2 b3 b4 H locs hP hD hS ls hl => ?_) H locs hP hD hS ls hl
      have hfr2 : LFr (N 22) (N 17) (mis (N 22) st0) e0 X F G _ _ _ := L_fr2 (sc := nxS st0 k) (tc := nxT tok0 (N 23) k) hn22 c4 htc c5 (nxS st0 k) (nxT tok0 (N 23) k)
      have hfr3 := hfr2.tr (b2.wk (by omega) (by omega))
      have hu := b2.1 e0 (by omega)
      have hw := b2.2.1 st0 tok0 hv ht0 c5
      have hne1 : e0 ≠ e0 + 1 := by omega
      refine step k X2 F2 G2 hkj ((b2.2.2.2.1 28 (by decide) (by decide) (by decide) (by decide) (by decide)).trans hF) (hu.1.trans ((vu_n _ _ hne1).trans h18)) (hu.2.1.trans ((vu_n _ _ hne1).trans h19)) (hu.2.2.trans ((vu_n _ _ hne1).trans h20)) ?_ (fun i hi hci => ?_) (fun h => hs (hw.1.symm.trans h)) b1 b4 (fun _ => b3) (fun X3 F3 G3 a1 a2 a3 a4 => Kont X3 F3 G3 a1 (hfr3.tr a2) a3 a4) H locs hP hD hS ls ?_
      · obtain ⟨r1, r2, r3, r4⟩ := hR
        exact ⟨hw.2.1.trans ((vu_n _ _ hpne).trans r1), hw.2.2.1.trans ((vu_n _ _ hpne).trans r2), hw.2.2.2.1.trans ((vu_n _ _ hpne).trans r3), hw.2.2.2.2.trans ((ud_n _ _ hpne).trans r4)⟩
      · rcases b2.2.2.1 (plc (nxS st0 i) (nxT tok0 (N 23) i)) with h6 | h6
        · exact h6.trans (hc i hi hci)
        · exact h6
      · rw [show nI (e0 + 1) + Int32.ofInt (-1) = nI e0 from pk_m1 e0] at hl
        exact hl
