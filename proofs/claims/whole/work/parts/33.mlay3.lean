set_option maxHeartbeats 4000000 in
set_option maxRecDepth 100000 in
theorem lay_it6 {p : Program} {l : Launch} {e : Env} {s : State} {m : MethodId} {args : Array Value} {below : List Frame} {meth : Method} {c : Code} {A : Nat → Prop} {Q : State → Prop} {E : EE} (hC : CX p s m meth c args cX12_lay 13 (some .int) yX12_lay.cls) (hK : va_K E.1 vwCl (tyE E) s) (hA : ∀ q : Nat, s.heap.size ≤ q → A q) (ad : Nat → Nat) (tr : Int32) (N : Nat → Nat) (X : Nat → Nat → Int32) (F G : Nat → Nat → Nat) (root st0 tok0 e0 k : Nat) (he : e0 < 15) (h18 : F 18 e0 = st0) (h19 : F 19 e0 = tok0) (h20 : F 20 e0 = k) (hst : st0 < 65536) (htk : tok0 < 16) (hk : k ≤ 16) (hn22 : N 22 ≤ 4) (hr23 : N 23 < 4) (ht : N 17 < 2 ^ 31) (hs12 : ∀ j, F 12 j < 2 ^ 31) (hnt : ∀ j, (F 6) j < 16) (xa xb : C4) (hRa : Rp (G 13) (G 14) (F 15) (X 16) (plc st0 tok0) xa) (sa : SmC xa) (hch : cv (N 22) (F 6) (N 23) st0 tok0 k = true → F 12 (plc (nxS st0 k) (nxT tok0 (N 23) k)) = N 17 → Rp (G 13) (G 14) (F 15) (X 16) (plc (nxS st0 k) (nxT tok0 (N 23) k)) xb ∧ SmC xb ∧ plc st0 tok0 ≠ plc (nxS st0 k) (nxT tok0 (N 23) k)) (K16 : k = 16 → ∀ (g13 g14 f15 : Nat → Nat) (x16 : Nat → Int32) (H : Heap) (locs : List Loc) (hP : va_P E.1 vwCl (mW E ad (ad 6) tr N (va_up X 16 x16) (va_up (va_up F 12 (va_up (F 12) (plc st0 tok0) (N 17))) 15 f15) (va_up (va_up G 13 g13) 14 g14)) H) (hD : va_D A (mW E ad (ad 6) tr N (va_up X 16 x16) (va_up (va_up F 12 (va_up (F 12) (plc st0 tok0) (N 17))) 15 f15) (va_up (va_up G 13 g13) 14 g14))) (hS : va_S A s.heap H locs) (hR9 : Rp g13 g14 f15 x16 (plc st0 tok0) (finC (expM st0 (N 22)) xa)) (ho9 : ∀ j, j ≠ plc st0 tok0 → g13 j = G 13 j ∧ g14 j = G 14 j ∧ f15 j = F 15 j ∧ x16 j = X 16 j) (ls : Array Slot), lv_has ls 13 [(0, .ref (ad 0)), (3, .int (nI root)), (4, .int (nI e0 + Int32.ofInt (-1)))] → W p l e rm_X12_lay s m args below meth c H locs 0 0 Q (F0 m 31 ls [])) (K0 : k < 16 → cv (N 22) (F 6) (N 23) st0 tok0 k = false → ∀ (H : Heap) (locs : List Loc) (hP : va_P E.1 vwCl (mW E ad (ad 6) tr N X (va_up F 20 (va_up (F 20) e0 (k + 1))) G) H) (hD : va_D A (mW E ad (ad 6) tr N X (va_up F 20 (va_up (F 20) e0 (k + 1))) G)) (hS : va_S A s.heap H locs) (ls : Array Slot), lv_has ls 13 [(0, .ref (ad 0)), (3, .int (nI root)), (4, .int (nI e0))] → W p l e rm_X12_lay s m args below meth c H locs 0 0 Q (F0 m 31 ls [])) (K1 : k < 16 → cv (N 22) (F 6) (N 23) st0 tok0 k = true → F 12 (plc (nxS st0 k) (nxT tok0 (N 23) k)) = N 17 → ∀ (g13 g14 f15 : Nat → Nat) (x16 : Nat → Int32) (H : Heap) (locs : List Loc) (hP : va_P E.1 vwCl (mW E ad (ad 6) tr N (va_up X 16 x16) (va_up (va_up F 15 f15) 20 (va_up (F 20) e0 (k + 1))) (va_up (va_up G 13 g13) 14 g14)) H) (hD : va_D A (mW E ad (ad 6) tr N (va_up X 16 x16) (va_up (va_up F 15 f15) 20 (va_up (F 20) e0 (k + 1))) (va_up (va_up G 13 g13) 14 g14))) (hS : va_S A s.heap H locs) (hR9 : Rp g13 g14 f15 x16 (plc st0 tok0) (addC xa xb)) (ho9 : ∀ j, j ≠ plc st0 tok0 → g13 j = G 13 j ∧ g14 j = G 14 j ∧ f15 j = F 15 j ∧ x16 j = X 16 j) (ls : Array Slot), lv_has ls 13 [(0, .ref (ad 0)), (3, .int (nI root)), (4, .int (nI e0))] → W p l e rm_X12_lay s m args below meth c H locs 0 0 Q (F0 m 31 ls [])) (K2 : k < 16 → cv (N 22) (F 6) (N 23) st0 tok0 k = true → F 12 (plc (nxS st0 k) (nxT tok0 (N 23) k)) ≠ N 17 → ∀ (H : Heap) (locs : List Loc) (hP : va_P E.1 vwCl (mW E ad (ad 6) tr N (va_up X 16 (upd (X 16) (plc (nxS st0 k) (nxT tok0 (N 23) k)) (-1))) (va_up (va_up (va_up (va_up F 18 (va_up (F 18) (e0 + 1) (nxS st0 k))) 19 (va_up (F 19) (e0 + 1) (nxT tok0 (N 23) k))) 20 (va_up (F 20) (e0 + 1) 0)) 15 (va_up (F 15) (plc (nxS st0 k) (nxT tok0 (N 23) k)) 1000)) (va_up (va_up G 13 (va_up (G 13) (plc (nxS st0 k) (nxT tok0 (N 23) k)) 0)) 14 (va_up (G 14) (plc (nxS st0 k) (nxT tok0 (N 23) k)) 0))) H) (hD : va_D A (mW E ad (ad 6) tr N (va_up X 16 (upd (X 16) (plc (nxS st0 k) (nxT tok0 (N 23) k)) (-1))) (va_up (va_up (va_up (va_up F 18 (va_up (F 18) (e0 + 1) (nxS st0 k))) 19 (va_up (F 19) (e0 + 1) (nxT tok0 (N 23) k))) 20 (va_up (F 20) (e0 + 1) 0)) 15 (va_up (F 15) (plc (nxS st0 k) (nxT tok0 (N 23) k)) 1000)) (va_up (va_up G 13 (va_up (G 13) (plc (nxS st0 k) (nxT tok0 (N 23) k)) 0)) 14 (va_up (G 14) (plc (nxS st0 k) (nxT tok0 (N 23) k)) 0)))) (hS : va_S A s.heap H locs) (ls : Array Slot), lv_has ls 13 [(0, .ref (ad 0)), (3, .int (nI root)), (4, .int (nI (e0 + 1)))] → W p l e rm_X12_lay s m args below meth c H locs 0 0 Q (F0 m 31 ls [])) (H : Heap) (locs : List Loc) (hP : va_P E.1 vwCl (mW E ad (ad 6) tr N X F G) H) (hD : va_D A (mW E ad (ad 6) tr N X F G)) (hS : va_S A s.heap H locs) (ls : Array Slot) (hl : lv_has ls 13 [(0, .ref (ad 0)), (3, .int (nI root)), (4, .int (nI e0))]) : W p l e rm_X12_lay s m args below meth c H locs 0 0 Q (F0 m 31 ls []) := by
  obtain ⟨hx, hb, hr, hts, hown, hml, hlk, hN⟩ := id hC
  refine lv_iload hx hb dX12_lay_31 (lv_at hl 2 rfl) ?_
  refine n_if_lt (tgt := 247) hx hb (by omega) dX12_lay_33 (by decide) ?_
  refine lv_aload_n hx hb dX12_lay_36 rfl (lv_at hl 0 rfl) ?_
  refine va_get (D := E.1) (ci := 10) (v := .ref (ad 18)) (C := RX12) (T := TX12) (N := 30) hx hb hts iX12 hown hK hP 0 rfl rfl 18 (by decide) (hts _ kw_757) (fun _ h9 => h9) rfl dX12_lay_37 ?_
  refine lv_iload hx hb dX12_lay_40 (lv_at hl 2 rfl) ?_
  refine n_iald hx hb hK hP 13 rfl (by omega) (by decide) dX12_lay_42 ?_
  refine top_i (congrArg nI h18) ?_
  refine lv_istore (lv' := [(5, .int (nI st0)), (0, .ref (ad 0)), (3, .int (nI root)), (4, .int (nI e0))]) hx hb dX12_lay_43 hl (by decide) rfl (fun ls hl => ?_)
  refine lv_aload_n hx hb dX12_lay_45 rfl (lv_at hl 1 rfl) ?_
  refine va_get (D := E.1) (ci := 10) (v := .ref (ad 19)) (C := RX12) (T := TX12) (N := 30) hx hb hts iX12 hown hK hP 0 rfl rfl 19 (by decide) (hts _ kw_758) (fun _ h9 => h9) rfl dX12_lay_46 ?_
  refine lv_iload hx hb dX12_lay_49 (lv_at hl 3 rfl) ?_
  refine n_iald hx hb hK hP 14 rfl (by omega) (by decide) dX12_lay_51 ?_
  refine top_i (congrArg nI h19) ?_
  refine lv_istore (lv' := [(6, .int (nI tok0)), (5, .int (nI st0)), (0, .ref (ad 0)), (3, .int (nI root)), (4, .int (nI e0))]) hx hb dX12_lay_52 hl (by decide) rfl (fun ls hl => ?_)
  refine lv_aload_n hx hb dX12_lay_54 rfl (lv_at hl 2 rfl) ?_
  refine va_get (D := E.1) (ci := 10) (v := .ref (ad 20)) (C := RX12) (T := TX12) (N := 30) hx hb hts iX12 hown hK hP 0 rfl rfl 20 (by decide) (hts _ kw_759) (fun _ h9 => h9) rfl dX12_lay_55 ?_
  refine lv_iload hx hb dX12_lay_58 (lv_at hl 4 rfl) ?_
  refine n_iald hx hb hK hP 15 rfl (by omega) (by decide) dX12_lay_60 ?_
  refine top_i (congrArg nI h20) ?_
  refine lv_istore (lv' := [(7, .int (nI k)), (6, .int (nI tok0)), (5, .int (nI st0)), (0, .ref (ad 0)), (3, .int (nI root)), (4, .int (nI e0))]) hx hb dX12_lay_61 hl (by decide) rfl (fun ls hl => ?_)
  refine lv_iload hx hb dX12_lay_63 (lv_at hl 0 rfl) ?_
  refine lv_bipush (v := nI 16) hx hb dX12_lay_65 (by decide) ?_
  refine n_icmp_ne (tgt := 89) hx hb (by omega) (by omega) dX12_lay_67 (by decide) (fun c_1 => ?_) (fun c_1 => ?_)
  · -- t 89
    refine lv_iload hx hb dX12_lay_89 (lv_at hl 0 rfl) ?_
    refine lv_iconst (v := nI 4) hx hb dX12_lay_91 (by decide) ?_
    refine n_idiv hx hb (by omega) (by omega) (by omega) dX12_lay_92 ?_
    refine lv_istore (lv' := [(8, .int (nI (k / 4))), (7, .int (nI k)), (6, .int (nI tok0)), (5, .int (nI st0)), (0, .ref (ad 0)), (3, .int (nI root)), (4, .int (nI e0))]) hx hb dX12_lay_93 hl (by decide) rfl (fun ls hl => ?_)
    refine lv_iload hx hb dX12_lay_95 (lv_at hl 1 rfl) ?_
    refine lv_iconst (v := nI 4) hx hb dX12_lay_97 (by decide) ?_
    refine n_irem hx hb (by omega) (by omega) (by omega) dX12_lay_98 ?_
    refine lv_istore (lv' := [(9, .int (nI (k % 4))), (8, .int (nI (k / 4))), (7, .int (nI k)), (6, .int (nI tok0)), (5, .int (nI st0)), (0, .ref (ad 0)), (3, .int (nI root)), (4, .int (nI e0))]) hx hb dX12_lay_99 hl (by decide) rfl (fun ls hl => ?_)
    refine lv_iload hx hb dX12_lay_101 (lv_at hl 1 rfl) ?_
    refine lv_aload_n hx hb dX12_lay_103 rfl (lv_at hl 5 rfl) ?_
    refine va_get (D := E.1) (ci := 10) (v := .int (nI (N 22))) (C := RX12) (T := TX12) (N := 30) hx hb hts iX12 hown hK hP 0 rfl rfl 22 (by decide) (hts _ kw_761) (fun _ h9 => h9) rfl dX12_lay_104 ?_
    refine n_icmp_ge (tgt := 141) hx hb (by omega) (by omega) dX12_lay_107 (by decide) (fun c_2 => ?_) (fun c_2 => ?_)
    · -- t 141
      refine lv_aload_n hx hb dX12_lay_141 rfl (lv_at hl 5 rfl) ?_
      refine va_get (D := E.1) (ci := 10) (v := .ref (ad 20)) (C := RX12) (T := TX12) (N := 30) hx hb hts iX12 hown hK hP 0 rfl rfl 20 (by decide) (hts _ kw_759) (fun _ h9 => h9) rfl dX12_lay_142 ?_
      refine lv_iload hx hb dX12_lay_145 (lv_at hl 7 rfl) ?_
      refine lv_dup2_11 hx hb dX12_lay_147 rfl rfl ?_
      refine n_iald hx hb hK hP 15 rfl (by omega) (by decide) dX12_lay_148 ?_
      refine top_i (congrArg nI h20) ?_
      refine lv_iconst (v := nI 1) hx hb dX12_lay_149 (by decide) ?_
      refine n_iadd hx hb dX12_lay_150 ?_
      refine n_iast hx hb hK hP hD hS 15 rfl (by omega) (by decide) dX12_lay_151 (fun H locs hP hD hS => ?_)
      have hP : va_P E.1 vwCl (mW E ad (ad 6) tr N X (va_up F 20 (va_up (F 20) e0 (k + 1))) G) H := hP
      have hD : va_D A (mW E ad (ad 6) tr N X (va_up F 20 (va_up (F 20) e0 (k + 1))) G) := hD
      refine lv_goto (tgt := 31) hx hb dX12_lay_152 (by decide) ?_
      exact K0 (by omega) (by unfold cv; rw [decide_eq_false (Nat.not_lt.mpr c_2)]; rfl) H locs hP hD hS ls (lv_sub hl [5, 6, 7] rfl)
    · -- f 110
      refine lv_iload hx hb dX12_lay_110 (lv_at hl 0 rfl) ?_
      refine lv_aload_n hx hb dX12_lay_112 rfl (lv_at hl 5 rfl) ?_
      refine va_get (D := E.1) (ci := 10) (v := .int (nI (N 22))) (C := RX12) (T := TX12) (N := 30) hx hb hts iX12 hown hK hP 0 rfl rfl 22 (by decide) (hts _ kw_761) (fun _ h9 => h9) rfl dX12_lay_113 ?_
      refine n_icmp_ge (tgt := 141) hx hb (by omega) (by omega) dX12_lay_116 (by decide) (fun c_3 => ?_) (fun c_3 => ?_)
      · -- t 141
        refine lv_aload_n hx hb dX12_lay_141 rfl (lv_at hl 5 rfl) ?_
        refine va_get (D := E.1) (ci := 10) (v := .ref (ad 20)) (C := RX12) (T := TX12) (N := 30) hx hb hts iX12 hown hK hP 0 rfl rfl 20 (by decide) (hts _ kw_759) (fun _ h9 => h9) rfl dX12_lay_142 ?_
        refine lv_iload hx hb dX12_lay_145 (lv_at hl 7 rfl) ?_
        refine lv_dup2_11 hx hb dX12_lay_147 rfl rfl ?_
        refine n_iald hx hb hK hP 15 rfl (by omega) (by decide) dX12_lay_148 ?_
        refine top_i (congrArg nI h20) ?_
        refine lv_iconst (v := nI 1) hx hb dX12_lay_149 (by decide) ?_
        refine n_iadd hx hb dX12_lay_150 ?_
        refine n_iast hx hb hK hP hD hS 15 rfl (by omega) (by decide) dX12_lay_151 (fun H locs hP hD hS => ?_)
        have hP : va_P E.1 vwCl (mW E ad (ad 6) tr N X (va_up F 20 (va_up (F 20) e0 (k + 1))) G) H := hP
        have hD : va_D A (mW E ad (ad 6) tr N X (va_up F 20 (va_up (F 20) e0 (k + 1))) G) := hD
        refine lv_goto (tgt := 31) hx hb dX12_lay_152 (by decide) ?_
        exact K0 (by omega) (by unfold cv; rw [decide_eq_false (p := k % 4 < N 22) (Nat.not_lt.mpr c_3)]; simp) H locs hP hD hS ls (lv_sub hl [5, 6, 7] rfl)
      · -- f 119
        refine lv_aload_n hx hb dX12_lay_119 rfl (lv_at hl 5 rfl) ?_
        refine va_get (D := E.1) (ci := 10) (v := .ref (ad 6)) (C := RX12) (T := TX12) (N := 30) hx hb hts iX12 hown hK hP 0 rfl rfl 21 (by decide) (hts _ kw_760) (fun _ h9 => h9) rfl dX12_lay_120 ?_
        refine lv_aload_n hx hb dX12_lay_123 rfl (lv_at hl 5 rfl) ?_
        refine va_get (D := E.1) (ci := 10) (v := .int (nI (N 23))) (C := RX12) (T := TX12) (N := 30) hx hb hts iX12 hown hK hP 0 rfl rfl 23 (by decide) (hts _ kw_762) (fun _ h9 => h9) rfl dX12_lay_124 ?_
        refine lv_iload hx hb dX12_lay_127 (lv_at hl 4 rfl) ?_
        refine lv_iload hx hb dX12_lay_129 (lv_at hl 3 rfl) ?_
        refine lv_iload hx hb dX12_lay_131 (lv_at hl 1 rfl) ?_
        refine lv_iload hx hb dX12_lay_133 (lv_at hl 0 rfl) ?_
        refine cS_r (rest := []) hC (c_may l E (ad 6) (F 6) (N 23) st0 tok0 (k / 4) (k % 4) (by omega) (by omega) (by omega) (by omega) (by omega) (fun j _ => hnt j)) kw_921 sy_X12_mayRing ⟨Nat.le_of_ble_eq_true rfl, Nat.le_of_ble_eq_true rfl⟩ ⟨rfl, rfl⟩ hK (hP.sub (ws' := aW E (ad 6) (F 6)) [4] rfl) rfl hl.1 rfl (Nat.le_of_ble_eq_true rfl) dX12_lay_135 ⟨Nat.le_of_ble_eq_true rfl, Nat.le_of_ble_eq_true rfl⟩ ?_
        refine b_if_ne (tgt := 155) hx hb dX12_lay_138 (by decide) (fun c_4 => ?_) (fun c_4 => ?_)
        · -- t 155
          have hcv : cv (N 22) (F 6) (N 23) st0 tok0 k = true := by unfold cv; rw [decide_eq_true c_2, decide_eq_true c_3, c_4]; rfl
          refine lv_iload hx hb dX12_lay_155 (lv_at hl 4 rfl) ?_
          refine lv_iload hx hb dX12_lay_157 (lv_at hl 1 rfl) ?_
          refine lv_iload hx hb dX12_lay_159 (lv_at hl 0 rfl) ?_
          refine cS_p (rest := []) hC (c_aft l st0 (k / 4) (k % 4) (by omega) (by omega) (by omega)) kw_871 sy_X12_afterCall ⟨Nat.le_of_ble_eq_true rfl, Nat.le_of_ble_eq_true rfl⟩ ⟨rfl, rfl⟩ rfl hl.1 rfl (Nat.le_of_ble_eq_true rfl) dX12_lay_161 ⟨Nat.le_of_ble_eq_true rfl, Nat.le_of_ble_eq_true rfl⟩ ?_
          have f_5 := aft_lt (st := st0) (pp := k / 4) (qq := k % 4) (by omega) (by omega) (by omega)
          refine lv_istore (lv' := [(10, .int (nI (aft st0 (k / 4) (k % 4)))), (9, .int (nI (k % 4))), (8, .int (nI (k / 4))), (7, .int (nI k)), (6, .int (nI tok0)), (5, .int (nI st0)), (0, .ref (ad 0)), (3, .int (nI root)), (4, .int (nI e0))]) hx hb dX12_lay_164 hl (by decide) rfl (fun ls hl => ?_)
          refine lv_iload hx hb dX12_lay_166 (lv_at hl 4 rfl) ?_
          refine lv_aload_n hx hb dX12_lay_168 rfl (lv_at hl 6 rfl) ?_
          refine va_get (D := E.1) (ci := 10) (v := .int (nI (N 23))) (C := RX12) (T := TX12) (N := 30) hx hb hts iX12 hown hK hP 0 rfl rfl 23 (by decide) (hts _ kw_762) (fun _ h9 => h9) rfl dX12_lay_169 ?_
          refine lv_iload hx hb dX12_lay_172 (lv_at hl 2 rfl) ?_
          refine lv_iload hx hb dX12_lay_174 (lv_at hl 1 rfl) ?_
          refine cS_p (rest := []) hC (c_tokA l tok0 (N 23) (k / 4) (k % 4) (by omega) (by omega) (by omega)) kw_884 sy_X12_tokensAfter ⟨Nat.le_of_ble_eq_true rfl, Nat.le_of_ble_eq_true rfl⟩ ⟨rfl, rfl⟩ rfl hl.1 rfl (Nat.le_of_ble_eq_true rfl) dX12_lay_176 ⟨Nat.le_of_ble_eq_true rfl, Nat.le_of_ble_eq_true rfl⟩ ?_
          have f_6 := tokA_lt (t := tok0) (r := N 23) (pp := k / 4) (qq := k % 4) (by omega) (by omega)
          refine lv_istore (lv' := [(11, .int (nI (tokA tok0 (N 23) (k / 4) (k % 4)))), (10, .int (nI (aft st0 (k / 4) (k % 4)))), (9, .int (nI (k % 4))), (8, .int (nI (k / 4))), (7, .int (nI k)), (6, .int (nI tok0)), (5, .int (nI st0)), (0, .ref (ad 0)), (3, .int (nI root)), (4, .int (nI e0))]) hx hb dX12_lay_179 hl (by decide) rfl (fun ls hl => ?_)
          refine lv_iload hx hb dX12_lay_181 (lv_at hl 1 rfl) ?_
          refine lv_iload hx hb dX12_lay_183 (lv_at hl 0 rfl) ?_
          refine cS_p (rest := []) hC (c_plc l (aft st0 (k / 4) (k % 4)) (tokA tok0 (N 23) (k / 4) (k % 4)) (by omega) (by omega)) kw_941 sy_X12_placeOf ⟨Nat.le_of_ble_eq_true rfl, Nat.le_of_ble_eq_true rfl⟩ ⟨rfl, rfl⟩ rfl hl.1 rfl (Nat.le_of_ble_eq_true rfl) dX12_lay_185 ⟨Nat.le_of_ble_eq_true rfl, Nat.le_of_ble_eq_true rfl⟩ ?_
          have f_7 := plc_lt (aft st0 (k / 4) (k % 4)) (tokA tok0 (N 23) (k / 4) (k % 4))
          refine lv_istore (lv' := [(12, .int (nI (plc (aft st0 (k / 4) (k % 4)) (tokA tok0 (N 23) (k / 4) (k % 4))))), (11, .int (nI (tokA tok0 (N 23) (k / 4) (k % 4)))), (10, .int (nI (aft st0 (k / 4) (k % 4)))), (9, .int (nI (k % 4))), (8, .int (nI (k / 4))), (7, .int (nI k)), (6, .int (nI tok0)), (5, .int (nI st0)), (0, .ref (ad 0)), (3, .int (nI root)), (4, .int (nI e0))]) hx hb dX12_lay_188 hl (by decide) rfl (fun ls hl => ?_)
          refine lv_aload_n hx hb dX12_lay_190 rfl (lv_at hl 8 rfl) ?_
          refine va_get (D := E.1) (ci := 10) (v := .ref (ad 12)) (C := RX12) (T := TX12) (N := 30) hx hb hts iX12 hown hK hP 0 rfl rfl 12 (by decide) (hts _ kw_751) (fun _ h9 => h9) rfl dX12_lay_191 ?_
          refine lv_iload hx hb dX12_lay_194 (lv_at hl 0 rfl) ?_
          refine n_iald hx hb hK hP 8 rfl (by omega) (by decide) dX12_lay_196 ?_
          have hs9 := hs12 (plc (nxS st0 k) (nxT tok0 (N 23) k))
          refine lv_aload_n hx hb dX12_lay_197 rfl (lv_at hl 8 rfl) ?_
          refine va_get (D := E.1) (ci := 10) (v := .int (nI (N 17))) (C := RX12) (T := TX12) (N := 30) hx hb hts iX12 hown hK hP 0 rfl rfl 17 (by decide) (hts _ kw_756) (fun _ h9 => h9) rfl dX12_lay_198 ?_
          refine n_icmp_ne (tgt := 231) hx hb (by omega) (by omega) dX12_lay_201 (by decide) (fun c_8 => ?_) (fun c_8 => ?_)
          · -- t 231
            refine lv_iinc (v := nI (e0 + 1)) (lv' := [(4, .int (nI (e0 + 1))), (12, .int (nI (plc (aft st0 (k / 4) (k % 4)) (tokA tok0 (N 23) (k / 4) (k % 4))))), (11, .int (nI (tokA tok0 (N 23) (k / 4) (k % 4)))), (10, .int (nI (aft st0 (k / 4) (k % 4)))), (9, .int (nI (k % 4))), (8, .int (nI (k / 4))), (7, .int (nI k)), (6, .int (nI tok0)), (5, .int (nI st0)), (0, .ref (ad 0)), (3, .int (nI root))]) hx hb dX12_lay_231 hl (k := 10) rfl (ii_1 _) (by decide) rfl (fun ls hl => ?_)
            refine lv_aload_n hx hb dX12_lay_234 rfl (lv_at hl 9 rfl) ?_
            refine lv_iload hx hb dX12_lay_235 (lv_at hl 0 rfl) ?_
            refine lv_iload hx hb dX12_lay_237 (lv_at hl 3 rfl) ?_
            refine lv_iload hx hb dX12_lay_239 (lv_at hl 2 rfl) ?_
            refine cV_w0 (rest := []) hC (c_m_open l E ad (ad 6) tr N X F G H.size (e0 + 1) (aft st0 (k / 4) (k % 4)) (tokA tok0 (N 23) (k / 4) (k % 4)) (by omega) (by omega) (by omega)) kw_945 iy_X12_open ⟨Nat.le_of_ble_eq_true rfl, Nat.le_of_ble_eq_true rfl⟩ ⟨rfl, rfl⟩ hK hP hD hS hA (va_recv hK hP (ci := 10) (q0 := 0) rfl rfl) rfl hl.1 rfl (Nat.le_of_ble_eq_true rfl) dX12_lay_241 ⟨Nat.le_of_ble_eq_true rfl, Nat.le_of_ble_eq_true rfl⟩ (fun v_ w_ H locs hpost hP hD hS => ?_)
            obtain ⟨rfl, rfl⟩ := hpost
            refine W.eq (g2 := F0 m 244 ls []) rfl ?_
            refine lv_goto (tgt := 31) hx hb dX12_lay_244 (by decide) ?_
            exact K2 (by omega) hcv c_8 H locs hP hD hS ls (lv_sub hl [9, 10, 0] rfl)
          · -- f 204
            obtain ⟨hRb, sb, hneq⟩ := hch hcv c_8
            refine lv_aload_n hx hb dX12_lay_204 rfl (lv_at hl 8 rfl) ?_
            refine lv_iload hx hb dX12_lay_205 (lv_at hl 7 rfl) ?_
            refine lv_iload hx hb dX12_lay_207 (lv_at hl 6 rfl) ?_
            refine cS_p (rest := [.ref (ad 0)]) hC (c_plc l st0 tok0 (by omega) (by omega)) kw_941 sy_X12_placeOf ⟨Nat.le_of_ble_eq_true rfl, Nat.le_of_ble_eq_true rfl⟩ ⟨rfl, rfl⟩ rfl hl.1 rfl (Nat.le_of_ble_eq_true rfl) dX12_lay_209 ⟨Nat.le_of_ble_eq_true rfl, Nat.le_of_ble_eq_true rfl⟩ ?_
            have f_9 := plc_lt st0 tok0
            refine lv_iload hx hb dX12_lay_212 (lv_at hl 0 rfl) ?_
            refine cV_w0 (rest := []) hC (c_m_add l E ad (ad 6) tr N X F G H.size (plc st0 tok0) (plc (aft st0 (k / 4) (k % 4)) (tokA tok0 (N 23) (k / 4) (k % 4))) (plc_lt _ _) (plc_lt _ _) hneq xa xb hRa hRb sa sb) kw_957 iy_X12_add ⟨Nat.le_of_ble_eq_true rfl, Nat.le_of_ble_eq_true rfl⟩ ⟨rfl, rfl⟩ hK hP hD hS hA (va_recv hK hP (ci := 10) (q0 := 0) rfl rfl) rfl hl.1 rfl (Nat.le_of_ble_eq_true rfl) dX12_lay_214 ⟨Nat.le_of_ble_eq_true rfl, Nat.le_of_ble_eq_true rfl⟩ (fun v_ w_ H locs hpost hP hD hS => ?_)
            obtain ⟨rfl, g13, g14, f15, x16, rfl, hRx, hox⟩ := hpost
            refine W.eq (g2 := F0 m 217 ls []) rfl ?_
            refine lv_aload_n hx hb dX12_lay_217 rfl (lv_at hl 8 rfl) ?_
            refine va_get (D := E.1) (ci := 10) (v := .ref (ad 20)) (C := RX12) (T := TX12) (N := 30) hx hb hts iX12 hown hK hP 0 rfl rfl 20 (by decide) (hts _ kw_759) (fun _ h9 => h9) rfl dX12_lay_218 ?_
            refine lv_iload hx hb dX12_lay_221 (lv_at hl 10 rfl) ?_
            refine lv_dup2_11 hx hb dX12_lay_223 rfl rfl ?_
            refine n_iald hx hb hK hP 15 rfl (by omega) (by decide) dX12_lay_224 ?_
            refine top_i (congrArg nI h20) ?_
            refine lv_iconst (v := nI 1) hx hb dX12_lay_225 (by decide) ?_
            refine n_iadd hx hb dX12_lay_226 ?_
            refine n_iast hx hb hK hP hD hS 15 rfl (by omega) (by decide) dX12_lay_227 (fun H locs hP hD hS => ?_)
            have hP : va_P E.1 vwCl (mW E ad (ad 6) tr N (va_up X 16 x16) (va_up (va_up F 15 f15) 20 (va_up (F 20) e0 (k + 1))) (va_up (va_up G 13 g13) 14 g14)) H := hP
            have hD : va_D A (mW E ad (ad 6) tr N (va_up X 16 x16) (va_up (va_up F 15 f15) 20 (va_up (F 20) e0 (k + 1))) (va_up (va_up G 13 g13) 14 g14)) := hD
            refine lv_goto (tgt := 244) hx hb dX12_lay_228 (by decide) ?_
            refine lv_goto (tgt := 31) hx hb dX12_lay_244 (by decide) ?_
            exact K1 (by omega) hcv c_8 g13 g14 f15 x16 H locs hP hD hS hRx hox ls (lv_sub hl [8, 9, 10] rfl)
        · -- f 141
          refine lv_aload_n hx hb dX12_lay_141 rfl (lv_at hl 5 rfl) ?_
          refine va_get (D := E.1) (ci := 10) (v := .ref (ad 20)) (C := RX12) (T := TX12) (N := 30) hx hb hts iX12 hown hK hP 0 rfl rfl 20 (by decide) (hts _ kw_759) (fun _ h9 => h9) rfl dX12_lay_142 ?_
          refine lv_iload hx hb dX12_lay_145 (lv_at hl 7 rfl) ?_
          refine lv_dup2_11 hx hb dX12_lay_147 rfl rfl ?_
          refine n_iald hx hb hK hP 15 rfl (by omega) (by decide) dX12_lay_148 ?_
          refine top_i (congrArg nI h20) ?_
          refine lv_iconst (v := nI 1) hx hb dX12_lay_149 (by decide) ?_
          refine n_iadd hx hb dX12_lay_150 ?_
          refine n_iast hx hb hK hP hD hS 15 rfl (by omega) (by decide) dX12_lay_151 (fun H locs hP hD hS => ?_)
          have hP : va_P E.1 vwCl (mW E ad (ad 6) tr N X (va_up F 20 (va_up (F 20) e0 (k + 1))) G) H := hP
          have hD : va_D A (mW E ad (ad 6) tr N X (va_up F 20 (va_up (F 20) e0 (k + 1))) G) := hD
          refine lv_goto (tgt := 31) hx hb dX12_lay_152 (by decide) ?_
          exact K0 (by omega) (by unfold cv; rw [c_4]; simp) H locs hP hD hS ls (lv_sub hl [5, 6, 7] rfl)
  · -- f 70
    refine lv_aload_n hx hb dX12_lay_70 rfl (lv_at hl 3 rfl) ?_
    refine lv_iload hx hb dX12_lay_71 (lv_at hl 2 rfl) ?_
    refine lv_iload hx hb dX12_lay_73 (lv_at hl 1 rfl) ?_
    refine cS_p (rest := [.ref (ad 0)]) hC (c_plc l st0 tok0 (by omega) (by omega)) kw_941 sy_X12_placeOf ⟨Nat.le_of_ble_eq_true rfl, Nat.le_of_ble_eq_true rfl⟩ ⟨rfl, rfl⟩ rfl hl.1 rfl (Nat.le_of_ble_eq_true rfl) dX12_lay_75 ⟨Nat.le_of_ble_eq_true rfl, Nat.le_of_ble_eq_true rfl⟩ ?_
    have f_10 := plc_lt st0 tok0
    refine lv_iload hx hb dX12_lay_78 (lv_at hl 2 rfl) ?_
    refine cV_w0 (rest := []) hC (c_m_close l E ad (ad 6) tr N X F G H.size (plc st0 tok0) st0 (plc_lt _ _) hst hn22 xa hRa sa) kw_949 iy_X12_close ⟨Nat.le_of_ble_eq_true rfl, Nat.le_of_ble_eq_true rfl⟩ ⟨rfl, rfl⟩ hK hP hD hS hA (va_recv hK hP (ci := 10) (q0 := 0) rfl rfl) rfl hl.1 rfl (Nat.le_of_ble_eq_true rfl) dX12_lay_80 ⟨Nat.le_of_ble_eq_true rfl, Nat.le_of_ble_eq_true rfl⟩ (fun v_ w_ H locs hpost hP hD hS => ?_)
    obtain ⟨rfl, g13, g14, f15, x16, rfl, hRx, hox⟩ := hpost
    refine W.eq (g2 := F0 m 83 ls []) rfl ?_
    refine lv_iinc (v := nI e0 + Int32.ofInt (-1)) (lv' := [(4, .int (nI e0 + Int32.ofInt (-1))), (7, .int (nI k)), (6, .int (nI tok0)), (5, .int (nI st0)), (0, .ref (ad 0)), (3, .int (nI root))]) hx hb dX12_lay_83 hl (k := 5) rfl rfl (by decide) rfl (fun ls hl => ?_)
    refine lv_goto (tgt := 31) hx hb dX12_lay_86 (by decide) ?_
    exact K16 c_1 g13 g14 f15 x16 H locs hP hD hS hRx hox ls (lv_sub hl [4, 5, 0] rfl)

set_option maxHeartbeats 4000000 in
set_option maxRecDepth 100000 in
theorem lay_it28 {p : Program} {l : Launch} {e : Env} {s : State} {m : MethodId} {args : Array Value} {below : List Frame} {meth : Method} {c : Code} {A : Nat → Prop} {Q : State → Prop} {E : EE} (hC : CX p s m meth c args cX12_lay 13 (some .int) yX12_lay.cls) (hK : va_K E.1 vwCl (tyE E) s) (hA : ∀ q : Nat, s.heap.size ≤ q → A q) (ad : Nat → Nat) (tr : Int32) (N : Nat → Nat) (X : Nat → Nat → Int32) (F G : Nat → Nat → Nat) (root st0 tok0 e0 k : Nat) (he : e0 < 15) (h18 : F 18 e0 = st0) (h19 : F 19 e0 = tok0) (h20 : F 20 e0 = k) (hst : st0 < 65536) (htk : tok0 < 16) (hk : k ≤ 16) (hn22 : N 22 ≤ 4) (hr23 : N 23 < 4) (ht : N 17 < 2 ^ 31) (hs12 : ∀ j, F 12 j < 2 ^ 31) (hnt : ∀ j, (F 28) j < 16) (xa xb : C4) (hRa : Rp (G 13) (G 14) (F 15) (X 16) (plc st0 tok0) xa) (sa : SmC xa) (hch : cv (N 22) (F 28) (N 23) st0 tok0 k = true → F 12 (plc (nxS st0 k) (nxT tok0 (N 23) k)) = N 17 → Rp (G 13) (G 14) (F 15) (X 16) (plc (nxS st0 k) (nxT tok0 (N 23) k)) xb ∧ SmC xb ∧ plc st0 tok0 ≠ plc (nxS st0 k) (nxT tok0 (N 23) k)) (K16 : k = 16 → ∀ (g13 g14 f15 : Nat → Nat) (x16 : Nat → Int32) (H : Heap) (locs : List Loc) (hP : va_P E.1 vwCl (mW E ad (ad 28) tr N (va_up X 16 x16) (va_up (va_up F 12 (va_up (F 12) (plc st0 tok0) (N 17))) 15 f15) (va_up (va_up G 13 g13) 14 g14)) H) (hD : va_D A (mW E ad (ad 28) tr N (va_up X 16 x16) (va_up (va_up F 12 (va_up (F 12) (plc st0 tok0) (N 17))) 15 f15) (va_up (va_up G 13 g13) 14 g14))) (hS : va_S A s.heap H locs) (hR9 : Rp g13 g14 f15 x16 (plc st0 tok0) (finC (expM st0 (N 22)) xa)) (ho9 : ∀ j, j ≠ plc st0 tok0 → g13 j = G 13 j ∧ g14 j = G 14 j ∧ f15 j = F 15 j ∧ x16 j = X 16 j) (ls : Array Slot), lv_has ls 13 [(0, .ref (ad 0)), (3, .int (nI root)), (4, .int (nI e0 + Int32.ofInt (-1)))] → W p l e rm_X12_lay s m args below meth c H locs 0 0 Q (F0 m 31 ls [])) (K0 : k < 16 → cv (N 22) (F 28) (N 23) st0 tok0 k = false → ∀ (H : Heap) (locs : List Loc) (hP : va_P E.1 vwCl (mW E ad (ad 28) tr N X (va_up F 20 (va_up (F 20) e0 (k + 1))) G) H) (hD : va_D A (mW E ad (ad 28) tr N X (va_up F 20 (va_up (F 20) e0 (k + 1))) G)) (hS : va_S A s.heap H locs) (ls : Array Slot), lv_has ls 13 [(0, .ref (ad 0)), (3, .int (nI root)), (4, .int (nI e0))] → W p l e rm_X12_lay s m args below meth c H locs 0 0 Q (F0 m 31 ls [])) (K1 : k < 16 → cv (N 22) (F 28) (N 23) st0 tok0 k = true → F 12 (plc (nxS st0 k) (nxT tok0 (N 23) k)) = N 17 → ∀ (g13 g14 f15 : Nat → Nat) (x16 : Nat → Int32) (H : Heap) (locs : List Loc) (hP : va_P E.1 vwCl (mW E ad (ad 28) tr N (va_up X 16 x16) (va_up (va_up F 15 f15) 20 (va_up (F 20) e0 (k + 1))) (va_up (va_up G 13 g13) 14 g14)) H) (hD : va_D A (mW E ad (ad 28) tr N (va_up X 16 x16) (va_up (va_up F 15 f15) 20 (va_up (F 20) e0 (k + 1))) (va_up (va_up G 13 g13) 14 g14))) (hS : va_S A s.heap H locs) (hR9 : Rp g13 g14 f15 x16 (plc st0 tok0) (addC xa xb)) (ho9 : ∀ j, j ≠ plc st0 tok0 → g13 j = G 13 j ∧ g14 j = G 14 j ∧ f15 j = F 15 j ∧ x16 j = X 16 j) (ls : Array Slot), lv_has ls 13 [(0, .ref (ad 0)), (3, .int (nI root)), (4, .int (nI e0))] → W p l e rm_X12_lay s m args below meth c H locs 0 0 Q (F0 m 31 ls [])) (K2 : k < 16 → cv (N 22) (F 28) (N 23) st0 tok0 k = true → F 12 (plc (nxS st0 k) (nxT tok0 (N 23) k)) ≠ N 17 → ∀ (H : Heap) (locs : List Loc) (hP : va_P E.1 vwCl (mW E ad (ad 28) tr N (va_up X 16 (upd (X 16) (plc (nxS st0 k) (nxT tok0 (N 23) k)) (-1))) (va_up (va_up (va_up (va_up F 18 (va_up (F 18) (e0 + 1) (nxS st0 k))) 19 (va_up (F 19) (e0 + 1) (nxT tok0 (N 23) k))) 20 (va_up (F 20) (e0 + 1) 0)) 15 (va_up (F 15) (plc (nxS st0 k) (nxT tok0 (N 23) k)) 1000)) (va_up (va_up G 13 (va_up (G 13) (plc (nxS st0 k) (nxT tok0 (N 23) k)) 0)) 14 (va_up (G 14) (plc (nxS st0 k) (nxT tok0 (N 23) k)) 0))) H) (hD : va_D A (mW E ad (ad 28) tr N (va_up X 16 (upd (X 16) (plc (nxS st0 k) (nxT tok0 (N 23) k)) (-1))) (va_up (va_up (va_up (va_up F 18 (va_up (F 18) (e0 + 1) (nxS st0 k))) 19 (va_up (F 19) (e0 + 1) (nxT tok0 (N 23) k))) 20 (va_up (F 20) (e0 + 1) 0)) 15 (va_up (F 15) (plc (nxS st0 k) (nxT tok0 (N 23) k)) 1000)) (va_up (va_up G 13 (va_up (G 13) (plc (nxS st0 k) (nxT tok0 (N 23) k)) 0)) 14 (va_up (G 14) (plc (nxS st0 k) (nxT tok0 (N 23) k)) 0)))) (hS : va_S A s.heap H locs) (ls : Array Slot), lv_has ls 13 [(0, .ref (ad 0)), (3, .int (nI root)), (4, .int (nI (e0 + 1)))] → W p l e rm_X12_lay s m args below meth c H locs 0 0 Q (F0 m 31 ls [])) (H : Heap) (locs : List Loc) (hP : va_P E.1 vwCl (mW E ad (ad 28) tr N X F G) H) (hD : va_D A (mW E ad (ad 28) tr N X F G)) (hS : va_S A s.heap H locs) (ls : Array Slot) (hl : lv_has ls 13 [(0, .ref (ad 0)), (3, .int (nI root)), (4, .int (nI e0))]) : W p l e rm_X12_lay s m args below meth c H locs 0 0 Q (F0 m 31 ls []) := by
  obtain ⟨hx, hb, hr, hts, hown, hml, hlk, hN⟩ := id hC
  refine lv_iload hx hb dX12_lay_31 (lv_at hl 2 rfl) ?_
  refine n_if_lt (tgt := 247) hx hb (by omega) dX12_lay_33 (by decide) ?_
  refine lv_aload_n hx hb dX12_lay_36 rfl (lv_at hl 0 rfl) ?_
  refine va_get (D := E.1) (ci := 10) (v := .ref (ad 18)) (C := RX12) (T := TX12) (N := 30) hx hb hts iX12 hown hK hP 0 rfl rfl 18 (by decide) (hts _ kw_757) (fun _ h9 => h9) rfl dX12_lay_37 ?_
  refine lv_iload hx hb dX12_lay_40 (lv_at hl 2 rfl) ?_
  refine n_iald hx hb hK hP 13 rfl (by omega) (by decide) dX12_lay_42 ?_
  refine top_i (congrArg nI h18) ?_
  refine lv_istore (lv' := [(5, .int (nI st0)), (0, .ref (ad 0)), (3, .int (nI root)), (4, .int (nI e0))]) hx hb dX12_lay_43 hl (by decide) rfl (fun ls hl => ?_)
  refine lv_aload_n hx hb dX12_lay_45 rfl (lv_at hl 1 rfl) ?_
  refine va_get (D := E.1) (ci := 10) (v := .ref (ad 19)) (C := RX12) (T := TX12) (N := 30) hx hb hts iX12 hown hK hP 0 rfl rfl 19 (by decide) (hts _ kw_758) (fun _ h9 => h9) rfl dX12_lay_46 ?_
  refine lv_iload hx hb dX12_lay_49 (lv_at hl 3 rfl) ?_
  refine n_iald hx hb hK hP 14 rfl (by omega) (by decide) dX12_lay_51 ?_
  refine top_i (congrArg nI h19) ?_
  refine lv_istore (lv' := [(6, .int (nI tok0)), (5, .int (nI st0)), (0, .ref (ad 0)), (3, .int (nI root)), (4, .int (nI e0))]) hx hb dX12_lay_52 hl (by decide) rfl (fun ls hl => ?_)
  refine lv_aload_n hx hb dX12_lay_54 rfl (lv_at hl 2 rfl) ?_
  refine va_get (D := E.1) (ci := 10) (v := .ref (ad 20)) (C := RX12) (T := TX12) (N := 30) hx hb hts iX12 hown hK hP 0 rfl rfl 20 (by decide) (hts _ kw_759) (fun _ h9 => h9) rfl dX12_lay_55 ?_
  refine lv_iload hx hb dX12_lay_58 (lv_at hl 4 rfl) ?_
  refine n_iald hx hb hK hP 15 rfl (by omega) (by decide) dX12_lay_60 ?_
  refine top_i (congrArg nI h20) ?_
  refine lv_istore (lv' := [(7, .int (nI k)), (6, .int (nI tok0)), (5, .int (nI st0)), (0, .ref (ad 0)), (3, .int (nI root)), (4, .int (nI e0))]) hx hb dX12_lay_61 hl (by decide) rfl (fun ls hl => ?_)
  refine lv_iload hx hb dX12_lay_63 (lv_at hl 0 rfl) ?_
  refine lv_bipush (v := nI 16) hx hb dX12_lay_65 (by decide) ?_
  refine n_icmp_ne (tgt := 89) hx hb (by omega) (by omega) dX12_lay_67 (by decide) (fun c_1 => ?_) (fun c_1 => ?_)
  · -- t 89
    refine lv_iload hx hb dX12_lay_89 (lv_at hl 0 rfl) ?_
    refine lv_iconst (v := nI 4) hx hb dX12_lay_91 (by decide) ?_
    refine n_idiv hx hb (by omega) (by omega) (by omega) dX12_lay_92 ?_
    refine lv_istore (lv' := [(8, .int (nI (k / 4))), (7, .int (nI k)), (6, .int (nI tok0)), (5, .int (nI st0)), (0, .ref (ad 0)), (3, .int (nI root)), (4, .int (nI e0))]) hx hb dX12_lay_93 hl (by decide) rfl (fun ls hl => ?_)
    refine lv_iload hx hb dX12_lay_95 (lv_at hl 1 rfl) ?_
    refine lv_iconst (v := nI 4) hx hb dX12_lay_97 (by decide) ?_
    refine n_irem hx hb (by omega) (by omega) (by omega) dX12_lay_98 ?_
    refine lv_istore (lv' := [(9, .int (nI (k % 4))), (8, .int (nI (k / 4))), (7, .int (nI k)), (6, .int (nI tok0)), (5, .int (nI st0)), (0, .ref (ad 0)), (3, .int (nI root)), (4, .int (nI e0))]) hx hb dX12_lay_99 hl (by decide) rfl (fun ls hl => ?_)
    refine lv_iload hx hb dX12_lay_101 (lv_at hl 1 rfl) ?_
    refine lv_aload_n hx hb dX12_lay_103 rfl (lv_at hl 5 rfl) ?_
    refine va_get (D := E.1) (ci := 10) (v := .int (nI (N 22))) (C := RX12) (T := TX12) (N := 30) hx hb hts iX12 hown hK hP 0 rfl rfl 22 (by decide) (hts _ kw_761) (fun _ h9 => h9) rfl dX12_lay_104 ?_
    refine n_icmp_ge (tgt := 141) hx hb (by omega) (by omega) dX12_lay_107 (by decide) (fun c_2 => ?_) (fun c_2 => ?_)
    · -- t 141
      refine lv_aload_n hx hb dX12_lay_141 rfl (lv_at hl 5 rfl) ?_
      refine va_get (D := E.1) (ci := 10) (v := .ref (ad 20)) (C := RX12) (T := TX12) (N := 30) hx hb hts iX12 hown hK hP 0 rfl rfl 20 (by decide) (hts _ kw_759) (fun _ h9 => h9) rfl dX12_lay_142 ?_
      refine lv_iload hx hb dX12_lay_145 (lv_at hl 7 rfl) ?_
      refine lv_dup2_11 hx hb dX12_lay_147 rfl rfl ?_
      refine n_iald hx hb hK hP 15 rfl (by omega) (by decide) dX12_lay_148 ?_
      refine top_i (congrArg nI h20) ?_
      refine lv_iconst (v := nI 1) hx hb dX12_lay_149 (by decide) ?_
      refine n_iadd hx hb dX12_lay_150 ?_
      refine n_iast hx hb hK hP hD hS 15 rfl (by omega) (by decide) dX12_lay_151 (fun H locs hP hD hS => ?_)
      have hP : va_P E.1 vwCl (mW E ad (ad 28) tr N X (va_up F 20 (va_up (F 20) e0 (k + 1))) G) H := hP
      have hD : va_D A (mW E ad (ad 28) tr N X (va_up F 20 (va_up (F 20) e0 (k + 1))) G) := hD
      refine lv_goto (tgt := 31) hx hb dX12_lay_152 (by decide) ?_
      exact K0 (by omega) (by unfold cv; rw [decide_eq_false (Nat.not_lt.mpr c_2)]; rfl) H locs hP hD hS ls (lv_sub hl [5, 6, 7] rfl)
    · -- f 110
      refine lv_iload hx hb dX12_lay_110 (lv_at hl 0 rfl) ?_
      refine lv_aload_n hx hb dX12_lay_112 rfl (lv_at hl 5 rfl) ?_
      refine va_get (D := E.1) (ci := 10) (v := .int (nI (N 22))) (C := RX12) (T := TX12) (N := 30) hx hb hts iX12 hown hK hP 0 rfl rfl 22 (by decide) (hts _ kw_761) (fun _ h9 => h9) rfl dX12_lay_113 ?_
      refine n_icmp_ge (tgt := 141) hx hb (by omega) (by omega) dX12_lay_116 (by decide) (fun c_3 => ?_) (fun c_3 => ?_)
      · -- t 141
        refine lv_aload_n hx hb dX12_lay_141 rfl (lv_at hl 5 rfl) ?_
        refine va_get (D := E.1) (ci := 10) (v := .ref (ad 20)) (C := RX12) (T := TX12) (N := 30) hx hb hts iX12 hown hK hP 0 rfl rfl 20 (by decide) (hts _ kw_759) (fun _ h9 => h9) rfl dX12_lay_142 ?_
        refine lv_iload hx hb dX12_lay_145 (lv_at hl 7 rfl) ?_
        refine lv_dup2_11 hx hb dX12_lay_147 rfl rfl ?_
        refine n_iald hx hb hK hP 15 rfl (by omega) (by decide) dX12_lay_148 ?_
        refine top_i (congrArg nI h20) ?_
        refine lv_iconst (v := nI 1) hx hb dX12_lay_149 (by decide) ?_
        refine n_iadd hx hb dX12_lay_150 ?_
        refine n_iast hx hb hK hP hD hS 15 rfl (by omega) (by decide) dX12_lay_151 (fun H locs hP hD hS => ?_)
        have hP : va_P E.1 vwCl (mW E ad (ad 28) tr N X (va_up F 20 (va_up (F 20) e0 (k + 1))) G) H := hP
        have hD : va_D A (mW E ad (ad 28) tr N X (va_up F 20 (va_up (F 20) e0 (k + 1))) G) := hD
        refine lv_goto (tgt := 31) hx hb dX12_lay_152 (by decide) ?_
        exact K0 (by omega) (by unfold cv; rw [decide_eq_false (p := k % 4 < N 22) (Nat.not_lt.mpr c_3)]; simp) H locs hP hD hS ls (lv_sub hl [5, 6, 7] rfl)
      · -- f 119
        refine lv_aload_n hx hb dX12_lay_119 rfl (lv_at hl 5 rfl) ?_
        refine va_get (D := E.1) (ci := 10) (v := .ref (ad 28)) (C := RX12) (T := TX12) (N := 30) hx hb hts iX12 hown hK hP 0 rfl rfl 21 (by decide) (hts _ kw_760) (fun _ h9 => h9) rfl dX12_lay_120 ?_
        refine lv_aload_n hx hb dX12_lay_123 rfl (lv_at hl 5 rfl) ?_
        refine va_get (D := E.1) (ci := 10) (v := .int (nI (N 23))) (C := RX12) (T := TX12) (N := 30) hx hb hts iX12 hown hK hP 0 rfl rfl 23 (by decide) (hts _ kw_762) (fun _ h9 => h9) rfl dX12_lay_124 ?_
        refine lv_iload hx hb dX12_lay_127 (lv_at hl 4 rfl) ?_
        refine lv_iload hx hb dX12_lay_129 (lv_at hl 3 rfl) ?_
        refine lv_iload hx hb dX12_lay_131 (lv_at hl 1 rfl) ?_
        refine lv_iload hx hb dX12_lay_133 (lv_at hl 0 rfl) ?_
        refine cS_r (rest := []) hC (c_may l E (ad 28) (F 28) (N 23) st0 tok0 (k / 4) (k % 4) (by omega) (by omega) (by omega) (by omega) (by omega) (fun j _ => hnt j)) kw_921 sy_X12_mayRing ⟨Nat.le_of_ble_eq_true rfl, Nat.le_of_ble_eq_true rfl⟩ ⟨rfl, rfl⟩ hK (hP.sub (ws' := aW E (ad 28) (F 28)) [18] rfl) rfl hl.1 rfl (Nat.le_of_ble_eq_true rfl) dX12_lay_135 ⟨Nat.le_of_ble_eq_true rfl, Nat.le_of_ble_eq_true rfl⟩ ?_
        refine b_if_ne (tgt := 155) hx hb dX12_lay_138 (by decide) (fun c_4 => ?_) (fun c_4 => ?_)
        · -- t 155
          have hcv : cv (N 22) (F 28) (N 23) st0 tok0 k = true := by unfold cv; rw [decide_eq_true c_2, decide_eq_true c_3, c_4]; rfl
          refine lv_iload hx hb dX12_lay_155 (lv_at hl 4 rfl) ?_
          refine lv_iload hx hb dX12_lay_157 (lv_at hl 1 rfl) ?_
          refine lv_iload hx hb dX12_lay_159 (lv_at hl 0 rfl) ?_
          refine cS_p (rest := []) hC (c_aft l st0 (k / 4) (k % 4) (by omega) (by omega) (by omega)) kw_871 sy_X12_afterCall ⟨Nat.le_of_ble_eq_true rfl, Nat.le_of_ble_eq_true rfl⟩ ⟨rfl, rfl⟩ rfl hl.1 rfl (Nat.le_of_ble_eq_true rfl) dX12_lay_161 ⟨Nat.le_of_ble_eq_true rfl, Nat.le_of_ble_eq_true rfl⟩ ?_
          have f_5 := aft_lt (st := st0) (pp := k / 4) (qq := k % 4) (by omega) (by omega) (by omega)
          refine lv_istore (lv' := [(10, .int (nI (aft st0 (k / 4) (k % 4)))), (9, .int (nI (k % 4))), (8, .int (nI (k / 4))), (7, .int (nI k)), (6, .int (nI tok0)), (5, .int (nI st0)), (0, .ref (ad 0)), (3, .int (nI root)), (4, .int (nI e0))]) hx hb dX12_lay_164 hl (by decide) rfl (fun ls hl => ?_)
          refine lv_iload hx hb dX12_lay_166 (lv_at hl 4 rfl) ?_
          refine lv_aload_n hx hb dX12_lay_168 rfl (lv_at hl 6 rfl) ?_
          refine va_get (D := E.1) (ci := 10) (v := .int (nI (N 23))) (C := RX12) (T := TX12) (N := 30) hx hb hts iX12 hown hK hP 0 rfl rfl 23 (by decide) (hts _ kw_762) (fun _ h9 => h9) rfl dX12_lay_169 ?_
          refine lv_iload hx hb dX12_lay_172 (lv_at hl 2 rfl) ?_
          refine lv_iload hx hb dX12_lay_174 (lv_at hl 1 rfl) ?_
          refine cS_p (rest := []) hC (c_tokA l tok0 (N 23) (k / 4) (k % 4) (by omega) (by omega) (by omega)) kw_884 sy_X12_tokensAfter ⟨Nat.le_of_ble_eq_true rfl, Nat.le_of_ble_eq_true rfl⟩ ⟨rfl, rfl⟩ rfl hl.1 rfl (Nat.le_of_ble_eq_true rfl) dX12_lay_176 ⟨Nat.le_of_ble_eq_true rfl, Nat.le_of_ble_eq_true rfl⟩ ?_
          have f_6 := tokA_lt (t := tok0) (r := N 23) (pp := k / 4) (qq := k % 4) (by omega) (by omega)
          refine lv_istore (lv' := [(11, .int (nI (tokA tok0 (N 23) (k / 4) (k % 4)))), (10, .int (nI (aft st0 (k / 4) (k % 4)))), (9, .int (nI (k % 4))), (8, .int (nI (k / 4))), (7, .int (nI k)), (6, .int (nI tok0)), (5, .int (nI st0)), (0, .ref (ad 0)), (3, .int (nI root)), (4, .int (nI e0))]) hx hb dX12_lay_179 hl (by decide) rfl (fun ls hl => ?_)
          refine lv_iload hx hb dX12_lay_181 (lv_at hl 1 rfl) ?_
          refine lv_iload hx hb dX12_lay_183 (lv_at hl 0 rfl) ?_
          refine cS_p (rest := []) hC (c_plc l (aft st0 (k / 4) (k % 4)) (tokA tok0 (N 23) (k / 4) (k % 4)) (by omega) (by omega)) kw_941 sy_X12_placeOf ⟨Nat.le_of_ble_eq_true rfl, Nat.le_of_ble_eq_true rfl⟩ ⟨rfl, rfl⟩ rfl hl.1 rfl (Nat.le_of_ble_eq_true rfl) dX12_lay_185 ⟨Nat.le_of_ble_eq_true rfl, Nat.le_of_ble_eq_true rfl⟩ ?_
          have f_7 := plc_lt (aft st0 (k / 4) (k % 4)) (tokA tok0 (N 23) (k / 4) (k % 4))
          refine lv_istore (lv' := [(12, .int (nI (plc (aft st0 (k / 4) (k % 4)) (tokA tok0 (N 23) (k / 4) (k % 4))))), (11, .int (nI (tokA tok0 (N 23) (k / 4) (k % 4)))), (10, .int (nI (aft st0 (k / 4) (k % 4)))), (9, .int (nI (k % 4))), (8, .int (nI (k / 4))), (7, .int (nI k)), (6, .int (nI tok0)), (5, .int (nI st0)), (0, .ref (ad 0)), (3, .int (nI root)), (4, .int (nI e0))]) hx hb dX12_lay_188 hl (by decide) rfl (fun ls hl => ?_)
          refine lv_aload_n hx hb dX12_lay_190 rfl (lv_at hl 8 rfl) ?_
          refine va_get (D := E.1) (ci := 10) (v := .ref (ad 12)) (C := RX12) (T := TX12) (N := 30) hx hb hts iX12 hown hK hP 0 rfl rfl 12 (by decide) (hts _ kw_751) (fun _ h9 => h9) rfl dX12_lay_191 ?_
          refine lv_iload hx hb dX12_lay_194 (lv_at hl 0 rfl) ?_
          refine n_iald hx hb hK hP 8 rfl (by omega) (by decide) dX12_lay_196 ?_
          have hs9 := hs12 (plc (nxS st0 k) (nxT tok0 (N 23) k))
          refine lv_aload_n hx hb dX12_lay_197 rfl (lv_at hl 8 rfl) ?_
          refine va_get (D := E.1) (ci := 10) (v := .int (nI (N 17))) (C := RX12) (T := TX12) (N := 30) hx hb hts iX12 hown hK hP 0 rfl rfl 17 (by decide) (hts _ kw_756) (fun _ h9 => h9) rfl dX12_lay_198 ?_
          refine n_icmp_ne (tgt := 231) hx hb (by omega) (by omega) dX12_lay_201 (by decide) (fun c_8 => ?_) (fun c_8 => ?_)
          · -- t 231
            refine lv_iinc (v := nI (e0 + 1)) (lv' := [(4, .int (nI (e0 + 1))), (12, .int (nI (plc (aft st0 (k / 4) (k % 4)) (tokA tok0 (N 23) (k / 4) (k % 4))))), (11, .int (nI (tokA tok0 (N 23) (k / 4) (k % 4)))), (10, .int (nI (aft st0 (k / 4) (k % 4)))), (9, .int (nI (k % 4))), (8, .int (nI (k / 4))), (7, .int (nI k)), (6, .int (nI tok0)), (5, .int (nI st0)), (0, .ref (ad 0)), (3, .int (nI root))]) hx hb dX12_lay_231 hl (k := 10) rfl (ii_1 _) (by decide) rfl (fun ls hl => ?_)
            refine lv_aload_n hx hb dX12_lay_234 rfl (lv_at hl 9 rfl) ?_
            refine lv_iload hx hb dX12_lay_235 (lv_at hl 0 rfl) ?_
            refine lv_iload hx hb dX12_lay_237 (lv_at hl 3 rfl) ?_
            refine lv_iload hx hb dX12_lay_239 (lv_at hl 2 rfl) ?_
            refine cV_w0 (rest := []) hC (c_m_open l E ad (ad 28) tr N X F G H.size (e0 + 1) (aft st0 (k / 4) (k % 4)) (tokA tok0 (N 23) (k / 4) (k % 4)) (by omega) (by omega) (by omega)) kw_945 iy_X12_open ⟨Nat.le_of_ble_eq_true rfl, Nat.le_of_ble_eq_true rfl⟩ ⟨rfl, rfl⟩ hK hP hD hS hA (va_recv hK hP (ci := 10) (q0 := 0) rfl rfl) rfl hl.1 rfl (Nat.le_of_ble_eq_true rfl) dX12_lay_241 ⟨Nat.le_of_ble_eq_true rfl, Nat.le_of_ble_eq_true rfl⟩ (fun v_ w_ H locs hpost hP hD hS => ?_)
            obtain ⟨rfl, rfl⟩ := hpost
            refine W.eq (g2 := F0 m 244 ls []) rfl ?_
            refine lv_goto (tgt := 31) hx hb dX12_lay_244 (by decide) ?_
            exact K2 (by omega) hcv c_8 H locs hP hD hS ls (lv_sub hl [9, 10, 0] rfl)
          · -- f 204
            obtain ⟨hRb, sb, hneq⟩ := hch hcv c_8
            refine lv_aload_n hx hb dX12_lay_204 rfl (lv_at hl 8 rfl) ?_
            refine lv_iload hx hb dX12_lay_205 (lv_at hl 7 rfl) ?_
            refine lv_iload hx hb dX12_lay_207 (lv_at hl 6 rfl) ?_
            refine cS_p (rest := [.ref (ad 0)]) hC (c_plc l st0 tok0 (by omega) (by omega)) kw_941 sy_X12_placeOf ⟨Nat.le_of_ble_eq_true rfl, Nat.le_of_ble_eq_true rfl⟩ ⟨rfl, rfl⟩ rfl hl.1 rfl (Nat.le_of_ble_eq_true rfl) dX12_lay_209 ⟨Nat.le_of_ble_eq_true rfl, Nat.le_of_ble_eq_true rfl⟩ ?_
            have f_9 := plc_lt st0 tok0
            refine lv_iload hx hb dX12_lay_212 (lv_at hl 0 rfl) ?_
            refine cV_w0 (rest := []) hC (c_m_add l E ad (ad 28) tr N X F G H.size (plc st0 tok0) (plc (aft st0 (k / 4) (k % 4)) (tokA tok0 (N 23) (k / 4) (k % 4))) (plc_lt _ _) (plc_lt _ _) hneq xa xb hRa hRb sa sb) kw_957 iy_X12_add ⟨Nat.le_of_ble_eq_true rfl, Nat.le_of_ble_eq_true rfl⟩ ⟨rfl, rfl⟩ hK hP hD hS hA (va_recv hK hP (ci := 10) (q0 := 0) rfl rfl) rfl hl.1 rfl (Nat.le_of_ble_eq_true rfl) dX12_lay_214 ⟨Nat.le_of_ble_eq_true rfl, Nat.le_of_ble_eq_true rfl⟩ (fun v_ w_ H locs hpost hP hD hS => ?_)
            obtain ⟨rfl, g13, g14, f15, x16, rfl, hRx, hox⟩ := hpost
            refine W.eq (g2 := F0 m 217 ls []) rfl ?_
            refine lv_aload_n hx hb dX12_lay_217 rfl (lv_at hl 8 rfl) ?_
            refine va_get (D := E.1) (ci := 10) (v := .ref (ad 20)) (C := RX12) (T := TX12) (N := 30) hx hb hts iX12 hown hK hP 0 rfl rfl 20 (by decide) (hts _ kw_759) (fun _ h9 => h9) rfl dX12_lay_218 ?_
            refine lv_iload hx hb dX12_lay_221 (lv_at hl 10 rfl) ?_
            refine lv_dup2_11 hx hb dX12_lay_223 rfl rfl ?_
            refine n_iald hx hb hK hP 15 rfl (by omega) (by decide) dX12_lay_224 ?_
            refine top_i (congrArg nI h20) ?_
            refine lv_iconst (v := nI 1) hx hb dX12_lay_225 (by decide) ?_
            refine n_iadd hx hb dX12_lay_226 ?_
            refine n_iast hx hb hK hP hD hS 15 rfl (by omega) (by decide) dX12_lay_227 (fun H locs hP hD hS => ?_)
            have hP : va_P E.1 vwCl (mW E ad (ad 28) tr N (va_up X 16 x16) (va_up (va_up F 15 f15) 20 (va_up (F 20) e0 (k + 1))) (va_up (va_up G 13 g13) 14 g14)) H := hP
            have hD : va_D A (mW E ad (ad 28) tr N (va_up X 16 x16) (va_up (va_up F 15 f15) 20 (va_up (F 20) e0 (k + 1))) (va_up (va_up G 13 g13) 14 g14)) := hD
            refine lv_goto (tgt := 244) hx hb dX12_lay_228 (by decide) ?_
            refine lv_goto (tgt := 31) hx hb dX12_lay_244 (by decide) ?_
            exact K1 (by omega) hcv c_8 g13 g14 f15 x16 H locs hP hD hS hRx hox ls (lv_sub hl [8, 9, 10] rfl)
        · -- f 141
          refine lv_aload_n hx hb dX12_lay_141 rfl (lv_at hl 5 rfl) ?_
          refine va_get (D := E.1) (ci := 10) (v := .ref (ad 20)) (C := RX12) (T := TX12) (N := 30) hx hb hts iX12 hown hK hP 0 rfl rfl 20 (by decide) (hts _ kw_759) (fun _ h9 => h9) rfl dX12_lay_142 ?_
          refine lv_iload hx hb dX12_lay_145 (lv_at hl 7 rfl) ?_
          refine lv_dup2_11 hx hb dX12_lay_147 rfl rfl ?_
          refine n_iald hx hb hK hP 15 rfl (by omega) (by decide) dX12_lay_148 ?_
          refine top_i (congrArg nI h20) ?_
          refine lv_iconst (v := nI 1) hx hb dX12_lay_149 (by decide) ?_
          refine n_iadd hx hb dX12_lay_150 ?_
          refine n_iast hx hb hK hP hD hS 15 rfl (by omega) (by decide) dX12_lay_151 (fun H locs hP hD hS => ?_)
          have hP : va_P E.1 vwCl (mW E ad (ad 28) tr N X (va_up F 20 (va_up (F 20) e0 (k + 1))) G) H := hP
          have hD : va_D A (mW E ad (ad 28) tr N X (va_up F 20 (va_up (F 20) e0 (k + 1))) G) := hD
          refine lv_goto (tgt := 31) hx hb dX12_lay_152 (by decide) ?_
          exact K0 (by omega) (by unfold cv; rw [c_4]; simp) H locs hP hD hS ls (lv_sub hl [5, 6, 7] rfl)
  · -- f 70
    refine lv_aload_n hx hb dX12_lay_70 rfl (lv_at hl 3 rfl) ?_
    refine lv_iload hx hb dX12_lay_71 (lv_at hl 2 rfl) ?_
    refine lv_iload hx hb dX12_lay_73 (lv_at hl 1 rfl) ?_
    refine cS_p (rest := [.ref (ad 0)]) hC (c_plc l st0 tok0 (by omega) (by omega)) kw_941 sy_X12_placeOf ⟨Nat.le_of_ble_eq_true rfl, Nat.le_of_ble_eq_true rfl⟩ ⟨rfl, rfl⟩ rfl hl.1 rfl (Nat.le_of_ble_eq_true rfl) dX12_lay_75 ⟨Nat.le_of_ble_eq_true rfl, Nat.le_of_ble_eq_true rfl⟩ ?_
    have f_10 := plc_lt st0 tok0
    refine lv_iload hx hb dX12_lay_78 (lv_at hl 2 rfl) ?_
    refine cV_w0 (rest := []) hC (c_m_close l E ad (ad 28) tr N X F G H.size (plc st0 tok0) st0 (plc_lt _ _) hst hn22 xa hRa sa) kw_949 iy_X12_close ⟨Nat.le_of_ble_eq_true rfl, Nat.le_of_ble_eq_true rfl⟩ ⟨rfl, rfl⟩ hK hP hD hS hA (va_recv hK hP (ci := 10) (q0 := 0) rfl rfl) rfl hl.1 rfl (Nat.le_of_ble_eq_true rfl) dX12_lay_80 ⟨Nat.le_of_ble_eq_true rfl, Nat.le_of_ble_eq_true rfl⟩ (fun v_ w_ H locs hpost hP hD hS => ?_)
    obtain ⟨rfl, g13, g14, f15, x16, rfl, hRx, hox⟩ := hpost
    refine W.eq (g2 := F0 m 83 ls []) rfl ?_
    refine lv_iinc (v := nI e0 + Int32.ofInt (-1)) (lv' := [(4, .int (nI e0 + Int32.ofInt (-1))), (7, .int (nI k)), (6, .int (nI tok0)), (5, .int (nI st0)), (0, .ref (ad 0)), (3, .int (nI root))]) hx hb dX12_lay_83 hl (k := 5) rfl rfl (by decide) rfl (fun ls hl => ?_)
    refine lv_goto (tgt := 31) hx hb dX12_lay_86 (by decide) ?_
    exact K16 c_1 g13 g14 f15 x16 H locs hP hD hS hRx hox ls (lv_sub hl [4, 5, 0] rfl)
