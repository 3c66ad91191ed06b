set_option maxHeartbeats 4000000 in
set_option maxRecDepth 100000 in
theorem c_m_runs (l : Launch) (E : EE) (ad : Nat → Nat) (lk : Nat) (tr : Int32) (N : Nat → Nat) (X : Nat → Nat → Int32) (F G : Nat → Nat → Nat) (sz : Nat) (hM : MOK N F) (hT : TB N F) (h17 : N 17 + 1 < 2 ^ 31) (hcn : CPn N F) (a1 a2 : Int32) : Wr l yX12_runs cX12_runs 4 (some .long) rm_X12_runs 0 0 E (mW E ad lk tr N X F G) sz [.ref (ad 0), .int a1, .int a2] (fun v w1 => v = some (.long (s_runs (N 5) (N 9) (F 6) (F 10) (F 11) a1 a2)) ∧ QP E ad tr N X F 64 w1) := by
  refine mk_wr (by decide) (Nat.le_of_ble_eq_true rfl) ?_
  intro p e s m args below meth c hC hin hK A hA hP hD hS ls hl
  obtain ⟨hx, hb, hr, hts, hown, hml, hlk, hN⟩ := id hC
  have hl : lv_has ls 4 [(0, .ref (ad 0)), (1, .int a1), (2, .int a2)] := hl
  obtain ⟨hM5, hM9, hMp, hMq, hMn⟩ := id hM
  have hn : ∀ j, j < 4 → F 6 j < 16 := fun j _ => hMn j
  have hvs := VS_stS (cP := F 10) (cQ := F 11) hM5 (N 9) hcn
  obtain ⟨H, hH⟩ : ∃ z, z = s.heap := ⟨_, rfl⟩
  have hS : va_S A s.heap H [] := by rw [hH]; exact hS
  rw [← hH] at hP
  refine W_heap hH ?_
  obtain ⟨locs, hlo⟩ : ∃ z : List Loc, z = [] := ⟨_, rfl⟩
  rw [← hlo] at hS ⊢
  refine lv_iload_n hx hb dX12_runs_0 rfl (lv_at hl 1 rfl) ?_
  refine cS_p (rest := []) hC (c_m_isRule l a1) kw_918 sy_X12_isRule ⟨Nat.le_of_ble_eq_true rfl, Nat.le_of_ble_eq_true rfl⟩ ⟨rfl, rfl⟩ rfl hl.1 rfl (Nat.le_of_ble_eq_true rfl) dX12_runs_1 ⟨Nat.le_of_ble_eq_true rfl, Nat.le_of_ble_eq_true rfl⟩ ?_
  refine b_if_eq (tgt := 23) hx hb dX12_runs_4 (by decide) (fun c_1 => ?_) (fun c_1 => ?_)
  · -- t 23
    refine lv_ldc2 (v := lN 9223372036854775808) hx hb hown (hts _ kw_928) dX12_runs_23 ?_
    exact rw_l hC hP hD hS (⟨by rw [s_runs, if_pos c_1], QP.rf hT⟩) dX12_runs_26 (Nat.le_of_ble_eq_true rfl) (Nat.le_of_ble_eq_true rfl)
  · -- f 7
    obtain ⟨r, hr, rfl⟩ := isIn_nat (by decide) c_1
    have hcr := nI_clamp (n := r) (by omega)
    have hl : lv_has ls 4 [(0, .ref (ad 0)), (1, .int (nI r)), (2, .int a2)] := hl
    refine lv_iload_n hx hb dX12_runs_7 rfl (lv_at hl 2 rfl) ?_
    refine lv_iconst (v := nI 0) hx hb dX12_runs_8 (by decide) ?_
    refine lv_iconst (v := nI 1) hx hb dX12_runs_9 (by decide) ?_
    refine cS_p (rest := []) hC (c_isIn l a2 (nI 0) (nI 1)) kw_837 sy_X12_isIn ⟨Nat.le_of_ble_eq_true rfl, Nat.le_of_ble_eq_true rfl⟩ ⟨rfl, rfl⟩ rfl hl.1 rfl (Nat.le_of_ble_eq_true rfl) dX12_runs_10 ⟨Nat.le_of_ble_eq_true rfl, Nat.le_of_ble_eq_true rfl⟩ ?_
    refine b_if_eq (tgt := 23) hx hb dX12_runs_13 (by decide) (fun c_2 => ?_) (fun c_2 => ?_)
    · -- t 23
      refine lv_ldc2 (v := lN 9223372036854775808) hx hb hown (hts _ kw_928) dX12_runs_23 ?_
      exact rw_l hC hP hD hS (⟨by rw [s_runs, if_neg (by rw [c_1]; decide), if_pos c_2], QP.rf hT⟩) dX12_runs_26 (Nat.le_of_ble_eq_true rfl) (Nat.le_of_ble_eq_true rfl)
    · -- f 16
      obtain ⟨w, hw, rfl⟩ := isIn_nat (by decide) c_2
      have hcw := nI_clamp (n := w) (by omega)
      have hl : lv_has ls 4 [(0, .ref (ad 0)), (1, .int (nI r)), (2, .int (nI w))] := hl
      refine lv_aload_n hx hb dX12_runs_16 rfl (lv_at hl 0 rfl) ?_
      refine va_get (D := E.1) (ci := 10) (v := .int (nI (N 5))) (C := RX12) (T := TX12) (N := 30) hx hb hts iX12 hown hK hP 0 rfl rfl 5 (by decide) (hts _ kw_744) (fun _ h9 => h9) rfl dX12_runs_17 ?_
      refine n_if_ne (tgt := 27) hx hb (by omega) dX12_runs_20 (by decide) (fun c_3 => ?_) (fun c_3 => ?_)
      · -- t 27
        refine lv_aload_n hx hb dX12_runs_27 rfl (lv_at hl 0 rfl) ?_
        refine lv_iload_n hx hb dX12_runs_28 rfl (lv_at hl 1 rfl) ?_
        refine cV_w0 (rest := []) hC (c_m_layNow l E ad lk tr N X F G H.size hM hT h17 hcn r (by omega)) kw_929 iy_X12_layNow ⟨Nat.le_of_ble_eq_true rfl, Nat.le_of_ble_eq_true rfl⟩ ⟨rfl, rfl⟩ hK hP hD hS hA (va_recv hK hP (ci := 10) (q0 := 0) rfl rfl) rfl hl.1 rfl (Nat.le_of_ble_eq_true rfl) dX12_runs_29 ⟨Nat.le_of_ble_eq_true rfl, Nat.le_of_ble_eq_true rfl⟩ (fun v_ w_ H locs hpost hP hD hS => ?_)
        obtain ⟨rfl, X2, F2, G2, rfl, hI2, hs2, hle2, hf1, hf2, hf3⟩ := hpost
        have hsc : SC N (va_up (va_up (va_up N 17 (N 17 + 1)) 22 (N 5)) 23 r) X X2 F F2 := SC_fr ⟨rfl, rfl, rfl⟩ hf1 hf2
        have hM2 := hM.sc hsc
        have e10 : F2 10 = F 10 := hsc.2.2.2.2.2.2.2.1
        have e11 : F2 11 = F 11 := hsc.2.2.2.2.2.2.2.2
        have e6 : F2 6 = F 6 := hsc.2.2.2.2.2.2.1
        have htk9 := tokS_lt (n := N 5) (r := r) (cP := F 10) (by omega) hMq (N 9)
        obtain ⟨hR2, hch2⟩ := hI2 _ _ hvs htk9 hs2
        have hsm2 := CN_sm (n := N 5) (net := F 6) (r := r) (st := stS (N 5) (F 10) (F 11) (N 9)) (tok := tokS (N 5) r (F 10) (F 11) (N 9))
        obtain ⟨sm1, sm2, sm3, sm4⟩ := id hsm2
        have hg2 := hR2.2.1
        have hg1 := hR2.1
        have hplt := plc_lt (stS (N 5) (F 10) (F 11) (N 9)) (tokS (N 5) r (F 10) (F 11) (N 9))
        refine W.eq (g2 := F0 m 32 ls [.int (nI (plc (stS (N 5) (F 10) (F 11) (N 9)) (tokS (N 5) r (F 10) (F 11) (N 9))))]) rfl ?_
        refine lv_istore_n (lv' := [(3, .int (nI (plc (stS (N 5) (F 10) (F 11) (N 9)) (tokS (N 5) r (F 10) (F 11) (N 9))))), (0, .ref (ad 0)), (1, .int (nI r)), (2, .int (nI w))]) hx hb dX12_runs_32 rfl hl (by decide) rfl (fun ls hl => ?_)
        refine lv_iload_n hx hb dX12_runs_33 rfl (lv_at hl 3 rfl) ?_
        refine n_if_ne (tgt := 46) hx hb (by omega) dX12_runs_34 (by decide) (fun c_4 => ?_) (fun c_4 => ?_)
        · -- t 46
          refine lv_aload_n hx hb dX12_runs_46 rfl (lv_at hl 1 rfl) ?_
          refine va_get (D := E.1) (ci := 10) (v := .ref (ad 14)) (C := RX12) (T := TX12) (N := 30) hx hb hts iX12 hown hK hP 0 rfl rfl 14 (by decide) (hts _ kw_753) (fun _ h9 => h9) rfl dX12_runs_47 ?_
          refine lv_iload_n hx hb dX12_runs_50 rfl (lv_at hl 0 rfl) ?_
          refine n_lald hx hb hK hP 10 rfl (by omega) (by decide) dX12_runs_51 ?_
          exact rw_l hC hP hD hS (⟨by rw [s_runs, if_neg (by rw [c_1]; decide), if_neg (by rw [c_2]; decide), if_neg c_3, hcr, hcw, if_neg c_4]; exact congrArg (fun z => some (Value.long (lN z))) hR2.2.1, ⟨_, _, X2, F2, G2, rfl, hsc, ⟨hle2, fun j => by rw [hf1 28 (by decide) (by decide) (by decide) (by decide) (by decide)]; exact hT.2 j⟩, by show N 17 + 1 ≤ N 17 + 64; omega⟩⟩) dX12_runs_52 (Nat.le_of_ble_eq_true rfl) (Nat.le_of_ble_eq_true rfl)
        · -- f 37
          refine lv_aload_n hx hb dX12_runs_37 rfl (lv_at hl 1 rfl) ?_
          refine va_get (D := E.1) (ci := 10) (v := .ref (ad 13)) (C := RX12) (T := TX12) (N := 30) hx hb hts iX12 hown hK hP 0 rfl rfl 13 (by decide) (hts _ kw_752) (fun _ h9 => h9) rfl dX12_runs_38 ?_
          refine lv_iload_n hx hb dX12_runs_41 rfl (lv_at hl 0 rfl) ?_
          refine n_lald hx hb hK hP 9 rfl (by omega) (by decide) dX12_runs_42 ?_
          refine lv_goto (tgt := 52) hx hb dX12_runs_43 (by decide) ?_
          exact rw_l hC hP hD hS (⟨by rw [s_runs, if_neg (by rw [c_1]; decide), if_neg (by rw [c_2]; decide), if_neg c_3, hcr, hcw, if_pos c_4]; exact congrArg (fun z => some (Value.long (lN z))) hR2.1, ⟨_, _, X2, F2, G2, rfl, hsc, ⟨hle2, fun j => by rw [hf1 28 (by decide) (by decide) (by decide) (by decide) (by decide)]; exact hT.2 j⟩, by show N 17 + 1 ≤ N 17 + 64; omega⟩⟩) dX12_runs_52 (Nat.le_of_ble_eq_true rfl) (Nat.le_of_ble_eq_true rfl)
      · -- f 23
        refine lv_ldc2 (v := lN 9223372036854775808) hx hb hown (hts _ kw_928) dX12_runs_23 ?_
        exact rw_l hC hP hD hS (⟨by rw [s_runs, if_neg (by rw [c_1]; decide), if_neg (by rw [c_2]; decide), if_pos c_3], QP.rf hT⟩) dX12_runs_26 (Nat.le_of_ble_eq_true rfl) (Nat.le_of_ble_eq_true rfl)

set_option maxHeartbeats 4000000 in
set_option maxRecDepth 100000 in
theorem c_m_verdict (l : Launch) (E : EE) (ad : Nat → Nat) (lk : Nat) (tr : Int32) (N : Nat → Nat) (X : Nat → Nat → Int32) (F G : Nat → Nat → Nat) (sz : Nat) (hM : MOK N F) (hT : TB N F) (h17 : N 17 + 1 < 2 ^ 31) (hcn : CPn N F) (a1 : Int32) : Wr l yX12_verdict cX12_verdict 2 (some .int) rm_X12_verdict 0 0 E (mW E ad lk tr N X F G) sz [.ref (ad 0), .int a1] (fun v w1 => v = some (.int (s_verdict (N 5) (N 9) (F 6) (F 10) (F 11) a1)) ∧ QP E ad tr N X F 64 w1) := by
  refine mk_wr (by decide) (Nat.le_of_ble_eq_true rfl) ?_
  intro p e s m args below meth c hC hin hK A hA hP hD hS ls hl
  obtain ⟨hx, hb, hr, hts, hown, hml, hlk, hN⟩ := id hC
  have hl : lv_has ls 2 [(0, .ref (ad 0)), (1, .int a1)] := hl
  obtain ⟨hM5, hM9, hMp, hMq, hMn⟩ := id hM
  have hn : ∀ j, j < 4 → F 6 j < 16 := fun j _ => hMn j
  have hvs := VS_stS (cP := F 10) (cQ := F 11) hM5 (N 9) hcn
  obtain ⟨H, hH⟩ : ∃ z, z = s.heap := ⟨_, rfl⟩
  have hS : va_S A s.heap H [] := by rw [hH]; exact hS
  rw [← hH] at hP
  refine W_heap hH ?_
  obtain ⟨locs, hlo⟩ : ∃ z : List Loc, z = [] := ⟨_, rfl⟩
  rw [← hlo] at hS ⊢
  refine lv_iload_n hx hb dX12_verdict_0 rfl (lv_at hl 1 rfl) ?_
  refine cS_p (rest := []) hC (c_m_isRule l a1) kw_918 sy_X12_isRule ⟨Nat.le_of_ble_eq_true rfl, Nat.le_of_ble_eq_true rfl⟩ ⟨rfl, rfl⟩ rfl hl.1 rfl (Nat.le_of_ble_eq_true rfl) dX12_verdict_1 ⟨Nat.le_of_ble_eq_true rfl, Nat.le_of_ble_eq_true rfl⟩ ?_
  refine b_if_ne (tgt := 9) hx hb dX12_verdict_4 (by decide) (fun c_1 => ?_) (fun c_1 => ?_)
  · -- t 9
    obtain ⟨r, hr, rfl⟩ := isIn_nat (by decide) c_1
    have hcr := nI_clamp (n := r) (by omega)
    have hl : lv_has ls 2 [(0, .ref (ad 0)), (1, .int (nI r))] := hl
    refine lv_aload_n hx hb dX12_verdict_9 rfl (lv_at hl 0 rfl) ?_
    refine va_get (D := E.1) (ci := 10) (v := .int (nI (N 5))) (C := RX12) (T := TX12) (N := 30) hx hb hts iX12 hown hK hP 0 rfl rfl 5 (by decide) (hts _ kw_744) (fun _ h9 => h9) rfl dX12_verdict_10 ?_
    refine n_if_ne (tgt := 21) hx hb (by omega) dX12_verdict_13 (by decide) (fun c_2 => ?_) (fun c_2 => ?_)
    · -- t 21
      refine lv_aload_n hx hb dX12_verdict_21 rfl (lv_at hl 0 rfl) ?_
      refine lv_aload_n hx hb dX12_verdict_22 rfl (lv_at hl 0 rfl) ?_
      refine lv_iload_n hx hb dX12_verdict_23 rfl (lv_at hl 1 rfl) ?_
      refine cV_w0 (rest := [.ref (ad 0)]) hC (c_m_layNow l E ad lk tr N X F G H.size hM hT h17 hcn r (by omega)) kw_929 iy_X12_layNow ⟨Nat.le_of_ble_eq_true rfl, Nat.le_of_ble_eq_true rfl⟩ ⟨rfl, rfl⟩ hK hP hD hS hA (va_recv hK hP (ci := 10) (q0 := 0) rfl rfl) rfl hl.1 rfl (Nat.le_of_ble_eq_true rfl) dX12_verdict_24 ⟨Nat.le_of_ble_eq_true rfl, Nat.le_of_ble_eq_true rfl⟩ (fun v_ w_ H locs hpost hP hD hS => ?_)
      obtain ⟨rfl, X2, F2, G2, rfl, hI2, hs2, hle2, hf1, hf2, hf3⟩ := hpost
      have hsc : SC N (va_up (va_up (va_up N 17 (N 17 + 1)) 22 (N 5)) 23 r) X X2 F F2 := SC_fr ⟨rfl, rfl, rfl⟩ hf1 hf2
      have hM2 := hM.sc hsc
      have e10 : F2 10 = F 10 := hsc.2.2.2.2.2.2.2.1
      have e11 : F2 11 = F 11 := hsc.2.2.2.2.2.2.2.2
      have e6 : F2 6 = F 6 := hsc.2.2.2.2.2.2.1
      have htk9 := tokS_lt (n := N 5) (r := r) (cP := F 10) (by omega) hMq (N 9)
      obtain ⟨hR2, hch2⟩ := hI2 _ _ hvs htk9 hs2
      have hsm2 := CN_sm (n := N 5) (net := F 6) (r := r) (st := stS (N 5) (F 10) (F 11) (N 9)) (tok := tokS (N 5) r (F 10) (F 11) (N 9))
      obtain ⟨sm1, sm2, sm3, sm4⟩ := id hsm2
      have hg2 := hR2.2.1
      have hg1 := hR2.1
      have hplt := plc_lt (stS (N 5) (F 10) (F 11) (N 9)) (tokS (N 5) r (F 10) (F 11) (N 9))
      refine W.eq (g2 := F0 m 27 ls [.int (nI (plc (stS (N 5) (F 10) (F 11) (N 9)) (tokS (N 5) r (F 10) (F 11) (N 9)))), .ref (ad 0)]) rfl ?_
      refine cV_r (rest := []) hC (c_m_verdictAt l E ad (ad 6) tr (va_up (va_up (va_up N 17 (N 17 + 1)) 22 (N 5)) 23 r) X2 F2 G2 (plc (stS (N 5) (F 10) (F 11) (N 9)) (tokS (N 5) r (F 10) (F 11) (N 9))) hplt (CN (N 5) (F 6) r (stS (N 5) (F 10) (F 11) (N 9)) (tokS (N 5) r (F 10) (F 11) (N 9))) hR2 hsm2) kw_965 iy_X12_verdictAt ⟨Nat.le_of_ble_eq_true rfl, Nat.le_of_ble_eq_true rfl⟩ ⟨rfl, rfl⟩ hK hP (va_recv hK hP (ci := 10) (q0 := 0) rfl rfl) rfl hl.1 rfl (Nat.le_of_ble_eq_true rfl) dX12_verdict_27 ⟨Nat.le_of_ble_eq_true rfl, Nat.le_of_ble_eq_true rfl⟩ ?_
      refine W.eq (g2 := F0 m 30 ls [.int (nI (verd (CN (N 5) (F 6) r (stS (N 5) (F 10) (F 11) (N 9)) (tokS (N 5) r (F 10) (F 11) (N 9)))))]) rfl ?_
      exact rw_i hC rfl hP hD hS (⟨by rw [s_verdict, if_neg (by rw [c_1]; decide), if_neg c_2, hcr], ⟨_, _, X2, F2, G2, rfl, hsc, ⟨hle2, fun j => by rw [hf1 28 (by decide) (by decide) (by decide) (by decide) (by decide)]; exact hT.2 j⟩, by show N 17 + 1 ≤ N 17 + 64; omega⟩⟩) dX12_verdict_30 (Nat.le_of_ble_eq_true rfl) (Nat.le_of_ble_eq_true rfl)
    · -- f 16
      refine lv_bipush (v := -3) hx hb dX12_verdict_16 (by decide) ?_
      refine lv_goto (tgt := 30) hx hb dX12_verdict_18 (by decide) ?_
      exact rw_i hC rfl hP hD hS (⟨by rw [s_verdict, if_neg (by rw [c_1]; decide), if_pos c_2], QP.rf hT⟩) dX12_verdict_30 (Nat.le_of_ble_eq_true rfl) (Nat.le_of_ble_eq_true rfl)
  · -- f 7
    refine lv_iconst (v := -1) hx hb dX12_verdict_7 (by decide) ?_
    exact rw_i hC rfl hP hD hS (⟨by rw [s_verdict, if_pos c_1], QP.rf hT⟩) dX12_verdict_8 (Nat.le_of_ble_eq_true rfl) (Nat.le_of_ble_eq_true rfl)

set_option maxHeartbeats 4000000 in
set_option maxRecDepth 100000 in
theorem c_m_calls (l : Launch) (E : EE) (ad : Nat → Nat) (lk : Nat) (tr : Int32) (N : Nat → Nat) (X : Nat → Nat → Int32) (F G : Nat → Nat → Nat) (sz : Nat) (hM : MOK N F) (hT : TB N F) (h17 : N 17 + 1 < 2 ^ 31) (hcn : CPn N F) (a1 a2 : Int32) : Wr l yX12_calls cX12_calls 4 (some .int) rm_X12_calls 0 0 E (mW E ad lk tr N X F G) sz [.ref (ad 0), .int a1, .int a2] (fun v w1 => v = some (.int (s_calls (N 5) (N 9) (F 6) (F 10) (F 11) a1 a2)) ∧ QP E ad tr N X F 64 w1) := by
  refine mk_wr (by decide) (Nat.le_of_ble_eq_true rfl) ?_
  intro p e s m args below meth c hC hin hK A hA hP hD hS ls hl
  obtain ⟨hx, hb, hr, hts, hown, hml, hlk, hN⟩ := id hC
  have hl : lv_has ls 4 [(0, .ref (ad 0)), (1, .int a1), (2, .int a2)] := hl
  obtain ⟨hM5, hM9, hMp, hMq, hMn⟩ := id hM
  have hn : ∀ j, j < 4 → F 6 j < 16 := fun j _ => hMn j
  have hvs := VS_stS (cP := F 10) (cQ := F 11) hM5 (N 9) hcn
  obtain ⟨H, hH⟩ : ∃ z, z = s.heap := ⟨_, rfl⟩
  have hS : va_S A s.heap H [] := by rw [hH]; exact hS
  rw [← hH] at hP
  refine W_heap hH ?_
  obtain ⟨locs, hlo⟩ : ∃ z : List Loc, z = [] := ⟨_, rfl⟩
  rw [← hlo] at hS ⊢
  refine lv_iload_n hx hb dX12_calls_0 rfl (lv_at hl 1 rfl) ?_
  refine cS_p (rest := []) hC (c_m_isRule l a1) kw_918 sy_X12_isRule ⟨Nat.le_of_ble_eq_true rfl, Nat.le_of_ble_eq_true rfl⟩ ⟨rfl, rfl⟩ rfl hl.1 rfl (Nat.le_of_ble_eq_true rfl) dX12_calls_1 ⟨Nat.le_of_ble_eq_true rfl, Nat.le_of_ble_eq_true rfl⟩ ?_
  refine b_if_ne (tgt := 9) hx hb dX12_calls_4 (by decide) (fun c_1 => ?_) (fun c_1 => ?_)
  · -- t 9
    obtain ⟨r, hr, rfl⟩ := isIn_nat (by decide) c_1
    have hcr := nI_clamp (n := r) (by omega)
    have hl : lv_has ls 4 [(0, .ref (ad 0)), (1, .int (nI r)), (2, .int a2)] := hl
    refine lv_iload_n hx hb dX12_calls_9 rfl (lv_at hl 2 rfl) ?_
    refine lv_iconst (v := nI 0) hx hb dX12_calls_10 (by decide) ?_
    refine lv_iconst (v := nI 1) hx hb dX12_calls_11 (by decide) ?_
    refine cS_p (rest := []) hC (c_isIn l a2 (nI 0) (nI 1)) kw_837 sy_X12_isIn ⟨Nat.le_of_ble_eq_true rfl, Nat.le_of_ble_eq_true rfl⟩ ⟨rfl, rfl⟩ rfl hl.1 rfl (Nat.le_of_ble_eq_true rfl) dX12_calls_12 ⟨Nat.le_of_ble_eq_true rfl, Nat.le_of_ble_eq_true rfl⟩ ?_
    refine b_if_ne (tgt := 21) hx hb dX12_calls_15 (by decide) (fun c_2 => ?_) (fun c_2 => ?_)
    · -- t 21
      obtain ⟨w, hw, rfl⟩ := isIn_nat (by decide) c_2
      have hcw := nI_clamp (n := w) (by omega)
      have hl : lv_has ls 4 [(0, .ref (ad 0)), (1, .int (nI r)), (2, .int (nI w))] := hl
      refine lv_aload_n hx hb dX12_calls_21 rfl (lv_at hl 0 rfl) ?_
      refine va_get (D := E.1) (ci := 10) (v := .int (nI (N 5))) (C := RX12) (T := TX12) (N := 30) hx hb hts iX12 hown hK hP 0 rfl rfl 5 (by decide) (hts _ kw_744) (fun _ h9 => h9) rfl dX12_calls_22 ?_
      refine n_if_ne (tgt := 31) hx hb (by omega) dX12_calls_25 (by decide) (fun c_3 => ?_) (fun c_3 => ?_)
      · -- t 31
        refine lv_aload_n hx hb dX12_calls_31 rfl (lv_at hl 0 rfl) ?_
        refine lv_iload_n hx hb dX12_calls_32 rfl (lv_at hl 1 rfl) ?_
        refine cV_w0 (rest := []) hC (c_m_layNow l E ad lk tr N X F G H.size hM hT h17 hcn r (by omega)) kw_929 iy_X12_layNow ⟨Nat.le_of_ble_eq_true rfl, Nat.le_of_ble_eq_true rfl⟩ ⟨rfl, rfl⟩ hK hP hD hS hA (va_recv hK hP (ci := 10) (q0 := 0) rfl rfl) rfl hl.1 rfl (Nat.le_of_ble_eq_true rfl) dX12_calls_33 ⟨Nat.le_of_ble_eq_true rfl, Nat.le_of_ble_eq_true rfl⟩ (fun v_ w_ H locs hpost hP hD hS => ?_)
        obtain ⟨rfl, X2, F2, G2, rfl, hI2, hs2, hle2, hf1, hf2, hf3⟩ := hpost
        have hsc : SC N (va_up (va_up (va_up N 17 (N 17 + 1)) 22 (N 5)) 23 r) X X2 F F2 := SC_fr ⟨rfl, rfl, rfl⟩ hf1 hf2
        have hM2 := hM.sc hsc
        have e10 : F2 10 = F 10 := hsc.2.2.2.2.2.2.2.1
        have e11 : F2 11 = F 11 := hsc.2.2.2.2.2.2.2.2
        have e6 : F2 6 = F 6 := hsc.2.2.2.2.2.2.1
        have htk9 := tokS_lt (n := N 5) (r := r) (cP := F 10) (by omega) hMq (N 9)
        obtain ⟨hR2, hch2⟩ := hI2 _ _ hvs htk9 hs2
        have hsm2 := CN_sm (n := N 5) (net := F 6) (r := r) (st := stS (N 5) (F 10) (F 11) (N 9)) (tok := tokS (N 5) r (F 10) (F 11) (N 9))
        obtain ⟨sm1, sm2, sm3, sm4⟩ := id hsm2
        have hg2 := hR2.2.1
        have hg1 := hR2.1
        have hplt := plc_lt (stS (N 5) (F 10) (F 11) (N 9)) (tokS (N 5) r (F 10) (F 11) (N 9))
        refine W.eq (g2 := F0 m 36 ls [.int (nI (plc (stS (N 5) (F 10) (F 11) (N 9)) (tokS (N 5) r (F 10) (F 11) (N 9))))]) rfl ?_
        refine lv_istore_n (lv' := [(3, .int (nI (plc (stS (N 5) (F 10) (F 11) (N 9)) (tokS (N 5) r (F 10) (F 11) (N 9))))), (0, .ref (ad 0)), (1, .int (nI r)), (2, .int (nI w))]) hx hb dX12_calls_36 rfl hl (by decide) rfl (fun ls hl => ?_)
        refine lv_aload_n hx hb dX12_calls_37 rfl (lv_at hl 1 rfl) ?_
        refine va_get (D := E.1) (ci := 10) (v := .ref (ad 14)) (C := RX12) (T := TX12) (N := 30) hx hb hts iX12 hown hK hP 0 rfl rfl 14 (by decide) (hts _ kw_753) (fun _ h9 => h9) rfl dX12_calls_38 ?_
        refine lv_iload_n hx hb dX12_calls_41 rfl (lv_at hl 0 rfl) ?_
        refine n_lald hx hb hK hP 10 rfl (by omega) (by decide) dX12_calls_42 ?_
        refine lv_lconst (v := lN 0) hx hb dX12_calls_43 (by decide) ?_
        refine n_lcmp_ne (tgt := 53) hx hb (by omega) (by omega) dX12_calls_44 dX12_calls_45 (by decide) (fun c_4 => ?_) (fun c_4 => ?_)
        · -- t 53
          refine lv_iload_n hx hb dX12_calls_53 rfl (lv_at hl 3 rfl) ?_
          refine n_if_ne (tgt := 66) hx hb (by omega) dX12_calls_54 (by decide) (fun c_5 => ?_) (fun c_5 => ?_)
          · -- t 66
            refine lv_aload_n hx hb dX12_calls_66 rfl (lv_at hl 1 rfl) ?_
            refine va_get (D := E.1) (ci := 10) (v := .ref (ad 16)) (C := RX12) (T := TX12) (N := 30) hx hb hts iX12 hown hK hP 0 rfl rfl 16 (by decide) (hts _ kw_755) (fun _ h9 => h9) rfl dX12_calls_67 ?_
            refine lv_iload_n hx hb dX12_calls_70 rfl (lv_at hl 0 rfl) ?_
            refine n_iald hx hb hK hP 12 rfl (by omega) (by decide) dX12_calls_71 ?_
            exact rw_i hC rfl hP hD hS (⟨by rw [s_calls, if_neg (by rw [c_1]; decide), if_neg (by rw [c_2]; decide), if_neg c_3, hcr, hcw,  if_neg (by rw [← hg2]; exact c_4), if_neg c_5]; exact congrArg (fun z => some (Value.int z)) hR2.2.2.2, ⟨_, _, X2, F2, G2, rfl, hsc, ⟨hle2, fun j => by rw [hf1 28 (by decide) (by decide) (by decide) (by decide) (by decide)]; exact hT.2 j⟩, by show N 17 + 1 ≤ N 17 + 64; omega⟩⟩) dX12_calls_72 (Nat.le_of_ble_eq_true rfl) (Nat.le_of_ble_eq_true rfl)
          · -- f 57
            refine lv_aload_n hx hb dX12_calls_57 rfl (lv_at hl 1 rfl) ?_
            refine va_get (D := E.1) (ci := 10) (v := .ref (ad 15)) (C := RX12) (T := TX12) (N := 30) hx hb hts iX12 hown hK hP 0 rfl rfl 15 (by decide) (hts _ kw_754) (fun _ h9 => h9) rfl dX12_calls_58 ?_
            refine lv_iload_n hx hb dX12_calls_61 rfl (lv_at hl 0 rfl) ?_
            refine n_iald hx hb hK hP 11 rfl (by omega) (by decide) dX12_calls_62 ?_
            refine lv_goto (tgt := 72) hx hb dX12_calls_63 (by decide) ?_
            exact rw_i hC rfl hP hD hS (⟨by rw [s_calls, if_neg (by rw [c_1]; decide), if_neg (by rw [c_2]; decide), if_neg c_3, hcr, hcw,  if_neg (by rw [← hg2]; exact c_4), if_pos c_5]; exact congrArg (fun z => some (Value.int (nI z))) hR2.2.2.1, ⟨_, _, X2, F2, G2, rfl, hsc, ⟨hle2, fun j => by rw [hf1 28 (by decide) (by decide) (by decide) (by decide) (by decide)]; exact hT.2 j⟩, by show N 17 + 1 ≤ N 17 + 64; omega⟩⟩) dX12_calls_72 (Nat.le_of_ble_eq_true rfl) (Nat.le_of_ble_eq_true rfl)
        · -- f 48
          refine lv_bipush (v := -9) hx hb dX12_calls_48 (by decide) ?_
          refine lv_goto (tgt := 72) hx hb dX12_calls_50 (by decide) ?_
          exact rw_i hC rfl hP hD hS (⟨by rw [s_calls, if_neg (by rw [c_1]; decide), if_neg (by rw [c_2]; decide), if_neg c_3, hcr, hcw,  if_pos (by rw [← hg2]; exact c_4)], ⟨_, _, X2, F2, G2, rfl, hsc, ⟨hle2, fun j => by rw [hf1 28 (by decide) (by decide) (by decide) (by decide) (by decide)]; exact hT.2 j⟩, by show N 17 + 1 ≤ N 17 + 64; omega⟩⟩) dX12_calls_72 (Nat.le_of_ble_eq_true rfl) (Nat.le_of_ble_eq_true rfl)
      · -- f 28
        refine lv_bipush (v := -3) hx hb dX12_calls_28 (by decide) ?_
        exact rw_i hC rfl hP hD hS (⟨by rw [s_calls, if_neg (by rw [c_1]; decide), if_neg (by rw [c_2]; decide), if_pos c_3], QP.rf hT⟩) dX12_calls_30 (Nat.le_of_ble_eq_true rfl) (Nat.le_of_ble_eq_true rfl)
    · -- f 18
      refine lv_bipush (v := -2) hx hb dX12_calls_18 (by decide) ?_
      exact rw_i hC rfl hP hD hS (⟨by rw [s_calls, if_neg (by rw [c_1]; decide), if_pos c_2], QP.rf hT⟩) dX12_calls_20 (Nat.le_of_ble_eq_true rfl) (Nat.le_of_ble_eq_true rfl)
  · -- f 7
    refine lv_iconst (v := -1) hx hb dX12_calls_7 (by decide) ?_
    exact rw_i hC rfl hP hD hS (⟨by rw [s_calls, if_pos c_1], QP.rf hT⟩) dX12_calls_8 (Nat.le_of_ble_eq_true rfl) (Nat.le_of_ble_eq_true rfl)

set_option maxHeartbeats 4000000 in
set_option maxRecDepth 100000 in
theorem c_m_keeps (l : Launch) (E : EE) (ad : Nat → Nat) (lk : Nat) (tr : Int32) (N : Nat → Nat) (X : Nat → Nat → Int32) (F G : Nat → Nat → Nat) (sz : Nat) (hM : MOK N F) (hT : TB N F) (h17 : N 17 + 1 < 2 ^ 31) (hcn : CPn N F) (a1 a2 a3 : Int32) : Wr l yX12_keeps cX12_keeps 6 (some .int) rm_X12_keeps 0 0 E (mW E ad lk tr N X F G) sz [.ref (ad 0), .int a1, .int a2, .int a3] (fun v w1 => v = some (.int (s_keeps (N 5) (N 9) (F 6) (F 10) (F 11) a1 a2 a3)) ∧ QP E ad tr N X F 64 w1) := by
  refine mk_wr (by decide) (Nat.le_of_ble_eq_true rfl) ?_
  intro p e s m args below meth c hC hin hK A hA hP hD hS ls hl
  obtain ⟨hx, hb, hr, hts, hown, hml, hlk, hN⟩ := id hC
  have hl : lv_has ls 6 [(0, .ref (ad 0)), (1, .int a1), (2, .int a2), (3, .int a3)] := hl
  obtain ⟨hM5, hM9, hMp, hMq, hMn⟩ := id hM
  have hn : ∀ j, j < 4 → F 6 j < 16 := fun j _ => hMn j
  have hvs := VS_stS (cP := F 10) (cQ := F 11) hM5 (N 9) hcn
  obtain ⟨H, hH⟩ : ∃ z, z = s.heap := ⟨_, rfl⟩
  have hS : va_S A s.heap H [] := by rw [hH]; exact hS
  rw [← hH] at hP
  refine W_heap hH ?_
  obtain ⟨locs, hlo⟩ : ∃ z : List Loc, z = [] := ⟨_, rfl⟩
  rw [← hlo] at hS ⊢
  refine lv_iload_n hx hb dX12_keeps_0 rfl (lv_at hl 1 rfl) ?_
  refine cS_p (rest := []) hC (c_m_isRule l a1) kw_918 sy_X12_isRule ⟨Nat.le_of_ble_eq_true rfl, Nat.le_of_ble_eq_true rfl⟩ ⟨rfl, rfl⟩ rfl hl.1 rfl (Nat.le_of_ble_eq_true rfl) dX12_keeps_1 ⟨Nat.le_of_ble_eq_true rfl, Nat.le_of_ble_eq_true rfl⟩ ?_
  refine b_if_eq (tgt := 23) hx hb dX12_keeps_4 (by decide) (fun c_1 => ?_) (fun c_1 => ?_)
  · -- t 23
    refine lv_iconst (v := -1) hx hb dX12_keeps_23 (by decide) ?_
    exact rw_i hC rfl hP hD hS (⟨by rw [s_keeps, if_pos c_1], QP.rf hT⟩) dX12_keeps_24 (Nat.le_of_ble_eq_true rfl) (Nat.le_of_ble_eq_true rfl)
  · -- f 7
    obtain ⟨r, hr, rfl⟩ := isIn_nat (by decide) c_1
    have hcr := nI_clamp (n := r) (by omega)
    have hl : lv_has ls 6 [(0, .ref (ad 0)), (1, .int (nI r)), (2, .int a2), (3, .int a3)] := hl
    refine lv_aload_n hx hb dX12_keeps_7 rfl (lv_at hl 0 rfl) ?_
    refine lv_iload_n hx hb dX12_keeps_8 rfl (lv_at hl 2 rfl) ?_
    refine cV_r (rest := []) hC (c_m_isPerson l E ad lk tr N X F G a2) kw_858 iy_X12_isPerson ⟨Nat.le_of_ble_eq_true rfl, Nat.le_of_ble_eq_true rfl⟩ ⟨rfl, rfl⟩ hK hP (va_recv hK hP (ci := 10) (q0 := 0) rfl rfl) rfl hl.1 rfl (Nat.le_of_ble_eq_true rfl) dX12_keeps_9 ⟨Nat.le_of_ble_eq_true rfl, Nat.le_of_ble_eq_true rfl⟩ ?_
    refine b_if_eq (tgt := 23) hx hb dX12_keeps_12 (by decide) (fun c_2 => ?_) (fun c_2 => ?_)
    · -- t 23
      refine lv_iconst (v := -1) hx hb dX12_keeps_23 (by decide) ?_
      exact rw_i hC rfl hP hD hS (⟨by rw [s_keeps, if_neg (by rw [c_1]; decide), if_pos c_2], QP.rf hT⟩) dX12_keeps_24 (Nat.le_of_ble_eq_true rfl) (Nat.le_of_ble_eq_true rfl)
    · -- f 15
      obtain ⟨i, hi, rfl⟩ := isP_nat (by omega) c_2
      have hci := nI_clamp (n := i) (by omega)
      have hl : lv_has ls 6 [(0, .ref (ad 0)), (1, .int (nI r)), (2, .int (nI i)), (3, .int a3)] := hl
      refine lv_aload_n hx hb dX12_keeps_15 rfl (lv_at hl 0 rfl) ?_
      refine lv_iload_n hx hb dX12_keeps_16 rfl (lv_at hl 3 rfl) ?_
      refine cV_r (rest := []) hC (c_m_isPerson l E ad lk tr N X F G a3) kw_858 iy_X12_isPerson ⟨Nat.le_of_ble_eq_true rfl, Nat.le_of_ble_eq_true rfl⟩ ⟨rfl, rfl⟩ hK hP (va_recv hK hP (ci := 10) (q0 := 0) rfl rfl) rfl hl.1 rfl (Nat.le_of_ble_eq_true rfl) dX12_keeps_17 ⟨Nat.le_of_ble_eq_true rfl, Nat.le_of_ble_eq_true rfl⟩ ?_
      refine b_if_ne (tgt := 25) hx hb dX12_keeps_20 (by decide) (fun c_3 => ?_) (fun c_3 => ?_)
      · -- t 25
        obtain ⟨j, hj, rfl⟩ := isP_nat (by omega) c_3
        have hcj := nI_clamp (n := j) (by omega)
        have hl : lv_has ls 6 [(0, .ref (ad 0)), (1, .int (nI r)), (2, .int (nI i)), (3, .int (nI j))] := hl
        refine lv_iload_n hx hb dX12_keeps_25 rfl (lv_at hl 2 rfl) ?_
        refine lv_iload_n hx hb dX12_keeps_26 rfl (lv_at hl 3 rfl) ?_
        refine n_icmp_ne (tgt := 33) hx hb (by omega) (by omega) dX12_keeps_27 (by decide) (fun c_4 => ?_) (fun c_4 => ?_)
        · -- t 33
          refine lv_aload_n hx hb dX12_keeps_33 rfl (lv_at hl 0 rfl) ?_
          refine lv_aload_n hx hb dX12_keeps_34 rfl (lv_at hl 0 rfl) ?_
          refine va_get (D := E.1) (ci := 10) (v := .int (nI (N 9))) (C := RX12) (T := TX12) (N := 30) hx hb hts iX12 hown hK hP 0 rfl rfl 9 (by decide) (hts _ kw_748) (fun _ h9 => h9) rfl dX12_keeps_35 ?_
          refine cV_r (rest := []) hC (c_m_stateAt l E ad lk tr N X F G hM (N 9) (by omega)) kw_862 iy_X12_stateAt ⟨Nat.le_of_ble_eq_true rfl, Nat.le_of_ble_eq_true rfl⟩ ⟨rfl, rfl⟩ hK hP (va_recv hK hP (ci := 10) (q0 := 0) rfl rfl) rfl hl.1 rfl (Nat.le_of_ble_eq_true rfl) dX12_keeps_38 ⟨Nat.le_of_ble_eq_true rfl, Nat.le_of_ble_eq_true rfl⟩ ?_
          have f_5 := stS_lt (n := N 5) hMp hMq (N 9)
          refine lv_istore (lv' := [(4, .int (nI (stS (N 5) (F 10) (F 11) (N 9)))), (0, .ref (ad 0)), (1, .int (nI r)), (2, .int (nI i)), (3, .int (nI j))]) hx hb dX12_keeps_41 hl (by decide) rfl (fun ls hl => ?_)
          refine lv_aload_n hx hb dX12_keeps_43 rfl (lv_at hl 1 rfl) ?_
          refine lv_iload_n hx hb dX12_keeps_44 rfl (lv_at hl 2 rfl) ?_
          refine cV_r (rest := []) hC (c_m_tokensNow l E ad lk tr N X F G hM r (by omega)) kw_880 iy_X12_tokensNow ⟨Nat.le_of_ble_eq_true rfl, Nat.le_of_ble_eq_true rfl⟩ ⟨rfl, rfl⟩ hK hP (va_recv hK hP (ci := 10) (q0 := 0) rfl rfl) rfl hl.1 rfl (Nat.le_of_ble_eq_true rfl) dX12_keeps_45 ⟨Nat.le_of_ble_eq_true rfl, Nat.le_of_ble_eq_true rfl⟩ ?_
          have f_6 := tokS_lt (n := N 5) (r := r) (cP := F 10) (by omega) hMq (N 9)
          refine lv_istore (lv' := [(5, .int (nI (tokS (N 5) r (F 10) (F 11) (N 9)))), (4, .int (nI (stS (N 5) (F 10) (F 11) (N 9)))), (0, .ref (ad 0)), (1, .int (nI r)), (2, .int (nI i)), (3, .int (nI j))]) hx hb dX12_keeps_48 hl (by decide) rfl (fun ls hl => ?_)
          refine lv_aload_n hx hb dX12_keeps_50 rfl (lv_at hl 2 rfl) ?_
          refine va_get (D := E.1) (ci := 10) (v := .ref (ad 6)) (C := RX12) (T := TX12) (N := 30) hx hb hts iX12 hown hK hP 0 rfl rfl 6 (by decide) (hts _ kw_745) (fun _ h9 => h9) rfl dX12_keeps_51 ?_
          refine lv_iload_n hx hb dX12_keeps_54 rfl (lv_at hl 3 rfl) ?_
          refine lv_iload hx hb dX12_keeps_55 (lv_at hl 1 rfl) ?_
          refine lv_iload hx hb dX12_keeps_57 (lv_at hl 0 rfl) ?_
          refine lv_iload_n hx hb dX12_keeps_59 rfl (lv_at hl 4 rfl) ?_
          refine lv_iload_n hx hb dX12_keeps_60 rfl (lv_at hl 5 rfl) ?_
          refine cS_r (rest := []) hC (c_may l E (ad 6) (F 6) r (stS (N 5) (F 10) (F 11) (N 9)) (tokS (N 5) r (F 10) (F 11) (N 9)) i j (by omega) (by omega) (by omega) (by omega) (by omega) hn) kw_921 sy_X12_mayRing ⟨Nat.le_of_ble_eq_true rfl, Nat.le_of_ble_eq_true rfl⟩ ⟨rfl, rfl⟩ hK (hP.sub (ws' := aW E (ad 6) (F 6)) [4] rfl) rfl hl.1 rfl (Nat.le_of_ble_eq_true rfl) dX12_keeps_61 ⟨Nat.le_of_ble_eq_true rfl, Nat.le_of_ble_eq_true rfl⟩ ?_
          refine b_if_ne (tgt := 70) hx hb dX12_keeps_64 (by decide) (fun c_7 => ?_) (fun c_7 => ?_)
          · -- t 70
            refine lv_aload_n hx hb dX12_keeps_70 rfl (lv_at hl 2 rfl) ?_
            refine lv_aload_n hx hb dX12_keeps_71 rfl (lv_at hl 2 rfl) ?_
            refine va_get (D := E.1) (ci := 10) (v := .ref (ad 6)) (C := RX12) (T := TX12) (N := 30) hx hb hts iX12 hown hK hP 0 rfl rfl 6 (by decide) (hts _ kw_745) (fun _ h9 => h9) rfl dX12_keeps_72 ?_
            refine lv_aload_n hx hb dX12_keeps_75 rfl (lv_at hl 2 rfl) ?_
            refine va_get (D := E.1) (ci := 10) (v := .int (nI (N 5))) (C := RX12) (T := TX12) (N := 30) hx hb hts iX12 hown hK hP 0 rfl rfl 5 (by decide) (hts _ kw_744) (fun _ h9 => h9) rfl dX12_keeps_76 ?_
            refine lv_iload_n hx hb dX12_keeps_79 rfl (lv_at hl 3 rfl) ?_
            refine cV_w0 (rest := []) hC (c_m_lookAt l E ad lk tr N X F G H.size (ad 6) (N 5) r) kw_933 iy_X12_lookAt ⟨Nat.le_of_ble_eq_true rfl, Nat.le_of_ble_eq_true rfl⟩ ⟨rfl, rfl⟩ hK hP hD hS hA (va_recv hK hP (ci := 10) (q0 := 0) rfl rfl) rfl hl.1 rfl (Nat.le_of_ble_eq_true rfl) dX12_keeps_80 ⟨Nat.le_of_ble_eq_true rfl, Nat.le_of_ble_eq_true rfl⟩ (fun v_ w_ H locs hpost hP hD hS => ?_)
            obtain ⟨rfl, rfl⟩ := hpost
            refine W.eq (g2 := F0 m 83 ls []) rfl ?_
            refine lv_aload_n hx hb dX12_keeps_83 rfl (lv_at hl 2 rfl) ?_
            refine lv_aload_n hx hb dX12_keeps_84 rfl (lv_at hl 2 rfl) ?_
            refine lv_iload hx hb dX12_keeps_85 (lv_at hl 1 rfl) ?_
            refine lv_iload_n hx hb dX12_keeps_87 rfl (lv_at hl 4 rfl) ?_
            refine lv_iload_n hx hb dX12_keeps_88 rfl (lv_at hl 5 rfl) ?_
            refine cS_p (rest := [.ref (ad 0), .ref (ad 0)]) hC (c_aft l (stS (N 5) (F 10) (F 11) (N 9)) i j (by omega) (by omega) (by omega)) kw_871 sy_X12_afterCall ⟨Nat.le_of_ble_eq_true rfl, Nat.le_of_ble_eq_true rfl⟩ ⟨rfl, rfl⟩ rfl hl.1 rfl (Nat.le_of_ble_eq_true rfl) dX12_keeps_89 ⟨Nat.le_of_ble_eq_true rfl, Nat.le_of_ble_eq_true rfl⟩ ?_
            have f_8 := aft_lt (st := stS (N 5) (F 10) (F 11) (N 9)) (pp := i) (qq := j) (by omega) (by omega) (by omega)
            refine lv_iload hx hb dX12_keeps_92 (lv_at hl 0 rfl) ?_
            refine lv_iload_n hx hb dX12_keeps_94 rfl (lv_at hl 3 rfl) ?_
            refine lv_iload_n hx hb dX12_keeps_95 rfl (lv_at hl 4 rfl) ?_
            refine lv_iload_n hx hb dX12_keeps_96 rfl (lv_at hl 5 rfl) ?_
            refine cS_p (rest := [.int (nI (aft (stS (N 5) (F 10) (F 11) (N 9)) i j)), .ref (ad 0), .ref (ad 0)]) hC (c_tokA l (tokS (N 5) r (F 10) (F 11) (N 9)) r i j (by omega) (by omega) (by omega)) kw_884 sy_X12_tokensAfter ⟨Nat.le_of_ble_eq_true rfl, Nat.le_of_ble_eq_true rfl⟩ ⟨rfl, rfl⟩ rfl hl.1 rfl (Nat.le_of_ble_eq_true rfl) dX12_keeps_97 ⟨Nat.le_of_ble_eq_true rfl, Nat.le_of_ble_eq_true rfl⟩ ?_
            have f_9 := tokA_lt (t := tokS (N 5) r (F 10) (F 11) (N 9)) (r := r) (pp := i) (qq := j) (by omega) (by omega)
            have hvs2 := VS_aft (pp := i) (qq := j) hM5 (by omega) (by omega) hvs
            refine cV_w0 (rest := [.ref (ad 0)]) hC (c_m_lay6 l E ad tr (va_up (va_up (va_up N 17 ((N 17) + 1)) 22 (N 5)) 23 r) X F G H.size (aft (stS (N 5) (F 10) (F 11) (N 9)) i j) (tokA (tokS (N 5) r (F 10) (F 11) (N 9)) r i j) (show N 5 ≤ 4 by omega) (show r < 4 by omega) (show (N 17) + 1 < 2 ^ 31 by omega) hMn hvs2 (by omega) (LInv_new (fun i => Nat.ne_of_lt (Nat.lt_succ_of_le (hT.1 i)))) (fun i => Nat.le_succ_of_le (hT.1 i))) kw_937 iy_X12_lay ⟨Nat.le_of_ble_eq_true rfl, Nat.le_of_ble_eq_true rfl⟩ ⟨rfl, rfl⟩ hK hP hD hS hA (va_recv hK hP (ci := 10) (q0 := 0) rfl rfl) rfl hl.1 rfl (Nat.le_of_ble_eq_true rfl) dX12_keeps_100 ⟨Nat.le_of_ble_eq_true rfl, Nat.le_of_ble_eq_true rfl⟩ (fun v_ w_ H locs hpost hP hD hS => ?_)
            obtain ⟨rfl, X2, F2, G2, rfl, hI2, hs2, hle2, hf1, hf2, hf3⟩ := hpost
            refine W.eq (g2 := F0 m 103 ls [.int (nI (plc (aft (stS (N 5) (F 10) (F 11) (N 9)) i j) (tokA (tokS (N 5) r (F 10) (F 11) (N 9)) r i j))), .ref (ad 0)]) rfl ?_
            obtain ⟨hR2, hch2⟩ := hI2 _ _ hvs2 (tokA_lt (tokS_lt hM5 hMq (N 9)) (by omega)) hs2
            have hplt := plc_lt (aft (stS (N 5) (F 10) (F 11) (N 9)) i j) (tokA (tokS (N 5) r (F 10) (F 11) (N 9)) r i j)
            have hsm2 := CN_sm (n := N 5) (net := F 6) (r := r) (st := aft (stS (N 5) (F 10) (F 11) (N 9)) i j) (tok := tokA (tokS (N 5) r (F 10) (F 11) (N 9)) r i j)
            refine cV_r (rest := []) hC (c_m_verdictAt l E ad (ad 6) tr (va_up (va_up (va_up N 17 ((N 17) + 1)) 22 (N 5)) 23 r) X2 F2 G2 (plc (aft (stS (N 5) (F 10) (F 11) (N 9)) i j) (tokA (tokS (N 5) r (F 10) (F 11) (N 9)) r i j)) hplt (CN (N 5) (F 6) r (aft (stS (N 5) (F 10) (F 11) (N 9)) i j) (tokA (tokS (N 5) r (F 10) (F 11) (N 9)) r i j)) hR2 hsm2) kw_965 iy_X12_verdictAt ⟨Nat.le_of_ble_eq_true rfl, Nat.le_of_ble_eq_true rfl⟩ ⟨rfl, rfl⟩ hK hP (va_recv hK hP (ci := 10) (q0 := 0) rfl rfl) rfl hl.1 rfl (Nat.le_of_ble_eq_true rfl) dX12_keeps_103 ⟨Nat.le_of_ble_eq_true rfl, Nat.le_of_ble_eq_true rfl⟩ ?_
            refine W.eq (g2 := F0 m 106 ls [.int (nI (verd (CN (N 5) (F 6) r (aft (stS (N 5) (F 10) (F 11) (N 9)) i j) (tokA (tokS (N 5) r (F 10) (F 11) (N 9)) r i j))))]) rfl ?_
            exact rw_i hC rfl hP hD hS (⟨by rw [s_keeps, if_neg (by rw [c_1]; decide), if_neg (by rw [c_2]; decide), if_neg (by rw [c_3]; decide), hcr, hci, hcj, if_neg c_4, if_neg (by rw [c_7]; decide)], ⟨_, _, X2, F2, G2, rfl, SC_fr ⟨rfl, rfl, rfl⟩ hf1 hf2, ⟨hle2, fun j => by rw [hf1 28 (by decide) (by decide) (by decide) (by decide) (by decide)]; exact hT.2 j⟩, by show N 17 + 1 ≤ N 17 + 64; omega⟩⟩) dX12_keeps_106 (Nat.le_of_ble_eq_true rfl) (Nat.le_of_ble_eq_true rfl)
          · -- f 67
            refine lv_bipush (v := -3) hx hb dX12_keeps_67 (by decide) ?_
            exact rw_i hC rfl hP hD hS (⟨by rw [s_keeps, if_neg (by rw [c_1]; decide), if_neg (by rw [c_2]; decide), if_neg (by rw [c_3]; decide), hcr, hci, hcj, if_neg c_4, if_pos c_7], QP.rf hT⟩) dX12_keeps_69 (Nat.le_of_ble_eq_true rfl) (Nat.le_of_ble_eq_true rfl)
        · -- f 30
          refine lv_bipush (v := -2) hx hb dX12_keeps_30 (by decide) ?_
          exact rw_i hC rfl hP hD hS (⟨by rw [s_keeps, if_neg (by rw [c_1]; decide), if_neg (by rw [c_2]; decide), if_neg (by rw [c_3]; decide), hcr, hci, hcj, if_pos c_4], QP.rf hT⟩) dX12_keeps_32 (Nat.le_of_ble_eq_true rfl) (Nat.le_of_ble_eq_true rfl)
      · -- f 23
        refine lv_iconst (v := -1) hx hb dX12_keeps_23 (by decide) ?_
        exact rw_i hC rfl hP hD hS (⟨by rw [s_keeps, if_neg (by rw [c_1]; decide), if_neg (by rw [c_2]; decide), if_pos c_3], QP.rf hT⟩) dX12_keeps_24 (Nat.le_of_ble_eq_true rfl) (Nat.le_of_ble_eq_true rfl)

set_option maxHeartbeats 4000000 in
set_option maxRecDepth 100000 in
theorem c_m_best (l : Launch) (E : EE) (ad : Nat → Nat) (lk : Nat) (tr : Int32) (N : Nat → Nat) (X : Nat → Nat → Int32) (F G : Nat → Nat → Nat) (sz : Nat) (hM : MOK N F) (hT : TB N F) (h17 : N 17 + 1 < 2 ^ 31) (hcn : CPn N F) (a1 a2 : Int32) : Wr l yX12_best cX12_best 10 (some .int) rm_X12_best 0 0 E (mW E ad lk tr N X F G) sz [.ref (ad 0), .int a1, .int a2] (fun v w1 => (if isIn a1 (nI 0) (nI 3) = false then v = some (.int (-1)) else if isIn a2 (nI 0) (nI 1) = false then v = some (.int (-2)) else if N 5 = 0 then v = some (.int (-3)) else if (NOW (N 5) (F 10) (F 11) (N 9) a1.toNatClampNeg (F 6)).2.1 = 0 then v = some (.int (-9)) else ∃ x, v = some (.int x) ∧ bestR (N 5) (F 6) a1.toNatClampNeg (stS (N 5) (F 10) (F 11) (N 9)) (tokS (N 5) a1.toNatClampNeg (F 10) (F 11) (N 9)) a2.toNatClampNeg x) ∧ QP E ad tr N X F 64 w1) := by
  refine mk_wr (by decide) (Nat.le_of_ble_eq_true rfl) ?_
  intro p e s m args below meth c hC hin hK A hA hP hD hS ls hl
  obtain ⟨hx, hb, hr, hts, hown, hml, hlk, hN⟩ := id hC
  have hl : lv_has ls 10 [(0, .ref (ad 0)), (1, .int a1), (2, .int a2)] := hl
  obtain ⟨hM5, hM9, hMp, hMq, hMn⟩ := id hM
  have hn : ∀ j, j < 4 → F 6 j < 16 := fun j _ => hMn j
  have hvs := VS_stS (cP := F 10) (cQ := F 11) hM5 (N 9) hcn
  obtain ⟨H, hH⟩ : ∃ z, z = s.heap := ⟨_, rfl⟩
  have hS : va_S A s.heap H [] := by rw [hH]; exact hS
  rw [← hH] at hP
  refine W_heap hH ?_
  obtain ⟨locs, hlo⟩ : ∃ z : List Loc, z = [] := ⟨_, rfl⟩
  rw [← hlo] at hS ⊢
  refine lv_iload_n hx hb dX12_best_0 rfl (lv_at hl 1 rfl) ?_
  refine cS_p (rest := []) hC (c_m_isRule l a1) kw_918 sy_X12_isRule ⟨Nat.le_of_ble_eq_true rfl, Nat.le_of_ble_eq_true rfl⟩ ⟨rfl, rfl⟩ rfl hl.1 rfl (Nat.le_of_ble_eq_true rfl) dX12_best_1 ⟨Nat.le_of_ble_eq_true rfl, Nat.le_of_ble_eq_true rfl⟩ ?_
  refine b_if_ne (tgt := 9) hx hb dX12_best_4 (by decide) (fun c_1 => ?_) (fun c_1 => ?_)
  · -- t 9
    obtain ⟨r, hr, rfl⟩ := isIn_nat (by decide) c_1
    have hcr := nI_clamp (n := r) (by omega)
    have hl : lv_has ls 10 [(0, .ref (ad 0)), (1, .int (nI r)), (2, .int a2)] := hl
    refine lv_iload_n hx hb dX12_best_9 rfl (lv_at hl 2 rfl) ?_
    refine lv_iconst (v := nI 0) hx hb dX12_best_10 (by decide) ?_
    refine lv_iconst (v := nI 1) hx hb dX12_best_11 (by decide) ?_
    refine cS_p (rest := []) hC (c_isIn l a2 (nI 0) (nI 1)) kw_837 sy_X12_isIn ⟨Nat.le_of_ble_eq_true rfl, Nat.le_of_ble_eq_true rfl⟩ ⟨rfl, rfl⟩ rfl hl.1 rfl (Nat.le_of_ble_eq_true rfl) dX12_best_12 ⟨Nat.le_of_ble_eq_true rfl, Nat.le_of_ble_eq_true rfl⟩ ?_
    refine b_if_ne (tgt := 21) hx hb dX12_best_15 (by decide) (fun c_2 => ?_) (fun c_2 => ?_)
    · -- t 21
      obtain ⟨w, hw, rfl⟩ := isIn_nat (by decide) c_2
      have hcw := nI_clamp (n := w) (by omega)
      have hl : lv_has ls 10 [(0, .ref (ad 0)), (1, .int (nI r)), (2, .int (nI w))] := hl
      refine lv_aload_n hx hb dX12_best_21 rfl (lv_at hl 0 rfl) ?_
      refine va_get (D := E.1) (ci := 10) (v := .int (nI (N 5))) (C := RX12) (T := TX12) (N := 30) hx hb hts iX12 hown hK hP 0 rfl rfl 5 (by decide) (hts _ kw_744) (fun _ h9 => h9) rfl dX12_best_22 ?_
      refine n_if_ne (tgt := 31) hx hb (by omega) dX12_best_25 (by decide) (fun c_3 => ?_) (fun c_3 => ?_)
      · -- t 31
        refine lv_aload_n hx hb dX12_best_31 rfl (lv_at hl 0 rfl) ?_
        refine lv_iload_n hx hb dX12_best_32 rfl (lv_at hl 1 rfl) ?_
        refine cV_w0 (rest := []) hC (c_m_layNow l E ad lk tr N X F G H.size hM hT h17 hcn r (by omega)) kw_929 iy_X12_layNow ⟨Nat.le_of_ble_eq_true rfl, Nat.le_of_ble_eq_true rfl⟩ ⟨rfl, rfl⟩ hK hP hD hS hA (va_recv hK hP (ci := 10) (q0 := 0) rfl rfl) rfl hl.1 rfl (Nat.le_of_ble_eq_true rfl) dX12_best_33 ⟨Nat.le_of_ble_eq_true rfl, Nat.le_of_ble_eq_true rfl⟩ (fun v_ w_ H locs hpost hP hD hS => ?_)
        obtain ⟨rfl, X2, F2, G2, rfl, hI2, hs2, hle2, hf1, hf2, hf3⟩ := hpost
        have hsc : SC N (va_up (va_up (va_up N 17 (N 17 + 1)) 22 (N 5)) 23 r) X X2 F F2 := SC_fr ⟨rfl, rfl, rfl⟩ hf1 hf2
        have hM2 := hM.sc hsc
        have e10 : F2 10 = F 10 := hsc.2.2.2.2.2.2.2.1
        have e11 : F2 11 = F 11 := hsc.2.2.2.2.2.2.2.2
        have e6 : F2 6 = F 6 := hsc.2.2.2.2.2.2.1
        have htk9 := tokS_lt (n := N 5) (r := r) (cP := F 10) (by omega) hMq (N 9)
        obtain ⟨hR2, hch2⟩ := hI2 _ _ hvs htk9 hs2
        have hsm2 := CN_sm (n := N 5) (net := F 6) (r := r) (st := stS (N 5) (F 10) (F 11) (N 9)) (tok := tokS (N 5) r (F 10) (F 11) (N 9))
        obtain ⟨sm1, sm2, sm3, sm4⟩ := id hsm2
        have hg2 := hR2.2.1
        have hg1 := hR2.1
        have hplt := plc_lt (stS (N 5) (F 10) (F 11) (N 9)) (tokS (N 5) r (F 10) (F 11) (N 9))
        refine W.eq (g2 := F0 m 36 ls [.int (nI (plc (stS (N 5) (F 10) (F 11) (N 9)) (tokS (N 5) r (F 10) (F 11) (N 9))))]) rfl ?_
        refine lv_istore_n (lv' := [(3, .int (nI (plc (stS (N 5) (F 10) (F 11) (N 9)) (tokS (N 5) r (F 10) (F 11) (N 9))))), (0, .ref (ad 0)), (1, .int (nI r)), (2, .int (nI w))]) hx hb dX12_best_36 rfl hl (by decide) rfl (fun ls hl => ?_)
        refine lv_aload_n hx hb dX12_best_37 rfl (lv_at hl 1 rfl) ?_
        refine lv_aload_n hx hb dX12_best_38 rfl (lv_at hl 1 rfl) ?_
        refine va_get (D := E.1) (ci := 10) (v := .int (nI (N 9))) (C := RX12) (T := TX12) (N := 30) hx hb hts iX12 hown hK hP 0 rfl rfl 9 (by decide) (hts _ kw_748) (fun _ h9 => h9) rfl dX12_best_39 ?_
        refine cV_r (rest := []) hC (c_m_stateAt l E ad (ad 6) tr (va_up (va_up (va_up N 17 (N 17 + 1)) 22 (N 5)) 23 r) X2 F2 G2 hM2 (N 9) (by omega)) kw_862 iy_X12_stateAt ⟨Nat.le_of_ble_eq_true rfl, Nat.le_of_ble_eq_true rfl⟩ ⟨rfl, rfl⟩ hK hP (va_recv hK hP (ci := 10) (q0 := 0) rfl rfl) rfl hl.1 rfl (Nat.le_of_ble_eq_true rfl) dX12_best_42 ⟨Nat.le_of_ble_eq_true rfl, Nat.le_of_ble_eq_true rfl⟩ ?_
        refine W.eq (g2 := F0 m 45 ls [.int (nI (stS (N 5) (F2 10) (F2 11) (N 9)))]) rfl ?_
        have f_4 := stS_lt (n := N 5) hM2.2.2.1 hM2.2.2.2.1 (N 9)
        rw [e10, e11]
        refine lv_istore (lv' := [(4, .int (nI (stS (N 5) (F 10) (F 11) (N 9)))), (3, .int (nI (plc (stS (N 5) (F 10) (F 11) (N 9)) (tokS (N 5) r (F 10) (F 11) (N 9))))), (0, .ref (ad 0)), (1, .int (nI r)), (2, .int (nI w))]) hx hb dX12_best_45 hl (by decide) rfl (fun ls hl => ?_)
        refine lv_aload_n hx hb dX12_best_47 rfl (lv_at hl 2 rfl) ?_
        refine lv_iload_n hx hb dX12_best_48 rfl (lv_at hl 3 rfl) ?_
        refine cV_r (rest := []) hC (c_m_tokensNow l E ad (ad 6) tr (va_up (va_up (va_up N 17 (N 17 + 1)) 22 (N 5)) 23 r) X2 F2 G2 hM2 r (by omega)) kw_880 iy_X12_tokensNow ⟨Nat.le_of_ble_eq_true rfl, Nat.le_of_ble_eq_true rfl⟩ ⟨rfl, rfl⟩ hK hP (va_recv hK hP (ci := 10) (q0 := 0) rfl rfl) rfl hl.1 rfl (Nat.le_of_ble_eq_true rfl) dX12_best_49 ⟨Nat.le_of_ble_eq_true rfl, Nat.le_of_ble_eq_true rfl⟩ ?_
        refine W.eq (g2 := F0 m 52 ls [.int (nI (tokS (N 5) r (F2 10) (F2 11) (N 9)))]) rfl ?_
        have f_5 := tokS_lt (n := N 5) (r := r) (cP := F2 10) (by omega) hM2.2.2.2.1 (N 9)
        rw [e10, e11]
        refine lv_istore (lv' := [(5, .int (nI (tokS (N 5) r (F 10) (F 11) (N 9)))), (4, .int (nI (stS (N 5) (F 10) (F 11) (N 9)))), (3, .int (nI (plc (stS (N 5) (F 10) (F 11) (N 9)) (tokS (N 5) r (F 10) (F 11) (N 9))))), (0, .ref (ad 0)), (1, .int (nI r)), (2, .int (nI w))]) hx hb dX12_best_52 hl (by decide) rfl (fun ls hl => ?_)
        refine lv_aload_n hx hb dX12_best_54 rfl (lv_at hl 3 rfl) ?_
        refine va_get (D := E.1) (ci := 10) (v := .ref (ad 14)) (C := RX12) (T := TX12) (N := 30) hx hb hts iX12 hown hK hP 0 rfl rfl 14 (by decide) (hts _ kw_753) (fun _ h9 => h9) rfl dX12_best_55 ?_
        refine lv_iload_n hx hb dX12_best_58 rfl (lv_at hl 2 rfl) ?_
        refine n_lald hx hb hK hP 10 rfl (by omega) (by decide) dX12_best_59 ?_
        refine lv_lconst (v := lN 0) hx hb dX12_best_60 (by decide) ?_
        refine n_lcmp_ne (tgt := 68) hx hb (by omega) (by omega) dX12_best_61 dX12_best_62 (by decide) (fun c_6 => ?_) (fun c_6 => ?_)
        · -- t 68
          refine lv_iconst (v := nI 0) hx hb dX12_best_68 (by decide) ?_
          refine lv_istore (lv' := [(6, .int (nI 0)), (5, .int (nI (tokS (N 5) r (F 10) (F 11) (N 9)))), (4, .int (nI (stS (N 5) (F 10) (F 11) (N 9)))), (3, .int (nI (plc (stS (N 5) (F 10) (F 11) (N 9)) (tokS (N 5) r (F 10) (F 11) (N 9))))), (0, .ref (ad 0)), (1, .int (nI r)), (2, .int (nI w))]) hx hb dX12_best_69 hl (by decide) rfl (fun ls hl => ?_)
          have lp_7 : ∀ (n_lp_7 : Nat) (k : Nat) (hk : k ≤ 16) (hbb : ∀ i, i < k → bestB (N 5) (F 6) r (stS (N 5) (F 10) (F 11) (N 9)) (tokS (N 5) r (F 10) (F 11) (N 9)) i = false), 16 - k < n_lp_7 → ∀ (H : Heap) (locs : List Loc) (hP : va_P E.1 vwCl (mW E ad (ad 6) tr (va_up (va_up (va_up N 17 (N 17 + 1)) 22 (N 5)) 23 r) X2 F2 G2) H) (hD : va_D A (mW E ad (ad 6) tr (va_up (va_up (va_up N 17 (N 17 + 1)) 22 (N 5)) 23 r) X2 F2 G2)) (hS : va_S A s.heap H locs) (ls : Array Slot), lv_has ls 10 [(0, .ref (ad 0)), (1, .int (nI r)), (2, .int (nI w)), (3, .int (nI (plc (stS (N 5) (F 10) (F 11) (N 9)) (tokS (N 5) r (F 10) (F 11) (N 9))))), (4, .int (nI (stS (N 5) (F 10) (F 11) (N 9)))), (5, .int (nI (tokS (N 5) r (F 10) (F 11) (N 9)))), (6, .int (nI k))] → W p l e rm_X12_best s m args below meth c H locs 0 0 (MQ below (wr_Q E A (fun v w1 => (if isIn (nI r) (nI 0) (nI 3) = false then v = some (.int (-1)) else if isIn (nI w) (nI 0) (nI 1) = false then v = some (.int (-2)) else if N 5 = 0 then v = some (.int (-3)) else if (NOW (N 5) (F 10) (F 11) (N 9) (nI r).toNatClampNeg (F 6)).2.1 = 0 then v = some (.int (-9)) else ∃ x, v = some (.int x) ∧ bestR (N 5) (F 6) (nI r).toNatClampNeg (stS (N 5) (F 10) (F 11) (N 9)) (tokS (N 5) (nI r).toNatClampNeg (F 10) (F 11) (N 9)) (nI w).toNatClampNeg x) ∧ QP E ad tr N X F 64 w1)) args s 0 0 A) (F0 m 71 ls []) := by
            intro n_lp_7
            induction n_lp_7 with
            | zero => intro k hk hbb; intro hm_lp_7; exact absurd hm_lp_7 (Nat.not_lt_zero _)
            | succ n_lp_7 ih_lp_7 =>
              intro k hk hbb hm_lp_7 H locs hP hD hS ls hl
              refine lv_iload hx hb dX12_best_71 (lv_at hl 6 rfl) ?_
              refine lv_bipush (v := nI 16) hx hb dX12_best_73 (by decide) ?_
              refine n_icmp_ge (tgt := 202) hx hb (by omega) (by omega) dX12_best_75 (by decide) (fun c_8 => ?_) (fun c_8 => ?_)
              · -- t 202
                refine lv_bipush (v := -9) hx hb dX12_best_202 (by decide) ?_
                exact rw_i hC rfl hP hD hS (⟨by rw [if_neg (by rw [c_1]; decide), if_neg (by rw [c_2]; decide), if_neg c_3, hcr, hcw, if_neg (by rw [← hg2]; exact c_6)]; exact ⟨_, rfl, Or.inr ⟨fun i hi => hbb i (by omega), rfl⟩⟩, ⟨_, _, X2, F2, G2, rfl, hsc, ⟨hle2, fun j => by rw [hf1 28 (by decide) (by decide) (by decide) (by decide) (by decide)]; exact hT.2 j⟩, by show N 17 + 1 ≤ N 17 + 64; omega⟩⟩) dX12_best_204 (Nat.le_of_ble_eq_true rfl) (Nat.le_of_ble_eq_true rfl)
              · -- f 78
                refine lv_iload hx hb dX12_best_78 (lv_at hl 6 rfl) ?_
                refine lv_iconst (v := nI 4) hx hb dX12_best_80 (by decide) ?_
                refine n_idiv hx hb (by omega) (by omega) (by omega) dX12_best_81 ?_
                refine lv_istore (lv' := [(7, .int (nI (k / 4))), (0, .ref (ad 0)), (1, .int (nI r)), (2, .int (nI w)), (3, .int (nI (plc (stS (N 5) (F 10) (F 11) (N 9)) (tokS (N 5) r (F 10) (F 11) (N 9))))), (4, .int (nI (stS (N 5) (F 10) (F 11) (N 9)))), (5, .int (nI (tokS (N 5) r (F 10) (F 11) (N 9)))), (6, .int (nI k))]) hx hb dX12_best_82 hl (by decide) rfl (fun ls hl => ?_)
                refine lv_iload hx hb dX12_best_84 (lv_at hl 7 rfl) ?_
                refine lv_iconst (v := nI 4) hx hb dX12_best_86 (by decide) ?_
                refine n_irem hx hb (by omega) (by omega) (by omega) dX12_best_87 ?_
                refine lv_istore (lv' := [(8, .int (nI (k % 4))), (7, .int (nI (k / 4))), (0, .ref (ad 0)), (1, .int (nI r)), (2, .int (nI w)), (3, .int (nI (plc (stS (N 5) (F 10) (F 11) (N 9)) (tokS (N 5) r (F 10) (F 11) (N 9))))), (4, .int (nI (stS (N 5) (F 10) (F 11) (N 9)))), (5, .int (nI (tokS (N 5) r (F 10) (F 11) (N 9)))), (6, .int (nI k))]) hx hb dX12_best_88 hl (by decide) rfl (fun ls hl => ?_)
                refine lv_iload hx hb dX12_best_90 (lv_at hl 1 rfl) ?_
                refine lv_aload_n hx hb dX12_best_92 rfl (lv_at hl 2 rfl) ?_
                refine va_get (D := E.1) (ci := 10) (v := .int (nI (N 5))) (C := RX12) (T := TX12) (N := 30) hx hb hts iX12 hown hK hP 0 rfl rfl 5 (by decide) (hts _ kw_744) (fun _ h9 => h9) rfl dX12_best_93 ?_
                refine n_icmp_ge (tgt := 196) hx hb (by omega) (by omega) dX12_best_96 (by decide) (fun c_9 => ?_) (fun c_9 => ?_)
                · -- t 196
                  refine lv_iinc (v := nI (k + 1)) (lv' := [(6, .int (nI (k + 1))), (8, .int (nI (k % 4))), (7, .int (nI (k / 4))), (0, .ref (ad 0)), (1, .int (nI r)), (2, .int (nI w)), (3, .int (nI (plc (stS (N 5) (F 10) (F 11) (N 9)) (tokS (N 5) r (F 10) (F 11) (N 9))))), (4, .int (nI (stS (N 5) (F 10) (F 11) (N 9)))), (5, .int (nI (tokS (N 5) r (F 10) (F 11) (N 9))))]) hx hb dX12_best_196 hl (k := 8) rfl (ii_1 _) (by decide) rfl (fun ls hl => ?_)
                  refine lv_goto (tgt := 71) hx hb dX12_best_199 (by decide) ?_
                  exact ih_lp_7 (k + 1) (by omega) (fun i h => (by rcases Nat.lt_or_ge i k with h6 | h6; exact hbb i h6; rw [show i = k by omega]; exact (by unfold bestB; unfold cv; rw [decide_eq_false (Nat.not_lt.mpr c_9)]; simp))) (by omega) H locs hP hD hS ls (lv_sub hl [3, 4, 5, 6, 7, 8, 0] rfl)
                · -- f 99
                  refine lv_iload hx hb dX12_best_99 (lv_at hl 0 rfl) ?_
                  refine lv_aload_n hx hb dX12_best_101 rfl (lv_at hl 2 rfl) ?_
                  refine va_get (D := E.1) (ci := 10) (v := .int (nI (N 5))) (C := RX12) (T := TX12) (N := 30) hx hb hts iX12 hown hK hP 0 rfl rfl 5 (by decide) (hts _ kw_744) (fun _ h9 => h9) rfl dX12_best_102 ?_
                  refine n_icmp_ge (tgt := 196) hx hb (by omega) (by omega) dX12_best_105 (by decide) (fun c_10 => ?_) (fun c_10 => ?_)
                  · -- t 196
                    refine lv_iinc (v := nI (k + 1)) (lv' := [(6, .int (nI (k + 1))), (8, .int (nI (k % 4))), (7, .int (nI (k / 4))), (0, .ref (ad 0)), (1, .int (nI r)), (2, .int (nI w)), (3, .int (nI (plc (stS (N 5) (F 10) (F 11) (N 9)) (tokS (N 5) r (F 10) (F 11) (N 9))))), (4, .int (nI (stS (N 5) (F 10) (F 11) (N 9)))), (5, .int (nI (tokS (N 5) r (F 10) (F 11) (N 9))))]) hx hb dX12_best_196 hl (k := 8) rfl (ii_1 _) (by decide) rfl (fun ls hl => ?_)
                    refine lv_goto (tgt := 71) hx hb dX12_best_199 (by decide) ?_
                    exact ih_lp_7 (k + 1) (by omega) (fun i h => (by rcases Nat.lt_or_ge i k with h6 | h6; exact hbb i h6; rw [show i = k by omega]; exact (by unfold bestB; unfold cv; rw [decide_eq_false (p := k % 4 < N 5) (Nat.not_lt.mpr c_10)]; simp))) (by omega) H locs hP hD hS ls (lv_sub hl [3, 4, 5, 6, 7, 8, 0] rfl)
                  · -- f 108
                    have hst9 := stS_lt (n := N 5) hMp hMq (N 9)
                    refine lv_aload_n hx hb dX12_best_108 rfl (lv_at hl 2 rfl) ?_
                    refine va_get (D := E.1) (ci := 10) (v := .ref (ad 6)) (C := RX12) (T := TX12) (N := 30) hx hb hts iX12 hown hK hP 0 rfl rfl 6 (by decide) (hts _ kw_745) (fun _ h9 => h9) rfl dX12_best_109 ?_
                    refine lv_iload_n hx hb dX12_best_112 rfl (lv_at hl 3 rfl) ?_
                    refine lv_iload hx hb dX12_best_113 (lv_at hl 6 rfl) ?_
                    refine lv_iload hx hb dX12_best_115 (lv_at hl 7 rfl) ?_
                    refine lv_iload hx hb dX12_best_117 (lv_at hl 1 rfl) ?_
                    refine lv_iload hx hb dX12_best_119 (lv_at hl 0 rfl) ?_
                    refine cS_r (rest := []) hC (c_may l E (ad 6) (F2 6) r (stS (N 5) (F 10) (F 11) (N 9)) (tokS (N 5) r (F 10) (F 11) (N 9)) (k / 4) (k % 4) (by omega) (by omega) (by omega) (by omega) (by omega) (fun j _ => hM2.2.2.2.2 j)) kw_921 sy_X12_mayRing ⟨Nat.le_of_ble_eq_true rfl, Nat.le_of_ble_eq_true rfl⟩ ⟨rfl, rfl⟩ hK (hP.sub (ws' := aW E (ad 6) (F2 6)) [4] rfl) rfl hl.1 rfl (Nat.le_of_ble_eq_true rfl) dX12_best_121 ⟨Nat.le_of_ble_eq_true rfl, Nat.le_of_ble_eq_true rfl⟩ ?_
                    refine W.eq (g2 := F0 m 124 ls [.int (bI (mayM (F2 6) r (stS (N 5) (F 10) (F 11) (N 9)) (tokS (N 5) r (F 10) (F 11) (N 9)) (k / 4) (k % 4)))]) rfl ?_
                    refine b_if_ne (tgt := 130) hx hb dX12_best_124 (by decide) (fun c_11 => ?_) (fun c_11 => ?_)
                    · -- t 130
                      have hcv : cv (N 5) (F 6) r (stS (N 5) (F 10) (F 11) (N 9)) (tokS (N 5) r (F 10) (F 11) (N 9)) k = true := by unfold cv; rw [decide_eq_true c_9, decide_eq_true c_10, ← e6, c_11]; rfl
                      obtain ⟨cv1, cv2, cv3, cv4, cv5⟩ := cv_ok hM5 hvs hcv
                      have htc : nxT (tokS (N 5) r (F 10) (F 11) (N 9)) r k < 16 := tokA_lt htk9 (by omega)
                      obtain ⟨hR3, -⟩ := hI2 _ _ cv4 htc (hch2 k (by omega) hcv)
                      obtain ⟨sn1, sn2, sn3, sn4⟩ := CN_sm (n := N 5) (net := F 6) (r := r) (st := nxS (stS (N 5) (F 10) (F 11) (N 9)) k) (tok := nxT (tokS (N 5) r (F 10) (F 11) (N 9)) r k)
                      have hg3 : G2 14 (plc (aft (stS (N 5) (F 10) (F 11) (N 9)) (k / 4) (k % 4)) (tokA (tokS (N 5) r (F 10) (F 11) (N 9)) r (k / 4) (k % 4))) = (CN (N 5) (F 6) r (nxS (stS (N 5) (F 10) (F 11) (N 9)) k) (nxT (tokS (N 5) r (F 10) (F 11) (N 9)) r k)).2.1 := hR3.2.1
                      have hf3b : F2 15 (plc (aft (stS (N 5) (F 10) (F 11) (N 9)) (k / 4) (k % 4)) (tokA (tokS (N 5) r (F 10) (F 11) (N 9)) r (k / 4) (k % 4))) = (CN (N 5) (F 6) r (nxS (stS (N 5) (F 10) (F 11) (N 9)) k) (nxT (tokS (N 5) r (F 10) (F 11) (N 9)) r k)).2.2.1 := hR3.2.2.1
                      have hf2b := hR2.2.2.1
                      have hst9 := stS_lt (n := N 5) hMp hMq (N 9)
                      refine lv_iload hx hb dX12_best_130 (lv_at hl 6 rfl) ?_
                      refine lv_iload hx hb dX12_best_132 (lv_at hl 1 rfl) ?_
                      refine lv_iload hx hb dX12_best_134 (lv_at hl 0 rfl) ?_
                      refine cS_p (rest := []) hC (c_aft l (stS (N 5) (F 10) (F 11) (N 9)) (k / 4) (k % 4) (by omega) (by omega) (by omega)) kw_871 sy_X12_afterCall ⟨Nat.le_of_ble_eq_true rfl, Nat.le_of_ble_eq_true rfl⟩ ⟨rfl, rfl⟩ rfl hl.1 rfl (Nat.le_of_ble_eq_true rfl) dX12_best_136 ⟨Nat.le_of_ble_eq_true rfl, Nat.le_of_ble_eq_true rfl⟩ ?_
                      have f_12 := aft_lt (st := stS (N 5) (F 10) (F 11) (N 9)) (pp := k / 4) (qq := k % 4) (by omega) (by omega) (by omega)
                      refine lv_iload hx hb dX12_best_139 (lv_at hl 7 rfl) ?_
                      refine lv_iload_n hx hb dX12_best_141 rfl (lv_at hl 3 rfl) ?_
                      refine lv_iload hx hb dX12_best_142 (lv_at hl 1 rfl) ?_
                      refine lv_iload hx hb dX12_best_144 (lv_at hl 0 rfl) ?_
                      refine cS_p (rest := [.int (nI (aft (stS (N 5) (F 10) (F 11) (N 9)) (k / 4) (k % 4)))]) hC (c_tokA l (tokS (N 5) r (F 10) (F 11) (N 9)) r (k / 4) (k % 4) (by omega) (by omega) (by omega)) kw_884 sy_X12_tokensAfter ⟨Nat.le_of_ble_eq_true rfl, Nat.le_of_ble_eq_true rfl⟩ ⟨rfl, rfl⟩ rfl hl.1 rfl (Nat.le_of_ble_eq_true rfl) dX12_best_146 ⟨Nat.le_of_ble_eq_true rfl, Nat.le_of_ble_eq_true rfl⟩ ?_
                      have f_13 := tokA_lt (t := tokS (N 5) r (F 10) (F 11) (N 9)) (r := r) (pp := k / 4) (qq := k % 4) (by omega) (by omega)
                      refine cS_p (rest := []) hC (c_plc l (aft (stS (N 5) (F 10) (F 11) (N 9)) (k / 4) (k % 4)) (tokA (tokS (N 5) r (F 10) (F 11) (N 9)) r (k / 4) (k % 4)) (by omega) (by omega)) kw_941 sy_X12_placeOf ⟨Nat.le_of_ble_eq_true rfl, Nat.le_of_ble_eq_true rfl⟩ ⟨rfl, rfl⟩ rfl hl.1 rfl (Nat.le_of_ble_eq_true rfl) dX12_best_149 ⟨Nat.le_of_ble_eq_true rfl, Nat.le_of_ble_eq_true rfl⟩ ?_
                      have f_14 := plc_lt (aft (stS (N 5) (F 10) (F 11) (N 9)) (k / 4) (k % 4)) (tokA (tokS (N 5) r (F 10) (F 11) (N 9)) r (k / 4) (k % 4))
                      refine lv_istore (lv' := [(9, .int (nI (plc (aft (stS (N 5) (F 10) (F 11) (N 9)) (k / 4) (k % 4)) (tokA (tokS (N 5) r (F 10) (F 11) (N 9)) r (k / 4) (k % 4))))), (8, .int (nI (k % 4))), (7, .int (nI (k / 4))), (0, .ref (ad 0)), (1, .int (nI r)), (2, .int (nI w)), (3, .int (nI (plc (stS (N 5) (F 10) (F 11) (N 9)) (tokS (N 5) r (F 10) (F 11) (N 9))))), (4, .int (nI (stS (N 5) (F 10) (F 11) (N 9)))), (5, .int (nI (tokS (N 5) r (F 10) (F 11) (N 9)))), (6, .int (nI k))]) hx hb dX12_best_152 hl (by decide) rfl (fun ls hl => ?_)
                      refine lv_aload_n hx hb dX12_best_154 rfl (lv_at hl 3 rfl) ?_
                      refine va_get (D := E.1) (ci := 10) (v := .ref (ad 14)) (C := RX12) (T := TX12) (N := 30) hx hb hts iX12 hown hK hP 0 rfl rfl 14 (by decide) (hts _ kw_753) (fun _ h9 => h9) rfl dX12_best_155 ?_
                      refine lv_iload hx hb dX12_best_158 (lv_at hl 0 rfl) ?_
                      refine n_lald hx hb hK hP 10 rfl (by omega) (by decide) dX12_best_160 ?_
                      refine lv_lconst (v := lN 0) hx hb dX12_best_161 (by decide) ?_
                      refine n_lcmp_le (tgt := 196) hx hb (by omega) (by omega) dX12_best_162 dX12_best_163 (by decide) (fun c_15 => ?_) (fun c_15 => ?_)
                      · -- t 196
                        refine lv_iinc (v := nI (k + 1)) (lv' := [(6, .int (nI (k + 1))), (9, .int (nI (plc (aft (stS (N 5) (F 10) (F 11) (N 9)) (k / 4) (k % 4)) (tokA (tokS (N 5) r (F 10) (F 11) (N 9)) r (k / 4) (k % 4))))), (8, .int (nI (k % 4))), (7, .int (nI (k / 4))), (0, .ref (ad 0)), (1, .int (nI r)), (2, .int (nI w)), (3, .int (nI (plc (stS (N 5) (F 10) (F 11) (N 9)) (tokS (N 5) r (F 10) (F 11) (N 9))))), (4, .int (nI (stS (N 5) (F 10) (F 11) (N 9)))), (5, .int (nI (tokS (N 5) r (F 10) (F 11) (N 9))))]) hx hb dX12_best_196 hl (k := 9) rfl (ii_1 _) (by decide) rfl (fun ls hl => ?_)
                        refine lv_goto (tgt := 71) hx hb dX12_best_199 (by decide) ?_
                        exact ih_lp_7 (k + 1) (by omega) (fun i h => (by rcases Nat.lt_or_ge i k with h6 | h6; exact hbb i h6; rw [show i = k by omega]; exact (by unfold bestB; rw [decide_eq_false (p := 0 < (CN (N 5) (F 6) r (nxS (stS (N 5) (F 10) (F 11) (N 9)) k) (nxT (tokS (N 5) r (F 10) (F 11) (N 9)) r k)).2.1) (by omega)]; simp))) (by omega) H locs hP hD hS ls (lv_sub hl [4, 5, 6, 7, 8, 9, 0] rfl)
                      · -- f 166
                        refine lv_aload_n hx hb dX12_best_166 rfl (lv_at hl 3 rfl) ?_
                        refine va_get (D := E.1) (ci := 10) (v := .ref (ad 15)) (C := RX12) (T := TX12) (N := 30) hx hb hts iX12 hown hK hP 0 rfl rfl 15 (by decide) (hts _ kw_754) (fun _ h9 => h9) rfl dX12_best_167 ?_
                        refine lv_iload hx hb dX12_best_170 (lv_at hl 0 rfl) ?_
                        refine n_iald hx hb hK hP 11 rfl (by omega) (by decide) dX12_best_172 ?_
                        refine lv_iconst (v := nI 1) hx hb dX12_best_173 (by decide) ?_
                        refine n_iadd hx hb dX12_best_174 ?_
                        refine lv_aload_n hx hb dX12_best_175 rfl (lv_at hl 3 rfl) ?_
                        refine va_get (D := E.1) (ci := 10) (v := .ref (ad 15)) (C := RX12) (T := TX12) (N := 30) hx hb hts iX12 hown hK hP 0 rfl rfl 15 (by decide) (hts _ kw_754) (fun _ h9 => h9) rfl dX12_best_176 ?_
                        refine lv_iload_n hx hb dX12_best_179 rfl (lv_at hl 6 rfl) ?_
                        refine n_iald hx hb hK hP 11 rfl (by omega) (by decide) dX12_best_180 ?_
                        refine n_icmp_ne (tgt := 196) hx hb (by omega) (by omega) dX12_best_181 (by decide) (fun c_16 => ?_) (fun c_16 => ?_)
                        · -- t 196
                          refine lv_iinc (v := nI (k + 1)) (lv' := [(6, .int (nI (k + 1))), (9, .int (nI (plc (aft (stS (N 5) (F 10) (F 11) (N 9)) (k / 4) (k % 4)) (tokA (tokS (N 5) r (F 10) (F 11) (N 9)) r (k / 4) (k % 4))))), (8, .int (nI (k % 4))), (7, .int (nI (k / 4))), (0, .ref (ad 0)), (1, .int (nI r)), (2, .int (nI w)), (3, .int (nI (plc (stS (N 5) (F 10) (F 11) (N 9)) (tokS (N 5) r (F 10) (F 11) (N 9))))), (4, .int (nI (stS (N 5) (F 10) (F 11) (N 9)))), (5, .int (nI (tokS (N 5) r (F 10) (F 11) (N 9))))]) hx hb dX12_best_196 hl (k := 9) rfl (ii_1 _) (by decide) rfl (fun ls hl => ?_)
                          refine lv_goto (tgt := 71) hx hb dX12_best_199 (by decide) ?_
                          exact ih_lp_7 (k + 1) (by omega) (fun i h => (by rcases Nat.lt_or_ge i k with h6 | h6; exact hbb i h6; rw [show i = k by omega]; exact (by unfold bestB; rw [decide_eq_false (p := (CN (N 5) (F 6) r (nxS (stS (N 5) (F 10) (F 11) (N 9)) k) (nxT (tokS (N 5) r (F 10) (F 11) (N 9)) r k)).2.2.1 + 1 = (NOW (N 5) (F 10) (F 11) (N 9) r (F 6)).2.2.1) (by rw [← hf3b, ← hf2b]; exact c_16)]; simp))) (by omega) H locs hP hD hS ls (lv_sub hl [4, 5, 6, 7, 8, 9, 0] rfl)
                        · -- f 184
                          have hbk : bestB (N 5) (F 6) r (stS (N 5) (F 10) (F 11) (N 9)) (tokS (N 5) r (F 10) (F 11) (N 9)) k = true := by unfold bestB; rw [hcv, decide_eq_true (p := 0 < (CN (N 5) (F 6) r (nxS (stS (N 5) (F 10) (F 11) (N 9)) k) (nxT (tokS (N 5) r (F 10) (F 11) (N 9)) r k)).2.1) (by omega), decide_eq_true (p := (CN (N 5) (F 6) r (nxS (stS (N 5) (F 10) (F 11) (N 9)) k) (nxT (tokS (N 5) r (F 10) (F 11) (N 9)) r k)).2.2.1 + 1 = (NOW (N 5) (F 10) (F 11) (N 9) r (F 6)).2.2.1) (by rw [← hf3b, ← hf2b]; exact c_16)]; rfl
                          refine lv_iload_n hx hb dX12_best_184 rfl (lv_at hl 5 rfl) ?_
                          refine n_if_ne (tgt := 193) hx hb (by omega) dX12_best_185 (by decide) (fun c_17 => ?_) (fun c_17 => ?_)
                          · -- t 193
                            refine lv_iload hx hb dX12_best_193 (lv_at hl 1 rfl) ?_
                            exact rw_i hC rfl hP hD hS (⟨by rw [if_neg (by rw [c_1]; decide), if_neg (by rw [c_2]; decide), if_neg c_3, hcr, hcw, if_neg (by rw [← hg2]; exact c_6)]; exact ⟨_, rfl, Or.inl ⟨k, by omega, hbk, hbb, by rw [if_neg c_17]⟩⟩, ⟨_, _, X2, F2, G2, rfl, hsc, ⟨hle2, fun j => by rw [hf1 28 (by decide) (by decide) (by decide) (by decide) (by decide)]; exact hT.2 j⟩, by show N 17 + 1 ≤ N 17 + 64; omega⟩⟩) dX12_best_195 (Nat.le_of_ble_eq_true rfl) (Nat.le_of_ble_eq_true rfl)
                          · -- f 188
                            refine lv_iload hx hb dX12_best_188 (lv_at hl 2 rfl) ?_
                            refine lv_goto (tgt := 195) hx hb dX12_best_190 (by decide) ?_
                            exact rw_i hC rfl hP hD hS (⟨by rw [if_neg (by rw [c_1]; decide), if_neg (by rw [c_2]; decide), if_neg c_3, hcr, hcw, if_neg (by rw [← hg2]; exact c_6)]; exact ⟨_, rfl, Or.inl ⟨k, by omega, hbk, hbb, by rw [if_pos c_17]⟩⟩, ⟨_, _, X2, F2, G2, rfl, hsc, ⟨hle2, fun j => by rw [hf1 28 (by decide) (by decide) (by decide) (by decide) (by decide)]; exact hT.2 j⟩, by show N 17 + 1 ≤ N 17 + 64; omega⟩⟩) dX12_best_195 (Nat.le_of_ble_eq_true rfl) (Nat.le_of_ble_eq_true rfl)
                    · -- f 127
                      refine lv_goto (tgt := 196) hx hb dX12_best_127 (by decide) ?_
                      refine lv_iinc (v := nI (k + 1)) (lv' := [(6, .int (nI (k + 1))), (8, .int (nI (k % 4))), (7, .int (nI (k / 4))), (0, .ref (ad 0)), (1, .int (nI r)), (2, .int (nI w)), (3, .int (nI (plc (stS (N 5) (F 10) (F 11) (N 9)) (tokS (N 5) r (F 10) (F 11) (N 9))))), (4, .int (nI (stS (N 5) (F 10) (F 11) (N 9)))), (5, .int (nI (tokS (N 5) r (F 10) (F 11) (N 9))))]) hx hb dX12_best_196 hl (k := 8) rfl (ii_1 _) (by decide) rfl (fun ls hl => ?_)
                      refine lv_goto (tgt := 71) hx hb dX12_best_199 (by decide) ?_
                      exact ih_lp_7 (k + 1) (by omega) (fun i h => (by rcases Nat.lt_or_ge i k with h6 | h6; exact hbb i h6; rw [show i = k by omega]; exact (by unfold bestB; unfold cv; rw [← e6, c_11]; simp))) (by omega) H locs hP hD hS ls (lv_sub hl [3, 4, 5, 6, 7, 8, 0] rfl)
          exact lp_7 _ 0 (by omega) (fun i h => absurd h (by omega)) (Nat.lt_succ_self _) H locs hP hD hS ls (lv_sub hl [4, 5, 6, 3, 2, 1, 0] rfl)
        · -- f 65
          refine lv_bipush (v := -9) hx hb dX12_best_65 (by decide) ?_
          exact rw_i hC rfl hP hD hS (⟨by rw [if_neg (by rw [c_1]; decide), if_neg (by rw [c_2]; decide), if_neg c_3, hcr, hcw, if_pos (by rw [← hg2]; exact c_6)], ⟨_, _, X2, F2, G2, rfl, hsc, ⟨hle2, fun j => by rw [hf1 28 (by decide) (by decide) (by decide) (by decide) (by decide)]; exact hT.2 j⟩, by show N 17 + 1 ≤ N 17 + 64; omega⟩⟩) dX12_best_67 (Nat.le_of_ble_eq_true rfl) (Nat.le_of_ble_eq_true rfl)
      · -- f 28
        refine lv_bipush (v := -3) hx hb dX12_best_28 (by decide) ?_
        exact rw_i hC rfl hP hD hS (⟨by rw [if_neg (by rw [c_1]; decide), if_neg (by rw [c_2]; decide), if_pos c_3], QP.rf hT⟩) dX12_best_30 (Nat.le_of_ble_eq_true rfl) (Nat.le_of_ble_eq_true rfl)
    · -- f 18
      refine lv_bipush (v := -2) hx hb dX12_best_18 (by decide) ?_
      exact rw_i hC rfl hP hD hS (⟨by rw [if_neg (by rw [c_1]; decide), if_pos c_2], QP.rf hT⟩) dX12_best_20 (Nat.le_of_ble_eq_true rfl) (Nat.le_of_ble_eq_true rfl)
  · -- f 7
    refine lv_iconst (v := -1) hx hb dX12_best_7 (by decide) ?_
    exact rw_i hC rfl hP hD hS (⟨by rw [if_pos c_1], QP.rf hT⟩) dX12_best_8 (Nat.le_of_ble_eq_true rfl) (Nat.le_of_ble_eq_true rfl)
