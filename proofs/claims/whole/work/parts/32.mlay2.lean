set_option maxHeartbeats 4000000 in
set_option maxRecDepth 100000 in
theorem c_m_close (l : Launch) (E : EE) (ad : Nat → Nat) (lk : Nat) (tr : Int32) (N : Nat → Nat) (X : Nat → Nat → Int32) (F G : Nat → Nat → Nat) (sz : Nat) (pa st0 : Nat) (h1 : pa < 65536) (h2 : st0 < 65536) (h3 : N 22 ≤ 4) (xa : C4) (hRa : Rp (G 13) (G 14) (F 15) (X 16) pa xa) (sa : SmC xa) : Wr l yX12_close cX12_close 4 none rm_X12_close 0 0 E (mW E ad lk tr N X F G) sz [.ref (ad 0), .int (nI pa), .int (nI st0)] (fun v w1 => v = none ∧ ∃ (g13 g14 f15 : Nat → Nat) (x16 : Nat → Int32), w1 = mW E ad lk tr N (va_up X 16 x16) (va_up (va_up F 12 (va_up (F 12) pa (N 17))) 15 f15) (va_up (va_up G 13 g13) 14 g14) ∧ Rp g13 g14 f15 x16 pa (finC (expM st0 (N 22)) xa) ∧ ∀ j, j ≠ pa → g13 j = G 13 j ∧ g14 j = G 14 j ∧ f15 j = F 15 j ∧ x16 j = X 16 j) := by
  refine mk_wr (by decide) (Nat.le_of_ble_eq_true rfl) ?_
  intro p e s m args below meth c hC hin hK A hA hP hD hS ls hl
  obtain ⟨hx, hb, hr, hts, hown, hml, hlk, hN⟩ := id hC
  have hl : lv_has ls 4 [(0, .ref (ad 0)), (1, .int (nI pa)), (2, .int (nI st0))] := hl
  obtain ⟨ra1, ra2, ra3, ra4⟩ := id hRa
  obtain ⟨sa1, sa2, sa3, sa4⟩ := id sa
  obtain ⟨H, hH⟩ : ∃ z, z = s.heap := ⟨_, rfl⟩
  have hS : va_S A s.heap H [] := by rw [hH]; exact hS
  rw [← hH] at hP
  refine W_heap hH ?_
  obtain ⟨locs, hlo⟩ : ∃ z : List Loc, z = [] := ⟨_, rfl⟩
  rw [← hlo] at hS ⊢
  refine lv_aload_n hx hb dX12_close_0 rfl (lv_at hl 0 rfl) ?_
  refine va_get (D := E.1) (ci := 10) (v := .ref (ad 12)) (C := RX12) (T := TX12) (N := 30) hx hb hts iX12 hown hK hP 0 rfl rfl 12 (by decide) (hts _ kw_751) (fun _ h9 => h9) rfl dX12_close_1 ?_
  refine lv_iload_n hx hb dX12_close_4 rfl (lv_at hl 1 rfl) ?_
  refine lv_aload_n hx hb dX12_close_5 rfl (lv_at hl 0 rfl) ?_
  refine va_get (D := E.1) (ci := 10) (v := .int (nI (N 17))) (C := RX12) (T := TX12) (N := 30) hx hb hts iX12 hown hK hP 0 rfl rfl 17 (by decide) (hts _ kw_756) (fun _ h9 => h9) rfl dX12_close_6 ?_
  refine n_iast hx hb hK hP hD hS 8 rfl (by omega) (by decide) dX12_close_9 (fun H locs hP hD hS => ?_)
  have hP : va_P E.1 vwCl (mW E ad lk tr N X (va_up F 12 (va_up (F 12) pa (N 17))) G) H := hP
  have hD : va_D A (mW E ad lk tr N X (va_up F 12 (va_up (F 12) pa (N 17))) G) := hD
  refine lv_aload_n hx hb dX12_close_10 rfl (lv_at hl 0 rfl) ?_
  refine va_get (D := E.1) (ci := 10) (v := .ref (ad 13)) (C := RX12) (T := TX12) (N := 30) hx hb hts iX12 hown hK hP 0 rfl rfl 13 (by decide) (hts _ kw_752) (fun _ h9 => h9) rfl dX12_close_11 ?_
  refine lv_iload_n hx hb dX12_close_14 rfl (lv_at hl 1 rfl) ?_
  refine n_lald hx hb hK hP 9 rfl (by omega) (by decide) dX12_close_15 ?_
  refine lv_lconst (v := lN 0) hx hb dX12_close_16 (by decide) ?_
  refine n_lcmp_ne (tgt := 85) hx hb (by omega) (by omega) dX12_close_17 dX12_close_18 (by decide) (fun c_1 => ?_) (fun c_1 => ?_)
  · -- t 85
    exact rw_v hC hP hD hS (⟨rfl, (G 13), (G 14), (F 15), (X 16), rfl, by rw [finC, if_neg (by rw [← ra1]; exact c_1)]; exact hRa, fun j _ => ⟨rfl, rfl, rfl, rfl⟩⟩) dX12_close_85 (Nat.le_of_ble_eq_true rfl) (Nat.le_of_ble_eq_true rfl)
  · -- f 21
    refine lv_aload_n hx hb dX12_close_21 rfl (lv_at hl 0 rfl) ?_
    refine lv_iload_n hx hb dX12_close_22 rfl (lv_at hl 2 rfl) ?_
    refine lv_aload_n hx hb dX12_close_23 rfl (lv_at hl 0 rfl) ?_
    refine va_get (D := E.1) (ci := 10) (v := .int (nI (N 22))) (C := RX12) (T := TX12) (N := 30) hx hb hts iX12 hown hK hP 0 rfl rfl 22 (by decide) (hts _ kw_761) (fun _ h9 => h9) rfl dX12_close_24 ?_
    refine cV_r (rest := []) hC (c_m_areExperts l E ad lk tr N X (va_up F 12 (va_up (F 12) pa (N 17))) G st0 (N 22) (by omega) (by omega)) kw_953 iy_X12_areExperts ⟨Nat.le_of_ble_eq_true rfl, Nat.le_of_ble_eq_true rfl⟩ ⟨rfl, rfl⟩ hK hP (va_recv hK hP (ci := 10) (q0 := 0) rfl rfl) rfl hl.1 rfl (Nat.le_of_ble_eq_true rfl) dX12_close_27 ⟨Nat.le_of_ble_eq_true rfl, Nat.le_of_ble_eq_true rfl⟩ ?_
    refine W.eq (g2 := F0 m 30 ls [.int (bI (expM st0 (N 22)))]) rfl ?_
    refine lv_istore_n (lv' := [(3, .int (bI (expM st0 (N 22)))), (0, .ref (ad 0)), (1, .int (nI pa)), (2, .int (nI st0))]) hx hb dX12_close_30 rfl hl (by decide) rfl (fun ls hl => ?_)
    refine lv_aload_n hx hb dX12_close_31 rfl (lv_at hl 1 rfl) ?_
    refine va_get (D := E.1) (ci := 10) (v := .ref (ad 13)) (C := RX12) (T := TX12) (N := 30) hx hb hts iX12 hown hK hP 0 rfl rfl 13 (by decide) (hts _ kw_752) (fun _ h9 => h9) rfl dX12_close_32 ?_
    refine lv_iload_n hx hb dX12_close_35 rfl (lv_at hl 2 rfl) ?_
    refine lv_lconst (v := lN 1) hx hb dX12_close_36 (by decide) ?_
    refine n_last hx hb hK hP hD hS 9 rfl (by omega) (by decide) dX12_close_37 (fun H locs hP hD hS => ?_)
    have hP : va_P E.1 vwCl (mW E ad lk tr N X (va_up F 12 (va_up (F 12) pa (N 17))) (va_up G 13 (va_up (G 13) pa 1))) H := hP
    have hD : va_D A (mW E ad lk tr N X (va_up F 12 (va_up (F 12) pa (N 17))) (va_up G 13 (va_up (G 13) pa 1))) := hD
    refine lv_aload_n hx hb dX12_close_38 rfl (lv_at hl 1 rfl) ?_
    refine va_get (D := E.1) (ci := 10) (v := .ref (ad 14)) (C := RX12) (T := TX12) (N := 30) hx hb hts iX12 hown hK hP 0 rfl rfl 14 (by decide) (hts _ kw_753) (fun _ h9 => h9) rfl dX12_close_39 ?_
    refine lv_iload_n hx hb dX12_close_42 rfl (lv_at hl 2 rfl) ?_
    refine lv_iload_n hx hb dX12_close_43 rfl (lv_at hl 0 rfl) ?_
    refine b_if_eq (tgt := 51) hx hb dX12_close_44 (by decide) (fun c_2 => ?_) (fun c_2 => ?_)
    · -- t 51
      refine lv_lconst (v := lN 0) hx hb dX12_close_51 (by decide) ?_
      refine n_last hx hb hK hP hD hS 10 rfl (by omega) (by decide) dX12_close_52 (fun H locs hP hD hS => ?_)
      have hP : va_P E.1 vwCl (mW E ad lk tr N X (va_up F 12 (va_up (F 12) pa (N 17))) (va_up (va_up G 13 (va_up (G 13) pa 1)) 14 (va_up (G 14) pa 0))) H := hP
      have hD : va_D A (mW E ad lk tr N X (va_up F 12 (va_up (F 12) pa (N 17))) (va_up (va_up G 13 (va_up (G 13) pa 1)) 14 (va_up (G 14) pa 0))) := hD
      refine lv_aload_n hx hb dX12_close_53 rfl (lv_at hl 1 rfl) ?_
      refine va_get (D := E.1) (ci := 10) (v := .ref (ad 15)) (C := RX12) (T := TX12) (N := 30) hx hb hts iX12 hown hK hP 0 rfl rfl 15 (by decide) (hts _ kw_754) (fun _ h9 => h9) rfl dX12_close_54 ?_
      refine lv_iload_n hx hb dX12_close_57 rfl (lv_at hl 2 rfl) ?_
      refine lv_iload_n hx hb dX12_close_58 rfl (lv_at hl 0 rfl) ?_
      refine b_if_eq (tgt := 66) hx hb dX12_close_59 (by decide) (fun c_3 => ?_) (fun c_3 => ?_)
      · -- t 66
        refine lv_sipush (v := nI 1000) hx hb dX12_close_66 (by decide) ?_
        refine n_iast hx hb hK hP hD hS 11 rfl (by omega) (by decide) dX12_close_69 (fun H locs hP hD hS => ?_)
        have hP : va_P E.1 vwCl (mW E ad lk tr N X (va_up (va_up F 12 (va_up (F 12) pa (N 17))) 15 (va_up (F 15) pa 1000)) (va_up (va_up G 13 (va_up (G 13) pa 1)) 14 (va_up (G 14) pa 0))) H := hP
        have hD : va_D A (mW E ad lk tr N X (va_up (va_up F 12 (va_up (F 12) pa (N 17))) 15 (va_up (F 15) pa 1000)) (va_up (va_up G 13 (va_up (G 13) pa 1)) 14 (va_up (G 14) pa 0))) := hD
        refine lv_aload_n hx hb dX12_close_70 rfl (lv_at hl 1 rfl) ?_
        refine va_get (D := E.1) (ci := 10) (v := .ref (ad 16)) (C := RX12) (T := TX12) (N := 30) hx hb hts iX12 hown hK hP 0 rfl rfl 16 (by decide) (hts _ kw_755) (fun _ h9 => h9) rfl dX12_close_71 ?_
        refine lv_iload_n hx hb dX12_close_74 rfl (lv_at hl 2 rfl) ?_
        refine lv_iload_n hx hb dX12_close_75 rfl (lv_at hl 0 rfl) ?_
        refine b_if_eq (tgt := 83) hx hb dX12_close_76 (by decide) (fun c_4 => ?_) (fun c_4 => ?_)
        · -- t 83
          refine lv_iconst (v := -1) hx hb dX12_close_83 (by decide) ?_
          refine n_iastR hx hb hK hP hD hS 12 rfl (by omega) (by decide) dX12_close_84 (fun H locs hP hD hS => ?_)
          have hP : va_P E.1 vwCl (mW E ad lk tr N (va_up X 16 (upd (X 16) pa (-1))) (va_up (va_up F 12 (va_up (F 12) pa (N 17))) 15 (va_up (F 15) pa 1000)) (va_up (va_up G 13 (va_up (G 13) pa 1)) 14 (va_up (G 14) pa 0))) H := hP
          have hD : va_D A (mW E ad lk tr N (va_up X 16 (upd (X 16) pa (-1))) (va_up (va_up F 12 (va_up (F 12) pa (N 17))) 15 (va_up (F 15) pa 1000)) (va_up (va_up G 13 (va_up (G 13) pa 1)) 14 (va_up (G 14) pa 0))) := hD
          exact rw_v hC hP hD hS (⟨rfl, (va_up (G 13) pa 1), (va_up (G 14) pa 0), (va_up (F 15) pa 1000), (upd (X 16) pa (-1)), rfl, by rw [finC, if_pos (by rw [← ra1]; exact c_1), c_2]; exact ⟨vu_s _ _ _, vu_s _ _ _, vu_s _ _ _, (ud_s _ _ _).trans (by decide)⟩, fun j hj => ⟨vu_n _ _ hj, vu_n _ _ hj, vu_n _ _ hj, ud_n _ _ hj⟩⟩) dX12_close_85 (Nat.le_of_ble_eq_true rfl) (Nat.le_of_ble_eq_true rfl)
        · -- f 79
          exact absurd (c_2.symm.trans c_4) (by decide)
      · -- f 62
        exact absurd (c_2.symm.trans c_3) (by decide)
    · -- f 47
      refine lv_lconst (v := lN 1) hx hb dX12_close_47 (by decide) ?_
      refine lv_goto (tgt := 52) hx hb dX12_close_48 (by decide) ?_
      refine n_last hx hb hK hP hD hS 10 rfl (by omega) (by decide) dX12_close_52 (fun H locs hP hD hS => ?_)
      have hP : va_P E.1 vwCl (mW E ad lk tr N X (va_up F 12 (va_up (F 12) pa (N 17))) (va_up (va_up G 13 (va_up (G 13) pa 1)) 14 (va_up (G 14) pa 1))) H := hP
      have hD : va_D A (mW E ad lk tr N X (va_up F 12 (va_up (F 12) pa (N 17))) (va_up (va_up G 13 (va_up (G 13) pa 1)) 14 (va_up (G 14) pa 1))) := hD
      refine lv_aload_n hx hb dX12_close_53 rfl (lv_at hl 1 rfl) ?_
      refine va_get (D := E.1) (ci := 10) (v := .ref (ad 15)) (C := RX12) (T := TX12) (N := 30) hx hb hts iX12 hown hK hP 0 rfl rfl 15 (by decide) (hts _ kw_754) (fun _ h9 => h9) rfl dX12_close_54 ?_
      refine lv_iload_n hx hb dX12_close_57 rfl (lv_at hl 2 rfl) ?_
      refine lv_iload_n hx hb dX12_close_58 rfl (lv_at hl 0 rfl) ?_
      refine b_if_eq (tgt := 66) hx hb dX12_close_59 (by decide) (fun c_5 => ?_) (fun c_5 => ?_)
      · -- t 66
        exact absurd (c_2.symm.trans c_5) (by decide)
      · -- f 62
        refine lv_iconst (v := nI 0) hx hb dX12_close_62 (by decide) ?_
        refine lv_goto (tgt := 69) hx hb dX12_close_63 (by decide) ?_
        refine n_iast hx hb hK hP hD hS 11 rfl (by omega) (by decide) dX12_close_69 (fun H locs hP hD hS => ?_)
        have hP : va_P E.1 vwCl (mW E ad lk tr N X (va_up (va_up F 12 (va_up (F 12) pa (N 17))) 15 (va_up (F 15) pa 0)) (va_up (va_up G 13 (va_up (G 13) pa 1)) 14 (va_up (G 14) pa 1))) H := hP
        have hD : va_D A (mW E ad lk tr N X (va_up (va_up F 12 (va_up (F 12) pa (N 17))) 15 (va_up (F 15) pa 0)) (va_up (va_up G 13 (va_up (G 13) pa 1)) 14 (va_up (G 14) pa 1))) := hD
        refine lv_aload_n hx hb dX12_close_70 rfl (lv_at hl 1 rfl) ?_
        refine va_get (D := E.1) (ci := 10) (v := .ref (ad 16)) (C := RX12) (T := TX12) (N := 30) hx hb hts iX12 hown hK hP 0 rfl rfl 16 (by decide) (hts _ kw_755) (fun _ h9 => h9) rfl dX12_close_71 ?_
        refine lv_iload_n hx hb dX12_close_74 rfl (lv_at hl 2 rfl) ?_
        refine lv_iload_n hx hb dX12_close_75 rfl (lv_at hl 0 rfl) ?_
        refine b_if_eq (tgt := 83) hx hb dX12_close_76 (by decide) (fun c_6 => ?_) (fun c_6 => ?_)
        · -- t 83
          exact absurd (c_2.symm.trans c_6) (by decide)
        · -- f 79
          refine lv_iconst (v := nI 0) hx hb dX12_close_79 (by decide) ?_
          refine lv_goto (tgt := 84) hx hb dX12_close_80 (by decide) ?_
          refine n_iastR hx hb hK hP hD hS 12 rfl (by omega) (by decide) dX12_close_84 (fun H locs hP hD hS => ?_)
          have hP : va_P E.1 vwCl (mW E ad lk tr N (va_up X 16 (upd (X 16) pa (nI 0))) (va_up (va_up F 12 (va_up (F 12) pa (N 17))) 15 (va_up (F 15) pa 0)) (va_up (va_up G 13 (va_up (G 13) pa 1)) 14 (va_up (G 14) pa 1))) H := hP
          have hD : va_D A (mW E ad lk tr N (va_up X 16 (upd (X 16) pa (nI 0))) (va_up (va_up F 12 (va_up (F 12) pa (N 17))) 15 (va_up (F 15) pa 0)) (va_up (va_up G 13 (va_up (G 13) pa 1)) 14 (va_up (G 14) pa 1))) := hD
          exact rw_v hC hP hD hS (⟨rfl, (va_up (G 13) pa 1), (va_up (G 14) pa 1), (va_up (F 15) pa 0), (upd (X 16) pa (nI 0)), rfl, by rw [finC, if_pos (by rw [← ra1]; exact c_1), c_2]; exact ⟨vu_s _ _ _, vu_s _ _ _, vu_s _ _ _, (ud_s _ _ _).trans (by decide)⟩, fun j hj => ⟨vu_n _ _ hj, vu_n _ _ hj, vu_n _ _ hj, ud_n _ _ hj⟩⟩) dX12_close_85 (Nat.le_of_ble_eq_true rfl) (Nat.le_of_ble_eq_true rfl)

set_option maxHeartbeats 4000000 in
set_option maxRecDepth 100000 in
theorem c_m_lookAt (l : Launch) (E : EE) (ad : Nat → Nat) (lk : Nat) (tr : Int32) (N : Nat → Nat) (X : Nat → Nat → Int32) (F G : Nat → Nat → Nat) (sz : Nat) (by0 mn rl : Nat) : Wr l yX12_lookAt cX12_lookAt 4 none rm_X12_lookAt 0 0 E (mW E ad lk tr N X F G) sz [.ref (ad 0), .ref by0, .int (nI mn), .int (nI rl)] (fun v w1 => v = none ∧ w1 = mW E ad by0 tr (va_up (va_up (va_up N 17 (N 17 + 1)) 22 mn) 23 rl) X F G) := by
  refine mk_wr (by decide) (Nat.le_of_ble_eq_true rfl) ?_
  intro p e s m args below meth c hC hin hK A hA hP hD hS ls hl
  obtain ⟨hx, hb, hr, hts, hown, hml, hlk, hN⟩ := id hC
  have hl : lv_has ls 4 [(0, .ref (ad 0)), (1, .ref by0), (2, .int (nI mn)), (3, .int (nI rl))] := hl
  obtain ⟨H, hH⟩ : ∃ z, z = s.heap := ⟨_, rfl⟩
  have hS : va_S A s.heap H [] := by rw [hH]; exact hS
  rw [← hH] at hP
  refine W_heap hH ?_
  obtain ⟨locs, hlo⟩ : ∃ z : List Loc, z = [] := ⟨_, rfl⟩
  rw [← hlo] at hS ⊢
  refine lv_aload_n hx hb dX12_lookAt_0 rfl (lv_at hl 0 rfl) ?_
  refine lv_dup hx hb dX12_lookAt_1 rfl ?_
  refine va_get (D := E.1) (ci := 10) (v := .int (nI (N 17))) (C := RX12) (T := TX12) (N := 30) hx hb hts iX12 hown hK hP 0 rfl rfl 17 (by decide) (hts _ kw_756) (fun _ h9 => h9) rfl dX12_lookAt_2 ?_
  refine lv_iconst (v := nI 1) hx hb dX12_lookAt_5 (by decide) ?_
  refine n_iadd hx hb dX12_lookAt_6 ?_
  refine va_put (D := E.1) (ci := 10) (v := .int (nI ((N 17) + 1))) (ty := .int) (C := RX12) (T := TX12) (N := 30) hx hb hts iX12 tyX12 tyX12_ok nmX12 hown hK hP hD hS 0 rfl rfl 17 (by decide) (hts _ kw_756) (fun _ h9 => h9) rfl (by decide +kernel) rfl rfl (Nat.le_of_ble_eq_true rfl) dX12_lookAt_7 (fun H locs hP hD hS => ?_)
  have hP : va_P E.1 vwCl (mW E ad lk tr (va_up N 17 ((N 17) + 1)) X F G) H := hP
  have hD : va_D A (mW E ad lk tr (va_up N 17 ((N 17) + 1)) X F G) := hD
  refine lv_aload_n hx hb dX12_lookAt_10 rfl (lv_at hl 0 rfl) ?_
  refine lv_aload_n hx hb dX12_lookAt_11 rfl (lv_at hl 1 rfl) ?_
  refine va_put (D := E.1) (ci := 10) (v := .ref by0) (ty := (.array .int)) (C := RX12) (T := TX12) (N := 30) hx hb hts iX12 tyX12 tyX12_ok nmX12 hown hK hP hD hS 0 rfl rfl 21 (by decide) (hts _ kw_760) (fun _ h9 => h9) rfl (by decide +kernel) rfl rfl (Nat.le_of_ble_eq_true rfl) dX12_lookAt_12 (fun H locs hP hD hS => ?_)
  have hP : va_P E.1 vwCl (mW E ad by0 tr (va_up N 17 ((N 17) + 1)) X F G) H := hP
  have hD : va_D A (mW E ad by0 tr (va_up N 17 ((N 17) + 1)) X F G) := hD
  refine lv_aload_n hx hb dX12_lookAt_15 rfl (lv_at hl 0 rfl) ?_
  refine lv_iload_n hx hb dX12_lookAt_16 rfl (lv_at hl 2 rfl) ?_
  refine va_put (D := E.1) (ci := 10) (v := .int (nI mn)) (ty := .int) (C := RX12) (T := TX12) (N := 30) hx hb hts iX12 tyX12 tyX12_ok nmX12 hown hK hP hD hS 0 rfl rfl 22 (by decide) (hts _ kw_761) (fun _ h9 => h9) rfl (by decide +kernel) rfl rfl (Nat.le_of_ble_eq_true rfl) dX12_lookAt_17 (fun H locs hP hD hS => ?_)
  have hP : va_P E.1 vwCl (mW E ad by0 tr (va_up (va_up N 17 ((N 17) + 1)) 22 mn) X F G) H := hP
  have hD : va_D A (mW E ad by0 tr (va_up (va_up N 17 ((N 17) + 1)) 22 mn) X F G) := hD
  refine lv_aload_n hx hb dX12_lookAt_20 rfl (lv_at hl 0 rfl) ?_
  refine lv_iload_n hx hb dX12_lookAt_21 rfl (lv_at hl 3 rfl) ?_
  refine va_put (D := E.1) (ci := 10) (v := .int (nI rl)) (ty := .int) (C := RX12) (T := TX12) (N := 30) hx hb hts iX12 tyX12 tyX12_ok nmX12 hown hK hP hD hS 0 rfl rfl 23 (by decide) (hts _ kw_762) (fun _ h9 => h9) rfl (by decide +kernel) rfl rfl (Nat.le_of_ble_eq_true rfl) dX12_lookAt_22 (fun H locs hP hD hS => ?_)
  have hP : va_P E.1 vwCl (mW E ad by0 tr (va_up (va_up (va_up N 17 ((N 17) + 1)) 22 mn) 23 rl) X F G) H := hP
  have hD : va_D A (mW E ad by0 tr (va_up (va_up (va_up N 17 ((N 17) + 1)) 22 mn) 23 rl) X F G) := hD
  exact rw_v hC hP hD hS (⟨rfl, rfl⟩) dX12_lookAt_25 (Nat.le_of_ble_eq_true rfl) (Nat.le_of_ble_eq_true rfl)

set_option maxHeartbeats 4000000 in
set_option maxRecDepth 100000 in
theorem c_m_verdictAt (l : Launch) (E : EE) (ad : Nat → Nat) (lk : Nat) (tr : Int32) (N : Nat → Nat) (X : Nat → Nat → Int32) (F G : Nat → Nat → Nat) (pa : Nat) (h1 : pa < 65536) (xa : C4) (hRa : Rp (G 13) (G 14) (F 15) (X 16) pa xa) (sa : SmC xa) : Rd l yX12_verdictAt cX12_verdictAt 2 (some .int) rm_X12_verdictAt E (mW E ad lk tr N X F G) [.ref (ad 0), .int (nI pa)] (some (.int (nI (verd xa)))) := by
  refine mk_rd (by decide) (Nat.le_of_ble_eq_true rfl) ?_
  intro p e s m args below meth c hC hK hP ls hl
  obtain ⟨hx, hb, hr, hts, hown, hml, hlk, hN⟩ := id hC
  have hl : lv_has ls 2 [(0, .ref (ad 0)), (1, .int (nI pa))] := hl
  obtain ⟨ra1, ra2, ra3, ra4⟩ := id hRa
  obtain ⟨sa1, sa2, sa3, sa4⟩ := id sa
  refine lv_aload_n hx hb dX12_verdictAt_0 rfl (lv_at hl 0 rfl) ?_
  refine va_get (D := E.1) (ci := 10) (v := .ref (ad 14)) (C := RX12) (T := TX12) (N := 30) hx hb hts iX12 hown hK hP 0 rfl rfl 14 (by decide) (hts _ kw_753) (fun _ h9 => h9) rfl dX12_verdictAt_1 ?_
  refine lv_iload_n hx hb dX12_verdictAt_4 rfl (lv_at hl 1 rfl) ?_
  refine n_lald hx hb hK hP 10 rfl (by omega) (by decide) dX12_verdictAt_5 ?_
  refine lv_lconst (v := lN 0) hx hb dX12_verdictAt_6 (by decide) ?_
  refine n_lcmp_ne (tgt := 15) hx hb (by omega) (by omega) dX12_verdictAt_7 dX12_verdictAt_8 (by decide) (fun c_1 => ?_) (fun c_1 => ?_)
  · -- t 15
    refine lv_aload_n hx hb dX12_verdictAt_15 rfl (lv_at hl 0 rfl) ?_
    refine va_get (D := E.1) (ci := 10) (v := .ref (ad 14)) (C := RX12) (T := TX12) (N := 30) hx hb hts iX12 hown hK hP 0 rfl rfl 14 (by decide) (hts _ kw_753) (fun _ h9 => h9) rfl dX12_verdictAt_16 ?_
    refine lv_iload_n hx hb dX12_verdictAt_19 rfl (lv_at hl 1 rfl) ?_
    refine n_lald hx hb hK hP 10 rfl (by omega) (by decide) dX12_verdictAt_20 ?_
    refine lv_aload_n hx hb dX12_verdictAt_21 rfl (lv_at hl 0 rfl) ?_
    refine va_get (D := E.1) (ci := 10) (v := .ref (ad 13)) (C := RX12) (T := TX12) (N := 30) hx hb hts iX12 hown hK hP 0 rfl rfl 13 (by decide) (hts _ kw_752) (fun _ h9 => h9) rfl dX12_verdictAt_22 ?_
    refine lv_iload_n hx hb dX12_verdictAt_25 rfl (lv_at hl 1 rfl) ?_
    refine n_lald hx hb hK hP 9 rfl (by omega) (by decide) dX12_verdictAt_26 ?_
    refine n_lcmp_ne (tgt := 35) hx hb (by omega) (by omega) dX12_verdictAt_27 dX12_verdictAt_28 (by decide) (fun c_2 => ?_) (fun c_2 => ?_)
    · -- t 35
      refine lv_iconst (v := nI 1) hx hb dX12_verdictAt_35 (by decide) ?_
      exact rz_iE hC (by rw [verd, if_neg (ra2 ▸ c_1), if_neg (ra1 ▸ ra2 ▸ c_2)]) dX12_verdictAt_36
    · -- f 31
      refine lv_iconst (v := nI 2) hx hb dX12_verdictAt_31 (by decide) ?_
      refine lv_goto (tgt := 36) hx hb dX12_verdictAt_32 (by decide) ?_
      exact rz_iE hC (by rw [verd, if_neg (ra2 ▸ c_1), if_pos (ra1 ▸ ra2 ▸ c_2)]) dX12_verdictAt_36
  · -- f 11
    refine lv_iconst (v := nI 0) hx hb dX12_verdictAt_11 (by decide) ?_
    refine lv_goto (tgt := 36) hx hb dX12_verdictAt_12 (by decide) ?_
    exact rz_iE hC (by rw [verd, if_pos (ra2 ▸ c_1)]) dX12_verdictAt_36
