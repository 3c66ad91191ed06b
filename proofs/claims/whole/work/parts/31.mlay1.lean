set_option maxHeartbeats 4000000 in
set_option maxRecDepth 100000 in
theorem c_m_open (l : Launch) (E : EE) (ad : Nat → Nat) (lk : Nat) (tr : Int32) (N : Nat → Nat) (X : Nat → Nat → Int32) (F G : Nat → Nat → Nat) (sz : Nat) (dp st0 tok0 : Nat) (h1 : dp < 16) (h2 : st0 < 65536) (h3 : tok0 < 16) : Wr l yX12_open cX12_open 5 none rm_X12_open 0 0 E (mW E ad lk tr N X F G) sz [.ref (ad 0), .int (nI dp), .int (nI st0), .int (nI tok0)] (fun v w1 => v = none ∧ w1 = mW E ad lk tr N (va_up X 16 (upd (X 16) (plc st0 tok0) (-1))) (va_up (va_up (va_up (va_up F 18 (va_up (F 18) dp st0)) 19 (va_up (F 19) dp tok0)) 20 (va_up (F 20) dp 0)) 15 (va_up (F 15) (plc st0 tok0) 1000)) (va_up (va_up G 13 (va_up (G 13) (plc st0 tok0) 0)) 14 (va_up (G 14) (plc st0 tok0) 0))) := by
  refine mk_wr (by decide) (Nat.le_of_ble_eq_true rfl) ?_
  intro p e s m args below meth c hC hin hK A hA hP hD hS ls hl
  obtain ⟨hx, hb, hr, hts, hown, hml, hlk, hN⟩ := id hC
  have hl : lv_has ls 5 [(0, .ref (ad 0)), (1, .int (nI dp)), (2, .int (nI st0)), (3, .int (nI tok0))] := hl
  obtain ⟨H, hH⟩ : ∃ z, z = s.heap := ⟨_, rfl⟩
  have hS : va_S A s.heap H [] := by rw [hH]; exact hS
  rw [← hH] at hP
  refine W_heap hH ?_
  obtain ⟨locs, hlo⟩ : ∃ z : List Loc, z = [] := ⟨_, rfl⟩
  rw [← hlo] at hS ⊢
  refine lv_aload_n hx hb dX12_open_0 rfl (lv_at hl 0 rfl) ?_
  refine va_get (D := E.1) (ci := 10) (v := .ref (ad 18)) (C := RX12) (T := TX12) (N := 30) hx hb hts iX12 hown hK hP 0 rfl rfl 18 (by decide) (hts _ kw_757) (fun _ h9 => h9) rfl dX12_open_1 ?_
  refine lv_iload_n hx hb dX12_open_4 rfl (lv_at hl 1 rfl) ?_
  refine lv_iload_n hx hb dX12_open_5 rfl (lv_at hl 2 rfl) ?_
  refine n_iast hx hb hK hP hD hS 13 rfl (by omega) (by decide) dX12_open_6 (fun H locs hP hD hS => ?_)
  have hP : va_P E.1 vwCl (mW E ad lk tr N X (va_up F 18 (va_up (F 18) dp st0)) G) H := hP
  have hD : va_D A (mW E ad lk tr N X (va_up F 18 (va_up (F 18) dp st0)) G) := hD
  refine lv_aload_n hx hb dX12_open_7 rfl (lv_at hl 0 rfl) ?_
  refine va_get (D := E.1) (ci := 10) (v := .ref (ad 19)) (C := RX12) (T := TX12) (N := 30) hx hb hts iX12 hown hK hP 0 rfl rfl 19 (by decide) (hts _ kw_758) (fun _ h9 => h9) rfl dX12_open_8 ?_
  refine lv_iload_n hx hb dX12_open_11 rfl (lv_at hl 1 rfl) ?_
  refine lv_iload_n hx hb dX12_open_12 rfl (lv_at hl 3 rfl) ?_
  refine n_iast hx hb hK hP hD hS 14 rfl (by omega) (by decide) dX12_open_13 (fun H locs hP hD hS => ?_)
  have hP : va_P E.1 vwCl (mW E ad lk tr N X (va_up (va_up F 18 (va_up (F 18) dp st0)) 19 (va_up (F 19) dp tok0)) G) H := hP
  have hD : va_D A (mW E ad lk tr N X (va_up (va_up F 18 (va_up (F 18) dp st0)) 19 (va_up (F 19) dp tok0)) G) := hD
  refine lv_aload_n hx hb dX12_open_14 rfl (lv_at hl 0 rfl) ?_
  refine va_get (D := E.1) (ci := 10) (v := .ref (ad 20)) (C := RX12) (T := TX12) (N := 30) hx hb hts iX12 hown hK hP 0 rfl rfl 20 (by decide) (hts _ kw_759) (fun _ h9 => h9) rfl dX12_open_15 ?_
  refine lv_iload_n hx hb dX12_open_18 rfl (lv_at hl 1 rfl) ?_
  refine lv_iconst (v := nI 0) hx hb dX12_open_19 (by decide) ?_
  refine n_iast hx hb hK hP hD hS 15 rfl (by omega) (by decide) dX12_open_20 (fun H locs hP hD hS => ?_)
  have hP : va_P E.1 vwCl (mW E ad lk tr N X (va_up (va_up (va_up F 18 (va_up (F 18) dp st0)) 19 (va_up (F 19) dp tok0)) 20 (va_up (F 20) dp 0)) G) H := hP
  have hD : va_D A (mW E ad lk tr N X (va_up (va_up (va_up F 18 (va_up (F 18) dp st0)) 19 (va_up (F 19) dp tok0)) 20 (va_up (F 20) dp 0)) G) := hD
  refine lv_iload_n hx hb dX12_open_21 rfl (lv_at hl 2 rfl) ?_
  refine lv_iload_n hx hb dX12_open_22 rfl (lv_at hl 3 rfl) ?_
  refine cS_p (rest := []) hC (c_plc l st0 tok0 (by omega) (by omega)) kw_941 sy_X12_placeOf ⟨Nat.le_of_ble_eq_true rfl, Nat.le_of_ble_eq_true rfl⟩ ⟨rfl, rfl⟩ rfl hl.1 rfl (Nat.le_of_ble_eq_true rfl) dX12_open_23 ⟨Nat.le_of_ble_eq_true rfl, Nat.le_of_ble_eq_true rfl⟩ ?_
  have f_1 := plc_lt st0 tok0
  refine lv_istore (lv' := [(4, .int (nI (plc st0 tok0))), (0, .ref (ad 0)), (1, .int (nI dp)), (2, .int (nI st0)), (3, .int (nI tok0))]) hx hb dX12_open_26 hl (by decide) rfl (fun ls hl => ?_)
  refine lv_aload_n hx hb dX12_open_28 rfl (lv_at hl 1 rfl) ?_
  refine va_get (D := E.1) (ci := 10) (v := .ref (ad 13)) (C := RX12) (T := TX12) (N := 30) hx hb hts iX12 hown hK hP 0 rfl rfl 13 (by decide) (hts _ kw_752) (fun _ h9 => h9) rfl dX12_open_29 ?_
  refine lv_iload hx hb dX12_open_32 (lv_at hl 0 rfl) ?_
  refine lv_lconst (v := lN 0) hx hb dX12_open_34 (by decide) ?_
  refine n_last hx hb hK hP hD hS 9 rfl (by omega) (by decide) dX12_open_35 (fun H locs hP hD hS => ?_)
  have hP : va_P E.1 vwCl (mW E ad lk tr N X (va_up (va_up (va_up F 18 (va_up (F 18) dp st0)) 19 (va_up (F 19) dp tok0)) 20 (va_up (F 20) dp 0)) (va_up G 13 (va_up (G 13) (plc st0 tok0) 0))) H := hP
  have hD : va_D A (mW E ad lk tr N X (va_up (va_up (va_up F 18 (va_up (F 18) dp st0)) 19 (va_up (F 19) dp tok0)) 20 (va_up (F 20) dp 0)) (va_up G 13 (va_up (G 13) (plc st0 tok0) 0))) := hD
  refine lv_aload_n hx hb dX12_open_36 rfl (lv_at hl 1 rfl) ?_
  refine va_get (D := E.1) (ci := 10) (v := .ref (ad 14)) (C := RX12) (T := TX12) (N := 30) hx hb hts iX12 hown hK hP 0 rfl rfl 14 (by decide) (hts _ kw_753) (fun _ h9 => h9) rfl dX12_open_37 ?_
  refine lv_iload hx hb dX12_open_40 (lv_at hl 0 rfl) ?_
  refine lv_lconst (v := lN 0) hx hb dX12_open_42 (by decide) ?_
  refine n_last hx hb hK hP hD hS 10 rfl (by omega) (by decide) dX12_open_43 (fun H locs hP hD hS => ?_)
  have hP : va_P E.1 vwCl (mW E ad lk tr N X (va_up (va_up (va_up F 18 (va_up (F 18) dp st0)) 19 (va_up (F 19) dp tok0)) 20 (va_up (F 20) dp 0)) (va_up (va_up G 13 (va_up (G 13) (plc st0 tok0) 0)) 14 (va_up (G 14) (plc st0 tok0) 0))) H := hP
  have hD : va_D A (mW E ad lk tr N X (va_up (va_up (va_up F 18 (va_up (F 18) dp st0)) 19 (va_up (F 19) dp tok0)) 20 (va_up (F 20) dp 0)) (va_up (va_up G 13 (va_up (G 13) (plc st0 tok0) 0)) 14 (va_up (G 14) (plc st0 tok0) 0))) := hD
  refine lv_aload_n hx hb dX12_open_44 rfl (lv_at hl 1 rfl) ?_
  refine va_get (D := E.1) (ci := 10) (v := .ref (ad 15)) (C := RX12) (T := TX12) (N := 30) hx hb hts iX12 hown hK hP 0 rfl rfl 15 (by decide) (hts _ kw_754) (fun _ h9 => h9) rfl dX12_open_45 ?_
  refine lv_iload hx hb dX12_open_48 (lv_at hl 0 rfl) ?_
  refine lv_sipush (v := nI 1000) hx hb dX12_open_50 (by decide) ?_
  refine n_iast hx hb hK hP hD hS 11 rfl (by omega) (by decide) dX12_open_53 (fun H locs hP hD hS => ?_)
  have hP : va_P E.1 vwCl (mW E ad lk tr N X (va_up (va_up (va_up (va_up F 18 (va_up (F 18) dp st0)) 19 (va_up (F 19) dp tok0)) 20 (va_up (F 20) dp 0)) 15 (va_up (F 15) (plc st0 tok0) 1000)) (va_up (va_up G 13 (va_up (G 13) (plc st0 tok0) 0)) 14 (va_up (G 14) (plc st0 tok0) 0))) H := hP
  have hD : va_D A (mW E ad lk tr N X (va_up (va_up (va_up (va_up F 18 (va_up (F 18) dp st0)) 19 (va_up (F 19) dp tok0)) 20 (va_up (F 20) dp 0)) 15 (va_up (F 15) (plc st0 tok0) 1000)) (va_up (va_up G 13 (va_up (G 13) (plc st0 tok0) 0)) 14 (va_up (G 14) (plc st0 tok0) 0))) := hD
  refine lv_aload_n hx hb dX12_open_54 rfl (lv_at hl 1 rfl) ?_
  refine va_get (D := E.1) (ci := 10) (v := .ref (ad 16)) (C := RX12) (T := TX12) (N := 30) hx hb hts iX12 hown hK hP 0 rfl rfl 16 (by decide) (hts _ kw_755) (fun _ h9 => h9) rfl dX12_open_55 ?_
  refine lv_iload hx hb dX12_open_58 (lv_at hl 0 rfl) ?_
  refine lv_iconst (v := -1) hx hb dX12_open_60 (by decide) ?_
  refine n_iastR hx hb hK hP hD hS 12 rfl (by omega) (by decide) dX12_open_61 (fun H locs hP hD hS => ?_)
  have hP : va_P E.1 vwCl (mW E ad lk tr N (va_up X 16 (upd (X 16) (plc st0 tok0) (-1))) (va_up (va_up (va_up (va_up F 18 (va_up (F 18) dp st0)) 19 (va_up (F 19) dp tok0)) 20 (va_up (F 20) dp 0)) 15 (va_up (F 15) (plc st0 tok0) 1000)) (va_up (va_up G 13 (va_up (G 13) (plc st0 tok0) 0)) 14 (va_up (G 14) (plc st0 tok0) 0))) H := hP
  have hD : va_D A (mW E ad lk tr N (va_up X 16 (upd (X 16) (plc st0 tok0) (-1))) (va_up (va_up (va_up (va_up F 18 (va_up (F 18) dp st0)) 19 (va_up (F 19) dp tok0)) 20 (va_up (F 20) dp 0)) 15 (va_up (F 15) (plc st0 tok0) 1000)) (va_up (va_up G 13 (va_up (G 13) (plc st0 tok0) 0)) 14 (va_up (G 14) (plc st0 tok0) 0))) := hD
  exact rw_v hC hP hD hS (⟨rfl, rfl⟩) dX12_open_62 (Nat.le_of_ble_eq_true rfl) (Nat.le_of_ble_eq_true rfl)

set_option maxHeartbeats 4000000 in
set_option maxRecDepth 100000 in
theorem c_m_add (l : Launch) (E : EE) (ad : Nat → Nat) (lk : Nat) (tr : Int32) (N : Nat → Nat) (X : Nat → Nat → Int32) (F G : Nat → Nat → Nat) (sz : Nat) (pa pb : Nat) (h1 : pa < 65536) (h2 : pb < 65536) (hab : pa ≠ pb) (xa xb : C4) (hRa : Rp (G 13) (G 14) (F 15) (X 16) pa xa) (hRb : Rp (G 13) (G 14) (F 15) (X 16) pb xb) (sa : SmC xa) (sb : SmC xb) : Wr l yX12_add cX12_add 3 none rm_X12_add 0 0 E (mW E ad lk tr N X F G) sz [.ref (ad 0), .int (nI pa), .int (nI pb)] (fun v w1 => v = none ∧ ∃ (g13 g14 f15 : Nat → Nat) (x16 : Nat → Int32), w1 = mW E ad lk tr N (va_up X 16 x16) (va_up F 15 f15) (va_up (va_up G 13 g13) 14 g14) ∧ Rp g13 g14 f15 x16 pa (addC xa xb) ∧ ∀ j, j ≠ pa → g13 j = G 13 j ∧ g14 j = G 14 j ∧ f15 j = F 15 j ∧ x16 j = X 16 j) := by
  refine mk_wr (by decide) (Nat.le_of_ble_eq_true rfl) ?_
  intro p e s m args below meth c hC hin hK A hA hP hD hS ls hl
  obtain ⟨hx, hb, hr, hts, hown, hml, hlk, hN⟩ := id hC
  have hl : lv_has ls 3 [(0, .ref (ad 0)), (1, .int (nI pa)), (2, .int (nI pb))] := hl
  obtain ⟨ra1, ra2, ra3, ra4⟩ := id hRa
  obtain ⟨rb1, rb2, rb3, rb4⟩ := id hRb
  obtain ⟨sa1, sa2, sa3, sa4⟩ := id sa
  obtain ⟨sb1, sb2, sb3, sb4⟩ := id sb
  have hba := hab.symm
  obtain ⟨H, hH⟩ : ∃ z, z = s.heap := ⟨_, rfl⟩
  have hS : va_S A s.heap H [] := by rw [hH]; exact hS
  rw [← hH] at hP
  refine W_heap hH ?_
  obtain ⟨locs, hlo⟩ : ∃ z : List Loc, z = [] := ⟨_, rfl⟩
  rw [← hlo] at hS ⊢
  refine lv_aload_n hx hb dX12_add_0 rfl (lv_at hl 0 rfl) ?_
  refine va_get (D := E.1) (ci := 10) (v := .ref (ad 13)) (C := RX12) (T := TX12) (N := 30) hx hb hts iX12 hown hK hP 0 rfl rfl 13 (by decide) (hts _ kw_752) (fun _ h9 => h9) rfl dX12_add_1 ?_
  refine lv_iload_n hx hb dX12_add_4 rfl (lv_at hl 1 rfl) ?_
  refine lv_dup2_11 hx hb dX12_add_5 rfl rfl ?_
  refine n_lald hx hb hK hP 9 rfl (by omega) (by decide) dX12_add_6 ?_
  refine lv_aload_n hx hb dX12_add_7 rfl (lv_at hl 0 rfl) ?_
  refine va_get (D := E.1) (ci := 10) (v := .ref (ad 13)) (C := RX12) (T := TX12) (N := 30) hx hb hts iX12 hown hK hP 0 rfl rfl 13 (by decide) (hts _ kw_752) (fun _ h9 => h9) rfl dX12_add_8 ?_
  refine lv_iload_n hx hb dX12_add_11 rfl (lv_at hl 2 rfl) ?_
  refine n_lald hx hb hK hP 9 rfl (by omega) (by decide) dX12_add_12 ?_
  refine n_ladd hx hb dX12_add_13 ?_
  refine n_last hx hb hK hP hD hS 9 rfl (by omega) (by decide) dX12_add_14 (fun H locs hP hD hS => ?_)
  have hP : va_P E.1 vwCl (mW E ad lk tr N X F (va_up G 13 (va_up (G 13) pa (((G 13) pa) + ((G 13) pb))))) H := hP
  have hD : va_D A (mW E ad lk tr N X F (va_up G 13 (va_up (G 13) pa (((G 13) pa) + ((G 13) pb))))) := hD
  refine lv_aload_n hx hb dX12_add_15 rfl (lv_at hl 0 rfl) ?_
  refine va_get (D := E.1) (ci := 10) (v := .ref (ad 14)) (C := RX12) (T := TX12) (N := 30) hx hb hts iX12 hown hK hP 0 rfl rfl 14 (by decide) (hts _ kw_753) (fun _ h9 => h9) rfl dX12_add_16 ?_
  refine lv_iload_n hx hb dX12_add_19 rfl (lv_at hl 1 rfl) ?_
  refine lv_dup2_11 hx hb dX12_add_20 rfl rfl ?_
  refine n_lald hx hb hK hP 10 rfl (by omega) (by decide) dX12_add_21 ?_
  refine lv_aload_n hx hb dX12_add_22 rfl (lv_at hl 0 rfl) ?_
  refine va_get (D := E.1) (ci := 10) (v := .ref (ad 14)) (C := RX12) (T := TX12) (N := 30) hx hb hts iX12 hown hK hP 0 rfl rfl 14 (by decide) (hts _ kw_753) (fun _ h9 => h9) rfl dX12_add_23 ?_
  refine lv_iload_n hx hb dX12_add_26 rfl (lv_at hl 2 rfl) ?_
  refine n_lald hx hb hK hP 10 rfl (by omega) (by decide) dX12_add_27 ?_
  refine n_ladd hx hb dX12_add_28 ?_
  refine n_last hx hb hK hP hD hS 10 rfl (by omega) (by decide) dX12_add_29 (fun H locs hP hD hS => ?_)
  have hP : va_P E.1 vwCl (mW E ad lk tr N X F (va_up (va_up G 13 (va_up (G 13) pa (((G 13) pa) + ((G 13) pb)))) 14 (va_up (G 14) pa (((G 14) pa) + ((G 14) pb))))) H := hP
  have hD : va_D A (mW E ad lk tr N X F (va_up (va_up G 13 (va_up (G 13) pa (((G 13) pa) + ((G 13) pb)))) 14 (va_up (G 14) pa (((G 14) pa) + ((G 14) pb))))) := hD
  refine lv_aload_n hx hb dX12_add_30 rfl (lv_at hl 0 rfl) ?_
  refine va_get (D := E.1) (ci := 10) (v := .ref (ad 14)) (C := RX12) (T := TX12) (N := 30) hx hb hts iX12 hown hK hP 0 rfl rfl 14 (by decide) (hts _ kw_753) (fun _ h9 => h9) rfl dX12_add_31 ?_
  refine lv_iload_n hx hb dX12_add_34 rfl (lv_at hl 2 rfl) ?_
  refine n_lald hx hb hK hP 10 rfl (by omega) (by decide) dX12_add_35 ?_
  refine top_l (congrArg lN (vu_n _ _ hba)) ?_
  refine lv_lconst (v := lN 0) hx hb dX12_add_36 (by decide) ?_
  refine n_lcmp_le (tgt := 121) hx hb (by omega) (by omega) dX12_add_37 dX12_add_38 (by decide) (fun c_1 => ?_) (fun c_1 => ?_)
  · -- t 121
    exact rw_v hC hP hD hS (⟨rfl, (va_up (G 13) pa (((G 13) pa) + ((G 13) pb))), (va_up (G 14) pa (((G 14) pa) + ((G 14) pb))), (F 15), (X 16), rfl, ⟨by rw [vu_s, ra1, rb1]; rfl, by rw [vu_s, ra2, rb2]; rfl, by rw [ra3]; simp only [addC]; rw [if_neg (by omega)], by rw [ra4]; simp only [addC]; rw [if_neg (by omega)]⟩, fun j hj => ⟨vu_n _ _ hj, vu_n _ _ hj, rfl, rfl⟩⟩) dX12_add_121 (Nat.le_of_ble_eq_true rfl) (Nat.le_of_ble_eq_true rfl)
  · -- f 41
    refine lv_aload_n hx hb dX12_add_41 rfl (lv_at hl 0 rfl) ?_
    refine va_get (D := E.1) (ci := 10) (v := .ref (ad 15)) (C := RX12) (T := TX12) (N := 30) hx hb hts iX12 hown hK hP 0 rfl rfl 15 (by decide) (hts _ kw_754) (fun _ h9 => h9) rfl dX12_add_42 ?_
    refine lv_iload_n hx hb dX12_add_45 rfl (lv_at hl 1 rfl) ?_
    refine lv_aload_n hx hb dX12_add_46 rfl (lv_at hl 0 rfl) ?_
    refine va_get (D := E.1) (ci := 10) (v := .ref (ad 15)) (C := RX12) (T := TX12) (N := 30) hx hb hts iX12 hown hK hP 0 rfl rfl 15 (by decide) (hts _ kw_754) (fun _ h9 => h9) rfl dX12_add_47 ?_
    refine lv_iload_n hx hb dX12_add_50 rfl (lv_at hl 2 rfl) ?_
    refine n_iald hx hb hK hP 11 rfl (by omega) (by decide) dX12_add_51 ?_
    refine lv_iconst (v := nI 1) hx hb dX12_add_52 (by decide) ?_
    refine n_iadd hx hb dX12_add_53 ?_
    refine lv_aload_n hx hb dX12_add_54 rfl (lv_at hl 0 rfl) ?_
    refine va_get (D := E.1) (ci := 10) (v := .ref (ad 15)) (C := RX12) (T := TX12) (N := 30) hx hb hts iX12 hown hK hP 0 rfl rfl 15 (by decide) (hts _ kw_754) (fun _ h9 => h9) rfl dX12_add_55 ?_
    refine lv_iload_n hx hb dX12_add_58 rfl (lv_at hl 1 rfl) ?_
    refine n_iald hx hb hK hP 11 rfl (by omega) (by decide) dX12_add_59 ?_
    refine n_icmp_ge (tgt := 74) hx hb (by omega) (by omega) dX12_add_60 (by decide) (fun c_2 => ?_) (fun c_2 => ?_)
    · -- t 74
      refine lv_aload_n hx hb dX12_add_74 rfl (lv_at hl 0 rfl) ?_
      refine va_get (D := E.1) (ci := 10) (v := .ref (ad 15)) (C := RX12) (T := TX12) (N := 30) hx hb hts iX12 hown hK hP 0 rfl rfl 15 (by decide) (hts _ kw_754) (fun _ h9 => h9) rfl dX12_add_75 ?_
      refine lv_iload_n hx hb dX12_add_78 rfl (lv_at hl 1 rfl) ?_
      refine n_iald hx hb hK hP 11 rfl (by omega) (by decide) dX12_add_79 ?_
      refine n_iast hx hb hK hP hD hS 11 rfl (by omega) (by decide) dX12_add_80 (fun H locs hP hD hS => ?_)
      have hP : va_P E.1 vwCl (mW E ad lk tr N X (va_up F 15 (va_up (F 15) pa ((F 15) pa))) (va_up (va_up G 13 (va_up (G 13) pa (((G 13) pa) + ((G 13) pb)))) 14 (va_up (G 14) pa (((G 14) pa) + ((G 14) pb))))) H := hP
      have hD : va_D A (mW E ad lk tr N X (va_up F 15 (va_up (F 15) pa ((F 15) pa))) (va_up (va_up G 13 (va_up (G 13) pa (((G 13) pa) + ((G 13) pb)))) 14 (va_up (G 14) pa (((G 14) pa) + ((G 14) pb))))) := hD
      refine lv_aload_n hx hb dX12_add_81 rfl (lv_at hl 0 rfl) ?_
      refine va_get (D := E.1) (ci := 10) (v := .ref (ad 16)) (C := RX12) (T := TX12) (N := 30) hx hb hts iX12 hown hK hP 0 rfl rfl 16 (by decide) (hts _ kw_755) (fun _ h9 => h9) rfl dX12_add_82 ?_
      refine lv_iload_n hx hb dX12_add_85 rfl (lv_at hl 1 rfl) ?_
      refine lv_aload_n hx hb dX12_add_86 rfl (lv_at hl 0 rfl) ?_
      refine va_get (D := E.1) (ci := 10) (v := .ref (ad 16)) (C := RX12) (T := TX12) (N := 30) hx hb hts iX12 hown hK hP 0 rfl rfl 16 (by decide) (hts _ kw_755) (fun _ h9 => h9) rfl dX12_add_87 ?_
      refine lv_iload_n hx hb dX12_add_90 rfl (lv_at hl 2 rfl) ?_
      refine n_iald hx hb hK hP 12 rfl (by omega) (by decide) dX12_add_91 ?_
      refine lv_iconst (v := nI 1) hx hb dX12_add_92 (by decide) ?_
      refine lv_iadd hx hb dX12_add_93 ?_
      refine lv_aload_n hx hb dX12_add_94 rfl (lv_at hl 0 rfl) ?_
      refine va_get (D := E.1) (ci := 10) (v := .ref (ad 16)) (C := RX12) (T := TX12) (N := 30) hx hb hts iX12 hown hK hP 0 rfl rfl 16 (by decide) (hts _ kw_755) (fun _ h9 => h9) rfl dX12_add_95 ?_
      refine lv_iload_n hx hb dX12_add_98 rfl (lv_at hl 1 rfl) ?_
      refine n_iald hx hb hK hP 12 rfl (by omega) (by decide) dX12_add_99 ?_
      refine lv_icmp_le (tgt := 114) hx hb dX12_add_100 (by decide) (fun c_3 => ?_) (fun c_3 => ?_)
      · -- t 114
        have c_3n : xb.2.2.2 < xa.2.2.2 := by
          have h9 := c_3
          rw [rb4, ra4, mm_1, mm_le (by omega) (by omega)] at h9
          exact h9
        refine lv_aload_n hx hb dX12_add_114 rfl (lv_at hl 0 rfl) ?_
        refine va_get (D := E.1) (ci := 10) (v := .ref (ad 16)) (C := RX12) (T := TX12) (N := 30) hx hb hts iX12 hown hK hP 0 rfl rfl 16 (by decide) (hts _ kw_755) (fun _ h9 => h9) rfl dX12_add_115 ?_
        refine lv_iload_n hx hb dX12_add_118 rfl (lv_at hl 1 rfl) ?_
        refine n_iald hx hb hK hP 12 rfl (by omega) (by decide) dX12_add_119 ?_
        refine n_iastR hx hb hK hP hD hS 12 rfl (by omega) (by decide) dX12_add_120 (fun H locs hP hD hS => ?_)
        have hP : va_P E.1 vwCl (mW E ad lk tr N (va_up X 16 (upd (X 16) pa ((X 16) pa))) (va_up F 15 (va_up (F 15) pa ((F 15) pa))) (va_up (va_up G 13 (va_up (G 13) pa (((G 13) pa) + ((G 13) pb)))) 14 (va_up (G 14) pa (((G 14) pa) + ((G 14) pb))))) H := hP
        have hD : va_D A (mW E ad lk tr N (va_up X 16 (upd (X 16) pa ((X 16) pa))) (va_up F 15 (va_up (F 15) pa ((F 15) pa))) (va_up (va_up G 13 (va_up (G 13) pa (((G 13) pa) + ((G 13) pb)))) 14 (va_up (G 14) pa (((G 14) pa) + ((G 14) pb))))) := hD
        exact rw_v hC hP hD hS (⟨rfl, (va_up (G 13) pa (((G 13) pa) + ((G 13) pb))), (va_up (G 14) pa (((G 14) pa) + ((G 14) pb))), (va_up (F 15) pa ((F 15) pa)), (upd (X 16) pa ((X 16) pa)), rfl, ⟨by rw [vu_s, ra1, rb1]; rfl, by rw [vu_s, ra2, rb2]; rfl, by rw [vu_s, ra3]; simp only [addC]; rw [if_pos (by omega), if_neg (by omega)], by rw [ud_s, ra4]; simp only [addC]; rw [if_pos (by omega), if_neg (show ¬ xa.2.2.2 < xb.2.2.2 + 1 by omega)]⟩, fun j hj => ⟨vu_n _ _ hj, vu_n _ _ hj, vu_n _ _ hj, ud_n _ _ hj⟩⟩) dX12_add_121 (Nat.le_of_ble_eq_true rfl) (Nat.le_of_ble_eq_true rfl)
      · -- f 103
        have c_3n : ¬ xb.2.2.2 < xa.2.2.2 := by
          have h9 := c_3
          rw [rb4, ra4, mm_1, mm_le (by omega) (by omega)] at h9
          exact h9
        refine lv_aload_n hx hb dX12_add_103 rfl (lv_at hl 0 rfl) ?_
        refine va_get (D := E.1) (ci := 10) (v := .ref (ad 16)) (C := RX12) (T := TX12) (N := 30) hx hb hts iX12 hown hK hP 0 rfl rfl 16 (by decide) (hts _ kw_755) (fun _ h9 => h9) rfl dX12_add_104 ?_
        refine lv_iload_n hx hb dX12_add_107 rfl (lv_at hl 2 rfl) ?_
        refine n_iald hx hb hK hP 12 rfl (by omega) (by decide) dX12_add_108 ?_
        refine lv_iconst (v := nI 1) hx hb dX12_add_109 (by decide) ?_
        refine lv_iadd hx hb dX12_add_110 ?_
        refine lv_goto (tgt := 120) hx hb dX12_add_111 (by decide) ?_
        refine n_iastR hx hb hK hP hD hS 12 rfl (by omega) (by decide) dX12_add_120 (fun H locs hP hD hS => ?_)
        have hP : va_P E.1 vwCl (mW E ad lk tr N (va_up X 16 (upd (X 16) pa (((X 16) pb) + (nI 1)))) (va_up F 15 (va_up (F 15) pa ((F 15) pa))) (va_up (va_up G 13 (va_up (G 13) pa (((G 13) pa) + ((G 13) pb)))) 14 (va_up (G 14) pa (((G 14) pa) + ((G 14) pb))))) H := hP
        have hD : va_D A (mW E ad lk tr N (va_up X 16 (upd (X 16) pa (((X 16) pb) + (nI 1)))) (va_up F 15 (va_up (F 15) pa ((F 15) pa))) (va_up (va_up G 13 (va_up (G 13) pa (((G 13) pa) + ((G 13) pb)))) 14 (va_up (G 14) pa (((G 14) pa) + ((G 14) pb))))) := hD
        exact rw_v hC hP hD hS (⟨rfl, (va_up (G 13) pa (((G 13) pa) + ((G 13) pb))), (va_up (G 14) pa (((G 14) pa) + ((G 14) pb))), (va_up (F 15) pa ((F 15) pa)), (upd (X 16) pa (((X 16) pb) + (nI 1))), rfl, ⟨by rw [vu_s, ra1, rb1]; rfl, by rw [vu_s, ra2, rb2]; rfl, by rw [vu_s, ra3]; simp only [addC]; rw [if_pos (by omega), if_neg (by omega)], by rw [ud_s]; simp only [addC]; rw [if_pos (by omega), if_pos (show xa.2.2.2 < xb.2.2.2 + 1 by omega), rb4, mm_1]; exact (pk_m1 _).symm⟩, fun j hj => ⟨vu_n _ _ hj, vu_n _ _ hj, vu_n _ _ hj, ud_n _ _ hj⟩⟩) dX12_add_121 (Nat.le_of_ble_eq_true rfl) (Nat.le_of_ble_eq_true rfl)
    · -- f 63
      refine lv_aload_n hx hb dX12_add_63 rfl (lv_at hl 0 rfl) ?_
      refine va_get (D := E.1) (ci := 10) (v := .ref (ad 15)) (C := RX12) (T := TX12) (N := 30) hx hb hts iX12 hown hK hP 0 rfl rfl 15 (by decide) (hts _ kw_754) (fun _ h9 => h9) rfl dX12_add_64 ?_
      refine lv_iload_n hx hb dX12_add_67 rfl (lv_at hl 2 rfl) ?_
      refine n_iald hx hb hK hP 11 rfl (by omega) (by decide) dX12_add_68 ?_
      refine lv_iconst (v := nI 1) hx hb dX12_add_69 (by decide) ?_
      refine n_iadd hx hb dX12_add_70 ?_
      refine lv_goto (tgt := 80) hx hb dX12_add_71 (by decide) ?_
      refine n_iast hx hb hK hP hD hS 11 rfl (by omega) (by decide) dX12_add_80 (fun H locs hP hD hS => ?_)
      have hP : va_P E.1 vwCl (mW E ad lk tr N X (va_up F 15 (va_up (F 15) pa (((F 15) pb) + 1))) (va_up (va_up G 13 (va_up (G 13) pa (((G 13) pa) + ((G 13) pb)))) 14 (va_up (G 14) pa (((G 14) pa) + ((G 14) pb))))) H := hP
      have hD : va_D A (mW E ad lk tr N X (va_up F 15 (va_up (F 15) pa (((F 15) pb) + 1))) (va_up (va_up G 13 (va_up (G 13) pa (((G 13) pa) + ((G 13) pb)))) 14 (va_up (G 14) pa (((G 14) pa) + ((G 14) pb))))) := hD
      refine lv_aload_n hx hb dX12_add_81 rfl (lv_at hl 0 rfl) ?_
      refine va_get (D := E.1) (ci := 10) (v := .ref (ad 16)) (C := RX12) (T := TX12) (N := 30) hx hb hts iX12 hown hK hP 0 rfl rfl 16 (by decide) (hts _ kw_755) (fun _ h9 => h9) rfl dX12_add_82 ?_
      refine lv_iload_n hx hb dX12_add_85 rfl (lv_at hl 1 rfl) ?_
      refine lv_aload_n hx hb dX12_add_86 rfl (lv_at hl 0 rfl) ?_
      refine va_get (D := E.1) (ci := 10) (v := .ref (ad 16)) (C := RX12) (T := TX12) (N := 30) hx hb hts iX12 hown hK hP 0 rfl rfl 16 (by decide) (hts _ kw_755) (fun _ h9 => h9) rfl dX12_add_87 ?_
      refine lv_iload_n hx hb dX12_add_90 rfl (lv_at hl 2 rfl) ?_
      refine n_iald hx hb hK hP 12 rfl (by omega) (by decide) dX12_add_91 ?_
      refine lv_iconst (v := nI 1) hx hb dX12_add_92 (by decide) ?_
      refine lv_iadd hx hb dX12_add_93 ?_
      refine lv_aload_n hx hb dX12_add_94 rfl (lv_at hl 0 rfl) ?_
      refine va_get (D := E.1) (ci := 10) (v := .ref (ad 16)) (C := RX12) (T := TX12) (N := 30) hx hb hts iX12 hown hK hP 0 rfl rfl 16 (by decide) (hts _ kw_755) (fun _ h9 => h9) rfl dX12_add_95 ?_
      refine lv_iload_n hx hb dX12_add_98 rfl (lv_at hl 1 rfl) ?_
      refine n_iald hx hb hK hP 12 rfl (by omega) (by decide) dX12_add_99 ?_
      refine lv_icmp_le (tgt := 114) hx hb dX12_add_100 (by decide) (fun c_4 => ?_) (fun c_4 => ?_)
      · -- t 114
        have c_4n : xb.2.2.2 < xa.2.2.2 := by
          have h9 := c_4
          rw [rb4, ra4, mm_1, mm_le (by omega) (by omega)] at h9
          exact h9
        refine lv_aload_n hx hb dX12_add_114 rfl (lv_at hl 0 rfl) ?_
        refine va_get (D := E.1) (ci := 10) (v := .ref (ad 16)) (C := RX12) (T := TX12) (N := 30) hx hb hts iX12 hown hK hP 0 rfl rfl 16 (by decide) (hts _ kw_755) (fun _ h9 => h9) rfl dX12_add_115 ?_
        refine lv_iload_n hx hb dX12_add_118 rfl (lv_at hl 1 rfl) ?_
        refine n_iald hx hb hK hP 12 rfl (by omega) (by decide) dX12_add_119 ?_
        refine n_iastR hx hb hK hP hD hS 12 rfl (by omega) (by decide) dX12_add_120 (fun H locs hP hD hS => ?_)
        have hP : va_P E.1 vwCl (mW E ad lk tr N (va_up X 16 (upd (X 16) pa ((X 16) pa))) (va_up F 15 (va_up (F 15) pa (((F 15) pb) + 1))) (va_up (va_up G 13 (va_up (G 13) pa (((G 13) pa) + ((G 13) pb)))) 14 (va_up (G 14) pa (((G 14) pa) + ((G 14) pb))))) H := hP
        have hD : va_D A (mW E ad lk tr N (va_up X 16 (upd (X 16) pa ((X 16) pa))) (va_up F 15 (va_up (F 15) pa (((F 15) pb) + 1))) (va_up (va_up G 13 (va_up (G 13) pa (((G 13) pa) + ((G 13) pb)))) 14 (va_up (G 14) pa (((G 14) pa) + ((G 14) pb))))) := hD
        exact rw_v hC hP hD hS (⟨rfl, (va_up (G 13) pa (((G 13) pa) + ((G 13) pb))), (va_up (G 14) pa (((G 14) pa) + ((G 14) pb))), (va_up (F 15) pa (((F 15) pb) + 1)), (upd (X 16) pa ((X 16) pa)), rfl, ⟨by rw [vu_s, ra1, rb1]; rfl, by rw [vu_s, ra2, rb2]; rfl, by rw [vu_s]; simp only [addC]; rw [if_pos (by omega), if_pos (by omega), rb3], by rw [ud_s, ra4]; simp only [addC]; rw [if_pos (by omega), if_neg (show ¬ xa.2.2.2 < xb.2.2.2 + 1 by omega)]⟩, fun j hj => ⟨vu_n _ _ hj, vu_n _ _ hj, vu_n _ _ hj, ud_n _ _ hj⟩⟩) dX12_add_121 (Nat.le_of_ble_eq_true rfl) (Nat.le_of_ble_eq_true rfl)
      · -- f 103
        have c_4n : ¬ xb.2.2.2 < xa.2.2.2 := by
          have h9 := c_4
          rw [rb4, ra4, mm_1, mm_le (by omega) (by omega)] at h9
          exact h9
        refine lv_aload_n hx hb dX12_add_103 rfl (lv_at hl 0 rfl) ?_
        refine va_get (D := E.1) (ci := 10) (v := .ref (ad 16)) (C := RX12) (T := TX12) (N := 30) hx hb hts iX12 hown hK hP 0 rfl rfl 16 (by decide) (hts _ kw_755) (fun _ h9 => h9) rfl dX12_add_104 ?_
        refine lv_iload_n hx hb dX12_add_107 rfl (lv_at hl 2 rfl) ?_
        refine n_iald hx hb hK hP 12 rfl (by omega) (by decide) dX12_add_108 ?_
        refine lv_iconst (v := nI 1) hx hb dX12_add_109 (by decide) ?_
        refine lv_iadd hx hb dX12_add_110 ?_
        refine lv_goto (tgt := 120) hx hb dX12_add_111 (by decide) ?_
        refine n_iastR hx hb hK hP hD hS 12 rfl (by omega) (by decide) dX12_add_120 (fun H locs hP hD hS => ?_)
        have hP : va_P E.1 vwCl (mW E ad lk tr N (va_up X 16 (upd (X 16) pa (((X 16) pb) + (nI 1)))) (va_up F 15 (va_up (F 15) pa (((F 15) pb) + 1))) (va_up (va_up G 13 (va_up (G 13) pa (((G 13) pa) + ((G 13) pb)))) 14 (va_up (G 14) pa (((G 14) pa) + ((G 14) pb))))) H := hP
        have hD : va_D A (mW E ad lk tr N (va_up X 16 (upd (X 16) pa (((X 16) pb) + (nI 1)))) (va_up F 15 (va_up (F 15) pa (((F 15) pb) + 1))) (va_up (va_up G 13 (va_up (G 13) pa (((G 13) pa) + ((G 13) pb)))) 14 (va_up (G 14) pa (((G 14) pa) + ((G 14) pb))))) := hD
        exact rw_v hC hP hD hS (⟨rfl, (va_up (G 13) pa (((G 13) pa) + ((G 13) pb))), (va_up (G 14) pa (((G 14) pa) + ((G 14) pb))), (va_up (F 15) pa (((F 15) pb) + 1)), (upd (X 16) pa (((X 16) pb) + (nI 1))), rfl, ⟨by rw [vu_s, ra1, rb1]; rfl, by rw [vu_s, ra2, rb2]; rfl, by rw [vu_s]; simp only [addC]; rw [if_pos (by omega), if_pos (by omega), rb3], by rw [ud_s]; simp only [addC]; rw [if_pos (by omega), if_pos (show xa.2.2.2 < xb.2.2.2 + 1 by omega), rb4, mm_1]; exact (pk_m1 _).symm⟩, fun j hj => ⟨vu_n _ _ hj, vu_n _ _ hj, vu_n _ _ hj, ud_n _ _ hj⟩⟩) dX12_add_121 (Nat.le_of_ble_eq_true rfl) (Nat.le_of_ble_eq_true rfl)
