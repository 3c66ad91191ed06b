set_option maxHeartbeats 4000000 in
set_option maxRecDepth 100000 in
theorem c_m_lay6 (l : Launch) (E : EE) (ad : Nat → Nat) (tr : Int32) (N : Nat → Nat) (X : Nat → Nat → Int32) (F G : Nat → Nat → Nat) (sz st0 tok0 : Nat) (hn22 : N 22 ≤ 4) (hr23 : N 23 < 4) (ht : N 17 < 2 ^ 31) (hnt : ∀ j, F 6 j < 16) (hv : VS (N 22) st0) (htk : tok0 < 16) (hI : LInv (N 22) (N 23) (N 17) (F 6) X F G) (hle : ∀ i, F 12 i ≤ N 17) : Wr l yX12_lay cX12_lay 13 (some .int) rm_X12_lay 0 0 E (mW E ad (ad 6) tr N X F G) sz [.ref (ad 0), .int (nI st0), .int (nI tok0)] (fun v w1 => v = some (.int (nI (plc st0 tok0))) ∧ ∃ (X2 : Nat → Nat → Int32) (F2 G2 : Nat → Nat → Nat), w1 = mW E ad (ad 6) tr N X2 F2 G2 ∧ LInv (N 22) (N 23) (N 17) (F 6) X2 F2 G2 ∧ F2 12 (plc st0 tok0) = N 17 ∧ (∀ i, F2 12 i ≤ N 17) ∧ (∀ j, j ≠ 12 → j ≠ 15 → j ≠ 18 → j ≠ 19 → j ≠ 20 → F2 j = F j) ∧ (∀ j, j ≠ 16 → X2 j = X j) ∧ (∀ j, j ≠ 13 → j ≠ 14 → G2 j = G j)) := by
  refine mk_wr (by decide) (Nat.le_of_ble_eq_true rfl) ?_
  intro p e s m args below meth c hC hin hK A hA hP hD hS ls hl
  obtain ⟨hx, hb, hr, hts, hown, hml, hlk, hN⟩ := id hC
  have hl : lv_has ls 13 [(0, .ref (ad 0)), (1, .int (nI st0)), (2, .int (nI tok0))] := hl
  have hst := VS_lt hn22 hv
  obtain ⟨H, hH⟩ : ∃ z, z = s.heap := ⟨_, rfl⟩
  have hS : va_S A s.heap H [] := by rw [hH]; exact hS
  rw [← hH] at hP
  refine W_heap hH ?_
  obtain ⟨locs, hlo⟩ : ∃ z : List Loc, z = [] := ⟨_, rfl⟩
  rw [← hlo] at hS ⊢
  refine lv_iload_n hx hb dX12_lay_0 rfl (lv_at hl 1 rfl) ?_
  refine lv_iload_n hx hb dX12_lay_1 rfl (lv_at hl 2 rfl) ?_
  refine cS_p (rest := []) hC (c_plc l st0 tok0 (by omega) (by omega)) kw_941 sy_X12_placeOf ⟨Nat.le_of_ble_eq_true rfl, Nat.le_of_ble_eq_true rfl⟩ ⟨rfl, rfl⟩ rfl hl.1 rfl (Nat.le_of_ble_eq_true rfl) dX12_lay_2 ⟨Nat.le_of_ble_eq_true rfl, Nat.le_of_ble_eq_true rfl⟩ ?_
  have f_1 := plc_lt st0 tok0
  refine lv_istore_n (lv' := [(3, .int (nI (plc st0 tok0))), (0, .ref (ad 0)), (1, .int (nI st0)), (2, .int (nI tok0))]) hx hb dX12_lay_5 rfl hl (by decide) rfl (fun ls hl => ?_)
  refine lv_aload_n hx hb dX12_lay_6 rfl (lv_at hl 1 rfl) ?_
  refine va_get (D := E.1) (ci := 10) (v := .ref (ad 12)) (C := RX12) (T := TX12) (N := 30) hx hb hts iX12 hown hK hP 0 rfl rfl 12 (by decide) (hts _ kw_751) (fun _ h9 => h9) rfl dX12_lay_7 ?_
  refine lv_iload_n hx hb dX12_lay_10 rfl (lv_at hl 0 rfl) ?_
  refine n_iald hx hb hK hP 8 rfl (by omega) (by decide) dX12_lay_11 ?_
  have hs9 := hle (plc st0 tok0)
  refine lv_aload_n hx hb dX12_lay_12 rfl (lv_at hl 1 rfl) ?_
  refine va_get (D := E.1) (ci := 10) (v := .int (nI (N 17))) (C := RX12) (T := TX12) (N := 30) hx hb hts iX12 hown hK hP 0 rfl rfl 17 (by decide) (hts _ kw_756) (fun _ h9 => h9) rfl dX12_lay_13 ?_
  refine n_icmp_ne (tgt := 21) hx hb (by omega) (by omega) dX12_lay_16 (by decide) (fun c_2 => ?_) (fun c_2 => ?_)
  · -- t 21
    refine lv_iconst (v := nI 0) hx hb dX12_lay_21 (by decide) ?_
    refine lv_istore (lv' := [(4, .int (nI 0)), (3, .int (nI (plc st0 tok0))), (0, .ref (ad 0)), (1, .int (nI st0)), (2, .int (nI tok0))]) hx hb dX12_lay_22 hl (by decide) rfl (fun ls hl => ?_)
    refine lv_aload_n hx hb dX12_lay_24 rfl (lv_at hl 2 rfl) ?_
    refine lv_iconst (v := nI 0) hx hb dX12_lay_25 (by decide) ?_
    refine lv_iload_n hx hb dX12_lay_26 rfl (lv_at hl 3 rfl) ?_
    refine lv_iload_n hx hb dX12_lay_27 rfl (lv_at hl 4 rfl) ?_
    refine cV_w0 (rest := []) hC (c_m_open l E ad (ad 6) tr N X F G H.size 0 st0 tok0 (by omega) (by omega) (by omega)) kw_945 iy_X12_open ⟨Nat.le_of_ble_eq_true rfl, Nat.le_of_ble_eq_true rfl⟩ ⟨rfl, rfl⟩ hK hP hD hS hA (va_recv hK hP (ci := 10) (q0 := 0) rfl rfl) rfl hl.1 rfl (Nat.le_of_ble_eq_true rfl) dX12_lay_28 ⟨Nat.le_of_ble_eq_true rfl, Nat.le_of_ble_eq_true rfl⟩ (fun v_ w_ H locs hpost hP hD hS => ?_)
    obtain ⟨rfl, rfl⟩ := hpost
    refine W.eq (g2 := F0 m 31 ls []) rfl ?_
    refine lay_sub6 (Q := _) (below := below) hC hK hA ad tr N (F 6) (plc st0 tok0) hn22 hr23 ht hnt (mis (N 22) st0) st0 tok0 0 hv htk (Nat.le_refl _) (by have := mis_le hn22 hv; omega) 16 0 (va_up X 16 (upd (X 16) (plc st0 tok0) (-1))) (va_up (va_up (va_up (va_up F 18 (va_up (F 18) 0 st0)) 19 (va_up (F 19) 0 tok0)) 20 (va_up (F 20) 0 0)) 15 (va_up (F 15) (plc st0 tok0) 1000)) (va_up (va_up G 13 (va_up (G 13) (plc st0 tok0) 0)) 14 (va_up (G 14) (plc st0 tok0) 0)) (by omega) rfl (vu_s (F 18) 0 st0) (vu_s (F 19) 0 tok0) (vu_s (F 20) 0 0) ⟨vu_s (G 13) (plc st0 tok0) 0, vu_s (G 14) (plc st0 tok0) 0, vu_s (F 15) (plc st0 tok0) 1000, (ud_s (X 16) (plc st0 tok0) (-1)).trans (show (-1 : Int32) = nI 0 + (-1) by decide)⟩ (fun i hi => absurd hi (by omega)) c_2 (L_k2 hI c_2 _ _ _) hle (fun X2 F2 G2 a1 a2 a3 a4 H locs hP hD hS ls hl => ?_) H locs hP hD hS ls (lv_sub hl [2, 1, 0] rfl)
    refine lv_iload hx hb dX12_lay_31 (lv_at hl 2 rfl) ?_
    refine lv_if_lt (tgt := 247) hx hb dX12_lay_33 (by decide) (fun c_3 => ?_) (fun c_3 => ?_)
    · -- t 247
      refine lv_iload_n hx hb dX12_lay_247 rfl (lv_at hl 1 rfl) ?_
      exact rw_i hC rfl hP hD hS (⟨rfl, X2, F2, G2, rfl, a1, a3, a4, fun j h1 h2 h3 h4 h5 => (a2.2.2.2.1 j h1 h2 h3 h4 h5).trans ((vu_n _ _ h2).trans ((vu_n _ _ h5).trans ((vu_n _ _ h4).trans (vu_n _ _ h3)))), fun j h => (a2.2.2.2.2.1 j h).trans (vu_n _ _ h), fun j h1 h2 => (a2.2.2.2.2.2 j h1 h2).trans ((vu_n _ _ h2).trans (vu_n _ _ h1))⟩) dX12_lay_248 (Nat.le_of_ble_eq_true rfl) (Nat.le_of_ble_eq_true rfl)
    · -- f 36
      exact absurd (by decide) c_3
  · -- f 19
    refine lv_iload_n hx hb dX12_lay_19 rfl (lv_at hl 0 rfl) ?_
    exact rw_i hC rfl hP hD hS (⟨rfl, X, F, G, rfl, hI, c_2, hle, fun _ _ _ _ _ _ => rfl, fun _ _ => rfl, fun _ _ _ => rfl⟩) dX12_lay_20 (Nat.le_of_ble_eq_true rfl) (Nat.le_of_ble_eq_true rfl)

set_option maxHeartbeats 4000000 in
set_option maxRecDepth 100000 in
theorem c_m_lay28 (l : Launch) (E : EE) (ad : Nat → Nat) (tr : Int32) (N : Nat → Nat) (X : Nat → Nat → Int32) (F G : Nat → Nat → Nat) (sz st0 tok0 : Nat) (hn22 : N 22 ≤ 4) (hr23 : N 23 < 4) (ht : N 17 < 2 ^ 31) (hnt : ∀ j, F 28 j < 16) (hv : VS (N 22) st0) (htk : tok0 < 16) (hI : LInv (N 22) (N 23) (N 17) (F 28) X F G) (hle : ∀ i, F 12 i ≤ N 17) : Wr l yX12_lay cX12_lay 13 (some .int) rm_X12_lay 0 0 E (mW E ad (ad 28) tr N X F G) sz [.ref (ad 0), .int (nI st0), .int (nI tok0)] (fun v w1 => v = some (.int (nI (plc st0 tok0))) ∧ ∃ (X2 : Nat → Nat → Int32) (F2 G2 : Nat → Nat → Nat), w1 = mW E ad (ad 28) tr N X2 F2 G2 ∧ LInv (N 22) (N 23) (N 17) (F 28) X2 F2 G2 ∧ F2 12 (plc st0 tok0) = N 17 ∧ (∀ i, F2 12 i ≤ N 17) ∧ (∀ j, j ≠ 12 → j ≠ 15 → j ≠ 18 → j ≠ 19 → j ≠ 20 → F2 j = F j) ∧ (∀ j, j ≠ 16 → X2 j = X j) ∧ (∀ j, j ≠ 13 → j ≠ 14 → G2 j = G j)) := by
  refine mk_wr (by decide) (Nat.le_of_ble_eq_true rfl) ?_
  intro p e s m args below meth c hC hin hK A hA hP hD hS ls hl
  obtain ⟨hx, hb, hr, hts, hown, hml, hlk, hN⟩ := id hC
  have hl : lv_has ls 13 [(0, .ref (ad 0)), (1, .int (nI st0)), (2, .int (nI tok0))] := hl
  have hst := VS_lt hn22 hv
  obtain ⟨H, hH⟩ : ∃ z, z = s.heap := ⟨_, rfl⟩
  have hS : va_S A s.heap H [] := by rw [hH]; exact hS
  rw [← hH] at hP
  refine W_heap hH ?_
  obtain ⟨locs, hlo⟩ : ∃ z : List Loc, z = [] := ⟨_, rfl⟩
  rw [← hlo] at hS ⊢
  refine lv_iload_n hx hb dX12_lay_0 rfl (lv_at hl 1 rfl) ?_
  refine lv_iload_n hx hb dX12_lay_1 rfl (lv_at hl 2 rfl) ?_
  refine cS_p (rest := []) hC (c_plc l st0 tok0 (by omega) (by omega)) kw_941 sy_X12_placeOf ⟨Nat.le_of_ble_eq_true rfl, Nat.le_of_ble_eq_true rfl⟩ ⟨rfl, rfl⟩ rfl hl.1 rfl (Nat.le_of_ble_eq_true rfl) dX12_lay_2 ⟨Nat.le_of_ble_eq_true rfl, Nat.le_of_ble_eq_true rfl⟩ ?_
  have f_1 := plc_lt st0 tok0
  refine lv_istore_n (lv' := [(3, .int (nI (plc st0 tok0))), (0, .ref (ad 0)), (1, .int (nI st0)), (2, .int (nI tok0))]) hx hb dX12_lay_5 rfl hl (by decide) rfl (fun ls hl => ?_)
  refine lv_aload_n hx hb dX12_lay_6 rfl (lv_at hl 1 rfl) ?_
  refine va_get (D := E.1) (ci := 10) (v := .ref (ad 12)) (C := RX12) (T := TX12) (N := 30) hx hb hts iX12 hown hK hP 0 rfl rfl 12 (by decide) (hts _ kw_751) (fun _ h9 => h9) rfl dX12_lay_7 ?_
  refine lv_iload_n hx hb dX12_lay_10 rfl (lv_at hl 0 rfl) ?_
  refine n_iald hx hb hK hP 8 rfl (by omega) (by decide) dX12_lay_11 ?_
  have hs9 := hle (plc st0 tok0)
  refine lv_aload_n hx hb dX12_lay_12 rfl (lv_at hl 1 rfl) ?_
  refine va_get (D := E.1) (ci := 10) (v := .int (nI (N 17))) (C := RX12) (T := TX12) (N := 30) hx hb hts iX12 hown hK hP 0 rfl rfl 17 (by decide) (hts _ kw_756) (fun _ h9 => h9) rfl dX12_lay_13 ?_
  refine n_icmp_ne (tgt := 21) hx hb (by omega) (by omega) dX12_lay_16 (by decide) (fun c_2 => ?_) (fun c_2 => ?_)
  · -- t 21
    refine lv_iconst (v := nI 0) hx hb dX12_lay_21 (by decide) ?_
    refine lv_istore (lv' := [(4, .int (nI 0)), (3, .int (nI (plc st0 tok0))), (0, .ref (ad 0)), (1, .int (nI st0)), (2, .int (nI tok0))]) hx hb dX12_lay_22 hl (by decide) rfl (fun ls hl => ?_)
    refine lv_aload_n hx hb dX12_lay_24 rfl (lv_at hl 2 rfl) ?_
    refine lv_iconst (v := nI 0) hx hb dX12_lay_25 (by decide) ?_
    refine lv_iload_n hx hb dX12_lay_26 rfl (lv_at hl 3 rfl) ?_
    refine lv_iload_n hx hb dX12_lay_27 rfl (lv_at hl 4 rfl) ?_
    refine cV_w0 (rest := []) hC (c_m_open l E ad (ad 28) tr N X F G H.size 0 st0 tok0 (by omega) (by omega) (by omega)) kw_945 iy_X12_open ⟨Nat.le_of_ble_eq_true rfl, Nat.le_of_ble_eq_true rfl⟩ ⟨rfl, rfl⟩ hK hP hD hS hA (va_recv hK hP (ci := 10) (q0 := 0) rfl rfl) rfl hl.1 rfl (Nat.le_of_ble_eq_true rfl) dX12_lay_28 ⟨Nat.le_of_ble_eq_true rfl, Nat.le_of_ble_eq_true rfl⟩ (fun v_ w_ H locs hpost hP hD hS => ?_)
    obtain ⟨rfl, rfl⟩ := hpost
    refine W.eq (g2 := F0 m 31 ls []) rfl ?_
    refine lay_sub28 (Q := _) (below := below) hC hK hA ad tr N (F 28) (plc st0 tok0) hn22 hr23 ht hnt (mis (N 22) st0) st0 tok0 0 hv htk (Nat.le_refl _) (by have := mis_le hn22 hv; omega) 16 0 (va_up X 16 (upd (X 16) (plc st0 tok0) (-1))) (va_up (va_up (va_up (va_up F 18 (va_up (F 18) 0 st0)) 19 (va_up (F 19) 0 tok0)) 20 (va_up (F 20) 0 0)) 15 (va_up (F 15) (plc st0 tok0) 1000)) (va_up (va_up G 13 (va_up (G 13) (plc st0 tok0) 0)) 14 (va_up (G 14) (plc st0 tok0) 0)) (by omega) rfl (vu_s (F 18) 0 st0) (vu_s (F 19) 0 tok0) (vu_s (F 20) 0 0) ⟨vu_s (G 13) (plc st0 tok0) 0, vu_s (G 14) (plc st0 tok0) 0, vu_s (F 15) (plc st0 tok0) 1000, (ud_s (X 16) (plc st0 tok0) (-1)).trans (show (-1 : Int32) = nI 0 + (-1) by decide)⟩ (fun i hi => absurd hi (by omega)) c_2 (L_k2 hI c_2 _ _ _) hle (fun X2 F2 G2 a1 a2 a3 a4 H locs hP hD hS ls hl => ?_) H locs hP hD hS ls (lv_sub hl [2, 1, 0] rfl)
    refine lv_iload hx hb dX12_lay_31 (lv_at hl 2 rfl) ?_
    refine lv_if_lt (tgt := 247) hx hb dX12_lay_33 (by decide) (fun c_3 => ?_) (fun c_3 => ?_)
    · -- t 247
      refine lv_iload_n hx hb dX12_lay_247 rfl (lv_at hl 1 rfl) ?_
      exact rw_i hC rfl hP hD hS (⟨rfl, X2, F2, G2, rfl, a1, a3, a4, fun j h1 h2 h3 h4 h5 => (a2.2.2.2.1 j h1 h2 h3 h4 h5).trans ((vu_n _ _ h2).trans ((vu_n _ _ h5).trans ((vu_n _ _ h4).trans (vu_n _ _ h3)))), fun j h => (a2.2.2.2.2.1 j h).trans (vu_n _ _ h), fun j h1 h2 => (a2.2.2.2.2.2 j h1 h2).trans ((vu_n _ _ h2).trans (vu_n _ _ h1))⟩) dX12_lay_248 (Nat.le_of_ble_eq_true rfl) (Nat.le_of_ble_eq_true rfl)
    · -- f 36
      exact absurd (by decide) c_3
  · -- f 19
    refine lv_iload_n hx hb dX12_lay_19 rfl (lv_at hl 0 rfl) ?_
    exact rw_i hC rfl hP hD hS (⟨rfl, X, F, G, rfl, hI, c_2, hle, fun _ _ _ _ _ _ => rfl, fun _ _ => rfl, fun _ _ _ => rfl⟩) dX12_lay_20 (Nat.le_of_ble_eq_true rfl) (Nat.le_of_ble_eq_true rfl)

set_option maxHeartbeats 4000000 in
set_option maxRecDepth 100000 in
theorem c_m_layNow (l : Launch) (E : EE) (ad : Nat → Nat) (lk : Nat) (tr : Int32) (N : Nat → Nat) (X : Nat → Nat → Int32) (F G : Nat → Nat → Nat) (sz : Nat) (hM : MOK N F) (hT : TB N F) (h17 : N 17 + 1 < 2 ^ 31) (hcn : CPn N F) (rl : Nat) (h1 : rl < 4) : Wr l yX12_layNow cX12_layNow 2 (some .int) rm_X12_layNow 0 0 E (mW E ad lk tr N X F G) sz [.ref (ad 0), .int (nI rl)] (fun v w1 => v = some (.int (nI (plc (stS (N 5) (F 10) (F 11) (N 9)) (tokS (N 5) rl (F 10) (F 11) (N 9))))) ∧ ∃ (X2 : Nat → Nat → Int32) (F2 G2 : Nat → Nat → Nat), w1 = mW E ad (ad 6) tr (va_up (va_up (va_up N 17 (N 17 + 1)) 22 (N 5)) 23 rl) X2 F2 G2 ∧ LInv (N 5) rl (N 17 + 1) (F 6) X2 F2 G2 ∧ F2 12 (plc (stS (N 5) (F 10) (F 11) (N 9)) (tokS (N 5) rl (F 10) (F 11) (N 9))) = N 17 + 1 ∧ (∀ i, F2 12 i ≤ N 17 + 1) ∧ (∀ j, j ≠ 12 → j ≠ 15 → j ≠ 18 → j ≠ 19 → j ≠ 20 → F2 j = F j) ∧ (∀ j, j ≠ 16 → X2 j = X j) ∧ (∀ j, j ≠ 13 → j ≠ 14 → G2 j = G j)) := by
  refine mk_wr (by decide) (Nat.le_of_ble_eq_true rfl) ?_
  intro p e s m args below meth c hC hin hK A hA hP hD hS ls hl
  obtain ⟨hx, hb, hr, hts, hown, hml, hlk, hN⟩ := id hC
  have hl : lv_has ls 2 [(0, .ref (ad 0)), (1, .int (nI rl))] := hl
  obtain ⟨hM5, hM9, hMp, hMq, hMn⟩ := id hM
  have hn : ∀ j, j < 4 → F 6 j < 16 := fun j _ => hMn j
  have hvs := VS_stS (cP := F 10) (cQ := F 11) hM5 (N 9) hcn
  obtain ⟨H, hH⟩ : ∃ z, z = s.heap := ⟨_, rfl⟩
  have hS : va_S A s.heap H [] := by rw [hH]; exact hS
  rw [← hH] at hP
  refine W_heap hH ?_
  obtain ⟨locs, hlo⟩ : ∃ z : List Loc, z = [] := ⟨_, rfl⟩
  rw [← hlo] at hS ⊢
  refine lv_aload_n hx hb dX12_layNow_0 rfl (lv_at hl 0 rfl) ?_
  refine lv_aload_n hx hb dX12_layNow_1 rfl (lv_at hl 0 rfl) ?_
  refine va_get (D := E.1) (ci := 10) (v := .ref (ad 6)) (C := RX12) (T := TX12) (N := 30) hx hb hts iX12 hown hK hP 0 rfl rfl 6 (by decide) (hts _ kw_745) (fun _ h9 => h9) rfl dX12_layNow_2 ?_
  refine lv_aload_n hx hb dX12_layNow_5 rfl (lv_at hl 0 rfl) ?_
  refine va_get (D := E.1) (ci := 10) (v := .int (nI (N 5))) (C := RX12) (T := TX12) (N := 30) hx hb hts iX12 hown hK hP 0 rfl rfl 5 (by decide) (hts _ kw_744) (fun _ h9 => h9) rfl dX12_layNow_6 ?_
  refine lv_iload_n hx hb dX12_layNow_9 rfl (lv_at hl 1 rfl) ?_
  refine cV_w0 (rest := []) hC (c_m_lookAt l E ad lk tr N X F G H.size (ad 6) (N 5) rl) kw_933 iy_X12_lookAt ⟨Nat.le_of_ble_eq_true rfl, Nat.le_of_ble_eq_true rfl⟩ ⟨rfl, rfl⟩ hK hP hD hS hA (va_recv hK hP (ci := 10) (q0 := 0) rfl rfl) rfl hl.1 rfl (Nat.le_of_ble_eq_true rfl) dX12_layNow_10 ⟨Nat.le_of_ble_eq_true rfl, Nat.le_of_ble_eq_true rfl⟩ (fun v_ w_ H locs hpost hP hD hS => ?_)
  obtain ⟨rfl, rfl⟩ := hpost
  refine W.eq (g2 := F0 m 13 ls []) rfl ?_
  refine lv_aload_n hx hb dX12_layNow_13 rfl (lv_at hl 0 rfl) ?_
  refine lv_aload_n hx hb dX12_layNow_14 rfl (lv_at hl 0 rfl) ?_
  refine lv_aload_n hx hb dX12_layNow_15 rfl (lv_at hl 0 rfl) ?_
  refine va_get (D := E.1) (ci := 10) (v := .int (nI (N 9))) (C := RX12) (T := TX12) (N := 30) hx hb hts iX12 hown hK hP 0 rfl rfl 9 (by decide) (hts _ kw_748) (fun _ h9 => h9) rfl dX12_layNow_16 ?_
  refine cV_r (rest := [.ref (ad 0)]) hC (c_m_stateAt l E ad (ad 6) tr (va_up (va_up (va_up N 17 ((N 17) + 1)) 22 (N 5)) 23 rl) X F G hM (N 9) (by omega)) kw_862 iy_X12_stateAt ⟨Nat.le_of_ble_eq_true rfl, Nat.le_of_ble_eq_true rfl⟩ ⟨rfl, rfl⟩ hK hP (va_recv hK hP (ci := 10) (q0 := 0) rfl rfl) rfl hl.1 rfl (Nat.le_of_ble_eq_true rfl) dX12_layNow_19 ⟨Nat.le_of_ble_eq_true rfl, Nat.le_of_ble_eq_true rfl⟩ ?_
  refine W.eq (g2 := F0 m 22 ls [.int (nI (stS (N 5) (F 10) (F 11) (N 9))), .ref (ad 0)]) rfl ?_
  have f_1 := stS_lt (n := N 5) hMp hMq (N 9)
  refine lv_aload_n hx hb dX12_layNow_22 rfl (lv_at hl 0 rfl) ?_
  refine lv_iload_n hx hb dX12_layNow_23 rfl (lv_at hl 1 rfl) ?_
  refine cV_r (rest := [.int (nI (stS (N 5) (F 10) (F 11) (N 9))), .ref (ad 0)]) hC (c_m_tokensNow l E ad (ad 6) tr (va_up (va_up (va_up N 17 ((N 17) + 1)) 22 (N 5)) 23 rl) X F G hM rl (by omega)) kw_880 iy_X12_tokensNow ⟨Nat.le_of_ble_eq_true rfl, Nat.le_of_ble_eq_true rfl⟩ ⟨rfl, rfl⟩ hK hP (va_recv hK hP (ci := 10) (q0 := 0) rfl rfl) rfl hl.1 rfl (Nat.le_of_ble_eq_true rfl) dX12_layNow_24 ⟨Nat.le_of_ble_eq_true rfl, Nat.le_of_ble_eq_true rfl⟩ ?_
  refine W.eq (g2 := F0 m 27 ls [.int (nI (tokS (N 5) rl (F 10) (F 11) (N 9))), .int (nI (stS (N 5) (F 10) (F 11) (N 9))), .ref (ad 0)]) rfl ?_
  have f_2 := tokS_lt (n := N 5) (r := rl) (cP := F 10) (by omega) hMq (N 9)
  refine cV_w0 (rest := []) hC (c_m_lay6 l E ad tr (va_up (va_up (va_up N 17 ((N 17) + 1)) 22 (N 5)) 23 rl) X F G H.size (stS (N 5) (F 10) (F 11) (N 9)) (tokS (N 5) rl (F 10) (F 11) (N 9)) (show N 5 ≤ 4 by omega) (show rl < 4 by omega) (show (N 17) + 1 < 2 ^ 31 by omega) hMn hvs (by omega) (LInv_new (fun i => Nat.ne_of_lt (Nat.lt_succ_of_le (hT.1 i)))) (fun i => Nat.le_succ_of_le (hT.1 i))) kw_937 iy_X12_lay ⟨Nat.le_of_ble_eq_true rfl, Nat.le_of_ble_eq_true rfl⟩ ⟨rfl, rfl⟩ hK hP hD hS hA (va_recv hK hP (ci := 10) (q0 := 0) rfl rfl) rfl hl.1 rfl (Nat.le_of_ble_eq_true rfl) dX12_layNow_27 ⟨Nat.le_of_ble_eq_true rfl, Nat.le_of_ble_eq_true rfl⟩ (fun v_ w_ H locs hpost hP hD hS => ?_)
  obtain ⟨rfl, X2, F2, G2, rfl, hI2, hs2, hle2, hf1, hf2, hf3⟩ := hpost
  refine W.eq (g2 := F0 m 30 ls [.int (nI (plc (stS (N 5) (F 10) (F 11) (N 9)) (tokS (N 5) rl (F 10) (F 11) (N 9))))]) rfl ?_
  exact rw_i hC rfl hP hD hS (⟨rfl, X2, F2, G2, rfl, hI2, hs2, hle2, hf1, hf2, hf3⟩) dX12_layNow_30 (Nat.le_of_ble_eq_true rfl) (Nat.le_of_ble_eq_true rfl)
