set_option maxHeartbeats 4000000 in
set_option maxRecDepth 100000 in
theorem k_faulted (l : Launch) (E : EE) (ca ra : Nat → Nat) (ao : Nat) (C : Nat → Nat) (kd sz : Nat) : Wr l yX11_faulted cX11_faulted 2 (some .int) rm_X11_faulted 0 0 E (oW ca ra ao C) sz [.ref (ca 0), .int (nI kd)] (fun v1 w1 => v1 = some (.int ((-10) - nI kd)) ∧ w1 = oW ca ra ao (va_up C 5 kd)) := by
  refine mk_wr (by decide) (Nat.le_of_ble_eq_true rfl) ?_
  intro p e s m args below meth c hC hin hK A hA hP hD hS ls hl
  obtain ⟨hx, hb, hr, hts, hown, hml, hlk, hN⟩ := id hC
  have hl : lv_has ls 2 [(0, .ref (ca 0)), (1, .int (nI kd))] := hl
  obtain ⟨H, hH⟩ : ∃ z, z = s.heap := ⟨_, rfl⟩
  have hS : va_S A s.heap H [] := by rw [hH]; exact hS
  rw [← hH] at hP
  refine W_heap hH ?_
  obtain ⟨locs, hlo⟩ : ∃ z : List Loc, z = [] := ⟨_, rfl⟩
  rw [← hlo] at hS ⊢
  refine lv_aload_n hx hb dX11_faulted_0 rfl (lv_at hl 0 rfl) ?_
  refine lv_iload_n hx hb dX11_faulted_1 rfl (lv_at hl 1 rfl) ?_
  refine va_put (D := E.1) (ci := 9) (v := .int (nI kd)) (ty := .int) (C := RX11) (T := TX11) (N := 13) hx hb hts iX11 tyX11 tyX11_ok nmX11 hown hK hP hD hS 0 rfl rfl 5 (by decide) (hts _ kw_109) (fun _ h9 => h9) rfl (by decide +kernel) rfl rfl (Nat.le_of_ble_eq_true rfl) dX11_faulted_2 (fun H locs hP hD hS => ?_)
  have hP : va_P E.1 vwCl (oW ca ra ao (va_up C 5 kd)) H := hP
  have hD : va_D A (oW ca ra ao (va_up C 5 kd)) := hD
  refine lv_bipush (v := -10) hx hb dX11_faulted_5 (by decide) ?_
  refine lv_iload_n hx hb dX11_faulted_7 rfl (lv_at hl 1 rfl) ?_
  refine lv_isub hx hb dX11_faulted_8 ?_
  exact rw_i hC rfl hP hD hS (⟨rfl, rfl⟩) dX11_faulted_9 (Nat.le_of_ble_eq_true rfl) (Nat.le_of_ble_eq_true rfl)

set_option maxHeartbeats 4000000 in
set_option maxRecDepth 100000 in
theorem k_moveTo (l : Launch) (E : EE) (ca ra : Nat → Nat) (ao : Nat) (C : Nat → Nat) (a1 a2 a3 fo sc : Nat) (x0 sz : Nat) : Wr l yX11_moveTo cX11_moveTo 3 none rm_X11_moveTo 0 0 E (oaW ca ra ao C a1 a2 a3 fo sc) sz [.ref (ca 0), .long (lN x0)] (fun v1 w1 => v1 = none ∧ w1 = oaW ca ra ao (va_up C 4 x0) a1 a2 a3 0 sc) := by
  refine mk_wr (by decide) (Nat.le_of_ble_eq_true rfl) ?_
  intro p e s m args below meth c hC hin hK A hA hP hD hS ls hl
  obtain ⟨hx, hb, hr, hts, hown, hml, hlk, hN⟩ := id hC
  have hl : lv_has ls 3 [(0, .ref (ca 0)), (1, .long (lN x0))] := hl
  obtain ⟨H, hH⟩ : ∃ z, z = s.heap := ⟨_, rfl⟩
  have hS : va_S A s.heap H [] := by rw [hH]; exact hS
  rw [← hH] at hP
  refine W_heap hH ?_
  obtain ⟨locs, hlo⟩ : ∃ z : List Loc, z = [] := ⟨_, rfl⟩
  rw [← hlo] at hS ⊢
  refine lv_aload_n hx hb dX11_moveTo_0 rfl (lv_at hl 0 rfl) ?_
  refine lv_lload_n hx hb dX11_moveTo_1 rfl (lv_at hl 1 rfl) ?_
  refine va_put (D := E.1) (ci := 9) (v := .long (lN x0)) (ty := .long) (C := RX11) (T := TX11) (N := 13) hx hb hts iX11 tyX11 tyX11_ok nmX11 hown hK hP hD hS 0 rfl rfl 4 (by decide) (hts _ kw_108) (fun _ h9 => h9) rfl (by decide +kernel) rfl rfl (Nat.le_of_ble_eq_true rfl) dX11_moveTo_2 (fun H locs hP hD hS => ?_)
  have hP : va_P E.1 vwCl (oaW ca ra ao (va_up C 4 x0) a1 a2 a3 fo sc) H := hP
  have hD : va_D A (oaW ca ra ao (va_up C 4 x0) a1 a2 a3 fo sc) := hD
  refine lv_aload_n hx hb dX11_moveTo_5 rfl (lv_at hl 0 rfl) ?_
  refine va_get (D := E.1) (ci := 9) (v := .ref ao) (C := RX11) (T := TX11) (N := 13) hx hb hts iX11 hown hK hP 0 rfl rfl 8 (by decide) (hts _ kw_112) (fun _ h9 => h9) rfl dX11_moveTo_6 ?_
  refine cV_wr (X := [oC ca ra ao (va_up C 4 x0)]) (Y := []) (rest := []) hC (k_forget l E ao a1 a2 a3 fo sc _) kw_222 iy_X0_forget ⟨Nat.le_of_ble_eq_true rfl, Nat.le_of_ble_eq_true rfl⟩ ⟨rfl, rfl⟩ hK hP hD hS hA rfl (va_recv hK hP (ci := 0) (q0 := 1) rfl rfl) rfl hl.1 rfl (Nat.le_of_ble_eq_true rfl) dX11_moveTo_9 ⟨Nat.le_of_ble_eq_true rfl, Nat.le_of_ble_eq_true rfl⟩ (fun v_ w_ H locs hpost hP hD hS => ?_)
  obtain ⟨rfl, rfl⟩ := hpost
  have hP : va_P E.1 vwCl (oaW ca ra ao (va_up C 4 x0) a1 a2 a3 0 sc) H := hP
  have hD : va_D A (oaW ca ra ao (va_up C 4 x0) a1 a2 a3 0 sc) := hD
  refine W.eq (g2 := F0 m 12 ls []) rfl ?_
  exact rw_v hC hP hD hS (⟨rfl, rfl⟩) dX11_moveTo_12 (Nat.le_of_ble_eq_true rfl) (Nat.le_of_ble_eq_true rfl)

set_option maxHeartbeats 4000000 in
set_option maxRecDepth 100000 in
theorem k_begin (l : Launch) (E : EE) (ca ra : Nat → Nat) (ao : Nat) (C : Nat → Nat) (a1 a2 a3 fo sc : Nat) (x0 sz : Nat) : Wr l yX11_begin cX11_begin 3 none rm_X11_begin 0 0 E (oaW ca ra ao C a1 a2 a3 fo sc) sz [.ref (ca 0), .long (lN x0)] (fun v1 w1 => v1 = none ∧ w1 = oaW ca ra ao (va_up (va_up (va_up (va_up C 3 x0) 2 0) 10 0) 4 x0) a1 a2 a3 0 sc) := by
  refine mk_wr (by decide) (Nat.le_of_ble_eq_true rfl) ?_
  intro p e s m args below meth c hC hin hK A hA hP hD hS ls hl
  obtain ⟨hx, hb, hr, hts, hown, hml, hlk, hN⟩ := id hC
  have hl : lv_has ls 3 [(0, .ref (ca 0)), (1, .long (lN x0))] := hl
  obtain ⟨H, hH⟩ : ∃ z, z = s.heap := ⟨_, rfl⟩
  have hS : va_S A s.heap H [] := by rw [hH]; exact hS
  rw [← hH] at hP
  refine W_heap hH ?_
  obtain ⟨locs, hlo⟩ : ∃ z : List Loc, z = [] := ⟨_, rfl⟩
  rw [← hlo] at hS ⊢
  refine lv_aload_n hx hb dX11_begin_0 rfl (lv_at hl 0 rfl) ?_
  refine lv_lload_n hx hb dX11_begin_1 rfl (lv_at hl 1 rfl) ?_
  refine va_put (D := E.1) (ci := 9) (v := .long (lN x0)) (ty := .long) (C := RX11) (T := TX11) (N := 13) hx hb hts iX11 tyX11 tyX11_ok nmX11 hown hK hP hD hS 0 rfl rfl 3 (by decide) (hts _ kw_107) (fun _ h9 => h9) rfl (by decide +kernel) rfl rfl (Nat.le_of_ble_eq_true rfl) dX11_begin_2 (fun H locs hP hD hS => ?_)
  have hP : va_P E.1 vwCl (oaW ca ra ao (va_up C 3 x0) a1 a2 a3 fo sc) H := hP
  have hD : va_D A (oaW ca ra ao (va_up C 3 x0) a1 a2 a3 fo sc) := hD
  refine lv_aload_n hx hb dX11_begin_5 rfl (lv_at hl 0 rfl) ?_
  refine lv_iconst (v := nI 0) hx hb dX11_begin_6 (by decide) ?_
  refine va_put (D := E.1) (ci := 9) (v := .int (nI 0)) (ty := .int) (C := RX11) (T := TX11) (N := 13) hx hb hts iX11 tyX11 tyX11_ok nmX11 hown hK hP hD hS 0 rfl rfl 2 (by decide) (hts _ kw_106) (fun _ h9 => h9) rfl (by decide +kernel) rfl rfl (Nat.le_of_ble_eq_true rfl) dX11_begin_7 (fun H locs hP hD hS => ?_)
  have hP : va_P E.1 vwCl (oaW ca ra ao (va_up (va_up C 3 x0) 2 0) a1 a2 a3 fo sc) H := hP
  have hD : va_D A (oaW ca ra ao (va_up (va_up C 3 x0) 2 0) a1 a2 a3 fo sc) := hD
  refine lv_aload_n hx hb dX11_begin_10 rfl (lv_at hl 0 rfl) ?_
  refine lv_iconst (v := nI 0) hx hb dX11_begin_11 (by decide) ?_
  refine va_put (D := E.1) (ci := 9) (v := .int (nI 0)) (ty := .int) (C := RX11) (T := TX11) (N := 13) hx hb hts iX11 tyX11 tyX11_ok nmX11 hown hK hP hD hS 0 rfl rfl 10 (by decide) (hts _ kw_114) (fun _ h9 => h9) rfl (by decide +kernel) rfl rfl (Nat.le_of_ble_eq_true rfl) dX11_begin_12 (fun H locs hP hD hS => ?_)
  have hP : va_P E.1 vwCl (oaW ca ra ao (va_up (va_up (va_up C 3 x0) 2 0) 10 0) a1 a2 a3 fo sc) H := hP
  have hD : va_D A (oaW ca ra ao (va_up (va_up (va_up C 3 x0) 2 0) 10 0) a1 a2 a3 fo sc) := hD
  refine lv_aload_n hx hb dX11_begin_15 rfl (lv_at hl 0 rfl) ?_
  refine lv_lload_n hx hb dX11_begin_16 rfl (lv_at hl 1 rfl) ?_
  refine cV_w0 (rest := []) hC (k_moveTo l E ca ra ao (va_up (va_up (va_up C 3 x0) 2 0) 10 0) a1 a2 a3 fo sc x0 _) kw_218 iy_X11_moveTo ⟨Nat.le_of_ble_eq_true rfl, Nat.le_of_ble_eq_true rfl⟩ ⟨rfl, rfl⟩ hK hP hD hS hA (va_recv hK hP (ci := 9) (q0 := 0) rfl rfl) rfl hl.1 rfl (Nat.le_of_ble_eq_true rfl) dX11_begin_17 ⟨Nat.le_of_ble_eq_true rfl, Nat.le_of_ble_eq_true rfl⟩ (fun v_ w_ H locs hpost hP hD hS => ?_)
  obtain ⟨rfl, rfl⟩ := hpost
  refine W.eq (g2 := F0 m 20 ls []) rfl ?_
  exact rw_v hC hP hD hS (⟨rfl, rfl⟩) dX11_begin_20 (Nat.le_of_ble_eq_true rfl) (Nat.le_of_ble_eq_true rfl)

set_option maxHeartbeats 4000000 in
set_option maxRecDepth 100000 in
theorem k_callAt_y (l : Launch) (E : EE) (ca ra : Nat → Nat) (ao : Nat) (C : Nat → Nat) (md : Nat → Option Nat) (j1 kk z1 : Nat) (hcc : C 2 = kk) (hk12 : kk ≤ 12) (hj1 : j1 < kk) (hmd : md j1 = some z1) : Rd l yX11_callAt cX11_callAt 2 (some (.object "CallRounds$Call")) rm_X11_callAt E (omd E ca ra ao C md) [.ref (ca 0), .int (nI j1)] (some (.ref z1)) := by
  refine mk_rd (by decide) (Nat.le_of_ble_eq_true rfl) ?_
  intro p e s m args below meth c hC hK hP ls hl
  obtain ⟨hx, hb, hr, hts, hown, hml, hlk, hN⟩ := id hC
  have hl : lv_has ls 2 [(0, .ref (ca 0)), (1, .int (nI j1))] := hl
  refine lv_iload_n hx hb dX11_callAt_0 rfl (lv_at hl 1 rfl) ?_
  refine n_if_lt (tgt := 27) hx hb (by omega) dX11_callAt_1 (by decide) ?_
  refine lv_iload_n hx hb dX11_callAt_4 rfl (lv_at hl 1 rfl) ?_
  refine lv_aload_n hx hb dX11_callAt_5 rfl (lv_at hl 0 rfl) ?_
  refine va_get (D := E.1) (ci := 9) (v := .int (nI (C 2))) (C := RX11) (T := TX11) (N := 13) hx hb hts iX11 hown hK hP 0 rfl rfl 2 (by decide) (hts _ kw_106) (fun _ h9 => h9) rfl dX11_callAt_6 ?_
  refine n_icmp_ge (tgt := 27) hx hb (by omega) (by omega) dX11_callAt_9 (by decide) (fun c_1 => ?_) (fun c_1 => ?_)
  · -- t 27
    exact absurd c_1 (by omega)
  · -- f 12
    refine lv_iload_n hx hb dX11_callAt_12 rfl (lv_at hl 1 rfl) ?_
    refine lv_bipush (v := nI 12) hx hb dX11_callAt_13 (by decide) ?_
    refine n_icmp_ge (tgt := 27) hx hb (by omega) (by omega) dX11_callAt_15 (by decide) (fun c_2 => ?_) (fun c_2 => ?_)
    · -- t 27
      exact absurd c_2 (by omega)
    · -- f 18
      refine lv_aload_n hx hb dX11_callAt_18 rfl (lv_at hl 0 rfl) ?_
      refine va_get (D := E.1) (ci := 9) (v := .ref (ca 2)) (C := RX11) (T := TX11) (N := 13) hx hb hts iX11 hown hK hP 0 rfl rfl 1 (by decide) (hts _ kw_105) (fun _ h9 => h9) rfl dX11_callAt_19 ?_
      refine lv_iload_n hx hb dX11_callAt_22 rfl (lv_at hl 1 rfl) ?_
      refine va_aldq hx hb hK hP 1 4 rfl rfl (vp_in_nI (by omega) (by decide)) dX11_callAt_23 ?_
      rw [nI_clamp (by omega)]
      rw [hmd]
      refine W.eq (g2 := F0 m 24 ls [.ref z1]) rfl ?_
      refine lv_goto (tgt := 28) hx hb dX11_callAt_24 (by decide) ?_
      exact rz_a hC (Or.inl ⟨_, rfl⟩) (Or.inr ⟨_, rfl⟩) dX11_callAt_28

set_option maxHeartbeats 4000000 in
set_option maxRecDepth 100000 in
theorem k_callAt_n (l : Launch) (E : EE) (ca ra : Nat → Nat) (ao : Nat) (C : Nat → Nat) (md : Nat → Option Nat) (v1 : Int32) (kk : Nat) (hcc : C 2 = kk) (hnp : isP v1 kk = false) : Rd l yX11_callAt cX11_callAt 2 (some (.object "CallRounds$Call")) rm_X11_callAt E (omd E ca ra ao C md) [.ref (ca 0), .int v1] (some (.null)) := by
  refine mk_rd (by decide) (Nat.le_of_ble_eq_true rfl) ?_
  intro p e s m args below meth c hC hK hP ls hl
  obtain ⟨hx, hb, hr, hts, hown, hml, hlk, hN⟩ := id hC
  have hl : lv_has ls 2 [(0, .ref (ca 0)), (1, .int v1)] := hl
  refine lv_iload_n hx hb dX11_callAt_0 rfl (lv_at hl 1 rfl) ?_
  refine lv_if_lt (tgt := 27) hx hb dX11_callAt_1 (by decide) (fun c_1 => ?_) (fun c_1 => ?_)
  · -- t 27
    refine lv_null hx hb dX11_callAt_27 ?_
    exact rz_a hC (Or.inl ⟨_, rfl⟩) (Or.inl rfl) dX11_callAt_28
  · -- f 4
    refine lv_iload_n hx hb dX11_callAt_4 rfl (lv_at hl 1 rfl) ?_
    refine lv_aload_n hx hb dX11_callAt_5 rfl (lv_at hl 0 rfl) ?_
    refine va_get (D := E.1) (ci := 9) (v := .int (nI (C 2))) (C := RX11) (T := TX11) (N := 13) hx hb hts iX11 hown hK hP 0 rfl rfl 2 (by decide) (hts _ kw_106) (fun _ h9 => h9) rfl dX11_callAt_6 ?_
    refine lv_icmp_ge (tgt := 27) hx hb dX11_callAt_9 (by decide) (fun c_2 => ?_) (fun c_2 => ?_)
    · -- t 27
      refine lv_null hx hb dX11_callAt_27 ?_
      exact rz_a hC (Or.inl ⟨_, rfl⟩) (Or.inl rfl) dX11_callAt_28
    · -- f 12
      exact absurd ((show isP v1 kk = true from hcc ▸ isP_t (by assumption) c_2).symm.trans hnp) (by decide)

set_option maxHeartbeats 4000000 in
set_option maxRecDepth 100000 in
theorem k_ofCall (l : Launch) (E : EE) (ca ra : Nat → Nat) (ao : Nat) (C : Nat → Nat) (md : Nat → Option Nat) (nn kk : Nat) (net : Nat → Nat) (Z : Nat → Nat → Nat) (hc : CS nn kk net Z C) (hmd : ∀ i, i < kk → md i = some (Z 0 i)) (v1 what : Int32) : Rd l yX11_ofCall cX11_ofCall 4 (some .int) rm_X11_ofCall E (ocW E ca ra ao C md Z kk) [.ref (ca 0), .int v1, .int what] (some (.int (s_ofCall nn kk (Z 2) (Z 3) v1 what))) := by
  refine mk_rd (by decide) (Nat.le_of_ble_eq_true rfl) ?_
  intro p e s m args below meth c hC hK hP ls hl
  obtain ⟨hx, hb, hr, hts, hown, hml, hlk, hN⟩ := id hC
  have hl : lv_has ls 4 [(0, .ref (ca 0)), (1, .int v1), (2, .int what)] := hl
  have hn4 := hc.n4; have hk12 := hc.k12; have hx3 := hc.st.lt; have hx4 := hc.nw.lt; have hp3 := hc.p3; have hp4 := hc.p4; have hcc := hc.cnt
  refine lv_aload_n hx hb dX11_ofCall_0 rfl (lv_at hl 0 rfl) ?_
  refine lv_iload_n hx hb dX11_ofCall_1 rfl (lv_at hl 1 rfl) ?_
  cases hpp : isP v1 kk with
  | false =>
    refine cV_r (rest := []) hC (k_callAt_n l E ca ra ao C md v1 kk hcc hpp) kw_333 iy_X11_callAt ⟨Nat.le_of_ble_eq_true rfl, Nat.le_of_ble_eq_true rfl⟩ ⟨rfl, rfl⟩ hK (show va_P E.1 vwCl (omd E ca ra ao C md) s.heap from P2 hP List.mem_cons_self (List.mem_cons_of_mem _ List.mem_cons_self)) (va_recv hK hP (ci := 9) (q0 := 0) rfl rfl) rfl hl.1 rfl (Nat.le_of_ble_eq_true rfl) dX11_ofCall_2 ⟨Nat.le_of_ble_eq_true rfl, Nat.le_of_ble_eq_true rfl⟩ ?_
    refine W.eq (g2 := F0 m 5 ls [.null]) rfl ?_
    refine lv_astore_nN (lv' := [(3, .null), (0, .ref (ca 0)), (1, .int v1), (2, .int what)]) hx hb dX11_ofCall_5 rfl hl (by decide) rfl (fun ls hl => ?_)
    refine lv_aload_nN hx hb dX11_ofCall_6 rfl (lv_at hl 0 rfl) ?_
    refine lv_ifnonnullN hx hb dX11_ofCall_7 ?_
    refine lv_iconst (v := -1) hx hb dX11_ofCall_10 (by decide) ?_
    exact rz_iE hC (by rw [s_ofCall, if_pos hpp]) dX11_ofCall_11
  | true =>
    obtain ⟨j1, hj1, rfl⟩ := isP_nat (by omega) hpp
    have hl : lv_has ls 4 [(0, .ref (ca 0)), (1, .int (nI j1)), (2, .int what)] := hl
    refine cV_r (rest := []) hC (k_callAt_y l E ca ra ao C md j1 (kk) (Z 0 j1) hcc hk12 (by omega) (hmd j1 (by omega))) kw_333 iy_X11_callAt ⟨Nat.le_of_ble_eq_true rfl, Nat.le_of_ble_eq_true rfl⟩ ⟨rfl, rfl⟩ hK (show va_P E.1 vwCl (omd E ca ra ao C md) s.heap from P2 hP List.mem_cons_self (List.mem_cons_of_mem _ List.mem_cons_self)) (va_recv hK hP (ci := 9) (q0 := 0) rfl rfl) rfl hl.1 rfl (Nat.le_of_ble_eq_true rfl) dX11_ofCall_2 ⟨Nat.le_of_ble_eq_true rfl, Nat.le_of_ble_eq_true rfl⟩ ?_
    refine W.eq (g2 := F0 m 5 ls [.ref (Z 0 j1)]) rfl ?_
    have hpq9 := hc.pq j1 (by omega); have hcl9 := hc.cl j1 (by omega); have hx4 := hcl9.2.1.lt; have hx5 := (hc.af (by omega : j1 < kk)).lt
    rcases hc.k1 (by omega : j1 < kk) with hkk | hkk | hkk
    · -- kind 0
      have hknd := hcl9.1.symm.trans hkk
      have hPc : va_P E.1 vwCl [(Z 0 j1, .inr (1, cF Z j1))] s.heap := cl_at hP oc_sub (by omega) hkk
      refine lv_astore_n (lv' := [(3, .ref (Z 0 j1)), (0, .ref (ca 0)), (1, .int (nI j1)), (2, .int what)]) hx hb dX11_ofCall_5 rfl hl (by decide) rfl (fun ls hl => ?_)
      refine lv_aload_n hx hb dX11_ofCall_6 rfl (lv_at hl 0 rfl) ?_
      refine lv_ifnonnull (tgt := 12) hx hb dX11_ofCall_7 (by decide) ?_
      refine lv_iload_n hx hb dX11_ofCall_12 rfl (lv_at hl 3 rfl) ?_
      rcases sw5 what with rfl | rfl | rfl | rfl | rfl | sw_1
      · -- switch 0
        have hl : lv_has ls 4 [(3, .ref (Z 0 j1)), (0, .ref (ca 0)), (1, .int (nI j1)), (2, .int (nI 0))] := hl
        refine lv_tableIn (off := 35) (tgt := 48) hx hb dX11_ofCall_13 (by decide) (by decide) (by decide) (by decide) ?_
        refine lv_aload_n hx hb dX11_ofCall_48 rfl (lv_at hl 0 rfl) ?_
        refine cU_r (rest := []) hC (k_kind_1 l E (Z 0 j1) j1 (Z 2 j1) (Z 3 j1) (Z 4 j1) (Z 5 j1)) uy_kind_1 ⟨Nat.le_of_ble_eq_true rfl, Nat.le_of_ble_eq_true rfl⟩ ⟨rfl, rfl⟩ hK hPc (va_recv hK hPc (ci := 1) (q0 := 0) rfl rfl) rfl hl.1 rfl (Nat.le_of_ble_eq_true rfl) dX11_ofCall_49 ⟨Nat.le_of_ble_eq_true rfl, Nat.le_of_ble_eq_true rfl⟩ ?_
        refine W.eq (g2 := F0 m 52 ls [.int (nI 0)]) rfl ?_
        exact rz_iE hC (by rw [s_ofCall, if_neg (by rw [nat_isP (by omega) hj1]; decide), if_pos rfl, nI_clamp (by omega), hknd]) dX11_ofCall_52
      · -- switch 1
        have hl : lv_has ls 4 [(3, .ref (Z 0 j1)), (0, .ref (ca 0)), (1, .int (nI j1)), (2, .int (nI 1))] := hl
        refine lv_tableIn (off := 40) (tgt := 53) hx hb dX11_ofCall_13 (by decide) (by decide) (by decide) (by decide) ?_
        refine lv_aload_n hx hb dX11_ofCall_53 rfl (lv_at hl 0 rfl) ?_
        refine va_get (D := E.1) (ci := 1) (v := .int (nI (Z 2 j1))) (C := RX1) (T := TX1) (N := 5) hx hb hts iX1 hown hK hPc 0 rfl rfl 1 (by decide) (hts _ kw_283) (fun _ h9 => h9) rfl dX11_ofCall_54 ?_
        exact rz_iE hC (by rw [s_ofCall, if_neg (by rw [nat_isP (by omega) hj1]; decide), if_neg (by decide), if_pos rfl, nI_clamp (by omega)]) dX11_ofCall_57
      · -- switch 2
        have hl : lv_has ls 4 [(3, .ref (Z 0 j1)), (0, .ref (ca 0)), (1, .int (nI j1)), (2, .int (nI 2))] := hl
        refine lv_tableIn (off := 45) (tgt := 58) hx hb dX11_ofCall_13 (by decide) (by decide) (by decide) (by decide) ?_
        refine lv_aload_n hx hb dX11_ofCall_58 rfl (lv_at hl 0 rfl) ?_
        refine va_get (D := E.1) (ci := 1) (v := .int (nI (Z 3 j1))) (C := RX1) (T := TX1) (N := 5) hx hb hts iX1 hown hK hPc 0 rfl rfl 2 (by decide) (hts _ kw_288) (fun _ h9 => h9) rfl dX11_ofCall_59 ?_
        exact rz_iE hC (by rw [s_ofCall, if_neg (by rw [nat_isP (by omega) hj1]; decide), if_neg (by decide), if_neg (by decide), if_pos rfl, nI_clamp (by omega)]) dX11_ofCall_62
      · -- switch 3
        have hl : lv_has ls 4 [(3, .ref (Z 0 j1)), (0, .ref (ca 0)), (1, .int (nI j1)), (2, .int (nI 3))] := hl
        refine lv_tableIn (off := 50) (tgt := 63) hx hb dX11_ofCall_13 (by decide) (by decide) (by decide) (by decide) ?_
        refine lv_aload_n hx hb dX11_ofCall_63 rfl (lv_at hl 0 rfl) ?_
        refine lv_aload_n hx hb dX11_ofCall_64 rfl (lv_at hl 0 rfl) ?_
        refine va_get (D := E.1) (ci := 1) (v := .int (nI (Z 2 j1))) (C := RX1) (T := TX1) (N := 5) hx hb hts iX1 hown hK hPc 0 rfl rfl 1 (by decide) (hts _ kw_283) (fun _ h9 => h9) rfl dX11_ofCall_65 ?_
        refine cU_r (rest := []) hC (k_learnt_1 l E (Z 0 j1) j1 (Z 2 j1) (Z 3 j1) (Z 4 j1) (Z 5 j1) (Z 2 j1) (by omega) (by omega) (by omega)) uy_learnt_1 ⟨Nat.le_of_ble_eq_true rfl, Nat.le_of_ble_eq_true rfl⟩ ⟨rfl, rfl⟩ hK hPc (va_recv hK hPc (ci := 1) (q0 := 0) rfl rfl) rfl hl.1 rfl (Nat.le_of_ble_eq_true rfl) dX11_ofCall_68 ⟨Nat.le_of_ble_eq_true rfl, Nat.le_of_ble_eq_true rfl⟩ ?_
        refine W.eq (g2 := F0 m 71 ls [.int (nI (of4 (Z 5 j1) (Z 2 j1) &&& (of4 (Z 4 j1) (Z 2 j1) ^^^ 4294967295)))]) rfl ?_
        exact rz_iE hC (by rw [s_ofCall, if_neg (by rw [nat_isP (by omega) hj1]; decide), if_neg (by decide), if_neg (by decide), if_neg (by decide), if_pos rfl, nI_clamp (by omega), hc.lr hj1 (by omega)]) dX11_ofCall_71
      · -- switch 4
        have hl : lv_has ls 4 [(3, .ref (Z 0 j1)), (0, .ref (ca 0)), (1, .int (nI j1)), (2, .int (nI 4))] := hl
        refine lv_tableIn (off := 59) (tgt := 72) hx hb dX11_ofCall_13 (by decide) (by decide) (by decide) (by decide) ?_
        refine lv_aload_n hx hb dX11_ofCall_72 rfl (lv_at hl 0 rfl) ?_
        refine lv_aload_n hx hb dX11_ofCall_73 rfl (lv_at hl 0 rfl) ?_
        refine va_get (D := E.1) (ci := 1) (v := .int (nI (Z 3 j1))) (C := RX1) (T := TX1) (N := 5) hx hb hts iX1 hown hK hPc 0 rfl rfl 2 (by decide) (hts _ kw_288) (fun _ h9 => h9) rfl dX11_ofCall_74 ?_
        refine cU_r (rest := []) hC (k_learnt_1 l E (Z 0 j1) j1 (Z 2 j1) (Z 3 j1) (Z 4 j1) (Z 5 j1) (Z 3 j1) (by omega) (by omega) (by omega)) uy_learnt_1 ⟨Nat.le_of_ble_eq_true rfl, Nat.le_of_ble_eq_true rfl⟩ ⟨rfl, rfl⟩ hK hPc (va_recv hK hPc (ci := 1) (q0 := 0) rfl rfl) rfl hl.1 rfl (Nat.le_of_ble_eq_true rfl) dX11_ofCall_77 ⟨Nat.le_of_ble_eq_true rfl, Nat.le_of_ble_eq_true rfl⟩ ?_
        refine W.eq (g2 := F0 m 80 ls [.int (nI (of4 (Z 5 j1) (Z 3 j1) &&& (of4 (Z 4 j1) (Z 3 j1) ^^^ 4294967295)))]) rfl ?_
        exact rz_iE hC (by rw [s_ofCall, if_neg (by rw [nat_isP (by omega) hj1]; decide), if_neg (by decide), if_neg (by decide), if_neg (by decide), if_neg (by decide), if_pos rfl, nI_clamp (by omega), hc.lr hj1 (by omega)]) dX11_ofCall_80
      · -- switch 5
        refine lv_tableOut (tgt := 81) hx hb dX11_ofCall_13 sw_1 (by decide) ?_
        refine lv_bipush (v := -2) hx hb dX11_ofCall_81 (by decide) ?_
        exact rz_iE hC (by rw [s_ofCall, if_neg (by rw [nat_isP (by omega) hj1]; decide), if_neg (sw_ne 0 (by decide) sw_1 (by decide)), if_neg (sw_ne 1 (by decide) sw_1 (by decide)), if_neg (sw_ne 2 (by decide) sw_1 (by decide)), if_neg (sw_ne 3 (by decide) sw_1 (by decide)), if_neg (sw_ne 4 (by decide) sw_1 (by decide))]) dX11_ofCall_83
    · -- kind 1
      have hknd := hcl9.1.symm.trans hkk
      have hPc : va_P E.1 vwCl [(Z 0 j1, .inr (3, cF Z j1))] s.heap := cl_at hP oc_sub (by omega) hkk
      refine lv_astore_n (lv' := [(3, .ref (Z 0 j1)), (0, .ref (ca 0)), (1, .int (nI j1)), (2, .int what)]) hx hb dX11_ofCall_5 rfl hl (by decide) rfl (fun ls hl => ?_)
      refine lv_aload_n hx hb dX11_ofCall_6 rfl (lv_at hl 0 rfl) ?_
      refine lv_ifnonnull (tgt := 12) hx hb dX11_ofCall_7 (by decide) ?_
      refine lv_iload_n hx hb dX11_ofCall_12 rfl (lv_at hl 3 rfl) ?_
      rcases sw5 what with rfl | rfl | rfl | rfl | rfl | sw_2
      · -- switch 0
        have hl : lv_has ls 4 [(3, .ref (Z 0 j1)), (0, .ref (ca 0)), (1, .int (nI j1)), (2, .int (nI 0))] := hl
        refine lv_tableIn (off := 35) (tgt := 48) hx hb dX11_ofCall_13 (by decide) (by decide) (by decide) (by decide) ?_
        refine lv_aload_n hx hb dX11_ofCall_48 rfl (lv_at hl 0 rfl) ?_
        refine cU_r (rest := []) hC (k_kind_4 l E (Z 0 j1) j1 (Z 2 j1) (Z 3 j1) (Z 4 j1) (Z 5 j1)) uy_kind_4 ⟨Nat.le_of_ble_eq_true rfl, Nat.le_of_ble_eq_true rfl⟩ ⟨rfl, rfl⟩ hK hPc (va_recv hK hPc (ci := 3) (q0 := 0) rfl rfl) rfl hl.1 rfl (Nat.le_of_ble_eq_true rfl) dX11_ofCall_49 ⟨Nat.le_of_ble_eq_true rfl, Nat.le_of_ble_eq_true rfl⟩ ?_
        refine W.eq (g2 := F0 m 52 ls [.int (nI 1)]) rfl ?_
        exact rz_iE hC (by rw [s_ofCall, if_neg (by rw [nat_isP (by omega) hj1]; decide), if_pos rfl, nI_clamp (by omega), hknd]) dX11_ofCall_52
      · -- switch 1
        have hl : lv_has ls 4 [(3, .ref (Z 0 j1)), (0, .ref (ca 0)), (1, .int (nI j1)), (2, .int (nI 1))] := hl
        refine lv_tableIn (off := 40) (tgt := 53) hx hb dX11_ofCall_13 (by decide) (by decide) (by decide) (by decide) ?_
        refine lv_aload_n hx hb dX11_ofCall_53 rfl (lv_at hl 0 rfl) ?_
        refine va_get (D := E.1) (ci := 3) (v := .int (nI (Z 2 j1))) (C := RX4) (T := TX4) (N := 5) hx hb hts iX4 hown hK hPc 0 rfl rfl 1 (by decide) (hts _ kw_283) (fun _ h9 => h9) rfl dX11_ofCall_54 ?_
        exact rz_iE hC (by rw [s_ofCall, if_neg (by rw [nat_isP (by omega) hj1]; decide), if_neg (by decide), if_pos rfl, nI_clamp (by omega)]) dX11_ofCall_57
      · -- switch 2
        have hl : lv_has ls 4 [(3, .ref (Z 0 j1)), (0, .ref (ca 0)), (1, .int (nI j1)), (2, .int (nI 2))] := hl
        refine lv_tableIn (off := 45) (tgt := 58) hx hb dX11_ofCall_13 (by decide) (by decide) (by decide) (by decide) ?_
        refine lv_aload_n hx hb dX11_ofCall_58 rfl (lv_at hl 0 rfl) ?_
        refine va_get (D := E.1) (ci := 3) (v := .int (nI (Z 3 j1))) (C := RX4) (T := TX4) (N := 5) hx hb hts iX4 hown hK hPc 0 rfl rfl 2 (by decide) (hts _ kw_288) (fun _ h9 => h9) rfl dX11_ofCall_59 ?_
        exact rz_iE hC (by rw [s_ofCall, if_neg (by rw [nat_isP (by omega) hj1]; decide), if_neg (by decide), if_neg (by decide), if_pos rfl, nI_clamp (by omega)]) dX11_ofCall_62
      · -- switch 3
        have hl : lv_has ls 4 [(3, .ref (Z 0 j1)), (0, .ref (ca 0)), (1, .int (nI j1)), (2, .int (nI 3))] := hl
        refine lv_tableIn (off := 50) (tgt := 63) hx hb dX11_ofCall_13 (by decide) (by decide) (by decide) (by decide) ?_
        refine lv_aload_n hx hb dX11_ofCall_63 rfl (lv_at hl 0 rfl) ?_
        refine lv_aload_n hx hb dX11_ofCall_64 rfl (lv_at hl 0 rfl) ?_
        refine va_get (D := E.1) (ci := 3) (v := .int (nI (Z 2 j1))) (C := RX4) (T := TX4) (N := 5) hx hb hts iX4 hown hK hPc 0 rfl rfl 1 (by decide) (hts _ kw_283) (fun _ h9 => h9) rfl dX11_ofCall_65 ?_
        refine cU_r (rest := []) hC (k_learnt_4 l E (Z 0 j1) j1 (Z 2 j1) (Z 3 j1) (Z 4 j1) (Z 5 j1) (Z 2 j1) (by omega) (by omega) (by omega)) uy_learnt_4 ⟨Nat.le_of_ble_eq_true rfl, Nat.le_of_ble_eq_true rfl⟩ ⟨rfl, rfl⟩ hK hPc (va_recv hK hPc (ci := 3) (q0 := 0) rfl rfl) rfl hl.1 rfl (Nat.le_of_ble_eq_true rfl) dX11_ofCall_68 ⟨Nat.le_of_ble_eq_true rfl, Nat.le_of_ble_eq_true rfl⟩ ?_
        refine W.eq (g2 := F0 m 71 ls [.int (nI (of4 (Z 5 j1) (Z 2 j1) &&& (of4 (Z 4 j1) (Z 2 j1) ^^^ 4294967295)))]) rfl ?_
        exact rz_iE hC (by rw [s_ofCall, if_neg (by rw [nat_isP (by omega) hj1]; decide), if_neg (by decide), if_neg (by decide), if_neg (by decide), if_pos rfl, nI_clamp (by omega), hc.lr hj1 (by omega)]) dX11_ofCall_71
      · -- switch 4
        have hl : lv_has ls 4 [(3, .ref (Z 0 j1)), (0, .ref (ca 0)), (1, .int (nI j1)), (2, .int (nI 4))] := hl
        refine lv_tableIn (off := 59) (tgt := 72) hx hb dX11_ofCall_13 (by decide) (by decide) (by decide) (by decide) ?_
        refine lv_aload_n hx hb dX11_ofCall_72 rfl (lv_at hl 0 rfl) ?_
        refine lv_aload_n hx hb dX11_ofCall_73 rfl (lv_at hl 0 rfl) ?_
        refine va_get (D := E.1) (ci := 3) (v := .int (nI (Z 3 j1))) (C := RX4) (T := TX4) (N := 5) hx hb hts iX4 hown hK hPc 0 rfl rfl 2 (by decide) (hts _ kw_288) (fun _ h9 => h9) rfl dX11_ofCall_74 ?_
        refine cU_r (rest := []) hC (k_learnt_4 l E (Z 0 j1) j1 (Z 2 j1) (Z 3 j1) (Z 4 j1) (Z 5 j1) (Z 3 j1) (by omega) (by omega) (by omega)) uy_learnt_4 ⟨Nat.le_of_ble_eq_true rfl, Nat.le_of_ble_eq_true rfl⟩ ⟨rfl, rfl⟩ hK hPc (va_recv hK hPc (ci := 3) (q0 := 0) rfl rfl) rfl hl.1 rfl (Nat.le_of_ble_eq_true rfl) dX11_ofCall_77 ⟨Nat.le_of_ble_eq_true rfl, Nat.le_of_ble_eq_true rfl⟩ ?_
        refine W.eq (g2 := F0 m 80 ls [.int (nI (of4 (Z 5 j1) (Z 3 j1) &&& (of4 (Z 4 j1) (Z 3 j1) ^^^ 4294967295)))]) rfl ?_
        exact rz_iE hC (by rw [s_ofCall, if_neg (by rw [nat_isP (by omega) hj1]; decide), if_neg (by decide), if_neg (by decide), if_neg (by decide), if_neg (by decide), if_pos rfl, nI_clamp (by omega), hc.lr hj1 (by omega)]) dX11_ofCall_80
      · -- switch 5
        refine lv_tableOut (tgt := 81) hx hb dX11_ofCall_13 sw_2 (by decide) ?_
        refine lv_bipush (v := -2) hx hb dX11_ofCall_81 (by decide) ?_
        exact rz_iE hC (by rw [s_ofCall, if_neg (by rw [nat_isP (by omega) hj1]; decide), if_neg (sw_ne 0 (by decide) sw_2 (by decide)), if_neg (sw_ne 1 (by decide) sw_2 (by decide)), if_neg (sw_ne 2 (by decide) sw_2 (by decide)), if_neg (sw_ne 3 (by decide) sw_2 (by decide)), if_neg (sw_ne 4 (by decide) sw_2 (by decide))]) dX11_ofCall_83
    · -- kind 2
      have hknd := hcl9.1.symm.trans hkk
      have hPc : va_P E.1 vwCl [(Z 0 j1, .inr (8, cF Z j1))] s.heap := cl_at hP oc_sub (by omega) hkk
      refine lv_astore_n (lv' := [(3, .ref (Z 0 j1)), (0, .ref (ca 0)), (1, .int (nI j1)), (2, .int what)]) hx hb dX11_ofCall_5 rfl hl (by decide) rfl (fun ls hl => ?_)
      refine lv_aload_n hx hb dX11_ofCall_6 rfl (lv_at hl 0 rfl) ?_
      refine lv_ifnonnull (tgt := 12) hx hb dX11_ofCall_7 (by decide) ?_
      refine lv_iload_n hx hb dX11_ofCall_12 rfl (lv_at hl 3 rfl) ?_
      rcases sw5 what with rfl | rfl | rfl | rfl | rfl | sw_3
      · -- switch 0
        have hl : lv_has ls 4 [(3, .ref (Z 0 j1)), (0, .ref (ca 0)), (1, .int (nI j1)), (2, .int (nI 0))] := hl
        refine lv_tableIn (off := 35) (tgt := 48) hx hb dX11_ofCall_13 (by decide) (by decide) (by decide) (by decide) ?_
        refine lv_aload_n hx hb dX11_ofCall_48 rfl (lv_at hl 0 rfl) ?_
        refine cU_r (rest := []) hC (k_kind_10 l E (Z 0 j1) j1 (Z 2 j1) (Z 3 j1) (Z 4 j1) (Z 5 j1)) uy_kind_10 ⟨Nat.le_of_ble_eq_true rfl, Nat.le_of_ble_eq_true rfl⟩ ⟨rfl, rfl⟩ hK hPc (va_recv hK hPc (ci := 8) (q0 := 0) rfl rfl) rfl hl.1 rfl (Nat.le_of_ble_eq_true rfl) dX11_ofCall_49 ⟨Nat.le_of_ble_eq_true rfl, Nat.le_of_ble_eq_true rfl⟩ ?_
        refine W.eq (g2 := F0 m 52 ls [.int (nI 2)]) rfl ?_
        exact rz_iE hC (by rw [s_ofCall, if_neg (by rw [nat_isP (by omega) hj1]; decide), if_pos rfl, nI_clamp (by omega), hknd]) dX11_ofCall_52
      · -- switch 1
        have hl : lv_has ls 4 [(3, .ref (Z 0 j1)), (0, .ref (ca 0)), (1, .int (nI j1)), (2, .int (nI 1))] := hl
        refine lv_tableIn (off := 40) (tgt := 53) hx hb dX11_ofCall_13 (by decide) (by decide) (by decide) (by decide) ?_
        refine lv_aload_n hx hb dX11_ofCall_53 rfl (lv_at hl 0 rfl) ?_
        refine va_get (D := E.1) (ci := 8) (v := .int (nI (Z 2 j1))) (C := RX10) (T := TX10) (N := 5) hx hb hts iX10 hown hK hPc 0 rfl rfl 1 (by decide) (hts _ kw_283) (fun _ h9 => h9) rfl dX11_ofCall_54 ?_
        exact rz_iE hC (by rw [s_ofCall, if_neg (by rw [nat_isP (by omega) hj1]; decide), if_neg (by decide), if_pos rfl, nI_clamp (by omega)]) dX11_ofCall_57
      · -- switch 2
        have hl : lv_has ls 4 [(3, .ref (Z 0 j1)), (0, .ref (ca 0)), (1, .int (nI j1)), (2, .int (nI 2))] := hl
        refine lv_tableIn (off := 45) (tgt := 58) hx hb dX11_ofCall_13 (by decide) (by decide) (by decide) (by decide) ?_
        refine lv_aload_n hx hb dX11_ofCall_58 rfl (lv_at hl 0 rfl) ?_
        refine va_get (D := E.1) (ci := 8) (v := .int (nI (Z 3 j1))) (C := RX10) (T := TX10) (N := 5) hx hb hts iX10 hown hK hPc 0 rfl rfl 2 (by decide) (hts _ kw_288) (fun _ h9 => h9) rfl dX11_ofCall_59 ?_
        exact rz_iE hC (by rw [s_ofCall, if_neg (by rw [nat_isP (by omega) hj1]; decide), if_neg (by decide), if_neg (by decide), if_pos rfl, nI_clamp (by omega)]) dX11_ofCall_62
      · -- switch 3
        have hl : lv_has ls 4 [(3, .ref (Z 0 j1)), (0, .ref (ca 0)), (1, .int (nI j1)), (2, .int (nI 3))] := hl
        refine lv_tableIn (off := 50) (tgt := 63) hx hb dX11_ofCall_13 (by decide) (by decide) (by decide) (by decide) ?_
        refine lv_aload_n hx hb dX11_ofCall_63 rfl (lv_at hl 0 rfl) ?_
        refine lv_aload_n hx hb dX11_ofCall_64 rfl (lv_at hl 0 rfl) ?_
        refine va_get (D := E.1) (ci := 8) (v := .int (nI (Z 2 j1))) (C := RX10) (T := TX10) (N := 5) hx hb hts iX10 hown hK hPc 0 rfl rfl 1 (by decide) (hts _ kw_283) (fun _ h9 => h9) rfl dX11_ofCall_65 ?_
        refine cU_r (rest := []) hC (k_learnt_10 l E (Z 0 j1) j1 (Z 2 j1) (Z 3 j1) (Z 4 j1) (Z 5 j1) (Z 2 j1) (by omega) (by omega) (by omega)) uy_learnt_10 ⟨Nat.le_of_ble_eq_true rfl, Nat.le_of_ble_eq_true rfl⟩ ⟨rfl, rfl⟩ hK hPc (va_recv hK hPc (ci := 8) (q0 := 0) rfl rfl) rfl hl.1 rfl (Nat.le_of_ble_eq_true rfl) dX11_ofCall_68 ⟨Nat.le_of_ble_eq_true rfl, Nat.le_of_ble_eq_true rfl⟩ ?_
        refine W.eq (g2 := F0 m 71 ls [.int (nI (of4 (Z 5 j1) (Z 2 j1) &&& (of4 (Z 4 j1) (Z 2 j1) ^^^ 4294967295)))]) rfl ?_
        exact rz_iE hC (by rw [s_ofCall, if_neg (by rw [nat_isP (by omega) hj1]; decide), if_neg (by decide), if_neg (by decide), if_neg (by decide), if_pos rfl, nI_clamp (by omega), hc.lr hj1 (by omega)]) dX11_ofCall_71
      · -- switch 4
        have hl : lv_has ls 4 [(3, .ref (Z 0 j1)), (0, .ref (ca 0)), (1, .int (nI j1)), (2, .int (nI 4))] := hl
        refine lv_tableIn (off := 59) (tgt := 72) hx hb dX11_ofCall_13 (by decide) (by decide) (by decide) (by decide) ?_
        refine lv_aload_n hx hb dX11_ofCall_72 rfl (lv_at hl 0 rfl) ?_
        refine lv_aload_n hx hb dX11_ofCall_73 rfl (lv_at hl 0 rfl) ?_
        refine va_get (D := E.1) (ci := 8) (v := .int (nI (Z 3 j1))) (C := RX10) (T := TX10) (N := 5) hx hb hts iX10 hown hK hPc 0 rfl rfl 2 (by decide) (hts _ kw_288) (fun _ h9 => h9) rfl dX11_ofCall_74 ?_
        refine cU_r (rest := []) hC (k_learnt_10 l E (Z 0 j1) j1 (Z 2 j1) (Z 3 j1) (Z 4 j1) (Z 5 j1) (Z 3 j1) (by omega) (by omega) (by omega)) uy_learnt_10 ⟨Nat.le_of_ble_eq_true rfl, Nat.le_of_ble_eq_true rfl⟩ ⟨rfl, rfl⟩ hK hPc (va_recv hK hPc (ci := 8) (q0 := 0) rfl rfl) rfl hl.1 rfl (Nat.le_of_ble_eq_true rfl) dX11_ofCall_77 ⟨Nat.le_of_ble_eq_true rfl, Nat.le_of_ble_eq_true rfl⟩ ?_
        refine W.eq (g2 := F0 m 80 ls [.int (nI (of4 (Z 5 j1) (Z 3 j1) &&& (of4 (Z 4 j1) (Z 3 j1) ^^^ 4294967295)))]) rfl ?_
        exact rz_iE hC (by rw [s_ofCall, if_neg (by rw [nat_isP (by omega) hj1]; decide), if_neg (by decide), if_neg (by decide), if_neg (by decide), if_neg (by decide), if_pos rfl, nI_clamp (by omega), hc.lr hj1 (by omega)]) dX11_ofCall_80
      · -- switch 5
        refine lv_tableOut (tgt := 81) hx hb dX11_ofCall_13 sw_3 (by decide) ?_
        refine lv_bipush (v := -2) hx hb dX11_ofCall_81 (by decide) ?_
        exact rz_iE hC (by rw [s_ofCall, if_neg (by rw [nat_isP (by omega) hj1]; decide), if_neg (sw_ne 0 (by decide) sw_3 (by decide)), if_neg (sw_ne 1 (by decide) sw_3 (by decide)), if_neg (sw_ne 2 (by decide) sw_3 (by decide)), if_neg (sw_ne 3 (by decide) sw_3 (by decide)), if_neg (sw_ne 4 (by decide) sw_3 (by decide))]) dX11_ofCall_83

set_option maxHeartbeats 4000000 in
set_option maxRecDepth 100000 in
theorem k_as (l : Launch) (E : EE) (ca ra : Nat → Nat) (ao : Nat) (C : Nat → Nat) (md : Nat → Option Nat) (nn kk : Nat) (net : Nat → Nat) (Z : Nat → Nat → Nat) (hc : CS nn kk net Z C) (hmd : ∀ i, i < kk → md i = some (Z 0 i)) (v1 v2 : Int32) (sz : Nat) : Wr l yX11_as cX11_as 4 (some .int) rm_X11_as 0 0 E (ocW E ca ra ao C md Z kk) sz [.ref (ca 0), .int v1, .int v2] (fun v4 w1 => v4 = some (.int (asV nn kk (Z 2) (Z 3) v1 v2).1) ∧ w1 = ocW E ca ra ao (va_up C 5 (asV nn kk (Z 2) (Z 3) v1 v2).2) md Z kk) := by
  refine mk_wr (by decide) (Nat.le_of_ble_eq_true rfl) ?_
  intro p e s m args below meth c hC hin hK A hA hP hD hS ls hl
  obtain ⟨hx, hb, hr, hts, hown, hml, hlk, hN⟩ := id hC
  have hl : lv_has ls 4 [(0, .ref (ca 0)), (1, .int v1), (2, .int v2)] := hl
  have hn4 := hc.n4; have hk12 := hc.k12; have hx3 := hc.st.lt; have hx4 := hc.nw.lt; have hp3 := hc.p3; have hp4 := hc.p4; have hcc := hc.cnt
  obtain ⟨H, hH⟩ : ∃ z, z = s.heap := ⟨_, rfl⟩
  have hS : va_S A s.heap H [] := by rw [hH]; exact hS
  rw [← hH] at hP
  refine W_heap hH ?_
  obtain ⟨locs, hlo⟩ : ∃ z : List Loc, z = [] := ⟨_, rfl⟩
  rw [← hlo] at hS ⊢
  refine lv_aload_n hx hb dX11_as_0 rfl (lv_at hl 0 rfl) ?_
  refine lv_iconst (v := nI 0) hx hb dX11_as_1 (by decide) ?_
  refine va_put (D := E.1) (ci := 9) (v := .int (nI 0)) (ty := .int) (C := RX11) (T := TX11) (N := 13) hx hb hts iX11 tyX11 tyX11_ok nmX11 hown hK hP hD hS 0 rfl rfl 5 (by decide) (hts _ kw_109) (fun _ h9 => h9) rfl (by decide +kernel) rfl rfl (Nat.le_of_ble_eq_true rfl) dX11_as_2 (fun H locs hP hD hS => ?_)
  have hP : va_P E.1 vwCl (ocW E ca ra ao (va_up C 5 0) md Z kk) H := hP
  have hD : va_D A (ocW E ca ra ao (va_up C 5 0) md Z kk) := hD
  have hcc : va_up C 5 0 2 = kk := hcc
  refine lv_aload_n hx hb dX11_as_5 rfl (lv_at hl 0 rfl) ?_
  refine lv_iload_n hx hb dX11_as_6 rfl (lv_at hl 1 rfl) ?_
  cases hpp : isP v1 kk with
  | false =>
    refine cV_r (rest := []) hC (k_callAt_n l E ca ra ao (va_up C 5 0) md v1 kk hcc hpp) kw_333 iy_X11_callAt ⟨Nat.le_of_ble_eq_true rfl, Nat.le_of_ble_eq_true rfl⟩ ⟨rfl, rfl⟩ hK (show va_P E.1 vwCl (omd E ca ra ao (va_up C 5 0) md) H from P2 hP List.mem_cons_self (List.mem_cons_of_mem _ List.mem_cons_self)) (va_recv hK hP (ci := 9) (q0 := 0) rfl rfl) rfl hl.1 rfl (Nat.le_of_ble_eq_true rfl) dX11_as_7 ⟨Nat.le_of_ble_eq_true rfl, Nat.le_of_ble_eq_true rfl⟩ ?_
    refine W.eq (g2 := F0 m 10 ls [.null]) rfl ?_
    refine lv_astore_nN (lv' := [(3, .null), (0, .ref (ca 0)), (1, .int v1), (2, .int v2)]) hx hb dX11_as_10 rfl hl (by decide) rfl (fun ls hl => ?_)
    refine lv_aload_nN hx hb dX11_as_11 rfl (lv_at hl 0 rfl) ?_
    refine lv_ifnonnullN hx hb dX11_as_12 ?_
    refine lv_iconst (v := -1) hx hb dX11_as_15 (by decide) ?_
    exact rw_i hC rfl hP hD hS (⟨by rw [asV, if_pos hpp], by rw [asV, if_pos hpp]⟩) dX11_as_16 (Nat.le_of_ble_eq_true rfl) (Nat.le_of_ble_eq_true rfl)
  | true =>
    obtain ⟨j1, hj1, rfl⟩ := isP_nat (by omega) hpp
    have hl : lv_has ls 4 [(0, .ref (ca 0)), (1, .int (nI j1)), (2, .int v2)] := hl
    refine cV_r (rest := []) hC (k_callAt_y l E ca ra ao (va_up C 5 0) md j1 (kk) (Z 0 j1) hcc hk12 (by omega) (hmd j1 (by omega))) kw_333 iy_X11_callAt ⟨Nat.le_of_ble_eq_true rfl, Nat.le_of_ble_eq_true rfl⟩ ⟨rfl, rfl⟩ hK (show va_P E.1 vwCl (omd E ca ra ao (va_up C 5 0) md) H from P2 hP List.mem_cons_self (List.mem_cons_of_mem _ List.mem_cons_self)) (va_recv hK hP (ci := 9) (q0 := 0) rfl rfl) rfl hl.1 rfl (Nat.le_of_ble_eq_true rfl) dX11_as_7 ⟨Nat.le_of_ble_eq_true rfl, Nat.le_of_ble_eq_true rfl⟩ ?_
    refine W.eq (g2 := F0 m 10 ls [.ref (Z 0 j1)]) rfl ?_
    have hpq9 := hc.pq j1 (by omega); have hcl9 := hc.cl j1 (by omega); have hx4 := hcl9.2.1.lt; have hx5 := (hc.af (by omega : j1 < kk)).lt
    rcases hc.k1 (by omega : j1 < kk) with hkk | hkk | hkk
    · -- kind 0
      have hknd := hcl9.1.symm.trans hkk
      have hPc : va_P E.1 vwCl [(Z 0 j1, .inr (1, cF Z j1))] H := cl_at hP oc_sub (by omega) hkk
      refine lv_astore_n (lv' := [(3, .ref (Z 0 j1)), (0, .ref (ca 0)), (1, .int (nI j1)), (2, .int v2)]) hx hb dX11_as_10 rfl hl (by decide) rfl (fun ls hl => ?_)
      refine lv_aload_n hx hb dX11_as_11 rfl (lv_at hl 0 rfl) ?_
      refine lv_ifnonnull (tgt := 17) hx hb dX11_as_12 (by decide) ?_
      refine lv_iload_n hx hb dX11_as_17 rfl (lv_at hl 3 rfl) ?_
      refine lv_if_lt (tgt := 26) hx hb dX11_as_18 (by decide) (fun c_1 => ?_) (fun c_1 => ?_)
      · -- t 26
        refine lv_bipush (v := -2) hx hb dX11_as_26 (by decide) ?_
        exact rw_i hC rfl hP hD hS (⟨by rw [asV, if_neg (by rw [nat_isP (by omega) hj1]; decide), if_pos (isIn_z1 (by assumption))], by rw [asV, if_neg (by rw [nat_isP (by omega) hj1]; decide), if_pos (isIn_z1 (by assumption))]⟩) dX11_as_28 (Nat.le_of_ble_eq_true rfl) (Nat.le_of_ble_eq_true rfl)
      · -- f 21
        refine lv_iload_n hx hb dX11_as_21 rfl (lv_at hl 3 rfl) ?_
        refine lv_iconst (v := nI 3) hx hb dX11_as_22 (by decide) ?_
        refine lv_icmp_lt (tgt := 29) hx hb dX11_as_23 (by decide) (fun c_2 => ?_) (fun c_2 => ?_)
        · -- t 29
          have hi2 : isIn v2 (nI 0) (nI 2) = true := lt3_isIn (by assumption) (by assumption)
          obtain ⟨k2, hk2, rfl⟩ := isIn_nat (by decide) hi2
          have hl : lv_has ls 4 [(3, .ref (Z 0 j1)), (0, .ref (ca 0)), (1, .int (nI j1)), (2, .int (nI k2))] := hl
          refine lv_aload_n hx hb dX11_as_29 rfl (lv_at hl 0 rfl) ?_
          refine cU_r (rest := []) hC (k_kind_1 l E (Z 0 j1) j1 (Z 2 j1) (Z 3 j1) (Z 4 j1) (Z 5 j1)) uy_kind_1 ⟨Nat.le_of_ble_eq_true rfl, Nat.le_of_ble_eq_true rfl⟩ ⟨rfl, rfl⟩ hK hPc (va_recv hK hPc (ci := 1) (q0 := 0) rfl rfl) rfl hl.1 rfl (Nat.le_of_ble_eq_true rfl) dX11_as_30 ⟨Nat.le_of_ble_eq_true rfl, Nat.le_of_ble_eq_true rfl⟩ ?_
          refine W.eq (g2 := F0 m 33 ls [.int (nI 0)]) rfl ?_
          refine lv_iload_n hx hb dX11_as_33 rfl (lv_at hl 3 rfl) ?_
          refine n_icmp_ge (tgt := 45) hx hb (by omega) (by omega) dX11_as_34 (by decide) (fun c_3 => ?_) (fun c_3 => ?_)
          · -- t 45
            refine lv_iconst (v := nI 1) hx hb dX11_as_45 (by decide) ?_
            exact rw_i hC rfl hP hD hS (⟨by rw [asV, if_neg (by rw [nat_isP (by omega) hj1]; decide), if_neg (by rw [hi2]; decide), nI_clamp (by omega), hknd, nI_clamp (by omega), if_neg (by omega)], by rw [asV, if_neg (by rw [nat_isP (by omega) hj1]; decide), if_neg (by rw [hi2]; decide), nI_clamp (by omega), hknd, nI_clamp (by omega), if_neg (by omega)]⟩) dX11_as_46 (Nat.le_of_ble_eq_true rfl) (Nat.le_of_ble_eq_true rfl)
          · -- f 37
            refine lv_aload_n hx hb dX11_as_37 rfl (lv_at hl 1 rfl) ?_
            refine lv_iconst (v := nI 2) hx hb dX11_as_38 (by decide) ?_
            refine cV_wr (X := []) (Y := mdC E (ca 2) md :: clL Z kk) (rest := []) hC (k_faulted l E ca ra ao (va_up C 5 0) 2 _) kw_156 iy_X11_faulted ⟨Nat.le_of_ble_eq_true rfl, Nat.le_of_ble_eq_true rfl⟩ ⟨rfl, rfl⟩ hK hP hD hS hA rfl (va_recv hK hP (ci := 9) (q0 := 0) rfl rfl) rfl hl.1 rfl (Nat.le_of_ble_eq_true rfl) dX11_as_39 ⟨Nat.le_of_ble_eq_true rfl, Nat.le_of_ble_eq_true rfl⟩ (fun v_ w_ H locs hpost hP hD hS => ?_)
            obtain ⟨rfl, rfl⟩ := hpost
            have hP : va_P E.1 vwCl (ocW E ca ra ao (va_up C 5 2) md Z kk) H := hP
            have hD : va_D A (ocW E ca ra ao (va_up C 5 2) md Z kk) := hD
            refine W.eq (g2 := F0 m 42 ls [.int ((-10) - nI 2)]) rfl ?_
            refine lv_goto (tgt := 46) hx hb dX11_as_42 (by decide) ?_
            exact rw_i hC rfl hP hD hS (⟨by rw [asV, if_neg (by rw [nat_isP (by omega) hj1]; decide), if_neg (by rw [hi2]; decide), nI_clamp (by omega), hknd, nI_clamp (by omega), if_pos (by omega)], by rw [asV, if_neg (by rw [nat_isP (by omega) hj1]; decide), if_neg (by rw [hi2]; decide), nI_clamp (by omega), hknd, nI_clamp (by omega), if_pos (by omega)]⟩) dX11_as_46 (Nat.le_of_ble_eq_true rfl) (Nat.le_of_ble_eq_true rfl)
        · -- f 26
          refine lv_bipush (v := -2) hx hb dX11_as_26 (by decide) ?_
          exact rw_i hC rfl hP hD hS (⟨by rw [asV, if_neg (by rw [nat_isP (by omega) hj1]; decide), if_pos (ge3_isIn (by assumption))], by rw [asV, if_neg (by rw [nat_isP (by omega) hj1]; decide), if_pos (ge3_isIn (by assumption))]⟩) dX11_as_28 (Nat.le_of_ble_eq_true rfl) (Nat.le_of_ble_eq_true rfl)
    · -- kind 1
      have hknd := hcl9.1.symm.trans hkk
      have hPc : va_P E.1 vwCl [(Z 0 j1, .inr (3, cF Z j1))] H := cl_at hP oc_sub (by omega) hkk
      refine lv_astore_n (lv' := [(3, .ref (Z 0 j1)), (0, .ref (ca 0)), (1, .int (nI j1)), (2, .int v2)]) hx hb dX11_as_10 rfl hl (by decide) rfl (fun ls hl => ?_)
      refine lv_aload_n hx hb dX11_as_11 rfl (lv_at hl 0 rfl) ?_
      refine lv_ifnonnull (tgt := 17) hx hb dX11_as_12 (by decide) ?_
      refine lv_iload_n hx hb dX11_as_17 rfl (lv_at hl 3 rfl) ?_
      refine lv_if_lt (tgt := 26) hx hb dX11_as_18 (by decide) (fun c_4 => ?_) (fun c_4 => ?_)
      · -- t 26
        refine lv_bipush (v := -2) hx hb dX11_as_26 (by decide) ?_
        exact rw_i hC rfl hP hD hS (⟨by rw [asV, if_neg (by rw [nat_isP (by omega) hj1]; decide), if_pos (isIn_z1 (by assumption))], by rw [asV, if_neg (by rw [nat_isP (by omega) hj1]; decide), if_pos (isIn_z1 (by assumption))]⟩) dX11_as_28 (Nat.le_of_ble_eq_true rfl) (Nat.le_of_ble_eq_true rfl)
      · -- f 21
        refine lv_iload_n hx hb dX11_as_21 rfl (lv_at hl 3 rfl) ?_
        refine lv_iconst (v := nI 3) hx hb dX11_as_22 (by decide) ?_
        refine lv_icmp_lt (tgt := 29) hx hb dX11_as_23 (by decide) (fun c_5 => ?_) (fun c_5 => ?_)
        · -- t 29
          have hi2 : isIn v2 (nI 0) (nI 2) = true := lt3_isIn (by assumption) (by assumption)
          obtain ⟨k2, hk2, rfl⟩ := isIn_nat (by decide) hi2
          have hl : lv_has ls 4 [(3, .ref (Z 0 j1)), (0, .ref (ca 0)), (1, .int (nI j1)), (2, .int (nI k2))] := hl
          refine lv_aload_n hx hb dX11_as_29 rfl (lv_at hl 0 rfl) ?_
          refine cU_r (rest := []) hC (k_kind_4 l E (Z 0 j1) j1 (Z 2 j1) (Z 3 j1) (Z 4 j1) (Z 5 j1)) uy_kind_4 ⟨Nat.le_of_ble_eq_true rfl, Nat.le_of_ble_eq_true rfl⟩ ⟨rfl, rfl⟩ hK hPc (va_recv hK hPc (ci := 3) (q0 := 0) rfl rfl) rfl hl.1 rfl (Nat.le_of_ble_eq_true rfl) dX11_as_30 ⟨Nat.le_of_ble_eq_true rfl, Nat.le_of_ble_eq_true rfl⟩ ?_
          refine W.eq (g2 := F0 m 33 ls [.int (nI 1)]) rfl ?_
          refine lv_iload_n hx hb dX11_as_33 rfl (lv_at hl 3 rfl) ?_
          refine n_icmp_ge (tgt := 45) hx hb (by omega) (by omega) dX11_as_34 (by decide) (fun c_6 => ?_) (fun c_6 => ?_)
          · -- t 45
            refine lv_iconst (v := nI 1) hx hb dX11_as_45 (by decide) ?_
            exact rw_i hC rfl hP hD hS (⟨by rw [asV, if_neg (by rw [nat_isP (by omega) hj1]; decide), if_neg (by rw [hi2]; decide), nI_clamp (by omega), hknd, nI_clamp (by omega), if_neg (by omega)], by rw [asV, if_neg (by rw [nat_isP (by omega) hj1]; decide), if_neg (by rw [hi2]; decide), nI_clamp (by omega), hknd, nI_clamp (by omega), if_neg (by omega)]⟩) dX11_as_46 (Nat.le_of_ble_eq_true rfl) (Nat.le_of_ble_eq_true rfl)
          · -- f 37
            refine lv_aload_n hx hb dX11_as_37 rfl (lv_at hl 1 rfl) ?_
            refine lv_iconst (v := nI 2) hx hb dX11_as_38 (by decide) ?_
            refine cV_wr (X := []) (Y := mdC E (ca 2) md :: clL Z kk) (rest := []) hC (k_faulted l E ca ra ao (va_up C 5 0) 2 _) kw_156 iy_X11_faulted ⟨Nat.le_of_ble_eq_true rfl, Nat.le_of_ble_eq_true rfl⟩ ⟨rfl, rfl⟩ hK hP hD hS hA rfl (va_recv hK hP (ci := 9) (q0 := 0) rfl rfl) rfl hl.1 rfl (Nat.le_of_ble_eq_true rfl) dX11_as_39 ⟨Nat.le_of_ble_eq_true rfl, Nat.le_of_ble_eq_true rfl⟩ (fun v_ w_ H locs hpost hP hD hS => ?_)
            obtain ⟨rfl, rfl⟩ := hpost
            have hP : va_P E.1 vwCl (ocW E ca ra ao (va_up C 5 2) md Z kk) H := hP
            have hD : va_D A (ocW E ca ra ao (va_up C 5 2) md Z kk) := hD
            refine W.eq (g2 := F0 m 42 ls [.int ((-10) - nI 2)]) rfl ?_
            refine lv_goto (tgt := 46) hx hb dX11_as_42 (by decide) ?_
            exact rw_i hC rfl hP hD hS (⟨by rw [asV, if_neg (by rw [nat_isP (by omega) hj1]; decide), if_neg (by rw [hi2]; decide), nI_clamp (by omega), hknd, nI_clamp (by omega), if_pos (by omega)], by rw [asV, if_neg (by rw [nat_isP (by omega) hj1]; decide), if_neg (by rw [hi2]; decide), nI_clamp (by omega), hknd, nI_clamp (by omega), if_pos (by omega)]⟩) dX11_as_46 (Nat.le_of_ble_eq_true rfl) (Nat.le_of_ble_eq_true rfl)
        · -- f 26
          refine lv_bipush (v := -2) hx hb dX11_as_26 (by decide) ?_
          exact rw_i hC rfl hP hD hS (⟨by rw [asV, if_neg (by rw [nat_isP (by omega) hj1]; decide), if_pos (ge3_isIn (by assumption))], by rw [asV, if_neg (by rw [nat_isP (by omega) hj1]; decide), if_pos (ge3_isIn (by assumption))]⟩) dX11_as_28 (Nat.le_of_ble_eq_true rfl) (Nat.le_of_ble_eq_true rfl)
    · -- kind 2
      have hknd := hcl9.1.symm.trans hkk
      have hPc : va_P E.1 vwCl [(Z 0 j1, .inr (8, cF Z j1))] H := cl_at hP oc_sub (by omega) hkk
      refine lv_astore_n (lv' := [(3, .ref (Z 0 j1)), (0, .ref (ca 0)), (1, .int (nI j1)), (2, .int v2)]) hx hb dX11_as_10 rfl hl (by decide) rfl (fun ls hl => ?_)
      refine lv_aload_n hx hb dX11_as_11 rfl (lv_at hl 0 rfl) ?_
      refine lv_ifnonnull (tgt := 17) hx hb dX11_as_12 (by decide) ?_
      refine lv_iload_n hx hb dX11_as_17 rfl (lv_at hl 3 rfl) ?_
      refine lv_if_lt (tgt := 26) hx hb dX11_as_18 (by decide) (fun c_7 => ?_) (fun c_7 => ?_)
      · -- t 26
        refine lv_bipush (v := -2) hx hb dX11_as_26 (by decide) ?_
        exact rw_i hC rfl hP hD hS (⟨by rw [asV, if_neg (by rw [nat_isP (by omega) hj1]; decide), if_pos (isIn_z1 (by assumption))], by rw [asV, if_neg (by rw [nat_isP (by omega) hj1]; decide), if_pos (isIn_z1 (by assumption))]⟩) dX11_as_28 (Nat.le_of_ble_eq_true rfl) (Nat.le_of_ble_eq_true rfl)
      · -- f 21
        refine lv_iload_n hx hb dX11_as_21 rfl (lv_at hl 3 rfl) ?_
        refine lv_iconst (v := nI 3) hx hb dX11_as_22 (by decide) ?_
        refine lv_icmp_lt (tgt := 29) hx hb dX11_as_23 (by decide) (fun c_8 => ?_) (fun c_8 => ?_)
        · -- t 29
          have hi2 : isIn v2 (nI 0) (nI 2) = true := lt3_isIn (by assumption) (by assumption)
          obtain ⟨k2, hk2, rfl⟩ := isIn_nat (by decide) hi2
          have hl : lv_has ls 4 [(3, .ref (Z 0 j1)), (0, .ref (ca 0)), (1, .int (nI j1)), (2, .int (nI k2))] := hl
          refine lv_aload_n hx hb dX11_as_29 rfl (lv_at hl 0 rfl) ?_
          refine cU_r (rest := []) hC (k_kind_10 l E (Z 0 j1) j1 (Z 2 j1) (Z 3 j1) (Z 4 j1) (Z 5 j1)) uy_kind_10 ⟨Nat.le_of_ble_eq_true rfl, Nat.le_of_ble_eq_true rfl⟩ ⟨rfl, rfl⟩ hK hPc (va_recv hK hPc (ci := 8) (q0 := 0) rfl rfl) rfl hl.1 rfl (Nat.le_of_ble_eq_true rfl) dX11_as_30 ⟨Nat.le_of_ble_eq_true rfl, Nat.le_of_ble_eq_true rfl⟩ ?_
          refine W.eq (g2 := F0 m 33 ls [.int (nI 2)]) rfl ?_
          refine lv_iload_n hx hb dX11_as_33 rfl (lv_at hl 3 rfl) ?_
          refine n_icmp_ge (tgt := 45) hx hb (by omega) (by omega) dX11_as_34 (by decide) (fun c_9 => ?_) (fun c_9 => ?_)
          · -- t 45
            refine lv_iconst (v := nI 1) hx hb dX11_as_45 (by decide) ?_
            exact rw_i hC rfl hP hD hS (⟨by rw [asV, if_neg (by rw [nat_isP (by omega) hj1]; decide), if_neg (by rw [hi2]; decide), nI_clamp (by omega), hknd, nI_clamp (by omega), if_neg (by omega)], by rw [asV, if_neg (by rw [nat_isP (by omega) hj1]; decide), if_neg (by rw [hi2]; decide), nI_clamp (by omega), hknd, nI_clamp (by omega), if_neg (by omega)]⟩) dX11_as_46 (Nat.le_of_ble_eq_true rfl) (Nat.le_of_ble_eq_true rfl)
          · -- f 37
            refine lv_aload_n hx hb dX11_as_37 rfl (lv_at hl 1 rfl) ?_
            refine lv_iconst (v := nI 2) hx hb dX11_as_38 (by decide) ?_
            refine cV_wr (X := []) (Y := mdC E (ca 2) md :: clL Z kk) (rest := []) hC (k_faulted l E ca ra ao (va_up C 5 0) 2 _) kw_156 iy_X11_faulted ⟨Nat.le_of_ble_eq_true rfl, Nat.le_of_ble_eq_true rfl⟩ ⟨rfl, rfl⟩ hK hP hD hS hA rfl (va_recv hK hP (ci := 9) (q0 := 0) rfl rfl) rfl hl.1 rfl (Nat.le_of_ble_eq_true rfl) dX11_as_39 ⟨Nat.le_of_ble_eq_true rfl, Nat.le_of_ble_eq_true rfl⟩ (fun v_ w_ H locs hpost hP hD hS => ?_)
            obtain ⟨rfl, rfl⟩ := hpost
            have hP : va_P E.1 vwCl (ocW E ca ra ao (va_up C 5 2) md Z kk) H := hP
            have hD : va_D A (ocW E ca ra ao (va_up C 5 2) md Z kk) := hD
            refine W.eq (g2 := F0 m 42 ls [.int ((-10) - nI 2)]) rfl ?_
            refine lv_goto (tgt := 46) hx hb dX11_as_42 (by decide) ?_
            exact rw_i hC rfl hP hD hS (⟨by rw [asV, if_neg (by rw [nat_isP (by omega) hj1]; decide), if_neg (by rw [hi2]; decide), nI_clamp (by omega), hknd, nI_clamp (by omega), if_pos (by omega)], by rw [asV, if_neg (by rw [nat_isP (by omega) hj1]; decide), if_neg (by rw [hi2]; decide), nI_clamp (by omega), hknd, nI_clamp (by omega), if_pos (by omega)]⟩) dX11_as_46 (Nat.le_of_ble_eq_true rfl) (Nat.le_of_ble_eq_true rfl)
        · -- f 26
          refine lv_bipush (v := -2) hx hb dX11_as_26 (by decide) ?_
          exact rw_i hC rfl hP hD hS (⟨by rw [asV, if_neg (by rw [nat_isP (by omega) hj1]; decide), if_pos (ge3_isIn (by assumption))], by rw [asV, if_neg (by rw [nat_isP (by omega) hj1]; decide), if_pos (ge3_isIn (by assumption))]⟩) dX11_as_28 (Nat.le_of_ble_eq_true rfl) (Nat.le_of_ble_eq_true rfl)
