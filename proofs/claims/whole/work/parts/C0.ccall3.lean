set_option maxHeartbeats 4000000 in
set_option maxRecDepth 100000 in
theorem k_newCall (l : Launch) (E : EE) (ca ra : Nat → Nat) (ao : Nat) (C : Nat → Nat) (nn kk : Nat) (net : Nat → Nat) (Z : Nat → Nat → Nat) (hc : CS nn kk net Z C) (nu p1 q1 : Nat) (hp1 : p1 < nn) (hq1 : q1 < nn) (hpq : p1 ≠ q1) (sz : Nat) : Wr l yX11_newCall cX11_newCall 6 (some (.object "CallRounds$Call")) rm_X11_newCall 1 5 E [(ca 0, .inr (9, [.ref (ca 1), .ref (ca 2), .int (nI (C 2)), .long (lN (C 3)), .long (lN (C 4)), .int (nI (C 5)), .ref (ca 3), .ref (ra 0), .ref ao, .ref (ca 4), .int (nI (C 10)), .ref (ca 5), .int (nI (C 12))]))] sz [.ref (ca 0), .int (nI nu), .int (nI p1), .int (nI q1)] (fun v1 w1 => ∃ q0 t0, v1 = some (.ref q0) ∧ w1 = [oC ca ra ao C, (q0, .inr (kci t0, [.int (nI nu), .int (nI p1), .int (nI q1), .long (lN (C 4)), .long (lN (rng (C 4) p1 q1))]))] ∧ (t0 = 0 ∨ t0 = 1 ∨ t0 = 2) ∧ t0 = (if of4 (C 4) p1 = of4 (C 4) q1 then 0 else if of4 (rng (C 4) p1 q1) p1 = 1 <<< nn - 1 then 2 else 1)) := by
  refine mk_wr (by decide) (Nat.le_of_ble_eq_true rfl) ?_
  intro p e s m args below meth c hC hin hK A hA hP hD hS ls hl
  obtain ⟨hx, hb, hr, hts, hown, hml, hlk, hN⟩ := id hC
  have hl : lv_has ls 6 [(0, .ref (ca 0)), (1, .int (nI nu)), (2, .int (nI p1)), (3, .int (nI q1))] := hl
  have hn4 := hc.n4; have hk12 := hc.k12; have hx3 := hc.st.lt; have hx4 := hc.nw.lt; have hp3 := hc.p3; have hp4 := hc.p4; have hcc := hc.cnt
  have hr9 := Ps_ring hn4 (hc.vs kk (Nat.le_refl kk)) hc.nw hp1 hq1 hpq; have hx9 := hr9.lt; have hps9 := hr9.ps
  obtain ⟨H, hH⟩ : ∃ z, z = s.heap := ⟨_, rfl⟩
  have hS : va_S A s.heap H [] := by rw [hH]; exact hS
  rw [← hH] at hP
  refine W_heap hH ?_
  obtain ⟨locs, hlo⟩ : ∃ z : List Loc, z = [] := ⟨_, rfl⟩
  rw [← hlo] at hS ⊢
  refine lv_aload_n hx hb dX11_newCall_0 rfl (lv_at hl 0 rfl) ?_
  refine va_get (D := E.1) (ci := 9) (v := .long (lN (C 4))) (C := RX11) (T := TX11) (N := 13) hx hb hts iX11 hown hK hP 0 rfl rfl 4 (by decide) (hts _ kw_108) (fun _ h9 => h9) rfl dX11_newCall_1 ?_
  refine lv_iload_n hx hb dX11_newCall_4 rfl (lv_at hl 2 rfl) ?_
  refine lv_iload_n hx hb dX11_newCall_5 rfl (lv_at hl 3 rfl) ?_
  refine cS_p (rest := []) hC (k_ring l (C 4) p1 q1 (by omega) (by omega) (by omega)) kw_268 sy_X5_ring ⟨Nat.le_of_ble_eq_true rfl, Nat.le_of_ble_eq_true rfl⟩ ⟨rfl, rfl⟩ rfl hl.1 rfl (Nat.le_of_ble_eq_true rfl) dX11_newCall_6 ⟨Nat.le_of_ble_eq_true rfl, Nat.le_of_ble_eq_true rfl⟩ ?_
  refine lv_lstore (lv' := [(4, .long (lN (rng (C 4) p1 q1))), (0, .ref (ca 0)), (1, .int (nI nu)), (2, .int (nI p1)), (3, .int (nI q1))]) hx hb dX11_newCall_9 hl (by decide) rfl (fun ls hl => ?_)
  refine lv_aload_n hx hb dX11_newCall_11 rfl (lv_at hl 1 rfl) ?_
  refine va_get (D := E.1) (ci := 9) (v := .long (lN (C 4))) (C := RX11) (T := TX11) (N := 13) hx hb hts iX11 hown hK hP 0 rfl rfl 4 (by decide) (hts _ kw_108) (fun _ h9 => h9) rfl dX11_newCall_12 ?_
  refine lv_iload_n hx hb dX11_newCall_15 rfl (lv_at hl 3 rfl) ?_
  refine cS_p (rest := []) hC (k_secretsOf l (C 4) p1 (by omega) (by omega)) kw_237 sy_X5_secretsOf ⟨Nat.le_of_ble_eq_true rfl, Nat.le_of_ble_eq_true rfl⟩ ⟨rfl, rfl⟩ rfl hl.1 rfl (Nat.le_of_ble_eq_true rfl) dX11_newCall_16 ⟨Nat.le_of_ble_eq_true rfl, Nat.le_of_ble_eq_true rfl⟩ ?_
  have f_1 := of4_lt (C 4) p1
  refine lv_aload_n hx hb dX11_newCall_19 rfl (lv_at hl 1 rfl) ?_
  refine va_get (D := E.1) (ci := 9) (v := .long (lN (C 4))) (C := RX11) (T := TX11) (N := 13) hx hb hts iX11 hown hK hP 0 rfl rfl 4 (by decide) (hts _ kw_108) (fun _ h9 => h9) rfl dX11_newCall_20 ?_
  refine lv_iload_n hx hb dX11_newCall_23 rfl (lv_at hl 4 rfl) ?_
  refine cS_p (rest := [.int (nI (of4 (C 4) p1))]) hC (k_secretsOf l (C 4) q1 (by omega) (by omega)) kw_237 sy_X5_secretsOf ⟨Nat.le_of_ble_eq_true rfl, Nat.le_of_ble_eq_true rfl⟩ ⟨rfl, rfl⟩ rfl hl.1 rfl (Nat.le_of_ble_eq_true rfl) dX11_newCall_24 ⟨Nat.le_of_ble_eq_true rfl, Nat.le_of_ble_eq_true rfl⟩ ?_
  have f_2 := of4_lt (C 4) q1
  refine n_icmp_ne (tgt := 47) hx hb (by omega) (by omega) dX11_newCall_27 (by decide) (fun c_3 => ?_) (fun c_3 => ?_)
  · -- t 47
    refine lv_lload hx hb dX11_newCall_47 (lv_at hl 0 rfl) ?_
    refine lv_iload_n hx hb dX11_newCall_49 rfl (lv_at hl 3 rfl) ?_
    refine cS_p (rest := []) hC (k_isExpert l (rng (C 4) p1 q1) p1 (by omega) (by omega) (by omega)) kw_243 sy_X5_isExpert ⟨Nat.le_of_ble_eq_true rfl, Nat.le_of_ble_eq_true rfl⟩ ⟨rfl, rfl⟩ rfl hl.1 rfl (Nat.le_of_ble_eq_true rfl) dX11_newCall_50 ⟨Nat.le_of_ble_eq_true rfl, Nat.le_of_ble_eq_true rfl⟩ ?_
    refine b_if_eq (tgt := 75) hx hb dX11_newCall_53 (by decide) (fun c_4 => ?_) (fun c_4 => ?_)
    · -- t 75
      refine va_new (ci := 3) (fs := [.int (nI 0), .int (nI 0), .int (nI 0), .long (lN 0), .long (lN 0)]) (C := RX4) (T := TX4) (N := 5) hx hb hts iX4 tyX4 tyX4_ok hown (hts _ kw_320) (hts _ kw_321) (hts _ kw_10) hK hP hD hS hA rfl (fun j hj => by rcases (show j = 0 ∨ j = 1 ∨ j = 2 ∨ j = 3 ∨ j = 4 by omega) with rfl | rfl | rfl | rfl | rfl <;> rfl) (Nat.le_of_ble_eq_true rfl) (Nat.le_of_ble_eq_true rfl) dX11_newCall_75 (fun q_5 H hP hD hS => ?_)
      have hP : va_P E.1 vwCl [(ca 0, .inr (9, [.ref (ca 1), .ref (ca 2), .int (nI (C 2)), .long (lN (C 3)), .long (lN (C 4)), .int (nI (C 5)), .ref (ca 3), .ref (ra 0), .ref ao, .ref (ca 4), .int (nI (C 10)), .ref (ca 5), .int (nI (C 12))])), (q_5, .inr (3, [.int (nI 0), .int (nI 0), .int (nI 0), .long (lN 0), .long (lN 0)]))] H := hP
      have hD : va_D A [(ca 0, .inr (9, [.ref (ca 1), .ref (ca 2), .int (nI (C 2)), .long (lN (C 3)), .long (lN (C 4)), .int (nI (C 5)), .ref (ca 3), .ref (ra 0), .ref ao, .ref (ca 4), .int (nI (C 10)), .ref (ca 5), .int (nI (C 12))])), (q_5, .inr (3, [.int (nI 0), .int (nI 0), .int (nI 0), .long (lN 0), .long (lN 0)]))] := hD
      refine W.widen (k := 1) (n := 5) (Nat.le_of_ble_eq_true rfl) (Nat.le_of_ble_eq_true rfl) ?_
      refine lv_dup hx hb dX11_newCall_78 rfl ?_
      refine lv_iload_n hx hb dX11_newCall_79 rfl (lv_at hl 2 rfl) ?_
      refine lv_iload_n hx hb dX11_newCall_80 rfl (lv_at hl 3 rfl) ?_
      refine lv_iload_n hx hb dX11_newCall_81 rfl (lv_at hl 4 rfl) ?_
      refine lv_aload_n hx hb dX11_newCall_82 rfl (lv_at hl 1 rfl) ?_
      refine va_get (D := E.1) (ci := 9) (v := .long (lN (C 4))) (C := RX11) (T := TX11) (N := 13) hx hb hts iX11 hown hK hP 0 rfl rfl 4 (by decide) (hts _ kw_108) (fun _ h9 => h9) rfl dX11_newCall_83 ?_
      refine lv_lload hx hb dX11_newCall_86 (lv_at hl 0 rfl) ?_
      refine cI_wr (X := [(ca 0, .inr (9, [.ref (ca 1), .ref (ca 2), .int (nI (C 2)), .long (lN (C 3)), .long (lN (C 4)), .int (nI (C 5)), .ref (ca 3), .ref (ra 0), .ref ao, .ref (ca 4), .int (nI (C 10)), .ref (ca 5), .int (nI (C 12))]))]) (Y := []) (rest := [.ref q_5]) hC (k_ni_4 l E q_5 _ nu p1 q1 (C 4) (rng (C 4) p1 q1)) kw_322 ny_X4_init ⟨Nat.le_of_ble_eq_true rfl, Nat.le_of_ble_eq_true rfl⟩ ⟨rfl, rfl⟩ hK hP hD hS hA rfl rfl hl.1 rfl (Nat.le_of_ble_eq_true rfl) dX11_newCall_88 ⟨Nat.le_of_ble_eq_true rfl, Nat.le_of_ble_eq_true rfl⟩ (fun v_ w_ H locs hpost hP hD hS => ?_)
      obtain ⟨rfl, rfl⟩ := hpost
      have hP : va_P E.1 vwCl [(ca 0, .inr (9, [.ref (ca 1), .ref (ca 2), .int (nI (C 2)), .long (lN (C 3)), .long (lN (C 4)), .int (nI (C 5)), .ref (ca 3), .ref (ra 0), .ref ao, .ref (ca 4), .int (nI (C 10)), .ref (ca 5), .int (nI (C 12))])), (q_5, .inr (3, [.int (nI nu), .int (nI p1), .int (nI q1), .long (lN (C 4)), .long (lN (rng (C 4) p1 q1))]))] H := hP
      have hD : va_D A [(ca 0, .inr (9, [.ref (ca 1), .ref (ca 2), .int (nI (C 2)), .long (lN (C 3)), .long (lN (C 4)), .int (nI (C 5)), .ref (ca 3), .ref (ra 0), .ref ao, .ref (ca 4), .int (nI (C 10)), .ref (ca 5), .int (nI (C 12))])), (q_5, .inr (3, [.int (nI nu), .int (nI p1), .int (nI q1), .long (lN (C 4)), .long (lN (rng (C 4) p1 q1))]))] := hD
      refine W.widen (k := 1) (n := 5) (Nat.le_of_ble_eq_true rfl) (Nat.le_of_ble_eq_true rfl) ?_
      refine W.eq (g2 := F0 m 91 ls [.ref q_5]) rfl ?_
      exact rw_a hC (Or.inl ⟨_, rfl⟩) (Or.inr ⟨_, rfl⟩) hP hD hS (⟨q_5, 1, rfl, rfl, by omega, by rw [if_neg c_3, if_neg (fun h9 => of_decide_eq_false c_4 (by rw [hps9]; exact h9))]⟩) dX11_newCall_91 (Nat.le_of_ble_eq_true rfl) (Nat.le_of_ble_eq_true rfl)
    · -- f 56
      refine va_new (ci := 8) (fs := [.int (nI 0), .int (nI 0), .int (nI 0), .long (lN 0), .long (lN 0)]) (C := RX10) (T := TX10) (N := 5) hx hb hts iX10 tyX10 tyX10_ok hown (hts _ kw_305) (hts _ kw_306) (hts _ kw_11) hK hP hD hS hA rfl (fun j hj => by rcases (show j = 0 ∨ j = 1 ∨ j = 2 ∨ j = 3 ∨ j = 4 by omega) with rfl | rfl | rfl | rfl | rfl <;> rfl) (Nat.le_of_ble_eq_true rfl) (Nat.le_of_ble_eq_true rfl) dX11_newCall_56 (fun q_6 H hP hD hS => ?_)
      have hP : va_P E.1 vwCl [(ca 0, .inr (9, [.ref (ca 1), .ref (ca 2), .int (nI (C 2)), .long (lN (C 3)), .long (lN (C 4)), .int (nI (C 5)), .ref (ca 3), .ref (ra 0), .ref ao, .ref (ca 4), .int (nI (C 10)), .ref (ca 5), .int (nI (C 12))])), (q_6, .inr (8, [.int (nI 0), .int (nI 0), .int (nI 0), .long (lN 0), .long (lN 0)]))] H := hP
      have hD : va_D A [(ca 0, .inr (9, [.ref (ca 1), .ref (ca 2), .int (nI (C 2)), .long (lN (C 3)), .long (lN (C 4)), .int (nI (C 5)), .ref (ca 3), .ref (ra 0), .ref ao, .ref (ca 4), .int (nI (C 10)), .ref (ca 5), .int (nI (C 12))])), (q_6, .inr (8, [.int (nI 0), .int (nI 0), .int (nI 0), .long (lN 0), .long (lN 0)]))] := hD
      refine W.widen (k := 1) (n := 5) (Nat.le_of_ble_eq_true rfl) (Nat.le_of_ble_eq_true rfl) ?_
      refine lv_dup hx hb dX11_newCall_59 rfl ?_
      refine lv_iload_n hx hb dX11_newCall_60 rfl (lv_at hl 2 rfl) ?_
      refine lv_iload_n hx hb dX11_newCall_61 rfl (lv_at hl 3 rfl) ?_
      refine lv_iload_n hx hb dX11_newCall_62 rfl (lv_at hl 4 rfl) ?_
      refine lv_aload_n hx hb dX11_newCall_63 rfl (lv_at hl 1 rfl) ?_
      refine va_get (D := E.1) (ci := 9) (v := .long (lN (C 4))) (C := RX11) (T := TX11) (N := 13) hx hb hts iX11 hown hK hP 0 rfl rfl 4 (by decide) (hts _ kw_108) (fun _ h9 => h9) rfl dX11_newCall_64 ?_
      refine lv_lload hx hb dX11_newCall_67 (lv_at hl 0 rfl) ?_
      refine cI_wr (X := [(ca 0, .inr (9, [.ref (ca 1), .ref (ca 2), .int (nI (C 2)), .long (lN (C 3)), .long (lN (C 4)), .int (nI (C 5)), .ref (ca 3), .ref (ra 0), .ref ao, .ref (ca 4), .int (nI (C 10)), .ref (ca 5), .int (nI (C 12))]))]) (Y := []) (rest := [.ref q_6]) hC (k_wi_10 l E q_6 _ nu p1 q1 (C 4) (rng (C 4) p1 q1)) kw_307 ny_X10_init ⟨Nat.le_of_ble_eq_true rfl, Nat.le_of_ble_eq_true rfl⟩ ⟨rfl, rfl⟩ hK hP hD hS hA rfl rfl hl.1 rfl (Nat.le_of_ble_eq_true rfl) dX11_newCall_69 ⟨Nat.le_of_ble_eq_true rfl, Nat.le_of_ble_eq_true rfl⟩ (fun v_ w_ H locs hpost hP hD hS => ?_)
      obtain ⟨rfl, rfl⟩ := hpost
      have hP : va_P E.1 vwCl [(ca 0, .inr (9, [.ref (ca 1), .ref (ca 2), .int (nI (C 2)), .long (lN (C 3)), .long (lN (C 4)), .int (nI (C 5)), .ref (ca 3), .ref (ra 0), .ref ao, .ref (ca 4), .int (nI (C 10)), .ref (ca 5), .int (nI (C 12))])), (q_6, .inr (8, [.int (nI nu), .int (nI p1), .int (nI q1), .long (lN (C 4)), .long (lN (rng (C 4) p1 q1))]))] H := hP
      have hD : va_D A [(ca 0, .inr (9, [.ref (ca 1), .ref (ca 2), .int (nI (C 2)), .long (lN (C 3)), .long (lN (C 4)), .int (nI (C 5)), .ref (ca 3), .ref (ra 0), .ref ao, .ref (ca 4), .int (nI (C 10)), .ref (ca 5), .int (nI (C 12))])), (q_6, .inr (8, [.int (nI nu), .int (nI p1), .int (nI q1), .long (lN (C 4)), .long (lN (rng (C 4) p1 q1))]))] := hD
      refine W.widen (k := 1) (n := 5) (Nat.le_of_ble_eq_true rfl) (Nat.le_of_ble_eq_true rfl) ?_
      refine W.eq (g2 := F0 m 72 ls [.ref q_6]) rfl ?_
      refine lv_goto (tgt := 91) hx hb dX11_newCall_72 (by decide) ?_
      exact rw_a hC (Or.inl ⟨_, rfl⟩) (Or.inr ⟨_, rfl⟩) hP hD hS (⟨q_6, 2, rfl, rfl, by omega, by rw [if_neg c_3, if_pos (by rw [← hps9]; exact of_decide_eq_true c_4)]⟩) dX11_newCall_91 (Nat.le_of_ble_eq_true rfl) (Nat.le_of_ble_eq_true rfl)
  · -- f 30
    refine va_new (ci := 1) (fs := [.int (nI 0), .int (nI 0), .int (nI 0), .long (lN 0), .long (lN 0)]) (C := RX1) (T := TX1) (N := 5) hx hb hts iX1 tyX1 tyX1_ok hown (hts _ kw_28) (hts _ kw_273) (hts _ kw_9) hK hP hD hS hA rfl (fun j hj => by rcases (show j = 0 ∨ j = 1 ∨ j = 2 ∨ j = 3 ∨ j = 4 by omega) with rfl | rfl | rfl | rfl | rfl <;> rfl) (Nat.le_of_ble_eq_true rfl) (Nat.le_of_ble_eq_true rfl) dX11_newCall_30 (fun q_7 H hP hD hS => ?_)
    have hP : va_P E.1 vwCl [(ca 0, .inr (9, [.ref (ca 1), .ref (ca 2), .int (nI (C 2)), .long (lN (C 3)), .long (lN (C 4)), .int (nI (C 5)), .ref (ca 3), .ref (ra 0), .ref ao, .ref (ca 4), .int (nI (C 10)), .ref (ca 5), .int (nI (C 12))])), (q_7, .inr (1, [.int (nI 0), .int (nI 0), .int (nI 0), .long (lN 0), .long (lN 0)]))] H := hP
    have hD : va_D A [(ca 0, .inr (9, [.ref (ca 1), .ref (ca 2), .int (nI (C 2)), .long (lN (C 3)), .long (lN (C 4)), .int (nI (C 5)), .ref (ca 3), .ref (ra 0), .ref ao, .ref (ca 4), .int (nI (C 10)), .ref (ca 5), .int (nI (C 12))])), (q_7, .inr (1, [.int (nI 0), .int (nI 0), .int (nI 0), .long (lN 0), .long (lN 0)]))] := hD
    refine W.widen (k := 1) (n := 5) (Nat.le_of_ble_eq_true rfl) (Nat.le_of_ble_eq_true rfl) ?_
    refine lv_dup hx hb dX11_newCall_33 rfl ?_
    refine lv_iload_n hx hb dX11_newCall_34 rfl (lv_at hl 2 rfl) ?_
    refine lv_iload_n hx hb dX11_newCall_35 rfl (lv_at hl 3 rfl) ?_
    refine lv_iload_n hx hb dX11_newCall_36 rfl (lv_at hl 4 rfl) ?_
    refine lv_aload_n hx hb dX11_newCall_37 rfl (lv_at hl 1 rfl) ?_
    refine va_get (D := E.1) (ci := 9) (v := .long (lN (C 4))) (C := RX11) (T := TX11) (N := 13) hx hb hts iX11 hown hK hP 0 rfl rfl 4 (by decide) (hts _ kw_108) (fun _ h9 => h9) rfl dX11_newCall_38 ?_
    refine lv_lload hx hb dX11_newCall_41 (lv_at hl 0 rfl) ?_
    refine cI_wr (X := [(ca 0, .inr (9, [.ref (ca 1), .ref (ca 2), .int (nI (C 2)), .long (lN (C 3)), .long (lN (C 4)), .int (nI (C 5)), .ref (ca 3), .ref (ra 0), .ref ao, .ref (ca 4), .int (nI (C 10)), .ref (ca 5), .int (nI (C 12))]))]) (Y := []) (rest := [.ref q_7]) hC (k_ci_1 l E q_7 _ nu p1 q1 (C 4) (rng (C 4) p1 q1)) kw_274 ny_X1_init ⟨Nat.le_of_ble_eq_true rfl, Nat.le_of_ble_eq_true rfl⟩ ⟨rfl, rfl⟩ hK hP hD hS hA rfl rfl hl.1 rfl (Nat.le_of_ble_eq_true rfl) dX11_newCall_43 ⟨Nat.le_of_ble_eq_true rfl, Nat.le_of_ble_eq_true rfl⟩ (fun v_ w_ H locs hpost hP hD hS => ?_)
    obtain ⟨rfl, rfl⟩ := hpost
    have hP : va_P E.1 vwCl [(ca 0, .inr (9, [.ref (ca 1), .ref (ca 2), .int (nI (C 2)), .long (lN (C 3)), .long (lN (C 4)), .int (nI (C 5)), .ref (ca 3), .ref (ra 0), .ref ao, .ref (ca 4), .int (nI (C 10)), .ref (ca 5), .int (nI (C 12))])), (q_7, .inr (1, [.int (nI nu), .int (nI p1), .int (nI q1), .long (lN (C 4)), .long (lN (rng (C 4) p1 q1))]))] H := hP
    have hD : va_D A [(ca 0, .inr (9, [.ref (ca 1), .ref (ca 2), .int (nI (C 2)), .long (lN (C 3)), .long (lN (C 4)), .int (nI (C 5)), .ref (ca 3), .ref (ra 0), .ref ao, .ref (ca 4), .int (nI (C 10)), .ref (ca 5), .int (nI (C 12))])), (q_7, .inr (1, [.int (nI nu), .int (nI p1), .int (nI q1), .long (lN (C 4)), .long (lN (rng (C 4) p1 q1))]))] := hD
    refine W.widen (k := 1) (n := 5) (Nat.le_of_ble_eq_true rfl) (Nat.le_of_ble_eq_true rfl) ?_
    refine W.eq (g2 := F0 m 46 ls [.ref q_7]) rfl ?_
    exact rw_a hC (Or.inl ⟨_, rfl⟩) (Or.inr ⟨_, rfl⟩) hP hD hS (⟨q_7, 0, rfl, rfl, by omega, by rw [if_pos c_3]⟩) dX11_newCall_46 (Nat.le_of_ble_eq_true rfl) (Nat.le_of_ble_eq_true rfl)

set_option maxHeartbeats 4000000 in
set_option maxRecDepth 100000 in
theorem k_call (l : Launch) (E : EE) (ca ra : Nat → Nat) (ao : Nat) (C : Nat → Nat) (a1 a2 a3 fo sc : Nat) (Rw Su Si : Nat → Nat) (md : Nat → Option Nat) (nn kk : Nat) (net : Nat → Nat) (Z : Nat → Nat → Nat) (hc : CS nn kk net Z C) (hmd : ∀ i, i < kk → md i = some (Z 0 i)) (hAI : AI nn kk net Z fo Rw Su Si) (v1 v2 : Int32) (sz : Nat) : Wr l yX11_call cX11_call 4 (some .int) rm_X11_call 1 5 E (ofW E ca ra ao C a1 a2 a3 fo sc Rw Su Si md Z kk) sz [.ref (ca 0), .int v1, .int v2] (fun v4 w1 => v4 = some (.int (s_call nn kk net (Z 2) (Z 3) v1 v2)) ∧ CLP E ca ra ao C a1 a2 a3 Z nn kk net (if callOK nn kk net (Z 2) (Z 3) v1 v2 = true then kk + 1 else kk) (if callOK nn kk net (Z 2) (Z 3) v1 v2 = true then va_up (Z 2) kk v1.toNatClampNeg else Z 2) (if callOK nn kk net (Z 2) (Z 3) v1 v2 = true then va_up (Z 3) kk v2.toNatClampNeg else Z 3) w1) := by
  refine mk_wr (by decide) (Nat.le_of_ble_eq_true rfl) ?_
  intro p e s m args below meth c hC hin hK A hA hP hD hS ls hl
  obtain ⟨hx, hb, hr, hts, hown, hml, hlk, hN⟩ := id hC
  have hl : lv_has ls 4 [(0, .ref (ca 0)), (1, .int v1), (2, .int v2)] := hl
  have hn4 := hc.n4; have hk12 := hc.k12; have hx3 := hc.st.lt; have hx4 := hc.nw.lt; have hp3 := hc.p3; have hp4 := hc.p4; have hcc := hc.cnt
  obtain ⟨H, hH⟩ : ∃ z, z = s.heap := ⟨_, rfl⟩
  have hS : va_S A s.heap H [] := by rw [hH]; exact hS
  rw [← hH] at hP
  refine W_heap hH ?_
  obtain ⟨locs, hlo⟩ : ∃ z : List Loc, z = [] := ⟨_, rfl⟩
  rw [← hlo] at hS ⊢
  refine lv_aload_n hx hb dX11_call_0 rfl (lv_at hl 0 rfl) ?_
  refine lv_iload_n hx hb dX11_call_1 rfl (lv_at hl 1 rfl) ?_
  refine cV_r (rest := []) hC (k_isPerson l E ca ra ao C nn kk net Z hc v1) kw_230 iy_X11_isPerson ⟨Nat.le_of_ble_eq_true rfl, Nat.le_of_ble_eq_true rfl⟩ ⟨rfl, rfl⟩ hK (show va_P E.1 vwCl (oW ca ra ao C) H from va_P_mem.mpr fun q9 h9 => va_P_mem.mp hP q9 (by rw [List.mem_singleton.mp h9]; exact List.mem_cons_self)) (va_recv hK hP (ci := 9) (q0 := 0) rfl rfl) rfl hl.1 rfl (Nat.le_of_ble_eq_true rfl) dX11_call_2 ⟨Nat.le_of_ble_eq_true rfl, Nat.le_of_ble_eq_true rfl⟩ ?_
  refine b_if_eq (tgt := 16) hx hb dX11_call_5 (by decide) (fun c_1 => ?_) (fun c_1 => ?_)
  · -- t 16
    refine lv_iconst (v := -1) hx hb dX11_call_16 (by decide) ?_
    exact rw_i hC rfl hP hD hS (⟨by rw [s_call, if_pos c_1], by rw [show callOK nn kk net (Z 2) (Z 3) v1 v2 = false from by unfold callOK; rw [c_1]; rfl]; exact ⟨C, fo, sc, Rw, Su, Si, md, Z, rfl, hc, hmd, hAI, rfl, rfl, fun _ _ _ => rfl⟩⟩) dX11_call_17 (Nat.le_of_ble_eq_true rfl) (Nat.le_of_ble_eq_true rfl)
  · -- f 8
    obtain ⟨p1, hp1, rfl⟩ := isP_nat (by omega) c_1
    have hl : lv_has ls 4 [(0, .ref (ca 0)), (1, .int (nI p1)), (2, .int v2)] := hl
    refine lv_aload_n hx hb dX11_call_8 rfl (lv_at hl 0 rfl) ?_
    refine lv_iload_n hx hb dX11_call_9 rfl (lv_at hl 2 rfl) ?_
    refine cV_r (rest := []) hC (k_isPerson l E ca ra ao C nn kk net Z hc v2) kw_230 iy_X11_isPerson ⟨Nat.le_of_ble_eq_true rfl, Nat.le_of_ble_eq_true rfl⟩ ⟨rfl, rfl⟩ hK (show va_P E.1 vwCl (oW ca ra ao C) H from va_P_mem.mpr fun q9 h9 => va_P_mem.mp hP q9 (by rw [List.mem_singleton.mp h9]; exact List.mem_cons_self)) (va_recv hK hP (ci := 9) (q0 := 0) rfl rfl) rfl hl.1 rfl (Nat.le_of_ble_eq_true rfl) dX11_call_10 ⟨Nat.le_of_ble_eq_true rfl, Nat.le_of_ble_eq_true rfl⟩ ?_
    refine b_if_ne (tgt := 18) hx hb dX11_call_13 (by decide) (fun c_2 => ?_) (fun c_2 => ?_)
    · -- t 18
      obtain ⟨q1, hq1, rfl⟩ := isP_nat (by omega) c_2
      have hl : lv_has ls 4 [(0, .ref (ca 0)), (1, .int (nI p1)), (2, .int (nI q1))] := hl
      refine lv_iload_n hx hb dX11_call_18 rfl (lv_at hl 1 rfl) ?_
      refine lv_iload_n hx hb dX11_call_19 rfl (lv_at hl 2 rfl) ?_
      refine n_icmp_ne (tgt := 26) hx hb (by omega) (by omega) dX11_call_20 (by decide) (fun c_3 => ?_) (fun c_3 => ?_)
      · -- t 26
        have hpq : p1 ≠ q1 := (by omega)
        refine lv_aload_n hx hb dX11_call_26 rfl (lv_at hl 0 rfl) ?_
        refine va_get (D := E.1) (ci := 9) (v := .long (lN (C 4))) (C := RX11) (T := TX11) (N := 13) hx hb hts iX11 hown hK hP 0 rfl rfl 4 (by decide) (hts _ kw_108) (fun _ h9 => h9) rfl dX11_call_27 ?_
        refine lv_iload_n hx hb dX11_call_30 rfl (lv_at hl 1 rfl) ?_
        refine cS_p (rest := []) hC (k_numbersOf l (C 4) p1 (by omega) (by omega)) kw_240 sy_X5_numbersOf ⟨Nat.le_of_ble_eq_true rfl, Nat.le_of_ble_eq_true rfl⟩ ⟨rfl, rfl⟩ rfl hl.1 rfl (Nat.le_of_ble_eq_true rfl) dX11_call_31 ⟨Nat.le_of_ble_eq_true rfl, Nat.le_of_ble_eq_true rfl⟩ ?_
        have f_4 := nO_lt (C 4) p1
        refine lv_iload_n hx hb dX11_call_34 rfl (lv_at hl 2 rfl) ?_
        refine cS_p (rest := []) hC (k_contains l (nO (C 4) p1) q1 (by omega) (by omega)) kw_261 sy_X11_contains ⟨Nat.le_of_ble_eq_true rfl, Nat.le_of_ble_eq_true rfl⟩ ⟨rfl, rfl⟩ rfl hl.1 rfl (Nat.le_of_ble_eq_true rfl) dX11_call_35 ⟨Nat.le_of_ble_eq_true rfl, Nat.le_of_ble_eq_true rfl⟩ ?_
        refine b_if_ne (tgt := 44) hx hb dX11_call_38 (by decide) (fun c_5 => ?_) (fun c_5 => ?_)
        · -- t 44
          have hbit := (congrArg (fun z => z.testBit q1) (hc.numk hp1)).symm.trans c_5
          refine lv_aload_n hx hb dX11_call_44 rfl (lv_at hl 0 rfl) ?_
          refine va_get (D := E.1) (ci := 9) (v := .int (nI (C 2))) (C := RX11) (T := TX11) (N := 13) hx hb hts iX11 hown hK hP 0 rfl rfl 2 (by decide) (hts _ kw_106) (fun _ h9 => h9) rfl dX11_call_45 ?_
          refine lv_bipush (v := nI 12) hx hb dX11_call_48 (by decide) ?_
          refine n_icmp_lt (tgt := 56) hx hb (by omega) (by omega) dX11_call_50 (by decide) (fun c_6 => ?_) (fun c_6 => ?_)
          · -- t 56
            refine lv_aload_n hx hb dX11_call_56 rfl (lv_at hl 0 rfl) ?_
            refine va_get (D := E.1) (ci := 9) (v := .int (nI (C 2))) (C := RX11) (T := TX11) (N := 13) hx hb hts iX11 hown hK hP 0 rfl rfl 2 (by decide) (hts _ kw_106) (fun _ h9 => h9) rfl dX11_call_57 ?_
            refine top_i (congrArg nI hcc) ?_
            refine lv_istore_n (lv' := [(3, .int (nI kk)), (0, .ref (ca 0)), (1, .int (nI p1)), (2, .int (nI q1))]) hx hb dX11_call_60 rfl hl (by decide) rfl (fun ls hl => ?_)
            refine lv_aload_n hx hb dX11_call_61 rfl (lv_at hl 1 rfl) ?_
            refine va_get (D := E.1) (ci := 9) (v := .ref (ca 2)) (C := RX11) (T := TX11) (N := 13) hx hb hts iX11 hown hK hP 0 rfl rfl 1 (by decide) (hts _ kw_105) (fun _ h9 => h9) rfl dX11_call_62 ?_
            refine lv_iload_n hx hb dX11_call_65 rfl (lv_at hl 0 rfl) ?_
            refine lv_aload_n hx hb dX11_call_66 rfl (lv_at hl 1 rfl) ?_
            refine lv_iload_n hx hb dX11_call_67 rfl (lv_at hl 0 rfl) ?_
            refine lv_iload_n hx hb dX11_call_68 rfl (lv_at hl 2 rfl) ?_
            refine lv_iload_n hx hb dX11_call_69 rfl (lv_at hl 3 rfl) ?_
            refine cV_wr (X := []) (Y := fdW E ao a1 a2 a3 fo sc Rw Su Si (ca 2) md Z kk) (rest := [.int (nI kk), .ref (ca 2)]) hC (k_newCall l E ca ra ao C nn kk net Z hc kk p1 q1 hp1 hq1 hpq _) kw_264 iy_X11_newCall ⟨Nat.le_of_ble_eq_true rfl, Nat.le_of_ble_eq_true rfl⟩ ⟨rfl, rfl⟩ hK hP hD hS hA rfl (va_recv hK hP (ci := 9) (q0 := 0) rfl rfl) rfl hl.1 rfl (Nat.le_of_ble_eq_true rfl) dX11_call_70 ⟨Nat.le_of_ble_eq_true rfl, Nat.le_of_ble_eq_true rfl⟩ (fun v_ w_ H locs hpost hP hD hS => ?_)
            obtain ⟨q0, t0, rfl, rfl, ht3, ht0⟩ := hpost
            refine W.widen (k := 1) (n := 5) (Nat.le_of_ble_eq_true rfl) (Nat.le_of_ble_eq_true rfl) ?_
            refine W.eq (g2 := F0 m 73 ls [.ref q0, .int (nI kk), .ref (ca 2)]) rfl ?_
            rcases ht3 with rfl | rfl | rfl
            · -- kind 0
              have hP : va_P E.1 vwCl (oC ca ra ao C :: (q0, .inr (1, [.int (nI kk), .int (nI p1), .int (nI q1), .long (lN (C 4)), .long (lN (rng (C 4) p1 q1))])) :: fdW E ao a1 a2 a3 fo sc Rw Su Si (ca 2) md Z kk) H := hP
              have hD : va_D A (oC ca ra ao C :: (q0, .inr (1, [.int (nI kk), .int (nI p1), .int (nI q1), .long (lN (C 4)), .long (lN (rng (C 4) p1 q1))])) :: fdW E ao a1 a2 a3 fo sc Rw Su Si (ca 2) md Z kk) := hD
              refine va_astq hx hb hK hP hD hS 6 4 1 1 rfl rfl rfl rfl (vp_in_nI (by omega) (by decide)) dX11_call_73 (fun H locs hP hD hS => ?_)
              rw [nI_clamp (by omega)] at hP hD
              have hP : va_P E.1 vwCl (oC ca ra ao C :: (q0, .inr (1, [.int (nI kk), .int (nI p1), .int (nI q1), .long (lN (C 4)), .long (lN (rng (C 4) p1 q1))])) :: (alW E ao a1 a2 a3 fo sc Rw Su Si ++ (mdC E (ca 2) (va_up md kk (some q0)) :: clL Z kk))) H := hP
              have hD : va_D A (oC ca ra ao C :: (q0, .inr (1, [.int (nI kk), .int (nI p1), .int (nI q1), .long (lN (C 4)), .long (lN (rng (C 4) p1 q1))])) :: (alW E ao a1 a2 a3 fo sc Rw Su Si ++ (mdC E (ca 2) (va_up md kk (some q0)) :: clL Z kk))) := hD
              have hP := P_perm call_perm hP
              have hD := D_perm call_perm hD
              have hP : va_P E.1 vwCl (ofW E ca ra ao C a1 a2 a3 fo sc Rw Su Si (va_up md kk (some q0)) (fun c => va_up (Z c) kk (cvv q0 0 p1 q1 (C 4) (rng (C 4) p1 q1) c)) (kk + 1)) H := (by show va_P E.1 vwCl (oC ca ra ao C :: (alW E ao a1 a2 a3 fo sc Rw Su Si ++ (mdC E (ca 2) (va_up md kk (some q0)) :: clL (fun c => va_up (Z c) kk (cvv q0 0 p1 q1 (C 4) (rng (C 4) p1 q1) c)) (kk + 1)))) H; rw [clL_new]; exact hP)
              have hD : va_D A (ofW E ca ra ao C a1 a2 a3 fo sc Rw Su Si (va_up md kk (some q0)) (fun c => va_up (Z c) kk (cvv q0 0 p1 q1 (C 4) (rng (C 4) p1 q1) c)) (kk + 1)) := (by show va_D A (oC ca ra ao C :: (alW E ao a1 a2 a3 fo sc Rw Su Si ++ (mdC E (ca 2) (va_up md kk (some q0)) :: clL (fun c => va_up (Z c) kk (cvv q0 0 p1 q1 (C 4) (rng (C 4) p1 q1) c)) (kk + 1)))); rw [clL_new]; exact hD)
              refine lv_aload_n hx hb dX11_call_74 rfl (lv_at hl 1 rfl) ?_
              refine lv_iload_n hx hb dX11_call_75 rfl (lv_at hl 0 rfl) ?_
              refine lv_iconst (v := nI 1) hx hb dX11_call_76 (by decide) ?_
              refine n_iadd hx hb dX11_call_77 ?_
              refine va_put (D := E.1) (ci := 9) (v := .int (nI (kk + 1))) (ty := .int) (C := RX11) (T := TX11) (N := 13) hx hb hts iX11 tyX11 tyX11_ok nmX11 hown hK hP hD hS 0 rfl rfl 2 (by decide) (hts _ kw_106) (fun _ h9 => h9) rfl (by decide +kernel) rfl rfl (Nat.le_of_ble_eq_true rfl) dX11_call_78 (fun H locs hP hD hS => ?_)
              have hP : va_P E.1 vwCl (ofW E ca ra ao (va_up C 2 (kk + 1)) a1 a2 a3 fo sc Rw Su Si (va_up md kk (some q0)) (fun c => va_up (Z c) kk (cvv q0 0 p1 q1 (C 4) (rng (C 4) p1 q1) c)) (kk + 1)) H := hP
              have hD : va_D A (ofW E ca ra ao (va_up C 2 (kk + 1)) a1 a2 a3 fo sc Rw Su Si (va_up md kk (some q0)) (fun c => va_up (Z c) kk (cvv q0 0 p1 q1 (C 4) (rng (C 4) p1 q1) c)) (kk + 1)) := hD
              refine lv_aload_n hx hb dX11_call_81 rfl (lv_at hl 1 rfl) ?_
              refine lv_aload_n hx hb dX11_call_82 rfl (lv_at hl 1 rfl) ?_
              refine va_get (D := E.1) (ci := 9) (v := .long (lN (C 4))) (C := RX11) (T := TX11) (N := 13) hx hb hts iX11 hown hK hP 0 rfl rfl 4 (by decide) (hts _ kw_108) (fun _ h9 => h9) rfl dX11_call_83 ?_
              refine lv_iload_n hx hb dX11_call_86 rfl (lv_at hl 2 rfl) ?_
              refine lv_iload_n hx hb dX11_call_87 rfl (lv_at hl 3 rfl) ?_
              refine cS_p (rest := [.ref (ca 0)]) hC (k_ring l (C 4) p1 q1 (by omega) (by omega) (by omega)) kw_268 sy_X5_ring ⟨Nat.le_of_ble_eq_true rfl, Nat.le_of_ble_eq_true rfl⟩ ⟨rfl, rfl⟩ rfl hl.1 rfl (Nat.le_of_ble_eq_true rfl) dX11_call_88 ⟨Nat.le_of_ble_eq_true rfl, Nat.le_of_ble_eq_true rfl⟩ ?_
              refine cV_wr (X := []) (Y := [(a1, .inl (E.2 1, 4, .inl (fun j => nI (Rw j)))), (a2, .inl (E.2 1, 4, .inl (fun j => nI (Su j)))), (a3, .inl (E.2 1, 4, .inl (fun j => nI (Si j))))] ++ (mdC E (ca 2) (va_up md kk (some q0)) :: clL (fun c => va_up (Z c) kk (cvv q0 0 p1 q1 (C 4) (rng (C 4) p1 q1) c)) (kk + 1))) (rest := []) hC (k_moveTo l E ca ra ao (va_up C 2 (kk + 1)) a1 a2 a3 fo sc (rng (C 4) p1 q1) _) kw_218 iy_X11_moveTo ⟨Nat.le_of_ble_eq_true rfl, Nat.le_of_ble_eq_true rfl⟩ ⟨rfl, rfl⟩ hK hP hD hS hA rfl (va_recv hK hP (ci := 9) (q0 := 0) rfl rfl) rfl hl.1 rfl (Nat.le_of_ble_eq_true rfl) dX11_call_91 ⟨Nat.le_of_ble_eq_true rfl, Nat.le_of_ble_eq_true rfl⟩ (fun v_ w_ H locs hpost hP hD hS => ?_)
              obtain ⟨rfl, rfl⟩ := hpost
              have hP : va_P E.1 vwCl (ofW E ca ra ao (va_up (va_up C 2 (kk + 1)) 4 (rng (C 4) p1 q1)) a1 a2 a3 0 sc Rw Su Si (va_up md kk (some q0)) (fun c => va_up (Z c) kk (cvv q0 0 p1 q1 (C 4) (rng (C 4) p1 q1) c)) (kk + 1)) H := hP
              have hD : va_D A (ofW E ca ra ao (va_up (va_up C 2 (kk + 1)) 4 (rng (C 4) p1 q1)) a1 a2 a3 0 sc Rw Su Si (va_up md kk (some q0)) (fun c => va_up (Z c) kk (cvv q0 0 p1 q1 (C 4) (rng (C 4) p1 q1) c)) (kk + 1)) := hD
              refine W.eq (g2 := F0 m 94 ls []) rfl ?_
              refine lv_iload_n hx hb dX11_call_94 rfl (lv_at hl 0 rfl) ?_
              exact rw_i hC rfl hP hD hS (⟨by rw [s_call, if_neg (by rw [nat_isP (by omega) hp1]; decide), if_neg (by rw [nat_isP (by omega) hq1]; decide), nI_clamp (by omega), nI_clamp (by omega), if_neg hpq, if_neg (by rw [hbit]; decide), if_neg (by omega)], by rw [show callOK nn kk net (Z 2) (Z 3) (nI p1) (nI q1) = true from by unfold callOK; rw [nat_isP (by omega) hp1, nat_isP (by omega) hq1, nI_clamp (by omega), nI_clamp (by omega), decide_eq_false hpq, hbit, decide_eq_true (by omega : kk ≠ 12)]; rfl, if_pos rfl, if_pos rfl, if_pos rfl, nI_clamp (by omega), nI_clamp (by omega)]; exact ⟨_, _, _, _, _, _, _, (fun c => va_up (Z c) kk (cvv q0 0 p1 q1 (C 4) (rng (C 4) p1 q1) c)), rfl, CS_call hc (by omega) hp1 hq1 hpq rfl rfl rfl rfl ht0 rfl rfl rfl, md_new hmd rfl, AI_0 hAI.2.1, rfl, rfl, fun j h2 h4 => by rw [vu_n _ _ h4, vu_n _ _ h2]⟩⟩) dX11_call_95 (Nat.le_of_ble_eq_true rfl) (Nat.le_of_ble_eq_true rfl)
            · -- kind 1
              have hP : va_P E.1 vwCl (oC ca ra ao C :: (q0, .inr (3, [.int (nI kk), .int (nI p1), .int (nI q1), .long (lN (C 4)), .long (lN (rng (C 4) p1 q1))])) :: fdW E ao a1 a2 a3 fo sc Rw Su Si (ca 2) md Z kk) H := hP
              have hD : va_D A (oC ca ra ao C :: (q0, .inr (3, [.int (nI kk), .int (nI p1), .int (nI q1), .long (lN (C 4)), .long (lN (rng (C 4) p1 q1))])) :: fdW E ao a1 a2 a3 fo sc Rw Su Si (ca 2) md Z kk) := hD
              refine va_astqO hx hb hK hP hD hS 6 4 1 3 rfl rfl (hN.2.2.2.2.2.2.2.2.2.2.2.2.2.1) rfl rfl (vp_in_nI (by omega) (by decide)) dX11_call_73 (fun H locs hP hD hS => ?_)
              rw [nI_clamp (by omega)] at hP hD
              have hP : va_P E.1 vwCl (oC ca ra ao C :: (q0, .inr (3, [.int (nI kk), .int (nI p1), .int (nI q1), .long (lN (C 4)), .long (lN (rng (C 4) p1 q1))])) :: (alW E ao a1 a2 a3 fo sc Rw Su Si ++ (mdC E (ca 2) (va_up md kk (some q0)) :: clL Z kk))) H := hP
              have hD : va_D A (oC ca ra ao C :: (q0, .inr (3, [.int (nI kk), .int (nI p1), .int (nI q1), .long (lN (C 4)), .long (lN (rng (C 4) p1 q1))])) :: (alW E ao a1 a2 a3 fo sc Rw Su Si ++ (mdC E (ca 2) (va_up md kk (some q0)) :: clL Z kk))) := hD
              have hP := P_perm call_perm hP
              have hD := D_perm call_perm hD
              have hP : va_P E.1 vwCl (ofW E ca ra ao C a1 a2 a3 fo sc Rw Su Si (va_up md kk (some q0)) (fun c => va_up (Z c) kk (cvv q0 1 p1 q1 (C 4) (rng (C 4) p1 q1) c)) (kk + 1)) H := (by show va_P E.1 vwCl (oC ca ra ao C :: (alW E ao a1 a2 a3 fo sc Rw Su Si ++ (mdC E (ca 2) (va_up md kk (some q0)) :: clL (fun c => va_up (Z c) kk (cvv q0 1 p1 q1 (C 4) (rng (C 4) p1 q1) c)) (kk + 1)))) H; rw [clL_new]; exact hP)
              have hD : va_D A (ofW E ca ra ao C a1 a2 a3 fo sc Rw Su Si (va_up md kk (some q0)) (fun c => va_up (Z c) kk (cvv q0 1 p1 q1 (C 4) (rng (C 4) p1 q1) c)) (kk + 1)) := (by show va_D A (oC ca ra ao C :: (alW E ao a1 a2 a3 fo sc Rw Su Si ++ (mdC E (ca 2) (va_up md kk (some q0)) :: clL (fun c => va_up (Z c) kk (cvv q0 1 p1 q1 (C 4) (rng (C 4) p1 q1) c)) (kk + 1)))); rw [clL_new]; exact hD)
              refine lv_aload_n hx hb dX11_call_74 rfl (lv_at hl 1 rfl) ?_
              refine lv_iload_n hx hb dX11_call_75 rfl (lv_at hl 0 rfl) ?_
              refine lv_iconst (v := nI 1) hx hb dX11_call_76 (by decide) ?_
              refine n_iadd hx hb dX11_call_77 ?_
              refine va_put (D := E.1) (ci := 9) (v := .int (nI (kk + 1))) (ty := .int) (C := RX11) (T := TX11) (N := 13) hx hb hts iX11 tyX11 tyX11_ok nmX11 hown hK hP hD hS 0 rfl rfl 2 (by decide) (hts _ kw_106) (fun _ h9 => h9) rfl (by decide +kernel) rfl rfl (Nat.le_of_ble_eq_true rfl) dX11_call_78 (fun H locs hP hD hS => ?_)
              have hP : va_P E.1 vwCl (ofW E ca ra ao (va_up C 2 (kk + 1)) a1 a2 a3 fo sc Rw Su Si (va_up md kk (some q0)) (fun c => va_up (Z c) kk (cvv q0 1 p1 q1 (C 4) (rng (C 4) p1 q1) c)) (kk + 1)) H := hP
              have hD : va_D A (ofW E ca ra ao (va_up C 2 (kk + 1)) a1 a2 a3 fo sc Rw Su Si (va_up md kk (some q0)) (fun c => va_up (Z c) kk (cvv q0 1 p1 q1 (C 4) (rng (C 4) p1 q1) c)) (kk + 1)) := hD
              refine lv_aload_n hx hb dX11_call_81 rfl (lv_at hl 1 rfl) ?_
              refine lv_aload_n hx hb dX11_call_82 rfl (lv_at hl 1 rfl) ?_
              refine va_get (D := E.1) (ci := 9) (v := .long (lN (C 4))) (C := RX11) (T := TX11) (N := 13) hx hb hts iX11 hown hK hP 0 rfl rfl 4 (by decide) (hts _ kw_108) (fun _ h9 => h9) rfl dX11_call_83 ?_
              refine lv_iload_n hx hb dX11_call_86 rfl (lv_at hl 2 rfl) ?_
              refine lv_iload_n hx hb dX11_call_87 rfl (lv_at hl 3 rfl) ?_
              refine cS_p (rest := [.ref (ca 0)]) hC (k_ring l (C 4) p1 q1 (by omega) (by omega) (by omega)) kw_268 sy_X5_ring ⟨Nat.le_of_ble_eq_true rfl, Nat.le_of_ble_eq_true rfl⟩ ⟨rfl, rfl⟩ rfl hl.1 rfl (Nat.le_of_ble_eq_true rfl) dX11_call_88 ⟨Nat.le_of_ble_eq_true rfl, Nat.le_of_ble_eq_true rfl⟩ ?_
              refine cV_wr (X := []) (Y := [(a1, .inl (E.2 1, 4, .inl (fun j => nI (Rw j)))), (a2, .inl (E.2 1, 4, .inl (fun j => nI (Su j)))), (a3, .inl (E.2 1, 4, .inl (fun j => nI (Si j))))] ++ (mdC E (ca 2) (va_up md kk (some q0)) :: clL (fun c => va_up (Z c) kk (cvv q0 1 p1 q1 (C 4) (rng (C 4) p1 q1) c)) (kk + 1))) (rest := []) hC (k_moveTo l E ca ra ao (va_up C 2 (kk + 1)) a1 a2 a3 fo sc (rng (C 4) p1 q1) _) kw_218 iy_X11_moveTo ⟨Nat.le_of_ble_eq_true rfl, Nat.le_of_ble_eq_true rfl⟩ ⟨rfl, rfl⟩ hK hP hD hS hA rfl (va_recv hK hP (ci := 9) (q0 := 0) rfl rfl) rfl hl.1 rfl (Nat.le_of_ble_eq_true rfl) dX11_call_91 ⟨Nat.le_of_ble_eq_true rfl, Nat.le_of_ble_eq_true rfl⟩ (fun v_ w_ H locs hpost hP hD hS => ?_)
              obtain ⟨rfl, rfl⟩ := hpost
              have hP : va_P E.1 vwCl (ofW E ca ra ao (va_up (va_up C 2 (kk + 1)) 4 (rng (C 4) p1 q1)) a1 a2 a3 0 sc Rw Su Si (va_up md kk (some q0)) (fun c => va_up (Z c) kk (cvv q0 1 p1 q1 (C 4) (rng (C 4) p1 q1) c)) (kk + 1)) H := hP
              have hD : va_D A (ofW E ca ra ao (va_up (va_up C 2 (kk + 1)) 4 (rng (C 4) p1 q1)) a1 a2 a3 0 sc Rw Su Si (va_up md kk (some q0)) (fun c => va_up (Z c) kk (cvv q0 1 p1 q1 (C 4) (rng (C 4) p1 q1) c)) (kk + 1)) := hD
              refine W.eq (g2 := F0 m 94 ls []) rfl ?_
              refine lv_iload_n hx hb dX11_call_94 rfl (lv_at hl 0 rfl) ?_
              exact rw_i hC rfl hP hD hS (⟨by rw [s_call, if_neg (by rw [nat_isP (by omega) hp1]; decide), if_neg (by rw [nat_isP (by omega) hq1]; decide), nI_clamp (by omega), nI_clamp (by omega), if_neg hpq, if_neg (by rw [hbit]; decide), if_neg (by omega)], by rw [show callOK nn kk net (Z 2) (Z 3) (nI p1) (nI q1) = true from by unfold callOK; rw [nat_isP (by omega) hp1, nat_isP (by omega) hq1, nI_clamp (by omega), nI_clamp (by omega), decide_eq_false hpq, hbit, decide_eq_true (by omega : kk ≠ 12)]; rfl, if_pos rfl, if_pos rfl, if_pos rfl, nI_clamp (by omega), nI_clamp (by omega)]; exact ⟨_, _, _, _, _, _, _, (fun c => va_up (Z c) kk (cvv q0 1 p1 q1 (C 4) (rng (C 4) p1 q1) c)), rfl, CS_call hc (by omega) hp1 hq1 hpq rfl rfl rfl rfl ht0 rfl rfl rfl, md_new hmd rfl, AI_0 hAI.2.1, rfl, rfl, fun j h2 h4 => by rw [vu_n _ _ h4, vu_n _ _ h2]⟩⟩) dX11_call_95 (Nat.le_of_ble_eq_true rfl) (Nat.le_of_ble_eq_true rfl)
            · -- kind 2
              have hP : va_P E.1 vwCl (oC ca ra ao C :: (q0, .inr (8, [.int (nI kk), .int (nI p1), .int (nI q1), .long (lN (C 4)), .long (lN (rng (C 4) p1 q1))])) :: fdW E ao a1 a2 a3 fo sc Rw Su Si (ca 2) md Z kk) H := hP
              have hD : va_D A (oC ca ra ao C :: (q0, .inr (8, [.int (nI kk), .int (nI p1), .int (nI q1), .long (lN (C 4)), .long (lN (rng (C 4) p1 q1))])) :: fdW E ao a1 a2 a3 fo sc Rw Su Si (ca 2) md Z kk) := hD
              refine va_astqO hx hb hK hP hD hS 6 4 1 8 rfl rfl (hN.2.2.2.2.2.2.2.2.2.2.2.2.1) rfl rfl (vp_in_nI (by omega) (by decide)) dX11_call_73 (fun H locs hP hD hS => ?_)
              rw [nI_clamp (by omega)] at hP hD
              have hP : va_P E.1 vwCl (oC ca ra ao C :: (q0, .inr (8, [.int (nI kk), .int (nI p1), .int (nI q1), .long (lN (C 4)), .long (lN (rng (C 4) p1 q1))])) :: (alW E ao a1 a2 a3 fo sc Rw Su Si ++ (mdC E (ca 2) (va_up md kk (some q0)) :: clL Z kk))) H := hP
              have hD : va_D A (oC ca ra ao C :: (q0, .inr (8, [.int (nI kk), .int (nI p1), .int (nI q1), .long (lN (C 4)), .long (lN (rng (C 4) p1 q1))])) :: (alW E ao a1 a2 a3 fo sc Rw Su Si ++ (mdC E (ca 2) (va_up md kk (some q0)) :: clL Z kk))) := hD
              have hP := P_perm call_perm hP
              have hD := D_perm call_perm hD
              have hP : va_P E.1 vwCl (ofW E ca ra ao C a1 a2 a3 fo sc Rw Su Si (va_up md kk (some q0)) (fun c => va_up (Z c) kk (cvv q0 2 p1 q1 (C 4) (rng (C 4) p1 q1) c)) (kk + 1)) H := (by show va_P E.1 vwCl (oC ca ra ao C :: (alW E ao a1 a2 a3 fo sc Rw Su Si ++ (mdC E (ca 2) (va_up md kk (some q0)) :: clL (fun c => va_up (Z c) kk (cvv q0 2 p1 q1 (C 4) (rng (C 4) p1 q1) c)) (kk + 1)))) H; rw [clL_new]; exact hP)
              have hD : va_D A (ofW E ca ra ao C a1 a2 a3 fo sc Rw Su Si (va_up md kk (some q0)) (fun c => va_up (Z c) kk (cvv q0 2 p1 q1 (C 4) (rng (C 4) p1 q1) c)) (kk + 1)) := (by show va_D A (oC ca ra ao C :: (alW E ao a1 a2 a3 fo sc Rw Su Si ++ (mdC E (ca 2) (va_up md kk (some q0)) :: clL (fun c => va_up (Z c) kk (cvv q0 2 p1 q1 (C 4) (rng (C 4) p1 q1) c)) (kk + 1)))); rw [clL_new]; exact hD)
              refine lv_aload_n hx hb dX11_call_74 rfl (lv_at hl 1 rfl) ?_
              refine lv_iload_n hx hb dX11_call_75 rfl (lv_at hl 0 rfl) ?_
              refine lv_iconst (v := nI 1) hx hb dX11_call_76 (by decide) ?_
              refine n_iadd hx hb dX11_call_77 ?_
              refine va_put (D := E.1) (ci := 9) (v := .int (nI (kk + 1))) (ty := .int) (C := RX11) (T := TX11) (N := 13) hx hb hts iX11 tyX11 tyX11_ok nmX11 hown hK hP hD hS 0 rfl rfl 2 (by decide) (hts _ kw_106) (fun _ h9 => h9) rfl (by decide +kernel) rfl rfl (Nat.le_of_ble_eq_true rfl) dX11_call_78 (fun H locs hP hD hS => ?_)
              have hP : va_P E.1 vwCl (ofW E ca ra ao (va_up C 2 (kk + 1)) a1 a2 a3 fo sc Rw Su Si (va_up md kk (some q0)) (fun c => va_up (Z c) kk (cvv q0 2 p1 q1 (C 4) (rng (C 4) p1 q1) c)) (kk + 1)) H := hP
              have hD : va_D A (ofW E ca ra ao (va_up C 2 (kk + 1)) a1 a2 a3 fo sc Rw Su Si (va_up md kk (some q0)) (fun c => va_up (Z c) kk (cvv q0 2 p1 q1 (C 4) (rng (C 4) p1 q1) c)) (kk + 1)) := hD
              refine lv_aload_n hx hb dX11_call_81 rfl (lv_at hl 1 rfl) ?_
              refine lv_aload_n hx hb dX11_call_82 rfl (lv_at hl 1 rfl) ?_
              refine va_get (D := E.1) (ci := 9) (v := .long (lN (C 4))) (C := RX11) (T := TX11) (N := 13) hx hb hts iX11 hown hK hP 0 rfl rfl 4 (by decide) (hts _ kw_108) (fun _ h9 => h9) rfl dX11_call_83 ?_
              refine lv_iload_n hx hb dX11_call_86 rfl (lv_at hl 2 rfl) ?_
              refine lv_iload_n hx hb dX11_call_87 rfl (lv_at hl 3 rfl) ?_
              refine cS_p (rest := [.ref (ca 0)]) hC (k_ring l (C 4) p1 q1 (by omega) (by omega) (by omega)) kw_268 sy_X5_ring ⟨Nat.le_of_ble_eq_true rfl, Nat.le_of_ble_eq_true rfl⟩ ⟨rfl, rfl⟩ rfl hl.1 rfl (Nat.le_of_ble_eq_true rfl) dX11_call_88 ⟨Nat.le_of_ble_eq_true rfl, Nat.le_of_ble_eq_true rfl⟩ ?_
              refine cV_wr (X := []) (Y := [(a1, .inl (E.2 1, 4, .inl (fun j => nI (Rw j)))), (a2, .inl (E.2 1, 4, .inl (fun j => nI (Su j)))), (a3, .inl (E.2 1, 4, .inl (fun j => nI (Si j))))] ++ (mdC E (ca 2) (va_up md kk (some q0)) :: clL (fun c => va_up (Z c) kk (cvv q0 2 p1 q1 (C 4) (rng (C 4) p1 q1) c)) (kk + 1))) (rest := []) hC (k_moveTo l E ca ra ao (va_up C 2 (kk + 1)) a1 a2 a3 fo sc (rng (C 4) p1 q1) _) kw_218 iy_X11_moveTo ⟨Nat.le_of_ble_eq_true rfl, Nat.le_of_ble_eq_true rfl⟩ ⟨rfl, rfl⟩ hK hP hD hS hA rfl (va_recv hK hP (ci := 9) (q0 := 0) rfl rfl) rfl hl.1 rfl (Nat.le_of_ble_eq_true rfl) dX11_call_91 ⟨Nat.le_of_ble_eq_true rfl, Nat.le_of_ble_eq_true rfl⟩ (fun v_ w_ H locs hpost hP hD hS => ?_)
              obtain ⟨rfl, rfl⟩ := hpost
              have hP : va_P E.1 vwCl (ofW E ca ra ao (va_up (va_up C 2 (kk + 1)) 4 (rng (C 4) p1 q1)) a1 a2 a3 0 sc Rw Su Si (va_up md kk (some q0)) (fun c => va_up (Z c) kk (cvv q0 2 p1 q1 (C 4) (rng (C 4) p1 q1) c)) (kk + 1)) H := hP
              have hD : va_D A (ofW E ca ra ao (va_up (va_up C 2 (kk + 1)) 4 (rng (C 4) p1 q1)) a1 a2 a3 0 sc Rw Su Si (va_up md kk (some q0)) (fun c => va_up (Z c) kk (cvv q0 2 p1 q1 (C 4) (rng (C 4) p1 q1) c)) (kk + 1)) := hD
              refine W.eq (g2 := F0 m 94 ls []) rfl ?_
              refine lv_iload_n hx hb dX11_call_94 rfl (lv_at hl 0 rfl) ?_
              exact rw_i hC rfl hP hD hS (⟨by rw [s_call, if_neg (by rw [nat_isP (by omega) hp1]; decide), if_neg (by rw [nat_isP (by omega) hq1]; decide), nI_clamp (by omega), nI_clamp (by omega), if_neg hpq, if_neg (by rw [hbit]; decide), if_neg (by omega)], by rw [show callOK nn kk net (Z 2) (Z 3) (nI p1) (nI q1) = true from by unfold callOK; rw [nat_isP (by omega) hp1, nat_isP (by omega) hq1, nI_clamp (by omega), nI_clamp (by omega), decide_eq_false hpq, hbit, decide_eq_true (by omega : kk ≠ 12)]; rfl, if_pos rfl, if_pos rfl, if_pos rfl, nI_clamp (by omega), nI_clamp (by omega)]; exact ⟨_, _, _, _, _, _, _, (fun c => va_up (Z c) kk (cvv q0 2 p1 q1 (C 4) (rng (C 4) p1 q1) c)), rfl, CS_call hc (by omega) hp1 hq1 hpq rfl rfl rfl rfl ht0 rfl rfl rfl, md_new hmd rfl, AI_0 hAI.2.1, rfl, rfl, fun j h2 h4 => by rw [vu_n _ _ h4, vu_n _ _ h2]⟩⟩) dX11_call_95 (Nat.le_of_ble_eq_true rfl) (Nat.le_of_ble_eq_true rfl)
          · -- f 53
            refine lv_bipush (v := -4) hx hb dX11_call_53 (by decide) ?_
            exact rw_i hC rfl hP hD hS (⟨by rw [s_call, if_neg (by rw [nat_isP (by omega) hp1]; decide), if_neg (by rw [nat_isP (by omega) hq1]; decide), nI_clamp (by omega), nI_clamp (by omega), if_neg hpq, if_neg (by rw [hbit]; decide), if_pos (by omega)], by rw [show callOK nn kk net (Z 2) (Z 3) (nI p1) (nI q1) = false from by unfold callOK; rw [decide_eq_false (by omega : ¬ kk ≠ 12)]; simp]; exact ⟨C, fo, sc, Rw, Su, Si, md, Z, rfl, hc, hmd, hAI, rfl, rfl, fun _ _ _ => rfl⟩⟩) dX11_call_55 (Nat.le_of_ble_eq_true rfl) (Nat.le_of_ble_eq_true rfl)
        · -- f 41
          have hbit := (congrArg (fun z => z.testBit q1) (hc.numk hp1)).symm.trans c_5
          refine lv_bipush (v := -3) hx hb dX11_call_41 (by decide) ?_
          exact rw_i hC rfl hP hD hS (⟨by rw [s_call, if_neg (by rw [nat_isP (by omega) hp1]; decide), if_neg (by rw [nat_isP (by omega) hq1]; decide), nI_clamp (by omega), nI_clamp (by omega), if_neg hpq, if_pos hbit], by rw [show callOK nn kk net (Z 2) (Z 3) (nI p1) (nI q1) = false from by unfold callOK; rw [nI_clamp (by omega), nI_clamp (by omega), hbit]; simp]; exact ⟨C, fo, sc, Rw, Su, Si, md, Z, rfl, hc, hmd, hAI, rfl, rfl, fun _ _ _ => rfl⟩⟩) dX11_call_43 (Nat.le_of_ble_eq_true rfl) (Nat.le_of_ble_eq_true rfl)
      · -- f 23
        refine lv_bipush (v := -2) hx hb dX11_call_23 (by decide) ?_
        exact rw_i hC rfl hP hD hS (⟨by rw [s_call, if_neg (by rw [nat_isP (by omega) hp1]; decide), if_neg (by rw [nat_isP (by omega) hq1]; decide), nI_clamp (by omega), nI_clamp (by omega), if_pos c_3], by rw [show callOK nn kk net (Z 2) (Z 3) (nI p1) (nI q1) = false from by unfold callOK; rw [nI_clamp (by omega), nI_clamp (by omega), decide_eq_true c_3]; simp]; exact ⟨C, fo, sc, Rw, Su, Si, md, Z, rfl, hc, hmd, hAI, rfl, rfl, fun _ _ _ => rfl⟩⟩) dX11_call_25 (Nat.le_of_ble_eq_true rfl) (Nat.le_of_ble_eq_true rfl)
    · -- f 16
      refine lv_iconst (v := -1) hx hb dX11_call_16 (by decide) ?_
      exact rw_i hC rfl hP hD hS (⟨by rw [s_call, if_neg (by rw [nat_isP (by omega) hp1]; decide), if_pos c_2], by rw [show callOK nn kk net (Z 2) (Z 3) (nI p1) v2 = false from by unfold callOK; rw [c_2, Bool.and_false]; rfl]; exact ⟨C, fo, sc, Rw, Su, Si, md, Z, rfl, hc, hmd, hAI, rfl, rfl, fun _ _ _ => rfl⟩⟩) dX11_call_17 (Nat.le_of_ble_eq_true rfl) (Nat.le_of_ble_eq_true rfl)

set_option maxHeartbeats 4000000 in
set_option maxRecDepth 100000 in
theorem k_back (l : Launch) (E : EE) (ca ra : Nat → Nat) (ao : Nat) (C : Nat → Nat) (a1 a2 a3 fo sc : Nat) (Rw Su Si : Nat → Nat) (md : Nat → Option Nat) (nn kk : Nat) (net : Nat → Nat) (Z : Nat → Nat → Nat) (hc : CS nn kk net Z C) (hmd : ∀ i, i < kk → md i = some (Z 0 i)) (hAI : AI nn kk net Z fo Rw Su Si) (sz : Nat) : Wr l yX11_back cX11_back 2 (some .int) rm_X11_back 0 0 E (ofW E ca ra ao C a1 a2 a3 fo sc Rw Su Si md Z kk) sz [.ref (ca 0)] (fun v4 w1 => v4 = some (.int (if kk = 0 then -3 else nI (kk - 1))) ∧ CLP E ca ra ao C a1 a2 a3 Z nn kk net (kk - 1) (Z 2) (Z 3) w1) := by
  refine mk_wr (by decide) (Nat.le_of_ble_eq_true rfl) ?_
  intro p e s m args below meth c hC hin hK A hA hP hD hS ls hl
  obtain ⟨hx, hb, hr, hts, hown, hml, hlk, hN⟩ := id hC
  have hl : lv_has ls 2 [(0, .ref (ca 0))] := hl
  have hn4 := hc.n4; have hk12 := hc.k12; have hx3 := hc.st.lt; have hx4 := hc.nw.lt; have hp3 := hc.p3; have hp4 := hc.p4; have hcc := hc.cnt
  obtain ⟨H, hH⟩ : ∃ z, z = s.heap := ⟨_, rfl⟩
  have hS : va_S A s.heap H [] := by rw [hH]; exact hS
  rw [← hH] at hP
  refine W_heap hH ?_
  obtain ⟨locs, hlo⟩ : ∃ z : List Loc, z = [] := ⟨_, rfl⟩
  rw [← hlo] at hS ⊢
  refine lv_aload_n hx hb dX11_back_0 rfl (lv_at hl 0 rfl) ?_
  refine lv_aload_n hx hb dX11_back_1 rfl (lv_at hl 0 rfl) ?_
  refine va_get (D := E.1) (ci := 9) (v := .int (nI (C 2))) (C := RX11) (T := TX11) (N := 13) hx hb hts iX11 hown hK hP 0 rfl rfl 2 (by decide) (hts _ kw_106) (fun _ h9 => h9) rfl dX11_back_2 ?_
  refine lv_iconst (v := nI 1) hx hb dX11_back_5 (by decide) ?_
  rcases Nat.eq_zero_or_pos kk with hk0 | hk0
  ·
    obtain rfl : kk = 0 := by omega
    refine lv_isub hx hb dX11_back_6 ?_
    refine cV_r (rest := []) hC (k_callAt_n l E ca ra ao C md (nI (C 2) - nI 1) 0 hcc (isP_0 _)) kw_333 iy_X11_callAt ⟨Nat.le_of_ble_eq_true rfl, Nat.le_of_ble_eq_true rfl⟩ ⟨rfl, rfl⟩ hK (show va_P E.1 vwCl (omd E ca ra ao C md) H from P2 hP List.mem_cons_self (List.mem_cons_of_mem _ (List.mem_append_right _ List.mem_cons_self))) (va_recv hK hP (ci := 9) (q0 := 0) rfl rfl) rfl hl.1 rfl (Nat.le_of_ble_eq_true rfl) dX11_back_7 ⟨Nat.le_of_ble_eq_true rfl, Nat.le_of_ble_eq_true rfl⟩ ?_
    refine W.eq (g2 := F0 m 10 ls [.null]) rfl ?_
    refine lv_astore_nN (lv' := [(1, .null), (0, .ref (ca 0))]) hx hb dX11_back_10 rfl hl (by decide) rfl (fun ls hl => ?_)
    refine lv_aload_nN hx hb dX11_back_11 rfl (lv_at hl 0 rfl) ?_
    refine lv_ifnonnullN hx hb dX11_back_12 ?_
    refine lv_bipush (v := -3) hx hb dX11_back_15 (by decide) ?_
    exact rw_i hC rfl hP hD hS (⟨rfl, C, fo, sc, Rw, Su, Si, md, Z, rfl, hc, hmd, hAI, rfl, rfl, fun _ _ _ => rfl⟩) dX11_back_17 (Nat.le_of_ble_eq_true rfl) (Nat.le_of_ble_eq_true rfl)
  ·
    obtain ⟨k1, rfl⟩ : ∃ k1, kk = k1 + 1 := ⟨kk - 1, by omega⟩
    refine n_isub hx hb (by omega) dX11_back_6 ?_
    refine top_i (congrArg nI (show C 2 - 1 = k1 by omega)) ?_
    refine cV_r (rest := []) hC (k_callAt_y l E ca ra ao C md k1 (k1 + 1) (Z 0 k1) hcc hk12 (by omega) (hmd k1 (by omega))) kw_333 iy_X11_callAt ⟨Nat.le_of_ble_eq_true rfl, Nat.le_of_ble_eq_true rfl⟩ ⟨rfl, rfl⟩ hK (show va_P E.1 vwCl (omd E ca ra ao C md) H from P2 hP List.mem_cons_self (List.mem_cons_of_mem _ (List.mem_append_right _ List.mem_cons_self))) (va_recv hK hP (ci := 9) (q0 := 0) rfl rfl) rfl hl.1 rfl (Nat.le_of_ble_eq_true rfl) dX11_back_7 ⟨Nat.le_of_ble_eq_true rfl, Nat.le_of_ble_eq_true rfl⟩ ?_
    refine W.eq (g2 := F0 m 10 ls [.ref (Z 0 k1)]) rfl ?_
    have hpq9 := hc.pq k1 (by omega); have hcl9 := hc.cl k1 (by omega); have hx4 := hcl9.2.1.lt; have hx5 := (hc.af (by omega : k1 < k1 + 1)).lt
    rcases hc.k1 (by omega : k1 < k1 + 1) with hkk | hkk | hkk
    · -- kind 0
      have hknd := hcl9.1.symm.trans hkk
      have hPc : va_P E.1 vwCl [(Z 0 k1, .inr (1, cF Z k1))] H := cl_at hP of_sub (by omega) hkk
      refine lv_astore_n (lv' := [(1, .ref (Z 0 k1)), (0, .ref (ca 0))]) hx hb dX11_back_10 rfl hl (by decide) rfl (fun ls hl => ?_)
      refine lv_aload_n hx hb dX11_back_11 rfl (lv_at hl 0 rfl) ?_
      refine lv_ifnonnull (tgt := 18) hx hb dX11_back_12 (by decide) ?_
      refine lv_aload_n hx hb dX11_back_18 rfl (lv_at hl 1 rfl) ?_
      refine lv_aload_n hx hb dX11_back_19 rfl (lv_at hl 0 rfl) ?_
      refine va_get (D := E.1) (ci := 1) (v := .int (nI k1)) (C := RX1) (T := TX1) (N := 5) hx hb hts iX1 hown hK hPc 0 rfl rfl 0 (by decide) (hts _ kw_279) (fun _ h9 => h9) rfl dX11_back_20 ?_
      refine va_put (D := E.1) (ci := 9) (v := .int (nI k1)) (ty := .int) (C := RX11) (T := TX11) (N := 13) hx hb hts iX11 tyX11 tyX11_ok nmX11 hown hK hP hD hS 0 rfl rfl 2 (by decide) (hts _ kw_106) (fun _ h9 => h9) rfl (by decide +kernel) rfl rfl (Nat.le_of_ble_eq_true rfl) dX11_back_23 (fun H locs hP hD hS => ?_)
      have hP : va_P E.1 vwCl (ofW E ca ra ao (va_up C 2 k1) a1 a2 a3 fo sc Rw Su Si md Z (k1 + 1)) H := hP
      have hD : va_D A (ofW E ca ra ao (va_up C 2 k1) a1 a2 a3 fo sc Rw Su Si md Z (k1 + 1)) := hD
      have hPc : va_P E.1 vwCl [(Z 0 k1, .inr (1, cF Z k1))] H := cl_at hP of_sub (by omega) hkk
      refine lv_aload_n hx hb dX11_back_26 rfl (lv_at hl 1 rfl) ?_
      refine lv_aload_n hx hb dX11_back_27 rfl (lv_at hl 0 rfl) ?_
      refine va_get (D := E.1) (ci := 1) (v := .long (lN (Z 4 k1))) (C := RX1) (T := TX1) (N := 5) hx hb hts iX1 hown hK hPc 0 rfl rfl 3 (by decide) (hts _ kw_291) (fun _ h9 => h9) rfl dX11_back_28 ?_
      refine cV_wr (X := []) (Y := [(a1, .inl (E.2 1, 4, .inl (fun j => nI (Rw j)))), (a2, .inl (E.2 1, 4, .inl (fun j => nI (Su j)))), (a3, .inl (E.2 1, 4, .inl (fun j => nI (Si j))))] ++ (mdC E (ca 2) md :: clL Z (k1 + 1))) (rest := []) hC (k_moveTo l E ca ra ao (va_up C 2 k1) a1 a2 a3 fo sc (Z 4 k1) _) kw_218 iy_X11_moveTo ⟨Nat.le_of_ble_eq_true rfl, Nat.le_of_ble_eq_true rfl⟩ ⟨rfl, rfl⟩ hK hP hD hS hA rfl (va_recv hK hP (ci := 9) (q0 := 0) rfl rfl) rfl hl.1 rfl (Nat.le_of_ble_eq_true rfl) dX11_back_31 ⟨Nat.le_of_ble_eq_true rfl, Nat.le_of_ble_eq_true rfl⟩ (fun v_ w_ H locs hpost hP hD hS => ?_)
      obtain ⟨rfl, rfl⟩ := hpost
      have hP : va_P E.1 vwCl (ofW E ca ra ao (va_up (va_up C 2 k1) 4 (Z 4 k1)) a1 a2 a3 0 sc Rw Su Si md Z (k1 + 1)) H := hP
      have hD : va_D A (ofW E ca ra ao (va_up (va_up C 2 k1) 4 (Z 4 k1)) a1 a2 a3 0 sc Rw Su Si md Z (k1 + 1)) := hD
      refine W.eq (g2 := F0 m 34 ls []) rfl ?_
      refine lv_aload_n hx hb dX11_back_34 rfl (lv_at hl 1 rfl) ?_
      refine va_get (D := E.1) (ci := 9) (v := .int (nI k1)) (C := RX11) (T := TX11) (N := 13) hx hb hts iX11 hown hK hP 0 rfl rfl 2 (by decide) (hts _ kw_106) (fun _ h9 => h9) rfl dX11_back_35 ?_
      rw [of_s] at hP hD
      have hP := va_P_l hP
      have hD := va_D_l hD
      exact rw_i hC rfl hP hD hS (⟨rfl, _, _, _, _, _, _, _, Z, rfl, CS_back hc rfl rfl rfl, fun i h9 => hmd i (by omega), AI_0 hAI.2.1, rfl, rfl, fun j h2 h4 => by rw [vu_n _ _ h4, vu_n _ _ h2]⟩) dX11_back_38 (Nat.le_of_ble_eq_true rfl) (Nat.le_of_ble_eq_true rfl)
    · -- kind 1
      have hknd := hcl9.1.symm.trans hkk
      have hPc : va_P E.1 vwCl [(Z 0 k1, .inr (3, cF Z k1))] H := cl_at hP of_sub (by omega) hkk
      refine lv_astore_n (lv' := [(1, .ref (Z 0 k1)), (0, .ref (ca 0))]) hx hb dX11_back_10 rfl hl (by decide) rfl (fun ls hl => ?_)
      refine lv_aload_n hx hb dX11_back_11 rfl (lv_at hl 0 rfl) ?_
      refine lv_ifnonnull (tgt := 18) hx hb dX11_back_12 (by decide) ?_
      refine lv_aload_n hx hb dX11_back_18 rfl (lv_at hl 1 rfl) ?_
      refine lv_aload_n hx hb dX11_back_19 rfl (lv_at hl 0 rfl) ?_
      refine va_get (D := E.1) (ci := 3) (v := .int (nI k1)) (C := RX4) (T := TX4) (N := 5) hx hb hts iX4 hown hK hPc 0 rfl rfl 0 (by decide) (hts _ kw_279) (fun _ h9 => h9) rfl dX11_back_20 ?_
      refine va_put (D := E.1) (ci := 9) (v := .int (nI k1)) (ty := .int) (C := RX11) (T := TX11) (N := 13) hx hb hts iX11 tyX11 tyX11_ok nmX11 hown hK hP hD hS 0 rfl rfl 2 (by decide) (hts _ kw_106) (fun _ h9 => h9) rfl (by decide +kernel) rfl rfl (Nat.le_of_ble_eq_true rfl) dX11_back_23 (fun H locs hP hD hS => ?_)
      have hP : va_P E.1 vwCl (ofW E ca ra ao (va_up C 2 k1) a1 a2 a3 fo sc Rw Su Si md Z (k1 + 1)) H := hP
      have hD : va_D A (ofW E ca ra ao (va_up C 2 k1) a1 a2 a3 fo sc Rw Su Si md Z (k1 + 1)) := hD
      have hPc : va_P E.1 vwCl [(Z 0 k1, .inr (3, cF Z k1))] H := cl_at hP of_sub (by omega) hkk
      refine lv_aload_n hx hb dX11_back_26 rfl (lv_at hl 1 rfl) ?_
      refine lv_aload_n hx hb dX11_back_27 rfl (lv_at hl 0 rfl) ?_
      refine va_get (D := E.1) (ci := 3) (v := .long (lN (Z 4 k1))) (C := RX4) (T := TX4) (N := 5) hx hb hts iX4 hown hK hPc 0 rfl rfl 3 (by decide) (hts _ kw_291) (fun _ h9 => h9) rfl dX11_back_28 ?_
      refine cV_wr (X := []) (Y := [(a1, .inl (E.2 1, 4, .inl (fun j => nI (Rw j)))), (a2, .inl (E.2 1, 4, .inl (fun j => nI (Su j)))), (a3, .inl (E.2 1, 4, .inl (fun j => nI (Si j))))] ++ (mdC E (ca 2) md :: clL Z (k1 + 1))) (rest := []) hC (k_moveTo l E ca ra ao (va_up C 2 k1) a1 a2 a3 fo sc (Z 4 k1) _) kw_218 iy_X11_moveTo ⟨Nat.le_of_ble_eq_true rfl, Nat.le_of_ble_eq_true rfl⟩ ⟨rfl, rfl⟩ hK hP hD hS hA rfl (va_recv hK hP (ci := 9) (q0 := 0) rfl rfl) rfl hl.1 rfl (Nat.le_of_ble_eq_true rfl) dX11_back_31 ⟨Nat.le_of_ble_eq_true rfl, Nat.le_of_ble_eq_true rfl⟩ (fun v_ w_ H locs hpost hP hD hS => ?_)
      obtain ⟨rfl, rfl⟩ := hpost
      have hP : va_P E.1 vwCl (ofW E ca ra ao (va_up (va_up C 2 k1) 4 (Z 4 k1)) a1 a2 a3 0 sc Rw Su Si md Z (k1 + 1)) H := hP
      have hD : va_D A (ofW E ca ra ao (va_up (va_up C 2 k1) 4 (Z 4 k1)) a1 a2 a3 0 sc Rw Su Si md Z (k1 + 1)) := hD
      refine W.eq (g2 := F0 m 34 ls []) rfl ?_
      refine lv_aload_n hx hb dX11_back_34 rfl (lv_at hl 1 rfl) ?_
      refine va_get (D := E.1) (ci := 9) (v := .int (nI k1)) (C := RX11) (T := TX11) (N := 13) hx hb hts iX11 hown hK hP 0 rfl rfl 2 (by decide) (hts _ kw_106) (fun _ h9 => h9) rfl dX11_back_35 ?_
      rw [of_s] at hP hD
      have hP := va_P_l hP
      have hD := va_D_l hD
      exact rw_i hC rfl hP hD hS (⟨rfl, _, _, _, _, _, _, _, Z, rfl, CS_back hc rfl rfl rfl, fun i h9 => hmd i (by omega), AI_0 hAI.2.1, rfl, rfl, fun j h2 h4 => by rw [vu_n _ _ h4, vu_n _ _ h2]⟩) dX11_back_38 (Nat.le_of_ble_eq_true rfl) (Nat.le_of_ble_eq_true rfl)
    · -- kind 2
      have hknd := hcl9.1.symm.trans hkk
      have hPc : va_P E.1 vwCl [(Z 0 k1, .inr (8, cF Z k1))] H := cl_at hP of_sub (by omega) hkk
      refine lv_astore_n (lv' := [(1, .ref (Z 0 k1)), (0, .ref (ca 0))]) hx hb dX11_back_10 rfl hl (by decide) rfl (fun ls hl => ?_)
      refine lv_aload_n hx hb dX11_back_11 rfl (lv_at hl 0 rfl) ?_
      refine lv_ifnonnull (tgt := 18) hx hb dX11_back_12 (by decide) ?_
      refine lv_aload_n hx hb dX11_back_18 rfl (lv_at hl 1 rfl) ?_
      refine lv_aload_n hx hb dX11_back_19 rfl (lv_at hl 0 rfl) ?_
      refine va_get (D := E.1) (ci := 8) (v := .int (nI k1)) (C := RX10) (T := TX10) (N := 5) hx hb hts iX10 hown hK hPc 0 rfl rfl 0 (by decide) (hts _ kw_279) (fun _ h9 => h9) rfl dX11_back_20 ?_
      refine va_put (D := E.1) (ci := 9) (v := .int (nI k1)) (ty := .int) (C := RX11) (T := TX11) (N := 13) hx hb hts iX11 tyX11 tyX11_ok nmX11 hown hK hP hD hS 0 rfl rfl 2 (by decide) (hts _ kw_106) (fun _ h9 => h9) rfl (by decide +kernel) rfl rfl (Nat.le_of_ble_eq_true rfl) dX11_back_23 (fun H locs hP hD hS => ?_)
      have hP : va_P E.1 vwCl (ofW E ca ra ao (va_up C 2 k1) a1 a2 a3 fo sc Rw Su Si md Z (k1 + 1)) H := hP
      have hD : va_D A (ofW E ca ra ao (va_up C 2 k1) a1 a2 a3 fo sc Rw Su Si md Z (k1 + 1)) := hD
      have hPc : va_P E.1 vwCl [(Z 0 k1, .inr (8, cF Z k1))] H := cl_at hP of_sub (by omega) hkk
      refine lv_aload_n hx hb dX11_back_26 rfl (lv_at hl 1 rfl) ?_
      refine lv_aload_n hx hb dX11_back_27 rfl (lv_at hl 0 rfl) ?_
      refine va_get (D := E.1) (ci := 8) (v := .long (lN (Z 4 k1))) (C := RX10) (T := TX10) (N := 5) hx hb hts iX10 hown hK hPc 0 rfl rfl 3 (by decide) (hts _ kw_291) (fun _ h9 => h9) rfl dX11_back_28 ?_
      refine cV_wr (X := []) (Y := [(a1, .inl (E.2 1, 4, .inl (fun j => nI (Rw j)))), (a2, .inl (E.2 1, 4, .inl (fun j => nI (Su j)))), (a3, .inl (E.2 1, 4, .inl (fun j => nI (Si j))))] ++ (mdC E (ca 2) md :: clL Z (k1 + 1))) (rest := []) hC (k_moveTo l E ca ra ao (va_up C 2 k1) a1 a2 a3 fo sc (Z 4 k1) _) kw_218 iy_X11_moveTo ⟨Nat.le_of_ble_eq_true rfl, Nat.le_of_ble_eq_true rfl⟩ ⟨rfl, rfl⟩ hK hP hD hS hA rfl (va_recv hK hP (ci := 9) (q0 := 0) rfl rfl) rfl hl.1 rfl (Nat.le_of_ble_eq_true rfl) dX11_back_31 ⟨Nat.le_of_ble_eq_true rfl, Nat.le_of_ble_eq_true rfl⟩ (fun v_ w_ H locs hpost hP hD hS => ?_)
      obtain ⟨rfl, rfl⟩ := hpost
      have hP : va_P E.1 vwCl (ofW E ca ra ao (va_up (va_up C 2 k1) 4 (Z 4 k1)) a1 a2 a3 0 sc Rw Su Si md Z (k1 + 1)) H := hP
      have hD : va_D A (ofW E ca ra ao (va_up (va_up C 2 k1) 4 (Z 4 k1)) a1 a2 a3 0 sc Rw Su Si md Z (k1 + 1)) := hD
      refine W.eq (g2 := F0 m 34 ls []) rfl ?_
      refine lv_aload_n hx hb dX11_back_34 rfl (lv_at hl 1 rfl) ?_
      refine va_get (D := E.1) (ci := 9) (v := .int (nI k1)) (C := RX11) (T := TX11) (N := 13) hx hb hts iX11 hown hK hP 0 rfl rfl 2 (by decide) (hts _ kw_106) (fun _ h9 => h9) rfl dX11_back_35 ?_
      rw [of_s] at hP hD
      have hP := va_P_l hP
      have hD := va_D_l hD
      exact rw_i hC rfl hP hD hS (⟨rfl, _, _, _, _, _, _, _, Z, rfl, CS_back hc rfl rfl rfl, fun i h9 => hmd i (by omega), AI_0 hAI.2.1, rfl, rfl, fun j h2 h4 => by rw [vu_n _ _ h4, vu_n _ _ h2]⟩) dX11_back_38 (Nat.le_of_ble_eq_true rfl) (Nat.le_of_ble_eq_true rfl)

set_option maxHeartbeats 4000000 in
set_option maxRecDepth 100000 in
theorem k_tell (l : Launch) (E : EE) (ca ra : Nat → Nat) (ao : Nat) (C : Nat → Nat) (tr : Int32) (md : Nat → Option Nat) (nn kk : Nat) (net : Nat → Nat) (Z : Nat → Nat → Nat) (hc : CS nn kk net Z C) (hmd : ∀ i, i < kk → md i = some (Z 0 i)) (v1 : Int32) (sz : Nat) : Wr l yX11_tell cX11_tell 3 (some .int) rm_X11_tell 0 0 E (otW E ca ra ao C tr md Z kk) sz [.ref (ca 0), .int v1] (fun v4 w1 => v4 = some (.int (tlV nn kk (Z 2) (Z 3) tr v1).1) ∧ w1 = otW E ca ra ao C (tlV nn kk (Z 2) (Z 3) tr v1).2 md Z kk) := by
  refine mk_wr (by decide) (Nat.le_of_ble_eq_true rfl) ?_
  intro p e s m args below meth c hC hin hK A hA hP hD hS ls hl
  obtain ⟨hx, hb, hr, hts, hown, hml, hlk, hN⟩ := id hC
  have hl : lv_has ls 3 [(0, .ref (ca 0)), (1, .int v1)] := hl
  have hn4 := hc.n4; have hk12 := hc.k12; have hx3 := hc.st.lt; have hx4 := hc.nw.lt; have hp3 := hc.p3; have hp4 := hc.p4; have hcc := hc.cnt
  obtain ⟨H, hH⟩ : ∃ z, z = s.heap := ⟨_, rfl⟩
  have hS : va_S A s.heap H [] := by rw [hH]; exact hS
  rw [← hH] at hP
  refine W_heap hH ?_
  obtain ⟨locs, hlo⟩ : ∃ z : List Loc, z = [] := ⟨_, rfl⟩
  rw [← hlo] at hS ⊢
  refine lv_aload_n hx hb dX11_tell_0 rfl (lv_at hl 0 rfl) ?_
  refine lv_iload_n hx hb dX11_tell_1 rfl (lv_at hl 1 rfl) ?_
  cases hpp : isP v1 kk with
  | false =>
    refine cV_r (rest := []) hC (k_callAt_n l E ca ra ao C md v1 kk hcc hpp) kw_333 iy_X11_callAt ⟨Nat.le_of_ble_eq_true rfl, Nat.le_of_ble_eq_true rfl⟩ ⟨rfl, rfl⟩ hK (show va_P E.1 vwCl (omd E ca ra ao C md) H from P2 hP List.mem_cons_self (List.mem_cons_of_mem _ (List.mem_cons_of_mem _ List.mem_cons_self))) (va_recv hK hP (ci := 9) (q0 := 0) rfl rfl) rfl hl.1 rfl (Nat.le_of_ble_eq_true rfl) dX11_tell_2 ⟨Nat.le_of_ble_eq_true rfl, Nat.le_of_ble_eq_true rfl⟩ ?_
    refine W.eq (g2 := F0 m 5 ls [.null]) rfl ?_
    refine lv_astore_nN (lv' := [(2, .null), (0, .ref (ca 0)), (1, .int v1)]) hx hb dX11_tell_5 rfl hl (by decide) rfl (fun ls hl => ?_)
    refine lv_aload_nN hx hb dX11_tell_6 rfl (lv_at hl 0 rfl) ?_
    refine lv_ifnonnullN hx hb dX11_tell_7 ?_
    refine lv_iconst (v := -1) hx hb dX11_tell_10 (by decide) ?_
    refine lv_goto (tgt := 22) hx hb dX11_tell_11 (by decide) ?_
    exact rw_i hC rfl hP hD hS (⟨by rw [tlV, if_pos hpp], by rw [tlV, if_pos hpp]⟩) dX11_tell_22 (Nat.le_of_ble_eq_true rfl) (Nat.le_of_ble_eq_true rfl)
  | true =>
    obtain ⟨j1, hj1, rfl⟩ := isP_nat (by omega) hpp
    have hl : lv_has ls 3 [(0, .ref (ca 0)), (1, .int (nI j1))] := hl
    refine cV_r (rest := []) hC (k_callAt_y l E ca ra ao C md j1 (kk) (Z 0 j1) hcc hk12 (by omega) (hmd j1 (by omega))) kw_333 iy_X11_callAt ⟨Nat.le_of_ble_eq_true rfl, Nat.le_of_ble_eq_true rfl⟩ ⟨rfl, rfl⟩ hK (show va_P E.1 vwCl (omd E ca ra ao C md) H from P2 hP List.mem_cons_self (List.mem_cons_of_mem _ (List.mem_cons_of_mem _ List.mem_cons_self))) (va_recv hK hP (ci := 9) (q0 := 0) rfl rfl) rfl hl.1 rfl (Nat.le_of_ble_eq_true rfl) dX11_tell_2 ⟨Nat.le_of_ble_eq_true rfl, Nat.le_of_ble_eq_true rfl⟩ ?_
    refine W.eq (g2 := F0 m 5 ls [.ref (Z 0 j1)]) rfl ?_
    have hpq9 := hc.pq j1 (by omega); have hcl9 := hc.cl j1 (by omega); have hx4 := hcl9.2.1.lt; have hx5 := (hc.af (by omega : j1 < kk)).lt
    rcases hc.k1 (by omega : j1 < kk) with hkk | hkk | hkk
    · -- kind 0
      have hknd := hcl9.1.symm.trans hkk
      have hPc : va_P E.1 vwCl [(Z 0 j1, .inr (1, cF Z j1))] H := cl_at hP ot_sub (by omega) hkk
      refine lv_astore_n (lv' := [(2, .ref (Z 0 j1)), (0, .ref (ca 0)), (1, .int (nI j1))]) hx hb dX11_tell_5 rfl hl (by decide) rfl (fun ls hl => ?_)
      refine lv_aload_n hx hb dX11_tell_6 rfl (lv_at hl 0 rfl) ?_
      refine lv_ifnonnull (tgt := 14) hx hb dX11_tell_7 (by decide) ?_
      refine lv_aload_n hx hb dX11_tell_14 rfl (lv_at hl 0 rfl) ?_
      refine lv_aload_n hx hb dX11_tell_15 rfl (lv_at hl 1 rfl) ?_
      refine va_get (D := E.1) (ci := 9) (v := .ref (ca 3)) (C := RX11) (T := TX11) (N := 13) hx hb hts iX11 hown hK hP 0 rfl rfl 6 (by decide) (hts _ kw_110) (fun _ h9 => h9) rfl dX11_tell_16 ?_
      obtain ⟨L1, L2, he⟩ := List.append_of_mem (clL_mem kk (by omega : j1 < kk))
      have hcc9 : clC Z j1 = (Z 0 j1, .inr (1, cF Z j1)) := (by unfold clC; rw [hkk]; rfl)
      rw [hcc9] at he
      have hP : va_P E.1 vwCl (oC ca ra ao C :: (ca 3, .inr (7, [.int tr])) :: mdC E (ca 2) md :: (L1 ++ ((Z 0 j1, .inr (1, cF Z j1)) :: L2))) H := (by rw [← he]; exact hP)
      have hD : va_D A (oC ca ra ao C :: (ca 3, .inr (7, [.int tr])) :: mdC E (ca 2) md :: (L1 ++ ((Z 0 j1, .inr (1, cF Z j1)) :: L2))) := (by rw [← he]; exact hD)
      have hP := P_perm tell_perm hP
      have hD := D_perm tell_perm hD
      refine cU_wr (X := []) (Y := oC ca ra ao C :: mdC E (ca 2) md :: (L1 ++ L2)) (rest := []) hC (k_tell_1 l E (Z 0 j1) j1 (Z 2 j1) (Z 3 j1) (Z 4 j1) (Z 5 j1) (ca 3) tr _) uy_tell_1 ⟨Nat.le_of_ble_eq_true rfl, Nat.le_of_ble_eq_true rfl⟩ ⟨rfl, rfl⟩ hK hP hD hS hA rfl (va_recv hK hPc (ci := 1) (q0 := 0) rfl rfl) rfl hl.1 rfl (Nat.le_of_ble_eq_true rfl) dX11_tell_19 ⟨Nat.le_of_ble_eq_true rfl, Nat.le_of_ble_eq_true rfl⟩ (fun v_ w_ H locs hpost hP hD hS => ?_)
      obtain ⟨rfl, rfl⟩ := hpost
      have hP := P_perm (tell_perm (a := oC ca ra ao C) (b := (ca 3, .inr (7, [.int (nI 31 * tr + nI 1)]))) (c := (Z 0 j1, .inr (1, cF Z j1))) (d := mdC E (ca 2) md) (L := L1) (M := L2)).symm hP
      have hD := D_perm (tell_perm (a := oC ca ra ao C) (b := (ca 3, .inr (7, [.int (nI 31 * tr + nI 1)]))) (c := (Z 0 j1, .inr (1, cF Z j1))) (d := mdC E (ca 2) md) (L := L1) (M := L2)).symm hD
      have hP : va_P E.1 vwCl (otW E ca ra ao C (nI 31 * tr + nI 1) md Z kk) H := (by unfold otW; rw [he]; exact hP)
      have hD : va_D A (otW E ca ra ao C (nI 31 * tr + nI 1) md Z kk) := (by unfold otW; rw [he]; exact hD)
      refine W.eq (g2 := F0 m 22 ls [.int (nI (10 * Z 2 j1 + Z 3 j1))]) rfl ?_
      exact rw_i hC rfl hP hD hS (⟨by rw [tlV, if_neg (by rw [nat_isP (by omega) hj1]; decide), nI_clamp (by omega), tl_0 hknd], by rw [tlV, if_neg (by rw [nat_isP (by omega) hj1]; decide), nI_clamp (by omega), hknd]; rfl⟩) dX11_tell_22 (Nat.le_of_ble_eq_true rfl) (Nat.le_of_ble_eq_true rfl)
    · -- kind 1
      have hknd := hcl9.1.symm.trans hkk
      have hPc : va_P E.1 vwCl [(Z 0 j1, .inr (3, cF Z j1))] H := cl_at hP ot_sub (by omega) hkk
      refine lv_astore_n (lv' := [(2, .ref (Z 0 j1)), (0, .ref (ca 0)), (1, .int (nI j1))]) hx hb dX11_tell_5 rfl hl (by decide) rfl (fun ls hl => ?_)
      refine lv_aload_n hx hb dX11_tell_6 rfl (lv_at hl 0 rfl) ?_
      refine lv_ifnonnull (tgt := 14) hx hb dX11_tell_7 (by decide) ?_
      refine lv_aload_n hx hb dX11_tell_14 rfl (lv_at hl 0 rfl) ?_
      refine lv_aload_n hx hb dX11_tell_15 rfl (lv_at hl 1 rfl) ?_
      refine va_get (D := E.1) (ci := 9) (v := .ref (ca 3)) (C := RX11) (T := TX11) (N := 13) hx hb hts iX11 hown hK hP 0 rfl rfl 6 (by decide) (hts _ kw_110) (fun _ h9 => h9) rfl dX11_tell_16 ?_
      obtain ⟨L1, L2, he⟩ := List.append_of_mem (clL_mem kk (by omega : j1 < kk))
      have hcc9 : clC Z j1 = (Z 0 j1, .inr (3, cF Z j1)) := (by unfold clC; rw [hkk]; rfl)
      rw [hcc9] at he
      have hP : va_P E.1 vwCl (oC ca ra ao C :: (ca 3, .inr (7, [.int tr])) :: mdC E (ca 2) md :: (L1 ++ ((Z 0 j1, .inr (3, cF Z j1)) :: L2))) H := (by rw [← he]; exact hP)
      have hD : va_D A (oC ca ra ao C :: (ca 3, .inr (7, [.int tr])) :: mdC E (ca 2) md :: (L1 ++ ((Z 0 j1, .inr (3, cF Z j1)) :: L2))) := (by rw [← he]; exact hD)
      have hP := P_perm tell_perm hP
      have hD := D_perm tell_perm hD
      refine cU_wr (X := []) (Y := oC ca ra ao C :: mdC E (ca 2) md :: (L1 ++ L2)) (rest := []) hC (k_tell_4_4 l E (Z 0 j1) j1 (Z 2 j1) (Z 3 j1) (Z 4 j1) (Z 5 j1) (ca 3) tr (by omega) (by omega) (by omega) (by omega) _) uy_tell_4 ⟨Nat.le_of_ble_eq_true rfl, Nat.le_of_ble_eq_true rfl⟩ ⟨rfl, rfl⟩ hK hP hD hS hA rfl (va_recv hK hPc (ci := 3) (q0 := 0) rfl rfl) rfl hl.1 rfl (Nat.le_of_ble_eq_true rfl) dX11_tell_19 ⟨Nat.le_of_ble_eq_true rfl, Nat.le_of_ble_eq_true rfl⟩ (fun v_ w_ H locs hpost hP hD hS => ?_)
      obtain ⟨rfl, rfl⟩ := hpost
      have hP := P_perm (tell_perm (a := oC ca ra ao C) (b := (ca 3, .inr (7, [.int (nI 31 * (nI 31 * tr + nI 2) + nI 1)]))) (c := (Z 0 j1, .inr (3, cF Z j1))) (d := mdC E (ca 2) md) (L := L1) (M := L2)).symm hP
      have hD := D_perm (tell_perm (a := oC ca ra ao C) (b := (ca 3, .inr (7, [.int (nI 31 * (nI 31 * tr + nI 2) + nI 1)]))) (c := (Z 0 j1, .inr (3, cF Z j1))) (d := mdC E (ca 2) md) (L := L1) (M := L2)).symm hD
      have hP : va_P E.1 vwCl (otW E ca ra ao C (nI 31 * (nI 31 * tr + nI 2) + nI 1) md Z kk) H := (by unfold otW; rw [he]; exact hP)
      have hD : va_D A (otW E ca ra ao C (nI 31 * (nI 31 * tr + nI 2) + nI 1) md Z kk) := (by unfold otW; rw [he]; exact hD)
      refine W.eq (g2 := F0 m 22 ls [.int (nI (10 * Z 2 j1 + Z 3 j1 + 100 * (bitsN (of4 (Z 5 j1) (Z 2 j1) &&& (of4 (Z 4 j1) (Z 2 j1) ^^^ 4294967295)) 16 + bitsN (of4 (Z 5 j1) (Z 3 j1) &&& (of4 (Z 4 j1) (Z 3 j1) ^^^ 4294967295)) 16)))]) rfl ?_
      exact rw_i hC rfl hP hD hS (⟨by rw [tlV, if_neg (by rw [nat_isP (by omega) hj1]; decide), nI_clamp (by omega), tl_1 hknd, hc.lr hj1 (by omega), hc.lr hj1 (by omega)], by rw [tlV, if_neg (by rw [nat_isP (by omega) hj1]; decide), nI_clamp (by omega), hknd]; rfl⟩) dX11_tell_22 (Nat.le_of_ble_eq_true rfl) (Nat.le_of_ble_eq_true rfl)
    · -- kind 2
      have hknd := hcl9.1.symm.trans hkk
      have hPc : va_P E.1 vwCl [(Z 0 j1, .inr (8, cF Z j1))] H := cl_at hP ot_sub (by omega) hkk
      refine lv_astore_n (lv' := [(2, .ref (Z 0 j1)), (0, .ref (ca 0)), (1, .int (nI j1))]) hx hb dX11_tell_5 rfl hl (by decide) rfl (fun ls hl => ?_)
      refine lv_aload_n hx hb dX11_tell_6 rfl (lv_at hl 0 rfl) ?_
      refine lv_ifnonnull (tgt := 14) hx hb dX11_tell_7 (by decide) ?_
      refine lv_aload_n hx hb dX11_tell_14 rfl (lv_at hl 0 rfl) ?_
      refine lv_aload_n hx hb dX11_tell_15 rfl (lv_at hl 1 rfl) ?_
      refine va_get (D := E.1) (ci := 9) (v := .ref (ca 3)) (C := RX11) (T := TX11) (N := 13) hx hb hts iX11 hown hK hP 0 rfl rfl 6 (by decide) (hts _ kw_110) (fun _ h9 => h9) rfl dX11_tell_16 ?_
      obtain ⟨L1, L2, he⟩ := List.append_of_mem (clL_mem kk (by omega : j1 < kk))
      have hcc9 : clC Z j1 = (Z 0 j1, .inr (8, cF Z j1)) := (by unfold clC; rw [hkk]; rfl)
      rw [hcc9] at he
      have hP : va_P E.1 vwCl (oC ca ra ao C :: (ca 3, .inr (7, [.int tr])) :: mdC E (ca 2) md :: (L1 ++ ((Z 0 j1, .inr (8, cF Z j1)) :: L2))) H := (by rw [← he]; exact hP)
      have hD : va_D A (oC ca ra ao C :: (ca 3, .inr (7, [.int tr])) :: mdC E (ca 2) md :: (L1 ++ ((Z 0 j1, .inr (8, cF Z j1)) :: L2))) := (by rw [← he]; exact hD)
      have hP := P_perm tell_perm hP
      have hD := D_perm tell_perm hD
      refine cU_wr (X := []) (Y := oC ca ra ao C :: mdC E (ca 2) md :: (L1 ++ L2)) (rest := []) hC (k_tell_10 l E (Z 0 j1) j1 (Z 2 j1) (Z 3 j1) (Z 4 j1) (Z 5 j1) (ca 3) tr (by omega) (by omega) (by omega) (by omega) _) uy_tell_10 ⟨Nat.le_of_ble_eq_true rfl, Nat.le_of_ble_eq_true rfl⟩ ⟨rfl, rfl⟩ hK hP hD hS hA rfl (va_recv hK hPc (ci := 8) (q0 := 0) rfl rfl) rfl hl.1 rfl (Nat.le_of_ble_eq_true rfl) dX11_tell_19 ⟨Nat.le_of_ble_eq_true rfl, Nat.le_of_ble_eq_true rfl⟩ (fun v_ w_ H locs hpost hP hD hS => ?_)
      obtain ⟨rfl, rfl⟩ := hpost
      have hP := P_perm (tell_perm (a := oC ca ra ao C) (b := (ca 3, .inr (7, [.int (nI 31 * (nI 31 * (nI 31 * (nI 31 * tr + nI 3) + nI 2) + nI 1) + nI 1)]))) (c := (Z 0 j1, .inr (8, cF Z j1))) (d := mdC E (ca 2) md) (L := L1) (M := L2)).symm hP
      have hD := D_perm (tell_perm (a := oC ca ra ao C) (b := (ca 3, .inr (7, [.int (nI 31 * (nI 31 * (nI 31 * (nI 31 * tr + nI 3) + nI 2) + nI 1) + nI 1)]))) (c := (Z 0 j1, .inr (8, cF Z j1))) (d := mdC E (ca 2) md) (L := L1) (M := L2)).symm hD
      have hP : va_P E.1 vwCl (otW E ca ra ao C (nI 31 * (nI 31 * (nI 31 * (nI 31 * tr + nI 3) + nI 2) + nI 1) + nI 1) md Z kk) H := (by unfold otW; rw [he]; exact hP)
      have hD : va_D A (otW E ca ra ao C (nI 31 * (nI 31 * (nI 31 * (nI 31 * tr + nI 3) + nI 2) + nI 1) + nI 1) md Z kk) := (by unfold otW; rw [he]; exact hD)
      refine W.eq (g2 := F0 m 22 ls [.int (nI (10 * Z 2 j1 + Z 3 j1 + 100 * (bitsN (of4 (Z 5 j1) (Z 2 j1) &&& (of4 (Z 4 j1) (Z 2 j1) ^^^ 4294967295)) 16 + bitsN (of4 (Z 5 j1) (Z 3 j1) &&& (of4 (Z 4 j1) (Z 3 j1) ^^^ 4294967295)) 16) + (10 * Z 2 j1 + Z 3 j1)))]) rfl ?_
      exact rw_i hC rfl hP hD hS (⟨by rw [tlV, if_neg (by rw [nat_isP (by omega) hj1]; decide), nI_clamp (by omega), tl_2 hknd, hc.lr hj1 (by omega), hc.lr hj1 (by omega)], by rw [tlV, if_neg (by rw [nat_isP (by omega) hj1]; decide), nI_clamp (by omega), hknd]; rfl⟩) dX11_tell_22 (Nat.le_of_ble_eq_true rfl) (Nat.le_of_ble_eq_true rfl)

set_option maxHeartbeats 4000000 in
set_option maxRecDepth 100000 in
theorem k_log (l : Launch) (E : EE) (ca ra : Nat → Nat) (ao : Nat) (C : Nat → Nat) (tr : Int32) (md : Nat → Option Nat) (nn kk : Nat) (net : Nat → Nat) (Z : Nat → Nat → Nat) (hc : CS nn kk net Z C) (hmd : ∀ i, i < kk → md i = some (Z 0 i)) (v1 : Int32) (sz : Nat) : Wr l yX11_log cX11_log 3 (some .int) rm_X11_log 0 0 E (otW E ca ra ao C tr md Z kk) sz [.ref (ca 0), .int v1] (fun v4 w1 => v4 = some (.int (lgV nn kk (Z 2) (Z 3) tr v1).1) ∧ w1 = otW E ca ra ao C (lgV nn kk (Z 2) (Z 3) tr v1).2 md Z kk) := by
  refine mk_wr (by decide) (Nat.le_of_ble_eq_true rfl) ?_
  intro p e s m args below meth c hC hin hK A hA hP hD hS ls hl
  obtain ⟨hx, hb, hr, hts, hown, hml, hlk, hN⟩ := id hC
  have hl : lv_has ls 3 [(0, .ref (ca 0)), (1, .int v1)] := hl
  have hn4 := hc.n4; have hk12 := hc.k12; have hx3 := hc.st.lt; have hx4 := hc.nw.lt; have hp3 := hc.p3; have hp4 := hc.p4; have hcc := hc.cnt
  obtain ⟨H, hH⟩ : ∃ z, z = s.heap := ⟨_, rfl⟩
  have hS : va_S A s.heap H [] := by rw [hH]; exact hS
  rw [← hH] at hP
  refine W_heap hH ?_
  obtain ⟨locs, hlo⟩ : ∃ z : List Loc, z = [] := ⟨_, rfl⟩
  rw [← hlo] at hS ⊢
  refine lv_aload_n hx hb dX11_log_0 rfl (lv_at hl 0 rfl) ?_
  refine lv_iload_n hx hb dX11_log_1 rfl (lv_at hl 1 rfl) ?_
  cases hpp : isP v1 kk with
  | false =>
    refine cV_r (rest := []) hC (k_callAt_n l E ca ra ao C md v1 kk hcc hpp) kw_333 iy_X11_callAt ⟨Nat.le_of_ble_eq_true rfl, Nat.le_of_ble_eq_true rfl⟩ ⟨rfl, rfl⟩ hK (show va_P E.1 vwCl (omd E ca ra ao C md) H from P2 hP List.mem_cons_self (List.mem_cons_of_mem _ (List.mem_cons_of_mem _ List.mem_cons_self))) (va_recv hK hP (ci := 9) (q0 := 0) rfl rfl) rfl hl.1 rfl (Nat.le_of_ble_eq_true rfl) dX11_log_2 ⟨Nat.le_of_ble_eq_true rfl, Nat.le_of_ble_eq_true rfl⟩ ?_
    refine W.eq (g2 := F0 m 5 ls [.null]) rfl ?_
    refine lv_astore_nN (lv' := [(2, .null), (0, .ref (ca 0)), (1, .int v1)]) hx hb dX11_log_5 rfl hl (by decide) rfl (fun ls hl => ?_)
    refine lv_aload_nN hx hb dX11_log_6 rfl (lv_at hl 0 rfl) ?_
    refine lv_ifnonnullN hx hb dX11_log_7 ?_
    refine lv_iconst (v := -1) hx hb dX11_log_10 (by decide) ?_
    refine lv_goto (tgt := 22) hx hb dX11_log_11 (by decide) ?_
    exact rw_i hC rfl hP hD hS (⟨by rw [lgV, if_pos hpp], by rw [lgV, if_pos hpp]⟩) dX11_log_22 (Nat.le_of_ble_eq_true rfl) (Nat.le_of_ble_eq_true rfl)
  | true =>
    obtain ⟨j1, hj1, rfl⟩ := isP_nat (by omega) hpp
    have hl : lv_has ls 3 [(0, .ref (ca 0)), (1, .int (nI j1))] := hl
    refine cV_r (rest := []) hC (k_callAt_y l E ca ra ao C md j1 (kk) (Z 0 j1) hcc hk12 (by omega) (hmd j1 (by omega))) kw_333 iy_X11_callAt ⟨Nat.le_of_ble_eq_true rfl, Nat.le_of_ble_eq_true rfl⟩ ⟨rfl, rfl⟩ hK (show va_P E.1 vwCl (omd E ca ra ao C md) H from P2 hP List.mem_cons_self (List.mem_cons_of_mem _ (List.mem_cons_of_mem _ List.mem_cons_self))) (va_recv hK hP (ci := 9) (q0 := 0) rfl rfl) rfl hl.1 rfl (Nat.le_of_ble_eq_true rfl) dX11_log_2 ⟨Nat.le_of_ble_eq_true rfl, Nat.le_of_ble_eq_true rfl⟩ ?_
    refine W.eq (g2 := F0 m 5 ls [.ref (Z 0 j1)]) rfl ?_
    have hpq9 := hc.pq j1 (by omega); have hcl9 := hc.cl j1 (by omega); have hx4 := hcl9.2.1.lt; have hx5 := (hc.af (by omega : j1 < kk)).lt
    rcases hc.k1 (by omega : j1 < kk) with hkk | hkk | hkk
    · -- kind 0
      have hknd := hcl9.1.symm.trans hkk
      have hPc : va_P E.1 vwCl [(Z 0 j1, .inr (1, cF Z j1))] H := cl_at hP ot_sub (by omega) hkk
      refine lv_astore_n (lv' := [(2, .ref (Z 0 j1)), (0, .ref (ca 0)), (1, .int (nI j1))]) hx hb dX11_log_5 rfl hl (by decide) rfl (fun ls hl => ?_)
      refine lv_aload_n hx hb dX11_log_6 rfl (lv_at hl 0 rfl) ?_
      refine lv_ifnonnull (tgt := 14) hx hb dX11_log_7 (by decide) ?_
      refine lv_aload_n hx hb dX11_log_14 rfl (lv_at hl 0 rfl) ?_
      refine lv_aload_n hx hb dX11_log_15 rfl (lv_at hl 1 rfl) ?_
      refine va_get (D := E.1) (ci := 9) (v := .ref (ca 3)) (C := RX11) (T := TX11) (N := 13) hx hb hts iX11 hown hK hP 0 rfl rfl 6 (by decide) (hts _ kw_110) (fun _ h9 => h9) rfl dX11_log_16 ?_
      obtain ⟨L1, L2, he⟩ := List.append_of_mem (clL_mem kk (by omega : j1 < kk))
      have hcc9 : clC Z j1 = (Z 0 j1, .inr (1, cF Z j1)) := (by unfold clC; rw [hkk]; rfl)
      rw [hcc9] at he
      have hP : va_P E.1 vwCl (oC ca ra ao C :: (ca 3, .inr (7, [.int tr])) :: mdC E (ca 2) md :: (L1 ++ ((Z 0 j1, .inr (1, cF Z j1)) :: L2))) H := (by rw [← he]; exact hP)
      have hD : va_D A (oC ca ra ao C :: (ca 3, .inr (7, [.int tr])) :: mdC E (ca 2) md :: (L1 ++ ((Z 0 j1, .inr (1, cF Z j1)) :: L2))) := (by rw [← he]; exact hD)
      have hP := P_perm tell_perm hP
      have hD := D_perm tell_perm hD
      refine cU_wr (X := []) (Y := oC ca ra ao C :: mdC E (ca 2) md :: (L1 ++ L2)) (rest := []) hC (k_log_1 l E (Z 0 j1) j1 (Z 2 j1) (Z 3 j1) (Z 4 j1) (Z 5 j1) (ca 3) tr _) uy_log_1 ⟨Nat.le_of_ble_eq_true rfl, Nat.le_of_ble_eq_true rfl⟩ ⟨rfl, rfl⟩ hK hP hD hS hA rfl (va_recv hK hPc (ci := 1) (q0 := 0) rfl rfl) rfl hl.1 rfl (Nat.le_of_ble_eq_true rfl) dX11_log_19 ⟨Nat.le_of_ble_eq_true rfl, Nat.le_of_ble_eq_true rfl⟩ (fun v_ w_ H locs hpost hP hD hS => ?_)
      obtain ⟨rfl, rfl⟩ := hpost
      have hP := P_perm (tell_perm (a := oC ca ra ao C) (b := (ca 3, .inr (7, [.int (nI 31 * tr + nI 4)]))) (c := (Z 0 j1, .inr (1, cF Z j1))) (d := mdC E (ca 2) md) (L := L1) (M := L2)).symm hP
      have hD := D_perm (tell_perm (a := oC ca ra ao C) (b := (ca 3, .inr (7, [.int (nI 31 * tr + nI 4)]))) (c := (Z 0 j1, .inr (1, cF Z j1))) (d := mdC E (ca 2) md) (L := L1) (M := L2)).symm hD
      have hP : va_P E.1 vwCl (otW E ca ra ao C (nI 31 * tr + nI 4) md Z kk) H := (by unfold otW; rw [he]; exact hP)
      have hD : va_D A (otW E ca ra ao C (nI 31 * tr + nI 4) md Z kk) := (by unfold otW; rw [he]; exact hD)
      refine W.eq (g2 := F0 m 22 ls [.int (nI j1)]) rfl ?_
      exact rw_i hC rfl hP hD hS (⟨by rw [lgV, if_neg (by rw [nat_isP (by omega) hj1]; decide), nI_clamp (by omega), hknd]; rfl, by rw [lgV, if_neg (by rw [nat_isP (by omega) hj1]; decide), nI_clamp (by omega), hknd]; rfl⟩) dX11_log_22 (Nat.le_of_ble_eq_true rfl) (Nat.le_of_ble_eq_true rfl)
    · -- kind 1
      have hknd := hcl9.1.symm.trans hkk
      have hPc : va_P E.1 vwCl [(Z 0 j1, .inr (3, cF Z j1))] H := cl_at hP ot_sub (by omega) hkk
      refine lv_astore_n (lv' := [(2, .ref (Z 0 j1)), (0, .ref (ca 0)), (1, .int (nI j1))]) hx hb dX11_log_5 rfl hl (by decide) rfl (fun ls hl => ?_)
      refine lv_aload_n hx hb dX11_log_6 rfl (lv_at hl 0 rfl) ?_
      refine lv_ifnonnull (tgt := 14) hx hb dX11_log_7 (by decide) ?_
      refine lv_aload_n hx hb dX11_log_14 rfl (lv_at hl 0 rfl) ?_
      refine lv_aload_n hx hb dX11_log_15 rfl (lv_at hl 1 rfl) ?_
      refine va_get (D := E.1) (ci := 9) (v := .ref (ca 3)) (C := RX11) (T := TX11) (N := 13) hx hb hts iX11 hown hK hP 0 rfl rfl 6 (by decide) (hts _ kw_110) (fun _ h9 => h9) rfl dX11_log_16 ?_
      obtain ⟨L1, L2, he⟩ := List.append_of_mem (clL_mem kk (by omega : j1 < kk))
      have hcc9 : clC Z j1 = (Z 0 j1, .inr (3, cF Z j1)) := (by unfold clC; rw [hkk]; rfl)
      rw [hcc9] at he
      have hP : va_P E.1 vwCl (oC ca ra ao C :: (ca 3, .inr (7, [.int tr])) :: mdC E (ca 2) md :: (L1 ++ ((Z 0 j1, .inr (3, cF Z j1)) :: L2))) H := (by rw [← he]; exact hP)
      have hD : va_D A (oC ca ra ao C :: (ca 3, .inr (7, [.int tr])) :: mdC E (ca 2) md :: (L1 ++ ((Z 0 j1, .inr (3, cF Z j1)) :: L2))) := (by rw [← he]; exact hD)
      have hP := P_perm tell_perm hP
      have hD := D_perm tell_perm hD
      refine cU_wr (X := []) (Y := oC ca ra ao C :: mdC E (ca 2) md :: (L1 ++ L2)) (rest := []) hC (k_log_4 l E (Z 0 j1) j1 (Z 2 j1) (Z 3 j1) (Z 4 j1) (Z 5 j1) (ca 3) tr _) uy_log_4 ⟨Nat.le_of_ble_eq_true rfl, Nat.le_of_ble_eq_true rfl⟩ ⟨rfl, rfl⟩ hK hP hD hS hA rfl (va_recv hK hPc (ci := 3) (q0 := 0) rfl rfl) rfl hl.1 rfl (Nat.le_of_ble_eq_true rfl) dX11_log_19 ⟨Nat.le_of_ble_eq_true rfl, Nat.le_of_ble_eq_true rfl⟩ (fun v_ w_ H locs hpost hP hD hS => ?_)
      obtain ⟨rfl, rfl⟩ := hpost
      have hP := P_perm (tell_perm (a := oC ca ra ao C) (b := (ca 3, .inr (7, [.int (nI 31 * tr + nI 4)]))) (c := (Z 0 j1, .inr (3, cF Z j1))) (d := mdC E (ca 2) md) (L := L1) (M := L2)).symm hP
      have hD := D_perm (tell_perm (a := oC ca ra ao C) (b := (ca 3, .inr (7, [.int (nI 31 * tr + nI 4)]))) (c := (Z 0 j1, .inr (3, cF Z j1))) (d := mdC E (ca 2) md) (L := L1) (M := L2)).symm hD
      have hP : va_P E.1 vwCl (otW E ca ra ao C (nI 31 * tr + nI 4) md Z kk) H := (by unfold otW; rw [he]; exact hP)
      have hD : va_D A (otW E ca ra ao C (nI 31 * tr + nI 4) md Z kk) := (by unfold otW; rw [he]; exact hD)
      refine W.eq (g2 := F0 m 22 ls [.int (nI j1)]) rfl ?_
      exact rw_i hC rfl hP hD hS (⟨by rw [lgV, if_neg (by rw [nat_isP (by omega) hj1]; decide), nI_clamp (by omega), hknd]; rfl, by rw [lgV, if_neg (by rw [nat_isP (by omega) hj1]; decide), nI_clamp (by omega), hknd]; rfl⟩) dX11_log_22 (Nat.le_of_ble_eq_true rfl) (Nat.le_of_ble_eq_true rfl)
    · -- kind 2
      have hknd := hcl9.1.symm.trans hkk
      have hPc : va_P E.1 vwCl [(Z 0 j1, .inr (8, cF Z j1))] H := cl_at hP ot_sub (by omega) hkk
      refine lv_astore_n (lv' := [(2, .ref (Z 0 j1)), (0, .ref (ca 0)), (1, .int (nI j1))]) hx hb dX11_log_5 rfl hl (by decide) rfl (fun ls hl => ?_)
      refine lv_aload_n hx hb dX11_log_6 rfl (lv_at hl 0 rfl) ?_
      refine lv_ifnonnull (tgt := 14) hx hb dX11_log_7 (by decide) ?_
      refine lv_aload_n hx hb dX11_log_14 rfl (lv_at hl 0 rfl) ?_
      refine lv_aload_n hx hb dX11_log_15 rfl (lv_at hl 1 rfl) ?_
      refine va_get (D := E.1) (ci := 9) (v := .ref (ca 3)) (C := RX11) (T := TX11) (N := 13) hx hb hts iX11 hown hK hP 0 rfl rfl 6 (by decide) (hts _ kw_110) (fun _ h9 => h9) rfl dX11_log_16 ?_
      obtain ⟨L1, L2, he⟩ := List.append_of_mem (clL_mem kk (by omega : j1 < kk))
      have hcc9 : clC Z j1 = (Z 0 j1, .inr (8, cF Z j1)) := (by unfold clC; rw [hkk]; rfl)
      rw [hcc9] at he
      have hP : va_P E.1 vwCl (oC ca ra ao C :: (ca 3, .inr (7, [.int tr])) :: mdC E (ca 2) md :: (L1 ++ ((Z 0 j1, .inr (8, cF Z j1)) :: L2))) H := (by rw [← he]; exact hP)
      have hD : va_D A (oC ca ra ao C :: (ca 3, .inr (7, [.int tr])) :: mdC E (ca 2) md :: (L1 ++ ((Z 0 j1, .inr (8, cF Z j1)) :: L2))) := (by rw [← he]; exact hD)
      have hP := P_perm tell_perm hP
      have hD := D_perm tell_perm hD
      refine cU_wr (X := []) (Y := oC ca ra ao C :: mdC E (ca 2) md :: (L1 ++ L2)) (rest := []) hC (k_log_10 l E (Z 0 j1) j1 (Z 2 j1) (Z 3 j1) (Z 4 j1) (Z 5 j1) (ca 3) tr _) uy_log_10 ⟨Nat.le_of_ble_eq_true rfl, Nat.le_of_ble_eq_true rfl⟩ ⟨rfl, rfl⟩ hK hP hD hS hA rfl (va_recv hK hPc (ci := 8) (q0 := 0) rfl rfl) rfl hl.1 rfl (Nat.le_of_ble_eq_true rfl) dX11_log_19 ⟨Nat.le_of_ble_eq_true rfl, Nat.le_of_ble_eq_true rfl⟩ (fun v_ w_ H locs hpost hP hD hS => ?_)
      obtain ⟨rfl, rfl⟩ := hpost
      have hP := P_perm (tell_perm (a := oC ca ra ao C) (b := (ca 3, .inr (7, [.int (nI 31 * tr + nI 5)]))) (c := (Z 0 j1, .inr (8, cF Z j1))) (d := mdC E (ca 2) md) (L := L1) (M := L2)).symm hP
      have hD := D_perm (tell_perm (a := oC ca ra ao C) (b := (ca 3, .inr (7, [.int (nI 31 * tr + nI 5)]))) (c := (Z 0 j1, .inr (8, cF Z j1))) (d := mdC E (ca 2) md) (L := L1) (M := L2)).symm hD
      have hP : va_P E.1 vwCl (otW E ca ra ao C (nI 31 * tr + nI 5) md Z kk) H := (by unfold otW; rw [he]; exact hP)
      have hD : va_D A (otW E ca ra ao C (nI 31 * tr + nI 5) md Z kk) := (by unfold otW; rw [he]; exact hD)
      refine W.eq (g2 := F0 m 22 ls [.int (nI 70)]) rfl ?_
      exact rw_i hC rfl hP hD hS (⟨by rw [lgV, if_neg (by rw [nat_isP (by omega) hj1]; decide), nI_clamp (by omega), hknd]; rfl, by rw [lgV, if_neg (by rw [nat_isP (by omega) hj1]; decide), nI_clamp (by omega), hknd]; rfl⟩) dX11_log_22 (Nat.le_of_ble_eq_true rfl) (Nat.le_of_ble_eq_true rfl)

set_option maxHeartbeats 4000000 in
set_option maxRecDepth 100000 in
theorem k_trace (l : Launch) (E : EE) (ca ra : Nat → Nat) (ao : Nat) (C : Nat → Nat) (tr : Int32) : Rd l yX11_trace cX11_trace 1 (some .int) rm_X11_trace E (okt E ca ra ao C tr) [.ref (ca 0)] (some (.int tr)) := by
  refine mk_rd (by decide) (Nat.le_of_ble_eq_true rfl) ?_
  intro p e s m args below meth c hC hK hP ls hl
  obtain ⟨hx, hb, hr, hts, hown, hml, hlk, hN⟩ := id hC
  have hl : lv_has ls 1 [(0, .ref (ca 0))] := hl
  refine lv_aload_n hx hb dX11_trace_0 rfl (lv_at hl 0 rfl) ?_
  refine va_get (D := E.1) (ci := 9) (v := .ref (ca 3)) (C := RX11) (T := TX11) (N := 13) hx hb hts iX11 hown hK hP 0 rfl rfl 6 (by decide) (hts _ kw_110) (fun _ h9 => h9) rfl dX11_trace_1 ?_
  refine va_get (D := E.1) (ci := 7) (v := .int tr) (C := RX9) (T := TX9) (N := 1) hx hb hts iX9 hown hK hP 1 rfl rfl 0 (by decide) (hts _ kw_37) (fun _ h9 => h9) rfl dX11_trace_4 ?_
  exact rz_iE hC (rfl) dX11_trace_7
