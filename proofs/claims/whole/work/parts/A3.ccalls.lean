set_option maxHeartbeats 4000000 in
set_option maxRecDepth 100000 in
theorem k_ci_1 (l : Launch) (E : EE) (o1 sz nu rp rq bf af : Nat) : Wr l yX1_init cX1_init 8 none rm_X1_init 0 0 E [(o1, .inr (1, [.int (nI 0), .int (nI 0), .int (nI 0), .long (lN 0), .long (lN 0)]))] sz [.ref o1, .int (nI nu), .int (nI rp), .int (nI rq), .long (lN bf), .long (lN af)] (fun v w1 => v = none ∧ w1 = [(o1, .inr (1, [.int (nI nu), .int (nI rp), .int (nI rq), .long (lN bf), .long (lN af)]))]) := by
  refine mk_wr (by decide) (Nat.le_of_ble_eq_true rfl) ?_
  intro p e s m args below meth c hC hin hK A hA hP hD hS ls hl
  have hin : meth.name = "<init>" := hin
  obtain ⟨hx, hb, hr, hts, hown, hml, hlk, hN⟩ := id hC
  have hl : lv_has ls 8 [(0, .ref o1), (1, .int (nI nu)), (2, .int (nI rp)), (3, .int (nI rq)), (4, .long (lN bf)), (6, .long (lN af))] := hl
  obtain ⟨H, hH⟩ : ∃ z, z = s.heap := ⟨_, rfl⟩
  have hS : va_S A s.heap H [] := by rw [hH]; exact hS
  rw [← hH] at hP
  refine W_heap hH ?_
  obtain ⟨locs, hlo⟩ : ∃ z : List Loc, z = [] := ⟨_, rfl⟩
  rw [← hlo] at hS ⊢
  refine lv_aload_n hx hb dX1_init_0 rfl (lv_at hl 0 rfl) ?_
  refine W.objInit hx hb hown (hts _ kw_277) (hts _ kw_24) (hts _ kw_25) rfl (by rw [hml]; exact hl.1) rfl dX1_init_1 (Nat.le_of_ble_eq_true rfl) (Nat.le_of_ble_eq_true rfl) ?_
  refine W.eq (g2 := F0 m 4 ls []) rfl ?_
  refine lv_aload_n hx hb dX1_init_4 rfl (lv_at hl 0 rfl) ?_
  refine lv_iload_n hx hb dX1_init_5 rfl (lv_at hl 1 rfl) ?_
  refine va_putF (D := E.1) (ci := 1) (v := .int (nI nu)) (ty := .int) (C := RX1) (T := TX1) (N := 5) hx hb hts iX1 tyX1 tyX1_ok nmX1 hown hK hP hD hS 0 rfl rfl 0 (by decide) (hts _ kw_278) (fun _ h9 => h9) rfl hin rfl (by decide +kernel) rfl rfl (Nat.le_of_ble_eq_true rfl) dX1_init_6 (fun H locs hP hD hS => ?_)
  have hP : va_P E.1 vwCl [(o1, .inr (1, [.int (nI nu), .int (nI 0), .int (nI 0), .long (lN 0), .long (lN 0)]))] H := hP
  have hD : va_D A [(o1, .inr (1, [.int (nI nu), .int (nI 0), .int (nI 0), .long (lN 0), .long (lN 0)]))] := hD
  refine lv_aload_n hx hb dX1_init_9 rfl (lv_at hl 0 rfl) ?_
  refine lv_iload_n hx hb dX1_init_10 rfl (lv_at hl 2 rfl) ?_
  refine va_putF (D := E.1) (ci := 1) (v := .int (nI rp)) (ty := .int) (C := RX1) (T := TX1) (N := 5) hx hb hts iX1 tyX1 tyX1_ok nmX1 hown hK hP hD hS 0 rfl rfl 1 (by decide) (hts _ kw_280) (fun _ h9 => h9) rfl hin rfl (by decide +kernel) rfl rfl (Nat.le_of_ble_eq_true rfl) dX1_init_11 (fun H locs hP hD hS => ?_)
  have hP : va_P E.1 vwCl [(o1, .inr (1, [.int (nI nu), .int (nI rp), .int (nI 0), .long (lN 0), .long (lN 0)]))] H := hP
  have hD : va_D A [(o1, .inr (1, [.int (nI nu), .int (nI rp), .int (nI 0), .long (lN 0), .long (lN 0)]))] := hD
  refine lv_aload_n hx hb dX1_init_14 rfl (lv_at hl 0 rfl) ?_
  refine lv_iload_n hx hb dX1_init_15 rfl (lv_at hl 3 rfl) ?_
  refine va_putF (D := E.1) (ci := 1) (v := .int (nI rq)) (ty := .int) (C := RX1) (T := TX1) (N := 5) hx hb hts iX1 tyX1 tyX1_ok nmX1 hown hK hP hD hS 0 rfl rfl 2 (by decide) (hts _ kw_285) (fun _ h9 => h9) rfl hin rfl (by decide +kernel) rfl rfl (Nat.le_of_ble_eq_true rfl) dX1_init_16 (fun H locs hP hD hS => ?_)
  have hP : va_P E.1 vwCl [(o1, .inr (1, [.int (nI nu), .int (nI rp), .int (nI rq), .long (lN 0), .long (lN 0)]))] H := hP
  have hD : va_D A [(o1, .inr (1, [.int (nI nu), .int (nI rp), .int (nI rq), .long (lN 0), .long (lN 0)]))] := hD
  refine lv_aload_n hx hb dX1_init_19 rfl (lv_at hl 0 rfl) ?_
  refine lv_lload hx hb dX1_init_20 (lv_at hl 4 rfl) ?_
  refine va_putF (D := E.1) (ci := 1) (v := .long (lN bf)) (ty := .long) (C := RX1) (T := TX1) (N := 5) hx hb hts iX1 tyX1 tyX1_ok nmX1 hown hK hP hD hS 0 rfl rfl 3 (by decide) (hts _ kw_290) (fun _ h9 => h9) rfl hin rfl (by decide +kernel) rfl rfl (Nat.le_of_ble_eq_true rfl) dX1_init_22 (fun H locs hP hD hS => ?_)
  have hP : va_P E.1 vwCl [(o1, .inr (1, [.int (nI nu), .int (nI rp), .int (nI rq), .long (lN bf), .long (lN 0)]))] H := hP
  have hD : va_D A [(o1, .inr (1, [.int (nI nu), .int (nI rp), .int (nI rq), .long (lN bf), .long (lN 0)]))] := hD
  refine lv_aload_n hx hb dX1_init_25 rfl (lv_at hl 0 rfl) ?_
  refine lv_lload hx hb dX1_init_26 (lv_at hl 5 rfl) ?_
  refine va_putF (D := E.1) (ci := 1) (v := .long (lN af)) (ty := .long) (C := RX1) (T := TX1) (N := 5) hx hb hts iX1 tyX1 tyX1_ok nmX1 hown hK hP hD hS 0 rfl rfl 4 (by decide) (hts _ kw_292) (fun _ h9 => h9) rfl hin rfl (by decide +kernel) rfl rfl (Nat.le_of_ble_eq_true rfl) dX1_init_28 (fun H locs hP hD hS => ?_)
  have hP : va_P E.1 vwCl [(o1, .inr (1, [.int (nI nu), .int (nI rp), .int (nI rq), .long (lN bf), .long (lN af)]))] H := hP
  have hD : va_D A [(o1, .inr (1, [.int (nI nu), .int (nI rp), .int (nI rq), .long (lN bf), .long (lN af)]))] := hD
  exact rw_v hC hP hD hS (⟨rfl, rfl⟩) dX1_init_31 (Nat.le_of_ble_eq_true rfl) (Nat.le_of_ble_eq_true rfl)

set_option maxHeartbeats 4000000 in
set_option maxRecDepth 100000 in
theorem k_ci_4 (l : Launch) (E : EE) (o1 sz nu rp rq bf af : Nat) : Wr l yX1_init cX1_init 8 none rm_X1_init 0 0 E [(o1, .inr (3, [.int (nI 0), .int (nI 0), .int (nI 0), .long (lN 0), .long (lN 0)]))] sz [.ref o1, .int (nI nu), .int (nI rp), .int (nI rq), .long (lN bf), .long (lN af)] (fun v w1 => v = none ∧ w1 = [(o1, .inr (3, [.int (nI nu), .int (nI rp), .int (nI rq), .long (lN bf), .long (lN af)]))]) := by
  refine mk_wr (by decide) (Nat.le_of_ble_eq_true rfl) ?_
  intro p e s m args below meth c hC hin hK A hA hP hD hS ls hl
  have hin : meth.name = "<init>" := hin
  obtain ⟨hx, hb, hr, hts, hown, hml, hlk, hN⟩ := id hC
  have hl : lv_has ls 8 [(0, .ref o1), (1, .int (nI nu)), (2, .int (nI rp)), (3, .int (nI rq)), (4, .long (lN bf)), (6, .long (lN af))] := hl
  obtain ⟨H, hH⟩ : ∃ z, z = s.heap := ⟨_, rfl⟩
  have hS : va_S A s.heap H [] := by rw [hH]; exact hS
  rw [← hH] at hP
  refine W_heap hH ?_
  obtain ⟨locs, hlo⟩ : ∃ z : List Loc, z = [] := ⟨_, rfl⟩
  rw [← hlo] at hS ⊢
  refine lv_aload_n hx hb dX1_init_0 rfl (lv_at hl 0 rfl) ?_
  refine W.objInit hx hb hown (hts _ kw_277) (hts _ kw_24) (hts _ kw_25) rfl (by rw [hml]; exact hl.1) rfl dX1_init_1 (Nat.le_of_ble_eq_true rfl) (Nat.le_of_ble_eq_true rfl) ?_
  refine W.eq (g2 := F0 m 4 ls []) rfl ?_
  refine lv_aload_n hx hb dX1_init_4 rfl (lv_at hl 0 rfl) ?_
  refine lv_iload_n hx hb dX1_init_5 rfl (lv_at hl 1 rfl) ?_
  refine va_putF (D := E.1) (ci := 3) (v := .int (nI nu)) (ty := .int) (C := RX4) (T := TX4) (N := 5) hx hb hts iX4 tyX4 tyX4_ok nmX4 hown hK hP hD hS 0 rfl rfl 0 (by decide) (hts _ kw_278) (fun _ h9 => h9) rfl hin rfl (by decide +kernel) rfl rfl (Nat.le_of_ble_eq_true rfl) dX1_init_6 (fun H locs hP hD hS => ?_)
  have hP : va_P E.1 vwCl [(o1, .inr (3, [.int (nI nu), .int (nI 0), .int (nI 0), .long (lN 0), .long (lN 0)]))] H := hP
  have hD : va_D A [(o1, .inr (3, [.int (nI nu), .int (nI 0), .int (nI 0), .long (lN 0), .long (lN 0)]))] := hD
  refine lv_aload_n hx hb dX1_init_9 rfl (lv_at hl 0 rfl) ?_
  refine lv_iload_n hx hb dX1_init_10 rfl (lv_at hl 2 rfl) ?_
  refine va_putF (D := E.1) (ci := 3) (v := .int (nI rp)) (ty := .int) (C := RX4) (T := TX4) (N := 5) hx hb hts iX4 tyX4 tyX4_ok nmX4 hown hK hP hD hS 0 rfl rfl 1 (by decide) (hts _ kw_280) (fun _ h9 => h9) rfl hin rfl (by decide +kernel) rfl rfl (Nat.le_of_ble_eq_true rfl) dX1_init_11 (fun H locs hP hD hS => ?_)
  have hP : va_P E.1 vwCl [(o1, .inr (3, [.int (nI nu), .int (nI rp), .int (nI 0), .long (lN 0), .long (lN 0)]))] H := hP
  have hD : va_D A [(o1, .inr (3, [.int (nI nu), .int (nI rp), .int (nI 0), .long (lN 0), .long (lN 0)]))] := hD
  refine lv_aload_n hx hb dX1_init_14 rfl (lv_at hl 0 rfl) ?_
  refine lv_iload_n hx hb dX1_init_15 rfl (lv_at hl 3 rfl) ?_
  refine va_putF (D := E.1) (ci := 3) (v := .int (nI rq)) (ty := .int) (C := RX4) (T := TX4) (N := 5) hx hb hts iX4 tyX4 tyX4_ok nmX4 hown hK hP hD hS 0 rfl rfl 2 (by decide) (hts _ kw_285) (fun _ h9 => h9) rfl hin rfl (by decide +kernel) rfl rfl (Nat.le_of_ble_eq_true rfl) dX1_init_16 (fun H locs hP hD hS => ?_)
  have hP : va_P E.1 vwCl [(o1, .inr (3, [.int (nI nu), .int (nI rp), .int (nI rq), .long (lN 0), .long (lN 0)]))] H := hP
  have hD : va_D A [(o1, .inr (3, [.int (nI nu), .int (nI rp), .int (nI rq), .long (lN 0), .long (lN 0)]))] := hD
  refine lv_aload_n hx hb dX1_init_19 rfl (lv_at hl 0 rfl) ?_
  refine lv_lload hx hb dX1_init_20 (lv_at hl 4 rfl) ?_
  refine va_putF (D := E.1) (ci := 3) (v := .long (lN bf)) (ty := .long) (C := RX4) (T := TX4) (N := 5) hx hb hts iX4 tyX4 tyX4_ok nmX4 hown hK hP hD hS 0 rfl rfl 3 (by decide) (hts _ kw_290) (fun _ h9 => h9) rfl hin rfl (by decide +kernel) rfl rfl (Nat.le_of_ble_eq_true rfl) dX1_init_22 (fun H locs hP hD hS => ?_)
  have hP : va_P E.1 vwCl [(o1, .inr (3, [.int (nI nu), .int (nI rp), .int (nI rq), .long (lN bf), .long (lN 0)]))] H := hP
  have hD : va_D A [(o1, .inr (3, [.int (nI nu), .int (nI rp), .int (nI rq), .long (lN bf), .long (lN 0)]))] := hD
  refine lv_aload_n hx hb dX1_init_25 rfl (lv_at hl 0 rfl) ?_
  refine lv_lload hx hb dX1_init_26 (lv_at hl 5 rfl) ?_
  refine va_putF (D := E.1) (ci := 3) (v := .long (lN af)) (ty := .long) (C := RX4) (T := TX4) (N := 5) hx hb hts iX4 tyX4 tyX4_ok nmX4 hown hK hP hD hS 0 rfl rfl 4 (by decide) (hts _ kw_292) (fun _ h9 => h9) rfl hin rfl (by decide +kernel) rfl rfl (Nat.le_of_ble_eq_true rfl) dX1_init_28 (fun H locs hP hD hS => ?_)
  have hP : va_P E.1 vwCl [(o1, .inr (3, [.int (nI nu), .int (nI rp), .int (nI rq), .long (lN bf), .long (lN af)]))] H := hP
  have hD : va_D A [(o1, .inr (3, [.int (nI nu), .int (nI rp), .int (nI rq), .long (lN bf), .long (lN af)]))] := hD
  exact rw_v hC hP hD hS (⟨rfl, rfl⟩) dX1_init_31 (Nat.le_of_ble_eq_true rfl) (Nat.le_of_ble_eq_true rfl)

set_option maxHeartbeats 4000000 in
set_option maxRecDepth 100000 in
theorem k_ci_10 (l : Launch) (E : EE) (o1 sz nu rp rq bf af : Nat) : Wr l yX1_init cX1_init 8 none rm_X1_init 0 0 E [(o1, .inr (8, [.int (nI 0), .int (nI 0), .int (nI 0), .long (lN 0), .long (lN 0)]))] sz [.ref o1, .int (nI nu), .int (nI rp), .int (nI rq), .long (lN bf), .long (lN af)] (fun v w1 => v = none ∧ w1 = [(o1, .inr (8, [.int (nI nu), .int (nI rp), .int (nI rq), .long (lN bf), .long (lN af)]))]) := by
  refine mk_wr (by decide) (Nat.le_of_ble_eq_true rfl) ?_
  intro p e s m args below meth c hC hin hK A hA hP hD hS ls hl
  have hin : meth.name = "<init>" := hin
  obtain ⟨hx, hb, hr, hts, hown, hml, hlk, hN⟩ := id hC
  have hl : lv_has ls 8 [(0, .ref o1), (1, .int (nI nu)), (2, .int (nI rp)), (3, .int (nI rq)), (4, .long (lN bf)), (6, .long (lN af))] := hl
  obtain ⟨H, hH⟩ : ∃ z, z = s.heap := ⟨_, rfl⟩
  have hS : va_S A s.heap H [] := by rw [hH]; exact hS
  rw [← hH] at hP
  refine W_heap hH ?_
  obtain ⟨locs, hlo⟩ : ∃ z : List Loc, z = [] := ⟨_, rfl⟩
  rw [← hlo] at hS ⊢
  refine lv_aload_n hx hb dX1_init_0 rfl (lv_at hl 0 rfl) ?_
  refine W.objInit hx hb hown (hts _ kw_277) (hts _ kw_24) (hts _ kw_25) rfl (by rw [hml]; exact hl.1) rfl dX1_init_1 (Nat.le_of_ble_eq_true rfl) (Nat.le_of_ble_eq_true rfl) ?_
  refine W.eq (g2 := F0 m 4 ls []) rfl ?_
  refine lv_aload_n hx hb dX1_init_4 rfl (lv_at hl 0 rfl) ?_
  refine lv_iload_n hx hb dX1_init_5 rfl (lv_at hl 1 rfl) ?_
  refine va_putF (D := E.1) (ci := 8) (v := .int (nI nu)) (ty := .int) (C := RX10) (T := TX10) (N := 5) hx hb hts iX10 tyX10 tyX10_ok nmX10 hown hK hP hD hS 0 rfl rfl 0 (by decide) (hts _ kw_278) (fun _ h9 => h9) rfl hin rfl (by decide +kernel) rfl rfl (Nat.le_of_ble_eq_true rfl) dX1_init_6 (fun H locs hP hD hS => ?_)
  have hP : va_P E.1 vwCl [(o1, .inr (8, [.int (nI nu), .int (nI 0), .int (nI 0), .long (lN 0), .long (lN 0)]))] H := hP
  have hD : va_D A [(o1, .inr (8, [.int (nI nu), .int (nI 0), .int (nI 0), .long (lN 0), .long (lN 0)]))] := hD
  refine lv_aload_n hx hb dX1_init_9 rfl (lv_at hl 0 rfl) ?_
  refine lv_iload_n hx hb dX1_init_10 rfl (lv_at hl 2 rfl) ?_
  refine va_putF (D := E.1) (ci := 8) (v := .int (nI rp)) (ty := .int) (C := RX10) (T := TX10) (N := 5) hx hb hts iX10 tyX10 tyX10_ok nmX10 hown hK hP hD hS 0 rfl rfl 1 (by decide) (hts _ kw_280) (fun _ h9 => h9) rfl hin rfl (by decide +kernel) rfl rfl (Nat.le_of_ble_eq_true rfl) dX1_init_11 (fun H locs hP hD hS => ?_)
  have hP : va_P E.1 vwCl [(o1, .inr (8, [.int (nI nu), .int (nI rp), .int (nI 0), .long (lN 0), .long (lN 0)]))] H := hP
  have hD : va_D A [(o1, .inr (8, [.int (nI nu), .int (nI rp), .int (nI 0), .long (lN 0), .long (lN 0)]))] := hD
  refine lv_aload_n hx hb dX1_init_14 rfl (lv_at hl 0 rfl) ?_
  refine lv_iload_n hx hb dX1_init_15 rfl (lv_at hl 3 rfl) ?_
  refine va_putF (D := E.1) (ci := 8) (v := .int (nI rq)) (ty := .int) (C := RX10) (T := TX10) (N := 5) hx hb hts iX10 tyX10 tyX10_ok nmX10 hown hK hP hD hS 0 rfl rfl 2 (by decide) (hts _ kw_285) (fun _ h9 => h9) rfl hin rfl (by decide +kernel) rfl rfl (Nat.le_of_ble_eq_true rfl) dX1_init_16 (fun H locs hP hD hS => ?_)
  have hP : va_P E.1 vwCl [(o1, .inr (8, [.int (nI nu), .int (nI rp), .int (nI rq), .long (lN 0), .long (lN 0)]))] H := hP
  have hD : va_D A [(o1, .inr (8, [.int (nI nu), .int (nI rp), .int (nI rq), .long (lN 0), .long (lN 0)]))] := hD
  refine lv_aload_n hx hb dX1_init_19 rfl (lv_at hl 0 rfl) ?_
  refine lv_lload hx hb dX1_init_20 (lv_at hl 4 rfl) ?_
  refine va_putF (D := E.1) (ci := 8) (v := .long (lN bf)) (ty := .long) (C := RX10) (T := TX10) (N := 5) hx hb hts iX10 tyX10 tyX10_ok nmX10 hown hK hP hD hS 0 rfl rfl 3 (by decide) (hts _ kw_290) (fun _ h9 => h9) rfl hin rfl (by decide +kernel) rfl rfl (Nat.le_of_ble_eq_true rfl) dX1_init_22 (fun H locs hP hD hS => ?_)
  have hP : va_P E.1 vwCl [(o1, .inr (8, [.int (nI nu), .int (nI rp), .int (nI rq), .long (lN bf), .long (lN 0)]))] H := hP
  have hD : va_D A [(o1, .inr (8, [.int (nI nu), .int (nI rp), .int (nI rq), .long (lN bf), .long (lN 0)]))] := hD
  refine lv_aload_n hx hb dX1_init_25 rfl (lv_at hl 0 rfl) ?_
  refine lv_lload hx hb dX1_init_26 (lv_at hl 5 rfl) ?_
  refine va_putF (D := E.1) (ci := 8) (v := .long (lN af)) (ty := .long) (C := RX10) (T := TX10) (N := 5) hx hb hts iX10 tyX10 tyX10_ok nmX10 hown hK hP hD hS 0 rfl rfl 4 (by decide) (hts _ kw_292) (fun _ h9 => h9) rfl hin rfl (by decide +kernel) rfl rfl (Nat.le_of_ble_eq_true rfl) dX1_init_28 (fun H locs hP hD hS => ?_)
  have hP : va_P E.1 vwCl [(o1, .inr (8, [.int (nI nu), .int (nI rp), .int (nI rq), .long (lN bf), .long (lN af)]))] H := hP
  have hD : va_D A [(o1, .inr (8, [.int (nI nu), .int (nI rp), .int (nI rq), .long (lN bf), .long (lN af)]))] := hD
  exact rw_v hC hP hD hS (⟨rfl, rfl⟩) dX1_init_31 (Nat.le_of_ble_eq_true rfl) (Nat.le_of_ble_eq_true rfl)

set_option maxHeartbeats 4000000 in
set_option maxRecDepth 100000 in
theorem k_ni_4 (l : Launch) (E : EE) (o1 sz nu rp rq bf af : Nat) : Wr l yX4_init cX4_init 8 none rm_X4_init 0 0 E [(o1, .inr (3, [.int (nI 0), .int (nI 0), .int (nI 0), .long (lN 0), .long (lN 0)]))] sz [.ref o1, .int (nI nu), .int (nI rp), .int (nI rq), .long (lN bf), .long (lN af)] (fun v w1 => v = none ∧ w1 = [(o1, .inr (3, [.int (nI nu), .int (nI rp), .int (nI rq), .long (lN bf), .long (lN af)]))]) := by
  refine mk_wr (by decide) (Nat.le_of_ble_eq_true rfl) ?_
  intro p e s m args below meth c hC hin hK A hA hP hD hS ls hl
  have hin : meth.name = "<init>" := hin
  obtain ⟨hx, hb, hr, hts, hown, hml, hlk, hN⟩ := id hC
  have hl : lv_has ls 8 [(0, .ref o1), (1, .int (nI nu)), (2, .int (nI rp)), (3, .int (nI rq)), (4, .long (lN bf)), (6, .long (lN af))] := hl
  obtain ⟨H, hH⟩ : ∃ z, z = s.heap := ⟨_, rfl⟩
  have hS : va_S A s.heap H [] := by rw [hH]; exact hS
  rw [← hH] at hP
  refine W_heap hH ?_
  obtain ⟨locs, hlo⟩ : ∃ z : List Loc, z = [] := ⟨_, rfl⟩
  rw [← hlo] at hS ⊢
  refine lv_aload_n hx hb dX4_init_0 rfl (lv_at hl 0 rfl) ?_
  refine lv_iload_n hx hb dX4_init_1 rfl (lv_at hl 1 rfl) ?_
  refine lv_iload_n hx hb dX4_init_2 rfl (lv_at hl 2 rfl) ?_
  refine lv_iload_n hx hb dX4_init_3 rfl (lv_at hl 3 rfl) ?_
  refine lv_lload hx hb dX4_init_4 (lv_at hl 4 rfl) ?_
  refine lv_lload hx hb dX4_init_6 (lv_at hl 5 rfl) ?_
  refine cI_wr (X := []) (Y := []) (rest := []) hC (k_ci_4 l E o1 _ nu rp rq bf af) kw_313 ny_X1_init ⟨Nat.le_of_ble_eq_true rfl, Nat.le_of_ble_eq_true rfl⟩ ⟨rfl, rfl⟩ hK hP hD hS hA rfl rfl hl.1 rfl (Nat.le_of_ble_eq_true rfl) dX4_init_8 ⟨Nat.le_of_ble_eq_true rfl, Nat.le_of_ble_eq_true rfl⟩ (fun v_ w_ H locs hpost hP hD hS => ?_)
  obtain ⟨rfl, rfl⟩ := hpost
  have hP : va_P E.1 vwCl [(o1, .inr (3, [.int (nI nu), .int (nI rp), .int (nI rq), .long (lN bf), .long (lN af)]))] H := hP
  have hD : va_D A [(o1, .inr (3, [.int (nI nu), .int (nI rp), .int (nI rq), .long (lN bf), .long (lN af)]))] := hD
  refine W.widen (k := 0) (n := 0) (Nat.le_of_ble_eq_true rfl) (Nat.le_of_ble_eq_true rfl) ?_
  refine W.eq (g2 := F0 m 11 ls []) rfl ?_
  exact rw_v hC hP hD hS (⟨rfl, rfl⟩) dX4_init_11 (Nat.le_of_ble_eq_true rfl) (Nat.le_of_ble_eq_true rfl)

set_option maxHeartbeats 4000000 in
set_option maxRecDepth 100000 in
theorem k_ni_10 (l : Launch) (E : EE) (o1 sz nu rp rq bf af : Nat) : Wr l yX4_init cX4_init 8 none rm_X4_init 0 0 E [(o1, .inr (8, [.int (nI 0), .int (nI 0), .int (nI 0), .long (lN 0), .long (lN 0)]))] sz [.ref o1, .int (nI nu), .int (nI rp), .int (nI rq), .long (lN bf), .long (lN af)] (fun v w1 => v = none ∧ w1 = [(o1, .inr (8, [.int (nI nu), .int (nI rp), .int (nI rq), .long (lN bf), .long (lN af)]))]) := by
  refine mk_wr (by decide) (Nat.le_of_ble_eq_true rfl) ?_
  intro p e s m args below meth c hC hin hK A hA hP hD hS ls hl
  have hin : meth.name = "<init>" := hin
  obtain ⟨hx, hb, hr, hts, hown, hml, hlk, hN⟩ := id hC
  have hl : lv_has ls 8 [(0, .ref o1), (1, .int (nI nu)), (2, .int (nI rp)), (3, .int (nI rq)), (4, .long (lN bf)), (6, .long (lN af))] := hl
  obtain ⟨H, hH⟩ : ∃ z, z = s.heap := ⟨_, rfl⟩
  have hS : va_S A s.heap H [] := by rw [hH]; exact hS
  rw [← hH] at hP
  refine W_heap hH ?_
  obtain ⟨locs, hlo⟩ : ∃ z : List Loc, z = [] := ⟨_, rfl⟩
  rw [← hlo] at hS ⊢
  refine lv_aload_n hx hb dX4_init_0 rfl (lv_at hl 0 rfl) ?_
  refine lv_iload_n hx hb dX4_init_1 rfl (lv_at hl 1 rfl) ?_
  refine lv_iload_n hx hb dX4_init_2 rfl (lv_at hl 2 rfl) ?_
  refine lv_iload_n hx hb dX4_init_3 rfl (lv_at hl 3 rfl) ?_
  refine lv_lload hx hb dX4_init_4 (lv_at hl 4 rfl) ?_
  refine lv_lload hx hb dX4_init_6 (lv_at hl 5 rfl) ?_
  refine cI_wr (X := []) (Y := []) (rest := []) hC (k_ci_10 l E o1 _ nu rp rq bf af) kw_313 ny_X1_init ⟨Nat.le_of_ble_eq_true rfl, Nat.le_of_ble_eq_true rfl⟩ ⟨rfl, rfl⟩ hK hP hD hS hA rfl rfl hl.1 rfl (Nat.le_of_ble_eq_true rfl) dX4_init_8 ⟨Nat.le_of_ble_eq_true rfl, Nat.le_of_ble_eq_true rfl⟩ (fun v_ w_ H locs hpost hP hD hS => ?_)
  obtain ⟨rfl, rfl⟩ := hpost
  have hP : va_P E.1 vwCl [(o1, .inr (8, [.int (nI nu), .int (nI rp), .int (nI rq), .long (lN bf), .long (lN af)]))] H := hP
  have hD : va_D A [(o1, .inr (8, [.int (nI nu), .int (nI rp), .int (nI rq), .long (lN bf), .long (lN af)]))] := hD
  refine W.widen (k := 0) (n := 0) (Nat.le_of_ble_eq_true rfl) (Nat.le_of_ble_eq_true rfl) ?_
  refine W.eq (g2 := F0 m 11 ls []) rfl ?_
  exact rw_v hC hP hD hS (⟨rfl, rfl⟩) dX4_init_11 (Nat.le_of_ble_eq_true rfl) (Nat.le_of_ble_eq_true rfl)

set_option maxHeartbeats 4000000 in
set_option maxRecDepth 100000 in
theorem k_wi_10 (l : Launch) (E : EE) (o1 sz nu rp rq bf af : Nat) : Wr l yX10_init cX10_init 8 none rm_X10_init 0 0 E [(o1, .inr (8, [.int (nI 0), .int (nI 0), .int (nI 0), .long (lN 0), .long (lN 0)]))] sz [.ref o1, .int (nI nu), .int (nI rp), .int (nI rq), .long (lN bf), .long (lN af)] (fun v w1 => v = none ∧ w1 = [(o1, .inr (8, [.int (nI nu), .int (nI rp), .int (nI rq), .long (lN bf), .long (lN af)]))]) := by
  refine mk_wr (by decide) (Nat.le_of_ble_eq_true rfl) ?_
  intro p e s m args below meth c hC hin hK A hA hP hD hS ls hl
  have hin : meth.name = "<init>" := hin
  obtain ⟨hx, hb, hr, hts, hown, hml, hlk, hN⟩ := id hC
  have hl : lv_has ls 8 [(0, .ref o1), (1, .int (nI nu)), (2, .int (nI rp)), (3, .int (nI rq)), (4, .long (lN bf)), (6, .long (lN af))] := hl
  obtain ⟨H, hH⟩ : ∃ z, z = s.heap := ⟨_, rfl⟩
  have hS : va_S A s.heap H [] := by rw [hH]; exact hS
  rw [← hH] at hP
  refine W_heap hH ?_
  obtain ⟨locs, hlo⟩ : ∃ z : List Loc, z = [] := ⟨_, rfl⟩
  rw [← hlo] at hS ⊢
  refine lv_aload_n hx hb dX10_init_0 rfl (lv_at hl 0 rfl) ?_
  refine lv_iload_n hx hb dX10_init_1 rfl (lv_at hl 1 rfl) ?_
  refine lv_iload_n hx hb dX10_init_2 rfl (lv_at hl 2 rfl) ?_
  refine lv_iload_n hx hb dX10_init_3 rfl (lv_at hl 3 rfl) ?_
  refine lv_lload hx hb dX10_init_4 (lv_at hl 4 rfl) ?_
  refine lv_lload hx hb dX10_init_6 (lv_at hl 5 rfl) ?_
  refine cI_wr (X := []) (Y := []) (rest := []) hC (k_ni_10 l E o1 _ nu rp rq bf af) kw_310 ny_X4_init ⟨Nat.le_of_ble_eq_true rfl, Nat.le_of_ble_eq_true rfl⟩ ⟨rfl, rfl⟩ hK hP hD hS hA rfl rfl hl.1 rfl (Nat.le_of_ble_eq_true rfl) dX10_init_8 ⟨Nat.le_of_ble_eq_true rfl, Nat.le_of_ble_eq_true rfl⟩ (fun v_ w_ H locs hpost hP hD hS => ?_)
  obtain ⟨rfl, rfl⟩ := hpost
  have hP : va_P E.1 vwCl [(o1, .inr (8, [.int (nI nu), .int (nI rp), .int (nI rq), .long (lN bf), .long (lN af)]))] H := hP
  have hD : va_D A [(o1, .inr (8, [.int (nI nu), .int (nI rp), .int (nI rq), .long (lN bf), .long (lN af)]))] := hD
  refine W.widen (k := 0) (n := 0) (Nat.le_of_ble_eq_true rfl) (Nat.le_of_ble_eq_true rfl) ?_
  refine W.eq (g2 := F0 m 11 ls []) rfl ?_
  exact rw_v hC hP hD hS (⟨rfl, rfl⟩) dX10_init_11 (Nat.le_of_ble_eq_true rfl) (Nat.le_of_ble_eq_true rfl)

set_option maxHeartbeats 4000000 in
set_option maxRecDepth 100000 in
theorem k_kind_1 (l : Launch) (E : EE) (o1 nu rp rq bf af : Nat) : Rd l yX1_kind cX1_kind 1 (some .int) rm_X1_kind E [(o1, .inr (1, [.int (nI nu), .int (nI rp), .int (nI rq), .long (lN bf), .long (lN af)]))] [.ref o1] (some (.int (nI 0))) := by
  refine mk_rd (by decide) (Nat.le_of_ble_eq_true rfl) ?_
  intro p e s m args below meth c hC hK hP ls hl
  obtain ⟨hx, hb, hr, hts, hown, hml, hlk, hN⟩ := id hC
  have hl : lv_has ls 1 [(0, .ref o1)] := hl
  refine lv_iconst (v := nI 0) hx hb dX1_kind_0 (by decide) ?_
  exact rz_iE hC (rfl) dX1_kind_1

set_option maxHeartbeats 4000000 in
set_option maxRecDepth 100000 in
theorem k_kind_4 (l : Launch) (E : EE) (o1 nu rp rq bf af : Nat) : Rd l yX4_kind cX4_kind 1 (some .int) rm_X4_kind E [(o1, .inr (3, [.int (nI nu), .int (nI rp), .int (nI rq), .long (lN bf), .long (lN af)]))] [.ref o1] (some (.int (nI 1))) := by
  refine mk_rd (by decide) (Nat.le_of_ble_eq_true rfl) ?_
  intro p e s m args below meth c hC hK hP ls hl
  obtain ⟨hx, hb, hr, hts, hown, hml, hlk, hN⟩ := id hC
  have hl : lv_has ls 1 [(0, .ref o1)] := hl
  refine lv_iconst (v := nI 1) hx hb dX4_kind_0 (by decide) ?_
  exact rz_iE hC (rfl) dX4_kind_1

set_option maxHeartbeats 4000000 in
set_option maxRecDepth 100000 in
theorem k_kind_10 (l : Launch) (E : EE) (o1 nu rp rq bf af : Nat) : Rd l yX10_kind cX10_kind 1 (some .int) rm_X10_kind E [(o1, .inr (8, [.int (nI nu), .int (nI rp), .int (nI rq), .long (lN bf), .long (lN af)]))] [.ref o1] (some (.int (nI 2))) := by
  refine mk_rd (by decide) (Nat.le_of_ble_eq_true rfl) ?_
  intro p e s m args below meth c hC hK hP ls hl
  obtain ⟨hx, hb, hr, hts, hown, hml, hlk, hN⟩ := id hC
  have hl : lv_has ls 1 [(0, .ref o1)] := hl
  refine lv_iconst (v := nI 2) hx hb dX10_kind_0 (by decide) ?_
  exact rz_iE hC (rfl) dX10_kind_1

set_option maxHeartbeats 4000000 in
set_option maxRecDepth 100000 in
theorem k_learnt_1 (l : Launch) (E : EE) (o1 nu rp rq bf af : Nat) (ww : Nat) (hw : ww < 4) (hb1 : bf < 2 ^ 63) (ha1 : af < 2 ^ 63) : Rd l yX1_learntBy cX1_learntBy 2 (some .int) rm_X1_learntBy E [(o1, .inr (1, [.int (nI nu), .int (nI rp), .int (nI rq), .long (lN bf), .long (lN af)]))] [.ref o1, .int (nI ww)] (some (.int (nI (of4 af ww &&& (of4 bf ww ^^^ 4294967295))))) := by
  refine mk_rd (by decide) (Nat.le_of_ble_eq_true rfl) ?_
  intro p e s m args below meth c hC hK hP ls hl
  obtain ⟨hx, hb, hr, hts, hown, hml, hlk, hN⟩ := id hC
  have hl : lv_has ls 2 [(0, .ref o1), (1, .int (nI ww))] := hl
  refine lv_aload_n hx hb dX1_learntBy_0 rfl (lv_at hl 0 rfl) ?_
  refine va_get (D := E.1) (ci := 1) (v := .long (lN af)) (C := RX1) (T := TX1) (N := 5) hx hb hts iX1 hown hK hP 0 rfl rfl 4 (by decide) (hts _ kw_292) (fun _ h9 => h9) rfl dX1_learntBy_1 ?_
  refine lv_iload_n hx hb dX1_learntBy_4 rfl (lv_at hl 1 rfl) ?_
  refine cS_p (rest := []) hC (k_secretsOf l af ww (by omega) (by omega)) kw_355 sy_X5_secretsOf ⟨Nat.le_of_ble_eq_true rfl, Nat.le_of_ble_eq_true rfl⟩ ⟨rfl, rfl⟩ rfl hl.1 rfl (Nat.le_of_ble_eq_true rfl) dX1_learntBy_5 ⟨Nat.le_of_ble_eq_true rfl, Nat.le_of_ble_eq_true rfl⟩ ?_
  have f_1 := of4_lt af ww
  refine lv_aload_n hx hb dX1_learntBy_8 rfl (lv_at hl 0 rfl) ?_
  refine va_get (D := E.1) (ci := 1) (v := .long (lN bf)) (C := RX1) (T := TX1) (N := 5) hx hb hts iX1 hown hK hP 0 rfl rfl 3 (by decide) (hts _ kw_290) (fun _ h9 => h9) rfl dX1_learntBy_9 ?_
  refine lv_iload_n hx hb dX1_learntBy_12 rfl (lv_at hl 1 rfl) ?_
  refine cS_p (rest := [.int (nI (of4 af ww))]) hC (k_secretsOf l bf ww (by omega) (by omega)) kw_355 sy_X5_secretsOf ⟨Nat.le_of_ble_eq_true rfl, Nat.le_of_ble_eq_true rfl⟩ ⟨rfl, rfl⟩ rfl hl.1 rfl (Nat.le_of_ble_eq_true rfl) dX1_learntBy_13 ⟨Nat.le_of_ble_eq_true rfl, Nat.le_of_ble_eq_true rfl⟩ ?_
  have f_2 := of4_lt bf ww
  refine lv_iconst (v := -1) hx hb dX1_learntBy_16 (by decide) ?_
  refine n_ixor (y := 4294967295) hx hb dX1_learntBy_17 ?_
  refine n_iand hx hb dX1_learntBy_18 ?_
  exact rz_iE hC (rfl) dX1_learntBy_19

set_option maxHeartbeats 4000000 in
set_option maxRecDepth 100000 in
theorem k_learnt_4 (l : Launch) (E : EE) (o1 nu rp rq bf af : Nat) (ww : Nat) (hw : ww < 4) (hb1 : bf < 2 ^ 63) (ha1 : af < 2 ^ 63) : Rd l yX1_learntBy cX1_learntBy 2 (some .int) rm_X1_learntBy E [(o1, .inr (3, [.int (nI nu), .int (nI rp), .int (nI rq), .long (lN bf), .long (lN af)]))] [.ref o1, .int (nI ww)] (some (.int (nI (of4 af ww &&& (of4 bf ww ^^^ 4294967295))))) := by
  refine mk_rd (by decide) (Nat.le_of_ble_eq_true rfl) ?_
  intro p e s m args below meth c hC hK hP ls hl
  obtain ⟨hx, hb, hr, hts, hown, hml, hlk, hN⟩ := id hC
  have hl : lv_has ls 2 [(0, .ref o1), (1, .int (nI ww))] := hl
  refine lv_aload_n hx hb dX1_learntBy_0 rfl (lv_at hl 0 rfl) ?_
  refine va_get (D := E.1) (ci := 3) (v := .long (lN af)) (C := RX4) (T := TX4) (N := 5) hx hb hts iX4 hown hK hP 0 rfl rfl 4 (by decide) (hts _ kw_292) (fun _ h9 => h9) rfl dX1_learntBy_1 ?_
  refine lv_iload_n hx hb dX1_learntBy_4 rfl (lv_at hl 1 rfl) ?_
  refine cS_p (rest := []) hC (k_secretsOf l af ww (by omega) (by omega)) kw_355 sy_X5_secretsOf ⟨Nat.le_of_ble_eq_true rfl, Nat.le_of_ble_eq_true rfl⟩ ⟨rfl, rfl⟩ rfl hl.1 rfl (Nat.le_of_ble_eq_true rfl) dX1_learntBy_5 ⟨Nat.le_of_ble_eq_true rfl, Nat.le_of_ble_eq_true rfl⟩ ?_
  have f_1 := of4_lt af ww
  refine lv_aload_n hx hb dX1_learntBy_8 rfl (lv_at hl 0 rfl) ?_
  refine va_get (D := E.1) (ci := 3) (v := .long (lN bf)) (C := RX4) (T := TX4) (N := 5) hx hb hts iX4 hown hK hP 0 rfl rfl 3 (by decide) (hts _ kw_290) (fun _ h9 => h9) rfl dX1_learntBy_9 ?_
  refine lv_iload_n hx hb dX1_learntBy_12 rfl (lv_at hl 1 rfl) ?_
  refine cS_p (rest := [.int (nI (of4 af ww))]) hC (k_secretsOf l bf ww (by omega) (by omega)) kw_355 sy_X5_secretsOf ⟨Nat.le_of_ble_eq_true rfl, Nat.le_of_ble_eq_true rfl⟩ ⟨rfl, rfl⟩ rfl hl.1 rfl (Nat.le_of_ble_eq_true rfl) dX1_learntBy_13 ⟨Nat.le_of_ble_eq_true rfl, Nat.le_of_ble_eq_true rfl⟩ ?_
  have f_2 := of4_lt bf ww
  refine lv_iconst (v := -1) hx hb dX1_learntBy_16 (by decide) ?_
  refine n_ixor (y := 4294967295) hx hb dX1_learntBy_17 ?_
  refine n_iand hx hb dX1_learntBy_18 ?_
  exact rz_iE hC (rfl) dX1_learntBy_19

set_option maxHeartbeats 4000000 in
set_option maxRecDepth 100000 in
theorem k_learnt_10 (l : Launch) (E : EE) (o1 nu rp rq bf af : Nat) (ww : Nat) (hw : ww < 4) (hb1 : bf < 2 ^ 63) (ha1 : af < 2 ^ 63) : Rd l yX1_learntBy cX1_learntBy 2 (some .int) rm_X1_learntBy E [(o1, .inr (8, [.int (nI nu), .int (nI rp), .int (nI rq), .long (lN bf), .long (lN af)]))] [.ref o1, .int (nI ww)] (some (.int (nI (of4 af ww &&& (of4 bf ww ^^^ 4294967295))))) := by
  refine mk_rd (by decide) (Nat.le_of_ble_eq_true rfl) ?_
  intro p e s m args below meth c hC hK hP ls hl
  obtain ⟨hx, hb, hr, hts, hown, hml, hlk, hN⟩ := id hC
  have hl : lv_has ls 2 [(0, .ref o1), (1, .int (nI ww))] := hl
  refine lv_aload_n hx hb dX1_learntBy_0 rfl (lv_at hl 0 rfl) ?_
  refine va_get (D := E.1) (ci := 8) (v := .long (lN af)) (C := RX10) (T := TX10) (N := 5) hx hb hts iX10 hown hK hP 0 rfl rfl 4 (by decide) (hts _ kw_292) (fun _ h9 => h9) rfl dX1_learntBy_1 ?_
  refine lv_iload_n hx hb dX1_learntBy_4 rfl (lv_at hl 1 rfl) ?_
  refine cS_p (rest := []) hC (k_secretsOf l af ww (by omega) (by omega)) kw_355 sy_X5_secretsOf ⟨Nat.le_of_ble_eq_true rfl, Nat.le_of_ble_eq_true rfl⟩ ⟨rfl, rfl⟩ rfl hl.1 rfl (Nat.le_of_ble_eq_true rfl) dX1_learntBy_5 ⟨Nat.le_of_ble_eq_true rfl, Nat.le_of_ble_eq_true rfl⟩ ?_
  have f_1 := of4_lt af ww
  refine lv_aload_n hx hb dX1_learntBy_8 rfl (lv_at hl 0 rfl) ?_
  refine va_get (D := E.1) (ci := 8) (v := .long (lN bf)) (C := RX10) (T := TX10) (N := 5) hx hb hts iX10 hown hK hP 0 rfl rfl 3 (by decide) (hts _ kw_290) (fun _ h9 => h9) rfl dX1_learntBy_9 ?_
  refine lv_iload_n hx hb dX1_learntBy_12 rfl (lv_at hl 1 rfl) ?_
  refine cS_p (rest := [.int (nI (of4 af ww))]) hC (k_secretsOf l bf ww (by omega) (by omega)) kw_355 sy_X5_secretsOf ⟨Nat.le_of_ble_eq_true rfl, Nat.le_of_ble_eq_true rfl⟩ ⟨rfl, rfl⟩ rfl hl.1 rfl (Nat.le_of_ble_eq_true rfl) dX1_learntBy_13 ⟨Nat.le_of_ble_eq_true rfl, Nat.le_of_ble_eq_true rfl⟩ ?_
  have f_2 := of4_lt bf ww
  refine lv_iconst (v := -1) hx hb dX1_learntBy_16 (by decide) ?_
  refine n_ixor (y := 4294967295) hx hb dX1_learntBy_17 ?_
  refine n_iand hx hb dX1_learntBy_18 ?_
  exact rz_iE hC (rfl) dX1_learntBy_19

set_option maxHeartbeats 4000000 in
set_option maxRecDepth 100000 in
theorem k_plain_1 (l : Launch) (E : EE) (o1 nu rp rq bf af : Nat) (t0 : Nat) (tr : Int32) (sz : Nat) : Wr l yX1_plainTelling cX1_plainTelling 2 (some .int) rm_X1_plainTelling 0 0 E [(o1, .inr (1, [.int (nI nu), .int (nI rp), .int (nI rq), .long (lN bf), .long (lN af)])), (t0, .inr (7, [.int tr]))] sz [.ref o1, .ref t0] (fun v w1 => v = some (.int (nI (10 * rp + rq))) ∧ w1 = [(o1, .inr (1, [.int (nI nu), .int (nI rp), .int (nI rq), .long (lN bf), .long (lN af)])), (t0, .inr (7, [.int (nI 31 * tr + nI 1)]))]) := by
  refine mk_wr (by decide) (Nat.le_of_ble_eq_true rfl) ?_
  intro p e s m args below meth c hC hin hK A hA hP hD hS ls hl
  obtain ⟨hx, hb, hr, hts, hown, hml, hlk, hN⟩ := id hC
  have hl : lv_has ls 2 [(0, .ref o1), (1, .ref t0)] := hl
  obtain ⟨H, hH⟩ : ∃ z, z = s.heap := ⟨_, rfl⟩
  have hS : va_S A s.heap H [] := by rw [hH]; exact hS
  rw [← hH] at hP
  refine W_heap hH ?_
  obtain ⟨locs, hlo⟩ : ∃ z : List Loc, z = [] := ⟨_, rfl⟩
  rw [← hlo] at hS ⊢
  refine lv_aload_n hx hb dX1_plainTelling_0 rfl (lv_at hl 1 rfl) ?_
  refine lv_iconst (v := nI 1) hx hb dX1_plainTelling_1 (by decide) ?_
  refine cV_wr (X := [(o1, .inr (1, [.int (nI nu), .int (nI rp), .int (nI rq), .long (lN bf), .long (lN af)]))]) (Y := []) (rest := []) hC (k_leave l E t0 tr 1 _) kw_688 iy_X9_leave ⟨Nat.le_of_ble_eq_true rfl, Nat.le_of_ble_eq_true rfl⟩ ⟨rfl, rfl⟩ hK hP hD hS hA rfl (va_recv hK hP (ci := 7) (q0 := 1) rfl rfl) rfl hl.1 rfl (Nat.le_of_ble_eq_true rfl) dX1_plainTelling_2 ⟨Nat.le_of_ble_eq_true rfl, Nat.le_of_ble_eq_true rfl⟩ (fun v_ w_ H locs hpost hP hD hS => ?_)
  obtain ⟨rfl, rfl⟩ := hpost
  have hP : va_P E.1 vwCl [(o1, .inr (1, [.int (nI nu), .int (nI rp), .int (nI rq), .long (lN bf), .long (lN af)])), (t0, .inr (7, [.int (nI 31 * tr + nI 1)]))] H := hP
  have hD : va_D A [(o1, .inr (1, [.int (nI nu), .int (nI rp), .int (nI rq), .long (lN bf), .long (lN af)])), (t0, .inr (7, [.int (nI 31 * tr + nI 1)]))] := hD
  refine W.eq (g2 := F0 m 5 ls []) rfl ?_
  refine lv_bipush (v := nI 10) hx hb dX1_plainTelling_5 (by decide) ?_
  refine lv_aload_n hx hb dX1_plainTelling_7 rfl (lv_at hl 0 rfl) ?_
  refine va_get (D := E.1) (ci := 1) (v := .int (nI rp)) (C := RX1) (T := TX1) (N := 5) hx hb hts iX1 hown hK hP 0 rfl rfl 1 (by decide) (hts _ kw_280) (fun _ h9 => h9) rfl dX1_plainTelling_8 ?_
  refine n_imul hx hb dX1_plainTelling_11 ?_
  refine lv_aload_n hx hb dX1_plainTelling_12 rfl (lv_at hl 0 rfl) ?_
  refine va_get (D := E.1) (ci := 1) (v := .int (nI rq)) (C := RX1) (T := TX1) (N := 5) hx hb hts iX1 hown hK hP 0 rfl rfl 2 (by decide) (hts _ kw_285) (fun _ h9 => h9) rfl dX1_plainTelling_13 ?_
  refine n_iadd hx hb dX1_plainTelling_16 ?_
  exact rw_i hC rfl hP hD hS (⟨rfl, rfl⟩) dX1_plainTelling_17 (Nat.le_of_ble_eq_true rfl) (Nat.le_of_ble_eq_true rfl)

set_option maxHeartbeats 4000000 in
set_option maxRecDepth 100000 in
theorem k_plain_4 (l : Launch) (E : EE) (o1 nu rp rq bf af : Nat) (t0 : Nat) (tr : Int32) (sz : Nat) : Wr l yX1_plainTelling cX1_plainTelling 2 (some .int) rm_X1_plainTelling 0 0 E [(o1, .inr (3, [.int (nI nu), .int (nI rp), .int (nI rq), .long (lN bf), .long (lN af)])), (t0, .inr (7, [.int tr]))] sz [.ref o1, .ref t0] (fun v w1 => v = some (.int (nI (10 * rp + rq))) ∧ w1 = [(o1, .inr (3, [.int (nI nu), .int (nI rp), .int (nI rq), .long (lN bf), .long (lN af)])), (t0, .inr (7, [.int (nI 31 * tr + nI 1)]))]) := by
  refine mk_wr (by decide) (Nat.le_of_ble_eq_true rfl) ?_
  intro p e s m args below meth c hC hin hK A hA hP hD hS ls hl
  obtain ⟨hx, hb, hr, hts, hown, hml, hlk, hN⟩ := id hC
  have hl : lv_has ls 2 [(0, .ref o1), (1, .ref t0)] := hl
  obtain ⟨H, hH⟩ : ∃ z, z = s.heap := ⟨_, rfl⟩
  have hS : va_S A s.heap H [] := by rw [hH]; exact hS
  rw [← hH] at hP
  refine W_heap hH ?_
  obtain ⟨locs, hlo⟩ : ∃ z : List Loc, z = [] := ⟨_, rfl⟩
  rw [← hlo] at hS ⊢
  refine lv_aload_n hx hb dX1_plainTelling_0 rfl (lv_at hl 1 rfl) ?_
  refine lv_iconst (v := nI 1) hx hb dX1_plainTelling_1 (by decide) ?_
  refine cV_wr (X := [(o1, .inr (3, [.int (nI nu), .int (nI rp), .int (nI rq), .long (lN bf), .long (lN af)]))]) (Y := []) (rest := []) hC (k_leave l E t0 tr 1 _) kw_688 iy_X9_leave ⟨Nat.le_of_ble_eq_true rfl, Nat.le_of_ble_eq_true rfl⟩ ⟨rfl, rfl⟩ hK hP hD hS hA rfl (va_recv hK hP (ci := 7) (q0 := 1) rfl rfl) rfl hl.1 rfl (Nat.le_of_ble_eq_true rfl) dX1_plainTelling_2 ⟨Nat.le_of_ble_eq_true rfl, Nat.le_of_ble_eq_true rfl⟩ (fun v_ w_ H locs hpost hP hD hS => ?_)
  obtain ⟨rfl, rfl⟩ := hpost
  have hP : va_P E.1 vwCl [(o1, .inr (3, [.int (nI nu), .int (nI rp), .int (nI rq), .long (lN bf), .long (lN af)])), (t0, .inr (7, [.int (nI 31 * tr + nI 1)]))] H := hP
  have hD : va_D A [(o1, .inr (3, [.int (nI nu), .int (nI rp), .int (nI rq), .long (lN bf), .long (lN af)])), (t0, .inr (7, [.int (nI 31 * tr + nI 1)]))] := hD
  refine W.eq (g2 := F0 m 5 ls []) rfl ?_
  refine lv_bipush (v := nI 10) hx hb dX1_plainTelling_5 (by decide) ?_
  refine lv_aload_n hx hb dX1_plainTelling_7 rfl (lv_at hl 0 rfl) ?_
  refine va_get (D := E.1) (ci := 3) (v := .int (nI rp)) (C := RX4) (T := TX4) (N := 5) hx hb hts iX4 hown hK hP 0 rfl rfl 1 (by decide) (hts _ kw_280) (fun _ h9 => h9) rfl dX1_plainTelling_8 ?_
  refine n_imul hx hb dX1_plainTelling_11 ?_
  refine lv_aload_n hx hb dX1_plainTelling_12 rfl (lv_at hl 0 rfl) ?_
  refine va_get (D := E.1) (ci := 3) (v := .int (nI rq)) (C := RX4) (T := TX4) (N := 5) hx hb hts iX4 hown hK hP 0 rfl rfl 2 (by decide) (hts _ kw_285) (fun _ h9 => h9) rfl dX1_plainTelling_13 ?_
  refine n_iadd hx hb dX1_plainTelling_16 ?_
  exact rw_i hC rfl hP hD hS (⟨rfl, rfl⟩) dX1_plainTelling_17 (Nat.le_of_ble_eq_true rfl) (Nat.le_of_ble_eq_true rfl)

set_option maxHeartbeats 4000000 in
set_option maxRecDepth 100000 in
theorem k_plain_10 (l : Launch) (E : EE) (o1 nu rp rq bf af : Nat) (t0 : Nat) (tr : Int32) (sz : Nat) : Wr l yX1_plainTelling cX1_plainTelling 2 (some .int) rm_X1_plainTelling 0 0 E [(o1, .inr (8, [.int (nI nu), .int (nI rp), .int (nI rq), .long (lN bf), .long (lN af)])), (t0, .inr (7, [.int tr]))] sz [.ref o1, .ref t0] (fun v w1 => v = some (.int (nI (10 * rp + rq))) ∧ w1 = [(o1, .inr (8, [.int (nI nu), .int (nI rp), .int (nI rq), .long (lN bf), .long (lN af)])), (t0, .inr (7, [.int (nI 31 * tr + nI 1)]))]) := by
  refine mk_wr (by decide) (Nat.le_of_ble_eq_true rfl) ?_
  intro p e s m args below meth c hC hin hK A hA hP hD hS ls hl
  obtain ⟨hx, hb, hr, hts, hown, hml, hlk, hN⟩ := id hC
  have hl : lv_has ls 2 [(0, .ref o1), (1, .ref t0)] := hl
  obtain ⟨H, hH⟩ : ∃ z, z = s.heap := ⟨_, rfl⟩
  have hS : va_S A s.heap H [] := by rw [hH]; exact hS
  rw [← hH] at hP
  refine W_heap hH ?_
  obtain ⟨locs, hlo⟩ : ∃ z : List Loc, z = [] := ⟨_, rfl⟩
  rw [← hlo] at hS ⊢
  refine lv_aload_n hx hb dX1_plainTelling_0 rfl (lv_at hl 1 rfl) ?_
  refine lv_iconst (v := nI 1) hx hb dX1_plainTelling_1 (by decide) ?_
  refine cV_wr (X := [(o1, .inr (8, [.int (nI nu), .int (nI rp), .int (nI rq), .long (lN bf), .long (lN af)]))]) (Y := []) (rest := []) hC (k_leave l E t0 tr 1 _) kw_688 iy_X9_leave ⟨Nat.le_of_ble_eq_true rfl, Nat.le_of_ble_eq_true rfl⟩ ⟨rfl, rfl⟩ hK hP hD hS hA rfl (va_recv hK hP (ci := 7) (q0 := 1) rfl rfl) rfl hl.1 rfl (Nat.le_of_ble_eq_true rfl) dX1_plainTelling_2 ⟨Nat.le_of_ble_eq_true rfl, Nat.le_of_ble_eq_true rfl⟩ (fun v_ w_ H locs hpost hP hD hS => ?_)
  obtain ⟨rfl, rfl⟩ := hpost
  have hP : va_P E.1 vwCl [(o1, .inr (8, [.int (nI nu), .int (nI rp), .int (nI rq), .long (lN bf), .long (lN af)])), (t0, .inr (7, [.int (nI 31 * tr + nI 1)]))] H := hP
  have hD : va_D A [(o1, .inr (8, [.int (nI nu), .int (nI rp), .int (nI rq), .long (lN bf), .long (lN af)])), (t0, .inr (7, [.int (nI 31 * tr + nI 1)]))] := hD
  refine W.eq (g2 := F0 m 5 ls []) rfl ?_
  refine lv_bipush (v := nI 10) hx hb dX1_plainTelling_5 (by decide) ?_
  refine lv_aload_n hx hb dX1_plainTelling_7 rfl (lv_at hl 0 rfl) ?_
  refine va_get (D := E.1) (ci := 8) (v := .int (nI rp)) (C := RX10) (T := TX10) (N := 5) hx hb hts iX10 hown hK hP 0 rfl rfl 1 (by decide) (hts _ kw_280) (fun _ h9 => h9) rfl dX1_plainTelling_8 ?_
  refine n_imul hx hb dX1_plainTelling_11 ?_
  refine lv_aload_n hx hb dX1_plainTelling_12 rfl (lv_at hl 0 rfl) ?_
  refine va_get (D := E.1) (ci := 8) (v := .int (nI rq)) (C := RX10) (T := TX10) (N := 5) hx hb hts iX10 hown hK hP 0 rfl rfl 2 (by decide) (hts _ kw_285) (fun _ h9 => h9) rfl dX1_plainTelling_13 ?_
  refine n_iadd hx hb dX1_plainTelling_16 ?_
  exact rw_i hC rfl hP hD hS (⟨rfl, rfl⟩) dX1_plainTelling_17 (Nat.le_of_ble_eq_true rfl) (Nat.le_of_ble_eq_true rfl)

set_option maxHeartbeats 4000000 in
set_option maxRecDepth 100000 in
theorem k_tell_1 (l : Launch) (E : EE) (o1 nu rp rq bf af : Nat) (t0 : Nat) (tr : Int32) (sz : Nat) : Wr l yX1_telling cX1_telling 2 (some .int) rm_X1_telling 0 0 E [(o1, .inr (1, [.int (nI nu), .int (nI rp), .int (nI rq), .long (lN bf), .long (lN af)])), (t0, .inr (7, [.int tr]))] sz [.ref o1, .ref t0] (fun v w1 => v = some (.int (nI (10 * rp + rq))) ∧ w1 = [(o1, .inr (1, [.int (nI nu), .int (nI rp), .int (nI rq), .long (lN bf), .long (lN af)])), (t0, .inr (7, [.int (nI 31 * tr + nI 1)]))]) := by
  refine mk_wr (by decide) (Nat.le_of_ble_eq_true rfl) ?_
  intro p e s m args below meth c hC hin hK A hA hP hD hS ls hl
  obtain ⟨hx, hb, hr, hts, hown, hml, hlk, hN⟩ := id hC
  have hl : lv_has ls 2 [(0, .ref o1), (1, .ref t0)] := hl
  obtain ⟨H, hH⟩ : ∃ z, z = s.heap := ⟨_, rfl⟩
  have hS : va_S A s.heap H [] := by rw [hH]; exact hS
  rw [← hH] at hP
  refine W_heap hH ?_
  obtain ⟨locs, hlo⟩ : ∃ z : List Loc, z = [] := ⟨_, rfl⟩
  rw [← hlo] at hS ⊢
  refine lv_aload_n hx hb dX1_telling_0 rfl (lv_at hl 0 rfl) ?_
  refine lv_aload_n hx hb dX1_telling_1 rfl (lv_at hl 1 rfl) ?_
  refine cU_wr (X := []) (Y := []) (rest := []) hC (k_plain_1 l E o1 nu rp rq bf af t0 tr _) uc_plain_1 ⟨Nat.le_of_ble_eq_true rfl, Nat.le_of_ble_eq_true rfl⟩ ⟨rfl, rfl⟩ hK hP hD hS hA (by rw [List.append_nil]; rfl) (va_recv hK hP (ci := 1) (q0 := 0) rfl rfl) rfl hl.1 rfl (Nat.le_of_ble_eq_true rfl) dX1_telling_2 ⟨Nat.le_of_ble_eq_true rfl, Nat.le_of_ble_eq_true rfl⟩ (fun v_ w_ H locs hpost hP hD hS => ?_)
  obtain ⟨rfl, rfl⟩ := hpost
  have hP : va_P E.1 vwCl [(o1, .inr (1, [.int (nI nu), .int (nI rp), .int (nI rq), .long (lN bf), .long (lN af)])), (t0, .inr (7, [.int (nI 31 * tr + nI 1)]))] H := hP
  have hD : va_D A [(o1, .inr (1, [.int (nI nu), .int (nI rp), .int (nI rq), .long (lN bf), .long (lN af)])), (t0, .inr (7, [.int (nI 31 * tr + nI 1)]))] := hD
  refine W.eq (g2 := F0 m 5 ls [.int (nI (10 * rp + rq))]) rfl ?_
  exact rw_i hC rfl hP hD hS (⟨rfl, rfl⟩) dX1_telling_5 (Nat.le_of_ble_eq_true rfl) (Nat.le_of_ble_eq_true rfl)

set_option maxHeartbeats 4000000 in
set_option maxRecDepth 100000 in
theorem k_tell_4_4 (l : Launch) (E : EE) (o1 nu rp rq bf af : Nat) (t0 : Nat) (tr : Int32) (hrp : rp < 4) (hrq : rq < 4) (hb1 : bf < 2 ^ 63) (ha1 : af < 2 ^ 63) (sz : Nat) : Wr l yX4_telling cX4_telling 3 (some .int) rm_X4_telling 0 0 E [(o1, .inr (3, [.int (nI nu), .int (nI rp), .int (nI rq), .long (lN bf), .long (lN af)])), (t0, .inr (7, [.int tr]))] sz [.ref o1, .ref t0] (fun v w1 => v = some (.int (nI (10 * rp + rq + 100 * (bitsN (of4 af rp &&& (of4 bf rp ^^^ 4294967295)) 16 + bitsN (of4 af rq &&& (of4 bf rq ^^^ 4294967295)) 16)))) ∧ w1 = [(o1, .inr (3, [.int (nI nu), .int (nI rp), .int (nI rq), .long (lN bf), .long (lN af)])), (t0, .inr (7, [.int (nI 31 * (nI 31 * tr + nI 2) + nI 1)]))]) := by
  refine mk_wr (by decide) (Nat.le_of_ble_eq_true rfl) ?_
  intro p e s m args below meth c hC hin hK A hA hP hD hS ls hl
  obtain ⟨hx, hb, hr, hts, hown, hml, hlk, hN⟩ := id hC
  have hl : lv_has ls 3 [(0, .ref o1), (1, .ref t0)] := hl
  obtain ⟨H, hH⟩ : ∃ z, z = s.heap := ⟨_, rfl⟩
  have hS : va_S A s.heap H [] := by rw [hH]; exact hS
  rw [← hH] at hP
  refine W_heap hH ?_
  obtain ⟨locs, hlo⟩ : ∃ z : List Loc, z = [] := ⟨_, rfl⟩
  rw [← hlo] at hS ⊢
  refine lv_aload_n hx hb dX4_telling_0 rfl (lv_at hl 1 rfl) ?_
  refine lv_iconst (v := nI 2) hx hb dX4_telling_1 (by decide) ?_
  refine cV_wr (X := [(o1, .inr (3, [.int (nI nu), .int (nI rp), .int (nI rq), .long (lN bf), .long (lN af)]))]) (Y := []) (rest := []) hC (k_leave l E t0 tr 2 _) kw_671 iy_X9_leave ⟨Nat.le_of_ble_eq_true rfl, Nat.le_of_ble_eq_true rfl⟩ ⟨rfl, rfl⟩ hK hP hD hS hA rfl (va_recv hK hP (ci := 7) (q0 := 1) rfl rfl) rfl hl.1 rfl (Nat.le_of_ble_eq_true rfl) dX4_telling_2 ⟨Nat.le_of_ble_eq_true rfl, Nat.le_of_ble_eq_true rfl⟩ (fun v_ w_ H locs hpost hP hD hS => ?_)
  obtain ⟨rfl, rfl⟩ := hpost
  have hP : va_P E.1 vwCl [(o1, .inr (3, [.int (nI nu), .int (nI rp), .int (nI rq), .long (lN bf), .long (lN af)])), (t0, .inr (7, [.int (nI 31 * tr + nI 2)]))] H := hP
  have hD : va_D A [(o1, .inr (3, [.int (nI nu), .int (nI rp), .int (nI rq), .long (lN bf), .long (lN af)])), (t0, .inr (7, [.int (nI 31 * tr + nI 2)]))] := hD
  refine W.eq (g2 := F0 m 5 ls []) rfl ?_
  refine lv_aload_n hx hb dX4_telling_5 rfl (lv_at hl 0 rfl) ?_
  refine lv_aload_n hx hb dX4_telling_6 rfl (lv_at hl 0 rfl) ?_
  refine va_get (D := E.1) (ci := 3) (v := .int (nI rp)) (C := RX4) (T := TX4) (N := 5) hx hb hts iX4 hown hK hP 0 rfl rfl 1 (by decide) (hts _ kw_281) (u_same (hts _ kw_282)) rfl dX4_telling_7 ?_
  refine cU_r (rest := []) hC (k_learnt_4 l E o1 nu rp rq bf af rp (by omega) hb1 ha1) un_learnt_4 ⟨Nat.le_of_ble_eq_true rfl, Nat.le_of_ble_eq_true rfl⟩ ⟨rfl, rfl⟩ hK (hP.sub [0] rfl) (va_recv hK hP (ci := 3) (q0 := 0) rfl rfl) rfl hl.1 rfl (Nat.le_of_ble_eq_true rfl) dX4_telling_10 ⟨Nat.le_of_ble_eq_true rfl, Nat.le_of_ble_eq_true rfl⟩ ?_
  have f_1 := (Nat.lt_of_le_of_lt Nat.and_le_left (of4_lt af rp) : of4 af rp &&& (of4 bf rp ^^^ 4294967295) < 16)
  refine cS_p (rest := []) hC (k_bits l (of4 af rp &&& (of4 bf rp ^^^ 4294967295)) (by omega)) kw_680 sy_J6_bitCount_0f7a4 ⟨Nat.le_of_ble_eq_true rfl, Nat.le_of_ble_eq_true rfl⟩ ⟨rfl, rfl⟩ rfl hl.1 rfl (Nat.le_of_ble_eq_true rfl) dX4_telling_13 ⟨Nat.le_of_ble_eq_true rfl, Nat.le_of_ble_eq_true rfl⟩ ?_
  have f_2 := bitsN_le (of4 af rp &&& (of4 bf rp ^^^ 4294967295)) 16
  refine lv_aload_n hx hb dX4_telling_16 rfl (lv_at hl 0 rfl) ?_
  refine lv_aload_n hx hb dX4_telling_17 rfl (lv_at hl 0 rfl) ?_
  refine va_get (D := E.1) (ci := 3) (v := .int (nI rq)) (C := RX4) (T := TX4) (N := 5) hx hb hts iX4 hown hK hP 0 rfl rfl 2 (by decide) (hts _ kw_286) (u_same (hts _ kw_287)) rfl dX4_telling_18 ?_
  refine cU_r (rest := [.int (nI (bitsN (of4 af rp &&& (of4 bf rp ^^^ 4294967295)) 16))]) hC (k_learnt_4 l E o1 nu rp rq bf af rq (by omega) hb1 ha1) un_learnt_4 ⟨Nat.le_of_ble_eq_true rfl, Nat.le_of_ble_eq_true rfl⟩ ⟨rfl, rfl⟩ hK (hP.sub [0] rfl) (va_recv hK hP (ci := 3) (q0 := 0) rfl rfl) rfl hl.1 rfl (Nat.le_of_ble_eq_true rfl) dX4_telling_21 ⟨Nat.le_of_ble_eq_true rfl, Nat.le_of_ble_eq_true rfl⟩ ?_
  have f_3 := (Nat.lt_of_le_of_lt Nat.and_le_left (of4_lt af rq) : of4 af rq &&& (of4 bf rq ^^^ 4294967295) < 16)
  refine cS_p (rest := [.int (nI (bitsN (of4 af rp &&& (of4 bf rp ^^^ 4294967295)) 16))]) hC (k_bits l (of4 af rq &&& (of4 bf rq ^^^ 4294967295)) (by omega)) kw_680 sy_J6_bitCount_0f7a4 ⟨Nat.le_of_ble_eq_true rfl, Nat.le_of_ble_eq_true rfl⟩ ⟨rfl, rfl⟩ rfl hl.1 rfl (Nat.le_of_ble_eq_true rfl) dX4_telling_24 ⟨Nat.le_of_ble_eq_true rfl, Nat.le_of_ble_eq_true rfl⟩ ?_
  have f_4 := bitsN_le (of4 af rq &&& (of4 bf rq ^^^ 4294967295)) 16
  refine n_iadd hx hb dX4_telling_27 ?_
  refine lv_istore_n (lv' := [(2, .int (nI ((bitsN (of4 af rp &&& (of4 bf rp ^^^ 4294967295)) 16) + (bitsN (of4 af rq &&& (of4 bf rq ^^^ 4294967295)) 16)))), (0, .ref o1), (1, .ref t0)]) hx hb dX4_telling_28 rfl hl (by decide) rfl (fun ls hl => ?_)
  refine lv_aload_n hx hb dX4_telling_29 rfl (lv_at hl 1 rfl) ?_
  refine lv_aload_n hx hb dX4_telling_30 rfl (lv_at hl 2 rfl) ?_
  refine cU_wr (X := []) (Y := []) (rest := []) hC (k_plain_4 l E o1 nu rp rq bf af t0 (nI 31 * tr + nI 2) _) un_plain_4 ⟨Nat.le_of_ble_eq_true rfl, Nat.le_of_ble_eq_true rfl⟩ ⟨rfl, rfl⟩ hK hP hD hS hA (by rw [List.append_nil]; rfl) (va_recv hK hP (ci := 3) (q0 := 0) rfl rfl) rfl hl.1 rfl (Nat.le_of_ble_eq_true rfl) dX4_telling_31 ⟨Nat.le_of_ble_eq_true rfl, Nat.le_of_ble_eq_true rfl⟩ (fun v_ w_ H locs hpost hP hD hS => ?_)
  obtain ⟨rfl, rfl⟩ := hpost
  have hP : va_P E.1 vwCl [(o1, .inr (3, [.int (nI nu), .int (nI rp), .int (nI rq), .long (lN bf), .long (lN af)])), (t0, .inr (7, [.int (nI 31 * (nI 31 * tr + nI 2) + nI 1)]))] H := hP
  have hD : va_D A [(o1, .inr (3, [.int (nI nu), .int (nI rp), .int (nI rq), .long (lN bf), .long (lN af)])), (t0, .inr (7, [.int (nI 31 * (nI 31 * tr + nI 2) + nI 1)]))] := hD
  refine W.eq (g2 := F0 m 34 ls [.int (nI (10 * rp + rq))]) rfl ?_
  refine lv_bipush (v := nI 100) hx hb dX4_telling_34 (by decide) ?_
  refine lv_iload_n hx hb dX4_telling_36 rfl (lv_at hl 0 rfl) ?_
  refine n_imul hx hb dX4_telling_37 ?_
  refine n_iadd hx hb dX4_telling_38 ?_
  exact rw_i hC rfl hP hD hS (⟨rfl, rfl⟩) dX4_telling_39 (Nat.le_of_ble_eq_true rfl) (Nat.le_of_ble_eq_true rfl)

set_option maxHeartbeats 4000000 in
set_option maxRecDepth 100000 in
theorem k_tell_4_10 (l : Launch) (E : EE) (o1 nu rp rq bf af : Nat) (t0 : Nat) (tr : Int32) (hrp : rp < 4) (hrq : rq < 4) (hb1 : bf < 2 ^ 63) (ha1 : af < 2 ^ 63) (sz : Nat) : Wr l yX4_telling cX4_telling 3 (some .int) rm_X4_telling 0 0 E [(o1, .inr (8, [.int (nI nu), .int (nI rp), .int (nI rq), .long (lN bf), .long (lN af)])), (t0, .inr (7, [.int tr]))] sz [.ref o1, .ref t0] (fun v w1 => v = some (.int (nI (10 * rp + rq + 100 * (bitsN (of4 af rp &&& (of4 bf rp ^^^ 4294967295)) 16 + bitsN (of4 af rq &&& (of4 bf rq ^^^ 4294967295)) 16)))) ∧ w1 = [(o1, .inr (8, [.int (nI nu), .int (nI rp), .int (nI rq), .long (lN bf), .long (lN af)])), (t0, .inr (7, [.int (nI 31 * (nI 31 * tr + nI 2) + nI 1)]))]) := by
  refine mk_wr (by decide) (Nat.le_of_ble_eq_true rfl) ?_
  intro p e s m args below meth c hC hin hK A hA hP hD hS ls hl
  obtain ⟨hx, hb, hr, hts, hown, hml, hlk, hN⟩ := id hC
  have hl : lv_has ls 3 [(0, .ref o1), (1, .ref t0)] := hl
  obtain ⟨H, hH⟩ : ∃ z, z = s.heap := ⟨_, rfl⟩
  have hS : va_S A s.heap H [] := by rw [hH]; exact hS
  rw [← hH] at hP
  refine W_heap hH ?_
  obtain ⟨locs, hlo⟩ : ∃ z : List Loc, z = [] := ⟨_, rfl⟩
  rw [← hlo] at hS ⊢
  refine lv_aload_n hx hb dX4_telling_0 rfl (lv_at hl 1 rfl) ?_
  refine lv_iconst (v := nI 2) hx hb dX4_telling_1 (by decide) ?_
  refine cV_wr (X := [(o1, .inr (8, [.int (nI nu), .int (nI rp), .int (nI rq), .long (lN bf), .long (lN af)]))]) (Y := []) (rest := []) hC (k_leave l E t0 tr 2 _) kw_671 iy_X9_leave ⟨Nat.le_of_ble_eq_true rfl, Nat.le_of_ble_eq_true rfl⟩ ⟨rfl, rfl⟩ hK hP hD hS hA rfl (va_recv hK hP (ci := 7) (q0 := 1) rfl rfl) rfl hl.1 rfl (Nat.le_of_ble_eq_true rfl) dX4_telling_2 ⟨Nat.le_of_ble_eq_true rfl, Nat.le_of_ble_eq_true rfl⟩ (fun v_ w_ H locs hpost hP hD hS => ?_)
  obtain ⟨rfl, rfl⟩ := hpost
  have hP : va_P E.1 vwCl [(o1, .inr (8, [.int (nI nu), .int (nI rp), .int (nI rq), .long (lN bf), .long (lN af)])), (t0, .inr (7, [.int (nI 31 * tr + nI 2)]))] H := hP
  have hD : va_D A [(o1, .inr (8, [.int (nI nu), .int (nI rp), .int (nI rq), .long (lN bf), .long (lN af)])), (t0, .inr (7, [.int (nI 31 * tr + nI 2)]))] := hD
  refine W.eq (g2 := F0 m 5 ls []) rfl ?_
  refine lv_aload_n hx hb dX4_telling_5 rfl (lv_at hl 0 rfl) ?_
  refine lv_aload_n hx hb dX4_telling_6 rfl (lv_at hl 0 rfl) ?_
  refine va_get (D := E.1) (ci := 8) (v := .int (nI rp)) (C := RX10) (T := TX10) (N := 5) hx hb hts iX10 hown hK hP 0 rfl rfl 1 (by decide) (hts _ kw_281) (u_same (hts _ kw_282)) rfl dX4_telling_7 ?_
  refine cU_r (rest := []) hC (k_learnt_10 l E o1 nu rp rq bf af rp (by omega) hb1 ha1) un_learnt_10 ⟨Nat.le_of_ble_eq_true rfl, Nat.le_of_ble_eq_true rfl⟩ ⟨rfl, rfl⟩ hK (hP.sub [0] rfl) (va_recv hK hP (ci := 8) (q0 := 0) rfl rfl) rfl hl.1 rfl (Nat.le_of_ble_eq_true rfl) dX4_telling_10 ⟨Nat.le_of_ble_eq_true rfl, Nat.le_of_ble_eq_true rfl⟩ ?_
  have f_1 := (Nat.lt_of_le_of_lt Nat.and_le_left (of4_lt af rp) : of4 af rp &&& (of4 bf rp ^^^ 4294967295) < 16)
  refine cS_p (rest := []) hC (k_bits l (of4 af rp &&& (of4 bf rp ^^^ 4294967295)) (by omega)) kw_680 sy_J6_bitCount_0f7a4 ⟨Nat.le_of_ble_eq_true rfl, Nat.le_of_ble_eq_true rfl⟩ ⟨rfl, rfl⟩ rfl hl.1 rfl (Nat.le_of_ble_eq_true rfl) dX4_telling_13 ⟨Nat.le_of_ble_eq_true rfl, Nat.le_of_ble_eq_true rfl⟩ ?_
  have f_2 := bitsN_le (of4 af rp &&& (of4 bf rp ^^^ 4294967295)) 16
  refine lv_aload_n hx hb dX4_telling_16 rfl (lv_at hl 0 rfl) ?_
  refine lv_aload_n hx hb dX4_telling_17 rfl (lv_at hl 0 rfl) ?_
  refine va_get (D := E.1) (ci := 8) (v := .int (nI rq)) (C := RX10) (T := TX10) (N := 5) hx hb hts iX10 hown hK hP 0 rfl rfl 2 (by decide) (hts _ kw_286) (u_same (hts _ kw_287)) rfl dX4_telling_18 ?_
  refine cU_r (rest := [.int (nI (bitsN (of4 af rp &&& (of4 bf rp ^^^ 4294967295)) 16))]) hC (k_learnt_10 l E o1 nu rp rq bf af rq (by omega) hb1 ha1) un_learnt_10 ⟨Nat.le_of_ble_eq_true rfl, Nat.le_of_ble_eq_true rfl⟩ ⟨rfl, rfl⟩ hK (hP.sub [0] rfl) (va_recv hK hP (ci := 8) (q0 := 0) rfl rfl) rfl hl.1 rfl (Nat.le_of_ble_eq_true rfl) dX4_telling_21 ⟨Nat.le_of_ble_eq_true rfl, Nat.le_of_ble_eq_true rfl⟩ ?_
  have f_3 := (Nat.lt_of_le_of_lt Nat.and_le_left (of4_lt af rq) : of4 af rq &&& (of4 bf rq ^^^ 4294967295) < 16)
  refine cS_p (rest := [.int (nI (bitsN (of4 af rp &&& (of4 bf rp ^^^ 4294967295)) 16))]) hC (k_bits l (of4 af rq &&& (of4 bf rq ^^^ 4294967295)) (by omega)) kw_680 sy_J6_bitCount_0f7a4 ⟨Nat.le_of_ble_eq_true rfl, Nat.le_of_ble_eq_true rfl⟩ ⟨rfl, rfl⟩ rfl hl.1 rfl (Nat.le_of_ble_eq_true rfl) dX4_telling_24 ⟨Nat.le_of_ble_eq_true rfl, Nat.le_of_ble_eq_true rfl⟩ ?_
  have f_4 := bitsN_le (of4 af rq &&& (of4 bf rq ^^^ 4294967295)) 16
  refine n_iadd hx hb dX4_telling_27 ?_
  refine lv_istore_n (lv' := [(2, .int (nI ((bitsN (of4 af rp &&& (of4 bf rp ^^^ 4294967295)) 16) + (bitsN (of4 af rq &&& (of4 bf rq ^^^ 4294967295)) 16)))), (0, .ref o1), (1, .ref t0)]) hx hb dX4_telling_28 rfl hl (by decide) rfl (fun ls hl => ?_)
  refine lv_aload_n hx hb dX4_telling_29 rfl (lv_at hl 1 rfl) ?_
  refine lv_aload_n hx hb dX4_telling_30 rfl (lv_at hl 2 rfl) ?_
  refine cU_wr (X := []) (Y := []) (rest := []) hC (k_plain_10 l E o1 nu rp rq bf af t0 (nI 31 * tr + nI 2) _) un_plain_10 ⟨Nat.le_of_ble_eq_true rfl, Nat.le_of_ble_eq_true rfl⟩ ⟨rfl, rfl⟩ hK hP hD hS hA (by rw [List.append_nil]; rfl) (va_recv hK hP (ci := 8) (q0 := 0) rfl rfl) rfl hl.1 rfl (Nat.le_of_ble_eq_true rfl) dX4_telling_31 ⟨Nat.le_of_ble_eq_true rfl, Nat.le_of_ble_eq_true rfl⟩ (fun v_ w_ H locs hpost hP hD hS => ?_)
  obtain ⟨rfl, rfl⟩ := hpost
  have hP : va_P E.1 vwCl [(o1, .inr (8, [.int (nI nu), .int (nI rp), .int (nI rq), .long (lN bf), .long (lN af)])), (t0, .inr (7, [.int (nI 31 * (nI 31 * tr + nI 2) + nI 1)]))] H := hP
  have hD : va_D A [(o1, .inr (8, [.int (nI nu), .int (nI rp), .int (nI rq), .long (lN bf), .long (lN af)])), (t0, .inr (7, [.int (nI 31 * (nI 31 * tr + nI 2) + nI 1)]))] := hD
  refine W.eq (g2 := F0 m 34 ls [.int (nI (10 * rp + rq))]) rfl ?_
  refine lv_bipush (v := nI 100) hx hb dX4_telling_34 (by decide) ?_
  refine lv_iload_n hx hb dX4_telling_36 rfl (lv_at hl 0 rfl) ?_
  refine n_imul hx hb dX4_telling_37 ?_
  refine n_iadd hx hb dX4_telling_38 ?_
  exact rw_i hC rfl hP hD hS (⟨rfl, rfl⟩) dX4_telling_39 (Nat.le_of_ble_eq_true rfl) (Nat.le_of_ble_eq_true rfl)

set_option maxHeartbeats 4000000 in
set_option maxRecDepth 100000 in
theorem k_tell_10 (l : Launch) (E : EE) (o1 nu rp rq bf af : Nat) (t0 : Nat) (tr : Int32) (hrp : rp < 4) (hrq : rq < 4) (hb1 : bf < 2 ^ 63) (ha1 : af < 2 ^ 63) (sz : Nat) : Wr l yX10_telling cX10_telling 3 (some .int) rm_X10_telling 0 0 E [(o1, .inr (8, [.int (nI nu), .int (nI rp), .int (nI rq), .long (lN bf), .long (lN af)])), (t0, .inr (7, [.int tr]))] sz [.ref o1, .ref t0] (fun v w1 => v = some (.int (nI (10 * rp + rq + 100 * (bitsN (of4 af rp &&& (of4 bf rp ^^^ 4294967295)) 16 + bitsN (of4 af rq &&& (of4 bf rq ^^^ 4294967295)) 16) + (10 * rp + rq)))) ∧ w1 = [(o1, .inr (8, [.int (nI nu), .int (nI rp), .int (nI rq), .long (lN bf), .long (lN af)])), (t0, .inr (7, [.int (nI 31 * (nI 31 * (nI 31 * (nI 31 * tr + nI 3) + nI 2) + nI 1) + nI 1)]))]) := by
  refine mk_wr (by decide) (Nat.le_of_ble_eq_true rfl) ?_
  intro p e s m args below meth c hC hin hK A hA hP hD hS ls hl
  obtain ⟨hx, hb, hr, hts, hown, hml, hlk, hN⟩ := id hC
  have hl : lv_has ls 3 [(0, .ref o1), (1, .ref t0)] := hl
  obtain ⟨H, hH⟩ : ∃ z, z = s.heap := ⟨_, rfl⟩
  have hS : va_S A s.heap H [] := by rw [hH]; exact hS
  rw [← hH] at hP
  refine W_heap hH ?_
  obtain ⟨locs, hlo⟩ : ∃ z : List Loc, z = [] := ⟨_, rfl⟩
  rw [← hlo] at hS ⊢
  refine lv_aload_n hx hb dX10_telling_0 rfl (lv_at hl 1 rfl) ?_
  refine lv_iconst (v := nI 3) hx hb dX10_telling_1 (by decide) ?_
  refine cV_wr (X := [(o1, .inr (8, [.int (nI nu), .int (nI rp), .int (nI rq), .long (lN bf), .long (lN af)]))]) (Y := []) (rest := []) hC (k_leave l E t0 tr 3 _) kw_692 iy_X9_leave ⟨Nat.le_of_ble_eq_true rfl, Nat.le_of_ble_eq_true rfl⟩ ⟨rfl, rfl⟩ hK hP hD hS hA rfl (va_recv hK hP (ci := 7) (q0 := 1) rfl rfl) rfl hl.1 rfl (Nat.le_of_ble_eq_true rfl) dX10_telling_2 ⟨Nat.le_of_ble_eq_true rfl, Nat.le_of_ble_eq_true rfl⟩ (fun v_ w_ H locs hpost hP hD hS => ?_)
  obtain ⟨rfl, rfl⟩ := hpost
  have hP : va_P E.1 vwCl [(o1, .inr (8, [.int (nI nu), .int (nI rp), .int (nI rq), .long (lN bf), .long (lN af)])), (t0, .inr (7, [.int (nI 31 * tr + nI 3)]))] H := hP
  have hD : va_D A [(o1, .inr (8, [.int (nI nu), .int (nI rp), .int (nI rq), .long (lN bf), .long (lN af)])), (t0, .inr (7, [.int (nI 31 * tr + nI 3)]))] := hD
  refine W.eq (g2 := F0 m 5 ls []) rfl ?_
  refine lv_aload_n hx hb dX10_telling_5 rfl (lv_at hl 0 rfl) ?_
  refine lv_aload_n hx hb dX10_telling_6 rfl (lv_at hl 1 rfl) ?_
  refine cSU_wr (n := 1) (X := []) (Y := []) (rest := []) (hK.1 8 _ rfl).2 hC (k_tell_4_10 l E o1 nu rp rq bf af t0 (nI 31 * tr + nI 3) hrp hrq hb1 ha1 _) gs_tell ⟨by decide, by decide +kernel⟩ ⟨Nat.le_of_ble_eq_true rfl, Nat.le_of_ble_eq_true rfl⟩ ⟨rfl, rfl⟩ hK hP hD hS hA (by rw [List.append_nil]; rfl) (va_recv hK hP (ci := 8) (q0 := 0) rfl rfl) rfl hl.1 rfl (Nat.le_of_ble_eq_true rfl) dX10_telling_7 ⟨Nat.le_of_ble_eq_true rfl, Nat.le_of_ble_eq_true rfl⟩ (fun v_ w_ H locs hpost hP hD hS => ?_)
  obtain ⟨rfl, rfl⟩ := hpost
  have hP : va_P E.1 vwCl [(o1, .inr (8, [.int (nI nu), .int (nI rp), .int (nI rq), .long (lN bf), .long (lN af)])), (t0, .inr (7, [.int (nI 31 * (nI 31 * (nI 31 * tr + nI 3) + nI 2) + nI 1)]))] H := hP
  have hD : va_D A [(o1, .inr (8, [.int (nI nu), .int (nI rp), .int (nI rq), .long (lN bf), .long (lN af)])), (t0, .inr (7, [.int (nI 31 * (nI 31 * (nI 31 * tr + nI 3) + nI 2) + nI 1)]))] := hD
  refine W.eq (g2 := F0 m 10 ls [.int (nI (10 * rp + rq + 100 * (bitsN (of4 af rp &&& (of4 bf rp ^^^ 4294967295)) 16 + bitsN (of4 af rq &&& (of4 bf rq ^^^ 4294967295)) 16)))]) rfl ?_
  refine lv_istore_n (lv' := [(2, .int (nI (10 * rp + rq + 100 * (bitsN (of4 af rp &&& (of4 bf rp ^^^ 4294967295)) 16 + bitsN (of4 af rq &&& (of4 bf rq ^^^ 4294967295)) 16)))), (0, .ref o1), (1, .ref t0)]) hx hb dX10_telling_10 rfl hl (by decide) rfl (fun ls hl => ?_)
  refine lv_iload_n hx hb dX10_telling_11 rfl (lv_at hl 0 rfl) ?_
  refine lv_aload_n hx hb dX10_telling_12 rfl (lv_at hl 1 rfl) ?_
  refine lv_aload_n hx hb dX10_telling_13 rfl (lv_at hl 2 rfl) ?_
  refine cU_wr (X := []) (Y := []) (rest := [.int (nI (10 * rp + rq + 100 * (bitsN (of4 af rp &&& (of4 bf rp ^^^ 4294967295)) 16 + bitsN (of4 af rq &&& (of4 bf rq ^^^ 4294967295)) 16)))]) hC (k_plain_10 l E o1 nu rp rq bf af t0 (nI 31 * (nI 31 * (nI 31 * tr + nI 3) + nI 2) + nI 1) _) uw_plain_10 ⟨Nat.le_of_ble_eq_true rfl, Nat.le_of_ble_eq_true rfl⟩ ⟨rfl, rfl⟩ hK hP hD hS hA (by rw [List.append_nil]; rfl) (va_recv hK hP (ci := 8) (q0 := 0) rfl rfl) rfl hl.1 rfl (Nat.le_of_ble_eq_true rfl) dX10_telling_14 ⟨Nat.le_of_ble_eq_true rfl, Nat.le_of_ble_eq_true rfl⟩ (fun v_ w_ H locs hpost hP hD hS => ?_)
  obtain ⟨rfl, rfl⟩ := hpost
  have hP : va_P E.1 vwCl [(o1, .inr (8, [.int (nI nu), .int (nI rp), .int (nI rq), .long (lN bf), .long (lN af)])), (t0, .inr (7, [.int (nI 31 * (nI 31 * (nI 31 * (nI 31 * tr + nI 3) + nI 2) + nI 1) + nI 1)]))] H := hP
  have hD : va_D A [(o1, .inr (8, [.int (nI nu), .int (nI rp), .int (nI rq), .long (lN bf), .long (lN af)])), (t0, .inr (7, [.int (nI 31 * (nI 31 * (nI 31 * (nI 31 * tr + nI 3) + nI 2) + nI 1) + nI 1)]))] := hD
  refine W.eq (g2 := F0 m 17 ls [.int (nI (10 * rp + rq)), .int (nI (10 * rp + rq + 100 * (bitsN (of4 af rp &&& (of4 bf rp ^^^ 4294967295)) 16 + bitsN (of4 af rq &&& (of4 bf rq ^^^ 4294967295)) 16)))]) rfl ?_
  refine n_iadd hx hb dX10_telling_17 ?_
  exact rw_i hC rfl hP hD hS (⟨rfl, rfl⟩) dX10_telling_18 (Nat.le_of_ble_eq_true rfl) (Nat.le_of_ble_eq_true rfl)

set_option maxHeartbeats 4000000 in
set_option maxRecDepth 100000 in
theorem k_log_1 (l : Launch) (E : EE) (o1 nu rp rq bf af : Nat) (t0 : Nat) (tr : Int32) (sz : Nat) : Wr l yX1_logged cX1_logged 2 (some .int) rm_X1_logged 0 0 E [(o1, .inr (1, [.int (nI nu), .int (nI rp), .int (nI rq), .long (lN bf), .long (lN af)])), (t0, .inr (7, [.int tr]))] sz [.ref o1, .ref t0] (fun v w1 => v = some (.int (nI nu)) ∧ w1 = [(o1, .inr (1, [.int (nI nu), .int (nI rp), .int (nI rq), .long (lN bf), .long (lN af)])), (t0, .inr (7, [.int (nI 31 * tr + nI 4)]))]) := by
  refine mk_wr (by decide) (Nat.le_of_ble_eq_true rfl) ?_
  intro p e s m args below meth c hC hin hK A hA hP hD hS ls hl
  obtain ⟨hx, hb, hr, hts, hown, hml, hlk, hN⟩ := id hC
  have hl : lv_has ls 2 [(0, .ref o1), (1, .ref t0)] := hl
  obtain ⟨H, hH⟩ : ∃ z, z = s.heap := ⟨_, rfl⟩
  have hS : va_S A s.heap H [] := by rw [hH]; exact hS
  rw [← hH] at hP
  refine W_heap hH ?_
  obtain ⟨locs, hlo⟩ : ∃ z : List Loc, z = [] := ⟨_, rfl⟩
  rw [← hlo] at hS ⊢
  refine lv_aload_n hx hb dX1_logged_0 rfl (lv_at hl 1 rfl) ?_
  refine lv_iconst (v := nI 4) hx hb dX1_logged_1 (by decide) ?_
  refine cV_wr (X := [(o1, .inr (1, [.int (nI nu), .int (nI rp), .int (nI rq), .long (lN bf), .long (lN af)]))]) (Y := []) (rest := []) hC (k_leave l E t0 tr 4 _) kw_688 iy_X9_leave ⟨Nat.le_of_ble_eq_true rfl, Nat.le_of_ble_eq_true rfl⟩ ⟨rfl, rfl⟩ hK hP hD hS hA rfl (va_recv hK hP (ci := 7) (q0 := 1) rfl rfl) rfl hl.1 rfl (Nat.le_of_ble_eq_true rfl) dX1_logged_2 ⟨Nat.le_of_ble_eq_true rfl, Nat.le_of_ble_eq_true rfl⟩ (fun v_ w_ H locs hpost hP hD hS => ?_)
  obtain ⟨rfl, rfl⟩ := hpost
  have hP : va_P E.1 vwCl [(o1, .inr (1, [.int (nI nu), .int (nI rp), .int (nI rq), .long (lN bf), .long (lN af)])), (t0, .inr (7, [.int (nI 31 * tr + nI 4)]))] H := hP
  have hD : va_D A [(o1, .inr (1, [.int (nI nu), .int (nI rp), .int (nI rq), .long (lN bf), .long (lN af)])), (t0, .inr (7, [.int (nI 31 * tr + nI 4)]))] := hD
  refine W.eq (g2 := F0 m 5 ls []) rfl ?_
  refine lv_aload_n hx hb dX1_logged_5 rfl (lv_at hl 0 rfl) ?_
  refine va_get (D := E.1) (ci := 1) (v := .int (nI nu)) (C := RX1) (T := TX1) (N := 5) hx hb hts iX1 hown hK hP 0 rfl rfl 0 (by decide) (hts _ kw_278) (fun _ h9 => h9) rfl dX1_logged_6 ?_
  exact rw_i hC rfl hP hD hS (⟨rfl, rfl⟩) dX1_logged_9 (Nat.le_of_ble_eq_true rfl) (Nat.le_of_ble_eq_true rfl)

set_option maxHeartbeats 4000000 in
set_option maxRecDepth 100000 in
theorem k_log_4 (l : Launch) (E : EE) (o1 nu rp rq bf af : Nat) (t0 : Nat) (tr : Int32) (sz : Nat) : Wr l yX1_logged cX1_logged 2 (some .int) rm_X1_logged 0 0 E [(o1, .inr (3, [.int (nI nu), .int (nI rp), .int (nI rq), .long (lN bf), .long (lN af)])), (t0, .inr (7, [.int tr]))] sz [.ref o1, .ref t0] (fun v w1 => v = some (.int (nI nu)) ∧ w1 = [(o1, .inr (3, [.int (nI nu), .int (nI rp), .int (nI rq), .long (lN bf), .long (lN af)])), (t0, .inr (7, [.int (nI 31 * tr + nI 4)]))]) := by
  refine mk_wr (by decide) (Nat.le_of_ble_eq_true rfl) ?_
  intro p e s m args below meth c hC hin hK A hA hP hD hS ls hl
  obtain ⟨hx, hb, hr, hts, hown, hml, hlk, hN⟩ := id hC
  have hl : lv_has ls 2 [(0, .ref o1), (1, .ref t0)] := hl
  obtain ⟨H, hH⟩ : ∃ z, z = s.heap := ⟨_, rfl⟩
  have hS : va_S A s.heap H [] := by rw [hH]; exact hS
  rw [← hH] at hP
  refine W_heap hH ?_
  obtain ⟨locs, hlo⟩ : ∃ z : List Loc, z = [] := ⟨_, rfl⟩
  rw [← hlo] at hS ⊢
  refine lv_aload_n hx hb dX1_logged_0 rfl (lv_at hl 1 rfl) ?_
  refine lv_iconst (v := nI 4) hx hb dX1_logged_1 (by decide) ?_
  refine cV_wr (X := [(o1, .inr (3, [.int (nI nu), .int (nI rp), .int (nI rq), .long (lN bf), .long (lN af)]))]) (Y := []) (rest := []) hC (k_leave l E t0 tr 4 _) kw_688 iy_X9_leave ⟨Nat.le_of_ble_eq_true rfl, Nat.le_of_ble_eq_true rfl⟩ ⟨rfl, rfl⟩ hK hP hD hS hA rfl (va_recv hK hP (ci := 7) (q0 := 1) rfl rfl) rfl hl.1 rfl (Nat.le_of_ble_eq_true rfl) dX1_logged_2 ⟨Nat.le_of_ble_eq_true rfl, Nat.le_of_ble_eq_true rfl⟩ (fun v_ w_ H locs hpost hP hD hS => ?_)
  obtain ⟨rfl, rfl⟩ := hpost
  have hP : va_P E.1 vwCl [(o1, .inr (3, [.int (nI nu), .int (nI rp), .int (nI rq), .long (lN bf), .long (lN af)])), (t0, .inr (7, [.int (nI 31 * tr + nI 4)]))] H := hP
  have hD : va_D A [(o1, .inr (3, [.int (nI nu), .int (nI rp), .int (nI rq), .long (lN bf), .long (lN af)])), (t0, .inr (7, [.int (nI 31 * tr + nI 4)]))] := hD
  refine W.eq (g2 := F0 m 5 ls []) rfl ?_
  refine lv_aload_n hx hb dX1_logged_5 rfl (lv_at hl 0 rfl) ?_
  refine va_get (D := E.1) (ci := 3) (v := .int (nI nu)) (C := RX4) (T := TX4) (N := 5) hx hb hts iX4 hown hK hP 0 rfl rfl 0 (by decide) (hts _ kw_278) (fun _ h9 => h9) rfl dX1_logged_6 ?_
  exact rw_i hC rfl hP hD hS (⟨rfl, rfl⟩) dX1_logged_9 (Nat.le_of_ble_eq_true rfl) (Nat.le_of_ble_eq_true rfl)

set_option maxHeartbeats 4000000 in
set_option maxRecDepth 100000 in
theorem k_log_10 (l : Launch) (E : EE) (o1 nu rp rq bf af : Nat) (t0 : Nat) (tr : Int32) (sz : Nat) : Wr l yX10_logged cX10_logged 2 (some .int) rm_X10_logged 0 0 E [(o1, .inr (8, [.int (nI nu), .int (nI rp), .int (nI rq), .long (lN bf), .long (lN af)])), (t0, .inr (7, [.int tr]))] sz [.ref o1, .ref t0] (fun v w1 => v = some (.int (nI 70)) ∧ w1 = [(o1, .inr (8, [.int (nI nu), .int (nI rp), .int (nI rq), .long (lN bf), .long (lN af)])), (t0, .inr (7, [.int (nI 31 * tr + nI 5)]))]) := by
  refine mk_wr (by decide) (Nat.le_of_ble_eq_true rfl) ?_
  intro p e s m args below meth c hC hin hK A hA hP hD hS ls hl
  obtain ⟨hx, hb, hr, hts, hown, hml, hlk, hN⟩ := id hC
  have hl : lv_has ls 2 [(0, .ref o1), (1, .ref t0)] := hl
  obtain ⟨H, hH⟩ : ∃ z, z = s.heap := ⟨_, rfl⟩
  have hS : va_S A s.heap H [] := by rw [hH]; exact hS
  rw [← hH] at hP
  refine W_heap hH ?_
  obtain ⟨locs, hlo⟩ : ∃ z : List Loc, z = [] := ⟨_, rfl⟩
  rw [← hlo] at hS ⊢
  refine lv_aload_n hx hb dX10_logged_0 rfl (lv_at hl 1 rfl) ?_
  refine lv_iconst (v := nI 5) hx hb dX10_logged_1 (by decide) ?_
  refine cV_wr (X := [(o1, .inr (8, [.int (nI nu), .int (nI rp), .int (nI rq), .long (lN bf), .long (lN af)]))]) (Y := []) (rest := []) hC (k_leave l E t0 tr 5 _) kw_692 iy_X9_leave ⟨Nat.le_of_ble_eq_true rfl, Nat.le_of_ble_eq_true rfl⟩ ⟨rfl, rfl⟩ hK hP hD hS hA rfl (va_recv hK hP (ci := 7) (q0 := 1) rfl rfl) rfl hl.1 rfl (Nat.le_of_ble_eq_true rfl) dX10_logged_2 ⟨Nat.le_of_ble_eq_true rfl, Nat.le_of_ble_eq_true rfl⟩ (fun v_ w_ H locs hpost hP hD hS => ?_)
  obtain ⟨rfl, rfl⟩ := hpost
  have hP : va_P E.1 vwCl [(o1, .inr (8, [.int (nI nu), .int (nI rp), .int (nI rq), .long (lN bf), .long (lN af)])), (t0, .inr (7, [.int (nI 31 * tr + nI 5)]))] H := hP
  have hD : va_D A [(o1, .inr (8, [.int (nI nu), .int (nI rp), .int (nI rq), .long (lN bf), .long (lN af)])), (t0, .inr (7, [.int (nI 31 * tr + nI 5)]))] := hD
  refine W.eq (g2 := F0 m 5 ls []) rfl ?_
  refine lv_bipush (v := nI 70) hx hb dX10_logged_5 (by decide) ?_
  exact rw_i hC rfl hP hD hS (⟨rfl, rfl⟩) dX10_logged_7 (Nat.le_of_ble_eq_true rfl) (Nat.le_of_ble_eq_true rfl)
