set_option maxHeartbeats 4000000 in
set_option maxRecDepth 100000 in
theorem k_t_init (l : Launch) (E : EE) (o1 sz : Nat)  : Wr l yX8_init cX8_init 1 none rm_X8_init 1 8192 E [(o1, .inr (6, [.null, .int (nI 0)]))] sz [.ref o1] (fun v w1 => v = none ∧ ∃ tk, w1 = tW E o1 tk (fun _ => 0) 0) := by
  refine mk_wr (by decide) (Nat.le_of_ble_eq_true rfl) ?_
  intro p e s m args below meth c hC hin hK A hA hP hD hS ls hl
  have hin : meth.name = "<init>" := hin
  obtain ⟨hx, hb, hr, hts, hown, hml, hlk, hN⟩ := id hC
  have hl : lv_has ls 1 [(0, .ref o1)] := hl
  obtain ⟨H, hH⟩ : ∃ z, z = s.heap := ⟨_, rfl⟩
  have hS : va_S A s.heap H [] := by rw [hH]; exact hS
  rw [← hH] at hP
  refine W_heap hH ?_
  obtain ⟨locs, hlo⟩ : ∃ z : List Loc, z = [] := ⟨_, rfl⟩
  rw [← hlo] at hS ⊢
  refine lv_aload_n hx hb dX8_init_0 rfl (lv_at hl 0 rfl) ?_
  refine W.objInit hx hb hown (hts _ kw_52) (hts _ kw_24) (hts _ kw_25) rfl (by rw [hml]; exact hl.1) rfl dX8_init_1 (Nat.le_of_ble_eq_true rfl) (Nat.le_of_ble_eq_true rfl) ?_
  refine W.eq (g2 := F0 m 4 ls []) rfl ?_
  refine lv_aload_n hx hb dX8_init_4 rfl (lv_at hl 0 rfl) ?_
  refine lv_sipush (v := nI 8192) hx hb dX8_init_5 (by decide) ?_
  refine n_newL hx hb hts hK hP hD hS hA (by omega) (Nat.le_of_ble_eq_true rfl) (Nat.le_of_ble_eq_true rfl) dX8_init_8 (fun q_1 H hP hD hS => ?_)
  have hP : va_P E.1 vwCl [(o1, .inr (6, [.null, .int (nI 0)])), (q_1, .inl (E.2 2, 8192, .inr (.inl (fun j => lN ((fun _ => 0) j)))))] H := hP
  have hD : va_D A [(o1, .inr (6, [.null, .int (nI 0)])), (q_1, .inl (E.2 2, 8192, .inr (.inl (fun j => lN ((fun _ => 0) j)))))] := hD
  refine W.widen (k := 1) (n := 8192) (Nat.le_of_ble_eq_true rfl) (Nat.le_of_ble_eq_true rfl) ?_
  refine va_putF (D := E.1) (ci := 6) (v := .ref q_1) (ty := (.array .long)) (C := RX8) (T := TX8) (N := 2) hx hb hts iX8 tyX8 tyX8_ok nmX8 hown hK hP hD hS 0 rfl rfl 0 (by decide) (hts _ kw_53) (fun _ h9 => h9) rfl hin rfl (by decide +kernel) rfl rfl (Nat.le_of_ble_eq_true rfl) dX8_init_10 (fun H locs hP hD hS => ?_)
  have hP : va_P E.1 vwCl [(o1, .inr (6, [.ref q_1, .int (nI 0)])), (q_1, .inl (E.2 2, 8192, .inr (.inl (fun j => lN ((fun _ => 0) j)))))] H := hP
  have hD : va_D A [(o1, .inr (6, [.ref q_1, .int (nI 0)])), (q_1, .inl (E.2 2, 8192, .inr (.inl (fun j => lN ((fun _ => 0) j)))))] := hD
  have hP : va_P E.1 vwCl (tW E o1 q_1 (fun _ => 0) 0) H := hP
  have hD : va_D A (tW E o1 q_1 (fun _ => 0) 0) := hD
  exact rw_v hC hP hD hS (⟨rfl, q_1, rfl⟩) dX8_init_13 (Nat.le_of_ble_eq_true rfl) (Nat.le_of_ble_eq_true rfl)

set_option maxHeartbeats 4000000 in
set_option maxRecDepth 100000 in
theorem k_tr_init (l : Launch) (E : EE) (o1 sz : Nat)  : Wr l yX9_init cX9_init 1 none rm_X9_init 0 0 E [(o1, .inr (7, [.int (nI 0)]))] sz [.ref o1] (fun v w1 => v = none ∧ w1 = [(o1, .inr (7, [.int (nI 0)]))]) := by
  refine mk_wr (by decide) (Nat.le_of_ble_eq_true rfl) ?_
  intro p e s m args below meth c hC hin hK A hA hP hD hS ls hl
  have hin : meth.name = "<init>" := hin
  obtain ⟨hx, hb, hr, hts, hown, hml, hlk, hN⟩ := id hC
  have hl : lv_has ls 1 [(0, .ref o1)] := hl
  obtain ⟨H, hH⟩ : ∃ z, z = s.heap := ⟨_, rfl⟩
  have hS : va_S A s.heap H [] := by rw [hH]; exact hS
  rw [← hH] at hP
  refine W_heap hH ?_
  obtain ⟨locs, hlo⟩ : ∃ z : List Loc, z = [] := ⟨_, rfl⟩
  rw [← hlo] at hS ⊢
  refine lv_aload_n hx hb dX9_init_0 rfl (lv_at hl 0 rfl) ?_
  refine W.objInit hx hb hown (hts _ kw_35) (hts _ kw_24) (hts _ kw_25) rfl (by rw [hml]; exact hl.1) rfl dX9_init_1 (Nat.le_of_ble_eq_true rfl) (Nat.le_of_ble_eq_true rfl) ?_
  refine W.eq (g2 := F0 m 4 ls []) rfl ?_
  exact rw_v hC hP hD hS (⟨rfl, rfl⟩) dX9_init_4 (Nat.le_of_ble_eq_true rfl) (Nat.le_of_ble_eq_true rfl)

set_option maxHeartbeats 4000000 in
set_option maxRecDepth 100000 in
theorem k_nt_init (l : Launch) (E : EE) (o1 sz : Nat)  : Wr l yX3_init cX3_init 1 none rm_X3_init 0 0 E [(o1, .inr (2, [.int (nI 0), .int (nI 0)]))] sz [.ref o1] (fun v w1 => v = none ∧ w1 = [(o1, .inr (2, [.int (nI 0), .int (nI 0)]))]) := by
  refine mk_wr (by decide) (Nat.le_of_ble_eq_true rfl) ?_
  intro p e s m args below meth c hC hin hK A hA hP hD hS ls hl
  have hin : meth.name = "<init>" := hin
  obtain ⟨hx, hb, hr, hts, hown, hml, hlk, hN⟩ := id hC
  have hl : lv_has ls 1 [(0, .ref o1)] := hl
  obtain ⟨H, hH⟩ : ∃ z, z = s.heap := ⟨_, rfl⟩
  have hS : va_S A s.heap H [] := by rw [hH]; exact hS
  rw [← hH] at hP
  refine W_heap hH ?_
  obtain ⟨locs, hlo⟩ : ∃ z : List Loc, z = [] := ⟨_, rfl⟩
  rw [← hlo] at hS ⊢
  refine lv_aload_n hx hb dX3_init_0 rfl (lv_at hl 0 rfl) ?_
  refine W.objInit hx hb hown (hts _ kw_169) (hts _ kw_24) (hts _ kw_25) rfl (by rw [hml]; exact hl.1) rfl dX3_init_1 (Nat.le_of_ble_eq_true rfl) (Nat.le_of_ble_eq_true rfl) ?_
  refine W.eq (g2 := F0 m 4 ls []) rfl ?_
  exact rw_v hC hP hD hS (⟨rfl, rfl⟩) dX3_init_4 (Nat.le_of_ble_eq_true rfl) (Nat.le_of_ble_eq_true rfl)

set_option maxHeartbeats 4000000 in
set_option maxRecDepth 100000 in
theorem k_a_init (l : Launch) (E : EE) (o1 sz : Nat)  : Wr l yX0_init cX0_init 1 none rm_X0_init 3 12 E [(o1, .inr (0, [.null, .null, .int (nI 0), .null, .int (nI 0)]))] sz [.ref o1] (fun v w1 => v = none ∧ ∃ a1 a2 a3, w1 = alW E o1 a1 a2 a3 0 0 (fun _ => 0) (fun _ => 0) (fun _ => 0)) := by
  refine mk_wr (by decide) (Nat.le_of_ble_eq_true rfl) ?_
  intro p e s m args below meth c hC hin hK A hA hP hD hS ls hl
  have hin : meth.name = "<init>" := hin
  obtain ⟨hx, hb, hr, hts, hown, hml, hlk, hN⟩ := id hC
  have hl : lv_has ls 1 [(0, .ref o1)] := hl
  obtain ⟨H, hH⟩ : ∃ z, z = s.heap := ⟨_, rfl⟩
  have hS : va_S A s.heap H [] := by rw [hH]; exact hS
  rw [← hH] at hP
  refine W_heap hH ?_
  obtain ⟨locs, hlo⟩ : ∃ z : List Loc, z = [] := ⟨_, rfl⟩
  rw [← hlo] at hS ⊢
  refine lv_aload_n hx hb dX0_init_0 rfl (lv_at hl 0 rfl) ?_
  refine W.objInit hx hb hown (hts _ kw_86) (hts _ kw_24) (hts _ kw_25) rfl (by rw [hml]; exact hl.1) rfl dX0_init_1 (Nat.le_of_ble_eq_true rfl) (Nat.le_of_ble_eq_true rfl) ?_
  refine W.eq (g2 := F0 m 4 ls []) rfl ?_
  refine lv_aload_n hx hb dX0_init_4 rfl (lv_at hl 0 rfl) ?_
  refine lv_iconst (v := nI 4) hx hb dX0_init_5 (by decide) ?_
  refine n_newI hx hb hts hK hP hD hS hA (by omega) (Nat.le_of_ble_eq_true rfl) (Nat.le_of_ble_eq_true rfl) dX0_init_6 (fun q_1 H hP hD hS => ?_)
  have hP : va_P E.1 vwCl [(o1, .inr (0, [.null, .null, .int (nI 0), .null, .int (nI 0)])), (q_1, .inl (E.2 1, 4, .inl (fun j => nI ((fun _ => 0) j))))] H := hP
  have hD : va_D A [(o1, .inr (0, [.null, .null, .int (nI 0), .null, .int (nI 0)])), (q_1, .inl (E.2 1, 4, .inl (fun j => nI ((fun _ => 0) j))))] := hD
  refine W.widen (k := 1) (n := 4) (Nat.le_of_ble_eq_true rfl) (Nat.le_of_ble_eq_true rfl) ?_
  refine va_putF (D := E.1) (ci := 0) (v := .ref q_1) (ty := (.array .int)) (C := RX0) (T := TX0) (N := 5) hx hb hts iX0 tyX0 tyX0_ok nmX0 hown hK hP hD hS 0 rfl rfl 0 (by decide) (hts _ kw_87) (fun _ h9 => h9) rfl hin rfl (by decide +kernel) rfl rfl (Nat.le_of_ble_eq_true rfl) dX0_init_8 (fun H locs hP hD hS => ?_)
  have hP : va_P E.1 vwCl [(o1, .inr (0, [.ref q_1, .null, .int (nI 0), .null, .int (nI 0)])), (q_1, .inl (E.2 1, 4, .inl (fun j => nI ((fun _ => 0) j))))] H := hP
  have hD : va_D A [(o1, .inr (0, [.ref q_1, .null, .int (nI 0), .null, .int (nI 0)])), (q_1, .inl (E.2 1, 4, .inl (fun j => nI ((fun _ => 0) j))))] := hD
  refine lv_aload_n hx hb dX0_init_11 rfl (lv_at hl 0 rfl) ?_
  refine lv_iconst (v := nI 4) hx hb dX0_init_12 (by decide) ?_
  refine n_newI hx hb hts hK hP hD hS hA (by omega) (Nat.le_of_ble_eq_true rfl) (Nat.le_of_ble_eq_true rfl) dX0_init_13 (fun q_2 H hP hD hS => ?_)
  have hP : va_P E.1 vwCl [(o1, .inr (0, [.ref q_1, .null, .int (nI 0), .null, .int (nI 0)])), (q_1, .inl (E.2 1, 4, .inl (fun j => nI ((fun _ => 0) j)))), (q_2, .inl (E.2 1, 4, .inl (fun j => nI ((fun _ => 0) j))))] H := hP
  have hD : va_D A [(o1, .inr (0, [.ref q_1, .null, .int (nI 0), .null, .int (nI 0)])), (q_1, .inl (E.2 1, 4, .inl (fun j => nI ((fun _ => 0) j)))), (q_2, .inl (E.2 1, 4, .inl (fun j => nI ((fun _ => 0) j))))] := hD
  refine W.widen (k := 2) (n := 8) (Nat.le_of_ble_eq_true rfl) (Nat.le_of_ble_eq_true rfl) ?_
  refine va_putF (D := E.1) (ci := 0) (v := .ref q_2) (ty := (.array .int)) (C := RX0) (T := TX0) (N := 5) hx hb hts iX0 tyX0 tyX0_ok nmX0 hown hK hP hD hS 0 rfl rfl 1 (by decide) (hts _ kw_88) (fun _ h9 => h9) rfl hin rfl (by decide +kernel) rfl rfl (Nat.le_of_ble_eq_true rfl) dX0_init_15 (fun H locs hP hD hS => ?_)
  have hP : va_P E.1 vwCl [(o1, .inr (0, [.ref q_1, .ref q_2, .int (nI 0), .null, .int (nI 0)])), (q_1, .inl (E.2 1, 4, .inl (fun j => nI ((fun _ => 0) j)))), (q_2, .inl (E.2 1, 4, .inl (fun j => nI ((fun _ => 0) j))))] H := hP
  have hD : va_D A [(o1, .inr (0, [.ref q_1, .ref q_2, .int (nI 0), .null, .int (nI 0)])), (q_1, .inl (E.2 1, 4, .inl (fun j => nI ((fun _ => 0) j)))), (q_2, .inl (E.2 1, 4, .inl (fun j => nI ((fun _ => 0) j))))] := hD
  refine lv_aload_n hx hb dX0_init_18 rfl (lv_at hl 0 rfl) ?_
  refine lv_iconst (v := nI 4) hx hb dX0_init_19 (by decide) ?_
  refine n_newI hx hb hts hK hP hD hS hA (by omega) (Nat.le_of_ble_eq_true rfl) (Nat.le_of_ble_eq_true rfl) dX0_init_20 (fun q_3 H hP hD hS => ?_)
  have hP : va_P E.1 vwCl [(o1, .inr (0, [.ref q_1, .ref q_2, .int (nI 0), .null, .int (nI 0)])), (q_1, .inl (E.2 1, 4, .inl (fun j => nI ((fun _ => 0) j)))), (q_2, .inl (E.2 1, 4, .inl (fun j => nI ((fun _ => 0) j)))), (q_3, .inl (E.2 1, 4, .inl (fun j => nI ((fun _ => 0) j))))] H := hP
  have hD : va_D A [(o1, .inr (0, [.ref q_1, .ref q_2, .int (nI 0), .null, .int (nI 0)])), (q_1, .inl (E.2 1, 4, .inl (fun j => nI ((fun _ => 0) j)))), (q_2, .inl (E.2 1, 4, .inl (fun j => nI ((fun _ => 0) j)))), (q_3, .inl (E.2 1, 4, .inl (fun j => nI ((fun _ => 0) j))))] := hD
  refine W.widen (k := 3) (n := 12) (Nat.le_of_ble_eq_true rfl) (Nat.le_of_ble_eq_true rfl) ?_
  refine va_putF (D := E.1) (ci := 0) (v := .ref q_3) (ty := (.array .int)) (C := RX0) (T := TX0) (N := 5) hx hb hts iX0 tyX0 tyX0_ok nmX0 hown hK hP hD hS 0 rfl rfl 3 (by decide) (hts _ kw_90) (fun _ h9 => h9) rfl hin rfl (by decide +kernel) rfl rfl (Nat.le_of_ble_eq_true rfl) dX0_init_22 (fun H locs hP hD hS => ?_)
  have hP : va_P E.1 vwCl [(o1, .inr (0, [.ref q_1, .ref q_2, .int (nI 0), .ref q_3, .int (nI 0)])), (q_1, .inl (E.2 1, 4, .inl (fun j => nI ((fun _ => 0) j)))), (q_2, .inl (E.2 1, 4, .inl (fun j => nI ((fun _ => 0) j)))), (q_3, .inl (E.2 1, 4, .inl (fun j => nI ((fun _ => 0) j))))] H := hP
  have hD : va_D A [(o1, .inr (0, [.ref q_1, .ref q_2, .int (nI 0), .ref q_3, .int (nI 0)])), (q_1, .inl (E.2 1, 4, .inl (fun j => nI ((fun _ => 0) j)))), (q_2, .inl (E.2 1, 4, .inl (fun j => nI ((fun _ => 0) j)))), (q_3, .inl (E.2 1, 4, .inl (fun j => nI ((fun _ => 0) j))))] := hD
  have hP := hP.sub (ws' := (alW E o1 q_1 q_2 q_3 0 0 (fun _ => 0) (fun _ => 0) (fun _ => 0))) [0, 1, 2, 3] rfl
  have hD := hD.sub (ws' := (alW E o1 q_1 q_2 q_3 0 0 (fun _ => 0) (fun _ => 0) (fun _ => 0))) [0, 1, 2, 3] (by decide) rfl
  exact rw_v hC hP hD hS (⟨rfl, _, _, _, rfl⟩) dX0_init_25 (Nat.le_of_ble_eq_true rfl) (Nat.le_of_ble_eq_true rfl)
