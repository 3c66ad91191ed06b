set_option maxHeartbeats 4000000 in
set_option maxRecDepth 100000 in
theorem k_s_init (l : Launch) (E : EE) (o1 sz : Nat) (ll L : Nat) (hL : L ≤ 60) : Wr l yX7_init cX7_init 3 none rm_X7_init 1 60 E [(o1, .inr (5, [.int (nI 0), .null]))] sz [.ref o1, .int (nI ll), .int (nI L)] (fun v w1 => v = none ∧ ∃ sa, w1 = shW E o1 sa (nI ll) L (fun _ => nI 0)) := by
  refine mk_wr (by decide) (Nat.le_of_ble_eq_true rfl) ?_
  intro p e s m args below meth c hC hin hK A hA hP hD hS ls hl
  have hin : meth.name = "<init>" := hin
  obtain ⟨hx, hb, hr, hts, hown, hml, hlk, hN⟩ := id hC
  have hl : lv_has ls 3 [(0, .ref o1), (1, .int (nI ll)), (2, .int (nI L))] := hl
  obtain ⟨H, hH⟩ : ∃ z, z = s.heap := ⟨_, rfl⟩
  have hS : va_S A s.heap H [] := by rw [hH]; exact hS
  rw [← hH] at hP
  refine W_heap hH ?_
  obtain ⟨locs, hlo⟩ : ∃ z : List Loc, z = [] := ⟨_, rfl⟩
  rw [← hlo] at hS ⊢
  refine lv_aload_n hx hb dX7_init_0 rfl (lv_at hl 0 rfl) ?_
  refine W.objInit hx hb hown (hts _ kw_622) (hts _ kw_24) (hts _ kw_25) rfl (by rw [hml]; exact hl.1) rfl dX7_init_1 (Nat.le_of_ble_eq_true rfl) (Nat.le_of_ble_eq_true rfl) ?_
  refine W.eq (g2 := F0 m 4 ls []) rfl ?_
  refine lv_aload_n hx hb dX7_init_4 rfl (lv_at hl 0 rfl) ?_
  refine lv_iload_n hx hb dX7_init_5 rfl (lv_at hl 1 rfl) ?_
  refine va_putF (D := E.1) (ci := 5) (v := .int (nI ll)) (ty := .int) (C := RX7) (T := TX7) (N := 2) hx hb hts iX7 tyX7 tyX7_ok nmX7 hown hK hP hD hS 0 rfl rfl 0 (by decide) (hts _ kw_623) (fun _ h9 => h9) rfl hin rfl (by decide +kernel) rfl rfl (Nat.le_of_ble_eq_true rfl) dX7_init_6 (fun H locs hP hD hS => ?_)
  have hP : va_P E.1 vwCl [(o1, .inr (5, [.int (nI ll), .null]))] H := hP
  have hD : va_D A [(o1, .inr (5, [.int (nI ll), .null]))] := hD
  refine lv_aload_n hx hb dX7_init_9 rfl (lv_at hl 0 rfl) ?_
  refine lv_iload_n hx hb dX7_init_10 rfl (lv_at hl 2 rfl) ?_
  refine n_newI hx hb hts hK hP hD hS hA (by omega) (Nat.le_of_ble_eq_true rfl) (show 0 + L ≤ 60 by omega) dX7_init_11 (fun sa1 H hP hD hS => ?_)
  have hP : va_P E.1 vwCl [(o1, .inr (5, [.int (nI ll), .null])), (sa1, .inl (E.2 1, L, .inl (fun j => nI ((fun _ => 0) j))))] H := hP
  have hD : va_D A [(o1, .inr (5, [.int (nI ll), .null])), (sa1, .inl (E.2 1, L, .inl (fun j => nI ((fun _ => 0) j))))] := hD
  refine W.widen (k := 1) (n := 60) (Nat.le_of_ble_eq_true rfl) (show 0 + L ≤ 60 by omega) ?_
  refine va_putF (D := E.1) (ci := 5) (v := .ref sa1) (ty := (.array .int)) (C := RX7) (T := TX7) (N := 2) hx hb hts iX7 tyX7 tyX7_ok nmX7 hown hK hP hD hS 0 rfl rfl 1 (by decide) (hts _ kw_625) (fun _ h9 => h9) rfl hin rfl (by decide +kernel) rfl rfl (Nat.le_of_ble_eq_true rfl) dX7_init_13 (fun H locs hP hD hS => ?_)
  have hP : va_P E.1 vwCl [(o1, .inr (5, [.int (nI ll), .ref sa1])), (sa1, .inl (E.2 1, L, .inl (fun j => nI ((fun _ => 0) j))))] H := hP
  have hD : va_D A [(o1, .inr (5, [.int (nI ll), .ref sa1])), (sa1, .inl (E.2 1, L, .inl (fun j => nI ((fun _ => 0) j))))] := hD
  have hP : va_P E.1 vwCl (shW E o1 sa1 (nI ll) L (fun _ => nI 0)) H := hP
  have hD : va_D A (shW E o1 sa1 (nI ll) L (fun _ => nI 0)) := hD
  exact rw_v hC hP hD hS (⟨rfl, sa1, rfl⟩) dX7_init_16 (Nat.le_of_ble_eq_true rfl) (Nat.le_of_ble_eq_true rfl)
