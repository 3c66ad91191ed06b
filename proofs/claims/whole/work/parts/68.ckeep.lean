set_option maxHeartbeats 4000000 in
set_option maxRecDepth 100000 in
theorem k_keep (l : Launch) (E : EE) (ra : Nat → Nat) (K : Nat → Nat) (u : Nat) (Al Gd Fw Mo : Nat → Nat) (K2 : Nat → Nat) (u2 : Nat) (y1 al gd fw mo : Nat) (hy : y1 < 2 ^ 63) (hKs : ∀ j, K j < 2 ^ 63) (hrm : rmK K y1) (hu : u < 2 ^ 30) (hfw : fw ≤ 12) (hmo : mo ≤ 13) (sz : Nat) : Wr l yX6_keep cX6_keep 10 (some .int) rm_X6_keep 0 0 E (rW E ra K u Al Gd Fw Mo K2 u2) sz [.ref (ra 0), .long (lN y1), .long (lN al), .long (lN gd), .int (nI fw), .int (nI mo)] (fun v1 w1 => v1 = some (.int (nI (slt K y1))) ∧ w1 = rW E ra (va_up K (slt K y1) y1) (if K (slt K y1) = 0 then u + 1 else u) (va_up Al (slt K y1) al) (va_up Gd (slt K y1) gd) (va_up Fw (slt K y1) fw) (va_up Mo (slt K y1) mo) K2 u2) := by
  refine mk_wr (by decide) (Nat.le_of_ble_eq_true rfl) ?_
  intro p e s m args below meth c hC hin hK A hA hP hD hS ls hl
  obtain ⟨hx, hb, hr, hts, hown, hml, hlk, hN⟩ := id hC
  have hl : lv_has ls 10 [(0, .ref (ra 0)), (1, .long (lN y1)), (3, .long (lN al)), (5, .long (lN gd)), (7, .int (nI fw)), (8, .int (nI mo))] := hl
  obtain ⟨H, hH⟩ : ∃ z, z = s.heap := ⟨_, rfl⟩
  have hS : va_S A s.heap H [] := by rw [hH]; exact hS
  rw [← hH] at hP
  refine W_heap hH ?_
  obtain ⟨locs, hlo⟩ : ∃ z : List Loc, z = [] := ⟨_, rfl⟩
  rw [← hlo] at hS ⊢
  refine lv_aload_n hx hb dX6_keep_0 rfl (lv_at hl 0 rfl) ?_
  refine va_get (D := E.1) (ci := 4) (v := .ref (ra 1)) (C := RX6) (T := TX6) (N := 6) hx hb hts iX6 hown hK hP 0 rfl rfl 0 (by decide) (hts _ kw_61) (fun _ h9 => h9) rfl dX6_keep_1 ?_
  refine lv_lload_n hx hb dX6_keep_4 rfl (lv_at hl 1 rfl) ?_
  refine cV_wr (X := rX ra) (Y := rY E ra Al Gd Fw Mo K2 u2) (rest := []) hC (k_take l E (ra 1) (ra 2) K u y1 hy hKs hrm hu _) kw_429 iy_X8_take ⟨Nat.le_of_ble_eq_true rfl, Nat.le_of_ble_eq_true rfl⟩ ⟨rfl, rfl⟩ hK hP hD hS hA rfl (va_recv hK hP (ci := 6) (q0 := 1) rfl rfl) rfl hl.1 rfl (Nat.le_of_ble_eq_true rfl) dX6_keep_5 ⟨Nat.le_of_ble_eq_true rfl, Nat.le_of_ble_eq_true rfl⟩ (fun v_ w_ H locs hpost hP hD hS => ?_)
  obtain ⟨rfl, hw_⟩ := hpost
  rw [if_put hrm] at hw_; subst hw_
  have hP : va_P E.1 vwCl (rW E ra (va_up K (slt K y1) y1) (if K (slt K y1) = 0 then u + 1 else u) Al Gd Fw Mo K2 u2) H := hP
  have hD : va_D A (rW E ra (va_up K (slt K y1) y1) (if K (slt K y1) = 0 then u + 1 else u) Al Gd Fw Mo K2 u2) := hD
  have hslt := slt_lt K y1
  refine W.eq (g2 := F0 m 8 ls [.int (nI (slt K y1))]) rfl ?_
  refine lv_istore (lv' := [(9, .int (nI (slt K y1))), (0, .ref (ra 0)), (1, .long (lN y1)), (3, .long (lN al)), (5, .long (lN gd)), (7, .int (nI fw)), (8, .int (nI mo))]) hx hb dX6_keep_8 hl (by decide) rfl (fun ls hl => ?_)
  refine lv_iload hx hb dX6_keep_10 (lv_at hl 0 rfl) ?_
  refine n_if_ge (tgt := 18) hx hb (by omega) dX6_keep_12 (by decide) ?_
  refine lv_aload_n hx hb dX6_keep_18 rfl (lv_at hl 1 rfl) ?_
  refine va_get (D := E.1) (ci := 4) (v := .ref (ra 3)) (C := RX6) (T := TX6) (N := 6) hx hb hts iX6 hown hK hP 0 rfl rfl 1 (by decide) (hts _ kw_62) (fun _ h9 => h9) rfl dX6_keep_19 ?_
  refine lv_iload hx hb dX6_keep_22 (lv_at hl 0 rfl) ?_
  refine lv_lload_n hx hb dX6_keep_24 rfl (lv_at hl 3 rfl) ?_
  refine n_last hx hb hK hP hD hS 3 rfl (by omega) (by decide) dX6_keep_25 (fun H locs hP hD hS => ?_)
  have hP : va_P E.1 vwCl (rW E ra (va_up K (slt K y1) y1) (if K (slt K y1) = 0 then u + 1 else u) (va_up Al (slt K y1) al) Gd Fw Mo K2 u2) H := hP
  have hD : va_D A (rW E ra (va_up K (slt K y1) y1) (if K (slt K y1) = 0 then u + 1 else u) (va_up Al (slt K y1) al) Gd Fw Mo K2 u2) := hD
  refine lv_aload_n hx hb dX6_keep_26 rfl (lv_at hl 1 rfl) ?_
  refine va_get (D := E.1) (ci := 4) (v := .ref (ra 4)) (C := RX6) (T := TX6) (N := 6) hx hb hts iX6 hown hK hP 0 rfl rfl 2 (by decide) (hts _ kw_63) (fun _ h9 => h9) rfl dX6_keep_27 ?_
  refine lv_iload hx hb dX6_keep_30 (lv_at hl 0 rfl) ?_
  refine lv_lload hx hb dX6_keep_32 (lv_at hl 4 rfl) ?_
  refine n_last hx hb hK hP hD hS 4 rfl (by omega) (by decide) dX6_keep_34 (fun H locs hP hD hS => ?_)
  have hP : va_P E.1 vwCl (rW E ra (va_up K (slt K y1) y1) (if K (slt K y1) = 0 then u + 1 else u) (va_up Al (slt K y1) al) (va_up Gd (slt K y1) gd) Fw Mo K2 u2) H := hP
  have hD : va_D A (rW E ra (va_up K (slt K y1) y1) (if K (slt K y1) = 0 then u + 1 else u) (va_up Al (slt K y1) al) (va_up Gd (slt K y1) gd) Fw Mo K2 u2) := hD
  refine lv_aload_n hx hb dX6_keep_35 rfl (lv_at hl 1 rfl) ?_
  refine va_get (D := E.1) (ci := 4) (v := .ref (ra 5)) (C := RX6) (T := TX6) (N := 6) hx hb hts iX6 hown hK hP 0 rfl rfl 3 (by decide) (hts _ kw_64) (fun _ h9 => h9) rfl dX6_keep_36 ?_
  refine lv_iload hx hb dX6_keep_39 (lv_at hl 0 rfl) ?_
  refine lv_iload hx hb dX6_keep_41 (lv_at hl 5 rfl) ?_
  refine lv_i2b hx hb dX6_keep_43 rfl ?_
  refine top_i (i2b_nI fw (by omega)) ?_
  refine n_bast hx hb hK hP hD hS 5 rfl (by omega) (by omega) (by decide) dX6_keep_44 (fun H locs hP hD hS => ?_)
  have hP : va_P E.1 vwCl (rW E ra (va_up K (slt K y1) y1) (if K (slt K y1) = 0 then u + 1 else u) (va_up Al (slt K y1) al) (va_up Gd (slt K y1) gd) (va_up Fw (slt K y1) fw) Mo K2 u2) H := hP
  have hD : va_D A (rW E ra (va_up K (slt K y1) y1) (if K (slt K y1) = 0 then u + 1 else u) (va_up Al (slt K y1) al) (va_up Gd (slt K y1) gd) (va_up Fw (slt K y1) fw) Mo K2 u2) := hD
  refine lv_aload_n hx hb dX6_keep_45 rfl (lv_at hl 1 rfl) ?_
  refine va_get (D := E.1) (ci := 4) (v := .ref (ra 6)) (C := RX6) (T := TX6) (N := 6) hx hb hts iX6 hown hK hP 0 rfl rfl 4 (by decide) (hts _ kw_65) (fun _ h9 => h9) rfl dX6_keep_46 ?_
  refine lv_iload hx hb dX6_keep_49 (lv_at hl 0 rfl) ?_
  refine lv_iload hx hb dX6_keep_51 (lv_at hl 6 rfl) ?_
  refine lv_i2b hx hb dX6_keep_53 rfl ?_
  refine top_i (i2b_nI mo (by omega)) ?_
  refine n_bast hx hb hK hP hD hS 6 rfl (by omega) (by omega) (by decide) dX6_keep_54 (fun H locs hP hD hS => ?_)
  have hP : va_P E.1 vwCl (rW E ra (va_up K (slt K y1) y1) (if K (slt K y1) = 0 then u + 1 else u) (va_up Al (slt K y1) al) (va_up Gd (slt K y1) gd) (va_up Fw (slt K y1) fw) (va_up Mo (slt K y1) mo) K2 u2) H := hP
  have hD : va_D A (rW E ra (va_up K (slt K y1) y1) (if K (slt K y1) = 0 then u + 1 else u) (va_up Al (slt K y1) al) (va_up Gd (slt K y1) gd) (va_up Fw (slt K y1) fw) (va_up Mo (slt K y1) mo) K2 u2) := hD
  refine lv_iload hx hb dX6_keep_55 (lv_at hl 0 rfl) ?_
  exact rw_i hC rfl hP hD hS (⟨rfl, rfl⟩) dX6_keep_57 (Nat.le_of_ble_eq_true rfl) (Nat.le_of_ble_eq_true rfl)
