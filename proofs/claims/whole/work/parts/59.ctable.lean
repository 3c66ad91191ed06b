set_option maxHeartbeats 4000000 in
set_option maxRecDepth 100000 in
theorem k_slotFor (l : Launch) (E : EE) (ta tk : Nat) (K : Nat → Nat) (u : Nat) (y1 : Nat) (hy : y1 < 2 ^ 63) (hKs : ∀ j, K j < 2 ^ 63) (hrm : rmK K y1) : Rd l yX8_slotFor cX8_slotFor 6 (some .int) rm_X8_slotFor E (tW E ta tk K u) [.ref ta, .long (lN y1)] (some (.int (nI (slt K y1)))) := by
  refine mk_rd (by decide) (Nat.le_of_ble_eq_true rfl) ?_
  intro p e s m args below meth c hC hK hP ls hl
  obtain ⟨hx, hb, hr, hts, hown, hml, hlk, hN⟩ := id hC
  have hl : lv_has ls 6 [(0, .ref ta), (1, .long (lN y1))] := hl
  refine lv_lload_n hx hb dX8_slotFor_0 rfl (lv_at hl 1 rfl) ?_
  refine lv_ldc2 (v := lN 11400714819323198485) hx hb hown (hts _ kw_414) dX8_slotFor_1 ?_
  refine n_lmul hx hb dX8_slotFor_4 ?_
  refine top_l (lN_mod _) ?_
  refine lv_bipush (v := nI 51) hx hb dX8_slotFor_5 (by decide) ?_
  have hmo := Nat.mod_lt (y1 * 11400714819323198485) (by decide : 0 < 18446744073709551616)
  refine n_lushr hx hb (by omega) (by omega) dX8_slotFor_7 ?_
  have f_1 := shr_le ((y1 * 11400714819323198485) % 18446744073709551616) 51
  refine n_l2i hx hb dX8_slotFor_8 ?_
  refine lv_istore_n (lv' := [(3, .int (nI (((y1 * 11400714819323198485) % 18446744073709551616) >>> 51))), (0, .ref ta), (1, .long (lN y1))]) hx hb dX8_slotFor_9 rfl hl (by decide) rfl (fun ls hl => ?_)
  refine lv_iconst (v := nI 0) hx hb dX8_slotFor_10 (by decide) ?_
  refine lv_istore (lv' := [(4, .int (nI 0)), (3, .int (nI (((y1 * 11400714819323198485) % 18446744073709551616) >>> 51))), (0, .ref ta), (1, .long (lN y1))]) hx hb dX8_slotFor_11 hl (by decide) rfl (fun ls hl => ?_)
  have lp_2 : ∀ (n_lp_2 : Nat) (k : Nat) (hk : k ≤ 8192) (hk2 : ∀ i, i < k → slB K y1 i = false), 8192 - k < n_lp_2 → ∀ (ls : Array Slot), lv_has ls 6 [(0, .ref ta), (1, .long (lN y1)), (3, .int (nI (hmK y1))), (4, .int (nI k))] → W p l e rm_X8_slotFor s m args below meth c s.heap [] 0 0 (MQ below (pz_Q (some (.int (nI (slt K y1))))) args s 0 0 pz_F) (F0 m 13 ls []) := by
    intro n_lp_2
    induction n_lp_2 with
    | zero => intro k hk hk2; intro hm_lp_2; exact absurd hm_lp_2 (Nat.not_lt_zero _)
    | succ n_lp_2 ih_lp_2 =>
      intro k hk hk2 hm_lp_2 ls hl
      have hmlt := hmK_lt y1
      refine lv_iload hx hb dX8_slotFor_13 (lv_at hl 3 rfl) ?_
      refine lv_sipush (v := nI 8192) hx hb dX8_slotFor_15 (by decide) ?_
      refine n_icmp_ge (tgt := 64) hx hb (by omega) (by omega) dX8_slotFor_18 (by decide) (fun c_3 => ?_) (fun c_3 => ?_)
      · -- t 64
        refine lv_iconst (v := -1) hx hb dX8_slotFor_64 (by decide) ?_
        exact rz_iE hC (absurd hrm (by unfold rmK; rw [fF_no (fun i hi => hk2 i (by omega))]; omega)) dX8_slotFor_65
      · -- f 21
        refine lv_iload_n hx hb dX8_slotFor_21 rfl (lv_at hl 2 rfl) ?_
        refine lv_iload hx hb dX8_slotFor_22 (lv_at hl 3 rfl) ?_
        refine n_iadd hx hb dX8_slotFor_24 ?_
        refine lv_sipush (v := nI 8191) hx hb dX8_slotFor_25 (by decide) ?_
        refine n_iand hx hb dX8_slotFor_28 ?_
        have f_4 : ((hmK y1) + k) &&& 8191 ≤ 8191 := Nat.and_le_right
        refine lv_istore (lv' := [(5, .int (nI (((hmK y1) + k) &&& 8191))), (0, .ref ta), (1, .long (lN y1)), (3, .int (nI (hmK y1))), (4, .int (nI k))]) hx hb dX8_slotFor_29 hl (by decide) rfl (fun ls hl => ?_)
        have hsl : hmK y1 + k &&& 8191 ≤ 8191 := Nat.and_le_right; have hk3 := hKs (hmK y1 + k &&& 8191)
        refine lv_aload_n hx hb dX8_slotFor_31 rfl (lv_at hl 1 rfl) ?_
        refine va_get (D := E.1) (ci := 6) (v := .ref tk) (C := RX8) (T := TX8) (N := 2) hx hb hts iX8 hown hK hP 0 rfl rfl 0 (by decide) (hts _ kw_53) (fun _ h9 => h9) rfl dX8_slotFor_32 ?_
        refine lv_iload hx hb dX8_slotFor_35 (lv_at hl 0 rfl) ?_
        refine n_lald (f := fun j => lN (K j)) hx hb hK hP 1 rfl (by omega) (by decide) dX8_slotFor_37 ?_
        refine lv_lload_n hx hb dX8_slotFor_38 rfl (lv_at hl 2 rfl) ?_
        refine n_lcmp_eq (tgt := 55) hx hb (by omega) (by omega) dX8_slotFor_39 dX8_slotFor_40 (by decide) (fun c_5 => ?_) (fun c_5 => ?_)
        · -- t 55
          refine lv_iload hx hb dX8_slotFor_55 (lv_at hl 0 rfl) ?_
          exact rz_iE hC (congrArg nI (by unfold slt; rw [fF_yes (j := k) (by omega) hk2 (by unfold slB slJ; simp [c_5])]; rfl)) dX8_slotFor_57
        · -- f 43
          refine lv_aload_n hx hb dX8_slotFor_43 rfl (lv_at hl 1 rfl) ?_
          refine va_get (D := E.1) (ci := 6) (v := .ref tk) (C := RX8) (T := TX8) (N := 2) hx hb hts iX8 hown hK hP 0 rfl rfl 0 (by decide) (hts _ kw_53) (fun _ h9 => h9) rfl dX8_slotFor_44 ?_
          refine lv_iload hx hb dX8_slotFor_47 (lv_at hl 0 rfl) ?_
          refine n_lald (f := fun j => lN (K j)) hx hb hK hP 1 rfl (by omega) (by decide) dX8_slotFor_49 ?_
          refine lv_lconst (v := lN 0) hx hb dX8_slotFor_50 (by decide) ?_
          refine n_lcmp_ne (tgt := 58) hx hb (by omega) (by omega) dX8_slotFor_51 dX8_slotFor_52 (by decide) (fun c_6 => ?_) (fun c_6 => ?_)
          · -- t 58
            refine lv_iinc (v := nI (k + 1)) (lv' := [(4, .int (nI (k + 1))), (5, .int (nI (((hmK y1) + k) &&& 8191))), (0, .ref ta), (1, .long (lN y1)), (3, .int (nI (hmK y1)))]) hx hb dX8_slotFor_58 hl (k := 4) rfl (ii_1 _) (by decide) rfl (fun ls hl => ?_)
            refine lv_goto (tgt := 13) hx hb dX8_slotFor_61 (by decide) ?_
            exact ih_lp_2 (k + 1) (by omega) (fun i hi => by rcases (by omega : i < k ∨ i = k) with h7 | h7; exact hk2 i h7; rw [h7]; unfold slB slJ; rw [decide_eq_false c_5, decide_eq_false c_6]; rfl) (by omega) ls (lv_sub hl [2, 3, 4, 0] rfl)
          · -- f 55
            refine lv_iload hx hb dX8_slotFor_55 (lv_at hl 0 rfl) ?_
            exact rz_iE hC (congrArg nI (by unfold slt; rw [fF_yes (j := k) (by omega) hk2 (by unfold slB slJ; simp [c_6])]; rfl)) dX8_slotFor_57
  exact lp_2 _ 0 (by omega) (fun i hi => absurd hi (by omega)) (Nat.lt_succ_self _) ls (lv_sub hl [2, 3, 1, 0] rfl)

set_option maxHeartbeats 4000000 in
set_option maxRecDepth 100000 in
theorem k_find (l : Launch) (E : EE) (ta tk : Nat) (K : Nat → Nat) (u : Nat) (y1 : Nat) (hy : y1 < 2 ^ 63) (hKs : ∀ j, K j < 2 ^ 63) (hrm : rmK K y1) : Rd l yX8_find cX8_find 4 (some .int) rm_X8_find E (tW E ta tk K u) [.ref ta, .long (lN y1)] (some (.int (fndT K y1))) := by
  refine mk_rd (by decide) (Nat.le_of_ble_eq_true rfl) ?_
  intro p e s m args below meth c hC hK hP ls hl
  obtain ⟨hx, hb, hr, hts, hown, hml, hlk, hN⟩ := id hC
  have hl : lv_has ls 4 [(0, .ref ta), (1, .long (lN y1))] := hl
  refine lv_aload_n hx hb dX8_find_0 rfl (lv_at hl 0 rfl) ?_
  refine lv_lload_n hx hb dX8_find_1 rfl (lv_at hl 1 rfl) ?_
  refine cV_r (rest := []) hC (k_slotFor l E ta tk (K) (u) y1 hy hKs hrm) kw_410 iy_X8_slotFor ⟨Nat.le_of_ble_eq_true rfl, Nat.le_of_ble_eq_true rfl⟩ ⟨rfl, rfl⟩ hK hP (va_recv hK hP (ci := 6) (q0 := 0) rfl rfl) rfl hl.1 rfl (Nat.le_of_ble_eq_true rfl) dX8_find_2 ⟨Nat.le_of_ble_eq_true rfl, Nat.le_of_ble_eq_true rfl⟩ ?_
  have f_1 := slt_lt K y1
  have f_2 := hKs (slt K y1)
  refine lv_istore_n (lv' := [(3, .int (nI (slt K y1))), (0, .ref ta), (1, .long (lN y1))]) hx hb dX8_find_5 rfl hl (by decide) rfl (fun ls hl => ?_)
  refine lv_iload_n hx hb dX8_find_6 rfl (lv_at hl 0 rfl) ?_
  refine n_if_lt (tgt := 25) hx hb (by omega) dX8_find_7 (by decide) ?_
  refine lv_aload_n hx hb dX8_find_10 rfl (lv_at hl 1 rfl) ?_
  refine va_get (D := E.1) (ci := 6) (v := .ref tk) (C := RX8) (T := TX8) (N := 2) hx hb hts iX8 hown hK hP 0 rfl rfl 0 (by decide) (hts _ kw_53) (fun _ h9 => h9) rfl dX8_find_11 ?_
  refine lv_iload_n hx hb dX8_find_14 rfl (lv_at hl 0 rfl) ?_
  refine n_lald (f := fun j => lN (K j)) hx hb hK hP 1 rfl (by omega) (by decide) dX8_find_15 ?_
  refine lv_lload_n hx hb dX8_find_16 rfl (lv_at hl 2 rfl) ?_
  refine n_lcmp_ne (tgt := 25) hx hb (by omega) (by omega) dX8_find_17 dX8_find_18 (by decide) (fun c_3 => ?_) (fun c_3 => ?_)
  · -- t 25
    refine lv_iconst (v := -1) hx hb dX8_find_25 (by decide) ?_
    exact rz_iE hC (by unfold fndT; first | rw [if_pos (by assumption)] | rw [if_neg (by assumption)]) dX8_find_26
  · -- f 21
    refine lv_iload_n hx hb dX8_find_21 rfl (lv_at hl 0 rfl) ?_
    refine lv_goto (tgt := 26) hx hb dX8_find_22 (by decide) ?_
    exact rz_iE hC (by unfold fndT; first | rw [if_pos (by assumption)] | rw [if_neg (by assumption)]) dX8_find_26

set_option maxHeartbeats 4000000 in
set_option maxRecDepth 100000 in
theorem k_take (l : Launch) (E : EE) (ta tk : Nat) (K : Nat → Nat) (u : Nat) (y1 : Nat) (hy : y1 < 2 ^ 63) (hKs : ∀ j, K j < 2 ^ 63) (hrm : rmK K y1) (hu : u < 2 ^ 30) (sz : Nat) : Wr l yX8_take cX8_take 4 (some .int) rm_X8_take 0 0 E (tW E ta tk K u) sz [.ref ta, .long (lN y1)] (fun v1 w1 => v1 = some (.int (nI (slt K y1))) ∧ w1 = tW E ta tk (if K (slt K y1) = 0 then va_up K (slt K y1) y1 else K) (if K (slt K y1) = 0 then u + 1 else u)) := by
  refine mk_wr (by decide) (Nat.le_of_ble_eq_true rfl) ?_
  intro p e s m args below meth c hC hin hK A hA hP hD hS ls hl
  obtain ⟨hx, hb, hr, hts, hown, hml, hlk, hN⟩ := id hC
  have hl : lv_has ls 4 [(0, .ref ta), (1, .long (lN y1))] := hl
  obtain ⟨H, hH⟩ : ∃ z, z = s.heap := ⟨_, rfl⟩
  have hS : va_S A s.heap H [] := by rw [hH]; exact hS
  rw [← hH] at hP
  refine W_heap hH ?_
  obtain ⟨locs, hlo⟩ : ∃ z : List Loc, z = [] := ⟨_, rfl⟩
  rw [← hlo] at hS ⊢
  refine lv_aload_n hx hb dX8_take_0 rfl (lv_at hl 0 rfl) ?_
  refine lv_lload_n hx hb dX8_take_1 rfl (lv_at hl 1 rfl) ?_
  refine cV_r (rest := []) hC (k_slotFor l E ta tk (K) (u) y1 hy hKs hrm) kw_410 iy_X8_slotFor ⟨Nat.le_of_ble_eq_true rfl, Nat.le_of_ble_eq_true rfl⟩ ⟨rfl, rfl⟩ hK hP (va_recv hK hP (ci := 6) (q0 := 0) rfl rfl) rfl hl.1 rfl (Nat.le_of_ble_eq_true rfl) dX8_take_2 ⟨Nat.le_of_ble_eq_true rfl, Nat.le_of_ble_eq_true rfl⟩ ?_
  have f_1 := slt_lt K y1
  have f_2 := hKs (slt K y1)
  refine lv_istore_n (lv' := [(3, .int (nI (slt K y1))), (0, .ref ta), (1, .long (lN y1))]) hx hb dX8_take_5 rfl hl (by decide) rfl (fun ls hl => ?_)
  refine lv_iload_n hx hb dX8_take_6 rfl (lv_at hl 0 rfl) ?_
  refine n_if_lt (tgt := 38) hx hb (by omega) dX8_take_7 (by decide) ?_
  refine lv_aload_n hx hb dX8_take_10 rfl (lv_at hl 1 rfl) ?_
  refine va_get (D := E.1) (ci := 6) (v := .ref tk) (C := RX8) (T := TX8) (N := 2) hx hb hts iX8 hown hK hP 0 rfl rfl 0 (by decide) (hts _ kw_53) (fun _ h9 => h9) rfl dX8_take_11 ?_
  refine lv_iload_n hx hb dX8_take_14 rfl (lv_at hl 0 rfl) ?_
  refine n_lald (f := fun j => lN (K j)) hx hb hK hP 1 rfl (by omega) (by decide) dX8_take_15 ?_
  refine lv_lconst (v := lN 0) hx hb dX8_take_16 (by decide) ?_
  refine n_lcmp_ne (tgt := 38) hx hb (by omega) (by omega) dX8_take_17 dX8_take_18 (by decide) (fun c_3 => ?_) (fun c_3 => ?_)
  · -- t 38
    refine lv_iload_n hx hb dX8_take_38 rfl (lv_at hl 0 rfl) ?_
    exact rw_i hC rfl hP hD hS (⟨rfl, by first | rw [if_pos (by assumption), if_pos (by assumption)] | rw [if_neg (by assumption), if_neg (by assumption)]⟩) dX8_take_39 (Nat.le_of_ble_eq_true rfl) (Nat.le_of_ble_eq_true rfl)
  · -- f 21
    refine lv_aload_n hx hb dX8_take_21 rfl (lv_at hl 1 rfl) ?_
    refine va_get (D := E.1) (ci := 6) (v := .ref tk) (C := RX8) (T := TX8) (N := 2) hx hb hts iX8 hown hK hP 0 rfl rfl 0 (by decide) (hts _ kw_53) (fun _ h9 => h9) rfl dX8_take_22 ?_
    refine lv_iload_n hx hb dX8_take_25 rfl (lv_at hl 0 rfl) ?_
    refine lv_lload_n hx hb dX8_take_26 rfl (lv_at hl 2 rfl) ?_
    refine n_last hx hb hK hP hD hS 1 rfl (by omega) (by decide) dX8_take_27 (fun H locs hP hD hS => ?_)
    have hP : va_P E.1 vwCl (tW E ta tk (va_up K (slt K y1) y1) u) H := hP
    have hD : va_D A (tW E ta tk (va_up K (slt K y1) y1) u) := hD
    refine lv_aload_n hx hb dX8_take_28 rfl (lv_at hl 1 rfl) ?_
    refine lv_dup hx hb dX8_take_29 rfl ?_
    refine va_get (D := E.1) (ci := 6) (v := .int (nI u)) (C := RX8) (T := TX8) (N := 2) hx hb hts iX8 hown hK hP 0 rfl rfl 1 (by decide) (hts _ kw_54) (fun _ h9 => h9) rfl dX8_take_30 ?_
    refine lv_iconst (v := nI 1) hx hb dX8_take_33 (by decide) ?_
    refine n_iadd hx hb dX8_take_34 ?_
    refine va_put (D := E.1) (ci := 6) (v := .int (nI (u + 1))) (ty := .int) (C := RX8) (T := TX8) (N := 2) hx hb hts iX8 tyX8 tyX8_ok nmX8 hown hK hP hD hS 0 rfl rfl 1 (by decide) (hts _ kw_54) (fun _ h9 => h9) rfl (by decide +kernel) rfl rfl (Nat.le_of_ble_eq_true rfl) dX8_take_35 (fun H locs hP hD hS => ?_)
    have hP : va_P E.1 vwCl (tW E ta tk (va_up K (slt K y1) y1) (u + 1)) H := hP
    have hD : va_D A (tW E ta tk (va_up K (slt K y1) y1) (u + 1)) := hD
    refine lv_iload_n hx hb dX8_take_38 rfl (lv_at hl 0 rfl) ?_
    exact rw_i hC rfl hP hD hS (⟨rfl, by first | rw [if_pos (by assumption), if_pos (by assumption)] | rw [if_neg (by assumption), if_neg (by assumption)]⟩) dX8_take_39 (Nat.le_of_ble_eq_true rfl) (Nat.le_of_ble_eq_true rfl)

set_option maxHeartbeats 4000000 in
set_option maxRecDepth 100000 in
theorem k_fill (l : Launch) (E : EE) (ar nn : Nat) (K : Nat → Nat) (y1 : Nat) (hn : nn < 2 ^ 31) (sz : Nat) : Wr l yJ7_fill_d0a16 cJ7_fill_d0a16 5 none rm_J7_fill_d0a16 0 0 E (fW E ar nn K) sz [.ref ar, .long (lN y1)] (fun v1 w1 => v1 = none ∧ w1 = fW E ar nn (fun j => if j < nn then y1 else K j)) := by
  refine mk_wr (by decide) (Nat.le_of_ble_eq_true rfl) ?_
  intro p e s m args below meth c hC hin hK A hA hP hD hS ls hl
  obtain ⟨hx, hb, hr, hts, hown, hml, hlk, hN⟩ := id hC
  have hl : lv_has ls 5 [(0, .ref ar), (1, .long (lN y1))] := hl
  obtain ⟨H, hH⟩ : ∃ z, z = s.heap := ⟨_, rfl⟩
  have hS : va_S A s.heap H [] := by rw [hH]; exact hS
  rw [← hH] at hP
  refine W_heap hH ?_
  obtain ⟨locs, hlo⟩ : ∃ z : List Loc, z = [] := ⟨_, rfl⟩
  rw [← hlo] at hS ⊢
  refine lv_iconst (v := nI 0) hx hb dJ7_fill_d0a16_0 (by decide) ?_
  refine lv_istore_n (lv' := [(3, .int (nI 0)), (0, .ref ar), (1, .long (lN y1))]) hx hb dJ7_fill_d0a16_1 rfl hl (by decide) rfl (fun ls hl => ?_)
  refine lv_aload_n hx hb dJ7_fill_d0a16_2 rfl (lv_at hl 1 rfl) ?_
  refine va_alen hx hb hK hP 0 2 rfl rfl (v := nI nn) rfl dJ7_fill_d0a16_3 ?_
  refine lv_istore (lv' := [(4, .int (nI nn)), (3, .int (nI 0)), (0, .ref ar), (1, .long (lN y1))]) hx hb dJ7_fill_d0a16_4 hl (by decide) rfl (fun ls hl => ?_)
  have lp_1 : ∀ (n_lp_1 : Nat) (k : Nat) (K2 : Nat → Nat) (hk : k ≤ nn) (hK2 : ∀ j, K2 j = if j < k then y1 else K j), nn - k < n_lp_1 → ∀ (H : Heap) (locs : List Loc) (hP : va_P E.1 vwCl (fW E ar nn K2) H) (hD : va_D A (fW E ar nn K2)) (hS : va_S A s.heap H locs) (ls : Array Slot), lv_has ls 5 [(0, .ref ar), (1, .long (lN y1)), (3, .int (nI k)), (4, .int (nI nn))] → W p l e rm_J7_fill_d0a16 s m args below meth c H locs 0 0 (MQ below (wr_Q E A (fun v1 w1 => v1 = none ∧ w1 = fW E ar nn (fun j => if j < nn then y1 else K j))) args s 0 0 A) (F0 m 6 ls []) := by
    intro n_lp_1
    induction n_lp_1 with
    | zero => intro k K2 hk hK2; intro hm_lp_1; exact absurd hm_lp_1 (Nat.not_lt_zero _)
    | succ n_lp_1 ih_lp_1 =>
      intro k K2 hk hK2 hm_lp_1 H locs hP hD hS ls hl
      have hf9 : nn ≤ k → K2 = (fun j => if j < nn then y1 else K j) := fun h => by funext j; rw [hK2, show k = nn by omega]
      refine lv_iload_n hx hb dJ7_fill_d0a16_6 rfl (lv_at hl 2 rfl) ?_
      refine lv_iload hx hb dJ7_fill_d0a16_7 (lv_at hl 3 rfl) ?_
      refine n_icmp_ge (tgt := 22) hx hb (by omega) (by omega) dJ7_fill_d0a16_9 (by decide) (fun c_2 => ?_) (fun c_2 => ?_)
      · -- t 22
        exact rw_v hC hP hD hS (⟨rfl, by rw [hf9 (by omega)]⟩) dJ7_fill_d0a16_22 (Nat.le_of_ble_eq_true rfl) (Nat.le_of_ble_eq_true rfl)
      · -- f 12
        refine lv_aload_n hx hb dJ7_fill_d0a16_12 rfl (lv_at hl 0 rfl) ?_
        refine lv_iload_n hx hb dJ7_fill_d0a16_13 rfl (lv_at hl 2 rfl) ?_
        refine lv_lload_n hx hb dJ7_fill_d0a16_14 rfl (lv_at hl 1 rfl) ?_
        refine n_last hx hb hK hP hD hS 0 rfl (by omega) (by omega) dJ7_fill_d0a16_15 (fun H locs hP hD hS => ?_)
        have hP : va_P E.1 vwCl (fW E ar nn (va_up K2 k y1)) H := hP
        have hD : va_D A (fW E ar nn (va_up K2 k y1)) := hD
        refine lv_iinc (v := nI (k + 1)) (lv' := [(3, .int (nI (k + 1))), (0, .ref ar), (1, .long (lN y1)), (4, .int (nI nn))]) hx hb dJ7_fill_d0a16_16 hl (k := 2) rfl (ii_1 _) (by decide) rfl (fun ls hl => ?_)
        refine lv_goto (tgt := 6) hx hb dJ7_fill_d0a16_19 (by decide) ?_
        exact ih_lp_1 (k + 1) (va_up K2 k y1) (by omega) (fun j => by by_cases e : j = k; rw [e, vu_s, if_pos (by omega)]; rw [vu_n _ _ e, hK2]; simp only [show (j < k + 1) = (j < k) from propext (by omega)]) (by omega) H locs hP hD hS ls (lv_sub hl [1, 2, 0, 3] rfl)
  exact lp_1 _ 0 K (Nat.zero_le _) (fun j => by rw [if_neg (by omega)]) (Nat.lt_succ_self _) H locs hP hD hS ls (lv_sub hl [2, 3, 1, 0] rfl)

set_option maxHeartbeats 4000000 in
set_option maxRecDepth 100000 in
theorem k_makeRoom (l : Launch) (E : EE) (ta tk : Nat) (K : Nat → Nat) (u : Nat) (hu : u < 2 ^ 30) (sz : Nat) : Wr l yX8_makeRoom cX8_makeRoom 1 none rm_X8_makeRoom 0 0 E (tW E ta tk K u) sz [.ref ta] (fun v1 w1 => v1 = none ∧ w1 = tW E ta tk (if u ≤ 6144 then K else fun j => if j < 8192 then 0 else K j) (if u ≤ 6144 then u else 0)) := by
  refine mk_wr (by decide) (Nat.le_of_ble_eq_true rfl) ?_
  intro p e s m args below meth c hC hin hK A hA hP hD hS ls hl
  obtain ⟨hx, hb, hr, hts, hown, hml, hlk, hN⟩ := id hC
  have hl : lv_has ls 1 [(0, .ref ta)] := hl
  obtain ⟨H, hH⟩ : ∃ z, z = s.heap := ⟨_, rfl⟩
  have hS : va_S A s.heap H [] := by rw [hH]; exact hS
  rw [← hH] at hP
  refine W_heap hH ?_
  obtain ⟨locs, hlo⟩ : ∃ z : List Loc, z = [] := ⟨_, rfl⟩
  rw [← hlo] at hS ⊢
  refine lv_aload_n hx hb dX8_makeRoom_0 rfl (lv_at hl 0 rfl) ?_
  refine va_get (D := E.1) (ci := 6) (v := .int (nI u)) (C := RX8) (T := TX8) (N := 2) hx hb hts iX8 hown hK hP 0 rfl rfl 1 (by decide) (hts _ kw_54) (fun _ h9 => h9) rfl dX8_makeRoom_1 ?_
  refine lv_sipush (v := nI 6144) hx hb dX8_makeRoom_4 (by decide) ?_
  refine n_icmp_gt (tgt := 11) hx hb (by omega) (by omega) dX8_makeRoom_7 (by decide) (fun c_1 => ?_) (fun c_1 => ?_)
  · -- t 11
    refine lv_aload_n hx hb dX8_makeRoom_11 rfl (lv_at hl 0 rfl) ?_
    refine va_get (D := E.1) (ci := 6) (v := .ref tk) (C := RX8) (T := TX8) (N := 2) hx hb hts iX8 hown hK hP 0 rfl rfl 0 (by decide) (hts _ kw_53) (fun _ h9 => h9) rfl dX8_makeRoom_12 ?_
    refine lv_lconst (v := lN 0) hx hb dX8_makeRoom_15 (by decide) ?_
    refine cS_wr (X := [(ta, .inr (6, [.ref tk, .int (nI u)]))]) (Y := []) (rest := []) hC (k_fill l E tk 8192 K 0 (by decide) _) kw_398 sy_J7_fill_d0a16 ⟨Nat.le_of_ble_eq_true rfl, Nat.le_of_ble_eq_true rfl⟩ ⟨rfl, rfl⟩ hK hP hD hS hA rfl rfl hl.1 rfl (Nat.le_of_ble_eq_true rfl) dX8_makeRoom_16 ⟨Nat.le_of_ble_eq_true rfl, Nat.le_of_ble_eq_true rfl⟩ (fun v_ w_ H locs hpost hP hD hS => ?_)
    obtain ⟨rfl, rfl⟩ := hpost
    have hP : va_P E.1 vwCl (tW E ta tk (fun j => if j < 8192 then 0 else K j) u) H := hP
    have hD : va_D A (tW E ta tk (fun j => if j < 8192 then 0 else K j) u) := hD
    refine W.eq (g2 := F0 m 19 ls []) rfl ?_
    refine lv_aload_n hx hb dX8_makeRoom_19 rfl (lv_at hl 0 rfl) ?_
    refine lv_iconst (v := nI 0) hx hb dX8_makeRoom_20 (by decide) ?_
    refine va_put (D := E.1) (ci := 6) (v := .int (nI 0)) (ty := .int) (C := RX8) (T := TX8) (N := 2) hx hb hts iX8 tyX8 tyX8_ok nmX8 hown hK hP hD hS 0 rfl rfl 1 (by decide) (hts _ kw_54) (fun _ h9 => h9) rfl (by decide +kernel) rfl rfl (Nat.le_of_ble_eq_true rfl) dX8_makeRoom_21 (fun H locs hP hD hS => ?_)
    have hP : va_P E.1 vwCl (tW E ta tk (fun j => if j < 8192 then 0 else K j) 0) H := hP
    have hD : va_D A (tW E ta tk (fun j => if j < 8192 then 0 else K j) 0) := hD
    exact rw_v hC hP hD hS (⟨rfl, by first | rw [if_pos (by omega), if_pos (by omega)] | rw [if_neg (by omega), if_neg (by omega)]⟩) dX8_makeRoom_24 (Nat.le_of_ble_eq_true rfl) (Nat.le_of_ble_eq_true rfl)
  · -- f 10
    exact rw_v hC hP hD hS (⟨rfl, by first | rw [if_pos (by omega), if_pos (by omega)] | rw [if_neg (by omega), if_neg (by omega)]⟩) dX8_makeRoom_10 (Nat.le_of_ble_eq_true rfl) (Nat.le_of_ble_eq_true rfl)
