set_option maxHeartbeats 4000000 in
set_option maxRecDepth 100000 in
theorem k_beginItem (l : Launch) (E : EE) (to pe nu : Nat) (hp : pe < 4) (sz : Nat) : Wr l yX3_beginItem cX3_beginItem 1 none rm_X3_beginItem 0 0 E (ntW E to pe nu) sz [.ref to] (fun v1 w1 => v1 = none ∧ w1 = ntW E to (pe + 1) (nu ||| 1 <<< (4 * pe + pe))) := by
  refine mk_wr (by decide) (Nat.le_of_ble_eq_true rfl) ?_
  intro p e s m args below meth c hC hin hK A hA hP hD hS ls hl
  obtain ⟨hx, hb, hr, hts, hown, hml, hlk, hN⟩ := id hC
  have hl : lv_has ls 1 [(0, .ref to)] := hl
  obtain ⟨H, hH⟩ : ∃ z, z = s.heap := ⟨_, rfl⟩
  have hS : va_S A s.heap H [] := by rw [hH]; exact hS
  rw [← hH] at hP
  refine W_heap hH ?_
  obtain ⟨locs, hlo⟩ : ∃ z : List Loc, z = [] := ⟨_, rfl⟩
  rw [← hlo] at hS ⊢
  refine lv_aload_n hx hb dX3_beginItem_0 rfl (lv_at hl 0 rfl) ?_
  refine lv_dup hx hb dX3_beginItem_1 rfl ?_
  refine va_get (D := E.1) (ci := 2) (v := .int (nI nu)) (C := RX3) (T := TX3) (N := 2) hx hb hts iX3 hown hK hP 0 rfl rfl 1 (by decide) (hts _ kw_173) (fun _ h9 => h9) rfl dX3_beginItem_2 ?_
  refine lv_iconst (v := nI 1) hx hb dX3_beginItem_5 (by decide) ?_
  refine lv_aload_n hx hb dX3_beginItem_6 rfl (lv_at hl 0 rfl) ?_
  refine va_get (D := E.1) (ci := 2) (v := .int (nI pe)) (C := RX3) (T := TX3) (N := 2) hx hb hts iX3 hown hK hP 0 rfl rfl 0 (by decide) (hts _ kw_171) (fun _ h9 => h9) rfl dX3_beginItem_7 ?_
  refine lv_aload_n hx hb dX3_beginItem_10 rfl (lv_at hl 0 rfl) ?_
  refine va_get (D := E.1) (ci := 2) (v := .int (nI pe)) (C := RX3) (T := TX3) (N := 2) hx hb hts iX3 hown hK hP 0 rfl rfl 0 (by decide) (hts _ kw_171) (fun _ h9 => h9) rfl dX3_beginItem_11 ?_
  refine cN_p (rest := [.int (nI 1), .int (nI nu), .ref to]) hC (k_pairOf l pe pe ) hN.1 sy_X11_pairOf ⟨Nat.le_of_ble_eq_true rfl, Nat.le_of_ble_eq_true rfl⟩ ⟨rfl, rfl⟩ rfl hl.1 rfl (Nat.le_of_ble_eq_true rfl) dX3_beginItem_14 ⟨Nat.le_of_ble_eq_true rfl, Nat.le_of_ble_eq_true rfl⟩ ?_
  refine n_ishl hx hb (by omega) dX3_beginItem_17 ?_
  refine n_ior hx hb dX3_beginItem_18 ?_
  refine va_put (D := E.1) (ci := 2) (v := .int (nI (nu ||| (1 <<< (4 * pe + pe))))) (ty := .int) (C := RX3) (T := TX3) (N := 2) hx hb hts iX3 tyX3 tyX3_ok nmX3 hown hK hP hD hS 0 rfl rfl 1 (by decide) (hts _ kw_173) (fun _ h9 => h9) rfl (by decide +kernel) rfl rfl (Nat.le_of_ble_eq_true rfl) dX3_beginItem_19 (fun H locs hP hD hS => ?_)
  have hP : va_P E.1 vwCl (ntW E to pe (nu ||| (1 <<< (4 * pe + pe)))) H := hP
  have hD : va_D A (ntW E to pe (nu ||| (1 <<< (4 * pe + pe)))) := hD
  refine lv_aload_n hx hb dX3_beginItem_22 rfl (lv_at hl 0 rfl) ?_
  refine lv_dup hx hb dX3_beginItem_23 rfl ?_
  refine va_get (D := E.1) (ci := 2) (v := .int (nI pe)) (C := RX3) (T := TX3) (N := 2) hx hb hts iX3 hown hK hP 0 rfl rfl 0 (by decide) (hts _ kw_171) (fun _ h9 => h9) rfl dX3_beginItem_24 ?_
  refine lv_iconst (v := nI 1) hx hb dX3_beginItem_27 (by decide) ?_
  refine n_iadd hx hb dX3_beginItem_28 ?_
  refine va_put (D := E.1) (ci := 2) (v := .int (nI (pe + 1))) (ty := .int) (C := RX3) (T := TX3) (N := 2) hx hb hts iX3 tyX3 tyX3_ok nmX3 hown hK hP hD hS 0 rfl rfl 0 (by decide) (hts _ kw_171) (fun _ h9 => h9) rfl (by decide +kernel) rfl rfl (Nat.le_of_ble_eq_true rfl) dX3_beginItem_29 (fun H locs hP hD hS => ?_)
  have hP : va_P E.1 vwCl (ntW E to (pe + 1) (nu ||| (1 <<< (4 * pe + pe)))) H := hP
  have hD : va_D A (ntW E to (pe + 1) (nu ||| (1 <<< (4 * pe + pe)))) := hD
  exact rw_v hC hP hD hS (⟨rfl, rfl⟩) dX3_beginItem_32 (Nat.le_of_ble_eq_true rfl) (Nat.le_of_ble_eq_true rfl)

set_option maxHeartbeats 4000000 in
set_option maxRecDepth 100000 in
theorem k_takesNumber (l : Launch) (E : EE) (to pe nu : Nat) (hp : pe ≤ 4) (hp1 : 0 < pe) (hnu : nu < 65536) (c1 : Int32) (sz : Nat) : Wr l yX3_takesNumber cX3_takesNumber 3 (some .boolean) rm_X3_takesNumber 0 0 E (ntW E to pe nu) sz [.ref to, .int c1] (fun v1 w1 => v1 = some (.int (bI (dgB pe nu c1))) ∧ w1 = ntW E to pe (dgN pe nu c1)) := by
  refine mk_wr (by decide) (Nat.le_of_ble_eq_true rfl) ?_
  intro p e s m args below meth c hC hin hK A hA hP hD hS ls hl
  obtain ⟨hx, hb, hr, hts, hown, hml, hlk, hN⟩ := id hC
  have hl : lv_has ls 3 [(0, .ref to), (1, .int c1)] := hl
  obtain ⟨H, hH⟩ : ∃ z, z = s.heap := ⟨_, rfl⟩
  have hS : va_S A s.heap H [] := by rw [hH]; exact hS
  rw [← hH] at hP
  refine W_heap hH ?_
  obtain ⟨locs, hlo⟩ : ∃ z : List Loc, z = [] := ⟨_, rfl⟩
  rw [← hlo] at hS ⊢
  refine lv_iload_n hx hb dX3_takesNumber_0 rfl (lv_at hl 1 rfl) ?_
  refine cS_p (rest := []) hC (k_isDigit l c1) kw_203 sy_X3_isDigit ⟨Nat.le_of_ble_eq_true rfl, Nat.le_of_ble_eq_true rfl⟩ ⟨rfl, rfl⟩ rfl hl.1 rfl (Nat.le_of_ble_eq_true rfl) dX3_takesNumber_1 ⟨Nat.le_of_ble_eq_true rfl, Nat.le_of_ble_eq_true rfl⟩ ?_
  refine b_if_ne (tgt := 9) hx hb dX3_takesNumber_4 (by decide) (fun c_1 => ?_) (fun c_1 => ?_)
  · -- t 9
    have hdg := c_1
    obtain ⟨j1, hj1, rfl⟩ := isIn_dg hdg
    have hl : lv_has ls 3 [(0, .ref to), (1, .int (nI (48 + j1)))] := hl
    have hcl : (nI (48 + j1) - nI 48).toNatClampNeg = j1 := (by rw [pk_sub (by omega), show 48 + j1 - 48 = j1 by omega, nI_clamp (by omega)])
    refine lv_iconst (v := nI 1) hx hb dX3_takesNumber_9 (by decide) ?_
    refine lv_aload_n hx hb dX3_takesNumber_10 rfl (lv_at hl 0 rfl) ?_
    refine va_get (D := E.1) (ci := 2) (v := .int (nI pe)) (C := RX3) (T := TX3) (N := 2) hx hb hts iX3 hown hK hP 0 rfl rfl 0 (by decide) (hts _ kw_171) (fun _ h9 => h9) rfl dX3_takesNumber_11 ?_
    refine lv_iconst (v := nI 1) hx hb dX3_takesNumber_14 (by decide) ?_
    refine n_isub hx hb (by omega) dX3_takesNumber_15 ?_
    refine lv_iload_n hx hb dX3_takesNumber_16 rfl (lv_at hl 1 rfl) ?_
    refine lv_bipush (v := nI 48) hx hb dX3_takesNumber_17 (by decide) ?_
    refine n_isub hx hb (by omega) dX3_takesNumber_19 ?_
    refine cN_p (rest := [.int (nI 1)]) hC (k_pairOf l (pe - 1) ((48 + j1) - 48) ) hN.1 sy_X11_pairOf ⟨Nat.le_of_ble_eq_true rfl, Nat.le_of_ble_eq_true rfl⟩ ⟨rfl, rfl⟩ rfl hl.1 rfl (Nat.le_of_ble_eq_true rfl) dX3_takesNumber_20 ⟨Nat.le_of_ble_eq_true rfl, Nat.le_of_ble_eq_true rfl⟩ ?_
    have hsh : 4 * (pe - 1) + (48 + j1 - 48) < 16 := (by omega)
    refine n_ishl hx hb (by omega) dX3_takesNumber_23 ?_
    refine lv_istore_n (lv' := [(2, .int (nI (1 <<< (4 * (pe - 1) + ((48 + j1) - 48))))), (0, .ref to), (1, .int (nI (48 + j1)))]) hx hb dX3_takesNumber_24 rfl hl (by decide) rfl (fun ls hl => ?_)
    refine lv_aload_n hx hb dX3_takesNumber_25 rfl (lv_at hl 1 rfl) ?_
    refine va_get (D := E.1) (ci := 2) (v := .int (nI nu)) (C := RX3) (T := TX3) (N := 2) hx hb hts iX3 hown hK hP 0 rfl rfl 1 (by decide) (hts _ kw_173) (fun _ h9 => h9) rfl dX3_takesNumber_26 ?_
    refine lv_iload_n hx hb dX3_takesNumber_29 rfl (lv_at hl 0 rfl) ?_
    refine n_iand hx hb dX3_takesNumber_30 ?_
    have hle : nu &&& 1 <<< (4 * (pe - 1) + (48 + j1 - 48)) ≤ nu := Nat.and_le_left
    refine n_if_eq (tgt := 36) hx hb (by omega) dX3_takesNumber_31 (by decide) (fun c_2 => ?_) (fun c_2 => ?_)
    · -- t 36
      refine lv_aload_n hx hb dX3_takesNumber_36 rfl (lv_at hl 1 rfl) ?_
      refine lv_dup hx hb dX3_takesNumber_37 rfl ?_
      refine va_get (D := E.1) (ci := 2) (v := .int (nI nu)) (C := RX3) (T := TX3) (N := 2) hx hb hts iX3 hown hK hP 0 rfl rfl 1 (by decide) (hts _ kw_173) (fun _ h9 => h9) rfl dX3_takesNumber_38 ?_
      refine lv_iload_n hx hb dX3_takesNumber_41 rfl (lv_at hl 0 rfl) ?_
      refine n_ior hx hb dX3_takesNumber_42 ?_
      refine va_put (D := E.1) (ci := 2) (v := .int (nI (nu ||| (1 <<< (4 * (pe - 1) + ((48 + j1) - 48)))))) (ty := .int) (C := RX3) (T := TX3) (N := 2) hx hb hts iX3 tyX3 tyX3_ok nmX3 hown hK hP hD hS 0 rfl rfl 1 (by decide) (hts _ kw_173) (fun _ h9 => h9) rfl (by decide +kernel) rfl rfl (Nat.le_of_ble_eq_true rfl) dX3_takesNumber_43 (fun H locs hP hD hS => ?_)
      have hP : va_P E.1 vwCl (ntW E to pe (nu ||| (1 <<< (4 * (pe - 1) + ((48 + j1) - 48))))) H := hP
      have hD : va_D A (ntW E to pe (nu ||| (1 <<< (4 * (pe - 1) + ((48 + j1) - 48))))) := hD
      refine lv_iconst (v := nI 1) hx hb dX3_takesNumber_46 (by decide) ?_
      have hb1 : dgB pe nu (nI (48 + j1)) = true := (by unfold dgB; rw [hdg, hcl]; have h9 := and_tb.mp c_2; rw [show 48 + j1 - 48 = j1 by omega] at h9; rw [h9]; rfl)
      exact rw_bE hC (show nI 1 = bI true from rfl) hP hD hS (⟨by rw [hb1]; rfl, by rw [dgN, if_pos hb1, hcl, show 48 + j1 - 48 = j1 by omega]⟩) dX3_takesNumber_47 (Nat.le_of_ble_eq_true rfl) (Nat.le_of_ble_eq_true rfl)
    · -- f 34
      refine lv_iconst (v := nI 0) hx hb dX3_takesNumber_34 (by decide) ?_
      have hb0 : dgB pe nu (nI (48 + j1)) = false := (by unfold dgB; rw [hdg, hcl]; have h9 : nu.testBit (4 * (pe - 1) + j1) = true := Bool.not_eq_false _ |>.mp (fun h8 => c_2 (and_tb.mpr (by rw [show 48 + j1 - 48 = j1 by omega]; exact h8))); rw [h9]; rfl)
      exact rw_bE hC (show nI 0 = bI false from rfl) hP hD hS (⟨by rw [hb0]; rfl, by rw [dgN, if_neg (by rw [hb0]; decide)]⟩) dX3_takesNumber_35 (Nat.le_of_ble_eq_true rfl) (Nat.le_of_ble_eq_true rfl)
  · -- f 7
    refine lv_iconst (v := nI 0) hx hb dX3_takesNumber_7 (by decide) ?_
    exact rw_bE hC (show nI 0 = bI false from rfl) hP hD hS (⟨by rw [show dgB pe nu c1 = false from by unfold dgB; rw [c_1]; rfl]; rfl, by rw [dgN, if_neg (by unfold dgB; rw [c_1]; simp)]⟩) dX3_takesNumber_8 (Nat.le_of_ble_eq_true rfl) (Nat.le_of_ble_eq_true rfl)
