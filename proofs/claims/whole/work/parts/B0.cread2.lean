set_option maxHeartbeats 4000000 in
set_option maxRecDepth 100000 in
theorem k_isSheet (l : Launch) (E : EE) (ca ra : Nat → Nat) (ao : Nat) (C : Nat → Nat) (v : Int32) : Rd l yX11_isSheet cX11_isSheet 2 (some .boolean) rm_X11_isSheet E (oW ca ra ao C) [.ref (ca 0), .int v] (some (.int (bI (isIn v (nI 0) (nI 3))))) := by
  refine mk_rd (by decide) (Nat.le_of_ble_eq_true rfl) ?_
  intro p e s m args below meth c hC hK hP ls hl
  obtain ⟨hx, hb, hr, hts, hown, hml, hlk, hN⟩ := id hC
  have hl : lv_has ls 2 [(0, .ref (ca 0)), (1, .int v)] := hl
  refine lv_iload_n hx hb dX11_isSheet_0 rfl (lv_at hl 1 rfl) ?_
  refine lv_if_lt (tgt := 13) hx hb dX11_isSheet_1 (by decide) (fun c_1 => ?_) (fun c_1 => ?_)
  · -- t 13
    refine lv_iconst (v := nI 0) hx hb dX11_isSheet_13 (by decide) ?_
    exact rz_bE hC (by first | rw [isIn_z2 (b := 3) (by decide) (by assumption) (by assumption)]; rfl | rw [isIn_z1 (by assumption)]; rfl | rw [isIn_f3 (b := 3) (by decide) (by assumption)]; rfl) dX11_isSheet_14
  · -- f 4
    refine lv_iload_n hx hb dX11_isSheet_4 rfl (lv_at hl 1 rfl) ?_
    refine lv_iconst (v := nI 4) hx hb dX11_isSheet_5 (by decide) ?_
    refine lv_icmp_ge (tgt := 13) hx hb dX11_isSheet_6 (by decide) (fun c_2 => ?_) (fun c_2 => ?_)
    · -- t 13
      refine lv_iconst (v := nI 0) hx hb dX11_isSheet_13 (by decide) ?_
      exact rz_bE hC (by first | rw [isIn_z2 (b := 3) (by decide) (by assumption) (by assumption)]; rfl | rw [isIn_z1 (by assumption)]; rfl | rw [isIn_f3 (b := 3) (by decide) (by assumption)]; rfl) dX11_isSheet_14
    · -- f 9
      refine lv_iconst (v := nI 1) hx hb dX11_isSheet_9 (by decide) ?_
      refine lv_goto (tgt := 14) hx hb dX11_isSheet_10 (by decide) ?_
      exact rz_bE hC (by first | rw [isIn_z2 (b := 3) (by decide) (by assumption) (by assumption)]; rfl | rw [isIn_z1 (by assumption)]; rfl | rw [isIn_f3 (b := 3) (by decide) (by assumption)]; rfl) dX11_isSheet_14

set_option maxHeartbeats 4000000 in
set_option maxRecDepth 100000 in
theorem k_isLane (l : Launch) (E : EE) (ca ra : Nat → Nat) (ao : Nat) (C : Nat → Nat) (v : Int32) : Rd l yX11_isLane cX11_isLane 2 (some .boolean) rm_X11_isLane E (oW ca ra ao C) [.ref (ca 0), .int v] (some (.int (bI (isIn v (nI 0) (nI 2))))) := by
  refine mk_rd (by decide) (Nat.le_of_ble_eq_true rfl) ?_
  intro p e s m args below meth c hC hK hP ls hl
  obtain ⟨hx, hb, hr, hts, hown, hml, hlk, hN⟩ := id hC
  have hl : lv_has ls 2 [(0, .ref (ca 0)), (1, .int v)] := hl
  refine lv_iload_n hx hb dX11_isLane_0 rfl (lv_at hl 1 rfl) ?_
  refine lv_if_lt (tgt := 13) hx hb dX11_isLane_1 (by decide) (fun c_1 => ?_) (fun c_1 => ?_)
  · -- t 13
    refine lv_iconst (v := nI 0) hx hb dX11_isLane_13 (by decide) ?_
    exact rz_bE hC (by first | rw [isIn_z2 (b := 2) (by decide) (by assumption) (by assumption)]; rfl | rw [isIn_z1 (by assumption)]; rfl | rw [isIn_f3 (b := 2) (by decide) (by assumption)]; rfl) dX11_isLane_14
  · -- f 4
    refine lv_iload_n hx hb dX11_isLane_4 rfl (lv_at hl 1 rfl) ?_
    refine lv_iconst (v := nI 3) hx hb dX11_isLane_5 (by decide) ?_
    refine lv_icmp_ge (tgt := 13) hx hb dX11_isLane_6 (by decide) (fun c_2 => ?_) (fun c_2 => ?_)
    · -- t 13
      refine lv_iconst (v := nI 0) hx hb dX11_isLane_13 (by decide) ?_
      exact rz_bE hC (by first | rw [isIn_z2 (b := 2) (by decide) (by assumption) (by assumption)]; rfl | rw [isIn_z1 (by assumption)]; rfl | rw [isIn_f3 (b := 2) (by decide) (by assumption)]; rfl) dX11_isLane_14
    · -- f 9
      refine lv_iconst (v := nI 1) hx hb dX11_isLane_9 (by decide) ?_
      refine lv_goto (tgt := 14) hx hb dX11_isLane_10 (by decide) ?_
      exact rz_bE hC (by first | rw [isIn_z2 (b := 2) (by decide) (by assumption) (by assumption)]; rfl | rw [isIn_z1 (by assumption)]; rfl | rw [isIn_f3 (b := 2) (by decide) (by assumption)]; rfl) dX11_isLane_14

set_option maxHeartbeats 4000000 in
set_option maxRecDepth 100000 in
theorem k_isRule (l : Launch) (E : EE) (ca ra : Nat → Nat) (ao : Nat) (C : Nat → Nat) (v : Int32) : Rd l yX11_isRule cX11_isRule 2 (some .boolean) rm_X11_isRule E (oW ca ra ao C) [.ref (ca 0), .int v] (some (.int (bI (isIn v (nI 0) (nI 3))))) := by
  refine mk_rd (by decide) (Nat.le_of_ble_eq_true rfl) ?_
  intro p e s m args below meth c hC hK hP ls hl
  obtain ⟨hx, hb, hr, hts, hown, hml, hlk, hN⟩ := id hC
  have hl : lv_has ls 2 [(0, .ref (ca 0)), (1, .int v)] := hl
  refine lv_iload_n hx hb dX11_isRule_0 rfl (lv_at hl 1 rfl) ?_
  refine lv_if_lt (tgt := 13) hx hb dX11_isRule_1 (by decide) (fun c_1 => ?_) (fun c_1 => ?_)
  · -- t 13
    refine lv_iconst (v := nI 0) hx hb dX11_isRule_13 (by decide) ?_
    exact rz_bE hC (by first | rw [isIn_z2 (b := 3) (by decide) (by assumption) (by assumption)]; rfl | rw [isIn_z1 (by assumption)]; rfl | rw [isIn_f3 (b := 3) (by decide) (by assumption)]; rfl) dX11_isRule_14
  · -- f 4
    refine lv_iload_n hx hb dX11_isRule_4 rfl (lv_at hl 1 rfl) ?_
    refine lv_iconst (v := nI 4) hx hb dX11_isRule_5 (by decide) ?_
    refine lv_icmp_ge (tgt := 13) hx hb dX11_isRule_6 (by decide) (fun c_2 => ?_) (fun c_2 => ?_)
    · -- t 13
      refine lv_iconst (v := nI 0) hx hb dX11_isRule_13 (by decide) ?_
      exact rz_bE hC (by first | rw [isIn_z2 (b := 3) (by decide) (by assumption) (by assumption)]; rfl | rw [isIn_z1 (by assumption)]; rfl | rw [isIn_f3 (b := 3) (by decide) (by assumption)]; rfl) dX11_isRule_14
    · -- f 9
      refine lv_iconst (v := nI 1) hx hb dX11_isRule_9 (by decide) ?_
      refine lv_goto (tgt := 14) hx hb dX11_isRule_10 (by decide) ?_
      exact rz_bE hC (by first | rw [isIn_z2 (b := 3) (by decide) (by assumption) (by assumption)]; rfl | rw [isIn_z1 (by assumption)]; rfl | rw [isIn_f3 (b := 3) (by decide) (by assumption)]; rfl) dX11_isRule_14

set_option maxHeartbeats 4000000 in
set_option maxRecDepth 100000 in
theorem k_isEither (l : Launch) (E : EE) (ca ra : Nat → Nat) (ao : Nat) (C : Nat → Nat) (v : Int32) : Rd l yX11_isEither cX11_isEither 2 (some .boolean) rm_X11_isEither E (oW ca ra ao C) [.ref (ca 0), .int v] (some (.int (bI (isIn v (nI 0) (nI 1))))) := by
  refine mk_rd (by decide) (Nat.le_of_ble_eq_true rfl) ?_
  intro p e s m args below meth c hC hK hP ls hl
  obtain ⟨hx, hb, hr, hts, hown, hml, hlk, hN⟩ := id hC
  have hl : lv_has ls 2 [(0, .ref (ca 0)), (1, .int v)] := hl
  refine lv_iload_n hx hb dX11_isEither_0 rfl (lv_at hl 1 rfl) ?_
  refine lv_if_eq (tgt := 9) hx hb dX11_isEither_1 (by decide) (fun c_1 => ?_) (fun c_1 => ?_)
  · -- t 9
    refine lv_iconst (v := nI 1) hx hb dX11_isEither_9 (by decide) ?_
    refine lv_goto (tgt := 14) hx hb dX11_isEither_10 (by decide) ?_
    exact rz_bE hC (by first | rw [ei_0 (by assumption)]; rfl | rw [ei_1 (by assumption)]; rfl | rw [ei_n (by assumption) (by assumption)]; rfl) dX11_isEither_14
  · -- f 4
    refine lv_iload_n hx hb dX11_isEither_4 rfl (lv_at hl 1 rfl) ?_
    refine lv_iconst (v := nI 1) hx hb dX11_isEither_5 (by decide) ?_
    refine lv_icmp_ne (tgt := 13) hx hb dX11_isEither_6 (by decide) (fun c_2 => ?_) (fun c_2 => ?_)
    · -- t 13
      refine lv_iconst (v := nI 0) hx hb dX11_isEither_13 (by decide) ?_
      exact rz_bE hC (by first | rw [ei_0 (by assumption)]; rfl | rw [ei_1 (by assumption)]; rfl | rw [ei_n (by assumption) (by assumption)]; rfl) dX11_isEither_14
    · -- f 9
      refine lv_iconst (v := nI 1) hx hb dX11_isEither_9 (by decide) ?_
      refine lv_goto (tgt := 14) hx hb dX11_isEither_10 (by decide) ?_
      exact rz_bE hC (by first | rw [ei_0 (by assumption)]; rfl | rw [ei_1 (by assumption)]; rfl | rw [ei_n (by assumption) (by assumption)]; rfl) dX11_isEither_14

set_option maxHeartbeats 4000000 in
set_option maxRecDepth 100000 in
theorem k_isPlace (l : Launch) (E : EE) (ca ra : Nat → Nat) (ao : Nat) (C : Nat → Nat) (v : Int32) : Rd l yX11_isPlaceOfNumber cX11_isPlaceOfNumber 2 (some .boolean) rm_X11_isPlaceOfNumber E (oW ca ra ao C) [.ref (ca 0), .int v] (some (.int (bI (isIn v (-1) (nI 11))))) := by
  refine mk_rd (by decide) (Nat.le_of_ble_eq_true rfl) ?_
  intro p e s m args below meth c hC hK hP ls hl
  obtain ⟨hx, hb, hr, hts, hown, hml, hlk, hN⟩ := id hC
  have hl : lv_has ls 2 [(0, .ref (ca 0)), (1, .int v)] := hl
  refine lv_iload_n hx hb dX11_isPlaceOfNumber_0 rfl (lv_at hl 1 rfl) ?_
  refine lv_iconst (v := -1) hx hb dX11_isPlaceOfNumber_1 (by decide) ?_
  refine lv_icmp_lt (tgt := 15) hx hb dX11_isPlaceOfNumber_2 (by decide) (fun c_1 => ?_) (fun c_1 => ?_)
  · -- t 15
    refine lv_iconst (v := nI 0) hx hb dX11_isPlaceOfNumber_15 (by decide) ?_
    exact rz_bE hC (by first | rw [isIn_t2 (b := 11) (by decide) (by assumption) (by assumption)]; rfl | rw [isIn_f1 (by assumption)]; rfl | rw [isIn_f3 (b := 11) (by decide) (by assumption)]; rfl) dX11_isPlaceOfNumber_16
  · -- f 5
    refine lv_iload_n hx hb dX11_isPlaceOfNumber_5 rfl (lv_at hl 1 rfl) ?_
    refine lv_bipush (v := nI 12) hx hb dX11_isPlaceOfNumber_6 (by decide) ?_
    refine lv_icmp_ge (tgt := 15) hx hb dX11_isPlaceOfNumber_8 (by decide) (fun c_2 => ?_) (fun c_2 => ?_)
    · -- t 15
      refine lv_iconst (v := nI 0) hx hb dX11_isPlaceOfNumber_15 (by decide) ?_
      exact rz_bE hC (by first | rw [isIn_t2 (b := 11) (by decide) (by assumption) (by assumption)]; rfl | rw [isIn_f1 (by assumption)]; rfl | rw [isIn_f3 (b := 11) (by decide) (by assumption)]; rfl) dX11_isPlaceOfNumber_16
    · -- f 11
      refine lv_iconst (v := nI 1) hx hb dX11_isPlaceOfNumber_11 (by decide) ?_
      refine lv_goto (tgt := 16) hx hb dX11_isPlaceOfNumber_12 (by decide) ?_
      exact rz_bE hC (by first | rw [isIn_t2 (b := 11) (by decide) (by assumption) (by assumption)]; rfl | rw [isIn_f1 (by assumption)]; rfl | rw [isIn_f3 (b := 11) (by decide) (by assumption)]; rfl) dX11_isPlaceOfNumber_16

set_option maxHeartbeats 4000000 in
set_option maxRecDepth 100000 in
theorem k_isPerson (l : Launch) (E : EE) (ca ra : Nat → Nat) (ao : Nat) (C : Nat → Nat) (nn kk : Nat) (net : Nat → Nat) (Z : Nat → Nat → Nat) (hc : CS nn kk net Z C) (v : Int32) : Rd l yX11_isPerson cX11_isPerson 2 (some .boolean) rm_X11_isPerson E (oW ca ra ao C) [.ref (ca 0), .int v] (some (.int (bI (isP v nn)))) := by
  refine mk_rd (by decide) (Nat.le_of_ble_eq_true rfl) ?_
  intro p e s m args below meth c hC hK hP ls hl
  obtain ⟨hx, hb, hr, hts, hown, hml, hlk, hN⟩ := id hC
  have hl : lv_has ls 2 [(0, .ref (ca 0)), (1, .int v)] := hl
  have hn4 := hc.n4; have hk12 := hc.k12; have hx3 := hc.st.lt; have hx4 := hc.nw.lt; have hp3 := hc.p3; have hp4 := hc.p4; have hcc := hc.cnt
  refine lv_iload_n hx hb dX11_isPerson_0 rfl (lv_at hl 1 rfl) ?_
  refine lv_if_lt (tgt := 19) hx hb dX11_isPerson_1 (by decide) (fun c_1 => ?_) (fun c_1 => ?_)
  · -- t 19
    refine lv_iconst (v := nI 0) hx hb dX11_isPerson_19 (by decide) ?_
    exact rz_bE hC (by rw [← hp4]; first | rw [isP_t (by assumption) (by assumption)]; rfl | rw [isP_f1 (by assumption)]; rfl | rw [isP_f2 (by assumption)]; rfl) dX11_isPerson_20
  · -- f 4
    refine lv_iload_n hx hb dX11_isPerson_4 rfl (lv_at hl 1 rfl) ?_
    refine lv_aload_n hx hb dX11_isPerson_5 rfl (lv_at hl 0 rfl) ?_
    refine va_get (D := E.1) (ci := 9) (v := .long (lN (C 4))) (C := RX11) (T := TX11) (N := 13) hx hb hts iX11 hown hK hP 0 rfl rfl 4 (by decide) (hts _ kw_108) (fun _ h9 => h9) rfl dX11_isPerson_6 ?_
    refine cS_p (rest := [.int v]) hC (k_persons l (C 4) (by omega)) kw_234 sy_X5_persons ⟨Nat.le_of_ble_eq_true rfl, Nat.le_of_ble_eq_true rfl⟩ ⟨rfl, rfl⟩ rfl hl.1 rfl (Nat.le_of_ble_eq_true rfl) dX11_isPerson_9 ⟨Nat.le_of_ble_eq_true rfl, Nat.le_of_ble_eq_true rfl⟩ ?_
    refine lv_icmp_ge (tgt := 19) hx hb dX11_isPerson_12 (by decide) (fun c_2 => ?_) (fun c_2 => ?_)
    · -- t 19
      refine lv_iconst (v := nI 0) hx hb dX11_isPerson_19 (by decide) ?_
      exact rz_bE hC (by rw [← hp4]; first | rw [isP_t (by assumption) (by assumption)]; rfl | rw [isP_f1 (by assumption)]; rfl | rw [isP_f2 (by assumption)]; rfl) dX11_isPerson_20
    · -- f 15
      refine lv_iconst (v := nI 1) hx hb dX11_isPerson_15 (by decide) ?_
      refine lv_goto (tgt := 20) hx hb dX11_isPerson_16 (by decide) ?_
      exact rz_bE hC (by rw [← hp4]; first | rw [isP_t (by assumption) (by assumption)]; rfl | rw [isP_f1 (by assumption)]; rfl | rw [isP_f2 (by assumption)]; rfl) dX11_isPerson_20

set_option maxHeartbeats 4000000 in
set_option maxRecDepth 100000 in
theorem k_noPersons (l : Launch) (E : EE) (ca ra : Nat → Nat) (ao : Nat) (C : Nat → Nat) (nn kk : Nat) (net : Nat → Nat) (Z : Nat → Nat → Nat) (hc : CS nn kk net Z C) : Rd l yX11_noPersons cX11_noPersons 1 (some .boolean) rm_X11_noPersons E (oW ca ra ao C) [.ref (ca 0)] (some (.int (bI (decide (nn = 0))))) := by
  refine mk_rd (by decide) (Nat.le_of_ble_eq_true rfl) ?_
  intro p e s m args below meth c hC hK hP ls hl
  obtain ⟨hx, hb, hr, hts, hown, hml, hlk, hN⟩ := id hC
  have hl : lv_has ls 1 [(0, .ref (ca 0))] := hl
  have hn4 := hc.n4; have hk12 := hc.k12; have hx3 := hc.st.lt; have hx4 := hc.nw.lt; have hp3 := hc.p3; have hp4 := hc.p4; have hcc := hc.cnt
  refine lv_aload_n hx hb dX11_noPersons_0 rfl (lv_at hl 0 rfl) ?_
  refine va_get (D := E.1) (ci := 9) (v := .long (lN (C 4))) (C := RX11) (T := TX11) (N := 13) hx hb hts iX11 hown hK hP 0 rfl rfl 4 (by decide) (hts _ kw_108) (fun _ h9 => h9) rfl dX11_noPersons_1 ?_
  refine cS_p (rest := []) hC (k_persons l (C 4) (by omega)) kw_234 sy_X5_persons ⟨Nat.le_of_ble_eq_true rfl, Nat.le_of_ble_eq_true rfl⟩ ⟨rfl, rfl⟩ rfl hl.1 rfl (Nat.le_of_ble_eq_true rfl) dX11_noPersons_4 ⟨Nat.le_of_ble_eq_true rfl, Nat.le_of_ble_eq_true rfl⟩ ?_
  refine n_if_ne (tgt := 14) hx hb (by omega) dX11_noPersons_7 (by decide) (fun c_1 => ?_) (fun c_1 => ?_)
  · -- t 14
    refine lv_iconst (v := nI 0) hx hb dX11_noPersons_14 (by decide) ?_
    exact rz_bE hC (by rw [← hp4]; first | rw [decide_eq_true (by assumption)]; rfl | rw [decide_eq_false (by assumption)]; rfl) dX11_noPersons_15
  · -- f 10
    refine lv_iconst (v := nI 1) hx hb dX11_noPersons_10 (by decide) ?_
    refine lv_goto (tgt := 15) hx hb dX11_noPersons_11 (by decide) ?_
    exact rz_bE hC (by rw [← hp4]; first | rw [decide_eq_true (by assumption)]; rfl | rw [decide_eq_false (by assumption)]; rfl) dX11_noPersons_15

set_option maxHeartbeats 4000000 in
set_option maxRecDepth 100000 in
theorem k_ofPerson (l : Launch) (E : EE) (ca ra : Nat → Nat) (ao : Nat) (C : Nat → Nat) (nn kk : Nat) (net : Nat → Nat) (Z : Nat → Nat → Nat) (hc : CS nn kk net Z C) (v what : Int32) : Rd l yX11_ofPerson cX11_ofPerson 3 (some .int) rm_X11_ofPerson E (oW ca ra ao C) [.ref (ca 0), .int v, .int what] (some (.int (s_ofPerson nn kk net (Z 2) (Z 3) v what))) := by
  refine mk_rd (by decide) (Nat.le_of_ble_eq_true rfl) ?_
  intro p e s m args below meth c hC hK hP ls hl
  obtain ⟨hx, hb, hr, hts, hown, hml, hlk, hN⟩ := id hC
  have hl : lv_has ls 3 [(0, .ref (ca 0)), (1, .int v), (2, .int what)] := hl
  have hn4 := hc.n4; have hk12 := hc.k12; have hx3 := hc.st.lt; have hx4 := hc.nw.lt; have hp3 := hc.p3; have hp4 := hc.p4; have hcc := hc.cnt
  refine lv_aload_n hx hb dX11_ofPerson_0 rfl (lv_at hl 0 rfl) ?_
  refine lv_iload_n hx hb dX11_ofPerson_1 rfl (lv_at hl 1 rfl) ?_
  refine cV_r (rest := []) hC (k_isPerson l E ca ra ao C nn kk net Z hc v) kw_230 iy_X11_isPerson ⟨Nat.le_of_ble_eq_true rfl, Nat.le_of_ble_eq_true rfl⟩ ⟨rfl, rfl⟩ hK hP (va_recv hK hP (ci := 9) (q0 := 0) rfl rfl) rfl hl.1 rfl (Nat.le_of_ble_eq_true rfl) dX11_ofPerson_2 ⟨Nat.le_of_ble_eq_true rfl, Nat.le_of_ble_eq_true rfl⟩ ?_
  refine b_if_ne (tgt := 10) hx hb dX11_ofPerson_5 (by decide) (fun c_1 => ?_) (fun c_1 => ?_)
  · -- t 10
    obtain ⟨j, hj, rfl⟩ := isP_nat (by omega) c_1
    have hl : lv_has ls 3 [(0, .ref (ca 0)), (1, .int (nI j)), (2, .int what)] := hl
    refine lv_iload_n hx hb dX11_ofPerson_10 rfl (lv_at hl 2 rfl) ?_
    rcases sw6 what with rfl | rfl | rfl | rfl | rfl | rfl | sw_2
    · -- switch 0
      have hl : lv_has ls 3 [(0, .ref (ca 0)), (1, .int (nI j)), (2, .int (nI 0))] := hl
      refine lv_tableIn (off := 37) (tgt := 48) hx hb dX11_ofPerson_11 (by decide) (by decide) (by decide) (by decide) ?_
      refine lv_aload_n hx hb dX11_ofPerson_48 rfl (lv_at hl 0 rfl) ?_
      refine va_get (D := E.1) (ci := 9) (v := .long (lN (C 4))) (C := RX11) (T := TX11) (N := 13) hx hb hts iX11 hown hK hP 0 rfl rfl 4 (by decide) (hts _ kw_108) (fun _ h9 => h9) rfl dX11_ofPerson_49 ?_
      refine lv_iload_n hx hb dX11_ofPerson_52 rfl (lv_at hl 1 rfl) ?_
      refine cS_p (rest := []) hC (k_secretsOf l (C 4) j (by omega) (by omega)) kw_237 sy_X5_secretsOf ⟨Nat.le_of_ble_eq_true rfl, Nat.le_of_ble_eq_true rfl⟩ ⟨rfl, rfl⟩ rfl hl.1 rfl (Nat.le_of_ble_eq_true rfl) dX11_ofPerson_53 ⟨Nat.le_of_ble_eq_true rfl, Nat.le_of_ble_eq_true rfl⟩ ?_
      have f_3 := of4_lt (C 4) j
      exact rz_iE hC (by rw [s_ofPerson, if_neg (by rw [nat_isP (by omega) hj]; decide), if_pos rfl, nI_clamp (by omega), hc.nw.sec j (by omega)]) dX11_ofPerson_56
    · -- switch 1
      have hl : lv_has ls 3 [(0, .ref (ca 0)), (1, .int (nI j)), (2, .int (nI 1))] := hl
      refine lv_tableIn (off := 46) (tgt := 57) hx hb dX11_ofPerson_11 (by decide) (by decide) (by decide) (by decide) ?_
      refine lv_aload_n hx hb dX11_ofPerson_57 rfl (lv_at hl 0 rfl) ?_
      refine va_get (D := E.1) (ci := 9) (v := .long (lN (C 4))) (C := RX11) (T := TX11) (N := 13) hx hb hts iX11 hown hK hP 0 rfl rfl 4 (by decide) (hts _ kw_108) (fun _ h9 => h9) rfl dX11_ofPerson_58 ?_
      refine lv_iload_n hx hb dX11_ofPerson_61 rfl (lv_at hl 1 rfl) ?_
      refine cS_p (rest := []) hC (k_numbersOf l (C 4) j (by omega) (by omega)) kw_240 sy_X5_numbersOf ⟨Nat.le_of_ble_eq_true rfl, Nat.le_of_ble_eq_true rfl⟩ ⟨rfl, rfl⟩ rfl hl.1 rfl (Nat.le_of_ble_eq_true rfl) dX11_ofPerson_62 ⟨Nat.le_of_ble_eq_true rfl, Nat.le_of_ble_eq_true rfl⟩ ?_
      have f_4 := nO_lt (C 4) j
      exact rz_iE hC (by rw [s_ofPerson, if_neg (by rw [nat_isP (by omega) hj]; decide), if_neg (by decide), if_pos rfl, nI_clamp (by omega), hc.numk hj]) dX11_ofPerson_65
    · -- switch 2
      have hl : lv_has ls 3 [(0, .ref (ca 0)), (1, .int (nI j)), (2, .int (nI 2))] := hl
      refine lv_tableIn (off := 55) (tgt := 66) hx hb dX11_ofPerson_11 (by decide) (by decide) (by decide) (by decide) ?_
      refine lv_aload_n hx hb dX11_ofPerson_66 rfl (lv_at hl 0 rfl) ?_
      refine va_get (D := E.1) (ci := 9) (v := .long (lN (C 3))) (C := RX11) (T := TX11) (N := 13) hx hb hts iX11 hown hK hP 0 rfl rfl 3 (by decide) (hts _ kw_107) (fun _ h9 => h9) rfl dX11_ofPerson_67 ?_
      refine lv_iload_n hx hb dX11_ofPerson_70 rfl (lv_at hl 1 rfl) ?_
      refine cS_p (rest := []) hC (k_numbersOf l (C 3) j (by omega) (by omega)) kw_240 sy_X5_numbersOf ⟨Nat.le_of_ble_eq_true rfl, Nat.le_of_ble_eq_true rfl⟩ ⟨rfl, rfl⟩ rfl hl.1 rfl (Nat.le_of_ble_eq_true rfl) dX11_ofPerson_71 ⟨Nat.le_of_ble_eq_true rfl, Nat.le_of_ble_eq_true rfl⟩ ?_
      have f_5 := nO_lt (C 3) j
      exact rz_iE hC (by rw [s_ofPerson, if_neg (by rw [nat_isP (by omega) hj]; decide), if_neg (by decide), if_neg (by decide), if_pos rfl, nI_clamp (by omega), hc.num0 hj]) dX11_ofPerson_74
    · -- switch 3
      have hl : lv_has ls 3 [(0, .ref (ca 0)), (1, .int (nI j)), (2, .int (nI 3))] := hl
      refine lv_tableIn (off := 64) (tgt := 75) hx hb dX11_ofPerson_11 (by decide) (by decide) (by decide) (by decide) ?_
      refine lv_aload_n hx hb dX11_ofPerson_75 rfl (lv_at hl 0 rfl) ?_
      refine va_get (D := E.1) (ci := 9) (v := .long (lN (C 4))) (C := RX11) (T := TX11) (N := 13) hx hb hts iX11 hown hK hP 0 rfl rfl 4 (by decide) (hts _ kw_108) (fun _ h9 => h9) rfl dX11_ofPerson_76 ?_
      refine lv_iload_n hx hb dX11_ofPerson_79 rfl (lv_at hl 1 rfl) ?_
      refine cS_p (rest := []) hC (k_isExpert l (C 4) j (by omega) (by omega) (by omega)) kw_243 sy_X5_isExpert ⟨Nat.le_of_ble_eq_true rfl, Nat.le_of_ble_eq_true rfl⟩ ⟨rfl, rfl⟩ rfl hl.1 rfl (Nat.le_of_ble_eq_true rfl) dX11_ofPerson_80 ⟨Nat.le_of_ble_eq_true rfl, Nat.le_of_ble_eq_true rfl⟩ ?_
      refine cS_p (rest := []) hC (k_truth l (decide (of4 (C 4) j = 1 <<< pN (C 4) - 1))) kw_251 sy_X11_truth ⟨Nat.le_of_ble_eq_true rfl, Nat.le_of_ble_eq_true rfl⟩ ⟨rfl, rfl⟩ rfl hl.1 rfl (Nat.le_of_ble_eq_true rfl) dX11_ofPerson_83 ⟨Nat.le_of_ble_eq_true rfl, Nat.le_of_ble_eq_true rfl⟩ ?_
      exact rz_iE hC (by rw [s_ofPerson, if_neg (by rw [nat_isP (by omega) hj]; decide), if_neg (by decide), if_neg (by decide), if_neg (by decide), if_pos rfl, nI_clamp (by omega), hc.nw.sec j (by omega), hp4]; exact congrArg bI (by rw [Bool.eq_iff_iff]; simp)) dX11_ofPerson_86
    · -- switch 4
      have hl : lv_has ls 3 [(0, .ref (ca 0)), (1, .int (nI j)), (2, .int (nI 4))] := hl
      refine lv_tableIn (off := 76) (tgt := 87) hx hb dX11_ofPerson_11 (by decide) (by decide) (by decide) (by decide) ?_
      refine lv_aload_n hx hb dX11_ofPerson_87 rfl (lv_at hl 0 rfl) ?_
      refine va_get (D := E.1) (ci := 9) (v := .long (lN (C 4))) (C := RX11) (T := TX11) (N := 13) hx hb hts iX11 hown hK hP 0 rfl rfl 4 (by decide) (hts _ kw_108) (fun _ h9 => h9) rfl dX11_ofPerson_88 ?_
      refine lv_iconst (v := nI 2) hx hb dX11_ofPerson_91 (by decide) ?_
      refine lv_iload_n hx hb dX11_ofPerson_92 rfl (lv_at hl 1 rfl) ?_
      refine cS_p (rest := []) hC (k_hasToken l (C 4) 2 j (by omega) (by omega) (by omega)) kw_254 sy_X5_hasToken ⟨Nat.le_of_ble_eq_true rfl, Nat.le_of_ble_eq_true rfl⟩ ⟨rfl, rfl⟩ rfl hl.1 rfl (Nat.le_of_ble_eq_true rfl) dX11_ofPerson_93 ⟨Nat.le_of_ble_eq_true rfl, Nat.le_of_ble_eq_true rfl⟩ ?_
      refine cS_p (rest := []) hC (k_truth l (hT (C 4) 2 j)) kw_251 sy_X11_truth ⟨Nat.le_of_ble_eq_true rfl, Nat.le_of_ble_eq_true rfl⟩ ⟨rfl, rfl⟩ rfl hl.1 rfl (Nat.le_of_ble_eq_true rfl) dX11_ofPerson_96 ⟨Nat.le_of_ble_eq_true rfl, Nat.le_of_ble_eq_true rfl⟩ ?_
      exact rz_iE hC (by rw [s_ofPerson, if_neg (by rw [nat_isP (by omega) hj]; decide), if_neg (by decide), if_neg (by decide), if_neg (by decide), if_neg (by decide), if_pos rfl, nI_clamp (by omega), tok_bit, Ps_hT hc.nw (by omega)]; rfl) dX11_ofPerson_99
    · -- switch 5
      have hl : lv_has ls 3 [(0, .ref (ca 0)), (1, .int (nI j)), (2, .int (nI 5))] := hl
      refine lv_tableIn (off := 89) (tgt := 100) hx hb dX11_ofPerson_11 (by decide) (by decide) (by decide) (by decide) ?_
      refine lv_aload_n hx hb dX11_ofPerson_100 rfl (lv_at hl 0 rfl) ?_
      refine va_get (D := E.1) (ci := 9) (v := .long (lN (C 4))) (C := RX11) (T := TX11) (N := 13) hx hb hts iX11 hown hK hP 0 rfl rfl 4 (by decide) (hts _ kw_108) (fun _ h9 => h9) rfl dX11_ofPerson_101 ?_
      refine lv_iconst (v := nI 3) hx hb dX11_ofPerson_104 (by decide) ?_
      refine lv_iload_n hx hb dX11_ofPerson_105 rfl (lv_at hl 1 rfl) ?_
      refine cS_p (rest := []) hC (k_hasToken l (C 4) 3 j (by omega) (by omega) (by omega)) kw_254 sy_X5_hasToken ⟨Nat.le_of_ble_eq_true rfl, Nat.le_of_ble_eq_true rfl⟩ ⟨rfl, rfl⟩ rfl hl.1 rfl (Nat.le_of_ble_eq_true rfl) dX11_ofPerson_106 ⟨Nat.le_of_ble_eq_true rfl, Nat.le_of_ble_eq_true rfl⟩ ?_
      refine cS_p (rest := []) hC (k_truth l (hT (C 4) 3 j)) kw_251 sy_X11_truth ⟨Nat.le_of_ble_eq_true rfl, Nat.le_of_ble_eq_true rfl⟩ ⟨rfl, rfl⟩ rfl hl.1 rfl (Nat.le_of_ble_eq_true rfl) dX11_ofPerson_109 ⟨Nat.le_of_ble_eq_true rfl, Nat.le_of_ble_eq_true rfl⟩ ?_
      exact rz_iE hC (by rw [s_ofPerson, if_neg (by rw [nat_isP (by omega) hj]; decide), if_neg (by decide), if_neg (by decide), if_neg (by decide), if_neg (by decide), if_neg (by decide), if_pos rfl, nI_clamp (by omega), tok_bit, Ps_hT hc.nw (by omega)]; rfl) dX11_ofPerson_112
    · -- switch 6
      refine lv_tableOut (tgt := 113) hx hb dX11_ofPerson_11 sw_2 (by decide) ?_
      refine lv_bipush (v := -2) hx hb dX11_ofPerson_113 (by decide) ?_
      exact rz_iE hC (by rw [s_ofPerson, if_neg (by rw [nat_isP (by omega) hj]; decide), if_neg (sw_ne 0 (by decide) sw_2 (by decide)), if_neg (sw_ne 1 (by decide) sw_2 (by decide)), if_neg (sw_ne 2 (by decide) sw_2 (by decide)), if_neg (sw_ne 3 (by decide) sw_2 (by decide)), if_neg (sw_ne 4 (by decide) sw_2 (by decide)), if_neg (sw_ne 5 (by decide) sw_2 (by decide))]) dX11_ofPerson_115
  · -- f 8
    refine lv_iconst (v := -1) hx hb dX11_ofPerson_8 (by decide) ?_
    exact rz_iE hC (by rw [s_ofPerson, if_pos c_1]) dX11_ofPerson_9

set_option maxHeartbeats 4000000 in
set_option maxRecDepth 100000 in
theorem k_may (l : Launch) (E : EE) (ca ra : Nat → Nat) (ao : Nat) (C : Nat → Nat) (nn kk : Nat) (net : Nat → Nat) (Z : Nat → Nat → Nat) (hc : CS nn kk net Z C) (rr v : Int32) : Rd l yX11_may cX11_may 3 (some .int) rm_X11_may E (oW ca ra ao C) [.ref (ca 0), .int rr, .int v] (some (.int (s_may nn kk net (Z 2) (Z 3) rr v))) := by
  refine mk_rd (by decide) (Nat.le_of_ble_eq_true rfl) ?_
  intro p e s m args below meth c hC hK hP ls hl
  obtain ⟨hx, hb, hr, hts, hown, hml, hlk, hN⟩ := id hC
  have hl : lv_has ls 3 [(0, .ref (ca 0)), (1, .int rr), (2, .int v)] := hl
  have hn4 := hc.n4; have hk12 := hc.k12; have hx3 := hc.st.lt; have hx4 := hc.nw.lt; have hp3 := hc.p3; have hp4 := hc.p4; have hcc := hc.cnt
  refine lv_aload_n hx hb dX11_may_0 rfl (lv_at hl 0 rfl) ?_
  refine lv_iload_n hx hb dX11_may_1 rfl (lv_at hl 1 rfl) ?_
  refine cV_r (rest := []) hC (k_isRule l E ca ra ao C rr) kw_364 iy_X11_isRule ⟨Nat.le_of_ble_eq_true rfl, Nat.le_of_ble_eq_true rfl⟩ ⟨rfl, rfl⟩ hK hP (va_recv hK hP (ci := 9) (q0 := 0) rfl rfl) rfl hl.1 rfl (Nat.le_of_ble_eq_true rfl) dX11_may_2 ⟨Nat.le_of_ble_eq_true rfl, Nat.le_of_ble_eq_true rfl⟩ ?_
  refine b_if_eq (tgt := 16) hx hb dX11_may_5 (by decide) (fun c_1 => ?_) (fun c_1 => ?_)
  · -- t 16
    refine lv_iconst (v := -1) hx hb dX11_may_16 (by decide) ?_
    exact rz_iE hC (by rw [s_may, if_pos c_1]) dX11_may_17
  · -- f 8
    obtain ⟨r1, hr1, rfl⟩ := isIn_nat (by decide) c_1
    have hl : lv_has ls 3 [(0, .ref (ca 0)), (1, .int (nI r1)), (2, .int v)] := hl
    refine lv_aload_n hx hb dX11_may_8 rfl (lv_at hl 0 rfl) ?_
    refine lv_iload_n hx hb dX11_may_9 rfl (lv_at hl 2 rfl) ?_
    refine cV_r (rest := []) hC (k_isPerson l E ca ra ao C nn kk net Z hc v) kw_230 iy_X11_isPerson ⟨Nat.le_of_ble_eq_true rfl, Nat.le_of_ble_eq_true rfl⟩ ⟨rfl, rfl⟩ hK hP (va_recv hK hP (ci := 9) (q0 := 0) rfl rfl) rfl hl.1 rfl (Nat.le_of_ble_eq_true rfl) dX11_may_10 ⟨Nat.le_of_ble_eq_true rfl, Nat.le_of_ble_eq_true rfl⟩ ?_
    refine b_if_ne (tgt := 18) hx hb dX11_may_13 (by decide) (fun c_2 => ?_) (fun c_2 => ?_)
    · -- t 18
      obtain ⟨j, hj, rfl⟩ := isP_nat (by omega) c_2
      have hl : lv_has ls 3 [(0, .ref (ca 0)), (1, .int (nI r1)), (2, .int (nI j))] := hl
      refine lv_aload_n hx hb dX11_may_18 rfl (lv_at hl 0 rfl) ?_
      refine va_get (D := E.1) (ci := 9) (v := .long (lN (C 4))) (C := RX11) (T := TX11) (N := 13) hx hb hts iX11 hown hK hP 0 rfl rfl 4 (by decide) (hts _ kw_108) (fun _ h9 => h9) rfl dX11_may_19 ?_
      refine lv_iload_n hx hb dX11_may_22 rfl (lv_at hl 1 rfl) ?_
      refine lv_iload_n hx hb dX11_may_23 rfl (lv_at hl 2 rfl) ?_
      refine cS_p (rest := []) hC (k_whomMay l (C 4) r1 j (by omega) (by omega) (by omega) (by omega)) kw_368 sy_X5_whomMay ⟨Nat.le_of_ble_eq_true rfl, Nat.le_of_ble_eq_true rfl⟩ ⟨rfl, rfl⟩ rfl hl.1 rfl (Nat.le_of_ble_eq_true rfl) dX11_may_24 ⟨Nat.le_of_ble_eq_true rfl, Nat.le_of_ble_eq_true rfl⟩ ?_
      have f_3 := whM_lt (by omega : pN (C 4) ≤ 4) r1 j
      exact rz_iE hC (by rw [s_may, if_neg (by rw [nat_isIn (by decide) hr1]; decide), if_neg (by rw [nat_isP (by omega) hj]; decide), nI_clamp (by omega), nI_clamp (by omega), hc.may (by omega) hj]) dX11_may_27
    · -- f 16
      refine lv_iconst (v := -1) hx hb dX11_may_16 (by decide) ?_
      exact rz_iE hC (by rw [s_may, if_neg (by rw [nat_isIn (by decide) hr1]; decide), if_pos c_2]) dX11_may_17

set_option maxHeartbeats 4000000 in
set_option maxRecDepth 100000 in
theorem k_many (l : Launch) (E : EE) (ca ra : Nat → Nat) (ao : Nat) (C : Nat → Nat) (nn kk : Nat) (net : Nat → Nat) (Z : Nat → Nat → Nat) (hc : CS nn kk net Z C) (what : Int32) : Rd l yX11_many cX11_many 2 (some .int) rm_X11_many E (oW ca ra ao C) [.ref (ca 0), .int what] (some (.int (s_many nn kk net (Z 2) (Z 3) what))) := by
  refine mk_rd (by decide) (Nat.le_of_ble_eq_true rfl) ?_
  intro p e s m args below meth c hC hK hP ls hl
  obtain ⟨hx, hb, hr, hts, hown, hml, hlk, hN⟩ := id hC
  have hl : lv_has ls 2 [(0, .ref (ca 0)), (1, .int what)] := hl
  have hn4 := hc.n4; have hk12 := hc.k12; have hx3 := hc.st.lt; have hx4 := hc.nw.lt; have hp3 := hc.p3; have hp4 := hc.p4; have hcc := hc.cnt
  have hnum := num_cnt hn4 hc.xn hc.own hc.n16
  refine lv_iload_n hx hb dX11_many_0 rfl (lv_at hl 1 rfl) ?_
  rcases sw4 what with rfl | rfl | rfl | rfl | sw_1
  · -- switch 0
    have hl : lv_has ls 2 [(0, .ref (ca 0)), (1, .int (nI 0))] := hl
    refine lv_tableIn (off := 31) (tgt := 32) hx hb dX11_many_1 (by decide) (by decide) (by decide) (by decide) ?_
    refine lv_aload_n hx hb dX11_many_32 rfl (lv_at hl 0 rfl) ?_
    refine va_get (D := E.1) (ci := 9) (v := .long (lN (C 4))) (C := RX11) (T := TX11) (N := 13) hx hb hts iX11 hown hK hP 0 rfl rfl 4 (by decide) (hts _ kw_108) (fun _ h9 => h9) rfl dX11_many_33 ?_
    refine cS_p (rest := []) hC (k_persons l (C 4) (by omega)) kw_234 sy_X5_persons ⟨Nat.le_of_ble_eq_true rfl, Nat.le_of_ble_eq_true rfl⟩ ⟨rfl, rfl⟩ rfl hl.1 rfl (Nat.le_of_ble_eq_true rfl) dX11_many_36 ⟨Nat.le_of_ble_eq_true rfl, Nat.le_of_ble_eq_true rfl⟩ ?_
    exact rz_iE hC (by rw [s_many, if_pos rfl, hp4]) dX11_many_39
  · -- switch 1
    have hl : lv_has ls 2 [(0, .ref (ca 0)), (1, .int (nI 1))] := hl
    refine lv_tableIn (off := 39) (tgt := 40) hx hb dX11_many_1 (by decide) (by decide) (by decide) (by decide) ?_
    refine lv_aload_n hx hb dX11_many_40 rfl (lv_at hl 0 rfl) ?_
    refine va_get (D := E.1) (ci := 9) (v := .int (nI (C 2))) (C := RX11) (T := TX11) (N := 13) hx hb hts iX11 hown hK hP 0 rfl rfl 2 (by decide) (hts _ kw_106) (fun _ h9 => h9) rfl dX11_many_41 ?_
    exact rz_iE hC (by rw [s_many, if_neg (by decide), if_pos rfl, hcc]) dX11_many_44
  · -- switch 2
    have hl : lv_has ls 2 [(0, .ref (ca 0)), (1, .int (nI 2))] := hl
    refine lv_tableIn (off := 44) (tgt := 45) hx hb dX11_many_1 (by decide) (by decide) (by decide) (by decide) ?_
    refine lv_aload_n hx hb dX11_many_45 rfl (lv_at hl 0 rfl) ?_
    refine va_get (D := E.1) (ci := 9) (v := .long (lN (C 4))) (C := RX11) (T := TX11) (N := 13) hx hb hts iX11 hown hK hP 0 rfl rfl 4 (by decide) (hts _ kw_108) (fun _ h9 => h9) rfl dX11_many_46 ?_
    refine cS_p (rest := []) hC (k_experts l (C 4) (by omega) (by omega)) kw_728 sy_X5_experts ⟨Nat.le_of_ble_eq_true rfl, Nat.le_of_ble_eq_true rfl⟩ ⟨rfl, rfl⟩ rfl hl.1 rfl (Nat.le_of_ble_eq_true rfl) dX11_many_49 ⟨Nat.le_of_ble_eq_true rfl, Nat.le_of_ble_eq_true rfl⟩ ?_
    have f_2 := exK_le (C 4) (pN (C 4))
    exact rz_iE hC (by rw [s_many, if_neg (by decide), if_neg (by decide), if_pos rfl, hp4, exp_cnt hc.nw nn (by omega)]) dX11_many_52
  · -- switch 3
    have hl : lv_has ls 2 [(0, .ref (ca 0)), (1, .int (nI 3))] := hl
    refine lv_tableIn (off := 52) (tgt := 53) hx hb dX11_many_1 (by decide) (by decide) (by decide) (by decide) ?_
    refine lv_aload_n hx hb dX11_many_53 rfl (lv_at hl 0 rfl) ?_
    refine va_get (D := E.1) (ci := 9) (v := .long (lN (C 3))) (C := RX11) (T := TX11) (N := 13) hx hb hts iX11 hown hK hP 0 rfl rfl 3 (by decide) (hts _ kw_107) (fun _ h9 => h9) rfl dX11_many_54 ?_
    refine cS_p (rest := []) hC (k_allNumbers l (C 3) (by omega)) kw_547 sy_X5_allNumbers ⟨Nat.le_of_ble_eq_true rfl, Nat.le_of_ble_eq_true rfl⟩ ⟨rfl, rfl⟩ rfl hl.1 rfl (Nat.le_of_ble_eq_true rfl) dX11_many_57 ⟨Nat.le_of_ble_eq_true rfl, Nat.le_of_ble_eq_true rfl⟩ ?_
    have f_3 := (Nat.and_le_right : (C 3) >>> 16 &&& 65535 ≤ 65535)
    refine cS_p (rest := []) hC (k_bits l ((C 3) >>> 16 &&& 65535) (by omega)) kw_574 sy_J6_bitCount_0f7a4 ⟨Nat.le_of_ble_eq_true rfl, Nat.le_of_ble_eq_true rfl⟩ ⟨rfl, rfl⟩ rfl hl.1 rfl (Nat.le_of_ble_eq_true rfl) dX11_many_60 ⟨Nat.le_of_ble_eq_true rfl, Nat.le_of_ble_eq_true rfl⟩ ?_
    have f_4 := bitsN_le ((C 3) >>> 16 &&& 65535) 16
    refine lv_aload_n hx hb dX11_many_63 rfl (lv_at hl 0 rfl) ?_
    refine va_get (D := E.1) (ci := 9) (v := .long (lN (C 3))) (C := RX11) (T := TX11) (N := 13) hx hb hts iX11 hown hK hP 0 rfl rfl 3 (by decide) (hts _ kw_107) (fun _ h9 => h9) rfl dX11_many_64 ?_
    refine cS_p (rest := [.int (nI (bitsN ((C 3) >>> 16 &&& 65535) 16))]) hC (k_persons l (C 3) (by omega)) kw_234 sy_X5_persons ⟨Nat.le_of_ble_eq_true rfl, Nat.le_of_ble_eq_true rfl⟩ ⟨rfl, rfl⟩ rfl hl.1 rfl (Nat.le_of_ble_eq_true rfl) dX11_many_67 ⟨Nat.le_of_ble_eq_true rfl, Nat.le_of_ble_eq_true rfl⟩ ?_
    refine n_isub hx hb (by omega) dX11_many_70 ?_
    exact rz_iE hC (by rw [s_many, if_neg (by decide), if_neg (by decide), if_neg (by decide), if_pos rfl, hp3, hnum]; exact congrArg nI (by omega)) dX11_many_71
  · -- switch 4
    refine lv_tableOut (tgt := 72) hx hb dX11_many_1 sw_1 (by decide) ?_
    refine lv_bipush (v := -2) hx hb dX11_many_72 (by decide) ?_
    exact rz_iE hC (by rw [s_many, if_neg (sw_ne 0 (by decide) sw_1 (by decide)), if_neg (sw_ne 1 (by decide) sw_1 (by decide)), if_neg (sw_ne 2 (by decide) sw_1 (by decide)), if_neg (sw_ne 3 (by decide) sw_1 (by decide))]) dX11_many_74

set_option maxHeartbeats 4000000 in
set_option maxRecDepth 100000 in
theorem k_joined (l : Launch) (E : EE) (ca ra : Nat → Nat) (ao : Nat) (C : Nat → Nat) (nn kk : Nat) (net : Nat → Nat) (Z : Nat → Nat → Nat) (hc : CS nn kk net Z C) : Rd l yX11_joined cX11_joined 1 (some .int) rm_X11_joined E (oW ca ra ao C) [.ref (ca 0)] (some (.int (s_joined nn net))) := by
  refine mk_rd (by decide) (Nat.le_of_ble_eq_true rfl) ?_
  intro p e s m args below meth c hC hK hP ls hl
  obtain ⟨hx, hb, hr, hts, hown, hml, hlk, hN⟩ := id hC
  have hl : lv_has ls 1 [(0, .ref (ca 0))] := hl
  have hn4 := hc.n4; have hk12 := hc.k12; have hx3 := hc.st.lt; have hx4 := hc.nw.lt; have hp3 := hc.p3; have hp4 := hc.p4; have hcc := hc.cnt
  refine lv_aload_n hx hb dX11_joined_0 rfl (lv_at hl 0 rfl) ?_
  refine cV_r (rest := []) hC (k_noPersons l E ca ra ao C nn kk net Z hc) kw_381 iy_X11_noPersons ⟨Nat.le_of_ble_eq_true rfl, Nat.le_of_ble_eq_true rfl⟩ ⟨rfl, rfl⟩ hK hP (va_recv hK hP (ci := 9) (q0 := 0) rfl rfl) rfl hl.1 rfl (Nat.le_of_ble_eq_true rfl) dX11_joined_1 ⟨Nat.le_of_ble_eq_true rfl, Nat.le_of_ble_eq_true rfl⟩ ?_
  refine b_if_eq (tgt := 10) hx hb dX11_joined_4 (by decide) (fun c_1 => ?_) (fun c_1 => ?_)
  · -- t 10
    refine lv_aload_n hx hb dX11_joined_10 rfl (lv_at hl 0 rfl) ?_
    refine va_get (D := E.1) (ci := 9) (v := .long (lN (C 3))) (C := RX11) (T := TX11) (N := 13) hx hb hts iX11 hown hK hP 0 rfl rfl 3 (by decide) (hts _ kw_107) (fun _ h9 => h9) rfl dX11_joined_11 ?_
    refine cS_p (rest := []) hC (k_persons l (C 3) (by omega)) kw_234 sy_X5_persons ⟨Nat.le_of_ble_eq_true rfl, Nat.le_of_ble_eq_true rfl⟩ ⟨rfl, rfl⟩ rfl hl.1 rfl (Nat.le_of_ble_eq_true rfl) dX11_joined_14 ⟨Nat.le_of_ble_eq_true rfl, Nat.le_of_ble_eq_true rfl⟩ ?_
    refine lv_aload_n hx hb dX11_joined_17 rfl (lv_at hl 0 rfl) ?_
    refine va_get (D := E.1) (ci := 9) (v := .long (lN (C 3))) (C := RX11) (T := TX11) (N := 13) hx hb hts iX11 hown hK hP 0 rfl rfl 3 (by decide) (hts _ kw_107) (fun _ h9 => h9) rfl dX11_joined_18 ?_
    refine cS_p (rest := [.int (nI (pN (C 3)))]) hC (k_allNumbers l (C 3) (by omega)) kw_547 sy_X5_allNumbers ⟨Nat.le_of_ble_eq_true rfl, Nat.le_of_ble_eq_true rfl⟩ ⟨rfl, rfl⟩ rfl hl.1 rfl (Nat.le_of_ble_eq_true rfl) dX11_joined_21 ⟨Nat.le_of_ble_eq_true rfl, Nat.le_of_ble_eq_true rfl⟩ ?_
    have f_2 := (Nat.and_le_right : (C 3) >>> 16 &&& 65535 ≤ 65535)
    refine cS_p (rest := []) hC (k_isJoined l (pN (C 3)) ((C 3) >>> 16 &&& 65535) (by omega) (by omega)) kw_550 sy_X2_isJoined ⟨Nat.le_of_ble_eq_true rfl, Nat.le_of_ble_eq_true rfl⟩ ⟨rfl, rfl⟩ rfl hl.1 rfl (Nat.le_of_ble_eq_true rfl) dX11_joined_24 ⟨Nat.le_of_ble_eq_true rfl, Nat.le_of_ble_eq_true rfl⟩ ?_
    refine cS_p (rest := []) hC (k_truth l (joC (pN (C 3)) ((C 3) >>> 16 &&& 65535))) kw_251 sy_X11_truth ⟨Nat.le_of_ble_eq_true rfl, Nat.le_of_ble_eq_true rfl⟩ ⟨rfl, rfl⟩ rfl hl.1 rfl (Nat.le_of_ble_eq_true rfl) dX11_joined_27 ⟨Nat.le_of_ble_eq_true rfl, Nat.le_of_ble_eq_true rfl⟩ ?_
    exact rz_iE hC (by rw [s_joined, if_neg (of_decide_eq_false c_1), hp3, hc.joined (by have := of_decide_eq_false c_1; omega)]) dX11_joined_30
  · -- f 7
    refine lv_bipush (v := -3) hx hb dX11_joined_7 (by decide) ?_
    exact rz_iE hC (by rw [s_joined, if_pos (of_decide_eq_true c_1)]) dX11_joined_9

set_option maxHeartbeats 4000000 in
set_option maxRecDepth 100000 in
theorem k_sun (l : Launch) (E : EE) (ca ra : Nat → Nat) (ao : Nat) (C : Nat → Nat) (nn kk : Nat) (net : Nat → Nat) (Z : Nat → Nat → Nat) (hc : CS nn kk net Z C) : Rd l yX11_sun cX11_sun 1 (some .int) rm_X11_sun E (oW ca ra ao C) [.ref (ca 0)] (some (.int (s_sun nn net))) := by
  refine mk_rd (by decide) (Nat.le_of_ble_eq_true rfl) ?_
  intro p e s m args below meth c hC hK hP ls hl
  obtain ⟨hx, hb, hr, hts, hown, hml, hlk, hN⟩ := id hC
  have hl : lv_has ls 1 [(0, .ref (ca 0))] := hl
  have hn4 := hc.n4; have hk12 := hc.k12; have hx3 := hc.st.lt; have hx4 := hc.nw.lt; have hp3 := hc.p3; have hp4 := hc.p4; have hcc := hc.cnt
  refine lv_aload_n hx hb dX11_sun_0 rfl (lv_at hl 0 rfl) ?_
  refine cV_r (rest := []) hC (k_noPersons l E ca ra ao C nn kk net Z hc) kw_381 iy_X11_noPersons ⟨Nat.le_of_ble_eq_true rfl, Nat.le_of_ble_eq_true rfl⟩ ⟨rfl, rfl⟩ hK hP (va_recv hK hP (ci := 9) (q0 := 0) rfl rfl) rfl hl.1 rfl (Nat.le_of_ble_eq_true rfl) dX11_sun_1 ⟨Nat.le_of_ble_eq_true rfl, Nat.le_of_ble_eq_true rfl⟩ ?_
  refine b_if_eq (tgt := 10) hx hb dX11_sun_4 (by decide) (fun c_1 => ?_) (fun c_1 => ?_)
  · -- t 10
    refine lv_aload_n hx hb dX11_sun_10 rfl (lv_at hl 0 rfl) ?_
    refine va_get (D := E.1) (ci := 9) (v := .long (lN (C 3))) (C := RX11) (T := TX11) (N := 13) hx hb hts iX11 hown hK hP 0 rfl rfl 3 (by decide) (hts _ kw_107) (fun _ h9 => h9) rfl dX11_sun_11 ?_
    refine cS_p (rest := []) hC (k_persons l (C 3) (by omega)) kw_234 sy_X5_persons ⟨Nat.le_of_ble_eq_true rfl, Nat.le_of_ble_eq_true rfl⟩ ⟨rfl, rfl⟩ rfl hl.1 rfl (Nat.le_of_ble_eq_true rfl) dX11_sun_14 ⟨Nat.le_of_ble_eq_true rfl, Nat.le_of_ble_eq_true rfl⟩ ?_
    refine lv_aload_n hx hb dX11_sun_17 rfl (lv_at hl 0 rfl) ?_
    refine va_get (D := E.1) (ci := 9) (v := .long (lN (C 3))) (C := RX11) (T := TX11) (N := 13) hx hb hts iX11 hown hK hP 0 rfl rfl 3 (by decide) (hts _ kw_107) (fun _ h9 => h9) rfl dX11_sun_18 ?_
    refine cS_p (rest := [.int (nI (pN (C 3)))]) hC (k_allNumbers l (C 3) (by omega)) kw_547 sy_X5_allNumbers ⟨Nat.le_of_ble_eq_true rfl, Nat.le_of_ble_eq_true rfl⟩ ⟨rfl, rfl⟩ rfl hl.1 rfl (Nat.le_of_ble_eq_true rfl) dX11_sun_21 ⟨Nat.le_of_ble_eq_true rfl, Nat.le_of_ble_eq_true rfl⟩ ?_
    have f_2 := (Nat.and_le_right : (C 3) >>> 16 &&& 65535 ≤ 65535)
    refine cS_p (rest := []) hC (k_isSun l (pN (C 3)) ((C 3) >>> 16 &&& 65535) (by omega) (by omega)) kw_579 sy_X2_isSun ⟨Nat.le_of_ble_eq_true rfl, Nat.le_of_ble_eq_true rfl⟩ ⟨rfl, rfl⟩ rfl hl.1 rfl (Nat.le_of_ble_eq_true rfl) dX11_sun_24 ⟨Nat.le_of_ble_eq_true rfl, Nat.le_of_ble_eq_true rfl⟩ ?_
    refine cS_p (rest := []) hC (k_truth l (suC (pN (C 3)) ((C 3) >>> 16 &&& 65535))) kw_251 sy_X11_truth ⟨Nat.le_of_ble_eq_true rfl, Nat.le_of_ble_eq_true rfl⟩ ⟨rfl, rfl⟩ rfl hl.1 rfl (Nat.le_of_ble_eq_true rfl) dX11_sun_27 ⟨Nat.le_of_ble_eq_true rfl, Nat.le_of_ble_eq_true rfl⟩ ?_
    exact rz_iE hC (by rw [s_sun, if_neg (of_decide_eq_false c_1), hp3, hc.sun]) dX11_sun_30
  · -- f 7
    refine lv_bipush (v := -3) hx hb dX11_sun_7 (by decide) ?_
    exact rz_iE hC (by rw [s_sun, if_pos (of_decide_eq_true c_1)]) dX11_sun_9

set_option maxHeartbeats 4000000 in
set_option maxRecDepth 100000 in
theorem k_bridge (l : Launch) (E : EE) (ca ra : Nat → Nat) (ao : Nat) (C : Nat → Nat) (nn kk : Nat) (net : Nat → Nat) (Z : Nat → Nat → Nat) (hc : CS nn kk net Z C) (a1 : Int32) : Rd l yX11_bridge cX11_bridge 4 (some .int) rm_X11_bridge E (oW ca ra ao C) [.ref (ca 0), .int a1] (some (.int (b_bridge nn net (nsP (brB nn (C 3 >>> 16 &&& 65535)) nn nn) a1))) := by
  refine mk_rd (by decide) (Nat.le_of_ble_eq_true rfl) ?_
  intro p e s m args below meth c hC hK hP ls hl
  obtain ⟨hx, hb, hr, hts, hown, hml, hlk, hN⟩ := id hC
  have hl : lv_has ls 4 [(0, .ref (ca 0)), (1, .int a1)] := hl
  have hn4 := hc.n4; have hk12 := hc.k12; have hx3 := hc.st.lt; have hx4 := hc.nw.lt; have hp3 := hc.p3; have hp4 := hc.p4; have hcc := hc.cnt
  refine lv_aload_n hx hb dX11_bridge_0 rfl (lv_at hl 0 rfl) ?_
  refine lv_iload_n hx hb dX11_bridge_1 rfl (lv_at hl 1 rfl) ?_
  refine cV_r (rest := []) hC (k_isPlace l E ca ra ao C a1) kw_563 iy_X11_isPlaceOfNumber ⟨Nat.le_of_ble_eq_true rfl, Nat.le_of_ble_eq_true rfl⟩ ⟨rfl, rfl⟩ hK hP (va_recv hK hP (ci := 9) (q0 := 0) rfl rfl) rfl hl.1 rfl (Nat.le_of_ble_eq_true rfl) dX11_bridge_2 ⟨Nat.le_of_ble_eq_true rfl, Nat.le_of_ble_eq_true rfl⟩ ?_
  refine b_if_ne (tgt := 10) hx hb dX11_bridge_5 (by decide) (fun c_1 => ?_) (fun c_1 => ?_)
  · -- t 10
    refine lv_aload_n hx hb dX11_bridge_10 rfl (lv_at hl 0 rfl) ?_
    refine va_get (D := E.1) (ci := 9) (v := .long (lN (C 3))) (C := RX11) (T := TX11) (N := 13) hx hb hts iX11 hown hK hP 0 rfl rfl 3 (by decide) (hts _ kw_107) (fun _ h9 => h9) rfl dX11_bridge_11 ?_
    refine cS_p (rest := []) hC (k_persons l (C 3) (by omega)) kw_234 sy_X5_persons ⟨Nat.le_of_ble_eq_true rfl, Nat.le_of_ble_eq_true rfl⟩ ⟨rfl, rfl⟩ rfl hl.1 rfl (Nat.le_of_ble_eq_true rfl) dX11_bridge_14 ⟨Nat.le_of_ble_eq_true rfl, Nat.le_of_ble_eq_true rfl⟩ ?_
    refine top_i (congrArg nI hp3) ?_
    refine lv_istore_n (lv' := [(2, .int (nI nn)), (0, .ref (ca 0)), (1, .int a1)]) hx hb dX11_bridge_17 rfl hl (by decide) rfl (fun ls hl => ?_)
    refine lv_aload_n hx hb dX11_bridge_18 rfl (lv_at hl 1 rfl) ?_
    refine va_get (D := E.1) (ci := 9) (v := .long (lN (C 3))) (C := RX11) (T := TX11) (N := 13) hx hb hts iX11 hown hK hP 0 rfl rfl 3 (by decide) (hts _ kw_107) (fun _ h9 => h9) rfl dX11_bridge_19 ?_
    refine cS_p (rest := []) hC (k_allNumbers l (C 3) (by omega)) kw_547 sy_X5_allNumbers ⟨Nat.le_of_ble_eq_true rfl, Nat.le_of_ble_eq_true rfl⟩ ⟨rfl, rfl⟩ rfl hl.1 rfl (Nat.le_of_ble_eq_true rfl) dX11_bridge_22 ⟨Nat.le_of_ble_eq_true rfl, Nat.le_of_ble_eq_true rfl⟩ ?_
    have f_2 := (Nat.and_le_right : (C 3) >>> 16 &&& 65535 ≤ 65535)
    refine lv_istore_n (lv' := [(3, .int (nI ((C 3) >>> 16 &&& 65535))), (2, .int (nI nn)), (0, .ref (ca 0)), (1, .int a1)]) hx hb dX11_bridge_25 rfl hl (by decide) rfl (fun ls hl => ?_)
    refine lv_aload_n hx hb dX11_bridge_26 rfl (lv_at hl 2 rfl) ?_
    refine cV_r (rest := []) hC (k_noPersons l E ca ra ao C nn kk net Z hc) kw_381 iy_X11_noPersons ⟨Nat.le_of_ble_eq_true rfl, Nat.le_of_ble_eq_true rfl⟩ ⟨rfl, rfl⟩ hK hP (va_recv hK hP (ci := 9) (q0 := 0) rfl rfl) rfl hl.1 rfl (Nat.le_of_ble_eq_true rfl) dX11_bridge_27 ⟨Nat.le_of_ble_eq_true rfl, Nat.le_of_ble_eq_true rfl⟩ ?_
    refine b_if_ne (tgt := 41) hx hb dX11_bridge_30 (by decide) (fun c_3 => ?_) (fun c_3 => ?_)
    · -- t 41
      refine lv_bipush (v := -3) hx hb dX11_bridge_41 (by decide) ?_
      exact rz_iE hC (by rw [b_bridge, if_neg (by rw [c_1]; decide), if_pos (by rw [of_decide_eq_true c_3]; exact joinM_0 net)]) dX11_bridge_43
    · -- f 33
      refine lv_iload_n hx hb dX11_bridge_33 rfl (lv_at hl 1 rfl) ?_
      refine lv_iload_n hx hb dX11_bridge_34 rfl (lv_at hl 0 rfl) ?_
      refine cS_p (rest := []) hC (k_isJoined l nn ((C 3) >>> 16 &&& 65535) (by omega) (by omega)) kw_550 sy_X2_isJoined ⟨Nat.le_of_ble_eq_true rfl, Nat.le_of_ble_eq_true rfl⟩ ⟨rfl, rfl⟩ rfl hl.1 rfl (Nat.le_of_ble_eq_true rfl) dX11_bridge_35 ⟨Nat.le_of_ble_eq_true rfl, Nat.le_of_ble_eq_true rfl⟩ ?_
      refine b_if_ne (tgt := 44) hx hb dX11_bridge_38 (by decide) (fun c_4 => ?_) (fun c_4 => ?_)
      · -- t 44
        refine lv_iload_n hx hb dX11_bridge_44 rfl (lv_at hl 1 rfl) ?_
        refine lv_iload_n hx hb dX11_bridge_45 rfl (lv_at hl 0 rfl) ?_
        refine cS_p (rest := []) hC (k_bridges l nn ((C 3) >>> 16 &&& 65535) (by omega) (by omega)) kw_567 sy_X2_bridges ⟨Nat.le_of_ble_eq_true rfl, Nat.le_of_ble_eq_true rfl⟩ ⟨rfl, rfl⟩ rfl hl.1 rfl (Nat.le_of_ble_eq_true rfl) dX11_bridge_46 ⟨Nat.le_of_ble_eq_true rfl, Nat.le_of_ble_eq_true rfl⟩ ?_
        have f_5 := nsP_lt (B := brB nn ((C 3) >>> 16 &&& 65535)) (by omega : nn ≤ 4) nn (by omega)
        refine lv_iload_n hx hb dX11_bridge_49 rfl (lv_at hl 3 rfl) ?_
        refine cS_p (rest := []) hC (k_pickV l (nsP (brB nn ((C 3) >>> 16 &&& 65535)) nn nn) a1 (by omega) c_1) kw_571 sy_X11_countOrPick ⟨Nat.le_of_ble_eq_true rfl, Nat.le_of_ble_eq_true rfl⟩ ⟨rfl, rfl⟩ rfl hl.1 rfl (Nat.le_of_ble_eq_true rfl) dX11_bridge_50 ⟨Nat.le_of_ble_eq_true rfl, Nat.le_of_ble_eq_true rfl⟩ ?_
        exact rz_iE hC (by rw [b_bridge, if_neg (by rw [c_1]; decide), if_neg (by rw [← hc.joined (by have := of_decide_eq_false c_3; omega), c_4]; decide)]) dX11_bridge_53
      · -- f 41
        refine lv_bipush (v := -3) hx hb dX11_bridge_41 (by decide) ?_
        exact rz_iE hC (by rw [b_bridge, if_neg (by rw [c_1]; decide), if_pos (by rw [← hc.joined (by have := of_decide_eq_false c_3; omega)]; exact c_4)]) dX11_bridge_43
  · -- f 8
    refine lv_iconst (v := -1) hx hb dX11_bridge_8 (by decide) ?_
    exact rz_iE hC (by rw [b_bridge, if_pos c_1]) dX11_bridge_9

set_option maxHeartbeats 4000000 in
set_option maxRecDepth 100000 in
theorem k_fault (l : Launch) (E : EE) (ca ra : Nat → Nat) (ao : Nat) (C : Nat → Nat) : Rd l yX11_fault cX11_fault 1 (some .int) rm_X11_fault E (oW ca ra ao C) [.ref (ca 0)] (some (.int (nI (C 5)))) := by
  refine mk_rd (by decide) (Nat.le_of_ble_eq_true rfl) ?_
  intro p e s m args below meth c hC hK hP ls hl
  obtain ⟨hx, hb, hr, hts, hown, hml, hlk, hN⟩ := id hC
  have hl : lv_has ls 1 [(0, .ref (ca 0))] := hl
  refine lv_aload_n hx hb dX11_fault_0 rfl (lv_at hl 0 rfl) ?_
  refine va_get (D := E.1) (ci := 9) (v := .int (nI (C 5))) (C := RX11) (T := TX11) (N := 13) hx hb hts iX11 hown hK hP 0 rfl rfl 5 (by decide) (hts _ kw_109) (fun _ h9 => h9) rfl dX11_fault_1 ?_
  exact rz_iE hC (rfl) dX11_fault_4
