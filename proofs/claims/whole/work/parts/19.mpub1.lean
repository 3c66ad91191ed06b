set_option maxHeartbeats 4000000 in
set_option maxRecDepth 100000 in
theorem c_m_ofPerson (l : Launch) (E : EE) (ad : Nat → Nat) (lk : Nat) (tr : Int32) (N : Nat → Nat) (X : Nat → Nat → Int32) (F G : Nat → Nat → Nat) (hM : MOK N F) (v what : Int32) : Rd l yX12_ofPerson cX12_ofPerson 4 (some .int) rm_X12_ofPerson E (mW E ad lk tr N X F G) [.ref (ad 0), .int v, .int what] (some (.int (s_ofPerson (N 5) (N 9) (F 6) (F 10) (F 11) v what))) := by
  refine mk_rd (by decide) (Nat.le_of_ble_eq_true rfl) ?_
  intro p e s m args below meth c hC hK hP ls hl
  obtain ⟨hx, hb, hr, hts, hown, hml, hlk, hN⟩ := id hC
  have hl : lv_has ls 4 [(0, .ref (ad 0)), (1, .int v), (2, .int what)] := hl
  obtain ⟨hM5, hM9, hMp, hMq, hMn⟩ := id hM
  have hn : ∀ j, j < 4 → F 6 j < 16 := fun j _ => hMn j
  have hs0 := shl_le4 hM5
  refine lv_aload_n hx hb dX12_ofPerson_0 rfl (lv_at hl 0 rfl) ?_
  refine lv_iload_n hx hb dX12_ofPerson_1 rfl (lv_at hl 1 rfl) ?_
  refine cV_r (rest := []) hC (c_m_isPerson l E ad lk tr N X F G v) kw_858 iy_X12_isPerson ⟨Nat.le_of_ble_eq_true rfl, Nat.le_of_ble_eq_true rfl⟩ ⟨rfl, rfl⟩ hK hP (va_recv hK hP (ci := 10) (q0 := 0) rfl rfl) rfl hl.1 rfl (Nat.le_of_ble_eq_true rfl) dX12_ofPerson_2 ⟨Nat.le_of_ble_eq_true rfl, Nat.le_of_ble_eq_true rfl⟩ ?_
  refine b_if_ne (tgt := 10) hx hb dX12_ofPerson_5 (by decide) (fun c_1 => ?_) (fun c_1 => ?_)
  · -- t 10
    obtain ⟨j, hj, rfl⟩ := isP_nat (by omega) c_1
    have hl : lv_has ls 4 [(0, .ref (ad 0)), (1, .int (nI j)), (2, .int what)] := hl
    refine lv_aload_n hx hb dX12_ofPerson_10 rfl (lv_at hl 0 rfl) ?_
    refine lv_aload_n hx hb dX12_ofPerson_11 rfl (lv_at hl 0 rfl) ?_
    refine va_get (D := E.1) (ci := 10) (v := .int (nI (N 9))) (C := RX12) (T := TX12) (N := 30) hx hb hts iX12 hown hK hP 0 rfl rfl 9 (by decide) (hts _ kw_748) (fun _ h9 => h9) rfl dX12_ofPerson_12 ?_
    refine cV_r (rest := []) hC (c_m_stateAt l E ad lk tr N X F G hM (N 9) (by omega)) kw_862 iy_X12_stateAt ⟨Nat.le_of_ble_eq_true rfl, Nat.le_of_ble_eq_true rfl⟩ ⟨rfl, rfl⟩ hK hP (va_recv hK hP (ci := 10) (q0 := 0) rfl rfl) rfl hl.1 rfl (Nat.le_of_ble_eq_true rfl) dX12_ofPerson_15 ⟨Nat.le_of_ble_eq_true rfl, Nat.le_of_ble_eq_true rfl⟩ ?_
    have f_2 := stS_lt (n := N 5) hMp hMq (N 9)
    refine lv_istore_n (lv' := [(3, .int (nI (stS (N 5) (F 10) (F 11) (N 9)))), (0, .ref (ad 0)), (1, .int (nI j)), (2, .int what)]) hx hb dX12_ofPerson_18 rfl hl (by decide) rfl (fun ls hl => ?_)
    refine lv_iload_n hx hb dX12_ofPerson_19 rfl (lv_at hl 3 rfl) ?_
    rcases sw6 what with rfl | rfl | rfl | rfl | rfl | rfl | sw_3
    · -- switch 0
      have hl : lv_has ls 4 [(3, .int (nI (stS (N 5) (F 10) (F 11) (N 9)))), (0, .ref (ad 0)), (1, .int (nI j)), (2, .int (nI 0))] := hl
      refine lv_tableIn (off := 40) (tgt := 60) hx hb dX12_ofPerson_20 (by decide) (by decide) (by decide) (by decide) ?_
      refine lv_iload_n hx hb dX12_ofPerson_60 rfl (lv_at hl 0 rfl) ?_
      refine lv_iload_n hx hb dX12_ofPerson_61 rfl (lv_at hl 2 rfl) ?_
      refine cS_p (rest := []) hC (c_of l (stS (N 5) (F 10) (F 11) (N 9)) j (by omega) (by omega)) kw_874 sy_X12_of ⟨Nat.le_of_ble_eq_true rfl, Nat.le_of_ble_eq_true rfl⟩ ⟨rfl, rfl⟩ rfl hl.1 rfl (Nat.le_of_ble_eq_true rfl) dX12_ofPerson_62 ⟨Nat.le_of_ble_eq_true rfl, Nat.le_of_ble_eq_true rfl⟩ ?_
      have f_4 := of4_lt (stS (N 5) (F 10) (F 11) (N 9)) j
      exact rz_iE hC (by rw [s_ofPerson, if_neg (by rw [nat_isP (by omega) hj]; decide), if_pos rfl, nI_clamp (by omega)]) dX12_ofPerson_65
    · -- switch 1
      have hl : lv_has ls 4 [(3, .int (nI (stS (N 5) (F 10) (F 11) (N 9)))), (0, .ref (ad 0)), (1, .int (nI j)), (2, .int (nI 1))] := hl
      refine lv_tableIn (off := 46) (tgt := 66) hx hb dX12_ofPerson_20 (by decide) (by decide) (by decide) (by decide) ?_
      refine lv_aload_n hx hb dX12_ofPerson_66 rfl (lv_at hl 1 rfl) ?_
      refine va_get (D := E.1) (ci := 10) (v := .ref (ad 6)) (C := RX12) (T := TX12) (N := 30) hx hb hts iX12 hown hK hP 0 rfl rfl 6 (by decide) (hts _ kw_745) (fun _ h9 => h9) rfl dX12_ofPerson_67 ?_
      refine lv_iload_n hx hb dX12_ofPerson_70 rfl (lv_at hl 0 rfl) ?_
      refine lv_iload_n hx hb dX12_ofPerson_71 rfl (lv_at hl 2 rfl) ?_
      refine cS_r (rest := []) hC (c_numO l E (ad 6) (F 6) (stS (N 5) (F 10) (F 11) (N 9)) j (by omega) (by omega)) kw_877 sy_X12_numbersOf ⟨Nat.le_of_ble_eq_true rfl, Nat.le_of_ble_eq_true rfl⟩ ⟨rfl, rfl⟩ hK (hP.sub (ws' := aW E (ad 6) (F 6)) [4] rfl) rfl hl.1 rfl (Nat.le_of_ble_eq_true rfl) dX12_ofPerson_72 ⟨Nat.le_of_ble_eq_true rfl, Nat.le_of_ble_eq_true rfl⟩ ?_
      have f_5 := numO_lt hn (stS (N 5) (F 10) (F 11) (N 9)) j
      exact rz_iE hC (by rw [s_ofPerson, if_neg (by rw [nat_isP (by omega) hj]; decide), if_neg (by decide), if_pos rfl, nI_clamp (by omega)]) dX12_ofPerson_75
    · -- switch 2
      have hl : lv_has ls 4 [(3, .int (nI (stS (N 5) (F 10) (F 11) (N 9)))), (0, .ref (ad 0)), (1, .int (nI j)), (2, .int (nI 2))] := hl
      refine lv_tableIn (off := 56) (tgt := 76) hx hb dX12_ofPerson_20 (by decide) (by decide) (by decide) (by decide) ?_
      refine lv_aload_n hx hb dX12_ofPerson_76 rfl (lv_at hl 1 rfl) ?_
      refine va_get (D := E.1) (ci := 10) (v := .ref (ad 6)) (C := RX12) (T := TX12) (N := 30) hx hb hts iX12 hown hK hP 0 rfl rfl 6 (by decide) (hts _ kw_745) (fun _ h9 => h9) rfl dX12_ofPerson_77 ?_
      refine lv_iload_n hx hb dX12_ofPerson_80 rfl (lv_at hl 2 rfl) ?_
      refine n_iald hx hb hK hP 4 rfl (by omega) (by decide) dX12_ofPerson_81 ?_
      refine lv_iconst (v := nI 1) hx hb dX12_ofPerson_82 (by decide) ?_
      refine lv_iload_n hx hb dX12_ofPerson_83 rfl (lv_at hl 2 rfl) ?_
      refine n_ishl hx hb (by omega) dX12_ofPerson_84 ?_
      refine n_ior hx hb dX12_ofPerson_85 ?_
      exact rz_iE hC (by rw [s_ofPerson, if_neg (by rw [nat_isP (by omega) hj]; decide), if_neg (by decide), if_neg (by decide), if_pos rfl, nI_clamp (by omega)]) dX12_ofPerson_86
    · -- switch 3
      have hl : lv_has ls 4 [(3, .int (nI (stS (N 5) (F 10) (F 11) (N 9)))), (0, .ref (ad 0)), (1, .int (nI j)), (2, .int (nI 3))] := hl
      refine lv_tableIn (off := 67) (tgt := 87) hx hb dX12_ofPerson_20 (by decide) (by decide) (by decide) (by decide) ?_
      refine lv_iload_n hx hb dX12_ofPerson_87 rfl (lv_at hl 0 rfl) ?_
      refine lv_iload_n hx hb dX12_ofPerson_88 rfl (lv_at hl 2 rfl) ?_
      refine cS_p (rest := []) hC (c_of l (stS (N 5) (F 10) (F 11) (N 9)) j (by omega) (by omega)) kw_874 sy_X12_of ⟨Nat.le_of_ble_eq_true rfl, Nat.le_of_ble_eq_true rfl⟩ ⟨rfl, rfl⟩ rfl hl.1 rfl (Nat.le_of_ble_eq_true rfl) dX12_ofPerson_89 ⟨Nat.le_of_ble_eq_true rfl, Nat.le_of_ble_eq_true rfl⟩ ?_
      have f_6 := of4_lt (stS (N 5) (F 10) (F 11) (N 9)) j
      refine lv_iconst (v := nI 1) hx hb dX12_ofPerson_92 (by decide) ?_
      refine lv_aload_n hx hb dX12_ofPerson_93 rfl (lv_at hl 1 rfl) ?_
      refine va_get (D := E.1) (ci := 10) (v := .int (nI (N 5))) (C := RX12) (T := TX12) (N := 30) hx hb hts iX12 hown hK hP 0 rfl rfl 5 (by decide) (hts _ kw_744) (fun _ h9 => h9) rfl dX12_ofPerson_94 ?_
      refine n_ishl hx hb (by omega) dX12_ofPerson_97 ?_
      refine lv_iconst (v := nI 1) hx hb dX12_ofPerson_98 (by decide) ?_
      refine n_isub hx hb (by omega) dX12_ofPerson_99 ?_
      refine n_icmp_ne (tgt := 107) hx hb (by omega) (by omega) dX12_ofPerson_100 (by decide) (fun c_7 => ?_) (fun c_7 => ?_)
      · -- t 107
        refine lv_iconst (v := nI 0) hx hb dX12_ofPerson_107 (by decide) ?_
        exact rz_iE hC (by rw [s_ofPerson, if_neg (by rw [nat_isP (by omega) hj]; decide), if_neg (by decide), if_neg (by decide), if_neg (by decide), if_pos rfl, nI_clamp (by omega), show (of4 (stS (N 5) (F 10) (F 11) (N 9)) j == 1 <<< N 5 - 1) = false from by simp [c_7]]; rfl) dX12_ofPerson_108
      · -- f 103
        refine lv_iconst (v := nI 1) hx hb dX12_ofPerson_103 (by decide) ?_
        refine lv_goto (tgt := 108) hx hb dX12_ofPerson_104 (by decide) ?_
        exact rz_iE hC (by rw [s_ofPerson, if_neg (by rw [nat_isP (by omega) hj]; decide), if_neg (by decide), if_neg (by decide), if_neg (by decide), if_pos rfl, nI_clamp (by omega), show (of4 (stS (N 5) (F 10) (F 11) (N 9)) j == 1 <<< N 5 - 1) = true from by simp [c_7]]; rfl) dX12_ofPerson_108
    · -- switch 4
      have hl : lv_has ls 4 [(3, .int (nI (stS (N 5) (F 10) (F 11) (N 9)))), (0, .ref (ad 0)), (1, .int (nI j)), (2, .int (nI 4))] := hl
      refine lv_tableIn (off := 89) (tgt := 109) hx hb dX12_ofPerson_20 (by decide) (by decide) (by decide) (by decide) ?_
      refine lv_aload_n hx hb dX12_ofPerson_109 rfl (lv_at hl 1 rfl) ?_
      refine lv_iconst (v := nI 2) hx hb dX12_ofPerson_110 (by decide) ?_
      refine cV_r (rest := []) hC (c_m_tokensNow l E ad lk tr N X F G hM 2 (by omega)) kw_880 iy_X12_tokensNow ⟨Nat.le_of_ble_eq_true rfl, Nat.le_of_ble_eq_true rfl⟩ ⟨rfl, rfl⟩ hK hP (va_recv hK hP (ci := 10) (q0 := 0) rfl rfl) rfl hl.1 rfl (Nat.le_of_ble_eq_true rfl) dX12_ofPerson_111 ⟨Nat.le_of_ble_eq_true rfl, Nat.le_of_ble_eq_true rfl⟩ ?_
      have f_8 := tokS_lt (n := N 5) (r := 2) (cP := F 10) (by omega) hMq (N 9)
      refine lv_iload_n hx hb dX12_ofPerson_114 rfl (lv_at hl 2 rfl) ?_
      refine n_ishr hx hb (by omega) (by omega) dX12_ofPerson_115 ?_
      have f_9 := shr_le (tokS (N 5) 2 (F 10) (F 11) (N 9)) j
      refine lv_iconst (v := nI 1) hx hb dX12_ofPerson_116 (by decide) ?_
      refine n_iand hx hb dX12_ofPerson_117 ?_
      have f_10 : ((tokS (N 5) 2 (F 10) (F 11) (N 9)) >>> j) &&& 1 ≤ 1 := Nat.and_le_right
      exact rz_iE hC (by rw [s_ofPerson, if_neg (by rw [nat_isP (by omega) hj]; decide), if_neg (by decide), if_neg (by decide), if_neg (by decide), if_neg (by decide), if_pos rfl, nI_clamp (by omega)]) dX12_ofPerson_118
    · -- switch 5
      have hl : lv_has ls 4 [(3, .int (nI (stS (N 5) (F 10) (F 11) (N 9)))), (0, .ref (ad 0)), (1, .int (nI j)), (2, .int (nI 5))] := hl
      refine lv_tableIn (off := 99) (tgt := 119) hx hb dX12_ofPerson_20 (by decide) (by decide) (by decide) (by decide) ?_
      refine lv_aload_n hx hb dX12_ofPerson_119 rfl (lv_at hl 1 rfl) ?_
      refine lv_iconst (v := nI 3) hx hb dX12_ofPerson_120 (by decide) ?_
      refine cV_r (rest := []) hC (c_m_tokensNow l E ad lk tr N X F G hM 3 (by omega)) kw_880 iy_X12_tokensNow ⟨Nat.le_of_ble_eq_true rfl, Nat.le_of_ble_eq_true rfl⟩ ⟨rfl, rfl⟩ hK hP (va_recv hK hP (ci := 10) (q0 := 0) rfl rfl) rfl hl.1 rfl (Nat.le_of_ble_eq_true rfl) dX12_ofPerson_121 ⟨Nat.le_of_ble_eq_true rfl, Nat.le_of_ble_eq_true rfl⟩ ?_
      have f_11 := tokS_lt (n := N 5) (r := 3) (cP := F 10) (by omega) hMq (N 9)
      refine lv_iload_n hx hb dX12_ofPerson_124 rfl (lv_at hl 2 rfl) ?_
      refine n_ishr hx hb (by omega) (by omega) dX12_ofPerson_125 ?_
      have f_12 := shr_le (tokS (N 5) 3 (F 10) (F 11) (N 9)) j
      refine lv_iconst (v := nI 1) hx hb dX12_ofPerson_126 (by decide) ?_
      refine n_iand hx hb dX12_ofPerson_127 ?_
      have f_13 : ((tokS (N 5) 3 (F 10) (F 11) (N 9)) >>> j) &&& 1 ≤ 1 := Nat.and_le_right
      exact rz_iE hC (by rw [s_ofPerson, if_neg (by rw [nat_isP (by omega) hj]; decide), if_neg (by decide), if_neg (by decide), if_neg (by decide), if_neg (by decide), if_neg (by decide), if_pos rfl, nI_clamp (by omega)]) dX12_ofPerson_128
    · -- switch 6
      refine lv_tableOut (tgt := 129) hx hb dX12_ofPerson_20 sw_3 (by decide) ?_
      refine lv_bipush (v := -2) hx hb dX12_ofPerson_129 (by decide) ?_
      exact rz_iE hC (by rw [s_ofPerson, if_neg (by rw [nat_isP (by omega) hj]; decide), if_neg (sw_ne 0 (by decide) sw_3 (by decide)), if_neg (sw_ne 1 (by decide) sw_3 (by decide)), if_neg (sw_ne 2 (by decide) sw_3 (by decide)), if_neg (sw_ne 3 (by decide) sw_3 (by decide)), if_neg (sw_ne 4 (by decide) sw_3 (by decide)), if_neg (sw_ne 5 (by decide) sw_3 (by decide))]) dX12_ofPerson_131
  · -- f 8
    refine lv_iconst (v := -1) hx hb dX12_ofPerson_8 (by decide) ?_
    exact rz_iE hC (by rw [s_ofPerson, if_pos c_1]) dX12_ofPerson_9

set_option maxHeartbeats 4000000 in
set_option maxRecDepth 100000 in
theorem c_m_ofCall (l : Launch) (E : EE) (ad : Nat → Nat) (lk : Nat) (tr : Int32) (N : Nat → Nat) (X : Nat → Nat → Int32) (F G : Nat → Nat → Nat) (hM : MOK N F) (v what : Int32) : Rd l yX12_ofCall cX12_ofCall 3 (some .int) rm_X12_ofCall E (mW E ad lk tr N X F G) [.ref (ad 0), .int v, .int what] (some (.int (s_ofCall (N 5) (N 9) (F 10) (F 11) v what))) := by
  refine mk_rd (by decide) (Nat.le_of_ble_eq_true rfl) ?_
  intro p e s m args below meth c hC hK hP ls hl
  obtain ⟨hx, hb, hr, hts, hown, hml, hlk, hN⟩ := id hC
  have hl : lv_has ls 3 [(0, .ref (ad 0)), (1, .int v), (2, .int what)] := hl
  obtain ⟨hM5, hM9, hMp, hMq, hMn⟩ := id hM
  have hn : ∀ j, j < 4 → F 6 j < 16 := fun j _ => hMn j
  refine lv_aload_n hx hb dX12_ofCall_0 rfl (lv_at hl 0 rfl) ?_
  refine lv_iload_n hx hb dX12_ofCall_1 rfl (lv_at hl 1 rfl) ?_
  refine cV_r (rest := []) hC (c_m_isCall l E ad lk tr N X F G v) kw_895 iy_X12_isCall ⟨Nat.le_of_ble_eq_true rfl, Nat.le_of_ble_eq_true rfl⟩ ⟨rfl, rfl⟩ hK hP (va_recv hK hP (ci := 10) (q0 := 0) rfl rfl) rfl hl.1 rfl (Nat.le_of_ble_eq_true rfl) dX12_ofCall_2 ⟨Nat.le_of_ble_eq_true rfl, Nat.le_of_ble_eq_true rfl⟩ ?_
  refine b_if_ne (tgt := 10) hx hb dX12_ofCall_5 (by decide) (fun c_1 => ?_) (fun c_1 => ?_)
  · -- t 10
    obtain ⟨j, hj, rfl⟩ := isP_nat (by omega) c_1
    have hl : lv_has ls 3 [(0, .ref (ad 0)), (1, .int (nI j)), (2, .int what)] := hl
    have hcp := hMp j
    have hcq := hMq j
    refine lv_iload_n hx hb dX12_ofCall_10 rfl (lv_at hl 2 rfl) ?_
    rcases sw5 what with rfl | rfl | rfl | rfl | rfl | sw_2
    · -- switch 0
      have hl : lv_has ls 3 [(0, .ref (ad 0)), (1, .int (nI j)), (2, .int (nI 0))] := hl
      refine lv_tableIn (off := 33) (tgt := 44) hx hb dX12_ofCall_11 (by decide) (by decide) (by decide) (by decide) ?_
      refine lv_aload_n hx hb dX12_ofCall_44 rfl (lv_at hl 0 rfl) ?_
      refine lv_iload_n hx hb dX12_ofCall_45 rfl (lv_at hl 1 rfl) ?_
      refine cV_r (rest := []) hC (c_m_kindOf l E ad lk tr N X F G hM j (by omega)) kw_899 iy_X12_kindOf ⟨Nat.le_of_ble_eq_true rfl, Nat.le_of_ble_eq_true rfl⟩ ⟨rfl, rfl⟩ hK hP (va_recv hK hP (ci := 10) (q0 := 0) rfl rfl) rfl hl.1 rfl (Nat.le_of_ble_eq_true rfl) dX12_ofCall_46 ⟨Nat.le_of_ble_eq_true rfl, Nat.le_of_ble_eq_true rfl⟩ ?_
      have f_3 := knd_le (N 5) (F 10) (F 11) j
      exact rz_iE hC (by rw [s_ofCall, if_neg (by rw [nat_isP (by omega) hj]; decide), if_pos rfl, nI_clamp (by omega)]) dX12_ofCall_49
    · -- switch 1
      have hl : lv_has ls 3 [(0, .ref (ad 0)), (1, .int (nI j)), (2, .int (nI 1))] := hl
      refine lv_tableIn (off := 39) (tgt := 50) hx hb dX12_ofCall_11 (by decide) (by decide) (by decide) (by decide) ?_
      refine lv_aload_n hx hb dX12_ofCall_50 rfl (lv_at hl 0 rfl) ?_
      refine va_get (D := E.1) (ci := 10) (v := .ref (ad 10)) (C := RX12) (T := TX12) (N := 30) hx hb hts iX12 hown hK hP 0 rfl rfl 10 (by decide) (hts _ kw_749) (fun _ h9 => h9) rfl dX12_ofCall_51 ?_
      refine lv_iload_n hx hb dX12_ofCall_54 rfl (lv_at hl 1 rfl) ?_
      refine n_iald hx hb hK hP 6 rfl (by omega) (by decide) dX12_ofCall_55 ?_
      exact rz_iE hC (by rw [s_ofCall, if_neg (by rw [nat_isP (by omega) hj]; decide), if_neg (by decide), if_pos rfl, nI_clamp (by omega)]) dX12_ofCall_56
    · -- switch 2
      have hl : lv_has ls 3 [(0, .ref (ad 0)), (1, .int (nI j)), (2, .int (nI 2))] := hl
      refine lv_tableIn (off := 46) (tgt := 57) hx hb dX12_ofCall_11 (by decide) (by decide) (by decide) (by decide) ?_
      refine lv_aload_n hx hb dX12_ofCall_57 rfl (lv_at hl 0 rfl) ?_
      refine va_get (D := E.1) (ci := 10) (v := .ref (ad 11)) (C := RX12) (T := TX12) (N := 30) hx hb hts iX12 hown hK hP 0 rfl rfl 11 (by decide) (hts _ kw_750) (fun _ h9 => h9) rfl dX12_ofCall_58 ?_
      refine lv_iload_n hx hb dX12_ofCall_61 rfl (lv_at hl 1 rfl) ?_
      refine n_iald hx hb hK hP 7 rfl (by omega) (by decide) dX12_ofCall_62 ?_
      exact rz_iE hC (by rw [s_ofCall, if_neg (by rw [nat_isP (by omega) hj]; decide), if_neg (by decide), if_neg (by decide), if_pos rfl, nI_clamp (by omega)]) dX12_ofCall_63
    · -- switch 3
      have hl : lv_has ls 3 [(0, .ref (ad 0)), (1, .int (nI j)), (2, .int (nI 3))] := hl
      refine lv_tableIn (off := 53) (tgt := 64) hx hb dX12_ofCall_11 (by decide) (by decide) (by decide) (by decide) ?_
      refine lv_aload_n hx hb dX12_ofCall_64 rfl (lv_at hl 0 rfl) ?_
      refine lv_iload_n hx hb dX12_ofCall_65 rfl (lv_at hl 1 rfl) ?_
      refine lv_aload_n hx hb dX12_ofCall_66 rfl (lv_at hl 0 rfl) ?_
      refine va_get (D := E.1) (ci := 10) (v := .ref (ad 10)) (C := RX12) (T := TX12) (N := 30) hx hb hts iX12 hown hK hP 0 rfl rfl 10 (by decide) (hts _ kw_749) (fun _ h9 => h9) rfl dX12_ofCall_67 ?_
      refine lv_iload_n hx hb dX12_ofCall_70 rfl (lv_at hl 1 rfl) ?_
      refine n_iald hx hb hK hP 6 rfl (by omega) (by decide) dX12_ofCall_71 ?_
      refine cV_r (rest := []) hC (c_m_learnt l E ad lk tr N X F G hM j ((F 10) j) (by omega) (by omega)) kw_903 iy_X12_learnt ⟨Nat.le_of_ble_eq_true rfl, Nat.le_of_ble_eq_true rfl⟩ ⟨rfl, rfl⟩ hK hP (va_recv hK hP (ci := 10) (q0 := 0) rfl rfl) rfl hl.1 rfl (Nat.le_of_ble_eq_true rfl) dX12_ofCall_72 ⟨Nat.le_of_ble_eq_true rfl, Nat.le_of_ble_eq_true rfl⟩ ?_
      have f_4 := lrn_lt (N 5) (F 10) (F 11) j ((F 10) j)
      exact rz_iE hC (by rw [s_ofCall, if_neg (by rw [nat_isP (by omega) hj]; decide), if_neg (by decide), if_neg (by decide), if_neg (by decide), if_pos rfl, nI_clamp (by omega)]) dX12_ofCall_75
    · -- switch 4
      have hl : lv_has ls 3 [(0, .ref (ad 0)), (1, .int (nI j)), (2, .int (nI 4))] := hl
      refine lv_tableIn (off := 65) (tgt := 76) hx hb dX12_ofCall_11 (by decide) (by decide) (by decide) (by decide) ?_
      refine lv_aload_n hx hb dX12_ofCall_76 rfl (lv_at hl 0 rfl) ?_
      refine lv_iload_n hx hb dX12_ofCall_77 rfl (lv_at hl 1 rfl) ?_
      refine lv_aload_n hx hb dX12_ofCall_78 rfl (lv_at hl 0 rfl) ?_
      refine va_get (D := E.1) (ci := 10) (v := .ref (ad 11)) (C := RX12) (T := TX12) (N := 30) hx hb hts iX12 hown hK hP 0 rfl rfl 11 (by decide) (hts _ kw_750) (fun _ h9 => h9) rfl dX12_ofCall_79 ?_
      refine lv_iload_n hx hb dX12_ofCall_82 rfl (lv_at hl 1 rfl) ?_
      refine n_iald hx hb hK hP 7 rfl (by omega) (by decide) dX12_ofCall_83 ?_
      refine cV_r (rest := []) hC (c_m_learnt l E ad lk tr N X F G hM j ((F 11) j) (by omega) (by omega)) kw_903 iy_X12_learnt ⟨Nat.le_of_ble_eq_true rfl, Nat.le_of_ble_eq_true rfl⟩ ⟨rfl, rfl⟩ hK hP (va_recv hK hP (ci := 10) (q0 := 0) rfl rfl) rfl hl.1 rfl (Nat.le_of_ble_eq_true rfl) dX12_ofCall_84 ⟨Nat.le_of_ble_eq_true rfl, Nat.le_of_ble_eq_true rfl⟩ ?_
      have f_5 := lrn_lt (N 5) (F 10) (F 11) j ((F 11) j)
      exact rz_iE hC (by rw [s_ofCall, if_neg (by rw [nat_isP (by omega) hj]; decide), if_neg (by decide), if_neg (by decide), if_neg (by decide), if_neg (by decide), if_pos rfl, nI_clamp (by omega)]) dX12_ofCall_87
    · -- switch 5
      refine lv_tableOut (tgt := 88) hx hb dX12_ofCall_11 sw_2 (by decide) ?_
      refine lv_bipush (v := -2) hx hb dX12_ofCall_88 (by decide) ?_
      exact rz_iE hC (by rw [s_ofCall, if_neg (by rw [nat_isP (by omega) hj]; decide), if_neg (sw_ne 0 (by decide) sw_2 (by decide)), if_neg (sw_ne 1 (by decide) sw_2 (by decide)), if_neg (sw_ne 2 (by decide) sw_2 (by decide)), if_neg (sw_ne 3 (by decide) sw_2 (by decide)), if_neg (sw_ne 4 (by decide) sw_2 (by decide))]) dX12_ofCall_90
  · -- f 8
    refine lv_iconst (v := -1) hx hb dX12_ofCall_8 (by decide) ?_
    exact rz_iE hC (by rw [s_ofCall, if_pos c_1]) dX12_ofCall_9

set_option maxHeartbeats 4000000 in
set_option maxRecDepth 100000 in
theorem c_m_may (l : Launch) (E : EE) (ad : Nat → Nat) (lk : Nat) (tr : Int32) (N : Nat → Nat) (X : Nat → Nat → Int32) (F G : Nat → Nat → Nat) (hM : MOK N F) (rr v : Int32) : Rd l yX12_may cX12_may 5 (some .int) rm_X12_may E (mW E ad lk tr N X F G) [.ref (ad 0), .int rr, .int v] (some (.int (s_may (N 5) (N 9) (F 6) (F 10) (F 11) rr v))) := by
  refine mk_rd (by decide) (Nat.le_of_ble_eq_true rfl) ?_
  intro p e s m args below meth c hC hK hP ls hl
  obtain ⟨hx, hb, hr, hts, hown, hml, hlk, hN⟩ := id hC
  have hl : lv_has ls 5 [(0, .ref (ad 0)), (1, .int rr), (2, .int v)] := hl
  obtain ⟨hM5, hM9, hMp, hMq, hMn⟩ := id hM
  have hn : ∀ j, j < 4 → F 6 j < 16 := fun j _ => hMn j
  refine lv_iload_n hx hb dX12_may_0 rfl (lv_at hl 1 rfl) ?_
  refine cS_p (rest := []) hC (c_m_isRule l rr) kw_918 sy_X12_isRule ⟨Nat.le_of_ble_eq_true rfl, Nat.le_of_ble_eq_true rfl⟩ ⟨rfl, rfl⟩ rfl hl.1 rfl (Nat.le_of_ble_eq_true rfl) dX12_may_1 ⟨Nat.le_of_ble_eq_true rfl, Nat.le_of_ble_eq_true rfl⟩ ?_
  refine b_if_eq (tgt := 15) hx hb dX12_may_4 (by decide) (fun c_1 => ?_) (fun c_1 => ?_)
  · -- t 15
    refine lv_iconst (v := -1) hx hb dX12_may_15 (by decide) ?_
    exact rz_iE hC (by rw [s_may, if_pos c_1]) dX12_may_16
  · -- f 7
    obtain ⟨r, hr1, rfl⟩ := isIn_nat (by decide) c_1
    have hl : lv_has ls 5 [(0, .ref (ad 0)), (1, .int (nI r)), (2, .int v)] := hl
    refine lv_aload_n hx hb dX12_may_7 rfl (lv_at hl 0 rfl) ?_
    refine lv_iload_n hx hb dX12_may_8 rfl (lv_at hl 2 rfl) ?_
    refine cV_r (rest := []) hC (c_m_isPerson l E ad lk tr N X F G v) kw_858 iy_X12_isPerson ⟨Nat.le_of_ble_eq_true rfl, Nat.le_of_ble_eq_true rfl⟩ ⟨rfl, rfl⟩ hK hP (va_recv hK hP (ci := 10) (q0 := 0) rfl rfl) rfl hl.1 rfl (Nat.le_of_ble_eq_true rfl) dX12_may_9 ⟨Nat.le_of_ble_eq_true rfl, Nat.le_of_ble_eq_true rfl⟩ ?_
    refine b_if_ne (tgt := 17) hx hb dX12_may_12 (by decide) (fun c_2 => ?_) (fun c_2 => ?_)
    · -- t 17
      obtain ⟨j, hj, rfl⟩ := isP_nat (by omega) c_2
      have hl : lv_has ls 5 [(0, .ref (ad 0)), (1, .int (nI r)), (2, .int (nI j))] := hl
      refine lv_iconst (v := nI 0) hx hb dX12_may_17 (by decide) ?_
      refine lv_istore_n (lv' := [(3, .int (nI 0)), (0, .ref (ad 0)), (1, .int (nI r)), (2, .int (nI j))]) hx hb dX12_may_18 rfl hl (by decide) rfl (fun ls hl => ?_)
      refine lv_iconst (v := nI 0) hx hb dX12_may_19 (by decide) ?_
      refine lv_istore (lv' := [(4, .int (nI 0)), (3, .int (nI 0)), (0, .ref (ad 0)), (1, .int (nI r)), (2, .int (nI j))]) hx hb dX12_may_20 hl (by decide) rfl (fun ls hl => ?_)
      have lp_3 : ∀ (n_lp_3 : Nat) (k : Nat) (hk : k ≤ N 5), N 5 - k < n_lp_3 → ∀ (ls : Array Slot), lv_has ls 5 [(0, .ref (ad 0)), (1, .int (nI r)), (2, .int (nI j)), (3, .int (nI (maySet (F 6) r (stS (N 5) (F 10) (F 11) (N 9)) (tokS (N 5) r (F 10) (F 11) (N 9)) j k))), (4, .int (nI k))] → W p l e rm_X12_may s m args below meth c s.heap [] 0 0 (MQ below (pz_Q (some (.int (s_may (N 5) (N 9) (F 6) (F 10) (F 11) (nI r) (nI j))))) args s 0 0 pz_F) (F0 m 22 ls []) := by
        intro n_lp_3
        induction n_lp_3 with
        | zero => intro k hk; intro hm_lp_3; exact absurd hm_lp_3 (Nat.not_lt_zero _)
        | succ n_lp_3 ih_lp_3 =>
          intro k hk hm_lp_3 ls hl
          refine lv_iload hx hb dX12_may_22 (lv_at hl 4 rfl) ?_
          refine lv_aload_n hx hb dX12_may_24 rfl (lv_at hl 0 rfl) ?_
          refine va_get (D := E.1) (ci := 10) (v := .int (nI (N 5))) (C := RX12) (T := TX12) (N := 30) hx hb hts iX12 hown hK hP 0 rfl rfl 5 (by decide) (hts _ kw_744) (fun _ h9 => h9) rfl dX12_may_25 ?_
          refine n_icmp_ge (tgt := 75) hx hb (by omega) (by omega) dX12_may_28 (by decide) (fun c_4 => ?_) (fun c_4 => ?_)
          · -- t 75
            refine lv_iload_n hx hb dX12_may_75 rfl (lv_at hl 3 rfl) ?_
            exact rz_iE hC (by rw [s_may, if_neg (by rw [nat_isIn (by decide) hr1]; decide), if_neg (by rw [nat_isP (by omega) hj]; decide), nI_clamp (by omega), nI_clamp (by omega), show k = N 5 by omega]) dX12_may_76
          · -- f 31
            refine lv_iload_n hx hb dX12_may_31 rfl (lv_at hl 3 rfl) ?_
            refine lv_aload_n hx hb dX12_may_32 rfl (lv_at hl 0 rfl) ?_
            refine va_get (D := E.1) (ci := 10) (v := .ref (ad 6)) (C := RX12) (T := TX12) (N := 30) hx hb hts iX12 hown hK hP 0 rfl rfl 6 (by decide) (hts _ kw_745) (fun _ h9 => h9) rfl dX12_may_33 ?_
            refine lv_iload_n hx hb dX12_may_36 rfl (lv_at hl 1 rfl) ?_
            refine lv_aload_n hx hb dX12_may_37 rfl (lv_at hl 0 rfl) ?_
            refine lv_aload_n hx hb dX12_may_38 rfl (lv_at hl 0 rfl) ?_
            refine va_get (D := E.1) (ci := 10) (v := .int (nI (N 9))) (C := RX12) (T := TX12) (N := 30) hx hb hts iX12 hown hK hP 0 rfl rfl 9 (by decide) (hts _ kw_748) (fun _ h9 => h9) rfl dX12_may_39 ?_
            refine cV_r (rest := [.int (nI r), .ref (ad 6), .int (nI (maySet (F 6) r (stS (N 5) (F 10) (F 11) (N 9)) (tokS (N 5) r (F 10) (F 11) (N 9)) j k))]) hC (c_m_stateAt l E ad lk tr N X F G hM (N 9) (by omega)) kw_862 iy_X12_stateAt ⟨Nat.le_of_ble_eq_true rfl, Nat.le_of_ble_eq_true rfl⟩ ⟨rfl, rfl⟩ hK hP (va_recv hK hP (ci := 10) (q0 := 0) rfl rfl) rfl hl.1 rfl (Nat.le_of_ble_eq_true rfl) dX12_may_42 ⟨Nat.le_of_ble_eq_true rfl, Nat.le_of_ble_eq_true rfl⟩ ?_
            have f_5 := stS_lt (n := N 5) hMp hMq (N 9)
            refine lv_aload_n hx hb dX12_may_45 rfl (lv_at hl 0 rfl) ?_
            refine lv_iload_n hx hb dX12_may_46 rfl (lv_at hl 1 rfl) ?_
            refine cV_r (rest := [.int (nI (stS (N 5) (F 10) (F 11) (N 9))), .int (nI r), .ref (ad 6), .int (nI (maySet (F 6) r (stS (N 5) (F 10) (F 11) (N 9)) (tokS (N 5) r (F 10) (F 11) (N 9)) j k))]) hC (c_m_tokensNow l E ad lk tr N X F G hM r (by omega)) kw_880 iy_X12_tokensNow ⟨Nat.le_of_ble_eq_true rfl, Nat.le_of_ble_eq_true rfl⟩ ⟨rfl, rfl⟩ hK hP (va_recv hK hP (ci := 10) (q0 := 0) rfl rfl) rfl hl.1 rfl (Nat.le_of_ble_eq_true rfl) dX12_may_47 ⟨Nat.le_of_ble_eq_true rfl, Nat.le_of_ble_eq_true rfl⟩ ?_
            have f_6 := tokS_lt (n := N 5) (r := r) (cP := F 10) (by omega) hMq (N 9)
            refine lv_iload_n hx hb dX12_may_50 rfl (lv_at hl 2 rfl) ?_
            refine lv_iload hx hb dX12_may_51 (lv_at hl 4 rfl) ?_
            refine cS_r (rest := [.int (nI (maySet (F 6) r (stS (N 5) (F 10) (F 11) (N 9)) (tokS (N 5) r (F 10) (F 11) (N 9)) j k))]) hC (c_may l E (ad 6) (F 6) r (stS (N 5) (F 10) (F 11) (N 9)) (tokS (N 5) r (F 10) (F 11) (N 9)) j k (by omega) (by omega) (by omega) (by omega) (by omega) hn) kw_921 sy_X12_mayRing ⟨Nat.le_of_ble_eq_true rfl, Nat.le_of_ble_eq_true rfl⟩ ⟨rfl, rfl⟩ hK (hP.sub (ws' := aW E (ad 6) (F 6)) [4] rfl) rfl hl.1 rfl (Nat.le_of_ble_eq_true rfl) dX12_may_53 ⟨Nat.le_of_ble_eq_true rfl, Nat.le_of_ble_eq_true rfl⟩ ?_
            refine b_if_eq (tgt := 66) hx hb dX12_may_56 (by decide) (fun c_7 => ?_) (fun c_7 => ?_)
            · -- t 66
              refine lv_iconst (v := nI 0) hx hb dX12_may_66 (by decide) ?_
              refine n_ior hx hb dX12_may_67 ?_
              refine lv_istore_n (lv' := [(3, .int (nI ((maySet (F 6) r (stS (N 5) (F 10) (F 11) (N 9)) (tokS (N 5) r (F 10) (F 11) (N 9)) j k) ||| 0))), (0, .ref (ad 0)), (1, .int (nI r)), (2, .int (nI j)), (4, .int (nI k))]) hx hb dX12_may_68 rfl hl (by decide) rfl (fun ls hl => ?_)
              refine lv_iinc (v := nI (k + 1)) (lv' := [(4, .int (nI (k + 1))), (3, .int (nI ((maySet (F 6) r (stS (N 5) (F 10) (F 11) (N 9)) (tokS (N 5) r (F 10) (F 11) (N 9)) j k) ||| 0))), (0, .ref (ad 0)), (1, .int (nI r)), (2, .int (nI j))]) hx hb dX12_may_69 hl (k := 4) rfl (ii_1 _) (by decide) rfl (fun ls hl => ?_)
              refine lv_goto (tgt := 22) hx hb dX12_may_72 (by decide) ?_
              exact ih_lp_3 (k + 1) (by omega) (by omega) ls (by have h9 : lv_has ls 5 [(0, .ref (ad 0)), (1, .int (nI r)), (2, .int (nI j)), (3, .int (nI ((maySet (F 6) r (stS (N 5) (F 10) (F 11) (N 9)) (tokS (N 5) r (F 10) (F 11) (N 9)) j k) ||| 0))), (4, .int (nI (k + 1)))] := lv_sub hl [2, 3, 4, 1, 0] rfl; simpa [maySet, c_1, c_2, c_4, c_7] using h9)
            · -- f 59
              refine lv_iconst (v := nI 1) hx hb dX12_may_59 (by decide) ?_
              refine lv_iload hx hb dX12_may_60 (lv_at hl 4 rfl) ?_
              refine n_ishl hx hb (by omega) dX12_may_62 ?_
              refine lv_goto (tgt := 67) hx hb dX12_may_63 (by decide) ?_
              refine n_ior hx hb dX12_may_67 ?_
              refine lv_istore_n (lv' := [(3, .int (nI ((maySet (F 6) r (stS (N 5) (F 10) (F 11) (N 9)) (tokS (N 5) r (F 10) (F 11) (N 9)) j k) ||| (1 <<< k)))), (0, .ref (ad 0)), (1, .int (nI r)), (2, .int (nI j)), (4, .int (nI k))]) hx hb dX12_may_68 rfl hl (by decide) rfl (fun ls hl => ?_)
              refine lv_iinc (v := nI (k + 1)) (lv' := [(4, .int (nI (k + 1))), (3, .int (nI ((maySet (F 6) r (stS (N 5) (F 10) (F 11) (N 9)) (tokS (N 5) r (F 10) (F 11) (N 9)) j k) ||| (1 <<< k)))), (0, .ref (ad 0)), (1, .int (nI r)), (2, .int (nI j))]) hx hb dX12_may_69 hl (k := 4) rfl (ii_1 _) (by decide) rfl (fun ls hl => ?_)
              refine lv_goto (tgt := 22) hx hb dX12_may_72 (by decide) ?_
              exact ih_lp_3 (k + 1) (by omega) (by omega) ls (by have h9 : lv_has ls 5 [(0, .ref (ad 0)), (1, .int (nI r)), (2, .int (nI j)), (3, .int (nI ((maySet (F 6) r (stS (N 5) (F 10) (F 11) (N 9)) (tokS (N 5) r (F 10) (F 11) (N 9)) j k) ||| (1 <<< k)))), (4, .int (nI (k + 1)))] := lv_sub hl [2, 3, 4, 1, 0] rfl; simpa [maySet, c_1, c_2, c_4, c_7] using h9)
      exact lp_3 _ 0 (by omega) (Nat.lt_succ_self _) ls (lv_sub hl [2, 3, 4, 1, 0] rfl)
    · -- f 15
      refine lv_iconst (v := -1) hx hb dX12_may_15 (by decide) ?_
      exact rz_iE hC (by rw [s_may, if_neg (by rw [nat_isIn (by decide) hr1]; decide), if_pos c_2]) dX12_may_16

set_option maxHeartbeats 4000000 in
set_option maxRecDepth 100000 in
theorem c_m_joined (l : Launch) (E : EE) (ad : Nat → Nat) (lk : Nat) (tr : Int32) (N : Nat → Nat) (X : Nat → Nat → Int32) (F G : Nat → Nat → Nat) (hM : MOK N F)  : Rd l yX12_joined cX12_joined 1 (some .int) rm_X12_joined E (mW E ad lk tr N X F G) [.ref (ad 0)] (some (.int (s_joined (N 5) (F 6)))) := by
  refine mk_rd (by decide) (Nat.le_of_ble_eq_true rfl) ?_
  intro p e s m args below meth c hC hK hP ls hl
  obtain ⟨hx, hb, hr, hts, hown, hml, hlk, hN⟩ := id hC
  have hl : lv_has ls 1 [(0, .ref (ad 0))] := hl
  obtain ⟨hM5, hM9, hMp, hMq, hMn⟩ := id hM
  have hn : ∀ j, j < 4 → F 6 j < 16 := fun j _ => hMn j
  refine lv_aload_n hx hb dX12_joined_0 rfl (lv_at hl 0 rfl) ?_
  refine va_get (D := E.1) (ci := 10) (v := .int (nI (N 5))) (C := RX12) (T := TX12) (N := 30) hx hb hts iX12 hown hK hP 0 rfl rfl 5 (by decide) (hts _ kw_744) (fun _ h9 => h9) rfl dX12_joined_1 ?_
  refine n_if_ne (tgt := 12) hx hb (by omega) dX12_joined_4 (by decide) (fun c_1 => ?_) (fun c_1 => ?_)
  · -- t 12
    refine lv_aload_n hx hb dX12_joined_12 rfl (lv_at hl 0 rfl) ?_
    refine va_get (D := E.1) (ci := 10) (v := .ref (ad 6)) (C := RX12) (T := TX12) (N := 30) hx hb hts iX12 hown hK hP 0 rfl rfl 6 (by decide) (hts _ kw_745) (fun _ h9 => h9) rfl dX12_joined_13 ?_
    refine lv_aload_n hx hb dX12_joined_16 rfl (lv_at hl 0 rfl) ?_
    refine va_get (D := E.1) (ci := 10) (v := .int (nI (N 5))) (C := RX12) (T := TX12) (N := 30) hx hb hts iX12 hown hK hP 0 rfl rfl 5 (by decide) (hts _ kw_744) (fun _ h9 => h9) rfl dX12_joined_17 ?_
    refine cS_r (rest := []) hC (c_join l E (ad 6) (F 6) (N 5) (by omega) hn) kw_1013 sy_X12_isJoined ⟨Nat.le_of_ble_eq_true rfl, Nat.le_of_ble_eq_true rfl⟩ ⟨rfl, rfl⟩ hK (hP.sub (ws' := aW E (ad 6) (F 6)) [4] rfl) rfl hl.1 rfl (Nat.le_of_ble_eq_true rfl) dX12_joined_20 ⟨Nat.le_of_ble_eq_true rfl, Nat.le_of_ble_eq_true rfl⟩ ?_
    refine b_if_eq (tgt := 30) hx hb dX12_joined_23 (by decide) (fun c_2 => ?_) (fun c_2 => ?_)
    · -- t 30
      refine lv_iconst (v := nI 0) hx hb dX12_joined_30 (by decide) ?_
      exact rz_iE hC (by rw [s_joined, if_neg c_1, c_2]; rfl) dX12_joined_31
    · -- f 26
      refine lv_iconst (v := nI 1) hx hb dX12_joined_26 (by decide) ?_
      refine lv_goto (tgt := 31) hx hb dX12_joined_27 (by decide) ?_
      exact rz_iE hC (by rw [s_joined, if_neg c_1, c_2]; rfl) dX12_joined_31
  · -- f 7
    refine lv_bipush (v := -3) hx hb dX12_joined_7 (by decide) ?_
    refine lv_goto (tgt := 31) hx hb dX12_joined_9 (by decide) ?_
    exact rz_iE hC (by rw [s_joined, if_pos c_1]) dX12_joined_31

set_option maxHeartbeats 4000000 in
set_option maxRecDepth 100000 in
theorem c_m_sun (l : Launch) (E : EE) (ad : Nat → Nat) (lk : Nat) (tr : Int32) (N : Nat → Nat) (X : Nat → Nat → Int32) (F G : Nat → Nat → Nat) (hM : MOK N F)  : Rd l yX12_sun cX12_sun 6 (some .int) rm_X12_sun E (mW E ad lk tr N X F G) [.ref (ad 0)] (some (.int (s_sun (N 5) (F 6)))) := by
  refine mk_rd (by decide) (Nat.le_of_ble_eq_true rfl) ?_
  intro p e s m args below meth c hC hK hP ls hl
  obtain ⟨hx, hb, hr, hts, hown, hml, hlk, hN⟩ := id hC
  have hl : lv_has ls 6 [(0, .ref (ad 0))] := hl
  obtain ⟨hM5, hM9, hMp, hMq, hMn⟩ := id hM
  have hn : ∀ j, j < 4 → F 6 j < 16 := fun j _ => hMn j
  refine lv_aload_n hx hb dX12_sun_0 rfl (lv_at hl 0 rfl) ?_
  refine va_get (D := E.1) (ci := 10) (v := .int (nI (N 5))) (C := RX12) (T := TX12) (N := 30) hx hb hts iX12 hown hK hP 0 rfl rfl 5 (by decide) (hts _ kw_744) (fun _ h9 => h9) rfl dX12_sun_1 ?_
  refine n_if_ne (tgt := 10) hx hb (by omega) dX12_sun_4 (by decide) (fun c_1 => ?_) (fun c_1 => ?_)
  · -- t 10
    refine lv_iconst (v := nI 0) hx hb dX12_sun_10 (by decide) ?_
    refine lv_istore_n (lv' := [(1, .int (nI 0)), (0, .ref (ad 0))]) hx hb dX12_sun_11 rfl hl (by decide) rfl (fun ls hl => ?_)
    refine lv_iconst (v := nI 0) hx hb dX12_sun_12 (by decide) ?_
    refine lv_istore_n (lv' := [(2, .int (nI 0)), (1, .int (nI 0)), (0, .ref (ad 0))]) hx hb dX12_sun_13 rfl hl (by decide) rfl (fun ls hl => ?_)
    have lp_2 : ∀ (n_lp_2 : Nat) (k : Nat) (hk : k ≤ N 5), N 5 - k < n_lp_2 → ∀ (ls : Array Slot), lv_has ls 6 [(0, .ref (ad 0)), (1, .int (nI (wantK (F 6) k))), (2, .int (nI k))] → W p l e rm_X12_sun s m args below meth c s.heap [] 0 0 (MQ below (pz_Q (some (.int (s_sun (N 5) (F 6))))) args s 0 0 pz_F) (F0 m 14 ls []) := by
      intro n_lp_2
      induction n_lp_2 with
      | zero => intro k hk; intro hm_lp_2; exact absurd hm_lp_2 (Nat.not_lt_zero _)
      | succ n_lp_2 ih_lp_2 =>
        intro k hk hm_lp_2 ls hl
        have hb0 := hMn k
        refine lv_iload_n hx hb dX12_sun_14 rfl (lv_at hl 2 rfl) ?_
        refine lv_aload_n hx hb dX12_sun_15 rfl (lv_at hl 0 rfl) ?_
        refine va_get (D := E.1) (ci := 10) (v := .int (nI (N 5))) (C := RX12) (T := TX12) (N := 30) hx hb hts iX12 hown hK hP 0 rfl rfl 5 (by decide) (hts _ kw_744) (fun _ h9 => h9) rfl dX12_sun_16 ?_
        refine n_icmp_ge (tgt := 47) hx hb (by omega) (by omega) dX12_sun_19 (by decide) (fun c_3 => ?_) (fun c_3 => ?_)
        · -- t 47
          refine lv_iconst (v := nI 0) hx hb dX12_sun_47 (by decide) ?_
          refine lv_istore_n (lv' := [(2, .int (nI 0)), (0, .ref (ad 0)), (1, .int (nI (wantK (F 6) k)))]) hx hb dX12_sun_48 rfl hl (by decide) rfl (fun ls hl => ?_)
          have lp_4 : ∀ (n_lp_4 : Nat) (k2 : Nat) (hk2 : k2 ≤ N 5) (hk2b : ∀ pp, pp < k2 → wantK (F 6) (N 5) &&& (sA (F 6) (N 5) pp (N 5) ^^^ 4294967295) = 0), N 5 - k2 < n_lp_4 → ∀ (ls : Array Slot), lv_has ls 6 [(0, .ref (ad 0)), (1, .int (nI (wantK (F 6) (N 5)))), (2, .int (nI k2))] → W p l e rm_X12_sun s m args below meth c s.heap [] 0 0 (MQ below (pz_Q (some (.int (s_sun (N 5) (F 6))))) args s 0 0 pz_F) (F0 m 49 ls []) := by
            intro n_lp_4
            induction n_lp_4 with
            | zero => intro k2 hk2 hk2b; intro hm_lp_4; exact absurd hm_lp_4 (Nat.not_lt_zero _)
            | succ n_lp_4 ih_lp_4 =>
              intro k2 hk2 hk2b hm_lp_4 ls hl
              refine lv_iload_n hx hb dX12_sun_49 rfl (lv_at hl 2 rfl) ?_
              refine lv_aload_n hx hb dX12_sun_50 rfl (lv_at hl 0 rfl) ?_
              refine va_get (D := E.1) (ci := 10) (v := .int (nI (N 5))) (C := RX12) (T := TX12) (N := 30) hx hb hts iX12 hown hK hP 0 rfl rfl 5 (by decide) (hts _ kw_744) (fun _ h9 => h9) rfl dX12_sun_51 ?_
              refine n_icmp_ge (tgt := 136) hx hb (by omega) (by omega) dX12_sun_54 (by decide) (fun c_5 => ?_) (fun c_5 => ?_)
              · -- t 136
                refine lv_iconst (v := nI 1) hx hb dX12_sun_136 (by decide) ?_
                exact rz_iE hC (by rw [s_sun, if_neg c_1, sunM, decide_eq_true (fun pp h => hk2b pp (by omega))]; rfl) dX12_sun_137
              · -- f 57
                refine lv_iconst (v := nI 1) hx hb dX12_sun_57 (by decide) ?_
                refine lv_iload_n hx hb dX12_sun_58 rfl (lv_at hl 2 rfl) ?_
                refine n_ishl hx hb (by omega) dX12_sun_59 ?_
                refine lv_istore_n (lv' := [(3, .int (nI (1 <<< k2))), (0, .ref (ad 0)), (1, .int (nI (wantK (F 6) (N 5)))), (2, .int (nI k2))]) hx hb dX12_sun_60 rfl hl (by decide) rfl (fun ls hl => ?_)
                refine lv_iconst (v := nI 0) hx hb dX12_sun_61 (by decide) ?_
                refine lv_istore (lv' := [(4, .int (nI 0)), (3, .int (nI (1 <<< k2))), (0, .ref (ad 0)), (1, .int (nI (wantK (F 6) (N 5)))), (2, .int (nI k2))]) hx hb dX12_sun_62 hl (by decide) rfl (fun ls hl => ?_)
                have lp_6 : ∀ (n_lp_6 : Nat) (k3 : Nat) (hk3 : k3 ≤ N 5), N 5 - k3 < n_lp_6 → ∀ (ls : Array Slot), lv_has ls 6 [(0, .ref (ad 0)), (1, .int (nI (wantK (F 6) (N 5)))), (2, .int (nI k2)), (3, .int (nI (sA (F 6) (N 5) k2 k3))), (4, .int (nI k3))] → W p l e rm_X12_sun s m args below meth c s.heap [] 0 0 (MQ below (pz_Q (some (.int (s_sun (N 5) (F 6))))) args s 0 0 pz_F) (F0 m 64 ls []) := by
                  intro n_lp_6
                  induction n_lp_6 with
                  | zero => intro k3 hk3; intro hm_lp_6; exact absurd hm_lp_6 (Nat.not_lt_zero _)
                  | succ n_lp_6 ih_lp_6 =>
                    intro k3 hk3 hm_lp_6 ls hl
                    refine lv_iload hx hb dX12_sun_64 (lv_at hl 4 rfl) ?_
                    refine lv_aload_n hx hb dX12_sun_66 rfl (lv_at hl 0 rfl) ?_
                    refine va_get (D := E.1) (ci := 10) (v := .int (nI (N 5))) (C := RX12) (T := TX12) (N := 30) hx hb hts iX12 hown hK hP 0 rfl rfl 5 (by decide) (hts _ kw_744) (fun _ h9 => h9) rfl dX12_sun_67 ?_
                    refine n_icmp_ge (tgt := 120) hx hb (by omega) (by omega) dX12_sun_70 (by decide) (fun c_7 => ?_) (fun c_7 => ?_)
                    · -- t 120
                      have hw1 := wantK_lt (F 6) (N 5) (by omega)
                      have hw2 : wantK (F 6) (N 5) &&& (sA (F 6) (N 5) k2 k3 ^^^ 4294967295) ≤ wantK (F 6) (N 5) := Nat.and_le_left
                      refine lv_iload_n hx hb dX12_sun_120 rfl (lv_at hl 1 rfl) ?_
                      refine lv_iload_n hx hb dX12_sun_121 rfl (lv_at hl 3 rfl) ?_
                      refine lv_iconst (v := -1) hx hb dX12_sun_122 (by decide) ?_
                      refine n_ixor (y := 4294967295) hx hb dX12_sun_123 ?_
                      refine n_iand hx hb dX12_sun_124 ?_
                      refine n_if_eq (tgt := 130) hx hb (by omega) dX12_sun_125 (by decide) (fun c_8 => ?_) (fun c_8 => ?_)
                      · -- t 130
                        refine lv_iinc (v := nI (k2 + 1)) (lv' := [(2, .int (nI (k2 + 1))), (0, .ref (ad 0)), (1, .int (nI (wantK (F 6) (N 5)))), (3, .int (nI (sA (F 6) (N 5) k2 k3))), (4, .int (nI k3))]) hx hb dX12_sun_130 hl (k := 2) rfl (ii_1 _) (by decide) rfl (fun ls hl => ?_)
                        refine lv_goto (tgt := 49) hx hb dX12_sun_133 (by decide) ?_
                        exact ih_lp_4 (k2 + 1) (by omega) (fun pp h => (by rcases Nat.lt_or_ge pp k2 with h6 | h6; exact hk2b pp h6; rw [show pp = k2 by omega]; rw [show k3 = N 5 by omega] at c_8; exact c_8)) (by omega) ls (lv_sub hl [1, 2, 0] rfl)
                      · -- f 128
                        refine lv_iconst (v := nI 0) hx hb dX12_sun_128 (by decide) ?_
                        exact rz_iE hC (by rw [s_sun, if_neg c_1, sunM, decide_eq_false (fun h => c_8 (by rw [show k3 = N 5 by omega]; exact h k2 (by omega)))]; rfl) dX12_sun_129
                    · -- f 73
                      refine lv_iconst (v := nI 0) hx hb dX12_sun_73 (by decide) ?_
                      refine lv_istore (lv' := [(5, .int (nI 0)), (0, .ref (ad 0)), (1, .int (nI (wantK (F 6) (N 5)))), (2, .int (nI k2)), (3, .int (nI (sA (F 6) (N 5) k2 k3))), (4, .int (nI k3))]) hx hb dX12_sun_74 hl (by decide) rfl (fun ls hl => ?_)
                      have lp_9 : ∀ (n_lp_9 : Nat) (k4 : Nat) (hk4 : k4 ≤ N 5), N 5 - k4 < n_lp_9 → ∀ (ls : Array Slot), lv_has ls 6 [(0, .ref (ad 0)), (1, .int (nI (wantK (F 6) (N 5)))), (2, .int (nI k2)), (3, .int (nI (sQ (F 6) (sA (F 6) (N 5) k2 k3) k4))), (4, .int (nI k3)), (5, .int (nI k4))] → W p l e rm_X12_sun s m args below meth c s.heap [] 0 0 (MQ below (pz_Q (some (.int (s_sun (N 5) (F 6))))) args s 0 0 pz_F) (F0 m 76 ls []) := by
                        intro n_lp_9
                        induction n_lp_9 with
                        | zero => intro k4 hk4; intro hm_lp_9; exact absurd hm_lp_9 (Nat.not_lt_zero _)
                        | succ n_lp_9 ih_lp_9 =>
                          intro k4 hk4 hm_lp_9 ls hl
                          have hb4 := sQ_lt hMn (sA_lt hMn (n := N 5) (pp := k2) (by omega) k3) k4
                          refine lv_iload hx hb dX12_sun_76 (lv_at hl 5 rfl) ?_
                          refine lv_aload_n hx hb dX12_sun_78 rfl (lv_at hl 0 rfl) ?_
                          refine va_get (D := E.1) (ci := 10) (v := .int (nI (N 5))) (C := RX12) (T := TX12) (N := 30) hx hb hts iX12 hown hK hP 0 rfl rfl 5 (by decide) (hts _ kw_744) (fun _ h9 => h9) rfl dX12_sun_79 ?_
                          refine n_icmp_ge (tgt := 114) hx hb (by omega) (by omega) dX12_sun_82 (by decide) (fun c_10 => ?_) (fun c_10 => ?_)
                          · -- t 114
                            refine lv_iinc (v := nI (k3 + 1)) (lv' := [(4, .int (nI (k3 + 1))), (0, .ref (ad 0)), (1, .int (nI (wantK (F 6) (N 5)))), (2, .int (nI k2)), (3, .int (nI (sQ (F 6) (sA (F 6) (N 5) k2 k3) k4))), (5, .int (nI k4))]) hx hb dX12_sun_114 hl (k := 4) rfl (ii_1 _) (by decide) rfl (fun ls hl => ?_)
                            refine lv_goto (tgt := 64) hx hb dX12_sun_117 (by decide) ?_
                            exact ih_lp_6 (k3 + 1) (by omega) (by omega) ls (by have h9 : lv_has ls 6 [(0, .ref (ad 0)), (1, .int (nI (wantK (F 6) (N 5)))), (2, .int (nI k2)), (3, .int (nI (sQ (F 6) (sA (F 6) (N 5) k2 k3) k4))), (4, .int (nI (k3 + 1)))] := lv_sub hl [1, 2, 3, 4, 0] rfl; rw [show k4 = N 5 by omega] at h9; exact h9)
                          · -- f 85
                            refine lv_iload_n hx hb dX12_sun_85 rfl (lv_at hl 3 rfl) ?_
                            refine lv_iload_n hx hb dX12_sun_86 rfl (lv_at hl 3 rfl) ?_
                            refine lv_iload hx hb dX12_sun_87 (lv_at hl 5 rfl) ?_
                            refine cS_p (rest := [.int (nI (sQ (F 6) (sA (F 6) (N 5) k2 k3) k4))]) hC (c_m_has l (sQ (F 6) (sA (F 6) (N 5) k2 k3) k4) k4 (by omega) (by omega)) kw_851 sy_X12_has ⟨Nat.le_of_ble_eq_true rfl, Nat.le_of_ble_eq_true rfl⟩ ⟨rfl, rfl⟩ rfl hl.1 rfl (Nat.le_of_ble_eq_true rfl) dX12_sun_89 ⟨Nat.le_of_ble_eq_true rfl, Nat.le_of_ble_eq_true rfl⟩ ?_
                            refine b_if_eq (tgt := 105) hx hb dX12_sun_92 (by decide) (fun c_11 => ?_) (fun c_11 => ?_)
                            · -- t 105
                              refine lv_iconst (v := nI 0) hx hb dX12_sun_105 (by decide) ?_
                              refine n_ior hx hb dX12_sun_106 ?_
                              refine lv_istore_n (lv' := [(3, .int (nI ((sQ (F 6) (sA (F 6) (N 5) k2 k3) k4) ||| 0))), (0, .ref (ad 0)), (1, .int (nI (wantK (F 6) (N 5)))), (2, .int (nI k2)), (4, .int (nI k3)), (5, .int (nI k4))]) hx hb dX12_sun_107 rfl hl (by decide) rfl (fun ls hl => ?_)
                              refine lv_iinc (v := nI (k4 + 1)) (lv' := [(5, .int (nI (k4 + 1))), (3, .int (nI ((sQ (F 6) (sA (F 6) (N 5) k2 k3) k4) ||| 0))), (0, .ref (ad 0)), (1, .int (nI (wantK (F 6) (N 5)))), (2, .int (nI k2)), (4, .int (nI k3))]) hx hb dX12_sun_108 hl (k := 5) rfl (ii_1 _) (by decide) rfl (fun ls hl => ?_)
                              refine lv_goto (tgt := 76) hx hb dX12_sun_111 (by decide) ?_
                              exact ih_lp_9 (k4 + 1) (by omega) (by omega) ls (by have h9 : lv_has ls 6 [(0, .ref (ad 0)), (1, .int (nI (wantK (F 6) (N 5)))), (2, .int (nI k2)), (3, .int (nI ((sQ (F 6) (sA (F 6) (N 5) k2 k3) k4) ||| 0))), (4, .int (nI k3)), (5, .int (nI (k4 + 1)))] := lv_sub hl [2, 3, 4, 1, 5, 0] rfl; simpa [sQ, c_1, c_3, c_5, c_7, c_10, c_11] using h9)
                            · -- f 95
                              refine lv_aload_n hx hb dX12_sun_95 rfl (lv_at hl 0 rfl) ?_
                              refine va_get (D := E.1) (ci := 10) (v := .ref (ad 6)) (C := RX12) (T := TX12) (N := 30) hx hb hts iX12 hown hK hP 0 rfl rfl 6 (by decide) (hts _ kw_745) (fun _ h9 => h9) rfl dX12_sun_96 ?_
                              refine lv_iload hx hb dX12_sun_99 (lv_at hl 5 rfl) ?_
                              refine n_iald hx hb hK hP 4 rfl (by omega) (by decide) dX12_sun_101 ?_
                              refine lv_goto (tgt := 106) hx hb dX12_sun_102 (by decide) ?_
                              refine n_ior hx hb dX12_sun_106 ?_
                              refine lv_istore_n (lv' := [(3, .int (nI ((sQ (F 6) (sA (F 6) (N 5) k2 k3) k4) ||| ((F 6) k4)))), (0, .ref (ad 0)), (1, .int (nI (wantK (F 6) (N 5)))), (2, .int (nI k2)), (4, .int (nI k3)), (5, .int (nI k4))]) hx hb dX12_sun_107 rfl hl (by decide) rfl (fun ls hl => ?_)
                              refine lv_iinc (v := nI (k4 + 1)) (lv' := [(5, .int (nI (k4 + 1))), (3, .int (nI ((sQ (F 6) (sA (F 6) (N 5) k2 k3) k4) ||| ((F 6) k4)))), (0, .ref (ad 0)), (1, .int (nI (wantK (F 6) (N 5)))), (2, .int (nI k2)), (4, .int (nI k3))]) hx hb dX12_sun_108 hl (k := 5) rfl (ii_1 _) (by decide) rfl (fun ls hl => ?_)
                              refine lv_goto (tgt := 76) hx hb dX12_sun_111 (by decide) ?_
                              exact ih_lp_9 (k4 + 1) (by omega) (by omega) ls (by have h9 : lv_has ls 6 [(0, .ref (ad 0)), (1, .int (nI (wantK (F 6) (N 5)))), (2, .int (nI k2)), (3, .int (nI ((sQ (F 6) (sA (F 6) (N 5) k2 k3) k4) ||| ((F 6) k4)))), (4, .int (nI k3)), (5, .int (nI (k4 + 1)))] := lv_sub hl [2, 3, 4, 1, 5, 0] rfl; simpa [sQ, c_1, c_3, c_5, c_7, c_10, c_11] using h9)
                      exact lp_9 _ 0 (by omega) (Nat.lt_succ_self _) ls (lv_sub hl [1, 2, 3, 4, 5, 0] rfl)
                exact lp_6 _ 0 (by omega) (Nat.lt_succ_self _) ls (lv_sub hl [2, 3, 4, 1, 0] rfl)
          exact lp_4 _ 0 (by omega) (fun pp h => absurd h (by omega)) (Nat.lt_succ_self _) ls (by have h9 : lv_has ls 6 [(0, .ref (ad 0)), (1, .int (nI (wantK (F 6) k))), (2, .int (nI 0))] := lv_sub hl [1, 2, 0] rfl; rw [show k = N 5 by omega] at h9; exact h9)
        · -- f 22
          refine lv_iload_n hx hb dX12_sun_22 rfl (lv_at hl 1 rfl) ?_
          refine lv_aload_n hx hb dX12_sun_23 rfl (lv_at hl 0 rfl) ?_
          refine va_get (D := E.1) (ci := 10) (v := .ref (ad 6)) (C := RX12) (T := TX12) (N := 30) hx hb hts iX12 hown hK hP 0 rfl rfl 6 (by decide) (hts _ kw_745) (fun _ h9 => h9) rfl dX12_sun_24 ?_
          refine lv_iload_n hx hb dX12_sun_27 rfl (lv_at hl 2 rfl) ?_
          refine n_iald hx hb hK hP 4 rfl (by omega) (by decide) dX12_sun_28 ?_
          refine n_if_eq (tgt := 38) hx hb (by omega) dX12_sun_29 (by decide) (fun c_12 => ?_) (fun c_12 => ?_)
          · -- t 38
            refine lv_iconst (v := nI 0) hx hb dX12_sun_38 (by decide) ?_
            refine n_ior hx hb dX12_sun_39 ?_
            refine lv_istore_n (lv' := [(1, .int (nI ((wantK (F 6) k) ||| 0))), (0, .ref (ad 0)), (2, .int (nI k))]) hx hb dX12_sun_40 rfl hl (by decide) rfl (fun ls hl => ?_)
            refine lv_iinc (v := nI (k + 1)) (lv' := [(2, .int (nI (k + 1))), (1, .int (nI ((wantK (F 6) k) ||| 0))), (0, .ref (ad 0))]) hx hb dX12_sun_41 hl (k := 2) rfl (ii_1 _) (by decide) rfl (fun ls hl => ?_)
            refine lv_goto (tgt := 14) hx hb dX12_sun_44 (by decide) ?_
            exact ih_lp_2 (k + 1) (by omega) (by omega) ls (by have h9 : lv_has ls 6 [(0, .ref (ad 0)), (1, .int (nI ((wantK (F 6) k) ||| 0))), (2, .int (nI (k + 1)))] := lv_sub hl [2, 1, 0] rfl; simpa [wantK, c_1, c_3, c_12] using h9)
          · -- f 32
            refine lv_iconst (v := nI 1) hx hb dX12_sun_32 (by decide) ?_
            refine lv_iload_n hx hb dX12_sun_33 rfl (lv_at hl 2 rfl) ?_
            refine n_ishl hx hb (by omega) dX12_sun_34 ?_
            refine lv_goto (tgt := 39) hx hb dX12_sun_35 (by decide) ?_
            refine n_ior hx hb dX12_sun_39 ?_
            refine lv_istore_n (lv' := [(1, .int (nI ((wantK (F 6) k) ||| (1 <<< k)))), (0, .ref (ad 0)), (2, .int (nI k))]) hx hb dX12_sun_40 rfl hl (by decide) rfl (fun ls hl => ?_)
            refine lv_iinc (v := nI (k + 1)) (lv' := [(2, .int (nI (k + 1))), (1, .int (nI ((wantK (F 6) k) ||| (1 <<< k)))), (0, .ref (ad 0))]) hx hb dX12_sun_41 hl (k := 2) rfl (ii_1 _) (by decide) rfl (fun ls hl => ?_)
            refine lv_goto (tgt := 14) hx hb dX12_sun_44 (by decide) ?_
            exact ih_lp_2 (k + 1) (by omega) (by omega) ls (by have h9 : lv_has ls 6 [(0, .ref (ad 0)), (1, .int (nI ((wantK (F 6) k) ||| (1 <<< k)))), (2, .int (nI (k + 1)))] := lv_sub hl [2, 1, 0] rfl; simpa [wantK, c_1, c_3, c_12] using h9)
    exact lp_2 _ 0 (by omega) (Nat.lt_succ_self _) ls (lv_sub hl [2, 1, 0] rfl)
  · -- f 7
    refine lv_bipush (v := -3) hx hb dX12_sun_7 (by decide) ?_
    exact rz_iE hC (by rw [s_sun, if_pos c_1]) dX12_sun_9

set_option maxHeartbeats 4000000 in
set_option maxRecDepth 100000 in
theorem c_m_many (l : Launch) (E : EE) (ad : Nat → Nat) (lk : Nat) (tr : Int32) (N : Nat → Nat) (X : Nat → Nat → Int32) (F G : Nat → Nat → Nat) (hM : MOK N F) (what : Int32) : Rd l yX12_many cX12_many 5 (some .int) rm_X12_many E (mW E ad lk tr N X F G) [.ref (ad 0), .int what] (some (.int (s_many (N 5) (N 9) (F 6) (F 10) (F 11) what))) := by
  refine mk_rd (by decide) (Nat.le_of_ble_eq_true rfl) ?_
  intro p e s m args below meth c hC hK hP ls hl
  obtain ⟨hx, hb, hr, hts, hown, hml, hlk, hN⟩ := id hC
  have hl : lv_has ls 5 [(0, .ref (ad 0)), (1, .int what)] := hl
  obtain ⟨hM5, hM9, hMp, hMq, hMn⟩ := id hM
  have hn : ∀ j, j < 4 → F 6 j < 16 := fun j _ => hMn j
  have hs0 := shl_le4 hM5
  refine lv_iconst (v := nI 0) hx hb dX12_many_0 (by decide) ?_
  refine lv_istore_n (lv' := [(2, .int (nI 0)), (0, .ref (ad 0)), (1, .int what)]) hx hb dX12_many_1 rfl hl (by decide) rfl (fun ls hl => ?_)
  refine lv_iconst (v := nI 0) hx hb dX12_many_2 (by decide) ?_
  refine lv_istore_n (lv' := [(3, .int (nI 0)), (2, .int (nI 0)), (0, .ref (ad 0)), (1, .int what)]) hx hb dX12_many_3 rfl hl (by decide) rfl (fun ls hl => ?_)
  refine lv_iconst (v := nI 0) hx hb dX12_many_4 (by decide) ?_
  refine lv_istore (lv' := [(4, .int (nI 0)), (3, .int (nI 0)), (2, .int (nI 0)), (0, .ref (ad 0)), (1, .int what)]) hx hb dX12_many_5 hl (by decide) rfl (fun ls hl => ?_)
  have lp_1 : ∀ (n_lp_1 : Nat) (k : Nat) (hk : k ≤ N 5), N 5 - k < n_lp_1 → ∀ (ls : Array Slot), lv_has ls 5 [(0, .ref (ad 0)), (1, .int what), (2, .int (nI (expK (stS (N 5) (F 10) (F 11) (N 9)) (N 5) k))), (3, .int (nI (numK (F 6) k))), (4, .int (nI k))] → W p l e rm_X12_many s m args below meth c s.heap [] 0 0 (MQ below (pz_Q (some (.int (s_many (N 5) (N 9) (F 6) (F 10) (F 11) what)))) args s 0 0 pz_F) (F0 m 7 ls []) := by
    intro n_lp_1
    induction n_lp_1 with
    | zero => intro k hk; intro hm_lp_1; exact absurd hm_lp_1 (Nat.not_lt_zero _)
    | succ n_lp_1 ih_lp_1 =>
      intro k hk hm_lp_1 ls hl
      have hb0 := hMn k
      refine lv_iload hx hb dX12_many_7 (lv_at hl 4 rfl) ?_
      refine lv_aload_n hx hb dX12_many_9 rfl (lv_at hl 0 rfl) ?_
      refine va_get (D := E.1) (ci := 10) (v := .int (nI (N 5))) (C := RX12) (T := TX12) (N := 30) hx hb hts iX12 hown hK hP 0 rfl rfl 5 (by decide) (hts _ kw_744) (fun _ h9 => h9) rfl dX12_many_10 ?_
      refine n_icmp_ge (tgt := 67) hx hb (by omega) (by omega) dX12_many_13 (by decide) (fun c_2 => ?_) (fun c_2 => ?_)
      · -- t 67
        refine lv_iload_n hx hb dX12_many_67 rfl (lv_at hl 1 rfl) ?_
        rcases sw4 what with rfl | rfl | rfl | rfl | sw_3
        · -- switch 0
          have hl : lv_has ls 5 [(0, .ref (ad 0)), (1, .int (nI 0)), (2, .int (nI (expK (stS (N 5) (F 10) (F 11) (N 9)) (N 5) k))), (3, .int (nI (numK (F 6) k))), (4, .int (nI k))] := hl
          refine lv_tableIn (off := 32) (tgt := 100) hx hb dX12_many_68 (by decide) (by decide) (by decide) (by decide) ?_
          refine lv_aload_n hx hb dX12_many_100 rfl (lv_at hl 0 rfl) ?_
          refine va_get (D := E.1) (ci := 10) (v := .int (nI (N 5))) (C := RX12) (T := TX12) (N := 30) hx hb hts iX12 hown hK hP 0 rfl rfl 5 (by decide) (hts _ kw_744) (fun _ h9 => h9) rfl dX12_many_101 ?_
          exact rz_iE hC (by rw [s_many, if_pos rfl]) dX12_many_104
        · -- switch 1
          have hl : lv_has ls 5 [(0, .ref (ad 0)), (1, .int (nI 1)), (2, .int (nI (expK (stS (N 5) (F 10) (F 11) (N 9)) (N 5) k))), (3, .int (nI (numK (F 6) k))), (4, .int (nI k))] := hl
          refine lv_tableIn (off := 37) (tgt := 105) hx hb dX12_many_68 (by decide) (by decide) (by decide) (by decide) ?_
          refine lv_aload_n hx hb dX12_many_105 rfl (lv_at hl 0 rfl) ?_
          refine va_get (D := E.1) (ci := 10) (v := .int (nI (N 9))) (C := RX12) (T := TX12) (N := 30) hx hb hts iX12 hown hK hP 0 rfl rfl 9 (by decide) (hts _ kw_748) (fun _ h9 => h9) rfl dX12_many_106 ?_
          exact rz_iE hC (by rw [s_many, if_neg (by decide), if_pos rfl]) dX12_many_109
        · -- switch 2
          have hl : lv_has ls 5 [(0, .ref (ad 0)), (1, .int (nI 2)), (2, .int (nI (expK (stS (N 5) (F 10) (F 11) (N 9)) (N 5) k))), (3, .int (nI (numK (F 6) k))), (4, .int (nI k))] := hl
          refine lv_tableIn (off := 42) (tgt := 110) hx hb dX12_many_68 (by decide) (by decide) (by decide) (by decide) ?_
          refine lv_iload_n hx hb dX12_many_110 rfl (lv_at hl 2 rfl) ?_
          exact rz_iE hC (by rw [s_many, if_neg (by decide), if_neg (by decide), if_pos rfl, show k = N 5 by omega]) dX12_many_111
        · -- switch 3
          have hl : lv_has ls 5 [(0, .ref (ad 0)), (1, .int (nI 3)), (2, .int (nI (expK (stS (N 5) (F 10) (F 11) (N 9)) (N 5) k))), (3, .int (nI (numK (F 6) k))), (4, .int (nI k))] := hl
          refine lv_tableIn (off := 44) (tgt := 112) hx hb dX12_many_68 (by decide) (by decide) (by decide) (by decide) ?_
          refine lv_iload_n hx hb dX12_many_112 rfl (lv_at hl 3 rfl) ?_
          exact rz_iE hC (by rw [s_many, if_neg (by decide), if_neg (by decide), if_neg (by decide), if_pos rfl, show k = N 5 by omega]) dX12_many_113
        · -- switch 4
          refine lv_tableOut (tgt := 114) hx hb dX12_many_68 sw_3 (by decide) ?_
          refine lv_bipush (v := -2) hx hb dX12_many_114 (by decide) ?_
          exact rz_iE hC (by rw [s_many, if_neg (sw_ne 0 (by decide) sw_3 (by decide)), if_neg (sw_ne 1 (by decide) sw_3 (by decide)), if_neg (sw_ne 2 (by decide) sw_3 (by decide)), if_neg (sw_ne 3 (by decide) sw_3 (by decide))]) dX12_many_116
      · -- f 16
        refine lv_iload_n hx hb dX12_many_16 rfl (lv_at hl 2 rfl) ?_
        refine lv_aload_n hx hb dX12_many_17 rfl (lv_at hl 0 rfl) ?_
        refine lv_aload_n hx hb dX12_many_18 rfl (lv_at hl 0 rfl) ?_
        refine va_get (D := E.1) (ci := 10) (v := .int (nI (N 9))) (C := RX12) (T := TX12) (N := 30) hx hb hts iX12 hown hK hP 0 rfl rfl 9 (by decide) (hts _ kw_748) (fun _ h9 => h9) rfl dX12_many_19 ?_
        refine cV_r (rest := [.int (nI (expK (stS (N 5) (F 10) (F 11) (N 9)) (N 5) k))]) hC (c_m_stateAt l E ad lk tr N X F G hM (N 9) (by omega)) kw_862 iy_X12_stateAt ⟨Nat.le_of_ble_eq_true rfl, Nat.le_of_ble_eq_true rfl⟩ ⟨rfl, rfl⟩ hK hP (va_recv hK hP (ci := 10) (q0 := 0) rfl rfl) rfl hl.1 rfl (Nat.le_of_ble_eq_true rfl) dX12_many_22 ⟨Nat.le_of_ble_eq_true rfl, Nat.le_of_ble_eq_true rfl⟩ ?_
        have f_4 := stS_lt (n := N 5) hMp hMq (N 9)
        refine lv_iload hx hb dX12_many_25 (lv_at hl 4 rfl) ?_
        refine cS_p (rest := [.int (nI (expK (stS (N 5) (F 10) (F 11) (N 9)) (N 5) k))]) hC (c_of l (stS (N 5) (F 10) (F 11) (N 9)) k (by omega) (by omega)) kw_874 sy_X12_of ⟨Nat.le_of_ble_eq_true rfl, Nat.le_of_ble_eq_true rfl⟩ ⟨rfl, rfl⟩ rfl hl.1 rfl (Nat.le_of_ble_eq_true rfl) dX12_many_27 ⟨Nat.le_of_ble_eq_true rfl, Nat.le_of_ble_eq_true rfl⟩ ?_
        have f_5 := of4_lt (stS (N 5) (F 10) (F 11) (N 9)) k
        refine lv_iconst (v := nI 1) hx hb dX12_many_30 (by decide) ?_
        refine lv_aload_n hx hb dX12_many_31 rfl (lv_at hl 0 rfl) ?_
        refine va_get (D := E.1) (ci := 10) (v := .int (nI (N 5))) (C := RX12) (T := TX12) (N := 30) hx hb hts iX12 hown hK hP 0 rfl rfl 5 (by decide) (hts _ kw_744) (fun _ h9 => h9) rfl dX12_many_32 ?_
        refine n_ishl hx hb (by omega) dX12_many_35 ?_
        refine lv_iconst (v := nI 1) hx hb dX12_many_36 (by decide) ?_
        refine n_isub hx hb (by omega) dX12_many_37 ?_
        refine n_icmp_ne (tgt := 45) hx hb (by omega) (by omega) dX12_many_38 (by decide) (fun c_6 => ?_) (fun c_6 => ?_)
        · -- t 45
          refine lv_iconst (v := nI 0) hx hb dX12_many_45 (by decide) ?_
          refine n_iadd hx hb dX12_many_46 ?_
          refine lv_istore_n (lv' := [(2, .int (nI ((expK (stS (N 5) (F 10) (F 11) (N 9)) (N 5) k) + 0))), (0, .ref (ad 0)), (1, .int what), (3, .int (nI (numK (F 6) k))), (4, .int (nI k))]) hx hb dX12_many_47 rfl hl (by decide) rfl (fun ls hl => ?_)
          refine lv_iload_n hx hb dX12_many_48 rfl (lv_at hl 3 rfl) ?_
          refine lv_aload_n hx hb dX12_many_49 rfl (lv_at hl 1 rfl) ?_
          refine va_get (D := E.1) (ci := 10) (v := .ref (ad 6)) (C := RX12) (T := TX12) (N := 30) hx hb hts iX12 hown hK hP 0 rfl rfl 6 (by decide) (hts _ kw_745) (fun _ h9 => h9) rfl dX12_many_50 ?_
          refine lv_iload hx hb dX12_many_53 (lv_at hl 4 rfl) ?_
          refine n_iald hx hb hK hP 4 rfl (by omega) (by decide) dX12_many_55 ?_
          refine cS_p (rest := [.int (nI (numK (F 6) k))]) hC (c_bitsOf l ((F 6) k) (by omega)) kw_907 sy_X12_bitsOf ⟨Nat.le_of_ble_eq_true rfl, Nat.le_of_ble_eq_true rfl⟩ ⟨rfl, rfl⟩ rfl hl.1 rfl (Nat.le_of_ble_eq_true rfl) dX12_many_56 ⟨Nat.le_of_ble_eq_true rfl, Nat.le_of_ble_eq_true rfl⟩ ?_
          have f_7 := bitsN_le ((F 6) k) 16
          refine n_iadd hx hb dX12_many_59 ?_
          refine lv_istore_n (lv' := [(3, .int (nI ((numK (F 6) k) + (bitsN ((F 6) k) 16)))), (2, .int (nI ((expK (stS (N 5) (F 10) (F 11) (N 9)) (N 5) k) + 0))), (0, .ref (ad 0)), (1, .int what), (4, .int (nI k))]) hx hb dX12_many_60 rfl hl (by decide) rfl (fun ls hl => ?_)
          refine lv_iinc (v := nI (k + 1)) (lv' := [(4, .int (nI (k + 1))), (3, .int (nI ((numK (F 6) k) + (bitsN ((F 6) k) 16)))), (2, .int (nI ((expK (stS (N 5) (F 10) (F 11) (N 9)) (N 5) k) + 0))), (0, .ref (ad 0)), (1, .int what)]) hx hb dX12_many_61 hl (k := 4) rfl (ii_1 _) (by decide) rfl (fun ls hl => ?_)
          refine lv_goto (tgt := 7) hx hb dX12_many_64 (by decide) ?_
          exact ih_lp_1 (k + 1) (by omega) (by omega) ls (by have h9 : lv_has ls 5 [(0, .ref (ad 0)), (1, .int what), (2, .int (nI ((expK (stS (N 5) (F 10) (F 11) (N 9)) (N 5) k) + 0))), (3, .int (nI ((numK (F 6) k) + (bitsN ((F 6) k) 16)))), (4, .int (nI (k + 1)))] := lv_sub hl [3, 4, 2, 1, 0] rfl; simpa [expK, numK, c_2, c_6] using h9)
        · -- f 41
          refine lv_iconst (v := nI 1) hx hb dX12_many_41 (by decide) ?_
          refine lv_goto (tgt := 46) hx hb dX12_many_42 (by decide) ?_
          refine n_iadd hx hb dX12_many_46 ?_
          refine lv_istore_n (lv' := [(2, .int (nI ((expK (stS (N 5) (F 10) (F 11) (N 9)) (N 5) k) + 1))), (0, .ref (ad 0)), (1, .int what), (3, .int (nI (numK (F 6) k))), (4, .int (nI k))]) hx hb dX12_many_47 rfl hl (by decide) rfl (fun ls hl => ?_)
          refine lv_iload_n hx hb dX12_many_48 rfl (lv_at hl 3 rfl) ?_
          refine lv_aload_n hx hb dX12_many_49 rfl (lv_at hl 1 rfl) ?_
          refine va_get (D := E.1) (ci := 10) (v := .ref (ad 6)) (C := RX12) (T := TX12) (N := 30) hx hb hts iX12 hown hK hP 0 rfl rfl 6 (by decide) (hts _ kw_745) (fun _ h9 => h9) rfl dX12_many_50 ?_
          refine lv_iload hx hb dX12_many_53 (lv_at hl 4 rfl) ?_
          refine n_iald hx hb hK hP 4 rfl (by omega) (by decide) dX12_many_55 ?_
          refine cS_p (rest := [.int (nI (numK (F 6) k))]) hC (c_bitsOf l ((F 6) k) (by omega)) kw_907 sy_X12_bitsOf ⟨Nat.le_of_ble_eq_true rfl, Nat.le_of_ble_eq_true rfl⟩ ⟨rfl, rfl⟩ rfl hl.1 rfl (Nat.le_of_ble_eq_true rfl) dX12_many_56 ⟨Nat.le_of_ble_eq_true rfl, Nat.le_of_ble_eq_true rfl⟩ ?_
          have f_8 := bitsN_le ((F 6) k) 16
          refine n_iadd hx hb dX12_many_59 ?_
          refine lv_istore_n (lv' := [(3, .int (nI ((numK (F 6) k) + (bitsN ((F 6) k) 16)))), (2, .int (nI ((expK (stS (N 5) (F 10) (F 11) (N 9)) (N 5) k) + 1))), (0, .ref (ad 0)), (1, .int what), (4, .int (nI k))]) hx hb dX12_many_60 rfl hl (by decide) rfl (fun ls hl => ?_)
          refine lv_iinc (v := nI (k + 1)) (lv' := [(4, .int (nI (k + 1))), (3, .int (nI ((numK (F 6) k) + (bitsN ((F 6) k) 16)))), (2, .int (nI ((expK (stS (N 5) (F 10) (F 11) (N 9)) (N 5) k) + 1))), (0, .ref (ad 0)), (1, .int what)]) hx hb dX12_many_61 hl (k := 4) rfl (ii_1 _) (by decide) rfl (fun ls hl => ?_)
          refine lv_goto (tgt := 7) hx hb dX12_many_64 (by decide) ?_
          exact ih_lp_1 (k + 1) (by omega) (by omega) ls (by have h9 : lv_has ls 5 [(0, .ref (ad 0)), (1, .int what), (2, .int (nI ((expK (stS (N 5) (F 10) (F 11) (N 9)) (N 5) k) + 1))), (3, .int (nI ((numK (F 6) k) + (bitsN ((F 6) k) 16)))), (4, .int (nI (k + 1)))] := lv_sub hl [3, 4, 2, 1, 0] rfl; simpa [expK, numK, c_2, c_6] using h9)
  exact lp_1 _ 0 (by omega) (Nat.lt_succ_self _) ls (lv_sub hl [3, 4, 2, 1, 0] rfl)

set_option maxHeartbeats 4000000 in
set_option maxRecDepth 100000 in
theorem c_m_trace (l : Launch) (E : EE) (ad : Nat → Nat) (lk : Nat) (tr : Int32) (N : Nat → Nat) (X : Nat → Nat → Int32) (F G : Nat → Nat → Nat)  : Rd l yX12_trace cX12_trace 1 (some .int) rm_X12_trace E (mW E ad lk tr N X F G) [.ref (ad 0)] (some (.int tr)) := by
  refine mk_rd (by decide) (Nat.le_of_ble_eq_true rfl) ?_
  intro p e s m args below meth c hC hK hP ls hl
  obtain ⟨hx, hb, hr, hts, hown, hml, hlk, hN⟩ := id hC
  have hl : lv_has ls 1 [(0, .ref (ad 0))] := hl
  refine lv_aload_n hx hb dX12_trace_0 rfl (lv_at hl 0 rfl) ?_
  refine va_get (D := E.1) (ci := 10) (v := .int tr) (C := RX12) (T := TX12) (N := 30) hx hb hts iX12 hown hK hP 0 rfl rfl 1 (by decide) (hts _ kw_740) (fun _ h9 => h9) rfl dX12_trace_1 ?_
  exact rz_iE hC (rfl) dX12_trace_4

set_option maxHeartbeats 4000000 in
set_option maxRecDepth 100000 in
theorem c_m_fault (l : Launch) (E : EE) (ad : Nat → Nat) (lk : Nat) (tr : Int32) (N : Nat → Nat) (X : Nat → Nat → Int32) (F G : Nat → Nat → Nat)  : Rd l yX12_fault cX12_fault 1 (some .int) rm_X12_fault E (mW E ad lk tr N X F G) [.ref (ad 0)] (some (.int (nI (N 0)))) := by
  refine mk_rd (by decide) (Nat.le_of_ble_eq_true rfl) ?_
  intro p e s m args below meth c hC hK hP ls hl
  obtain ⟨hx, hb, hr, hts, hown, hml, hlk, hN⟩ := id hC
  have hl : lv_has ls 1 [(0, .ref (ad 0))] := hl
  refine lv_aload_n hx hb dX12_fault_0 rfl (lv_at hl 0 rfl) ?_
  refine va_get (D := E.1) (ci := 10) (v := .int (nI (N 0))) (C := RX12) (T := TX12) (N := 30) hx hb hts iX12 hown hK hP 0 rfl rfl 0 (by decide) (hts _ kw_739) (fun _ h9 => h9) rfl dX12_fault_1 ?_
  exact rz_iE hC (rfl) dX12_fault_4
