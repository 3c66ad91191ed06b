set_option maxHeartbeats 4000000 in
set_option maxRecDepth 100000 in
theorem c_m_call (l : Launch) (E : EE) (ad : Nat → Nat) (lk : Nat) (tr : Int32) (N : Nat → Nat) (X : Nat → Nat → Int32) (F G : Nat → Nat → Nat) (sz : Nat) (hM : MOK N F) (a1 a2 : Int32) : Wr l yX12_call cX12_call 3 (some .int) rm_X12_call 0 0 E (mW E ad lk tr N X F G) sz [.ref (ad 0), .int a1, .int a2] (fun v w1 => v = some (.int (s_call (N 5) (N 9) (F 6) (F 10) (F 11) a1 a2)) ∧ w1 = mW E ad lk tr (if callOK (N 5) (N 9) (F 6) (F 10) (F 11) a1 a2 then va_up N 9 (N 9 + 1) else N) X (if callOK (N 5) (N 9) (F 6) (F 10) (F 11) a1 a2 then va_up (va_up F 10 (va_up (F 10) (N 9) a1.toNatClampNeg)) 11 (va_up (F 11) (N 9) a2.toNatClampNeg) else F) G) := by
  refine mk_wr (by decide) (Nat.le_of_ble_eq_true rfl) ?_
  intro p e s m args below meth c hC hin hK A hA hP hD hS ls hl
  obtain ⟨hx, hb, hr, hts, hown, hml, hlk, hN⟩ := id hC
  have hl : lv_has ls 3 [(0, .ref (ad 0)), (1, .int a1), (2, .int a2)] := hl
  obtain ⟨hM5, hM9, hMp, hMq, hMn⟩ := id hM
  have hn : ∀ j, j < 4 → F 6 j < 16 := fun j _ => hMn j
  obtain ⟨H, hH⟩ : ∃ z, z = s.heap := ⟨_, rfl⟩
  have hS : va_S A s.heap H [] := by rw [hH]; exact hS
  rw [← hH] at hP
  refine W_heap hH ?_
  obtain ⟨locs, hlo⟩ : ∃ z : List Loc, z = [] := ⟨_, rfl⟩
  rw [← hlo] at hS ⊢
  refine lv_aload_n hx hb dX12_call_0 rfl (lv_at hl 0 rfl) ?_
  refine lv_iload_n hx hb dX12_call_1 rfl (lv_at hl 1 rfl) ?_
  refine cV_r (rest := []) hC (c_m_isPerson l E ad lk tr N X F G a1) kw_858 iy_X12_isPerson ⟨Nat.le_of_ble_eq_true rfl, Nat.le_of_ble_eq_true rfl⟩ ⟨rfl, rfl⟩ hK hP (va_recv hK hP (ci := 10) (q0 := 0) rfl rfl) rfl hl.1 rfl (Nat.le_of_ble_eq_true rfl) dX12_call_2 ⟨Nat.le_of_ble_eq_true rfl, Nat.le_of_ble_eq_true rfl⟩ ?_
  refine b_if_eq (tgt := 16) hx hb dX12_call_5 (by decide) (fun c_1 => ?_) (fun c_1 => ?_)
  · -- t 16
    refine lv_iconst (v := -1) hx hb dX12_call_16 (by decide) ?_
    exact rw_i hC rfl hP hD hS (⟨by rw [s_call, if_pos c_1], by rw [show callOK (N 5) (N 9) (F 6) (F 10) (F 11) a1 a2 = false from by simp only [callOK, c_1]; simp []]; rfl⟩) dX12_call_17 (Nat.le_of_ble_eq_true rfl) (Nat.le_of_ble_eq_true rfl)
  · -- f 8
    obtain ⟨i, hi, rfl⟩ := isP_nat (by omega) c_1
    have hci := nI_clamp (n := i) (by omega)
    have hl : lv_has ls 3 [(0, .ref (ad 0)), (1, .int (nI i)), (2, .int a2)] := hl
    refine lv_aload_n hx hb dX12_call_8 rfl (lv_at hl 0 rfl) ?_
    refine lv_iload_n hx hb dX12_call_9 rfl (lv_at hl 2 rfl) ?_
    refine cV_r (rest := []) hC (c_m_isPerson l E ad lk tr N X F G a2) kw_858 iy_X12_isPerson ⟨Nat.le_of_ble_eq_true rfl, Nat.le_of_ble_eq_true rfl⟩ ⟨rfl, rfl⟩ hK hP (va_recv hK hP (ci := 10) (q0 := 0) rfl rfl) rfl hl.1 rfl (Nat.le_of_ble_eq_true rfl) dX12_call_10 ⟨Nat.le_of_ble_eq_true rfl, Nat.le_of_ble_eq_true rfl⟩ ?_
    refine b_if_ne (tgt := 18) hx hb dX12_call_13 (by decide) (fun c_2 => ?_) (fun c_2 => ?_)
    · -- t 18
      obtain ⟨j, hj, rfl⟩ := isP_nat (by omega) c_2
      have hcj := nI_clamp (n := j) (by omega)
      have hl : lv_has ls 3 [(0, .ref (ad 0)), (1, .int (nI i)), (2, .int (nI j))] := hl
      refine lv_iload_n hx hb dX12_call_18 rfl (lv_at hl 1 rfl) ?_
      refine lv_iload_n hx hb dX12_call_19 rfl (lv_at hl 2 rfl) ?_
      refine n_icmp_ne (tgt := 26) hx hb (by omega) (by omega) dX12_call_20 (by decide) (fun c_3 => ?_) (fun c_3 => ?_)
      · -- t 26
        refine lv_aload_n hx hb dX12_call_26 rfl (lv_at hl 0 rfl) ?_
        refine va_get (D := E.1) (ci := 10) (v := .ref (ad 6)) (C := RX12) (T := TX12) (N := 30) hx hb hts iX12 hown hK hP 0 rfl rfl 6 (by decide) (hts _ kw_745) (fun _ h9 => h9) rfl dX12_call_27 ?_
        refine lv_aload_n hx hb dX12_call_30 rfl (lv_at hl 0 rfl) ?_
        refine lv_aload_n hx hb dX12_call_31 rfl (lv_at hl 0 rfl) ?_
        refine va_get (D := E.1) (ci := 10) (v := .int (nI (N 9))) (C := RX12) (T := TX12) (N := 30) hx hb hts iX12 hown hK hP 0 rfl rfl 9 (by decide) (hts _ kw_748) (fun _ h9 => h9) rfl dX12_call_32 ?_
        refine cV_r (rest := [.ref (ad 6)]) hC (c_m_stateAt l E ad lk tr N X F G hM (N 9) (by omega)) kw_862 iy_X12_stateAt ⟨Nat.le_of_ble_eq_true rfl, Nat.le_of_ble_eq_true rfl⟩ ⟨rfl, rfl⟩ hK hP (va_recv hK hP (ci := 10) (q0 := 0) rfl rfl) rfl hl.1 rfl (Nat.le_of_ble_eq_true rfl) dX12_call_35 ⟨Nat.le_of_ble_eq_true rfl, Nat.le_of_ble_eq_true rfl⟩ ?_
        have f_4 := stS_lt (n := N 5) hMp hMq (N 9)
        refine lv_iload_n hx hb dX12_call_38 rfl (lv_at hl 1 rfl) ?_
        refine cS_r (rest := []) hC (c_numO l E (ad 6) (F 6) (stS (N 5) (F 10) (F 11) (N 9)) i (by omega) (by omega)) kw_877 sy_X12_numbersOf ⟨Nat.le_of_ble_eq_true rfl, Nat.le_of_ble_eq_true rfl⟩ ⟨rfl, rfl⟩ hK (hP.sub (ws' := aW E (ad 6) (F 6)) [4] rfl) rfl hl.1 rfl (Nat.le_of_ble_eq_true rfl) dX12_call_39 ⟨Nat.le_of_ble_eq_true rfl, Nat.le_of_ble_eq_true rfl⟩ ?_
        have f_5 := numO_lt hn (stS (N 5) (F 10) (F 11) (N 9)) i
        refine lv_iload_n hx hb dX12_call_42 rfl (lv_at hl 2 rfl) ?_
        refine cS_p (rest := []) hC (c_m_has l (numO (F 6) (stS (N 5) (F 10) (F 11) (N 9)) i) j (by omega) (by omega)) kw_851 sy_X12_has ⟨Nat.le_of_ble_eq_true rfl, Nat.le_of_ble_eq_true rfl⟩ ⟨rfl, rfl⟩ rfl hl.1 rfl (Nat.le_of_ble_eq_true rfl) dX12_call_43 ⟨Nat.le_of_ble_eq_true rfl, Nat.le_of_ble_eq_true rfl⟩ ?_
        refine b_if_ne (tgt := 52) hx hb dX12_call_46 (by decide) (fun c_6 => ?_) (fun c_6 => ?_)
        · -- t 52
          refine lv_aload_n hx hb dX12_call_52 rfl (lv_at hl 0 rfl) ?_
          refine va_get (D := E.1) (ci := 10) (v := .int (nI (N 9))) (C := RX12) (T := TX12) (N := 30) hx hb hts iX12 hown hK hP 0 rfl rfl 9 (by decide) (hts _ kw_748) (fun _ h9 => h9) rfl dX12_call_53 ?_
          refine lv_bipush (v := nI 12) hx hb dX12_call_56 (by decide) ?_
          refine n_icmp_ne (tgt := 64) hx hb (by omega) (by omega) dX12_call_58 (by decide) (fun c_7 => ?_) (fun c_7 => ?_)
          · -- t 64
            refine lv_aload_n hx hb dX12_call_64 rfl (lv_at hl 0 rfl) ?_
            refine va_get (D := E.1) (ci := 10) (v := .ref (ad 10)) (C := RX12) (T := TX12) (N := 30) hx hb hts iX12 hown hK hP 0 rfl rfl 10 (by decide) (hts _ kw_749) (fun _ h9 => h9) rfl dX12_call_65 ?_
            refine lv_aload_n hx hb dX12_call_68 rfl (lv_at hl 0 rfl) ?_
            refine va_get (D := E.1) (ci := 10) (v := .int (nI (N 9))) (C := RX12) (T := TX12) (N := 30) hx hb hts iX12 hown hK hP 0 rfl rfl 9 (by decide) (hts _ kw_748) (fun _ h9 => h9) rfl dX12_call_69 ?_
            refine lv_iload_n hx hb dX12_call_72 rfl (lv_at hl 1 rfl) ?_
            refine n_iast hx hb hK hP hD hS 6 rfl (by omega) (by decide) dX12_call_73 (fun H locs hP hD hS => ?_)
            have hP : va_P E.1 vwCl (mW E ad lk tr N X (va_up F 10 (va_up (F 10) (N 9) i)) G) H := hP
            have hD : va_D A (mW E ad lk tr N X (va_up F 10 (va_up (F 10) (N 9) i)) G) := hD
            refine lv_aload_n hx hb dX12_call_74 rfl (lv_at hl 0 rfl) ?_
            refine va_get (D := E.1) (ci := 10) (v := .ref (ad 11)) (C := RX12) (T := TX12) (N := 30) hx hb hts iX12 hown hK hP 0 rfl rfl 11 (by decide) (hts _ kw_750) (fun _ h9 => h9) rfl dX12_call_75 ?_
            refine lv_aload_n hx hb dX12_call_78 rfl (lv_at hl 0 rfl) ?_
            refine va_get (D := E.1) (ci := 10) (v := .int (nI (N 9))) (C := RX12) (T := TX12) (N := 30) hx hb hts iX12 hown hK hP 0 rfl rfl 9 (by decide) (hts _ kw_748) (fun _ h9 => h9) rfl dX12_call_79 ?_
            refine lv_iload_n hx hb dX12_call_82 rfl (lv_at hl 2 rfl) ?_
            refine n_iast hx hb hK hP hD hS 7 rfl (by omega) (by decide) dX12_call_83 (fun H locs hP hD hS => ?_)
            have hP : va_P E.1 vwCl (mW E ad lk tr N X (va_up (va_up F 10 (va_up (F 10) (N 9) i)) 11 (va_up (F 11) (N 9) j)) G) H := hP
            have hD : va_D A (mW E ad lk tr N X (va_up (va_up F 10 (va_up (F 10) (N 9) i)) 11 (va_up (F 11) (N 9) j)) G) := hD
            refine lv_aload_n hx hb dX12_call_84 rfl (lv_at hl 0 rfl) ?_
            refine lv_dup hx hb dX12_call_85 rfl ?_
            refine va_get (D := E.1) (ci := 10) (v := .int (nI (N 9))) (C := RX12) (T := TX12) (N := 30) hx hb hts iX12 hown hK hP 0 rfl rfl 9 (by decide) (hts _ kw_748) (fun _ h9 => h9) rfl dX12_call_86 ?_
            refine lv_iconst (v := nI 1) hx hb dX12_call_89 (by decide) ?_
            refine n_iadd hx hb dX12_call_90 ?_
            refine va_put (D := E.1) (ci := 10) (v := .int (nI ((N 9) + 1))) (ty := .int) (C := RX12) (T := TX12) (N := 30) hx hb hts iX12 tyX12 tyX12_ok nmX12 hown hK hP hD hS 0 rfl rfl 9 (by decide) (hts _ kw_748) (fun _ h9 => h9) rfl (by decide +kernel) rfl rfl (Nat.le_of_ble_eq_true rfl) dX12_call_91 (fun H locs hP hD hS => ?_)
            have hP : va_P E.1 vwCl (mW E ad lk tr (va_up N 9 ((N 9) + 1)) X (va_up (va_up F 10 (va_up (F 10) (N 9) i)) 11 (va_up (F 11) (N 9) j)) G) H := hP
            have hD : va_D A (mW E ad lk tr (va_up N 9 ((N 9) + 1)) X (va_up (va_up F 10 (va_up (F 10) (N 9) i)) 11 (va_up (F 11) (N 9) j)) G) := hD
            refine lv_aload_n hx hb dX12_call_94 rfl (lv_at hl 0 rfl) ?_
            refine va_get (D := E.1) (ci := 10) (v := .int (nI ((N 9) + 1))) (C := RX12) (T := TX12) (N := 30) hx hb hts iX12 hown hK hP 0 rfl rfl 9 (by decide) (hts _ kw_748) (fun _ h9 => h9) rfl dX12_call_95 ?_
            refine lv_iconst (v := nI 1) hx hb dX12_call_98 (by decide) ?_
            refine n_isub hx hb (by omega) dX12_call_99 ?_
            exact rw_i hC rfl hP hD hS (⟨by rw [s_call, if_neg (by rw [c_1]; decide), if_neg (by rw [c_2]; decide), hci, hcj, if_neg c_3, if_neg (by rw [c_6]; decide), if_neg c_7]; rfl, by rw [show callOK (N 5) (N 9) (F 6) (F 10) (F 11) (nI i) (nI j) = true from by simp only [callOK, hci, hcj, c_1, c_2, c_6]; simp [c_3, c_7], if_pos rfl, if_pos rfl, hci, hcj]⟩) dX12_call_100 (Nat.le_of_ble_eq_true rfl) (Nat.le_of_ble_eq_true rfl)
          · -- f 61
            refine lv_bipush (v := -4) hx hb dX12_call_61 (by decide) ?_
            exact rw_i hC rfl hP hD hS (⟨by rw [s_call, if_neg (by rw [c_1]; decide), if_neg (by rw [c_2]; decide), hci, hcj, if_neg c_3, if_neg (by rw [c_6]; decide), if_pos c_7], by rw [show callOK (N 5) (N 9) (F 6) (F 10) (F 11) (nI i) (nI j) = false from by simp only [callOK, hci, hcj, c_1, c_2, c_6]; simp [c_3, c_7]]; rfl⟩) dX12_call_63 (Nat.le_of_ble_eq_true rfl) (Nat.le_of_ble_eq_true rfl)
        · -- f 49
          refine lv_bipush (v := -3) hx hb dX12_call_49 (by decide) ?_
          exact rw_i hC rfl hP hD hS (⟨by rw [s_call, if_neg (by rw [c_1]; decide), if_neg (by rw [c_2]; decide), hci, hcj, if_neg c_3, if_pos c_6], by rw [show callOK (N 5) (N 9) (F 6) (F 10) (F 11) (nI i) (nI j) = false from by simp only [callOK, hci, hcj, c_1, c_2, c_6]; simp [c_3]]; rfl⟩) dX12_call_51 (Nat.le_of_ble_eq_true rfl) (Nat.le_of_ble_eq_true rfl)
      · -- f 23
        refine lv_bipush (v := -2) hx hb dX12_call_23 (by decide) ?_
        exact rw_i hC rfl hP hD hS (⟨by rw [s_call, if_neg (by rw [c_1]; decide), if_neg (by rw [c_2]; decide), hci, hcj, if_pos c_3], by rw [show callOK (N 5) (N 9) (F 6) (F 10) (F 11) (nI i) (nI j) = false from by simp only [callOK, hci, hcj, c_1, c_2]; simp [c_3]]; rfl⟩) dX12_call_25 (Nat.le_of_ble_eq_true rfl) (Nat.le_of_ble_eq_true rfl)
    · -- f 16
      refine lv_iconst (v := -1) hx hb dX12_call_16 (by decide) ?_
      exact rw_i hC rfl hP hD hS (⟨by rw [s_call, if_neg (by rw [c_1]; decide), if_pos c_2], by rw [show callOK (N 5) (N 9) (F 6) (F 10) (F 11) (nI i) a2 = false from by simp only [callOK, c_1, c_2]; simp []]; rfl⟩) dX12_call_17 (Nat.le_of_ble_eq_true rfl) (Nat.le_of_ble_eq_true rfl)

set_option maxHeartbeats 4000000 in
set_option maxRecDepth 100000 in
theorem c_m_tell (l : Launch) (E : EE) (ad : Nat → Nat) (lk : Nat) (tr : Int32) (N : Nat → Nat) (X : Nat → Nat → Int32) (F G : Nat → Nat → Nat) (sz : Nat) (hM : MOK N F) (a1 : Int32) : Wr l yX12_tell cX12_tell 4 (some .int) rm_X12_tell 0 0 E (mW E ad lk tr N X F G) sz [.ref (ad 0), .int a1] (fun v w1 => if isP a1 (N 9) = false then v = some (.int (-1)) ∧ w1 = mW E ad lk tr N X F G else v = some (.int (nI (tellV (N 5) (F 10) (F 11) a1.toNatClampNeg))) ∧ w1 = mW E ad lk (tellT tr (knd (N 5) (F 10) (F 11) a1.toNatClampNeg)) N X F G) := by
  refine mk_wr (by decide) (Nat.le_of_ble_eq_true rfl) ?_
  intro p e s m args below meth c hC hin hK A hA hP hD hS ls hl
  obtain ⟨hx, hb, hr, hts, hown, hml, hlk, hN⟩ := id hC
  have hl : lv_has ls 4 [(0, .ref (ad 0)), (1, .int a1)] := hl
  obtain ⟨hM5, hM9, hMp, hMq, hMn⟩ := id hM
  have hn : ∀ j, j < 4 → F 6 j < 16 := fun j _ => hMn j
  obtain ⟨H, hH⟩ : ∃ z, z = s.heap := ⟨_, rfl⟩
  have hS : va_S A s.heap H [] := by rw [hH]; exact hS
  rw [← hH] at hP
  refine W_heap hH ?_
  obtain ⟨locs, hlo⟩ : ∃ z : List Loc, z = [] := ⟨_, rfl⟩
  rw [← hlo] at hS ⊢
  refine lv_aload_n hx hb dX12_tell_0 rfl (lv_at hl 0 rfl) ?_
  refine lv_iload_n hx hb dX12_tell_1 rfl (lv_at hl 1 rfl) ?_
  refine cV_r (rest := []) hC (c_m_isCall l E ad lk tr N X F G a1) kw_895 iy_X12_isCall ⟨Nat.le_of_ble_eq_true rfl, Nat.le_of_ble_eq_true rfl⟩ ⟨rfl, rfl⟩ hK hP (va_recv hK hP (ci := 10) (q0 := 0) rfl rfl) rfl hl.1 rfl (Nat.le_of_ble_eq_true rfl) dX12_tell_2 ⟨Nat.le_of_ble_eq_true rfl, Nat.le_of_ble_eq_true rfl⟩ ?_
  refine b_if_ne (tgt := 10) hx hb dX12_tell_5 (by decide) (fun c_1 => ?_) (fun c_1 => ?_)
  · -- t 10
    obtain ⟨j, hj, rfl⟩ := isP_nat (by omega) c_1
    have hcj := nI_clamp (n := j) (by omega)
    have hl : lv_has ls 4 [(0, .ref (ad 0)), (1, .int (nI j))] := hl
    have hcp := hMp j
    have hcq := hMq j
    refine lv_bipush (v := nI 10) hx hb dX12_tell_10 (by decide) ?_
    refine lv_aload_n hx hb dX12_tell_12 rfl (lv_at hl 0 rfl) ?_
    refine va_get (D := E.1) (ci := 10) (v := .ref (ad 10)) (C := RX12) (T := TX12) (N := 30) hx hb hts iX12 hown hK hP 0 rfl rfl 10 (by decide) (hts _ kw_749) (fun _ h9 => h9) rfl dX12_tell_13 ?_
    refine lv_iload_n hx hb dX12_tell_16 rfl (lv_at hl 1 rfl) ?_
    refine n_iald hx hb hK hP 6 rfl (by omega) (by decide) dX12_tell_17 ?_
    refine n_imul hx hb dX12_tell_18 ?_
    refine lv_aload_n hx hb dX12_tell_19 rfl (lv_at hl 0 rfl) ?_
    refine va_get (D := E.1) (ci := 10) (v := .ref (ad 11)) (C := RX12) (T := TX12) (N := 30) hx hb hts iX12 hown hK hP 0 rfl rfl 11 (by decide) (hts _ kw_750) (fun _ h9 => h9) rfl dX12_tell_20 ?_
    refine lv_iload_n hx hb dX12_tell_23 rfl (lv_at hl 1 rfl) ?_
    refine n_iald hx hb hK hP 7 rfl (by omega) (by decide) dX12_tell_24 ?_
    refine n_iadd hx hb dX12_tell_25 ?_
    refine lv_istore_n (lv' := [(2, .int (nI ((10 * ((F 10) j)) + ((F 11) j)))), (0, .ref (ad 0)), (1, .int (nI j))]) hx hb dX12_tell_26 rfl hl (by decide) rfl (fun ls hl => ?_)
    refine lv_bipush (v := nI 100) hx hb dX12_tell_27 (by decide) ?_
    refine lv_aload_n hx hb dX12_tell_29 rfl (lv_at hl 1 rfl) ?_
    refine lv_iload_n hx hb dX12_tell_30 rfl (lv_at hl 2 rfl) ?_
    refine lv_aload_n hx hb dX12_tell_31 rfl (lv_at hl 1 rfl) ?_
    refine va_get (D := E.1) (ci := 10) (v := .ref (ad 10)) (C := RX12) (T := TX12) (N := 30) hx hb hts iX12 hown hK hP 0 rfl rfl 10 (by decide) (hts _ kw_749) (fun _ h9 => h9) rfl dX12_tell_32 ?_
    refine lv_iload_n hx hb dX12_tell_35 rfl (lv_at hl 2 rfl) ?_
    refine n_iald hx hb hK hP 6 rfl (by omega) (by decide) dX12_tell_36 ?_
    refine cV_r (rest := [.int (nI 100)]) hC (c_m_learnt l E ad lk tr N X F G hM j ((F 10) j) (by omega) (by omega)) kw_903 iy_X12_learnt ⟨Nat.le_of_ble_eq_true rfl, Nat.le_of_ble_eq_true rfl⟩ ⟨rfl, rfl⟩ hK hP (va_recv hK hP (ci := 10) (q0 := 0) rfl rfl) rfl hl.1 rfl (Nat.le_of_ble_eq_true rfl) dX12_tell_37 ⟨Nat.le_of_ble_eq_true rfl, Nat.le_of_ble_eq_true rfl⟩ ?_
    have f_2 := lrn_lt (N 5) (F 10) (F 11) j ((F 10) j)
    refine cS_p (rest := [.int (nI 100)]) hC (c_bitsOf l (lrn (N 5) (F 10) (F 11) j ((F 10) j)) (by omega)) kw_907 sy_X12_bitsOf ⟨Nat.le_of_ble_eq_true rfl, Nat.le_of_ble_eq_true rfl⟩ ⟨rfl, rfl⟩ rfl hl.1 rfl (Nat.le_of_ble_eq_true rfl) dX12_tell_40 ⟨Nat.le_of_ble_eq_true rfl, Nat.le_of_ble_eq_true rfl⟩ ?_
    have f_3 := bitsN_le (lrn (N 5) (F 10) (F 11) j ((F 10) j)) 16
    refine lv_aload_n hx hb dX12_tell_43 rfl (lv_at hl 1 rfl) ?_
    refine lv_iload_n hx hb dX12_tell_44 rfl (lv_at hl 2 rfl) ?_
    refine lv_aload_n hx hb dX12_tell_45 rfl (lv_at hl 1 rfl) ?_
    refine va_get (D := E.1) (ci := 10) (v := .ref (ad 11)) (C := RX12) (T := TX12) (N := 30) hx hb hts iX12 hown hK hP 0 rfl rfl 11 (by decide) (hts _ kw_750) (fun _ h9 => h9) rfl dX12_tell_46 ?_
    refine lv_iload_n hx hb dX12_tell_49 rfl (lv_at hl 2 rfl) ?_
    refine n_iald hx hb hK hP 7 rfl (by omega) (by decide) dX12_tell_50 ?_
    refine cV_r (rest := [.int (nI (bitsN (lrn (N 5) (F 10) (F 11) j ((F 10) j)) 16)), .int (nI 100)]) hC (c_m_learnt l E ad lk tr N X F G hM j ((F 11) j) (by omega) (by omega)) kw_903 iy_X12_learnt ⟨Nat.le_of_ble_eq_true rfl, Nat.le_of_ble_eq_true rfl⟩ ⟨rfl, rfl⟩ hK hP (va_recv hK hP (ci := 10) (q0 := 0) rfl rfl) rfl hl.1 rfl (Nat.le_of_ble_eq_true rfl) dX12_tell_51 ⟨Nat.le_of_ble_eq_true rfl, Nat.le_of_ble_eq_true rfl⟩ ?_
    have f_4 := lrn_lt (N 5) (F 10) (F 11) j ((F 11) j)
    refine cS_p (rest := [.int (nI (bitsN (lrn (N 5) (F 10) (F 11) j ((F 10) j)) 16)), .int (nI 100)]) hC (c_bitsOf l (lrn (N 5) (F 10) (F 11) j ((F 11) j)) (by omega)) kw_907 sy_X12_bitsOf ⟨Nat.le_of_ble_eq_true rfl, Nat.le_of_ble_eq_true rfl⟩ ⟨rfl, rfl⟩ rfl hl.1 rfl (Nat.le_of_ble_eq_true rfl) dX12_tell_54 ⟨Nat.le_of_ble_eq_true rfl, Nat.le_of_ble_eq_true rfl⟩ ?_
    have f_5 := bitsN_le (lrn (N 5) (F 10) (F 11) j ((F 11) j)) 16
    refine n_iadd hx hb dX12_tell_57 ?_
    refine n_imul hx hb dX12_tell_58 ?_
    refine lv_istore_n (lv' := [(3, .int (nI (100 * ((bitsN (lrn (N 5) (F 10) (F 11) j ((F 10) j)) 16) + (bitsN (lrn (N 5) (F 10) (F 11) j ((F 11) j)) 16))))), (2, .int (nI ((10 * ((F 10) j)) + ((F 11) j)))), (0, .ref (ad 0)), (1, .int (nI j))]) hx hb dX12_tell_59 rfl hl (by decide) rfl (fun ls hl => ?_)
    refine lv_aload_n hx hb dX12_tell_60 rfl (lv_at hl 2 rfl) ?_
    refine lv_iload_n hx hb dX12_tell_61 rfl (lv_at hl 3 rfl) ?_
    refine cV_r (rest := []) hC (c_m_kindOf l E ad lk tr N X F G hM j (by omega)) kw_899 iy_X12_kindOf ⟨Nat.le_of_ble_eq_true rfl, Nat.le_of_ble_eq_true rfl⟩ ⟨rfl, rfl⟩ hK hP (va_recv hK hP (ci := 10) (q0 := 0) rfl rfl) rfl hl.1 rfl (Nat.le_of_ble_eq_true rfl) dX12_tell_62 ⟨Nat.le_of_ble_eq_true rfl, Nat.le_of_ble_eq_true rfl⟩ ?_
    have f_6 := knd_le (N 5) (F 10) (F 11) j
    rcases (by omega : knd (N 5) (F 10) (F 11) j = 0 ∨ knd (N 5) (F 10) (F 11) j = 1 ∨ knd (N 5) (F 10) (F 11) j = 2) with ls_7 | ls_7 | ls_7
    · -- lookup 0
      refine top_i (congrArg nI ls_7) ?_
      refine lv_lookup (off := 67) (tgt := 132) hx hb dX12_tell_65 (by decide) (by decide) (by decide) ?_
      refine lv_aload_n hx hb dX12_tell_132 rfl (lv_at hl 2 rfl) ?_
      refine lv_iconst (v := nI 1) hx hb dX12_tell_133 (by decide) ?_
      refine cV_w0 (rest := []) hC (c_m_begins l E ad lk tr N X F G H.size 1) kw_1076 iy_X12_begins ⟨Nat.le_of_ble_eq_true rfl, Nat.le_of_ble_eq_true rfl⟩ ⟨rfl, rfl⟩ hK hP hD hS hA (va_recv hK hP (ci := 10) (q0 := 0) rfl rfl) rfl hl.1 rfl (Nat.le_of_ble_eq_true rfl) dX12_tell_134 ⟨Nat.le_of_ble_eq_true rfl, Nat.le_of_ble_eq_true rfl⟩ (fun v_ w_ H locs hpost hP hD hS => ?_)
      obtain ⟨rfl, rfl⟩ := hpost
      refine W.eq (g2 := F0 m 137 ls []) rfl ?_
      refine lv_iload_n hx hb dX12_tell_137 rfl (lv_at hl 1 rfl) ?_
      exact rw_i hC rfl hP hD hS (by rw [if_neg (by rw [c_1]; decide)]; exact ⟨by simp [tellV, newsN, ls_7, hcj], by simp [tellT, hcj, ls_7]⟩) dX12_tell_138 (Nat.le_of_ble_eq_true rfl) (Nat.le_of_ble_eq_true rfl)
    · -- lookup 1
      refine top_i (congrArg nI ls_7) ?_
      refine lv_lookup (off := 27) (tgt := 92) hx hb dX12_tell_65 (by decide) (by decide) (by decide) ?_
      refine lv_aload_n hx hb dX12_tell_92 rfl (lv_at hl 2 rfl) ?_
      refine lv_iconst (v := nI 2) hx hb dX12_tell_93 (by decide) ?_
      refine cV_w0 (rest := []) hC (c_m_begins l E ad lk tr N X F G H.size 2) kw_1076 iy_X12_begins ⟨Nat.le_of_ble_eq_true rfl, Nat.le_of_ble_eq_true rfl⟩ ⟨rfl, rfl⟩ hK hP hD hS hA (va_recv hK hP (ci := 10) (q0 := 0) rfl rfl) rfl hl.1 rfl (Nat.le_of_ble_eq_true rfl) dX12_tell_94 ⟨Nat.le_of_ble_eq_true rfl, Nat.le_of_ble_eq_true rfl⟩ (fun v_ w_ H locs hpost hP hD hS => ?_)
      obtain ⟨rfl, rfl⟩ := hpost
      refine W.eq (g2 := F0 m 97 ls []) rfl ?_
      refine lv_aload_n hx hb dX12_tell_97 rfl (lv_at hl 2 rfl) ?_
      refine lv_iconst (v := nI 1) hx hb dX12_tell_98 (by decide) ?_
      refine cV_w0 (rest := []) hC (c_m_begins l E ad lk (nI 31 * tr + nI 2) N X F G H.size 1) kw_1076 iy_X12_begins ⟨Nat.le_of_ble_eq_true rfl, Nat.le_of_ble_eq_true rfl⟩ ⟨rfl, rfl⟩ hK hP hD hS hA (va_recv hK hP (ci := 10) (q0 := 0) rfl rfl) rfl hl.1 rfl (Nat.le_of_ble_eq_true rfl) dX12_tell_99 ⟨Nat.le_of_ble_eq_true rfl, Nat.le_of_ble_eq_true rfl⟩ (fun v_ w_ H locs hpost hP hD hS => ?_)
      obtain ⟨rfl, rfl⟩ := hpost
      refine W.eq (g2 := F0 m 102 ls []) rfl ?_
      refine lv_iload_n hx hb dX12_tell_102 rfl (lv_at hl 1 rfl) ?_
      refine lv_iload_n hx hb dX12_tell_103 rfl (lv_at hl 0 rfl) ?_
      refine n_iadd hx hb dX12_tell_104 ?_
      exact rw_i hC rfl hP hD hS (by rw [if_neg (by rw [c_1]; decide)]; exact ⟨by simp [tellV, newsN, ls_7, hcj], by simp [tellT, hcj, ls_7]⟩) dX12_tell_105 (Nat.le_of_ble_eq_true rfl) (Nat.le_of_ble_eq_true rfl)
    · -- lookup 2
      refine top_i (congrArg nI ls_7) ?_
      refine lv_lookup (off := 41) (tgt := 106) hx hb dX12_tell_65 (by decide) (by decide) (by decide) ?_
      refine lv_aload_n hx hb dX12_tell_106 rfl (lv_at hl 2 rfl) ?_
      refine lv_iconst (v := nI 3) hx hb dX12_tell_107 (by decide) ?_
      refine cV_w0 (rest := []) hC (c_m_begins l E ad lk tr N X F G H.size 3) kw_1076 iy_X12_begins ⟨Nat.le_of_ble_eq_true rfl, Nat.le_of_ble_eq_true rfl⟩ ⟨rfl, rfl⟩ hK hP hD hS hA (va_recv hK hP (ci := 10) (q0 := 0) rfl rfl) rfl hl.1 rfl (Nat.le_of_ble_eq_true rfl) dX12_tell_108 ⟨Nat.le_of_ble_eq_true rfl, Nat.le_of_ble_eq_true rfl⟩ (fun v_ w_ H locs hpost hP hD hS => ?_)
      obtain ⟨rfl, rfl⟩ := hpost
      refine W.eq (g2 := F0 m 111 ls []) rfl ?_
      refine lv_aload_n hx hb dX12_tell_111 rfl (lv_at hl 2 rfl) ?_
      refine lv_iconst (v := nI 2) hx hb dX12_tell_112 (by decide) ?_
      refine cV_w0 (rest := []) hC (c_m_begins l E ad lk (nI 31 * tr + nI 3) N X F G H.size 2) kw_1076 iy_X12_begins ⟨Nat.le_of_ble_eq_true rfl, Nat.le_of_ble_eq_true rfl⟩ ⟨rfl, rfl⟩ hK hP hD hS hA (va_recv hK hP (ci := 10) (q0 := 0) rfl rfl) rfl hl.1 rfl (Nat.le_of_ble_eq_true rfl) dX12_tell_113 ⟨Nat.le_of_ble_eq_true rfl, Nat.le_of_ble_eq_true rfl⟩ (fun v_ w_ H locs hpost hP hD hS => ?_)
      obtain ⟨rfl, rfl⟩ := hpost
      refine W.eq (g2 := F0 m 116 ls []) rfl ?_
      refine lv_aload_n hx hb dX12_tell_116 rfl (lv_at hl 2 rfl) ?_
      refine lv_iconst (v := nI 1) hx hb dX12_tell_117 (by decide) ?_
      refine cV_w0 (rest := []) hC (c_m_begins l E ad lk (nI 31 * (nI 31 * tr + nI 3) + nI 2) N X F G H.size 1) kw_1076 iy_X12_begins ⟨Nat.le_of_ble_eq_true rfl, Nat.le_of_ble_eq_true rfl⟩ ⟨rfl, rfl⟩ hK hP hD hS hA (va_recv hK hP (ci := 10) (q0 := 0) rfl rfl) rfl hl.1 rfl (Nat.le_of_ble_eq_true rfl) dX12_tell_118 ⟨Nat.le_of_ble_eq_true rfl, Nat.le_of_ble_eq_true rfl⟩ (fun v_ w_ H locs hpost hP hD hS => ?_)
      obtain ⟨rfl, rfl⟩ := hpost
      refine W.eq (g2 := F0 m 121 ls []) rfl ?_
      refine lv_aload_n hx hb dX12_tell_121 rfl (lv_at hl 2 rfl) ?_
      refine lv_iconst (v := nI 1) hx hb dX12_tell_122 (by decide) ?_
      refine cV_w0 (rest := []) hC (c_m_begins l E ad lk (nI 31 * (nI 31 * (nI 31 * tr + nI 3) + nI 2) + nI 1) N X F G H.size 1) kw_1076 iy_X12_begins ⟨Nat.le_of_ble_eq_true rfl, Nat.le_of_ble_eq_true rfl⟩ ⟨rfl, rfl⟩ hK hP hD hS hA (va_recv hK hP (ci := 10) (q0 := 0) rfl rfl) rfl hl.1 rfl (Nat.le_of_ble_eq_true rfl) dX12_tell_123 ⟨Nat.le_of_ble_eq_true rfl, Nat.le_of_ble_eq_true rfl⟩ (fun v_ w_ H locs hpost hP hD hS => ?_)
      obtain ⟨rfl, rfl⟩ := hpost
      refine W.eq (g2 := F0 m 126 ls []) rfl ?_
      refine lv_iconst (v := nI 2) hx hb dX12_tell_126 (by decide) ?_
      refine lv_iload_n hx hb dX12_tell_127 rfl (lv_at hl 1 rfl) ?_
      refine n_imul hx hb dX12_tell_128 ?_
      refine lv_iload_n hx hb dX12_tell_129 rfl (lv_at hl 0 rfl) ?_
      refine n_iadd hx hb dX12_tell_130 ?_
      exact rw_i hC rfl hP hD hS (by rw [if_neg (by rw [c_1]; decide)]; exact ⟨by simp [tellV, newsN, ls_7, hcj], by simp [tellT, hcj, ls_7]⟩) dX12_tell_131 (Nat.le_of_ble_eq_true rfl) (Nat.le_of_ble_eq_true rfl)
  · -- f 8
    refine lv_iconst (v := -1) hx hb dX12_tell_8 (by decide) ?_
    exact rw_i hC rfl hP hD hS (by rw [if_pos c_1]; exact ⟨rfl, rfl⟩) dX12_tell_9 (Nat.le_of_ble_eq_true rfl) (Nat.le_of_ble_eq_true rfl)

set_option maxHeartbeats 4000000 in
set_option maxRecDepth 100000 in
theorem c_m_log (l : Launch) (E : EE) (ad : Nat → Nat) (lk : Nat) (tr : Int32) (N : Nat → Nat) (X : Nat → Nat → Int32) (F G : Nat → Nat → Nat) (sz : Nat) (hM : MOK N F) (a1 : Int32) : Wr l yX12_log cX12_log 3 (some .int) rm_X12_log 0 0 E (mW E ad lk tr N X F G) sz [.ref (ad 0), .int a1] (fun v w1 => if isP a1 (N 9) = false then v = some (.int (-1)) ∧ w1 = mW E ad lk tr N X F G else v = some (.int (if knd (N 5) (F 10) (F 11) a1.toNatClampNeg = 2 then nI 70 else nI a1.toNatClampNeg)) ∧ w1 = mW E ad lk (if knd (N 5) (F 10) (F 11) a1.toNatClampNeg = 2 then nI 31 * tr + nI 5 else nI 31 * tr + nI 4) N X F G) := by
  refine mk_wr (by decide) (Nat.le_of_ble_eq_true rfl) ?_
  intro p e s m args below meth c hC hin hK A hA hP hD hS ls hl
  obtain ⟨hx, hb, hr, hts, hown, hml, hlk, hN⟩ := id hC
  have hl : lv_has ls 3 [(0, .ref (ad 0)), (1, .int a1)] := hl
  obtain ⟨hM5, hM9, hMp, hMq, hMn⟩ := id hM
  have hn : ∀ j, j < 4 → F 6 j < 16 := fun j _ => hMn j
  obtain ⟨H, hH⟩ : ∃ z, z = s.heap := ⟨_, rfl⟩
  have hS : va_S A s.heap H [] := by rw [hH]; exact hS
  rw [← hH] at hP
  refine W_heap hH ?_
  obtain ⟨locs, hlo⟩ : ∃ z : List Loc, z = [] := ⟨_, rfl⟩
  rw [← hlo] at hS ⊢
  refine lv_aload_n hx hb dX12_log_0 rfl (lv_at hl 0 rfl) ?_
  refine lv_iload_n hx hb dX12_log_1 rfl (lv_at hl 1 rfl) ?_
  refine cV_r (rest := []) hC (c_m_isCall l E ad lk tr N X F G a1) kw_895 iy_X12_isCall ⟨Nat.le_of_ble_eq_true rfl, Nat.le_of_ble_eq_true rfl⟩ ⟨rfl, rfl⟩ hK hP (va_recv hK hP (ci := 10) (q0 := 0) rfl rfl) rfl hl.1 rfl (Nat.le_of_ble_eq_true rfl) dX12_log_2 ⟨Nat.le_of_ble_eq_true rfl, Nat.le_of_ble_eq_true rfl⟩ ?_
  refine b_if_ne (tgt := 10) hx hb dX12_log_5 (by decide) (fun c_1 => ?_) (fun c_1 => ?_)
  · -- t 10
    obtain ⟨j, hj, rfl⟩ := isP_nat (by omega) c_1
    have hcj := nI_clamp (n := j) (by omega)
    have hl : lv_has ls 3 [(0, .ref (ad 0)), (1, .int (nI j))] := hl
    refine lv_aload_n hx hb dX12_log_10 rfl (lv_at hl 0 rfl) ?_
    refine lv_iload_n hx hb dX12_log_11 rfl (lv_at hl 1 rfl) ?_
    refine cV_r (rest := []) hC (c_m_kindOf l E ad lk tr N X F G hM j (by omega)) kw_899 iy_X12_kindOf ⟨Nat.le_of_ble_eq_true rfl, Nat.le_of_ble_eq_true rfl⟩ ⟨rfl, rfl⟩ hK hP (va_recv hK hP (ci := 10) (q0 := 0) rfl rfl) rfl hl.1 rfl (Nat.le_of_ble_eq_true rfl) dX12_log_12 ⟨Nat.le_of_ble_eq_true rfl, Nat.le_of_ble_eq_true rfl⟩ ?_
    have f_2 := knd_le (N 5) (F 10) (F 11) j
    refine lv_iconst (v := nI 2) hx hb dX12_log_15 (by decide) ?_
    refine n_icmp_ne (tgt := 23) hx hb (by omega) (by omega) dX12_log_16 (by decide) (fun c_3 => ?_) (fun c_3 => ?_)
    · -- t 23
      refine lv_iconst (v := nI 0) hx hb dX12_log_23 (by decide) ?_
      refine lv_istore_n (lv' := [(2, .int (nI 0)), (0, .ref (ad 0)), (1, .int (nI j))]) hx hb dX12_log_24 rfl hl (by decide) rfl (fun ls hl => ?_)
      refine lv_aload_n hx hb dX12_log_25 rfl (lv_at hl 1 rfl) ?_
      refine lv_iload_n hx hb dX12_log_26 rfl (lv_at hl 0 rfl) ?_
      refine n_if_eq (tgt := 34) hx hb (by omega) dX12_log_27 (by decide) (fun _ => ?_) (fun c_4 => absurd rfl c_4)
      refine lv_iconst (v := nI 4) hx hb dX12_log_34 (by decide) ?_
      refine cV_w0 (rest := []) hC (c_m_begins l E ad lk tr N X F G H.size 4) kw_1076 iy_X12_begins ⟨Nat.le_of_ble_eq_true rfl, Nat.le_of_ble_eq_true rfl⟩ ⟨rfl, rfl⟩ hK hP hD hS hA (va_recv hK hP (ci := 10) (q0 := 0) rfl rfl) rfl hl.1 rfl (Nat.le_of_ble_eq_true rfl) dX12_log_35 ⟨Nat.le_of_ble_eq_true rfl, Nat.le_of_ble_eq_true rfl⟩ (fun v_ w_ H locs hpost hP hD hS => ?_)
      obtain ⟨rfl, rfl⟩ := hpost
      refine W.eq (g2 := F0 m 38 ls []) rfl ?_
      refine lv_iload_n hx hb dX12_log_38 rfl (lv_at hl 0 rfl) ?_
      refine n_if_eq (tgt := 47) hx hb (by omega) dX12_log_39 (by decide) (fun _ => ?_) (fun c_5 => absurd rfl c_5)
      refine lv_iload_n hx hb dX12_log_47 rfl (lv_at hl 2 rfl) ?_
      exact rw_i hC rfl hP hD hS (by rw [if_neg (by rw [c_1]; decide)]; exact ⟨by simp [hcj, c_3], by simp [hcj, c_3]⟩) dX12_log_48 (Nat.le_of_ble_eq_true rfl) (Nat.le_of_ble_eq_true rfl)
    · -- f 19
      refine lv_iconst (v := nI 1) hx hb dX12_log_19 (by decide) ?_
      refine lv_goto (tgt := 24) hx hb dX12_log_20 (by decide) ?_
      refine lv_istore_n (lv' := [(2, .int (nI 1)), (0, .ref (ad 0)), (1, .int (nI j))]) hx hb dX12_log_24 rfl hl (by decide) rfl (fun ls hl => ?_)
      refine lv_aload_n hx hb dX12_log_25 rfl (lv_at hl 1 rfl) ?_
      refine lv_iload_n hx hb dX12_log_26 rfl (lv_at hl 0 rfl) ?_
      refine n_if_eq (tgt := 34) hx hb (by omega) dX12_log_27 (by decide) (fun c_6 => absurd c_6 (by decide)) (fun _ => ?_)
      refine lv_iconst (v := nI 5) hx hb dX12_log_30 (by decide) ?_
      refine lv_goto (tgt := 35) hx hb dX12_log_31 (by decide) ?_
      refine cV_w0 (rest := []) hC (c_m_begins l E ad lk tr N X F G H.size 5) kw_1076 iy_X12_begins ⟨Nat.le_of_ble_eq_true rfl, Nat.le_of_ble_eq_true rfl⟩ ⟨rfl, rfl⟩ hK hP hD hS hA (va_recv hK hP (ci := 10) (q0 := 0) rfl rfl) rfl hl.1 rfl (Nat.le_of_ble_eq_true rfl) dX12_log_35 ⟨Nat.le_of_ble_eq_true rfl, Nat.le_of_ble_eq_true rfl⟩ (fun v_ w_ H locs hpost hP hD hS => ?_)
      obtain ⟨rfl, rfl⟩ := hpost
      refine W.eq (g2 := F0 m 38 ls []) rfl ?_
      refine lv_iload_n hx hb dX12_log_38 rfl (lv_at hl 0 rfl) ?_
      refine n_if_eq (tgt := 47) hx hb (by omega) dX12_log_39 (by decide) (fun c_7 => absurd c_7 (by decide)) (fun _ => ?_)
      refine lv_bipush (v := nI 70) hx hb dX12_log_42 (by decide) ?_
      refine lv_goto (tgt := 48) hx hb dX12_log_44 (by decide) ?_
      exact rw_i hC rfl hP hD hS (by rw [if_neg (by rw [c_1]; decide)]; exact ⟨by simp [hcj, c_3], by simp [hcj, c_3]⟩) dX12_log_48 (Nat.le_of_ble_eq_true rfl) (Nat.le_of_ble_eq_true rfl)
  · -- f 8
    refine lv_iconst (v := -1) hx hb dX12_log_8 (by decide) ?_
    exact rw_i hC rfl hP hD hS (by rw [if_pos c_1]; exact ⟨rfl, rfl⟩) dX12_log_9 (Nat.le_of_ble_eq_true rfl) (Nat.le_of_ble_eq_true rfl)

set_option maxHeartbeats 4000000 in
set_option maxRecDepth 100000 in
theorem c_m_as (l : Launch) (E : EE) (ad : Nat → Nat) (lk : Nat) (tr : Int32) (N : Nat → Nat) (X : Nat → Nat → Int32) (F G : Nat → Nat → Nat) (sz : Nat) (hM : MOK N F) (a1 a2 : Int32) : Wr l yX12_as cX12_as 3 (some .int) rm_X12_as 0 0 E (mW E ad lk tr N X F G) sz [.ref (ad 0), .int a1, .int a2] (fun v w1 => if isP a1 (N 9) = false then v = some (.int (-1)) ∧ w1 = mW E ad lk tr (va_up N 0 0) X F G else if isIn a2 (nI 0) (nI 2) = false then v = some (.int (-2)) ∧ w1 = mW E ad lk tr (va_up N 0 0) X F G else if knd (N 5) (F 10) (F 11) a1.toNatClampNeg < a2.toNatClampNeg then v = some (.int ((-10) - nI 2)) ∧ w1 = mW E ad lk tr (va_up N 0 2) X F G else v = some (.int (nI 1)) ∧ w1 = mW E ad lk tr (va_up N 0 0) X F G) := by
  refine mk_wr (by decide) (Nat.le_of_ble_eq_true rfl) ?_
  intro p e s m args below meth c hC hin hK A hA hP hD hS ls hl
  obtain ⟨hx, hb, hr, hts, hown, hml, hlk, hN⟩ := id hC
  have hl : lv_has ls 3 [(0, .ref (ad 0)), (1, .int a1), (2, .int a2)] := hl
  obtain ⟨hM5, hM9, hMp, hMq, hMn⟩ := id hM
  have hn : ∀ j, j < 4 → F 6 j < 16 := fun j _ => hMn j
  obtain ⟨H, hH⟩ : ∃ z, z = s.heap := ⟨_, rfl⟩
  have hS : va_S A s.heap H [] := by rw [hH]; exact hS
  rw [← hH] at hP
  refine W_heap hH ?_
  obtain ⟨locs, hlo⟩ : ∃ z : List Loc, z = [] := ⟨_, rfl⟩
  rw [← hlo] at hS ⊢
  refine lv_aload_n hx hb dX12_as_0 rfl (lv_at hl 0 rfl) ?_
  refine lv_iconst (v := nI 0) hx hb dX12_as_1 (by decide) ?_
  refine va_put (D := E.1) (ci := 10) (v := .int (nI 0)) (ty := .int) (C := RX12) (T := TX12) (N := 30) hx hb hts iX12 tyX12 tyX12_ok nmX12 hown hK hP hD hS 0 rfl rfl 0 (by decide) (hts _ kw_739) (fun _ h9 => h9) rfl (by decide +kernel) rfl rfl (Nat.le_of_ble_eq_true rfl) dX12_as_2 (fun H locs hP hD hS => ?_)
  have hP : va_P E.1 vwCl (mW E ad lk tr (va_up N 0 0) X F G) H := hP
  have hD : va_D A (mW E ad lk tr (va_up N 0 0) X F G) := hD
  refine lv_aload_n hx hb dX12_as_5 rfl (lv_at hl 0 rfl) ?_
  refine lv_iload_n hx hb dX12_as_6 rfl (lv_at hl 1 rfl) ?_
  refine cV_r (rest := []) hC (c_m_isCall l E ad lk tr (va_up N 0 0) X F G a1) kw_895 iy_X12_isCall ⟨Nat.le_of_ble_eq_true rfl, Nat.le_of_ble_eq_true rfl⟩ ⟨rfl, rfl⟩ hK hP (va_recv hK hP (ci := 10) (q0 := 0) rfl rfl) rfl hl.1 rfl (Nat.le_of_ble_eq_true rfl) dX12_as_7 ⟨Nat.le_of_ble_eq_true rfl, Nat.le_of_ble_eq_true rfl⟩ ?_
  refine W.eq (g2 := F0 m 10 ls [.int (bI (isP a1 (N 9)))]) rfl ?_
  refine b_if_ne (tgt := 15) hx hb dX12_as_10 (by decide) (fun c_1 => ?_) (fun c_1 => ?_)
  · -- t 15
    obtain ⟨i, hi, rfl⟩ := isP_nat (by omega) c_1
    have hci := nI_clamp (n := i) (by omega)
    have hl : lv_has ls 3 [(0, .ref (ad 0)), (1, .int (nI i)), (2, .int a2)] := hl
    refine lv_iload_n hx hb dX12_as_15 rfl (lv_at hl 2 rfl) ?_
    refine lv_iconst (v := nI 0) hx hb dX12_as_16 (by decide) ?_
    refine lv_iconst (v := nI 2) hx hb dX12_as_17 (by decide) ?_
    refine cS_p (rest := []) hC (c_isIn l a2 (nI 0) (nI 2)) kw_837 sy_X12_isIn ⟨Nat.le_of_ble_eq_true rfl, Nat.le_of_ble_eq_true rfl⟩ ⟨rfl, rfl⟩ rfl hl.1 rfl (Nat.le_of_ble_eq_true rfl) dX12_as_18 ⟨Nat.le_of_ble_eq_true rfl, Nat.le_of_ble_eq_true rfl⟩ ?_
    refine b_if_ne (tgt := 27) hx hb dX12_as_21 (by decide) (fun c_2 => ?_) (fun c_2 => ?_)
    · -- t 27
      obtain ⟨j, hj, rfl⟩ := isIn_nat (by decide) c_2
      have hcj := nI_clamp (n := j) (by omega)
      have hl : lv_has ls 3 [(0, .ref (ad 0)), (1, .int (nI i)), (2, .int (nI j))] := hl
      refine lv_aload_n hx hb dX12_as_27 rfl (lv_at hl 0 rfl) ?_
      refine lv_iload_n hx hb dX12_as_28 rfl (lv_at hl 1 rfl) ?_
      refine cV_r (rest := []) hC (c_m_kindOf l E ad lk tr (va_up N 0 0) X F G hM i (by omega)) kw_899 iy_X12_kindOf ⟨Nat.le_of_ble_eq_true rfl, Nat.le_of_ble_eq_true rfl⟩ ⟨rfl, rfl⟩ hK hP (va_recv hK hP (ci := 10) (q0 := 0) rfl rfl) rfl hl.1 rfl (Nat.le_of_ble_eq_true rfl) dX12_as_29 ⟨Nat.le_of_ble_eq_true rfl, Nat.le_of_ble_eq_true rfl⟩ ?_
      refine W.eq (g2 := F0 m 32 ls [.int (nI (knd (N 5) (F 10) (F 11) i))]) rfl ?_
      have f_3 := knd_le (N 5) (F 10) (F 11) i
      refine lv_iload_n hx hb dX12_as_32 rfl (lv_at hl 2 rfl) ?_
      refine n_icmp_lt (tgt := 40) hx hb (by omega) (by omega) dX12_as_33 (by decide) (fun c_4 => ?_) (fun c_4 => ?_)
      · -- t 40
        refine lv_aload_n hx hb dX12_as_40 rfl (lv_at hl 0 rfl) ?_
        refine lv_iconst (v := nI 2) hx hb dX12_as_41 (by decide) ?_
        refine cV_w0 (rest := []) hC (c_m_fails l E ad lk tr (va_up N 0 0) X F G H.size 2) kw_843 iy_X12_fails ⟨Nat.le_of_ble_eq_true rfl, Nat.le_of_ble_eq_true rfl⟩ ⟨rfl, rfl⟩ hK hP hD hS hA (va_recv hK hP (ci := 10) (q0 := 0) rfl rfl) rfl hl.1 rfl (Nat.le_of_ble_eq_true rfl) dX12_as_42 ⟨Nat.le_of_ble_eq_true rfl, Nat.le_of_ble_eq_true rfl⟩ (fun v_ w_ H locs hpost hP hD hS => ?_)
        obtain ⟨rfl, rfl⟩ := hpost
        refine W.eq (g2 := F0 m 45 ls [.int ((-10) - nI 2)]) rfl ?_
        exact rw_i hC rfl hP hD hS (by rw [if_neg (by rw [c_1]; decide), if_neg (by rw [c_2]; decide), hci, hcj, if_pos c_4]; exact ⟨rfl, rfl⟩) dX12_as_45 (Nat.le_of_ble_eq_true rfl) (Nat.le_of_ble_eq_true rfl)
      · -- f 36
        refine lv_iconst (v := nI 1) hx hb dX12_as_36 (by decide) ?_
        refine lv_goto (tgt := 45) hx hb dX12_as_37 (by decide) ?_
        exact rw_i hC rfl hP hD hS (by rw [if_neg (by rw [c_1]; decide), if_neg (by rw [c_2]; decide), hci, hcj, if_neg (Nat.not_lt.mpr c_4)]; exact ⟨rfl, rfl⟩) dX12_as_45 (Nat.le_of_ble_eq_true rfl) (Nat.le_of_ble_eq_true rfl)
    · -- f 24
      refine lv_bipush (v := -2) hx hb dX12_as_24 (by decide) ?_
      exact rw_i hC rfl hP hD hS (by rw [if_neg (by rw [c_1]; decide), if_pos c_2]; exact ⟨rfl, rfl⟩) dX12_as_26 (Nat.le_of_ble_eq_true rfl) (Nat.le_of_ble_eq_true rfl)
  · -- f 13
    refine lv_iconst (v := -1) hx hb dX12_as_13 (by decide) ?_
    exact rw_i hC rfl hP hD hS (by rw [if_pos c_1]; exact ⟨rfl, rfl⟩) dX12_as_14 (Nat.le_of_ble_eq_true rfl) (Nat.le_of_ble_eq_true rfl)

set_option maxHeartbeats 4000000 in
set_option maxRecDepth 100000 in
theorem c_m_sheet (l : Launch) (E : EE) (ad : Nat → Nat) (lk : Nat) (tr : Int32) (N : Nat → Nat) (X : Nat → Nat → Int32) (F G : Nat → Nat → Nat) (sz : Nat) (a1 a2 a3 : Int32) : Wr l yX12_sheet cX12_sheet 5 (some .int) rm_X12_sheet 0 0 E (mW E ad lk tr N X F G) sz [.ref (ad 0), .int a1, .int a2, .int a3] (fun v w1 => if isIn a1 (nI 0) (nI 3) = false then v = some (.int (-1)) ∧ w1 = mW E ad lk tr (va_up N 0 0) X F G else if isIn a2 (nI 0) (nI 2) = false then v = some (.int (-2)) ∧ w1 = mW E ad lk tr (va_up N 0 0) X F G else if nI 60 < a3 then v = some (.int (-2)) ∧ w1 = mW E ad lk tr (va_up N 0 0) X F G else if a3 < 0 then v = some (.int ((-10) - nI 4)) ∧ w1 = mW E ad lk tr (va_up N 0 4) X F G else v = some (.int (nI 1)) ∧ w1 = mW E ad lk tr (va_up N 0 0) (va_up (va_up X 2 (upd (X 2) a1.toNatClampNeg a2)) 4 (zfill (X 4) a1.toNatClampNeg 60)) (va_up F 3 (va_up (F 3) a1.toNatClampNeg a3.toNatClampNeg)) G) := by
  refine mk_wr (by decide) (Nat.le_of_ble_eq_true rfl) ?_
  intro p e s m args below meth c hC hin hK A hA hP hD hS ls hl
  obtain ⟨hx, hb, hr, hts, hown, hml, hlk, hN⟩ := id hC
  have hl : lv_has ls 5 [(0, .ref (ad 0)), (1, .int a1), (2, .int a2), (3, .int a3)] := hl
  obtain ⟨H, hH⟩ : ∃ z, z = s.heap := ⟨_, rfl⟩
  have hS : va_S A s.heap H [] := by rw [hH]; exact hS
  rw [← hH] at hP
  refine W_heap hH ?_
  obtain ⟨locs, hlo⟩ : ∃ z : List Loc, z = [] := ⟨_, rfl⟩
  rw [← hlo] at hS ⊢
  refine lv_aload_n hx hb dX12_sheet_0 rfl (lv_at hl 0 rfl) ?_
  refine lv_iconst (v := nI 0) hx hb dX12_sheet_1 (by decide) ?_
  refine va_put (D := E.1) (ci := 10) (v := .int (nI 0)) (ty := .int) (C := RX12) (T := TX12) (N := 30) hx hb hts iX12 tyX12 tyX12_ok nmX12 hown hK hP hD hS 0 rfl rfl 0 (by decide) (hts _ kw_739) (fun _ h9 => h9) rfl (by decide +kernel) rfl rfl (Nat.le_of_ble_eq_true rfl) dX12_sheet_2 (fun H locs hP hD hS => ?_)
  have hP : va_P E.1 vwCl (mW E ad lk tr (va_up N 0 0) X F G) H := hP
  have hD : va_D A (mW E ad lk tr (va_up N 0 0) X F G) := hD
  refine lv_iload_n hx hb dX12_sheet_5 rfl (lv_at hl 1 rfl) ?_
  refine cS_p (rest := []) hC (c_m_isSheet l a1) kw_834 sy_X12_isSheet ⟨Nat.le_of_ble_eq_true rfl, Nat.le_of_ble_eq_true rfl⟩ ⟨rfl, rfl⟩ rfl hl.1 rfl (Nat.le_of_ble_eq_true rfl) dX12_sheet_6 ⟨Nat.le_of_ble_eq_true rfl, Nat.le_of_ble_eq_true rfl⟩ ?_
  refine b_if_ne (tgt := 14) hx hb dX12_sheet_9 (by decide) (fun c_1 => ?_) (fun c_1 => ?_)
  · -- t 14
    obtain ⟨i, hi, rfl⟩ := isIn_nat (by decide) c_1
    have hci := nI_clamp (n := i) (by omega)
    have hl : lv_has ls 5 [(0, .ref (ad 0)), (1, .int (nI i)), (2, .int a2), (3, .int a3)] := hl
    refine lv_iload_n hx hb dX12_sheet_14 rfl (lv_at hl 2 rfl) ?_
    refine cS_p (rest := []) hC (c_m_isLane l a2) kw_840 sy_X12_isLane ⟨Nat.le_of_ble_eq_true rfl, Nat.le_of_ble_eq_true rfl⟩ ⟨rfl, rfl⟩ rfl hl.1 rfl (Nat.le_of_ble_eq_true rfl) dX12_sheet_15 ⟨Nat.le_of_ble_eq_true rfl, Nat.le_of_ble_eq_true rfl⟩ ?_
    refine b_if_eq (tgt := 27) hx hb dX12_sheet_18 (by decide) (fun c_2 => ?_) (fun c_2 => ?_)
    · -- t 27
      refine lv_bipush (v := -2) hx hb dX12_sheet_27 (by decide) ?_
      exact rw_i hC rfl hP hD hS (by rw [if_neg (by rw [c_1]; decide), if_pos c_2]; exact ⟨rfl, rfl⟩) dX12_sheet_29 (Nat.le_of_ble_eq_true rfl) (Nat.le_of_ble_eq_true rfl)
    · -- f 21
      refine lv_iload_n hx hb dX12_sheet_21 rfl (lv_at hl 3 rfl) ?_
      refine lv_bipush (v := nI 60) hx hb dX12_sheet_22 (by decide) ?_
      refine lv_icmp_le (tgt := 30) hx hb dX12_sheet_24 (by decide) (fun c_3 => ?_) (fun c_3 => ?_)
      · -- t 30
        refine lv_iload_n hx hb dX12_sheet_30 rfl (lv_at hl 3 rfl) ?_
        refine lv_if_ge (tgt := 40) hx hb dX12_sheet_31 (by decide) (fun c_4 => ?_) (fun c_4 => ?_)
        · -- t 40
          obtain ⟨m3, hm3, rfl⟩ := nI_of2 (M := nI 60) (n := 60) (by decide) (i32_nlt c_4) c_3
          have hcm := nI_clamp (n := m3) (by omega)
          have hn60 : ¬ nI 60 < nI m3 := fun h => absurd ((nI_ltI (by decide) (by omega)).mp h) (by omega)
          have hnn : ¬ nI m3 < 0 := nI_pos (by omega)
          have hl : lv_has ls 5 [(0, .ref (ad 0)), (1, .int (nI i)), (2, .int a2), (3, .int (nI m3))] := hl
          refine lv_aload_n hx hb dX12_sheet_40 rfl (lv_at hl 0 rfl) ?_
          refine va_get (D := E.1) (ci := 10) (v := .ref (ad 2)) (C := RX12) (T := TX12) (N := 30) hx hb hts iX12 hown hK hP 0 rfl rfl 2 (by decide) (hts _ kw_741) (fun _ h9 => h9) rfl dX12_sheet_41 ?_
          refine lv_iload_n hx hb dX12_sheet_44 rfl (lv_at hl 1 rfl) ?_
          refine lv_iload_n hx hb dX12_sheet_45 rfl (lv_at hl 2 rfl) ?_
          refine n_iastR hx hb hK hP hD hS 1 rfl (by omega) (by decide) dX12_sheet_46 (fun H locs hP hD hS => ?_)
          have hP : va_P E.1 vwCl (mW E ad lk tr (va_up N 0 0) (va_up X 2 (upd (X 2) i a2)) F G) H := hP
          have hD : va_D A (mW E ad lk tr (va_up N 0 0) (va_up X 2 (upd (X 2) i a2)) F G) := hD
          refine lv_aload_n hx hb dX12_sheet_47 rfl (lv_at hl 0 rfl) ?_
          refine va_get (D := E.1) (ci := 10) (v := .ref (ad 3)) (C := RX12) (T := TX12) (N := 30) hx hb hts iX12 hown hK hP 0 rfl rfl 3 (by decide) (hts _ kw_742) (fun _ h9 => h9) rfl dX12_sheet_48 ?_
          refine lv_iload_n hx hb dX12_sheet_51 rfl (lv_at hl 1 rfl) ?_
          refine lv_iload_n hx hb dX12_sheet_52 rfl (lv_at hl 3 rfl) ?_
          refine n_iast hx hb hK hP hD hS 2 rfl (by omega) (by decide) dX12_sheet_53 (fun H locs hP hD hS => ?_)
          have hP : va_P E.1 vwCl (mW E ad lk tr (va_up N 0 0) (va_up X 2 (upd (X 2) i a2)) (va_up F 3 (va_up (F 3) i m3)) G) H := hP
          have hD : va_D A (mW E ad lk tr (va_up N 0 0) (va_up X 2 (upd (X 2) i a2)) (va_up F 3 (va_up (F 3) i m3)) G) := hD
          refine lv_iconst (v := nI 0) hx hb dX12_sheet_54 (by decide) ?_
          refine lv_istore (lv' := [(4, .int (nI 0)), (0, .ref (ad 0)), (1, .int (nI i)), (2, .int a2), (3, .int (nI m3))]) hx hb dX12_sheet_55 hl (by decide) rfl (fun ls hl => ?_)
          have lp_5 : ∀ (n_lp_5 : Nat) (k : Nat) (hk : k ≤ 60), 60 - k < n_lp_5 → ∀ (H : Heap) (locs : List Loc) (hP : va_P E.1 vwCl (mW E ad lk tr (va_up N 0 0) (va_up (va_up X 2 (upd (X 2) i a2)) 4 (zfill (X 4) i k)) (va_up F 3 (va_up (F 3) i m3)) G) H) (hD : va_D A (mW E ad lk tr (va_up N 0 0) (va_up (va_up X 2 (upd (X 2) i a2)) 4 (zfill (X 4) i k)) (va_up F 3 (va_up (F 3) i m3)) G)) (hS : va_S A s.heap H locs) (ls : Array Slot), lv_has ls 5 [(0, .ref (ad 0)), (1, .int (nI i)), (2, .int a2), (3, .int (nI m3)), (4, .int (nI k))] → W p l e rm_X12_sheet s m args below meth c H locs 0 0 (MQ below (wr_Q E A (fun v w1 => if isIn (nI i) (nI 0) (nI 3) = false then v = some (.int (-1)) ∧ w1 = mW E ad lk tr (va_up N 0 0) X F G else if isIn a2 (nI 0) (nI 2) = false then v = some (.int (-2)) ∧ w1 = mW E ad lk tr (va_up N 0 0) X F G else if nI 60 < (nI m3) then v = some (.int (-2)) ∧ w1 = mW E ad lk tr (va_up N 0 0) X F G else if (nI m3) < 0 then v = some (.int ((-10) - nI 4)) ∧ w1 = mW E ad lk tr (va_up N 0 4) X F G else v = some (.int (nI 1)) ∧ w1 = mW E ad lk tr (va_up N 0 0) (va_up (va_up X 2 (upd (X 2) (nI i).toNatClampNeg a2)) 4 (zfill (X 4) (nI i).toNatClampNeg 60)) (va_up F 3 (va_up (F 3) (nI i).toNatClampNeg (nI m3).toNatClampNeg)) G)) args s 0 0 A) (F0 m 57 ls []) := by
            intro n_lp_5
            induction n_lp_5 with
            | zero => intro k hk; intro hm_lp_5; exact absurd hm_lp_5 (Nat.not_lt_zero _)
            | succ n_lp_5 ih_lp_5 =>
              intro k hk hm_lp_5 H locs hP hD hS ls hl
              refine lv_iload hx hb dX12_sheet_57 (lv_at hl 4 rfl) ?_
              refine lv_bipush (v := nI 60) hx hb dX12_sheet_59 (by decide) ?_
              refine n_icmp_ge (tgt := 83) hx hb (by omega) (by omega) dX12_sheet_61 (by decide) (fun c_6 => ?_) (fun c_6 => ?_)
              · -- t 83
                refine lv_iconst (v := nI 1) hx hb dX12_sheet_83 (by decide) ?_
                exact rw_i hC rfl hP hD hS (by rw [if_neg (by rw [c_1]; decide), if_neg (by rw [c_2]; decide), if_neg hn60, if_neg hnn, hci, hcm, show k = 60 by omega]; exact ⟨rfl, rfl⟩) dX12_sheet_84 (Nat.le_of_ble_eq_true rfl) (Nat.le_of_ble_eq_true rfl)
              · -- f 64
                refine lv_aload_n hx hb dX12_sheet_64 rfl (lv_at hl 0 rfl) ?_
                refine va_get (D := E.1) (ci := 10) (v := .ref (ad 4)) (C := RX12) (T := TX12) (N := 30) hx hb hts iX12 hown hK hP 0 rfl rfl 4 (by decide) (hts _ kw_743) (fun _ h9 => h9) rfl dX12_sheet_65 ?_
                refine lv_bipush (v := nI 60) hx hb dX12_sheet_68 (by decide) ?_
                refine lv_iload_n hx hb dX12_sheet_70 rfl (lv_at hl 1 rfl) ?_
                refine n_imul hx hb dX12_sheet_71 ?_
                refine lv_iload hx hb dX12_sheet_72 (lv_at hl 4 rfl) ?_
                refine n_iadd hx hb dX12_sheet_74 ?_
                refine lv_iconst (v := nI 0) hx hb dX12_sheet_75 (by decide) ?_
                refine n_iastR hx hb hK hP hD hS 3 rfl (by omega) (by decide) dX12_sheet_76 (fun H locs hP hD hS => ?_)
                have hP : va_P E.1 vwCl (mW E ad lk tr (va_up N 0 0) (va_up (va_up X 2 (upd (X 2) i a2)) 4 (upd (zfill (X 4) i k) ((60 * i) + k) (nI 0))) (va_up F 3 (va_up (F 3) i m3)) G) H := hP
                have hD : va_D A (mW E ad lk tr (va_up N 0 0) (va_up (va_up X 2 (upd (X 2) i a2)) 4 (upd (zfill (X 4) i k) ((60 * i) + k) (nI 0))) (va_up F 3 (va_up (F 3) i m3)) G) := hD
                refine lv_iinc (v := nI (k + 1)) (lv' := [(4, .int (nI (k + 1))), (0, .ref (ad 0)), (1, .int (nI i)), (2, .int a2), (3, .int (nI m3))]) hx hb dX12_sheet_77 hl (k := 4) rfl (ii_1 _) (by decide) rfl (fun ls hl => ?_)
                refine lv_goto (tgt := 57) hx hb dX12_sheet_80 (by decide) ?_
                exact ih_lp_5 (k + 1) (by omega) (by omega) H locs (by rw [← zfill_s]; exact hP) (by rw [← zfill_s]; exact hD) hS ls (lv_sub hl [1, 2, 3, 4, 0] rfl)
          exact lp_5 _ 0 (by omega) (Nat.lt_succ_self _) H locs (by rw [zfill_0]; exact hP) (by rw [zfill_0]; exact hD) hS ls (lv_sub hl [1, 2, 3, 4, 0] rfl)
        · -- f 34
          refine lv_aload_n hx hb dX12_sheet_34 rfl (lv_at hl 0 rfl) ?_
          refine lv_iconst (v := nI 4) hx hb dX12_sheet_35 (by decide) ?_
          refine cV_w0 (rest := []) hC (c_m_fails l E ad lk tr (va_up N 0 0) X F G H.size 4) kw_843 iy_X12_fails ⟨Nat.le_of_ble_eq_true rfl, Nat.le_of_ble_eq_true rfl⟩ ⟨rfl, rfl⟩ hK hP hD hS hA (va_recv hK hP (ci := 10) (q0 := 0) rfl rfl) rfl hl.1 rfl (Nat.le_of_ble_eq_true rfl) dX12_sheet_36 ⟨Nat.le_of_ble_eq_true rfl, Nat.le_of_ble_eq_true rfl⟩ (fun v_ w_ H locs hpost hP hD hS => ?_)
          obtain ⟨rfl, rfl⟩ := hpost
          refine W.eq (g2 := F0 m 39 ls [.int ((-10) - nI 4)]) rfl ?_
          exact rw_i hC rfl hP hD hS (by rw [if_neg (by rw [c_1]; decide), if_neg (by rw [c_2]; decide), if_neg (fun h => absurd h (i32_nlt c_3)), if_pos (i32_lt c_4)]; exact ⟨rfl, rfl⟩) dX12_sheet_39 (Nat.le_of_ble_eq_true rfl) (Nat.le_of_ble_eq_true rfl)
      · -- f 27
        refine lv_bipush (v := -2) hx hb dX12_sheet_27 (by decide) ?_
        exact rw_i hC rfl hP hD hS (by rw [if_neg (by rw [c_1]; decide), if_neg (by rw [c_2]; decide), if_pos (i32_lt c_3)]; exact ⟨rfl, rfl⟩) dX12_sheet_29 (Nat.le_of_ble_eq_true rfl) (Nat.le_of_ble_eq_true rfl)
  · -- f 12
    refine lv_iconst (v := -1) hx hb dX12_sheet_12 (by decide) ?_
    exact rw_i hC rfl hP hD hS (by rw [if_pos c_1]; exact ⟨rfl, rfl⟩) dX12_sheet_13 (Nat.le_of_ble_eq_true rfl) (Nat.le_of_ble_eq_true rfl)

set_option maxHeartbeats 4000000 in
set_option maxRecDepth 100000 in
theorem c_m_lose (l : Launch) (E : EE) (ad : Nat → Nat) (lk : Nat) (tr : Int32) (N : Nat → Nat) (X : Nat → Nat → Int32) (F G : Nat → Nat → Nat) (sz : Nat) (a1 : Int32) : Wr l yX12_lose cX12_lose 3 (some .int) rm_X12_lose 0 0 E (mW E ad lk tr N X F G) sz [.ref (ad 0), .int a1] (fun v w1 => if isIn a1 (nI 0) (nI 3) = false then v = some (.int (-1)) ∧ w1 = mW E ad lk tr N X F G else if X 2 a1.toNatClampNeg = -9 then v = some (.int (nI 0)) ∧ w1 = mW E ad lk tr N (va_up X 2 (upd (X 2) a1.toNatClampNeg (-9))) F G else v = some (.int (nI 1)) ∧ w1 = mW E ad lk tr N (va_up X 2 (upd (X 2) a1.toNatClampNeg (-9))) F G) := by
  refine mk_wr (by decide) (Nat.le_of_ble_eq_true rfl) ?_
  intro p e s m args below meth c hC hin hK A hA hP hD hS ls hl
  obtain ⟨hx, hb, hr, hts, hown, hml, hlk, hN⟩ := id hC
  have hl : lv_has ls 3 [(0, .ref (ad 0)), (1, .int a1)] := hl
  obtain ⟨H, hH⟩ : ∃ z, z = s.heap := ⟨_, rfl⟩
  have hS : va_S A s.heap H [] := by rw [hH]; exact hS
  rw [← hH] at hP
  refine W_heap hH ?_
  obtain ⟨locs, hlo⟩ : ∃ z : List Loc, z = [] := ⟨_, rfl⟩
  rw [← hlo] at hS ⊢
  refine lv_iload_n hx hb dX12_lose_0 rfl (lv_at hl 1 rfl) ?_
  refine cS_p (rest := []) hC (c_m_isSheet l a1) kw_834 sy_X12_isSheet ⟨Nat.le_of_ble_eq_true rfl, Nat.le_of_ble_eq_true rfl⟩ ⟨rfl, rfl⟩ rfl hl.1 rfl (Nat.le_of_ble_eq_true rfl) dX12_lose_1 ⟨Nat.le_of_ble_eq_true rfl, Nat.le_of_ble_eq_true rfl⟩ ?_
  refine b_if_ne (tgt := 9) hx hb dX12_lose_4 (by decide) (fun c_1 => ?_) (fun c_1 => ?_)
  · -- t 9
    obtain ⟨i, hi, rfl⟩ := isIn_nat (by decide) c_1
    have hci := nI_clamp (n := i) (by omega)
    have hl : lv_has ls 3 [(0, .ref (ad 0)), (1, .int (nI i))] := hl
    refine lv_aload_n hx hb dX12_lose_9 rfl (lv_at hl 0 rfl) ?_
    refine va_get (D := E.1) (ci := 10) (v := .ref (ad 2)) (C := RX12) (T := TX12) (N := 30) hx hb hts iX12 hown hK hP 0 rfl rfl 2 (by decide) (hts _ kw_741) (fun _ h9 => h9) rfl dX12_lose_10 ?_
    refine lv_iload_n hx hb dX12_lose_13 rfl (lv_at hl 1 rfl) ?_
    refine n_iald hx hb hK hP 1 rfl (by omega) (by decide) dX12_lose_14 ?_
    refine lv_bipush (v := -9) hx hb dX12_lose_15 (by decide) ?_
    refine lv_icmp_ne (tgt := 24) hx hb dX12_lose_17 (by decide) (fun c_2 => ?_) (fun c_2 => ?_)
    · -- t 24
      refine lv_iconst (v := nI 1) hx hb dX12_lose_24 (by decide) ?_
      refine lv_istore_n (lv' := [(2, .int (nI 1)), (0, .ref (ad 0)), (1, .int (nI i))]) hx hb dX12_lose_25 rfl hl (by decide) rfl (fun ls hl => ?_)
      refine lv_aload_n hx hb dX12_lose_26 rfl (lv_at hl 1 rfl) ?_
      refine va_get (D := E.1) (ci := 10) (v := .ref (ad 2)) (C := RX12) (T := TX12) (N := 30) hx hb hts iX12 hown hK hP 0 rfl rfl 2 (by decide) (hts _ kw_741) (fun _ h9 => h9) rfl dX12_lose_27 ?_
      refine lv_iload_n hx hb dX12_lose_30 rfl (lv_at hl 2 rfl) ?_
      refine lv_bipush (v := -9) hx hb dX12_lose_31 (by decide) ?_
      refine n_iastR hx hb hK hP hD hS 1 rfl (by omega) (by decide) dX12_lose_33 (fun H locs hP hD hS => ?_)
      have hP : va_P E.1 vwCl (mW E ad lk tr N (va_up X 2 (upd (X 2) i (-9))) F G) H := hP
      have hD : va_D A (mW E ad lk tr N (va_up X 2 (upd (X 2) i (-9))) F G) := hD
      refine lv_iload_n hx hb dX12_lose_34 rfl (lv_at hl 0 rfl) ?_
      exact rw_i hC rfl hP hD hS (by rw [if_neg (by rw [c_1]; decide), hci, if_neg c_2]; exact ⟨rfl, rfl⟩) dX12_lose_35 (Nat.le_of_ble_eq_true rfl) (Nat.le_of_ble_eq_true rfl)
    · -- f 20
      refine lv_iconst (v := nI 0) hx hb dX12_lose_20 (by decide) ?_
      refine lv_goto (tgt := 25) hx hb dX12_lose_21 (by decide) ?_
      refine lv_istore_n (lv' := [(2, .int (nI 0)), (0, .ref (ad 0)), (1, .int (nI i))]) hx hb dX12_lose_25 rfl hl (by decide) rfl (fun ls hl => ?_)
      refine lv_aload_n hx hb dX12_lose_26 rfl (lv_at hl 1 rfl) ?_
      refine va_get (D := E.1) (ci := 10) (v := .ref (ad 2)) (C := RX12) (T := TX12) (N := 30) hx hb hts iX12 hown hK hP 0 rfl rfl 2 (by decide) (hts _ kw_741) (fun _ h9 => h9) rfl dX12_lose_27 ?_
      refine lv_iload_n hx hb dX12_lose_30 rfl (lv_at hl 2 rfl) ?_
      refine lv_bipush (v := -9) hx hb dX12_lose_31 (by decide) ?_
      refine n_iastR hx hb hK hP hD hS 1 rfl (by omega) (by decide) dX12_lose_33 (fun H locs hP hD hS => ?_)
      have hP : va_P E.1 vwCl (mW E ad lk tr N (va_up X 2 (upd (X 2) i (-9))) F G) H := hP
      have hD : va_D A (mW E ad lk tr N (va_up X 2 (upd (X 2) i (-9))) F G) := hD
      refine lv_iload_n hx hb dX12_lose_34 rfl (lv_at hl 0 rfl) ?_
      exact rw_i hC rfl hP hD hS (by rw [if_neg (by rw [c_1]; decide), hci, if_pos c_2]; exact ⟨rfl, rfl⟩) dX12_lose_35 (Nat.le_of_ble_eq_true rfl) (Nat.le_of_ble_eq_true rfl)
  · -- f 7
    refine lv_iconst (v := -1) hx hb dX12_lose_7 (by decide) ?_
    exact rw_i hC rfl hP hD hS (by rw [if_pos c_1]; exact ⟨rfl, rfl⟩) dX12_lose_8 (Nat.le_of_ble_eq_true rfl) (Nat.le_of_ble_eq_true rfl)

set_option maxHeartbeats 4000000 in
set_option maxRecDepth 100000 in
theorem c_m_put (l : Launch) (E : EE) (ad : Nat → Nat) (lk : Nat) (tr : Int32) (N : Nat → Nat) (X : Nat → Nat → Int32) (F G : Nat → Nat → Nat) (sz : Nat) (h60 : ∀ j, F 3 j ≤ 60) (a1 a2 a3 : Int32) : Wr l yX12_put cX12_put 4 (some .int) rm_X12_put 0 0 E (mW E ad lk tr N X F G) sz [.ref (ad 0), .int a1, .int a2, .int a3] (fun v w1 => if isIn a1 (nI 0) (nI 3) = false then v = some (.int (-1)) ∧ w1 = mW E ad lk tr (va_up N 0 0) X F G else if X 2 a1.toNatClampNeg = -9 then v = some (.int ((-10) - nI 1)) ∧ w1 = mW E ad lk tr (va_up N 0 1) X F G else if isIn a2 (nI 0) (nI (F 3 a1.toNatClampNeg) - nI 1) = false then v = some (.int ((-10) - nI 3)) ∧ w1 = mW E ad lk tr (va_up N 0 3) X F G else v = some (.int (nI 1)) ∧ w1 = mW E ad lk tr (va_up N 0 0) (va_up X 4 (upd (X 4) (60 * a1.toNatClampNeg + a2.toNatClampNeg) (cutL (X 2 a1.toNatClampNeg) a3))) F G) := by
  refine mk_wr (by decide) (Nat.le_of_ble_eq_true rfl) ?_
  intro p e s m args below meth c hC hin hK A hA hP hD hS ls hl
  obtain ⟨hx, hb, hr, hts, hown, hml, hlk, hN⟩ := id hC
  have hl : lv_has ls 4 [(0, .ref (ad 0)), (1, .int a1), (2, .int a2), (3, .int a3)] := hl
  obtain ⟨H, hH⟩ : ∃ z, z = s.heap := ⟨_, rfl⟩
  have hS : va_S A s.heap H [] := by rw [hH]; exact hS
  rw [← hH] at hP
  refine W_heap hH ?_
  obtain ⟨locs, hlo⟩ : ∃ z : List Loc, z = [] := ⟨_, rfl⟩
  rw [← hlo] at hS ⊢
  refine lv_aload_n hx hb dX12_put_0 rfl (lv_at hl 0 rfl) ?_
  refine lv_iconst (v := nI 0) hx hb dX12_put_1 (by decide) ?_
  refine va_put (D := E.1) (ci := 10) (v := .int (nI 0)) (ty := .int) (C := RX12) (T := TX12) (N := 30) hx hb hts iX12 tyX12 tyX12_ok nmX12 hown hK hP hD hS 0 rfl rfl 0 (by decide) (hts _ kw_739) (fun _ h9 => h9) rfl (by decide +kernel) rfl rfl (Nat.le_of_ble_eq_true rfl) dX12_put_2 (fun H locs hP hD hS => ?_)
  have hP : va_P E.1 vwCl (mW E ad lk tr (va_up N 0 0) X F G) H := hP
  have hD : va_D A (mW E ad lk tr (va_up N 0 0) X F G) := hD
  refine lv_iload_n hx hb dX12_put_5 rfl (lv_at hl 1 rfl) ?_
  refine cS_p (rest := []) hC (c_m_isSheet l a1) kw_834 sy_X12_isSheet ⟨Nat.le_of_ble_eq_true rfl, Nat.le_of_ble_eq_true rfl⟩ ⟨rfl, rfl⟩ rfl hl.1 rfl (Nat.le_of_ble_eq_true rfl) dX12_put_6 ⟨Nat.le_of_ble_eq_true rfl, Nat.le_of_ble_eq_true rfl⟩ ?_
  refine b_if_ne (tgt := 14) hx hb dX12_put_9 (by decide) (fun c_1 => ?_) (fun c_1 => ?_)
  · -- t 14
    obtain ⟨i, hi, rfl⟩ := isIn_nat (by decide) c_1
    have hci := nI_clamp (n := i) (by omega)
    have hl : lv_has ls 4 [(0, .ref (ad 0)), (1, .int (nI i)), (2, .int a2), (3, .int a3)] := hl
    refine lv_aload_n hx hb dX12_put_14 rfl (lv_at hl 0 rfl) ?_
    refine va_get (D := E.1) (ci := 10) (v := .ref (ad 2)) (C := RX12) (T := TX12) (N := 30) hx hb hts iX12 hown hK hP 0 rfl rfl 2 (by decide) (hts _ kw_741) (fun _ h9 => h9) rfl dX12_put_15 ?_
    refine lv_iload_n hx hb dX12_put_18 rfl (lv_at hl 1 rfl) ?_
    refine n_iald hx hb hK hP 1 rfl (by omega) (by decide) dX12_put_19 ?_
    refine lv_bipush (v := -9) hx hb dX12_put_20 (by decide) ?_
    refine lv_icmp_ne (tgt := 31) hx hb dX12_put_22 (by decide) (fun c_2 => ?_) (fun c_2 => ?_)
    · -- t 31
      refine lv_iload_n hx hb dX12_put_31 rfl (lv_at hl 2 rfl) ?_
      refine lv_iconst (v := nI 0) hx hb dX12_put_32 (by decide) ?_
      refine lv_aload_n hx hb dX12_put_33 rfl (lv_at hl 0 rfl) ?_
      refine va_get (D := E.1) (ci := 10) (v := .ref (ad 3)) (C := RX12) (T := TX12) (N := 30) hx hb hts iX12 hown hK hP 0 rfl rfl 3 (by decide) (hts _ kw_742) (fun _ h9 => h9) rfl dX12_put_34 ?_
      refine lv_iload_n hx hb dX12_put_37 rfl (lv_at hl 1 rfl) ?_
      refine n_iald hx hb hK hP 2 rfl (by omega) (by decide) dX12_put_38 ?_
      refine lv_iconst (v := nI 1) hx hb dX12_put_39 (by decide) ?_
      refine lv_isub hx hb dX12_put_40 ?_
      refine cS_p (rest := []) hC (c_isIn l a2 (nI 0) (nI ((F 3) i) - nI 1)) kw_837 sy_X12_isIn ⟨Nat.le_of_ble_eq_true rfl, Nat.le_of_ble_eq_true rfl⟩ ⟨rfl, rfl⟩ rfl hl.1 rfl (Nat.le_of_ble_eq_true rfl) dX12_put_41 ⟨Nat.le_of_ble_eq_true rfl, Nat.le_of_ble_eq_true rfl⟩ ?_
      refine b_if_ne (tgt := 53) hx hb dX12_put_44 (by decide) (fun c_3 => ?_) (fun c_3 => ?_)
      · -- t 53
        have hL6 := h60 i
        obtain ⟨j, hj, rfl⟩ := isIn_len hL6 c_3
        have hcj := nI_clamp (n := j) (by omega)
        have hl : lv_has ls 4 [(0, .ref (ad 0)), (1, .int (nI i)), (2, .int (nI j)), (3, .int a3)] := hl
        refine lv_aload_n hx hb dX12_put_53 rfl (lv_at hl 0 rfl) ?_
        refine va_get (D := E.1) (ci := 10) (v := .ref (ad 4)) (C := RX12) (T := TX12) (N := 30) hx hb hts iX12 hown hK hP 0 rfl rfl 4 (by decide) (hts _ kw_743) (fun _ h9 => h9) rfl dX12_put_54 ?_
        refine lv_bipush (v := nI 60) hx hb dX12_put_57 (by decide) ?_
        refine lv_iload_n hx hb dX12_put_59 rfl (lv_at hl 1 rfl) ?_
        refine n_imul hx hb dX12_put_60 ?_
        refine lv_iload_n hx hb dX12_put_61 rfl (lv_at hl 2 rfl) ?_
        refine n_iadd hx hb dX12_put_62 ?_
        refine lv_aload_n hx hb dX12_put_63 rfl (lv_at hl 0 rfl) ?_
        refine va_get (D := E.1) (ci := 10) (v := .ref (ad 2)) (C := RX12) (T := TX12) (N := 30) hx hb hts iX12 hown hK hP 0 rfl rfl 2 (by decide) (hts _ kw_741) (fun _ h9 => h9) rfl dX12_put_64 ?_
        refine lv_iload_n hx hb dX12_put_67 rfl (lv_at hl 1 rfl) ?_
        refine n_iald hx hb hK hP 1 rfl (by omega) (by decide) dX12_put_68 ?_
        refine lv_if_ne (tgt := 77) hx hb dX12_put_69 (by decide) (fun c_4 => ?_) (fun c_4 => ?_)
        · -- t 77
          refine lv_aload_n hx hb dX12_put_77 rfl (lv_at hl 0 rfl) ?_
          refine va_get (D := E.1) (ci := 10) (v := .ref (ad 2)) (C := RX12) (T := TX12) (N := 30) hx hb hts iX12 hown hK hP 0 rfl rfl 2 (by decide) (hts _ kw_741) (fun _ h9 => h9) rfl dX12_put_78 ?_
          refine lv_iload_n hx hb dX12_put_81 rfl (lv_at hl 1 rfl) ?_
          refine n_iald hx hb hK hP 1 rfl (by omega) (by decide) dX12_put_82 ?_
          refine lv_iconst (v := nI 1) hx hb dX12_put_83 (by decide) ?_
          refine lv_icmp_ne (tgt := 92) hx hb dX12_put_84 (by decide) (fun c_5 => ?_) (fun c_5 => ?_)
          · -- t 92
            refine lv_iload_n hx hb dX12_put_92 rfl (lv_at hl 3 rfl) ?_
            refine n_iastR hx hb hK hP hD hS 3 rfl (by omega) (by decide) dX12_put_93 (fun H locs hP hD hS => ?_)
            have hP : va_P E.1 vwCl (mW E ad lk tr (va_up N 0 0) (va_up X 4 (upd (X 4) ((60 * i) + j) a3)) F G) H := hP
            have hD : va_D A (mW E ad lk tr (va_up N 0 0) (va_up X 4 (upd (X 4) ((60 * i) + j) a3)) F G) := hD
            refine lv_iconst (v := nI 1) hx hb dX12_put_94 (by decide) ?_
            exact rw_i hC rfl hP hD hS (by rw [if_neg (by rw [c_1]; decide), hci, if_neg c_2, if_neg (by rw [c_3]; decide), hcj, cutL, if_neg c_4, if_neg c_5]; exact ⟨rfl, rfl⟩) dX12_put_95 (Nat.le_of_ble_eq_true rfl) (Nat.le_of_ble_eq_true rfl)
          · -- f 87
            refine lv_iload_n hx hb dX12_put_87 rfl (lv_at hl 3 rfl) ?_
            refine lv_i2s hx hb dX12_put_88 rfl ?_
            refine lv_goto (tgt := 93) hx hb dX12_put_89 (by decide) ?_
            refine n_iastR hx hb hK hP hD hS 3 rfl (by omega) (by decide) dX12_put_93 (fun H locs hP hD hS => ?_)
            have hP : va_P E.1 vwCl (mW E ad lk tr (va_up N 0 0) (va_up X 4 (upd (X 4) ((60 * i) + j) a3.toInt16.toInt32)) F G) H := hP
            have hD : va_D A (mW E ad lk tr (va_up N 0 0) (va_up X 4 (upd (X 4) ((60 * i) + j) a3.toInt16.toInt32)) F G) := hD
            refine lv_iconst (v := nI 1) hx hb dX12_put_94 (by decide) ?_
            exact rw_i hC rfl hP hD hS (by rw [if_neg (by rw [c_1]; decide), hci, if_neg c_2, if_neg (by rw [c_3]; decide), hcj, cutL, if_neg c_4, if_pos c_5]; exact ⟨rfl, rfl⟩) dX12_put_95 (Nat.le_of_ble_eq_true rfl) (Nat.le_of_ble_eq_true rfl)
        · -- f 72
          refine lv_iload_n hx hb dX12_put_72 rfl (lv_at hl 3 rfl) ?_
          refine lv_i2b hx hb dX12_put_73 rfl ?_
          refine lv_goto (tgt := 93) hx hb dX12_put_74 (by decide) ?_
          refine n_iastR hx hb hK hP hD hS 3 rfl (by omega) (by decide) dX12_put_93 (fun H locs hP hD hS => ?_)
          have hP : va_P E.1 vwCl (mW E ad lk tr (va_up N 0 0) (va_up X 4 (upd (X 4) ((60 * i) + j) a3.toInt8.toInt32)) F G) H := hP
          have hD : va_D A (mW E ad lk tr (va_up N 0 0) (va_up X 4 (upd (X 4) ((60 * i) + j) a3.toInt8.toInt32)) F G) := hD
          refine lv_iconst (v := nI 1) hx hb dX12_put_94 (by decide) ?_
          exact rw_i hC rfl hP hD hS (by rw [if_neg (by rw [c_1]; decide), hci, if_neg c_2, if_neg (by rw [c_3]; decide), hcj, cutL, if_pos c_4]; exact ⟨rfl, rfl⟩) dX12_put_95 (Nat.le_of_ble_eq_true rfl) (Nat.le_of_ble_eq_true rfl)
      · -- f 47
        refine lv_aload_n hx hb dX12_put_47 rfl (lv_at hl 0 rfl) ?_
        refine lv_iconst (v := nI 3) hx hb dX12_put_48 (by decide) ?_
        refine cV_w0 (rest := []) hC (c_m_fails l E ad lk tr (va_up N 0 0) X F G H.size 3) kw_843 iy_X12_fails ⟨Nat.le_of_ble_eq_true rfl, Nat.le_of_ble_eq_true rfl⟩ ⟨rfl, rfl⟩ hK hP hD hS hA (va_recv hK hP (ci := 10) (q0 := 0) rfl rfl) rfl hl.1 rfl (Nat.le_of_ble_eq_true rfl) dX12_put_49 ⟨Nat.le_of_ble_eq_true rfl, Nat.le_of_ble_eq_true rfl⟩ (fun v_ w_ H locs hpost hP hD hS => ?_)
        obtain ⟨rfl, rfl⟩ := hpost
        refine W.eq (g2 := F0 m 52 ls [.int ((-10) - nI 3)]) rfl ?_
        exact rw_i hC rfl hP hD hS (by rw [if_neg (by rw [c_1]; decide), hci, if_neg c_2, if_pos c_3]; exact ⟨rfl, rfl⟩) dX12_put_52 (Nat.le_of_ble_eq_true rfl) (Nat.le_of_ble_eq_true rfl)
    · -- f 25
      refine lv_aload_n hx hb dX12_put_25 rfl (lv_at hl 0 rfl) ?_
      refine lv_iconst (v := nI 1) hx hb dX12_put_26 (by decide) ?_
      refine cV_w0 (rest := []) hC (c_m_fails l E ad lk tr (va_up N 0 0) X F G H.size 1) kw_843 iy_X12_fails ⟨Nat.le_of_ble_eq_true rfl, Nat.le_of_ble_eq_true rfl⟩ ⟨rfl, rfl⟩ hK hP hD hS hA (va_recv hK hP (ci := 10) (q0 := 0) rfl rfl) rfl hl.1 rfl (Nat.le_of_ble_eq_true rfl) dX12_put_27 ⟨Nat.le_of_ble_eq_true rfl, Nat.le_of_ble_eq_true rfl⟩ (fun v_ w_ H locs hpost hP hD hS => ?_)
      obtain ⟨rfl, rfl⟩ := hpost
      refine W.eq (g2 := F0 m 30 ls [.int ((-10) - nI 1)]) rfl ?_
      exact rw_i hC rfl hP hD hS (by rw [if_neg (by rw [c_1]; decide), hci, if_pos c_2]; exact ⟨rfl, rfl⟩) dX12_put_30 (Nat.le_of_ble_eq_true rfl) (Nat.le_of_ble_eq_true rfl)
  · -- f 12
    refine lv_iconst (v := -1) hx hb dX12_put_12 (by decide) ?_
    exact rw_i hC rfl hP hD hS (by rw [if_pos c_1]; exact ⟨rfl, rfl⟩) dX12_put_13 (Nat.le_of_ble_eq_true rfl) (Nat.le_of_ble_eq_true rfl)

set_option maxHeartbeats 4000000 in
set_option maxRecDepth 100000 in
theorem c_m_cell (l : Launch) (E : EE) (ad : Nat → Nat) (lk : Nat) (tr : Int32) (N : Nat → Nat) (X : Nat → Nat → Int32) (F G : Nat → Nat → Nat) (sz : Nat) (h60 : ∀ j, F 3 j ≤ 60) (a1 a2 a3 : Int32) : Wr l yX12_cell cX12_cell 4 (some .long) rm_X12_cell 0 0 E (mW E ad lk tr N X F G) sz [.ref (ad 0), .int a1, .int a2, .int a3] (fun v w1 => if isIn a1 (nI 0) (nI 3) = false then v = some (.long (lN 9223372036854775808)) ∧ w1 = mW E ad lk tr (va_up N 0 0) X F G else if isIn a3 (nI 0) (nI 2) = false then v = some (.long (lN 9223372036854775808)) ∧ w1 = mW E ad lk tr (va_up N 0 0) X F G else if X 2 a1.toNatClampNeg = -9 then v = some (.long (lN 9223372036854775808)) ∧ w1 = mW E ad lk tr (va_up N 0 1) X F G else if ¬ X 2 a1.toNatClampNeg = a3 then v = some (.long (lN 9223372036854775808)) ∧ w1 = mW E ad lk tr (va_up N 0 2) X F G else if isIn a2 (nI 0) (nI (F 3 a1.toNatClampNeg) - nI 1) = false then v = some (.long (lN 9223372036854775808)) ∧ w1 = mW E ad lk tr (va_up N 0 3) X F G else v = some (.long (X 4 (60 * a1.toNatClampNeg + a2.toNatClampNeg)).toInt64) ∧ w1 = mW E ad lk tr (va_up N 0 0) X F G) := by
  refine mk_wr (by decide) (Nat.le_of_ble_eq_true rfl) ?_
  intro p e s m args below meth c hC hin hK A hA hP hD hS ls hl
  obtain ⟨hx, hb, hr, hts, hown, hml, hlk, hN⟩ := id hC
  have hl : lv_has ls 4 [(0, .ref (ad 0)), (1, .int a1), (2, .int a2), (3, .int a3)] := hl
  obtain ⟨H, hH⟩ : ∃ z, z = s.heap := ⟨_, rfl⟩
  have hS : va_S A s.heap H [] := by rw [hH]; exact hS
  rw [← hH] at hP
  refine W_heap hH ?_
  obtain ⟨locs, hlo⟩ : ∃ z : List Loc, z = [] := ⟨_, rfl⟩
  rw [← hlo] at hS ⊢
  refine lv_aload_n hx hb dX12_cell_0 rfl (lv_at hl 0 rfl) ?_
  refine lv_iconst (v := nI 0) hx hb dX12_cell_1 (by decide) ?_
  refine va_put (D := E.1) (ci := 10) (v := .int (nI 0)) (ty := .int) (C := RX12) (T := TX12) (N := 30) hx hb hts iX12 tyX12 tyX12_ok nmX12 hown hK hP hD hS 0 rfl rfl 0 (by decide) (hts _ kw_739) (fun _ h9 => h9) rfl (by decide +kernel) rfl rfl (Nat.le_of_ble_eq_true rfl) dX12_cell_2 (fun H locs hP hD hS => ?_)
  have hP : va_P E.1 vwCl (mW E ad lk tr (va_up N 0 0) X F G) H := hP
  have hD : va_D A (mW E ad lk tr (va_up N 0 0) X F G) := hD
  refine lv_iload_n hx hb dX12_cell_5 rfl (lv_at hl 1 rfl) ?_
  refine cS_p (rest := []) hC (c_m_isSheet l a1) kw_834 sy_X12_isSheet ⟨Nat.le_of_ble_eq_true rfl, Nat.le_of_ble_eq_true rfl⟩ ⟨rfl, rfl⟩ rfl hl.1 rfl (Nat.le_of_ble_eq_true rfl) dX12_cell_6 ⟨Nat.le_of_ble_eq_true rfl, Nat.le_of_ble_eq_true rfl⟩ ?_
  refine b_if_eq (tgt := 19) hx hb dX12_cell_9 (by decide) (fun c_1 => ?_) (fun c_1 => ?_)
  · -- t 19
    refine lv_ldc2 (v := lN 9223372036854775808) hx hb hown (hts _ kw_928) dX12_cell_19 ?_
    exact rw_l hC hP hD hS (by rw [if_pos c_1]; exact ⟨rfl, rfl⟩) dX12_cell_22 (Nat.le_of_ble_eq_true rfl) (Nat.le_of_ble_eq_true rfl)
  · -- f 12
    obtain ⟨i, hi, rfl⟩ := isIn_nat (by decide) c_1
    have hci := nI_clamp (n := i) (by omega)
    have hl : lv_has ls 4 [(0, .ref (ad 0)), (1, .int (nI i)), (2, .int a2), (3, .int a3)] := hl
    refine lv_iload_n hx hb dX12_cell_12 rfl (lv_at hl 3 rfl) ?_
    refine cS_p (rest := []) hC (c_m_isLane l a3) kw_840 sy_X12_isLane ⟨Nat.le_of_ble_eq_true rfl, Nat.le_of_ble_eq_true rfl⟩ ⟨rfl, rfl⟩ rfl hl.1 rfl (Nat.le_of_ble_eq_true rfl) dX12_cell_13 ⟨Nat.le_of_ble_eq_true rfl, Nat.le_of_ble_eq_true rfl⟩ ?_
    refine b_if_ne (tgt := 23) hx hb dX12_cell_16 (by decide) (fun c_2 => ?_) (fun c_2 => ?_)
    · -- t 23
      refine lv_aload_n hx hb dX12_cell_23 rfl (lv_at hl 0 rfl) ?_
      refine va_get (D := E.1) (ci := 10) (v := .ref (ad 2)) (C := RX12) (T := TX12) (N := 30) hx hb hts iX12 hown hK hP 0 rfl rfl 2 (by decide) (hts _ kw_741) (fun _ h9 => h9) rfl dX12_cell_24 ?_
      refine lv_iload_n hx hb dX12_cell_27 rfl (lv_at hl 1 rfl) ?_
      refine n_iald hx hb hK hP 1 rfl (by omega) (by decide) dX12_cell_28 ?_
      refine lv_bipush (v := -9) hx hb dX12_cell_29 (by decide) ?_
      refine lv_icmp_eq (tgt := 50) hx hb dX12_cell_31 (by decide) (fun c_3 => ?_) (fun c_3 => ?_)
      · -- t 50
        refine lv_aload_n hx hb dX12_cell_50 rfl (lv_at hl 0 rfl) ?_
        refine va_get (D := E.1) (ci := 10) (v := .ref (ad 2)) (C := RX12) (T := TX12) (N := 30) hx hb hts iX12 hown hK hP 0 rfl rfl 2 (by decide) (hts _ kw_741) (fun _ h9 => h9) rfl dX12_cell_51 ?_
        refine lv_iload_n hx hb dX12_cell_54 rfl (lv_at hl 1 rfl) ?_
        refine n_iald hx hb hK hP 1 rfl (by omega) (by decide) dX12_cell_55 ?_
        refine lv_bipush (v := -9) hx hb dX12_cell_56 (by decide) ?_
        refine lv_icmp_ne (tgt := 67) hx hb dX12_cell_58 (by decide) (fun c_4 => ?_) (fun c_4 => ?_)
        · -- t 67
          exact absurd c_3 c_4
        · -- f 61
          refine lv_aload_n hx hb dX12_cell_61 rfl (lv_at hl 0 rfl) ?_
          refine lv_iconst (v := nI 1) hx hb dX12_cell_62 (by decide) ?_
          refine cV_w0 (rest := []) hC (c_m_lost l E ad lk tr (va_up N 0 0) X F G H.size 1) kw_1064 iy_X12_lost ⟨Nat.le_of_ble_eq_true rfl, Nat.le_of_ble_eq_true rfl⟩ ⟨rfl, rfl⟩ hK hP hD hS hA (va_recv hK hP (ci := 10) (q0 := 0) rfl rfl) rfl hl.1 rfl (Nat.le_of_ble_eq_true rfl) dX12_cell_63 ⟨Nat.le_of_ble_eq_true rfl, Nat.le_of_ble_eq_true rfl⟩ (fun v_ w_ H locs hpost hP hD hS => ?_)
          obtain ⟨rfl, rfl⟩ := hpost
          refine W.eq (g2 := F0 m 66 ls [.long (lN 9223372036854775808)]) rfl ?_
          exact rw_l hC hP hD hS (by rw [if_neg (by rw [c_1]; decide), if_neg (by rw [c_2]; decide), hci, if_pos c_3]; exact ⟨rfl, rfl⟩) dX12_cell_66 (Nat.le_of_ble_eq_true rfl) (Nat.le_of_ble_eq_true rfl)
      · -- f 34
        refine lv_aload_n hx hb dX12_cell_34 rfl (lv_at hl 0 rfl) ?_
        refine va_get (D := E.1) (ci := 10) (v := .ref (ad 2)) (C := RX12) (T := TX12) (N := 30) hx hb hts iX12 hown hK hP 0 rfl rfl 2 (by decide) (hts _ kw_741) (fun _ h9 => h9) rfl dX12_cell_35 ?_
        refine lv_iload_n hx hb dX12_cell_38 rfl (lv_at hl 1 rfl) ?_
        refine n_iald hx hb hK hP 1 rfl (by omega) (by decide) dX12_cell_39 ?_
        refine lv_iload_n hx hb dX12_cell_40 rfl (lv_at hl 3 rfl) ?_
        refine lv_icmp_eq (tgt := 50) hx hb dX12_cell_41 (by decide) (fun c_5 => ?_) (fun c_5 => ?_)
        · -- t 50
          refine lv_aload_n hx hb dX12_cell_50 rfl (lv_at hl 0 rfl) ?_
          refine va_get (D := E.1) (ci := 10) (v := .ref (ad 2)) (C := RX12) (T := TX12) (N := 30) hx hb hts iX12 hown hK hP 0 rfl rfl 2 (by decide) (hts _ kw_741) (fun _ h9 => h9) rfl dX12_cell_51 ?_
          refine lv_iload_n hx hb dX12_cell_54 rfl (lv_at hl 1 rfl) ?_
          refine n_iald hx hb hK hP 1 rfl (by omega) (by decide) dX12_cell_55 ?_
          refine lv_bipush (v := -9) hx hb dX12_cell_56 (by decide) ?_
          refine lv_icmp_ne (tgt := 67) hx hb dX12_cell_58 (by decide) (fun c_6 => ?_) (fun c_6 => ?_)
          · -- t 67
            refine lv_iload_n hx hb dX12_cell_67 rfl (lv_at hl 2 rfl) ?_
            refine lv_iconst (v := nI 0) hx hb dX12_cell_68 (by decide) ?_
            refine lv_aload_n hx hb dX12_cell_69 rfl (lv_at hl 0 rfl) ?_
            refine va_get (D := E.1) (ci := 10) (v := .ref (ad 3)) (C := RX12) (T := TX12) (N := 30) hx hb hts iX12 hown hK hP 0 rfl rfl 3 (by decide) (hts _ kw_742) (fun _ h9 => h9) rfl dX12_cell_70 ?_
            refine lv_iload_n hx hb dX12_cell_73 rfl (lv_at hl 1 rfl) ?_
            refine n_iald hx hb hK hP 2 rfl (by omega) (by decide) dX12_cell_74 ?_
            refine lv_iconst (v := nI 1) hx hb dX12_cell_75 (by decide) ?_
            refine lv_isub hx hb dX12_cell_76 ?_
            refine cS_p (rest := []) hC (c_isIn l a2 (nI 0) (nI ((F 3) i) - nI 1)) kw_837 sy_X12_isIn ⟨Nat.le_of_ble_eq_true rfl, Nat.le_of_ble_eq_true rfl⟩ ⟨rfl, rfl⟩ rfl hl.1 rfl (Nat.le_of_ble_eq_true rfl) dX12_cell_77 ⟨Nat.le_of_ble_eq_true rfl, Nat.le_of_ble_eq_true rfl⟩ ?_
            refine b_if_ne (tgt := 89) hx hb dX12_cell_80 (by decide) (fun c_7 => ?_) (fun c_7 => ?_)
            · -- t 89
              have hL6 := h60 i
              obtain ⟨j, hj, rfl⟩ := isIn_len hL6 c_7
              have hcj := nI_clamp (n := j) (by omega)
              have hl : lv_has ls 4 [(0, .ref (ad 0)), (1, .int (nI i)), (2, .int (nI j)), (3, .int a3)] := hl
              refine lv_aload_n hx hb dX12_cell_89 rfl (lv_at hl 0 rfl) ?_
              refine va_get (D := E.1) (ci := 10) (v := .ref (ad 4)) (C := RX12) (T := TX12) (N := 30) hx hb hts iX12 hown hK hP 0 rfl rfl 4 (by decide) (hts _ kw_743) (fun _ h9 => h9) rfl dX12_cell_90 ?_
              refine lv_bipush (v := nI 60) hx hb dX12_cell_93 (by decide) ?_
              refine lv_iload_n hx hb dX12_cell_95 rfl (lv_at hl 1 rfl) ?_
              refine n_imul hx hb dX12_cell_96 ?_
              refine lv_iload_n hx hb dX12_cell_97 rfl (lv_at hl 2 rfl) ?_
              refine n_iadd hx hb dX12_cell_98 ?_
              refine n_iald hx hb hK hP 3 rfl (by omega) (by decide) dX12_cell_99 ?_
              refine lv_i2l hx hb dX12_cell_100 rfl ?_
              exact rw_l hC hP hD hS (by rw [if_neg (by rw [c_1]; decide), if_neg (by rw [c_2]; decide), hci, if_neg c_3, if_neg (fun h => h c_5), if_neg (by rw [c_7]; decide), hcj]; exact ⟨rfl, rfl⟩) dX12_cell_101 (Nat.le_of_ble_eq_true rfl) (Nat.le_of_ble_eq_true rfl)
            · -- f 83
              refine lv_aload_n hx hb dX12_cell_83 rfl (lv_at hl 0 rfl) ?_
              refine lv_iconst (v := nI 3) hx hb dX12_cell_84 (by decide) ?_
              refine cV_w0 (rest := []) hC (c_m_lost l E ad lk tr (va_up N 0 0) X F G H.size 3) kw_1064 iy_X12_lost ⟨Nat.le_of_ble_eq_true rfl, Nat.le_of_ble_eq_true rfl⟩ ⟨rfl, rfl⟩ hK hP hD hS hA (va_recv hK hP (ci := 10) (q0 := 0) rfl rfl) rfl hl.1 rfl (Nat.le_of_ble_eq_true rfl) dX12_cell_85 ⟨Nat.le_of_ble_eq_true rfl, Nat.le_of_ble_eq_true rfl⟩ (fun v_ w_ H locs hpost hP hD hS => ?_)
              obtain ⟨rfl, rfl⟩ := hpost
              refine W.eq (g2 := F0 m 88 ls [.long (lN 9223372036854775808)]) rfl ?_
              exact rw_l hC hP hD hS (by rw [if_neg (by rw [c_1]; decide), if_neg (by rw [c_2]; decide), hci, if_neg c_3, if_neg (fun h => h c_5), if_pos c_7]; exact ⟨rfl, rfl⟩) dX12_cell_88 (Nat.le_of_ble_eq_true rfl) (Nat.le_of_ble_eq_true rfl)
          · -- f 61
            exact absurd c_6 c_3
        · -- f 44
          refine lv_aload_n hx hb dX12_cell_44 rfl (lv_at hl 0 rfl) ?_
          refine lv_iconst (v := nI 2) hx hb dX12_cell_45 (by decide) ?_
          refine cV_w0 (rest := []) hC (c_m_lost l E ad lk tr (va_up N 0 0) X F G H.size 2) kw_1064 iy_X12_lost ⟨Nat.le_of_ble_eq_true rfl, Nat.le_of_ble_eq_true rfl⟩ ⟨rfl, rfl⟩ hK hP hD hS hA (va_recv hK hP (ci := 10) (q0 := 0) rfl rfl) rfl hl.1 rfl (Nat.le_of_ble_eq_true rfl) dX12_cell_46 ⟨Nat.le_of_ble_eq_true rfl, Nat.le_of_ble_eq_true rfl⟩ (fun v_ w_ H locs hpost hP hD hS => ?_)
          obtain ⟨rfl, rfl⟩ := hpost
          refine W.eq (g2 := F0 m 49 ls [.long (lN 9223372036854775808)]) rfl ?_
          exact rw_l hC hP hD hS (by rw [if_neg (by rw [c_1]; decide), if_neg (by rw [c_2]; decide), hci, if_neg c_3, if_pos c_5]; exact ⟨rfl, rfl⟩) dX12_cell_49 (Nat.le_of_ble_eq_true rfl) (Nat.le_of_ble_eq_true rfl)
    · -- f 19
      refine lv_ldc2 (v := lN 9223372036854775808) hx hb hown (hts _ kw_928) dX12_cell_19 ?_
      exact rw_l hC hP hD hS (by rw [if_neg (by rw [c_1]; decide), if_pos c_2]; exact ⟨rfl, rfl⟩) dX12_cell_22 (Nat.le_of_ble_eq_true rfl) (Nat.le_of_ble_eq_true rfl)
