set_option maxHeartbeats 4000000 in
set_option maxRecDepth 100000 in
theorem c_m_within (l : Launch) (E : EE) (ad : Nat → Nat) (lk : Nat) (tr : Int32) (N : Nat → Nat) (X : Nat → Nat → Int32) (F G : Nat → Nat → Nat) (sz : Nat) (hM : MOK N F) (hT : TB N F) (h17 : N 17 + 1 < 2 ^ 31) (hcn : CPn N F) (a1 a2 : Int32) : Wr l yX12_within cX12_within 14 (some .int) rm_X12_within 0 0 E (mW E ad lk tr N X F G) sz [.ref (ad 0), .int a1, .int a2] (fun v w1 => v = some (.int (s_within (N 5) (N 9) (F 6) (F 10) (F 11) a1 a2)) ∧ QP E ad tr N X F 64 w1) := by
  refine mk_wr (by decide) (Nat.le_of_ble_eq_true rfl) ?_
  intro p e s m args below meth c hC hin hK A hA hP hD hS ls hl
  obtain ⟨hx, hb, hr, hts, hown, hml, hlk, hN⟩ := id hC
  have hl : lv_has ls 14 [(0, .ref (ad 0)), (1, .int a1), (2, .int a2)] := hl
  obtain ⟨hM5, hM9, hMp, hMq, hMn⟩ := id hM
  have hn : ∀ j, j < 4 → F 6 j < 16 := fun j _ => hMn j
  have hvs := VS_stS (cP := F 10) (cQ := F 11) hM5 (N 9) hcn
  obtain ⟨H, hH⟩ : ∃ z, z = s.heap := ⟨_, rfl⟩
  have hS : va_S A s.heap H [] := by rw [hH]; exact hS
  rw [← hH] at hP
  refine W_heap hH ?_
  obtain ⟨locs, hlo⟩ : ∃ z : List Loc, z = [] := ⟨_, rfl⟩
  rw [← hlo] at hS ⊢
  refine lv_iload_n hx hb dX12_within_0 rfl (lv_at hl 1 rfl) ?_
  refine cS_p (rest := []) hC (c_m_isRule l a1) kw_918 sy_X12_isRule ⟨Nat.le_of_ble_eq_true rfl, Nat.le_of_ble_eq_true rfl⟩ ⟨rfl, rfl⟩ rfl hl.1 rfl (Nat.le_of_ble_eq_true rfl) dX12_within_1 ⟨Nat.le_of_ble_eq_true rfl, Nat.le_of_ble_eq_true rfl⟩ ?_
  refine b_if_eq (tgt := 14) hx hb dX12_within_4 (by decide) (fun c_1 => ?_) (fun c_1 => ?_)
  · -- t 14
    refine lv_iconst (v := -1) hx hb dX12_within_14 (by decide) ?_
    exact rw_i hC rfl hP hD hS (⟨by rw [s_within, if_pos c_1], QP.rf hT⟩) dX12_within_15 (Nat.le_of_ble_eq_true rfl) (Nat.le_of_ble_eq_true rfl)
  · -- f 7
    obtain ⟨r, hr, rfl⟩ := isIn_nat (by decide) c_1
    have hcr := nI_clamp (n := r) (by omega)
    have hl : lv_has ls 14 [(0, .ref (ad 0)), (1, .int (nI r)), (2, .int a2)] := hl
    refine lv_iload_n hx hb dX12_within_7 rfl (lv_at hl 2 rfl) ?_
    refine cS_p (rest := []) hC (c_m_isRule l a2) kw_918 sy_X12_isRule ⟨Nat.le_of_ble_eq_true rfl, Nat.le_of_ble_eq_true rfl⟩ ⟨rfl, rfl⟩ rfl hl.1 rfl (Nat.le_of_ble_eq_true rfl) dX12_within_8 ⟨Nat.le_of_ble_eq_true rfl, Nat.le_of_ble_eq_true rfl⟩ ?_
    refine b_if_ne (tgt := 16) hx hb dX12_within_11 (by decide) (fun c_2 => ?_) (fun c_2 => ?_)
    · -- t 16
      obtain ⟨o, ho, rfl⟩ := isIn_nat (by decide) c_2
      have hco := nI_clamp (n := o) (by omega)
      have hl : lv_has ls 14 [(0, .ref (ad 0)), (1, .int (nI r)), (2, .int (nI o))] := hl
      have hj36 : ¬ ((r + o = 5 ∧ 1 < r) ∧ 1 < o) → W p l e rm_X12_within s m args below meth c H locs 0 0 (MQ below (wr_Q E A (fun v w1 => v = some (.int (s_within (N 5) (N 9) (F 6) (F 10) (F 11) (nI r) (nI o))) ∧ QP E ad tr N X F 64 w1)) args s 0 0 A) (F0 m 36 ls []) := by
        intro hnot
        refine lv_aload_n hx hb dX12_within_36 rfl (lv_at hl 0 rfl) ?_
        refine va_get (D := E.1) (ci := 10) (v := .int (nI (N 5))) (C := RX12) (T := TX12) (N := 30) hx hb hts iX12 hown hK hP 0 rfl rfl 5 (by decide) (hts _ kw_744) (fun _ h9 => h9) rfl dX12_within_37 ?_
        refine n_if_ne (tgt := 46) hx hb (by omega) dX12_within_40 (by decide) (fun c_3 => ?_) (fun c_3 => ?_)
        · -- t 46
          have hj57 : ∀ (f1 : Nat), f1 = ofR r o → ∀ (ls : Array Slot), lv_has ls 14 [(0, .ref (ad 0)), (1, .int (nI r)), (2, .int (nI o)), (3, .int (nI f1))] → W p l e rm_X12_within s m args below meth c H locs 0 0 (MQ below (wr_Q E A (fun v w1 => v = some (.int (s_within (N 5) (N 9) (F 6) (F 10) (F 11) (nI r) (nI o))) ∧ QP E ad tr N X F 64 w1)) args s 0 0 A) (F0 m 57 ls []) := by
            intro f1 hf1 ls hl
            have hf4 : f1 < 4 := by rw [hf1]; unfold ofR; split <;> omega
            have hnt16 : ∀ tok k, tok < 16 → nxT tok f1 k < 16 := fun tok k h => tokA_lt h (by omega)
            have htk16 := tokS_lt (n := N 5) (r := f1) (cP := F 10) hM5 hMq (N 9)
            refine lv_aload_n hx hb dX12_within_57 rfl (lv_at hl 0 rfl) ?_
            refine lv_aload_n hx hb dX12_within_58 rfl (lv_at hl 0 rfl) ?_
            refine va_get (D := E.1) (ci := 10) (v := .ref (ad 6)) (C := RX12) (T := TX12) (N := 30) hx hb hts iX12 hown hK hP 0 rfl rfl 6 (by decide) (hts _ kw_745) (fun _ h9 => h9) rfl dX12_within_59 ?_
            refine lv_aload_n hx hb dX12_within_62 rfl (lv_at hl 0 rfl) ?_
            refine va_get (D := E.1) (ci := 10) (v := .int (nI (N 5))) (C := RX12) (T := TX12) (N := 30) hx hb hts iX12 hown hK hP 0 rfl rfl 5 (by decide) (hts _ kw_744) (fun _ h9 => h9) rfl dX12_within_63 ?_
            refine lv_iload_n hx hb dX12_within_66 rfl (lv_at hl 1 rfl) ?_
            refine cV_w0 (rest := []) hC (c_m_lookAt l E ad lk tr N X F G H.size (ad 6) (N 5) r) kw_933 iy_X12_lookAt ⟨Nat.le_of_ble_eq_true rfl, Nat.le_of_ble_eq_true rfl⟩ ⟨rfl, rfl⟩ hK hP hD hS hA (va_recv hK hP (ci := 10) (q0 := 0) rfl rfl) rfl hl.1 rfl (Nat.le_of_ble_eq_true rfl) dX12_within_67 ⟨Nat.le_of_ble_eq_true rfl, Nat.le_of_ble_eq_true rfl⟩ (fun v_ w_ H locs hpost hP hD hS => ?_)
            obtain ⟨rfl, rfl⟩ := hpost
            refine W.eq (g2 := F0 m 70 ls []) rfl ?_
            refine lv_iconst (v := nI 0) hx hb dX12_within_70 (by decide) ?_
            refine lv_istore (lv' := [(4, .int (nI 0)), (0, .ref (ad 0)), (1, .int (nI r)), (2, .int (nI o)), (3, .int (nI f1))]) hx hb dX12_within_71 hl (by decide) rfl (fun ls hl => ?_)
            refine lv_iconst (v := nI 1) hx hb dX12_within_73 (by decide) ?_
            refine lv_istore (lv' := [(5, .int (nI 1)), (4, .int (nI 0)), (0, .ref (ad 0)), (1, .int (nI r)), (2, .int (nI o)), (3, .int (nI f1))]) hx hb dX12_within_74 hl (by decide) rfl (fun ls hl => ?_)
            refine lv_aload_n hx hb dX12_within_76 rfl (lv_at hl 2 rfl) ?_
            refine va_get (D := E.1) (ci := 10) (v := .ref (ad 29)) (C := RX12) (T := TX12) (N := 30) hx hb hts iX12 hown hK hP 0 rfl rfl 29 (by decide) (hts _ kw_768) (fun _ h9 => h9) rfl dX12_within_77 ?_
            refine lv_iconst (v := nI 0) hx hb dX12_within_80 (by decide) ?_
            refine lv_aload_n hx hb dX12_within_81 rfl (lv_at hl 2 rfl) ?_
            refine lv_aload_n hx hb dX12_within_82 rfl (lv_at hl 2 rfl) ?_
            refine va_get (D := E.1) (ci := 10) (v := .int (nI (N 9))) (C := RX12) (T := TX12) (N := 30) hx hb hts iX12 hown hK hP 0 rfl rfl 9 (by decide) (hts _ kw_748) (fun _ h9 => h9) rfl dX12_within_83 ?_
            refine cV_r (rest := [.int (nI 0), .ref (ad 29)]) hC (c_m_stateAt l E ad (ad 6) tr (va_up (va_up (va_up N 17 ((N 17) + 1)) 22 (N 5)) 23 r) X F G hM (N 9) (by omega)) kw_862 iy_X12_stateAt ⟨Nat.le_of_ble_eq_true rfl, Nat.le_of_ble_eq_true rfl⟩ ⟨rfl, rfl⟩ hK hP (va_recv hK hP (ci := 10) (q0 := 0) rfl rfl) rfl hl.1 rfl (Nat.le_of_ble_eq_true rfl) dX12_within_86 ⟨Nat.le_of_ble_eq_true rfl, Nat.le_of_ble_eq_true rfl⟩ ?_
            refine W.eq (g2 := F0 m 89 ls [.int (nI (stS (N 5) (F 10) (F 11) (N 9))), .int (nI 0), .ref (ad 29)]) rfl ?_
            have f_4 := stS_lt (n := N 5) hMp hMq (N 9)
            refine lv_aload_n hx hb dX12_within_89 rfl (lv_at hl 2 rfl) ?_
            refine lv_iload_n hx hb dX12_within_90 rfl (lv_at hl 5 rfl) ?_
            refine cV_r (rest := [.int (nI (stS (N 5) (F 10) (F 11) (N 9))), .int (nI 0), .ref (ad 29)]) hC (c_m_tokensNow l E ad (ad 6) tr (va_up (va_up (va_up N 17 ((N 17) + 1)) 22 (N 5)) 23 r) X F G hM f1 (by omega)) kw_880 iy_X12_tokensNow ⟨Nat.le_of_ble_eq_true rfl, Nat.le_of_ble_eq_true rfl⟩ ⟨rfl, rfl⟩ hK hP (va_recv hK hP (ci := 10) (q0 := 0) rfl rfl) rfl hl.1 rfl (Nat.le_of_ble_eq_true rfl) dX12_within_91 ⟨Nat.le_of_ble_eq_true rfl, Nat.le_of_ble_eq_true rfl⟩ ?_
            refine W.eq (g2 := F0 m 94 ls [.int (nI (tokS (N 5) f1 (F 10) (F 11) (N 9))), .int (nI (stS (N 5) (F 10) (F 11) (N 9))), .int (nI 0), .ref (ad 29)]) rfl ?_
            have f_5 := tokS_lt (n := N 5) (r := f1) (cP := F 10) (by omega) hMq (N 9)
            refine lv_bipush (v := nI 16) hx hb dX12_within_94 (by decide) ?_
            refine n_ishl hx hb (by omega) dX12_within_96 ?_
            refine n_ior hx hb dX12_within_97 ?_
            refine n_iast hx hb hK hP hD hS 19 rfl (by omega) (by decide) dX12_within_98 (fun H locs hP hD hS => ?_)
            have hP : va_P E.1 vwCl (mW E ad (ad 6) tr (va_up (va_up (va_up N 17 ((N 17) + 1)) 22 (N 5)) 23 r) X (va_up F 29 (va_up (F 29) 0 ((stS (N 5) (F 10) (F 11) (N 9)) ||| ((tokS (N 5) f1 (F 10) (F 11) (N 9)) <<< 16)))) G) H := hP
            have hD : va_D A (mW E ad (ad 6) tr (va_up (va_up (va_up N 17 ((N 17) + 1)) 22 (N 5)) 23 r) X (va_up F 29 (va_up (F 29) 0 ((stS (N 5) (F 10) (F 11) (N 9)) ||| ((tokS (N 5) f1 (F 10) (F 11) (N 9)) <<< 16)))) G) := hD
            refine lv_aload_n hx hb dX12_within_99 rfl (lv_at hl 2 rfl) ?_
            refine va_get (D := E.1) (ci := 10) (v := .ref (ad 12)) (C := RX12) (T := TX12) (N := 30) hx hb hts iX12 hown hK hP 0 rfl rfl 12 (by decide) (hts _ kw_751) (fun _ h9 => h9) rfl dX12_within_100 ?_
            refine lv_aload_n hx hb dX12_within_103 rfl (lv_at hl 2 rfl) ?_
            refine lv_aload_n hx hb dX12_within_104 rfl (lv_at hl 2 rfl) ?_
            refine va_get (D := E.1) (ci := 10) (v := .int (nI (N 9))) (C := RX12) (T := TX12) (N := 30) hx hb hts iX12 hown hK hP 0 rfl rfl 9 (by decide) (hts _ kw_748) (fun _ h9 => h9) rfl dX12_within_105 ?_
            refine cV_r (rest := [.ref (ad 12)]) hC (c_m_stateAt l E ad (ad 6) tr (va_up (va_up (va_up N 17 ((N 17) + 1)) 22 (N 5)) 23 r) X (va_up F 29 (va_up (F 29) 0 ((stS (N 5) (F 10) (F 11) (N 9)) ||| ((tokS (N 5) f1 (F 10) (F 11) (N 9)) <<< 16)))) G hM (N 9) (by omega)) kw_862 iy_X12_stateAt ⟨Nat.le_of_ble_eq_true rfl, Nat.le_of_ble_eq_true rfl⟩ ⟨rfl, rfl⟩ hK hP (va_recv hK hP (ci := 10) (q0 := 0) rfl rfl) rfl hl.1 rfl (Nat.le_of_ble_eq_true rfl) dX12_within_108 ⟨Nat.le_of_ble_eq_true rfl, Nat.le_of_ble_eq_true rfl⟩ ?_
            refine W.eq (g2 := F0 m 111 ls [.int (nI (stS (N 5) (F 10) (F 11) (N 9))), .ref (ad 12)]) rfl ?_
            have f_6 := stS_lt (n := N 5) hMp hMq (N 9)
            refine lv_aload_n hx hb dX12_within_111 rfl (lv_at hl 2 rfl) ?_
            refine lv_iload_n hx hb dX12_within_112 rfl (lv_at hl 5 rfl) ?_
            refine cV_r (rest := [.int (nI (stS (N 5) (F 10) (F 11) (N 9))), .ref (ad 12)]) hC (c_m_tokensNow l E ad (ad 6) tr (va_up (va_up (va_up N 17 ((N 17) + 1)) 22 (N 5)) 23 r) X (va_up F 29 (va_up (F 29) 0 ((stS (N 5) (F 10) (F 11) (N 9)) ||| ((tokS (N 5) f1 (F 10) (F 11) (N 9)) <<< 16)))) G hM f1 (by omega)) kw_880 iy_X12_tokensNow ⟨Nat.le_of_ble_eq_true rfl, Nat.le_of_ble_eq_true rfl⟩ ⟨rfl, rfl⟩ hK hP (va_recv hK hP (ci := 10) (q0 := 0) rfl rfl) rfl hl.1 rfl (Nat.le_of_ble_eq_true rfl) dX12_within_113 ⟨Nat.le_of_ble_eq_true rfl, Nat.le_of_ble_eq_true rfl⟩ ?_
            refine W.eq (g2 := F0 m 116 ls [.int (nI (tokS (N 5) f1 (F 10) (F 11) (N 9))), .int (nI (stS (N 5) (F 10) (F 11) (N 9))), .ref (ad 12)]) rfl ?_
            have f_7 := tokS_lt (n := N 5) (r := f1) (cP := F 10) (by omega) hMq (N 9)
            refine cS_p (rest := [.ref (ad 12)]) hC (c_plc l (stS (N 5) (F 10) (F 11) (N 9)) (tokS (N 5) f1 (F 10) (F 11) (N 9)) (by omega) (by omega)) kw_941 sy_X12_placeOf ⟨Nat.le_of_ble_eq_true rfl, Nat.le_of_ble_eq_true rfl⟩ ⟨rfl, rfl⟩ rfl hl.1 rfl (Nat.le_of_ble_eq_true rfl) dX12_within_116 ⟨Nat.le_of_ble_eq_true rfl, Nat.le_of_ble_eq_true rfl⟩ ?_
            have f_8 := plc_lt (stS (N 5) (F 10) (F 11) (N 9)) (tokS (N 5) f1 (F 10) (F 11) (N 9))
            refine lv_aload_n hx hb dX12_within_119 rfl (lv_at hl 2 rfl) ?_
            refine va_get (D := E.1) (ci := 10) (v := .int (nI ((N 17) + 1))) (C := RX12) (T := TX12) (N := 30) hx hb hts iX12 hown hK hP 0 rfl rfl 17 (by decide) (hts _ kw_756) (fun _ h9 => h9) rfl dX12_within_120 ?_
            refine n_iast hx hb hK hP hD hS 8 rfl (by omega) (by decide) dX12_within_123 (fun H locs hP hD hS => ?_)
            have hP : va_P E.1 vwCl (mW E ad (ad 6) tr (va_up (va_up (va_up N 17 ((N 17) + 1)) 22 (N 5)) 23 r) X (va_up (va_up F 29 (va_up (F 29) 0 ((stS (N 5) (F 10) (F 11) (N 9)) ||| ((tokS (N 5) f1 (F 10) (F 11) (N 9)) <<< 16)))) 12 (va_up (F 12) (plc (stS (N 5) (F 10) (F 11) (N 9)) (tokS (N 5) f1 (F 10) (F 11) (N 9))) ((N 17) + 1))) G) H := hP
            have hD : va_D A (mW E ad (ad 6) tr (va_up (va_up (va_up N 17 ((N 17) + 1)) 22 (N 5)) 23 r) X (va_up (va_up F 29 (va_up (F 29) 0 ((stS (N 5) (F 10) (F 11) (N 9)) ||| ((tokS (N 5) f1 (F 10) (F 11) (N 9)) <<< 16)))) 12 (va_up (F 12) (plc (stS (N 5) (F 10) (F 11) (N 9)) (tokS (N 5) f1 (F 10) (F 11) (N 9))) ((N 17) + 1))) G) := hD
            have hBI0 : BI (N 5) (N 17 + 1) (F 6) r o f1 (WK (N 5) (F 6) r o f1 (stS (N 5) (F 10) (F 11) (N 9)) (tokS (N 5) f1 (F 10) (F 11) (N 9))) 1 (fun _ => stS (N 5) (F 10) (F 11) (N 9)) (fun _ => tokS (N 5) f1 (F 10) (F 11) (N 9)) (va_up (F 12) (plc (stS (N 5) (F 10) (F 11) (N 9)) (tokS (N 5) f1 (F 10) (F 11) (N 9))) ((N 17) + 1)) (va_up (F 29) 0 ((stS (N 5) (F 10) (F 11) (N 9)) ||| ((tokS (N 5) f1 (F 10) (F 11) (N 9)) <<< 16))) := by
              refine ⟨fun j hj => ⟨hvs, htk16, vu_s _ _ _, by rw [show j = 0 by omega]; exact vu_s _ _ _, fun h => h⟩, fun st tok hv ht he => ?_, fun i j h1 h2 => absurd h2 (by omega), fun i => ?_⟩
              · refine ⟨0, by omega, ?_⟩
                by_cases hp : plc st tok = plc (stS (N 5) (F 10) (F 11) (N 9)) (tokS (N 5) f1 (F 10) (F 11) (N 9))
                · obtain ⟨e1, e2⟩ := plc_inj hM5 hv hvs ht htk16 hp
                  exact ⟨e1.symm, e2.symm⟩
                · rw [vu_n _ _ hp] at he
                  exact absurd he (Nat.ne_of_lt (Nat.lt_succ_of_le (hT.1 _)))
              · unfold va_up; split
                · exact Nat.le_refl _
                · exact Nat.le_succ_of_le (hT.1 i)
            have lp_9 : ∀ (n_lp_9 : Nat) (fi la : Nat) (qs qt s12 q29 : Nat → Nat) (hfi : fi ≤ la) (hla : 1 ≤ la) (hlb : la ≤ 65536) (hBI : BI (N 5) (N 17 + 1) (F 6) r o f1 (WK (N 5) (F 6) r o f1 (stS (N 5) (F 10) (F 11) (N 9)) (tokS (N 5) f1 (F 10) (F 11) (N 9))) la qs qt s12 q29) (hdn : ∀ j, j < fi → BD (N 5) (N 17 + 1) (F 6) r o f1 16 (qs j) (qt j) s12) (hz : qs 0 = stS (N 5) (F 10) (F 11) (N 9) ∧ qt 0 = tokS (N 5) f1 (F 10) (F 11) (N 9)), 65537 - fi < n_lp_9 → ∀ (H : Heap) (locs : List Loc) (hP : va_P E.1 vwCl (mW E ad (ad 6) tr (va_up (va_up (va_up N 17 ((N 17) + 1)) 22 (N 5)) 23 r) X (va_up (va_up F 12 s12) 29 q29) G) H) (hD : va_D A (mW E ad (ad 6) tr (va_up (va_up (va_up N 17 ((N 17) + 1)) 22 (N 5)) 23 r) X (va_up (va_up F 12 s12) 29 q29) G)) (hS : va_S A s.heap H locs) (ls : Array Slot), lv_has ls 14 [(0, .ref (ad 0)), (1, .int (nI r)), (2, .int (nI o)), (3, .int (nI f1)), (4, .int (nI fi)), (5, .int (nI la))] → W p l e rm_X12_within s m args below meth c H locs 0 0 (MQ below (wr_Q E A (fun v w1 => v = some (.int (s_within (N 5) (N 9) (F 6) (F 10) (F 11) (nI r) (nI o))) ∧ QP E ad tr N X F 64 w1)) args s 0 0 A) (F0 m 124 ls []) := by
              intro n_lp_9
              induction n_lp_9 with
              | zero => intro fi la qs qt s12 q29 hfi hla hlb hBI hdn hz; intro hm_lp_9; exact absurd hm_lp_9 (Nat.not_lt_zero _)
              | succ n_lp_9 ih_lp_9 =>
                intro fi la qs qt s12 q29 hfi hla hlb hBI hdn hz hm_lp_9 H locs hP hD hS ls hl
                refine lv_iload hx hb dX12_within_124 (lv_at hl 4 rfl) ?_
                refine lv_iload hx hb dX12_within_126 (lv_at hl 5 rfl) ?_
                refine n_icmp_ge (tgt := 325) hx hb (by omega) (by omega) dX12_within_128 (by decide) (fun c_10 => ?_) (fun c_10 => ?_)
                · -- t 325
                  have hw1 : WK (N 5) (F 6) r o f1 (stS (N 5) (F 10) (F 11) (N 9)) (tokS (N 5) f1 (F 10) (F 11) (N 9)) = true := by
                    have h9 := BI_done hM5 hnt16 hBI (fun j hj => hdn j (by omega)) (mis (N 5) (qs 0)) 0 (by omega) (Nat.le_refl _)
                    rw [hz.1, hz.2] at h9; exact h9
                  refine lv_iconst (v := nI 1) hx hb dX12_within_325 (by decide) ?_
                  exact rw_i hC rfl hP hD hS (⟨by rw [s_within, if_neg (by rw [c_1]; decide), if_neg (by rw [c_2]; decide), hcr, hco, if_neg hnot, if_neg c_3, ← hf1, show WK (N 5) (F 6) r o f1 (stS (N 5) (F 10) (F 11) (N 9)) (tokS (N 5) f1 (F 10) (F 11) (N 9)) = true from hw1]; rfl, ⟨_, _, _, _, _, rfl, ⟨rfl, rfl, rfl, rfl, rfl, rfl, rfl, rfl, rfl⟩, ⟨hBI.2.2.2, hT.2⟩, by show N 17 + 1 ≤ N 17 + 64; omega⟩⟩) dX12_within_326 (Nat.le_of_ble_eq_true rfl) (Nat.le_of_ble_eq_true rfl)
                · -- f 131
                  obtain ⟨hv1, ht1, hs1, hq1, hw1⟩ := hBI.1 fi (by omega)
                  have hst1 := VS_lt hM5 hv1
                  have hen := en_lt hst1 ht1
                  have hq1s : q29 fi < 2 ^ 20 := by rw [hq1]; exact hen
                  refine lv_aload_n hx hb dX12_within_131 rfl (lv_at hl 0 rfl) ?_
                  refine va_get (D := E.1) (ci := 10) (v := .ref (ad 29)) (C := RX12) (T := TX12) (N := 30) hx hb hts iX12 hown hK hP 0 rfl rfl 29 (by decide) (hts _ kw_768) (fun _ h9 => h9) rfl dX12_within_132 ?_
                  refine lv_iload hx hb dX12_within_135 (lv_at hl 4 rfl) ?_
                  refine n_iald (f := fun j => nI (q29 j)) hx hb hK hP 19 rfl (by omega) (by decide) dX12_within_137 ?_
                  refine lv_ldc (v := nI 65535) hx hb hown (hts _ kw_944) dX12_within_138 ?_
                  refine n_iand hx hb dX12_within_140 ?_
                  have f_11 : (q29 fi) &&& 65535 ≤ 65535 := Nat.and_le_right
                  refine top_i (congrArg nI (show q29 fi &&& 65535 = qs fi by rw [hq1]; exact en_lo hst1)) ?_
                  refine lv_istore (lv' := [(6, .int (nI (qs fi))), (0, .ref (ad 0)), (1, .int (nI r)), (2, .int (nI o)), (3, .int (nI f1)), (4, .int (nI fi)), (5, .int (nI la))]) hx hb dX12_within_141 hl (by decide) rfl (fun ls hl => ?_)
                  refine lv_aload_n hx hb dX12_within_143 rfl (lv_at hl 1 rfl) ?_
                  refine va_get (D := E.1) (ci := 10) (v := .ref (ad 29)) (C := RX12) (T := TX12) (N := 30) hx hb hts iX12 hown hK hP 0 rfl rfl 29 (by decide) (hts _ kw_768) (fun _ h9 => h9) rfl dX12_within_144 ?_
                  refine lv_iload hx hb dX12_within_147 (lv_at hl 5 rfl) ?_
                  refine n_iald (f := fun j => nI (q29 j)) hx hb hK hP 19 rfl (by omega) (by decide) dX12_within_149 ?_
                  refine lv_bipush (v := nI 16) hx hb dX12_within_150 (by decide) ?_
                  refine n_ishr hx hb (by omega) (by omega) dX12_within_152 ?_
                  have f_12 := shr_le (q29 fi) 16
                  refine top_i (congrArg nI (show q29 fi >>> 16 = qt fi by rw [hq1]; exact en_hi hst1)) ?_
                  refine lv_istore (lv' := [(7, .int (nI (qt fi))), (6, .int (nI (qs fi))), (0, .ref (ad 0)), (1, .int (nI r)), (2, .int (nI o)), (3, .int (nI f1)), (4, .int (nI fi)), (5, .int (nI la))]) hx hb dX12_within_153 hl (by decide) rfl (fun ls hl => ?_)
                  refine lv_iinc (v := nI (fi + 1)) (lv' := [(4, .int (nI (fi + 1))), (7, .int (nI (qt fi))), (6, .int (nI (qs fi))), (0, .ref (ad 0)), (1, .int (nI r)), (2, .int (nI o)), (3, .int (nI f1)), (5, .int (nI la))]) hx hb dX12_within_155 hl (k := 6) rfl (ii_1 _) (by decide) rfl (fun ls hl => ?_)
                  refine lv_iconst (v := nI 0) hx hb dX12_within_158 (by decide) ?_
                  refine lv_istore (lv' := [(8, .int (nI 0)), (4, .int (nI (fi + 1))), (7, .int (nI (qt fi))), (6, .int (nI (qs fi))), (0, .ref (ad 0)), (1, .int (nI r)), (2, .int (nI o)), (3, .int (nI f1)), (5, .int (nI la))]) hx hb dX12_within_159 hl (by decide) rfl (fun ls hl => ?_)
                  have lp_13 : ∀ (n_lp_13 : Nat) (k la2 : Nat) (qs2 qt2 s2 q2 : Nat → Nat) (hk : k ≤ 16) (hla1 : la ≤ la2) (hla2 : la2 ≤ 65536) (hBI2 : BI (N 5) (N 17 + 1) (F 6) r o f1 (WK (N 5) (F 6) r o f1 (stS (N 5) (F 10) (F 11) (N 9)) (tokS (N 5) f1 (F 10) (F 11) (N 9))) la2 qs2 qt2 s2 q2) (hdn2 : ∀ j, j < fi → BD (N 5) (N 17 + 1) (F 6) r o f1 16 (qs2 j) (qt2 j) s2) (hcur : qs2 fi = qs fi ∧ qt2 fi = qt fi) (hz2 : qs2 0 = stS (N 5) (F 10) (F 11) (N 9) ∧ qt2 0 = tokS (N 5) f1 (F 10) (F 11) (N 9)) (hbd : BD (N 5) (N 17 + 1) (F 6) r o f1 k (qs fi) (qt fi) s2), 16 - k < n_lp_13 → ∀ (H : Heap) (locs : List Loc) (hP : va_P E.1 vwCl (mW E ad (ad 6) tr (va_up (va_up (va_up N 17 ((N 17) + 1)) 22 (N 5)) 23 r) X (va_up (va_up F 12 s2) 29 q2) G) H) (hD : va_D A (mW E ad (ad 6) tr (va_up (va_up (va_up N 17 ((N 17) + 1)) 22 (N 5)) 23 r) X (va_up (va_up F 12 s2) 29 q2) G)) (hS : va_S A s.heap H locs) (ls : Array Slot), lv_has ls 14 [(0, .ref (ad 0)), (1, .int (nI r)), (2, .int (nI o)), (3, .int (nI f1)), (4, .int (nI (fi + 1))), (5, .int (nI la2)), (6, .int (nI (qs fi))), (7, .int (nI (qt fi))), (8, .int (nI k))] → W p l e rm_X12_within s m args below meth c H locs 0 0 (MQ below (wr_Q E A (fun v w1 => v = some (.int (s_within (N 5) (N 9) (F 6) (F 10) (F 11) (nI r) (nI o))) ∧ QP E ad tr N X F 64 w1)) args s 0 0 A) (F0 m 161 ls []) := by
                    intro n_lp_13
                    induction n_lp_13 with
                    | zero => intro k la2 qs2 qt2 s2 q2 hk hla1 hla2 hBI2 hdn2 hcur hz2 hbd; intro hm_lp_13; exact absurd hm_lp_13 (Nat.not_lt_zero _)
                    | succ n_lp_13 ih_lp_13 =>
                      intro k la2 qs2 qt2 s2 q2 hk hla1 hla2 hBI2 hdn2 hcur hz2 hbd hm_lp_13 H locs hP hD hS ls hl
                      have hs2le : ∀ i, s2 i ≤ N 17 + 1 := hBI2.2.2.2
                      refine lv_iload hx hb dX12_within_161 (lv_at hl 8 rfl) ?_
                      refine lv_bipush (v := nI 16) hx hb dX12_within_163 (by decide) ?_
                      refine n_icmp_ge (tgt := 322) hx hb (by omega) (by omega) dX12_within_165 (by decide) (fun c_14 => ?_) (fun c_14 => ?_)
                      · -- t 322
                        refine lv_goto (tgt := 124) hx hb dX12_within_322 (by decide) ?_
                        exact ih_lp_9 (fi + 1) la2 qs2 qt2 s2 q2 (by omega) (by omega) (by omega) hBI2 (fun j hj => (by rcases Nat.lt_or_ge j fi with h6 | h6; exact hdn2 j h6; rw [show j = fi by omega, hcur.1, hcur.2]; rw [show k = 16 by omega] at hbd; exact hbd)) hz2 (by omega) H locs hP hD hS ls (lv_sub hl [0, 1, 2, 3, 4, 5] rfl)
                      · -- f 168
                        refine lv_iload hx hb dX12_within_168 (lv_at hl 8 rfl) ?_
                        refine lv_iconst (v := nI 4) hx hb dX12_within_170 (by decide) ?_
                        refine n_idiv hx hb (by omega) (by omega) (by omega) dX12_within_171 ?_
                        refine lv_istore (lv' := [(9, .int (nI (k / 4))), (0, .ref (ad 0)), (1, .int (nI r)), (2, .int (nI o)), (3, .int (nI f1)), (4, .int (nI (fi + 1))), (5, .int (nI la2)), (6, .int (nI (qs fi))), (7, .int (nI (qt fi))), (8, .int (nI k))]) hx hb dX12_within_172 hl (by decide) rfl (fun ls hl => ?_)
                        refine lv_iload hx hb dX12_within_174 (lv_at hl 9 rfl) ?_
                        refine lv_iconst (v := nI 4) hx hb dX12_within_176 (by decide) ?_
                        refine n_irem hx hb (by omega) (by omega) (by omega) dX12_within_177 ?_
                        refine lv_istore (lv' := [(10, .int (nI (k % 4))), (9, .int (nI (k / 4))), (0, .ref (ad 0)), (1, .int (nI r)), (2, .int (nI o)), (3, .int (nI f1)), (4, .int (nI (fi + 1))), (5, .int (nI la2)), (6, .int (nI (qs fi))), (7, .int (nI (qt fi))), (8, .int (nI k))]) hx hb dX12_within_178 hl (by decide) rfl (fun ls hl => ?_)
                        refine lv_iload hx hb dX12_within_180 (lv_at hl 1 rfl) ?_
                        refine lv_aload_n hx hb dX12_within_182 rfl (lv_at hl 2 rfl) ?_
                        refine va_get (D := E.1) (ci := 10) (v := .int (nI (N 5))) (C := RX12) (T := TX12) (N := 30) hx hb hts iX12 hown hK hP 0 rfl rfl 5 (by decide) (hts _ kw_744) (fun _ h9 => h9) rfl dX12_within_183 ?_
                        refine n_icmp_ge (tgt := 316) hx hb (by omega) (by omega) dX12_within_186 (by decide) (fun c_15 => ?_) (fun c_15 => ?_)
                        · -- t 316
                          have hncv : cv (N 5) (F 6) r (qs fi) (qt fi) k = false := (by unfold cv; rw [decide_eq_false (Nat.not_lt.mpr c_15)]; rfl)
                          refine lv_iinc (v := nI (k + 1)) (lv' := [(8, .int (nI (k + 1))), (10, .int (nI (k % 4))), (9, .int (nI (k / 4))), (0, .ref (ad 0)), (1, .int (nI r)), (2, .int (nI o)), (3, .int (nI f1)), (4, .int (nI (fi + 1))), (5, .int (nI la2)), (6, .int (nI (qs fi))), (7, .int (nI (qt fi)))]) hx hb dX12_within_316 hl (k := 10) rfl (ii_1 _) (by decide) rfl (fun ls hl => ?_)
                          refine lv_goto (tgt := 161) hx hb dX12_within_319 (by decide) ?_
                          exact ih_lp_13 (k + 1) la2 qs2 qt2 s2 q2 (by omega) hla1 hla2 hBI2 hdn2 hcur hz2 (fun i hi hc => (by rcases Nat.lt_or_ge i k with h6 | h6; exact hbd i h6 hc; rw [show i = k by omega, hncv] at hc; cases hc)) (by omega) H locs hP hD hS ls (lv_sub hl [3, 4, 5, 6, 7, 8, 9, 10, 0] rfl)
                        · -- f 189
                          refine lv_iload hx hb dX12_within_189 (lv_at hl 0 rfl) ?_
                          refine lv_aload_n hx hb dX12_within_191 rfl (lv_at hl 2 rfl) ?_
                          refine va_get (D := E.1) (ci := 10) (v := .int (nI (N 5))) (C := RX12) (T := TX12) (N := 30) hx hb hts iX12 hown hK hP 0 rfl rfl 5 (by decide) (hts _ kw_744) (fun _ h9 => h9) rfl dX12_within_192 ?_
                          refine n_icmp_ge (tgt := 316) hx hb (by omega) (by omega) dX12_within_195 (by decide) (fun c_16 => ?_) (fun c_16 => ?_)
                          · -- t 316
                            have hncv : cv (N 5) (F 6) r (qs fi) (qt fi) k = false := (by unfold cv; rw [decide_eq_false (p := k % 4 < N 5) (Nat.not_lt.mpr c_16)]; simp)
                            refine lv_iinc (v := nI (k + 1)) (lv' := [(8, .int (nI (k + 1))), (10, .int (nI (k % 4))), (9, .int (nI (k / 4))), (0, .ref (ad 0)), (1, .int (nI r)), (2, .int (nI o)), (3, .int (nI f1)), (4, .int (nI (fi + 1))), (5, .int (nI la2)), (6, .int (nI (qs fi))), (7, .int (nI (qt fi)))]) hx hb dX12_within_316 hl (k := 10) rfl (ii_1 _) (by decide) rfl (fun ls hl => ?_)
                            refine lv_goto (tgt := 161) hx hb dX12_within_319 (by decide) ?_
                            exact ih_lp_13 (k + 1) la2 qs2 qt2 s2 q2 (by omega) hla1 hla2 hBI2 hdn2 hcur hz2 (fun i hi hc => (by rcases Nat.lt_or_ge i k with h6 | h6; exact hbd i h6 hc; rw [show i = k by omega, hncv] at hc; cases hc)) (by omega) H locs hP hD hS ls (lv_sub hl [3, 4, 5, 6, 7, 8, 9, 10, 0] rfl)
                          · -- f 198
                            refine lv_aload_n hx hb dX12_within_198 rfl (lv_at hl 2 rfl) ?_
                            refine va_get (D := E.1) (ci := 10) (v := .ref (ad 6)) (C := RX12) (T := TX12) (N := 30) hx hb hts iX12 hown hK hP 0 rfl rfl 6 (by decide) (hts _ kw_745) (fun _ h9 => h9) rfl dX12_within_199 ?_
                            refine lv_iload_n hx hb dX12_within_202 rfl (lv_at hl 3 rfl) ?_
                            refine lv_iload hx hb dX12_within_203 (lv_at hl 8 rfl) ?_
                            refine lv_iload hx hb dX12_within_205 (lv_at hl 9 rfl) ?_
                            refine lv_iload hx hb dX12_within_207 (lv_at hl 1 rfl) ?_
                            refine lv_iload hx hb dX12_within_209 (lv_at hl 0 rfl) ?_
                            refine cS_r (rest := []) hC (c_may l E (ad 6) (F 6) r (qs fi) (qt fi) (k / 4) (k % 4) (by omega) (by omega) (by omega) (by omega) (by omega) hn) kw_921 sy_X12_mayRing ⟨Nat.le_of_ble_eq_true rfl, Nat.le_of_ble_eq_true rfl⟩ ⟨rfl, rfl⟩ hK (hP.sub (ws' := aW E (ad 6) (F 6)) [4] rfl) rfl hl.1 rfl (Nat.le_of_ble_eq_true rfl) dX12_within_211 ⟨Nat.le_of_ble_eq_true rfl, Nat.le_of_ble_eq_true rfl⟩ ?_
                            refine W.eq (g2 := F0 m 214 ls [.int (bI (mayM (F 6) r (qs fi) (qt fi) (k / 4) (k % 4)))]) rfl ?_
                            refine b_if_ne (tgt := 220) hx hb dX12_within_214 (by decide) (fun c_17 => ?_) (fun c_17 => ?_)
                            · -- t 220
                              have hcv : cv (N 5) (F 6) r (qs fi) (qt fi) k = true := by unfold cv; rw [decide_eq_true c_15, decide_eq_true c_16, c_17]; rfl
                              obtain ⟨cv1, cv2, cv3, cv4, cv5⟩ := cv_ok hM5 hv1 hcv
                              refine lv_aload_n hx hb dX12_within_220 rfl (lv_at hl 2 rfl) ?_
                              refine va_get (D := E.1) (ci := 10) (v := .ref (ad 6)) (C := RX12) (T := TX12) (N := 30) hx hb hts iX12 hown hK hP 0 rfl rfl 6 (by decide) (hts _ kw_745) (fun _ h9 => h9) rfl dX12_within_221 ?_
                              refine lv_iload_n hx hb dX12_within_224 rfl (lv_at hl 4 rfl) ?_
                              refine lv_iload hx hb dX12_within_225 (lv_at hl 8 rfl) ?_
                              refine lv_iload hx hb dX12_within_227 (lv_at hl 9 rfl) ?_
                              refine lv_iload hx hb dX12_within_229 (lv_at hl 1 rfl) ?_
                              refine lv_iload hx hb dX12_within_231 (lv_at hl 0 rfl) ?_
                              refine cS_r (rest := []) hC (c_may l E (ad 6) (F 6) o (qs fi) (qt fi) (k / 4) (k % 4) (by omega) (by omega) (by omega) (by omega) (by omega) hn) kw_921 sy_X12_mayRing ⟨Nat.le_of_ble_eq_true rfl, Nat.le_of_ble_eq_true rfl⟩ ⟨rfl, rfl⟩ hK (hP.sub (ws' := aW E (ad 6) (F 6)) [4] rfl) rfl hl.1 rfl (Nat.le_of_ble_eq_true rfl) dX12_within_233 ⟨Nat.le_of_ble_eq_true rfl, Nat.le_of_ble_eq_true rfl⟩ ?_
                              refine W.eq (g2 := F0 m 236 ls [.int (bI (mayM (F 6) o (qs fi) (qt fi) (k / 4) (k % 4)))]) rfl ?_
                              refine b_if_ne (tgt := 241) hx hb dX12_within_236 (by decide) (fun c_18 => ?_) (fun c_18 => ?_)
                              · -- t 241
                                refine lv_iload hx hb dX12_within_241 (lv_at hl 8 rfl) ?_
                                refine lv_iload hx hb dX12_within_243 (lv_at hl 1 rfl) ?_
                                refine lv_iload hx hb dX12_within_245 (lv_at hl 0 rfl) ?_
                                refine cS_p (rest := []) hC (c_aft l (qs fi) (k / 4) (k % 4) (by omega) (by omega) (by omega)) kw_871 sy_X12_afterCall ⟨Nat.le_of_ble_eq_true rfl, Nat.le_of_ble_eq_true rfl⟩ ⟨rfl, rfl⟩ rfl hl.1 rfl (Nat.le_of_ble_eq_true rfl) dX12_within_247 ⟨Nat.le_of_ble_eq_true rfl, Nat.le_of_ble_eq_true rfl⟩ ?_
                                have f_19 := aft_lt (st := qs fi) (pp := k / 4) (qq := k % 4) (by omega) (by omega) (by omega)
                                refine lv_istore (lv' := [(11, .int (nI (aft (qs fi) (k / 4) (k % 4)))), (10, .int (nI (k % 4))), (9, .int (nI (k / 4))), (0, .ref (ad 0)), (1, .int (nI r)), (2, .int (nI o)), (3, .int (nI f1)), (4, .int (nI (fi + 1))), (5, .int (nI la2)), (6, .int (nI (qs fi))), (7, .int (nI (qt fi))), (8, .int (nI k))]) hx hb dX12_within_250 hl (by decide) rfl (fun ls hl => ?_)
                                refine lv_iload hx hb dX12_within_252 (lv_at hl 10 rfl) ?_
                                refine lv_iload_n hx hb dX12_within_254 rfl (lv_at hl 6 rfl) ?_
                                refine lv_iload hx hb dX12_within_255 (lv_at hl 2 rfl) ?_
                                refine lv_iload hx hb dX12_within_257 (lv_at hl 1 rfl) ?_
                                refine cS_p (rest := []) hC (c_tokA l (qt fi) f1 (k / 4) (k % 4) (by omega) (by omega) (by omega)) kw_884 sy_X12_tokensAfter ⟨Nat.le_of_ble_eq_true rfl, Nat.le_of_ble_eq_true rfl⟩ ⟨rfl, rfl⟩ rfl hl.1 rfl (Nat.le_of_ble_eq_true rfl) dX12_within_259 ⟨Nat.le_of_ble_eq_true rfl, Nat.le_of_ble_eq_true rfl⟩ ?_
                                have f_20 := tokA_lt (t := qt fi) (r := f1) (pp := k / 4) (qq := k % 4) (by omega) (by omega)
                                refine lv_istore (lv' := [(12, .int (nI (tokA (qt fi) f1 (k / 4) (k % 4)))), (11, .int (nI (aft (qs fi) (k / 4) (k % 4)))), (10, .int (nI (k % 4))), (9, .int (nI (k / 4))), (0, .ref (ad 0)), (1, .int (nI r)), (2, .int (nI o)), (3, .int (nI f1)), (4, .int (nI (fi + 1))), (5, .int (nI la2)), (6, .int (nI (qs fi))), (7, .int (nI (qt fi))), (8, .int (nI k))]) hx hb dX12_within_262 hl (by decide) rfl (fun ls hl => ?_)
                                refine lv_iload hx hb dX12_within_264 (lv_at hl 1 rfl) ?_
                                refine lv_iload hx hb dX12_within_266 (lv_at hl 0 rfl) ?_
                                refine cS_p (rest := []) hC (c_plc l (aft (qs fi) (k / 4) (k % 4)) (tokA (qt fi) f1 (k / 4) (k % 4)) (by omega) (by omega)) kw_941 sy_X12_placeOf ⟨Nat.le_of_ble_eq_true rfl, Nat.le_of_ble_eq_true rfl⟩ ⟨rfl, rfl⟩ rfl hl.1 rfl (Nat.le_of_ble_eq_true rfl) dX12_within_268 ⟨Nat.le_of_ble_eq_true rfl, Nat.le_of_ble_eq_true rfl⟩ ?_
                                have f_21 := plc_lt (aft (qs fi) (k / 4) (k % 4)) (tokA (qt fi) f1 (k / 4) (k % 4))
                                refine lv_istore (lv' := [(13, .int (nI (plc (aft (qs fi) (k / 4) (k % 4)) (tokA (qt fi) f1 (k / 4) (k % 4))))), (12, .int (nI (tokA (qt fi) f1 (k / 4) (k % 4)))), (11, .int (nI (aft (qs fi) (k / 4) (k % 4)))), (10, .int (nI (k % 4))), (9, .int (nI (k / 4))), (0, .ref (ad 0)), (1, .int (nI r)), (2, .int (nI o)), (3, .int (nI f1)), (4, .int (nI (fi + 1))), (5, .int (nI la2)), (6, .int (nI (qs fi))), (7, .int (nI (qt fi))), (8, .int (nI k))]) hx hb dX12_within_271 hl (by decide) rfl (fun ls hl => ?_)
                                refine lv_aload_n hx hb dX12_within_273 rfl (lv_at hl 5 rfl) ?_
                                refine va_get (D := E.1) (ci := 10) (v := .ref (ad 12)) (C := RX12) (T := TX12) (N := 30) hx hb hts iX12 hown hK hP 0 rfl rfl 12 (by decide) (hts _ kw_751) (fun _ h9 => h9) rfl dX12_within_274 ?_
                                refine lv_iload hx hb dX12_within_277 (lv_at hl 0 rfl) ?_
                                refine n_iald (f := fun j => nI (s2 j)) hx hb hK hP 8 rfl (by omega) (by decide) dX12_within_279 ?_
                                have hs29 := hs2le (plc (aft (qs fi) (k / 4) (k % 4)) (tokA (qt fi) f1 (k / 4) (k % 4)))
                                refine lv_aload_n hx hb dX12_within_280 rfl (lv_at hl 5 rfl) ?_
                                refine va_get (D := E.1) (ci := 10) (v := .int (nI ((N 17) + 1))) (C := RX12) (T := TX12) (N := 30) hx hb hts iX12 hown hK hP 0 rfl rfl 17 (by decide) (hts _ kw_756) (fun _ h9 => h9) rfl dX12_within_281 ?_
                                refine n_icmp_eq (tgt := 316) hx hb (by omega) (by omega) dX12_within_284 (by decide) (fun c_22 => ?_) (fun c_22 => ?_)
                                · -- t 316
                                  refine lv_iinc (v := nI (k + 1)) (lv' := [(8, .int (nI (k + 1))), (13, .int (nI (plc (aft (qs fi) (k / 4) (k % 4)) (tokA (qt fi) f1 (k / 4) (k % 4))))), (12, .int (nI (tokA (qt fi) f1 (k / 4) (k % 4)))), (11, .int (nI (aft (qs fi) (k / 4) (k % 4)))), (10, .int (nI (k % 4))), (9, .int (nI (k / 4))), (0, .ref (ad 0)), (1, .int (nI r)), (2, .int (nI o)), (3, .int (nI f1)), (4, .int (nI (fi + 1))), (5, .int (nI la2)), (6, .int (nI (qs fi))), (7, .int (nI (qt fi)))]) hx hb dX12_within_316 hl (k := 13) rfl (ii_1 _) (by decide) rfl (fun ls hl => ?_)
                                  refine lv_goto (tgt := 161) hx hb dX12_within_319 (by decide) ?_
                                  exact ih_lp_13 (k + 1) la2 qs2 qt2 s2 q2 (by omega) hla1 hla2 hBI2 hdn2 hcur hz2 (fun i hi hc => (by rcases Nat.lt_or_ge i k with h6 | h6; exact hbd i h6 hc; rw [show i = k by omega]; exact ⟨c_18, c_22⟩)) (by omega) H locs hP hD hS ls (lv_sub hl [6, 7, 8, 9, 10, 11, 12, 13, 0] rfl)
                                · -- f 287
                                  have hroom := BI_room hBI2 (plc_lt _ _) c_22
                                  have hpush := BI_push hM5 hBI2 cv4 (hnt16 _ _ ht1) c_22 (fun h => by
                                    have h9 := (hBI2.1 fi (by omega)).2.2.2.2 h
                                    rw [hcur.1, hcur.2, WK_iff hM5 hv1] at h9
                                    exact (h9 k (by omega) hcv).2)
                                  refine lv_aload_n hx hb dX12_within_287 rfl (lv_at hl 5 rfl) ?_
                                  refine va_get (D := E.1) (ci := 10) (v := .ref (ad 12)) (C := RX12) (T := TX12) (N := 30) hx hb hts iX12 hown hK hP 0 rfl rfl 12 (by decide) (hts _ kw_751) (fun _ h9 => h9) rfl dX12_within_288 ?_
                                  refine lv_iload hx hb dX12_within_291 (lv_at hl 0 rfl) ?_
                                  refine lv_aload_n hx hb dX12_within_293 rfl (lv_at hl 5 rfl) ?_
                                  refine va_get (D := E.1) (ci := 10) (v := .int (nI ((N 17) + 1))) (C := RX12) (T := TX12) (N := 30) hx hb hts iX12 hown hK hP 0 rfl rfl 17 (by decide) (hts _ kw_756) (fun _ h9 => h9) rfl dX12_within_294 ?_
                                  refine n_iast hx hb hK hP hD hS 8 rfl (by omega) (by decide) dX12_within_297 (fun H locs hP hD hS => ?_)
                                  have hP : va_P E.1 vwCl (mW E ad (ad 6) tr (va_up (va_up (va_up N 17 ((N 17) + 1)) 22 (N 5)) 23 r) X (va_up (va_up F 29 q2) 12 (va_up s2 (plc (aft (qs fi) (k / 4) (k % 4)) (tokA (qt fi) f1 (k / 4) (k % 4))) ((N 17) + 1))) G) H := hP
                                  have hD : va_D A (mW E ad (ad 6) tr (va_up (va_up (va_up N 17 ((N 17) + 1)) 22 (N 5)) 23 r) X (va_up (va_up F 29 q2) 12 (va_up s2 (plc (aft (qs fi) (k / 4) (k % 4)) (tokA (qt fi) f1 (k / 4) (k % 4))) ((N 17) + 1))) G) := hD
                                  refine lv_aload_n hx hb dX12_within_298 rfl (lv_at hl 5 rfl) ?_
                                  refine va_get (D := E.1) (ci := 10) (v := .ref (ad 29)) (C := RX12) (T := TX12) (N := 30) hx hb hts iX12 hown hK hP 0 rfl rfl 29 (by decide) (hts _ kw_768) (fun _ h9 => h9) rfl dX12_within_299 ?_
                                  refine lv_iload hx hb dX12_within_302 (lv_at hl 10 rfl) ?_
                                  refine lv_iload hx hb dX12_within_304 (lv_at hl 2 rfl) ?_
                                  refine lv_iload hx hb dX12_within_306 (lv_at hl 1 rfl) ?_
                                  refine lv_bipush (v := nI 16) hx hb dX12_within_308 (by decide) ?_
                                  refine n_ishl hx hb (by omega) dX12_within_310 ?_
                                  refine n_ior hx hb dX12_within_311 ?_
                                  refine n_iast hx hb hK hP hD hS 19 rfl (by omega) (by decide) dX12_within_312 (fun H locs hP hD hS => ?_)
                                  have hP : va_P E.1 vwCl (mW E ad (ad 6) tr (va_up (va_up (va_up N 17 ((N 17) + 1)) 22 (N 5)) 23 r) X (va_up (va_up F 12 (va_up s2 (plc (aft (qs fi) (k / 4) (k % 4)) (tokA (qt fi) f1 (k / 4) (k % 4))) ((N 17) + 1))) 29 (va_up q2 la2 ((aft (qs fi) (k / 4) (k % 4)) ||| ((tokA (qt fi) f1 (k / 4) (k % 4)) <<< 16)))) G) H := hP
                                  have hD : va_D A (mW E ad (ad 6) tr (va_up (va_up (va_up N 17 ((N 17) + 1)) 22 (N 5)) 23 r) X (va_up (va_up F 12 (va_up s2 (plc (aft (qs fi) (k / 4) (k % 4)) (tokA (qt fi) f1 (k / 4) (k % 4))) ((N 17) + 1))) 29 (va_up q2 la2 ((aft (qs fi) (k / 4) (k % 4)) ||| ((tokA (qt fi) f1 (k / 4) (k % 4)) <<< 16)))) G) := hD
                                  refine lv_iinc (v := nI (la2 + 1)) (lv' := [(5, .int (nI (la2 + 1))), (13, .int (nI (plc (aft (qs fi) (k / 4) (k % 4)) (tokA (qt fi) f1 (k / 4) (k % 4))))), (12, .int (nI (tokA (qt fi) f1 (k / 4) (k % 4)))), (11, .int (nI (aft (qs fi) (k / 4) (k % 4)))), (10, .int (nI (k % 4))), (9, .int (nI (k / 4))), (0, .ref (ad 0)), (1, .int (nI r)), (2, .int (nI o)), (3, .int (nI f1)), (4, .int (nI (fi + 1))), (6, .int (nI (qs fi))), (7, .int (nI (qt fi))), (8, .int (nI k))]) hx hb dX12_within_313 hl (k := 10) rfl (ii_1 _) (by decide) rfl (fun ls hl => ?_)
                                  refine lv_iinc (v := nI (k + 1)) (lv' := [(8, .int (nI (k + 1))), (5, .int (nI (la2 + 1))), (13, .int (nI (plc (aft (qs fi) (k / 4) (k % 4)) (tokA (qt fi) f1 (k / 4) (k % 4))))), (12, .int (nI (tokA (qt fi) f1 (k / 4) (k % 4)))), (11, .int (nI (aft (qs fi) (k / 4) (k % 4)))), (10, .int (nI (k % 4))), (9, .int (nI (k / 4))), (0, .ref (ad 0)), (1, .int (nI r)), (2, .int (nI o)), (3, .int (nI f1)), (4, .int (nI (fi + 1))), (6, .int (nI (qs fi))), (7, .int (nI (qt fi)))]) hx hb dX12_within_316 hl (k := 13) rfl (ii_1 _) (by decide) rfl (fun ls hl => ?_)
                                  refine lv_goto (tgt := 161) hx hb dX12_within_319 (by decide) ?_
                                  exact ih_lp_13 (k + 1) (la2 + 1) (va_up qs2 la2 (nxS (qs fi) k)) (va_up qt2 la2 (nxT (qt fi) f1 k)) (va_up s2 (plc (aft (qs fi) (k / 4) (k % 4)) (tokA (qt fi) f1 (k / 4) (k % 4))) (N 17 + 1)) (va_up q2 la2 (nxS (qs fi) k ||| nxT (qt fi) f1 k <<< 16)) (by omega) (by omega) (by omega) hpush (fun j hj => (by rw [vu_n _ _ (show j ≠ la2 by omega), vu_n _ _ (show j ≠ la2 by omega)]; exact BD_push (hdn2 j hj) _)) (⟨(vu_n _ _ (by omega)).trans hcur.1, (vu_n _ _ (by omega)).trans hcur.2⟩) (⟨(vu_n _ _ (by omega)).trans hz2.1, (vu_n _ _ (by omega)).trans hz2.2⟩) (fun i hi hc => (by rcases Nat.lt_or_ge i k with h6 | h6; exact BD_push hbd _ i h6 hc; rw [show i = k by omega]; exact ⟨c_18, vu_s _ _ _⟩)) (by omega) H locs hP hD hS ls (lv_sub hl [7, 8, 9, 10, 11, 1, 12, 13, 0] rfl)
                              · -- f 239
                                have hw0 : WK (N 5) (F 6) r o f1 (stS (N 5) (F 10) (F 11) (N 9)) (tokS (N 5) f1 (F 10) (F 11) (N 9)) = false := by
                                  cases hw9 : WK (N 5) (F 6) r o f1 (stS (N 5) (F 10) (F 11) (N 9)) (tokS (N 5) f1 (F 10) (F 11) (N 9)) with
                                  | false => rfl
                                  | true =>
                                    have h9 := (hBI2.1 fi (by omega)).2.2.2.2 hw9
                                    rw [hcur.1, hcur.2, WK_iff hM5 hv1] at h9
                                    have h8 := (h9 k (by omega) hcv).1
                                    rw [c_18] at h8; cases h8
                                refine lv_iconst (v := nI 0) hx hb dX12_within_239 (by decide) ?_
                                exact rw_i hC rfl hP hD hS (⟨by rw [s_within, if_neg (by rw [c_1]; decide), if_neg (by rw [c_2]; decide), hcr, hco, if_neg hnot, if_neg c_3, ← hf1, show WK (N 5) (F 6) r o f1 (stS (N 5) (F 10) (F 11) (N 9)) (tokS (N 5) f1 (F 10) (F 11) (N 9)) = false from hw0]; rfl, ⟨_, _, _, _, _, rfl, ⟨rfl, rfl, rfl, rfl, rfl, rfl, rfl, rfl, rfl⟩, ⟨hBI2.2.2.2, hT.2⟩, by show N 17 + 1 ≤ N 17 + 64; omega⟩⟩) dX12_within_240 (Nat.le_of_ble_eq_true rfl) (Nat.le_of_ble_eq_true rfl)
                            · -- f 217
                              have hncv : cv (N 5) (F 6) r (qs fi) (qt fi) k = false := (by unfold cv; rw [c_17]; simp)
                              refine lv_goto (tgt := 316) hx hb dX12_within_217 (by decide) ?_
                              refine lv_iinc (v := nI (k + 1)) (lv' := [(8, .int (nI (k + 1))), (10, .int (nI (k % 4))), (9, .int (nI (k / 4))), (0, .ref (ad 0)), (1, .int (nI r)), (2, .int (nI o)), (3, .int (nI f1)), (4, .int (nI (fi + 1))), (5, .int (nI la2)), (6, .int (nI (qs fi))), (7, .int (nI (qt fi)))]) hx hb dX12_within_316 hl (k := 10) rfl (ii_1 _) (by decide) rfl (fun ls hl => ?_)
                              refine lv_goto (tgt := 161) hx hb dX12_within_319 (by decide) ?_
                              exact ih_lp_13 (k + 1) la2 qs2 qt2 s2 q2 (by omega) hla1 hla2 hBI2 hdn2 hcur hz2 (fun i hi hc => (by rcases Nat.lt_or_ge i k with h6 | h6; exact hbd i h6 hc; rw [show i = k by omega, hncv] at hc; cases hc)) (by omega) H locs hP hD hS ls (lv_sub hl [3, 4, 5, 6, 7, 8, 9, 10, 0] rfl)
                  exact lp_13 _ 0 la qs qt s12 q29 (by omega) (Nat.le_refl _) hlb hBI hdn (⟨rfl, rfl⟩) hz (fun i h => absurd h (by omega)) (Nat.lt_succ_self _) H locs hP hD hS ls (lv_sub hl [4, 5, 6, 7, 1, 8, 3, 2, 0] rfl)
            exact lp_9 _ 0 1 (fun _ => stS (N 5) (F 10) (F 11) (N 9)) (fun _ => tokS (N 5) f1 (F 10) (F 11) (N 9)) (va_up (F 12) (plc (stS (N 5) (F 10) (F 11) (N 9)) (tokS (N 5) f1 (F 10) (F 11) (N 9))) ((N 17) + 1)) (va_up (F 29) 0 ((stS (N 5) (F 10) (F 11) (N 9)) ||| ((tokS (N 5) f1 (F 10) (F 11) (N 9)) <<< 16))) (by omega) (by omega) (by omega) hBI0 (fun j h => absurd h (by omega)) (⟨rfl, rfl⟩) (Nat.lt_succ_self _) H locs hP hD hS ls (lv_sub hl [2, 3, 4, 5, 1, 0] rfl)
          refine lv_iload_n hx hb dX12_within_46 rfl (lv_at hl 1 rfl) ?_
          refine lv_iconst (v := nI 1) hx hb dX12_within_47 (by decide) ?_
          refine n_icmp_le (tgt := 55) hx hb (by omega) (by omega) dX12_within_48 (by decide) (fun c_23 => ?_) (fun c_23 => ?_)
          · -- t 55
            refine lv_iload_n hx hb dX12_within_55 rfl (lv_at hl 2 rfl) ?_
            refine lv_istore_n (lv' := [(3, .int (nI o)), (0, .ref (ad 0)), (1, .int (nI r)), (2, .int (nI o))]) hx hb dX12_within_56 rfl hl (by decide) rfl (fun ls hl => ?_)
            exact hj57 o (by unfold ofR; rw [if_neg (by omega)]) ls (lv_sub hl [1, 2, 3, 0] rfl)
          · -- f 51
            refine lv_iload_n hx hb dX12_within_51 rfl (lv_at hl 1 rfl) ?_
            refine lv_goto (tgt := 56) hx hb dX12_within_52 (by decide) ?_
            refine lv_istore_n (lv' := [(3, .int (nI r)), (0, .ref (ad 0)), (1, .int (nI r)), (2, .int (nI o))]) hx hb dX12_within_56 rfl hl (by decide) rfl (fun ls hl => ?_)
            exact hj57 r (by unfold ofR; rw [if_pos (by omega)]) ls (lv_sub hl [1, 2, 3, 0] rfl)
        · -- f 43
          refine lv_bipush (v := -3) hx hb dX12_within_43 (by decide) ?_
          exact rw_i hC rfl hP hD hS (⟨by rw [s_within, if_neg (by rw [c_1]; decide), if_neg (by rw [c_2]; decide), hcr, hco, if_neg hnot, if_pos c_3], QP.rf hT⟩) dX12_within_45 (Nat.le_of_ble_eq_true rfl) (Nat.le_of_ble_eq_true rfl)
      refine lv_iload_n hx hb dX12_within_16 rfl (lv_at hl 1 rfl) ?_
      refine lv_iload_n hx hb dX12_within_17 rfl (lv_at hl 2 rfl) ?_
      refine n_iadd hx hb dX12_within_18 ?_
      refine lv_iconst (v := nI 5) hx hb dX12_within_19 (by decide) ?_
      refine n_icmp_ne (tgt := 36) hx hb (by omega) (by omega) dX12_within_20 (by decide) (fun c_24 => ?_) (fun c_24 => ?_)
      · -- t 36
        exact hj36 (by omega)
      · -- f 23
        refine lv_iload_n hx hb dX12_within_23 rfl (lv_at hl 1 rfl) ?_
        refine lv_iconst (v := nI 1) hx hb dX12_within_24 (by decide) ?_
        refine n_icmp_le (tgt := 36) hx hb (by omega) (by omega) dX12_within_25 (by decide) (fun c_25 => ?_) (fun c_25 => ?_)
        · -- t 36
          exact hj36 (by omega)
        · -- f 28
          refine lv_iload_n hx hb dX12_within_28 rfl (lv_at hl 2 rfl) ?_
          refine lv_iconst (v := nI 1) hx hb dX12_within_29 (by decide) ?_
          refine n_icmp_le (tgt := 36) hx hb (by omega) (by omega) dX12_within_30 (by decide) (fun c_26 => ?_) (fun c_26 => ?_)
          · -- t 36
            exact hj36 (by omega)
          · -- f 33
            refine lv_bipush (v := -2) hx hb dX12_within_33 (by decide) ?_
            exact rw_i hC rfl hP hD hS (⟨by rw [s_within, if_neg (by rw [c_1]; decide), if_neg (by rw [c_2]; decide), hcr, hco, if_pos (by omega)], QP.rf hT⟩) dX12_within_35 (Nat.le_of_ble_eq_true rfl) (Nat.le_of_ble_eq_true rfl)
    · -- f 14
      refine lv_iconst (v := -1) hx hb dX12_within_14 (by decide) ?_
      exact rw_i hC rfl hP hD hS (⟨by rw [s_within, if_neg (by rw [c_1]; decide), if_pos c_2], QP.rf hT⟩) dX12_within_15 (Nat.le_of_ble_eq_true rfl) (Nat.le_of_ble_eq_true rfl)
