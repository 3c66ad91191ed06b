set_option maxHeartbeats 4000000 in
set_option maxRecDepth 100000 in
theorem c_m_layRow (l : Launch) (E : EE) (ad : Nat → Nat) (lk : Nat) (tr : Int32) (N : Nat → Nat) (X : Nat → Nat → Int32) (F G : Nat → Nat → Nat) (sz : Nat) (hM : MOK N F) (x0 : Nat) (h1 : x0 < 2 ^ 31) (h94 : N 9 ≤ 4) : Wr l yX12_layRow cX12_layRow 5 (some .int) rm_X12_layRow 0 0 E (mW E ad lk tr N X F G) sz [.ref (ad 0), .int (nI x0)] (fun v w1 => ∃ (f24 f25 : Nat → Nat), w1 = mW E ad lk tr N X (va_up (va_up F 24 f24) 25 f25) G ∧ ((∃ st, v = some (.int (nI st)) ∧ rS (N 5) (F 6) x0 (N 9) = some st ∧ ∀ c, c < N 9 → f24 c = dgR x0 c / 4 ∧ f25 c = dgR x0 c % 4) ∨ (v = some (.int (-1)) ∧ rS (N 5) (F 6) x0 (N 9) = none))) := by
  refine mk_wr (by decide) (Nat.le_of_ble_eq_true rfl) ?_
  intro p e s m args below meth c hC hin hK A hA hP hD hS ls hl
  obtain ⟨hx, hb, hr, hts, hown, hml, hlk, hN⟩ := id hC
  have hl : lv_has ls 5 [(0, .ref (ad 0)), (1, .int (nI x0))] := hl
  obtain ⟨hM5, hM9, hMp, hMq, hMn⟩ := id hM
  have hn : ∀ j, j < 4 → F 6 j < 16 := fun j _ => hMn j
  obtain ⟨H, hH⟩ : ∃ z, z = s.heap := ⟨_, rfl⟩
  have hS : va_S A s.heap H [] := by rw [hH]; exact hS
  rw [← hH] at hP
  refine W_heap hH ?_
  obtain ⟨locs, hlo⟩ : ∃ z : List Loc, z = [] := ⟨_, rfl⟩
  rw [← hlo] at hS ⊢
  refine lv_iload_n hx hb dX12_layRow_0 rfl (lv_at hl 1 rfl) ?_
  refine lv_istore_n (lv' := [(2, .int (nI x0)), (0, .ref (ad 0)), (1, .int (nI x0))]) hx hb dX12_layRow_1 rfl hl (by decide) rfl (fun ls hl => ?_)
  refine lv_aload_n hx hb dX12_layRow_2 rfl (lv_at hl 1 rfl) ?_
  refine lv_aload_n hx hb dX12_layRow_3 rfl (lv_at hl 1 rfl) ?_
  refine va_get (D := E.1) (ci := 10) (v := .int (nI (N 5))) (C := RX12) (T := TX12) (N := 30) hx hb hts iX12 hown hK hP 0 rfl rfl 5 (by decide) (hts _ kw_744) (fun _ h9 => h9) rfl dX12_layRow_4 ?_
  refine cV_r (rest := []) hC (c_m_startOf l E ad lk tr N X F G (N 5) (by omega)) kw_866 iy_X12_startOf ⟨Nat.le_of_ble_eq_true rfl, Nat.le_of_ble_eq_true rfl⟩ ⟨rfl, rfl⟩ hK hP (va_recv hK hP (ci := 10) (q0 := 0) rfl rfl) rfl hl.1 rfl (Nat.le_of_ble_eq_true rfl) dX12_layRow_7 ⟨Nat.le_of_ble_eq_true rfl, Nat.le_of_ble_eq_true rfl⟩ ?_
  have f_1 := startN_lt (N 5)
  refine lv_istore_n (lv' := [(3, .int (nI (startN (N 5)))), (2, .int (nI x0)), (0, .ref (ad 0)), (1, .int (nI x0))]) hx hb dX12_layRow_10 rfl hl (by decide) rfl (fun ls hl => ?_)
  refine lv_iconst (v := nI 0) hx hb dX12_layRow_11 (by decide) ?_
  refine lv_istore (lv' := [(4, .int (nI 0)), (3, .int (nI (startN (N 5)))), (2, .int (nI x0)), (0, .ref (ad 0)), (1, .int (nI x0))]) hx hb dX12_layRow_12 hl (by decide) rfl (fun ls hl => ?_)
  have lp_2 : ∀ (n_lp_2 : Nat) (c1 st1 : Nat) (f24 f25 : Nat → Nat) (hc1 : c1 ≤ N 9) (hrs : rS (N 5) (F 6) x0 c1 = some st1) (hf4 : ∀ c, c < c1 → f24 c = dgR x0 c / 4 ∧ f25 c = dgR x0 c % 4), N 9 - c1 < n_lp_2 → ∀ (H : Heap) (locs : List Loc) (hP : va_P E.1 vwCl (mW E ad lk tr N X (va_up (va_up F 24 f24) 25 f25) G) H) (hD : va_D A (mW E ad lk tr N X (va_up (va_up F 24 f24) 25 f25) G)) (hS : va_S A s.heap H locs) (ls : Array Slot), lv_has ls 5 [(0, .ref (ad 0)), (2, .int (nI (x0 / 16 ^ c1))), (3, .int (nI st1)), (4, .int (nI c1))] → W p l e rm_X12_layRow s m args below meth c H locs 0 0 (MQ below (wr_Q E A (fun v w1 => ∃ (f24 f25 : Nat → Nat), w1 = mW E ad lk tr N X (va_up (va_up F 24 f24) 25 f25) G ∧ ((∃ st, v = some (.int (nI st)) ∧ rS (N 5) (F 6) x0 (N 9) = some st ∧ ∀ c, c < N 9 → f24 c = dgR x0 c / 4 ∧ f25 c = dgR x0 c % 4) ∨ (v = some (.int (-1)) ∧ rS (N 5) (F 6) x0 (N 9) = none)))) args s 0 0 A) (F0 m 14 ls []) := by
    intro n_lp_2
    induction n_lp_2 with
    | zero => intro c1 st1 f24 f25 hc1 hrs hf4; intro hm_lp_2; exact absurd hm_lp_2 (Nat.not_lt_zero _)
    | succ n_lp_2 ih_lp_2 =>
      intro c1 st1 f24 f25 hc1 hrs hf4 hm_lp_2 H locs hP hD hS ls hl
      have hst1 := rS_lt hrs
      have hdv : x0 / 16 ^ c1 ≤ x0 := Nat.div_le_self _ _
      refine lv_iload hx hb dX12_layRow_14 (lv_at hl 3 rfl) ?_
      refine lv_aload_n hx hb dX12_layRow_16 rfl (lv_at hl 0 rfl) ?_
      refine va_get (D := E.1) (ci := 10) (v := .int (nI (N 9))) (C := RX12) (T := TX12) (N := 30) hx hb hts iX12 hown hK hP 0 rfl rfl 9 (by decide) (hts _ kw_748) (fun _ h9 => h9) rfl dX12_layRow_17 ?_
      refine n_icmp_ge (tgt := 151) hx hb (by omega) (by omega) dX12_layRow_20 (by decide) (fun c_3 => ?_) (fun c_3 => ?_)
      · -- t 151
        refine lv_iload_n hx hb dX12_layRow_151 rfl (lv_at hl 2 rfl) ?_
        exact rw_i hC rfl hP hD hS (⟨f24, f25, rfl, Or.inl ⟨_, rfl, by rw [show N 9 = c1 by omega]; exact hrs, fun c h => hf4 c (by omega)⟩⟩) dX12_layRow_152 (Nat.le_of_ble_eq_true rfl) (Nat.le_of_ble_eq_true rfl)
      · -- f 23
        refine lv_aload_n hx hb dX12_layRow_23 rfl (lv_at hl 0 rfl) ?_
        refine va_get (D := E.1) (ci := 10) (v := .ref (ad 24)) (C := RX12) (T := TX12) (N := 30) hx hb hts iX12 hown hK hP 0 rfl rfl 24 (by decide) (hts _ kw_763) (fun _ h9 => h9) rfl dX12_layRow_24 ?_
        refine lv_iload hx hb dX12_layRow_27 (lv_at hl 3 rfl) ?_
        refine lv_iload_n hx hb dX12_layRow_29 rfl (lv_at hl 1 rfl) ?_
        refine lv_bipush (v := nI 16) hx hb dX12_layRow_30 (by decide) ?_
        refine n_irem hx hb (by omega) (by omega) (by omega) dX12_layRow_32 ?_
        refine lv_iconst (v := nI 4) hx hb dX12_layRow_33 (by decide) ?_
        refine n_idiv hx hb (by omega) (by omega) (by omega) dX12_layRow_34 ?_
        refine n_iast hx hb hK hP hD hS 16 rfl (by omega) (by decide) dX12_layRow_35 (fun H locs hP hD hS => ?_)
        have hP : va_P E.1 vwCl (mW E ad lk tr N X (va_up (va_up F 25 f25) 24 (va_up f24 c1 (((x0 / 16 ^ c1) % 16) / 4))) G) H := hP
        have hD : va_D A (mW E ad lk tr N X (va_up (va_up F 25 f25) 24 (va_up f24 c1 (((x0 / 16 ^ c1) % 16) / 4))) G) := hD
        refine lv_aload_n hx hb dX12_layRow_36 rfl (lv_at hl 0 rfl) ?_
        refine va_get (D := E.1) (ci := 10) (v := .ref (ad 25)) (C := RX12) (T := TX12) (N := 30) hx hb hts iX12 hown hK hP 0 rfl rfl 25 (by decide) (hts _ kw_764) (fun _ h9 => h9) rfl dX12_layRow_37 ?_
        refine lv_iload hx hb dX12_layRow_40 (lv_at hl 3 rfl) ?_
        refine lv_iload_n hx hb dX12_layRow_42 rfl (lv_at hl 1 rfl) ?_
        refine lv_iconst (v := nI 4) hx hb dX12_layRow_43 (by decide) ?_
        refine n_irem hx hb (by omega) (by omega) (by omega) dX12_layRow_44 ?_
        refine n_iast hx hb hK hP hD hS 17 rfl (by omega) (by decide) dX12_layRow_45 (fun H locs hP hD hS => ?_)
        have hP : va_P E.1 vwCl (mW E ad lk tr N X (va_up (va_up F 24 (va_up f24 c1 (((x0 / 16 ^ c1) % 16) / 4))) 25 (va_up f25 c1 ((x0 / 16 ^ c1) % 4))) G) H := hP
        have hD : va_D A (mW E ad lk tr N X (va_up (va_up F 24 (va_up f24 c1 (((x0 / 16 ^ c1) % 16) / 4))) 25 (va_up f25 c1 ((x0 / 16 ^ c1) % 4))) G) := hD
        refine lv_iload_n hx hb dX12_layRow_46 rfl (lv_at hl 1 rfl) ?_
        refine lv_bipush (v := nI 16) hx hb dX12_layRow_47 (by decide) ?_
        refine n_idiv hx hb (by omega) (by omega) (by omega) dX12_layRow_49 ?_
        refine lv_istore_n (lv' := [(2, .int (nI ((x0 / 16 ^ c1) / 16))), (0, .ref (ad 0)), (3, .int (nI st1)), (4, .int (nI c1))]) hx hb dX12_layRow_50 rfl hl (by decide) rfl (fun ls hl => ?_)
        have e4 : (x0 / 16 ^ c1 % 4) = dgR x0 c1 % 4 := by unfold dgR; omega
        refine lv_aload_n hx hb dX12_layRow_51 rfl (lv_at hl 1 rfl) ?_
        refine lv_aload_n hx hb dX12_layRow_52 rfl (lv_at hl 1 rfl) ?_
        refine va_get (D := E.1) (ci := 10) (v := .ref (ad 24)) (C := RX12) (T := TX12) (N := 30) hx hb hts iX12 hown hK hP 0 rfl rfl 24 (by decide) (hts _ kw_763) (fun _ h9 => h9) rfl dX12_layRow_53 ?_
        refine lv_iload hx hb dX12_layRow_56 (lv_at hl 3 rfl) ?_
        refine n_iald hx hb hK hP 16 rfl (by omega) (by decide) dX12_layRow_58 ?_
        refine top_i (congrArg nI (vu_s _ _ _)) ?_
        refine cV_r (rest := []) hC (c_m_isPerson l E ad lk tr N X (va_up (va_up F 24 (va_up f24 c1 (((x0 / 16 ^ c1) % 16) / 4))) 25 (va_up f25 c1 ((x0 / 16 ^ c1) % 4))) G (nI (((x0 / 16 ^ c1) % 16) / 4))) kw_858 iy_X12_isPerson ⟨Nat.le_of_ble_eq_true rfl, Nat.le_of_ble_eq_true rfl⟩ ⟨rfl, rfl⟩ hK hP (va_recv hK hP (ci := 10) (q0 := 0) rfl rfl) rfl hl.1 rfl (Nat.le_of_ble_eq_true rfl) dX12_layRow_59 ⟨Nat.le_of_ble_eq_true rfl, Nat.le_of_ble_eq_true rfl⟩ ?_
        refine W.eq (g2 := F0 m 62 ls [.int (bI (isP (nI (((x0 / 16 ^ c1) % 16) / 4)) (N 5)))]) rfl ?_
        refine b_if_eq (tgt := 124) hx hb dX12_layRow_62 (by decide) (fun c_4 => ?_) (fun c_4 => ?_)
        · -- t 124
          rw [isP_nI (by omega) (by omega)] at c_4
          have c_4d : ¬ (x0 / 16 ^ c1 % 16 / 4) < N 5 := of_decide_eq_false c_4
          refine lv_iconst (v := -1) hx hb dX12_layRow_124 (by decide) ?_
          exact rw_i hC rfl hP hD hS (⟨(va_up f24 c1 (((x0 / 16 ^ c1) % 16) / 4)), (va_up f25 c1 ((x0 / 16 ^ c1) % 4)), rfl, Or.inr ⟨rfl, rS_none (by rw [rS_s hrs, if_neg (fun h => c_4d h.1.1)]) (N 9) (by omega : c1 + 1 ≤ N 9)⟩⟩) dX12_layRow_125 (Nat.le_of_ble_eq_true rfl) (Nat.le_of_ble_eq_true rfl)
        · -- f 65
          rw [isP_nI (by omega) (by omega)] at c_4
          have c_4d : (x0 / 16 ^ c1 % 16 / 4) < N 5 := of_decide_eq_true c_4
          refine lv_aload_n hx hb dX12_layRow_65 rfl (lv_at hl 1 rfl) ?_
          refine lv_aload_n hx hb dX12_layRow_66 rfl (lv_at hl 1 rfl) ?_
          refine va_get (D := E.1) (ci := 10) (v := .ref (ad 25)) (C := RX12) (T := TX12) (N := 30) hx hb hts iX12 hown hK hP 0 rfl rfl 25 (by decide) (hts _ kw_764) (fun _ h9 => h9) rfl dX12_layRow_67 ?_
          refine lv_iload hx hb dX12_layRow_70 (lv_at hl 3 rfl) ?_
          refine n_iald hx hb hK hP 17 rfl (by omega) (by decide) dX12_layRow_72 ?_
          refine top_i (congrArg nI (vu_s _ _ _)) ?_
          refine cV_r (rest := []) hC (c_m_isPerson l E ad lk tr N X (va_up (va_up F 24 (va_up f24 c1 (((x0 / 16 ^ c1) % 16) / 4))) 25 (va_up f25 c1 ((x0 / 16 ^ c1) % 4))) G (nI ((x0 / 16 ^ c1) % 4))) kw_858 iy_X12_isPerson ⟨Nat.le_of_ble_eq_true rfl, Nat.le_of_ble_eq_true rfl⟩ ⟨rfl, rfl⟩ hK hP (va_recv hK hP (ci := 10) (q0 := 0) rfl rfl) rfl hl.1 rfl (Nat.le_of_ble_eq_true rfl) dX12_layRow_73 ⟨Nat.le_of_ble_eq_true rfl, Nat.le_of_ble_eq_true rfl⟩ ?_
          refine W.eq (g2 := F0 m 76 ls [.int (bI (isP (nI ((x0 / 16 ^ c1) % 4)) (N 5)))]) rfl ?_
          refine b_if_eq (tgt := 124) hx hb dX12_layRow_76 (by decide) (fun c_5 => ?_) (fun c_5 => ?_)
          · -- t 124
            rw [isP_nI (by omega) (by omega)] at c_5
            have c_5d : ¬ (x0 / 16 ^ c1 % 4) < N 5 := of_decide_eq_false c_5
            refine lv_iconst (v := -1) hx hb dX12_layRow_124 (by decide) ?_
            exact rw_i hC rfl hP hD hS (⟨(va_up f24 c1 (((x0 / 16 ^ c1) % 16) / 4)), (va_up f25 c1 ((x0 / 16 ^ c1) % 4)), rfl, Or.inr ⟨rfl, rS_none (by rw [rS_s hrs, if_neg (fun h => c_5d (by rw [e4]; exact h.1.2))]) (N 9) (by omega : c1 + 1 ≤ N 9)⟩⟩) dX12_layRow_125 (Nat.le_of_ble_eq_true rfl) (Nat.le_of_ble_eq_true rfl)
          · -- f 79
            rw [isP_nI (by omega) (by omega)] at c_5
            have c_5d : (x0 / 16 ^ c1 % 4) < N 5 := of_decide_eq_true c_5
            refine lv_aload_n hx hb dX12_layRow_79 rfl (lv_at hl 1 rfl) ?_
            refine va_get (D := E.1) (ci := 10) (v := .ref (ad 24)) (C := RX12) (T := TX12) (N := 30) hx hb hts iX12 hown hK hP 0 rfl rfl 24 (by decide) (hts _ kw_763) (fun _ h9 => h9) rfl dX12_layRow_80 ?_
            refine lv_iload hx hb dX12_layRow_83 (lv_at hl 3 rfl) ?_
            refine n_iald hx hb hK hP 16 rfl (by omega) (by decide) dX12_layRow_85 ?_
            refine top_i (congrArg nI (vu_s _ _ _)) ?_
            refine lv_aload_n hx hb dX12_layRow_86 rfl (lv_at hl 1 rfl) ?_
            refine va_get (D := E.1) (ci := 10) (v := .ref (ad 25)) (C := RX12) (T := TX12) (N := 30) hx hb hts iX12 hown hK hP 0 rfl rfl 25 (by decide) (hts _ kw_764) (fun _ h9 => h9) rfl dX12_layRow_87 ?_
            refine lv_iload hx hb dX12_layRow_90 (lv_at hl 3 rfl) ?_
            refine n_iald hx hb hK hP 17 rfl (by omega) (by decide) dX12_layRow_92 ?_
            refine top_i (congrArg nI (vu_s _ _ _)) ?_
            refine n_icmp_eq (tgt := 124) hx hb (by omega) (by omega) dX12_layRow_93 (by decide) (fun c_6 => ?_) (fun c_6 => ?_)
            · -- t 124
              refine lv_iconst (v := -1) hx hb dX12_layRow_124 (by decide) ?_
              exact rw_i hC rfl hP hD hS (⟨(va_up f24 c1 (((x0 / 16 ^ c1) % 16) / 4)), (va_up f25 c1 ((x0 / 16 ^ c1) % 4)), rfl, Or.inr ⟨rfl, rS_none (by rw [rS_s hrs, if_neg (fun h => h.2.1 (by rw [← e4]; exact c_6))]) (N 9) (by omega : c1 + 1 ≤ N 9)⟩⟩) dX12_layRow_125 (Nat.le_of_ble_eq_true rfl) (Nat.le_of_ble_eq_true rfl)
            · -- f 96
              refine lv_aload_n hx hb dX12_layRow_96 rfl (lv_at hl 1 rfl) ?_
              refine va_get (D := E.1) (ci := 10) (v := .ref (ad 6)) (C := RX12) (T := TX12) (N := 30) hx hb hts iX12 hown hK hP 0 rfl rfl 6 (by decide) (hts _ kw_745) (fun _ h9 => h9) rfl dX12_layRow_97 ?_
              refine lv_iload_n hx hb dX12_layRow_100 rfl (lv_at hl 2 rfl) ?_
              refine lv_aload_n hx hb dX12_layRow_101 rfl (lv_at hl 1 rfl) ?_
              refine va_get (D := E.1) (ci := 10) (v := .ref (ad 24)) (C := RX12) (T := TX12) (N := 30) hx hb hts iX12 hown hK hP 0 rfl rfl 24 (by decide) (hts _ kw_763) (fun _ h9 => h9) rfl dX12_layRow_102 ?_
              refine lv_iload hx hb dX12_layRow_105 (lv_at hl 3 rfl) ?_
              refine n_iald hx hb hK hP 16 rfl (by omega) (by decide) dX12_layRow_107 ?_
              refine top_i (congrArg nI (vu_s _ _ _)) ?_
              refine cS_r (rest := []) hC (c_numO l E (ad 6) (F 6) st1 (((x0 / 16 ^ c1) % 16) / 4) (by omega) (by omega)) kw_877 sy_X12_numbersOf ⟨Nat.le_of_ble_eq_true rfl, Nat.le_of_ble_eq_true rfl⟩ ⟨rfl, rfl⟩ hK (hP.sub (ws' := aW E (ad 6) (F 6)) [4] rfl) rfl hl.1 rfl (Nat.le_of_ble_eq_true rfl) dX12_layRow_108 ⟨Nat.le_of_ble_eq_true rfl, Nat.le_of_ble_eq_true rfl⟩ ?_
              refine W.eq (g2 := F0 m 111 ls [.int (nI (numO (F 6) st1 (((x0 / 16 ^ c1) % 16) / 4)))]) rfl ?_
              have f_7 := numO_lt hn st1 (((x0 / 16 ^ c1) % 16) / 4)
              refine lv_aload_n hx hb dX12_layRow_111 rfl (lv_at hl 1 rfl) ?_
              refine va_get (D := E.1) (ci := 10) (v := .ref (ad 25)) (C := RX12) (T := TX12) (N := 30) hx hb hts iX12 hown hK hP 0 rfl rfl 25 (by decide) (hts _ kw_764) (fun _ h9 => h9) rfl dX12_layRow_112 ?_
              refine lv_iload hx hb dX12_layRow_115 (lv_at hl 3 rfl) ?_
              refine n_iald hx hb hK hP 17 rfl (by omega) (by decide) dX12_layRow_117 ?_
              refine top_i (congrArg nI (vu_s _ _ _)) ?_
              refine cS_p (rest := []) hC (c_m_has l (numO (F 6) st1 (((x0 / 16 ^ c1) % 16) / 4)) ((x0 / 16 ^ c1) % 4) (by omega) (by omega)) kw_851 sy_X12_has ⟨Nat.le_of_ble_eq_true rfl, Nat.le_of_ble_eq_true rfl⟩ ⟨rfl, rfl⟩ rfl hl.1 rfl (Nat.le_of_ble_eq_true rfl) dX12_layRow_118 ⟨Nat.le_of_ble_eq_true rfl, Nat.le_of_ble_eq_true rfl⟩ ?_
              refine b_if_ne (tgt := 126) hx hb dX12_layRow_121 (by decide) (fun c_8 => ?_) (fun c_8 => ?_)
              · -- t 126
                have hok : (dgR x0 c1 / 4 < N 5 ∧ dgR x0 c1 % 4 < N 5) ∧ (dgR x0 c1 / 4 ≠ dgR x0 c1 % 4 ∧ (numO (F 6) st1 (dgR x0 c1 / 4)).testBit (dgR x0 c1 % 4) = true) := by rw [← e4]; exact ⟨⟨c_4d, c_5d⟩, c_6, c_8⟩
                refine lv_iload_n hx hb dX12_layRow_126 rfl (lv_at hl 2 rfl) ?_
                refine lv_aload_n hx hb dX12_layRow_127 rfl (lv_at hl 1 rfl) ?_
                refine va_get (D := E.1) (ci := 10) (v := .ref (ad 24)) (C := RX12) (T := TX12) (N := 30) hx hb hts iX12 hown hK hP 0 rfl rfl 24 (by decide) (hts _ kw_763) (fun _ h9 => h9) rfl dX12_layRow_128 ?_
                refine lv_iload hx hb dX12_layRow_131 (lv_at hl 3 rfl) ?_
                refine n_iald hx hb hK hP 16 rfl (by omega) (by decide) dX12_layRow_133 ?_
                refine top_i (congrArg nI (vu_s _ _ _)) ?_
                refine lv_aload_n hx hb dX12_layRow_134 rfl (lv_at hl 1 rfl) ?_
                refine va_get (D := E.1) (ci := 10) (v := .ref (ad 25)) (C := RX12) (T := TX12) (N := 30) hx hb hts iX12 hown hK hP 0 rfl rfl 25 (by decide) (hts _ kw_764) (fun _ h9 => h9) rfl dX12_layRow_135 ?_
                refine lv_iload hx hb dX12_layRow_138 (lv_at hl 3 rfl) ?_
                refine n_iald hx hb hK hP 17 rfl (by omega) (by decide) dX12_layRow_140 ?_
                refine top_i (congrArg nI (vu_s _ _ _)) ?_
                refine cS_p (rest := []) hC (c_aft l st1 (((x0 / 16 ^ c1) % 16) / 4) ((x0 / 16 ^ c1) % 4) (by omega) (by omega) (by omega)) kw_871 sy_X12_afterCall ⟨Nat.le_of_ble_eq_true rfl, Nat.le_of_ble_eq_true rfl⟩ ⟨rfl, rfl⟩ rfl hl.1 rfl (Nat.le_of_ble_eq_true rfl) dX12_layRow_141 ⟨Nat.le_of_ble_eq_true rfl, Nat.le_of_ble_eq_true rfl⟩ ?_
                have f_9 := aft_lt (st := st1) (pp := ((x0 / 16 ^ c1) % 16) / 4) (qq := (x0 / 16 ^ c1) % 4) (by omega) (by omega) (by omega)
                refine lv_istore_n (lv' := [(3, .int (nI (aft st1 (((x0 / 16 ^ c1) % 16) / 4) ((x0 / 16 ^ c1) % 4)))), (2, .int (nI ((x0 / 16 ^ c1) / 16))), (0, .ref (ad 0)), (4, .int (nI c1))]) hx hb dX12_layRow_144 rfl hl (by decide) rfl (fun ls hl => ?_)
                refine lv_iinc (v := nI (c1 + 1)) (lv' := [(4, .int (nI (c1 + 1))), (3, .int (nI (aft st1 (((x0 / 16 ^ c1) % 16) / 4) ((x0 / 16 ^ c1) % 4)))), (2, .int (nI ((x0 / 16 ^ c1) / 16))), (0, .ref (ad 0))]) hx hb dX12_layRow_145 hl (k := 3) rfl (ii_1 _) (by decide) rfl (fun ls hl => ?_)
                refine lv_goto (tgt := 14) hx hb dX12_layRow_148 (by decide) ?_
                exact ih_lp_2 (c1 + 1) (aft st1 (x0 / 16 ^ c1 % 16 / 4) (x0 / 16 ^ c1 % 4)) (va_up f24 c1 (((x0 / 16 ^ c1) % 16) / 4)) (va_up f25 c1 ((x0 / 16 ^ c1) % 4)) (by omega) (by rw [rS_s hrs, if_pos hok]; rw [← e4]) (fun c h => (by rcases Nat.lt_or_ge c c1 with h6 | h6; exact ⟨(vu_n _ _ (by omega)).trans (hf4 c h6).1, (vu_n _ _ (by omega)).trans (hf4 c h6).2⟩; rw [show c = c1 by omega]; exact ⟨vu_s _ _ _, (vu_s _ _ _).trans e4⟩)) (by omega) H locs hP hD hS ls (by have h9 : lv_has ls 5 [(0, .ref (ad 0)), (2, .int (nI ((x0 / 16 ^ c1) / 16))), (3, .int (nI (aft st1 (((x0 / 16 ^ c1) % 16) / 4) ((x0 / 16 ^ c1) % 4)))), (4, .int (nI (c1 + 1)))] := lv_sub hl [3, 2, 1, 0] rfl; rw [show x0 / 16 ^ (c1 + 1) = x0 / 16 ^ c1 / 16 by rw [Nat.pow_succ, Nat.div_div_eq_div_mul]]; exact h9)
              · -- f 124
                refine lv_iconst (v := -1) hx hb dX12_layRow_124 (by decide) ?_
                exact rw_i hC rfl hP hD hS (⟨(va_up f24 c1 (((x0 / 16 ^ c1) % 16) / 4)), (va_up f25 c1 ((x0 / 16 ^ c1) % 4)), rfl, Or.inr ⟨rfl, rS_none (by rw [rS_s hrs, if_neg (fun h => by have h9 := h.2.2; rw [← e4, c_8] at h9; cases h9)]) (N 9) (by omega : c1 + 1 ≤ N 9)⟩⟩) dX12_layRow_125 (Nat.le_of_ble_eq_true rfl) (Nat.le_of_ble_eq_true rfl)
  exact lp_2 _ 0 (startN (N 5)) (F 24) (F 25) (by omega) rfl (fun c h => absurd h (by omega)) (Nat.lt_succ_self _) H locs hP hD hS ls (by have h9 : lv_has ls 5 [(0, .ref (ad 0)), (2, .int (nI x0)), (3, .int (nI (startN (N 5)))), (4, .int (nI 0))] := lv_sub hl [3, 2, 1, 0] rfl; rw [show x0 / 16 ^ 0 = x0 by simp]; exact h9)
