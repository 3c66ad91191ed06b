set_option maxHeartbeats 4000000 in
set_option maxRecDepth 100000 in
theorem k_find2 (l : Launch) (E : EE) (ao a1 a2 a3 fo sc : Nat) (Rw Su Si : Nat → Nat) (m0 : Nat) (md : Nat → Option Nat) (Z : Nat → Nat → Nat) (k : Nat) (nn : Nat) (net C : Nat → Nat) (hc : CS nn k net Z C) (hk4 : k ≤ 4) (hmd : ∀ i, i < k → md i = some (Z 0 i)) (ww : Nat) (hw : ww < nn) (hAI : AI nn k net Z fo Rw Su Si) (sz : Nat) : Wr l yX0_find cX0_find 8 none rm_X0_find 0 0 E (fdW E ao a1 a2 a3 fo sc Rw Su Si m0 md Z k) sz [.ref ao, .int (nI ww), .long (lN (C 3)), .ref m0, .int (nI k)] (fun v1 w1 => v1 = none ∧ ∃ (fo2 sc2 : Nat) (Rw2 Su2 Si2 : Nat → Nat), w1 = fdW E ao a1 a2 a3 fo2 sc2 Rw2 Su2 Si2 m0 md Z k ∧ AI nn k net Z fo2 Rw2 Su2 Si2 ∧ fo2.testBit ww = true) := by
  refine mk_wr (by decide) (Nat.le_of_ble_eq_true rfl) ?_
  intro p e s m args below meth c hC hin hK A hA hP hD hS ls hl
  obtain ⟨hx, hb, hr, hts, hown, hml, hlk, hN⟩ := id hC
  have hl : lv_has ls 8 [(0, .ref ao), (1, .int (nI ww)), (2, .long (lN (C 3))), (4, .ref m0), (5, .int (nI k))] := hl
  have hn4 := hc.n4; have hfo := hAI.1; have hx0 := hc.st.lt
  obtain ⟨H, hH⟩ : ∃ z, z = s.heap := ⟨_, rfl⟩
  have hS : va_S A s.heap H [] := by rw [hH]; exact hS
  rw [← hH] at hP
  refine W_heap hH ?_
  obtain ⟨locs, hlo⟩ : ∃ z : List Loc, z = [] := ⟨_, rfl⟩
  rw [← hlo] at hS ⊢
  refine lv_aload_n hx hb dX0_find_0 rfl (lv_at hl 0 rfl) ?_
  refine va_get (D := E.1) (ci := 0) (v := .int (nI fo)) (C := RX0) (T := TX0) (N := 5) hx hb hts iX0 hown hK hP 0 rfl rfl 2 (by decide) (hts _ kw_89) (fun _ h9 => h9) rfl dX0_find_1 ?_
  refine lv_iload_n hx hb dX0_find_4 rfl (lv_at hl 1 rfl) ?_
  refine cN_p (rest := []) hC (k_contains l fo ww (by omega) (by omega)) hN.2.2.2.2.2.2.1 sy_X11_contains ⟨Nat.le_of_ble_eq_true rfl, Nat.le_of_ble_eq_true rfl⟩ ⟨rfl, rfl⟩ rfl hl.1 rfl (Nat.le_of_ble_eq_true rfl) dX0_find_5 ⟨Nat.le_of_ble_eq_true rfl, Nat.le_of_ble_eq_true rfl⟩ ?_
  refine b_if_eq (tgt := 12) hx hb dX0_find_8 (by decide) (fun c_1 => ?_) (fun c_1 => ?_)
  · -- t 12
    refine lv_aload_n hx hb dX0_find_12 rfl (lv_at hl 0 rfl) ?_
    refine lv_iload hx hb dX0_find_13 (lv_at hl 4 rfl) ?_
    refine lv_iconst (v := nI 4) hx hb dX0_find_15 (by decide) ?_
    refine va_mmin hx hb (by rw [hml, hl.1]) hown (hts _ kw_504) (hts _ kw_420) (hts _ kw_13) (hts _ kw_421) (Nat.le_of_ble_eq_true rfl) (show 1 + 13 ≤ _ from Nat.le_of_ble_eq_true rfl) (Nat.le_of_ble_eq_true rfl) (Nat.le_of_ble_eq_true rfl) dX0_find_16 ?_
    refine top_i (mmin_nI (by omega) (by omega)) ?_
    refine top_i (congrArg nI (Nat.min_eq_left hk4)) ?_
    refine va_put (D := E.1) (ci := 0) (v := .int (nI k)) (ty := .int) (C := RX0) (T := TX0) (N := 5) hx hb hts iX0 tyX0 tyX0_ok nmX0 hown hK hP hD hS 0 rfl rfl 4 (by decide) (hts _ kw_91) (fun _ h9 => h9) rfl (by decide +kernel) rfl rfl (Nat.le_of_ble_eq_true rfl) dX0_find_19 (fun H locs hP hD hS => ?_)
    have hP : va_P E.1 vwCl (fdW E ao a1 a2 a3 fo k Rw Su Si m0 md Z k) H := hP
    have hD : va_D A (fdW E ao a1 a2 a3 fo k Rw Su Si m0 md Z k) := hD
    refine lv_iconst (v := nI 0) hx hb dX0_find_22 (by decide) ?_
    refine lv_istore (lv' := [(6, .int (nI 0)), (0, .ref ao), (1, .int (nI ww)), (2, .long (lN (C 3))), (4, .ref m0), (5, .int (nI k))]) hx hb dX0_find_23 hl (by decide) rfl (fun ls hl => ?_)
    have lp_2 : ∀ (n_lp_2 : Nat) (c1 : Nat) (Sb : Nat → Nat) (hc1 : c1 ≤ k) (hSb : ∀ i, Sb i < 256) (hSs : ∀ i, i < c1 → Sb i = sgS ww (Z 2 i) (Z 3 i) (stS nn (Z 2) (Z 3) (i + 1))), k - c1 < n_lp_2 → ∀ (H : Heap) (locs : List Loc) (hP : va_P E.1 vwCl (fdW E ao a1 a2 a3 fo k Rw Su Sb m0 md Z k) H) (hD : va_D A (fdW E ao a1 a2 a3 fo k Rw Su Sb m0 md Z k)) (hS : va_S A s.heap H locs) (ls : Array Slot), lv_has ls 8 [(0, .ref ao), (1, .int (nI ww)), (2, .long (lN (C 3))), (4, .ref m0), (5, .int (nI k)), (6, .int (nI c1))] → W p l e rm_X0_find s m args below meth c H locs 0 0 (MQ below (wr_Q E A (fun v1 w1 => v1 = none ∧ ∃ (fo2 sc2 : Nat) (Rw2 Su2 Si2 : Nat → Nat), w1 = fdW E ao a1 a2 a3 fo2 sc2 Rw2 Su2 Si2 m0 md Z k ∧ AI nn k net Z fo2 Rw2 Su2 Si2 ∧ fo2.testBit ww = true)) args s 0 0 A) (F0 m 25 ls []) := by
      intro n_lp_2
      induction n_lp_2 with
      | zero => intro c1 Sb hc1 hSb hSs; intro hm_lp_2; exact absurd hm_lp_2 (Nat.not_lt_zero _)
      | succ n_lp_2 ih_lp_2 =>
        intro c1 Sb hc1 hSb hSs hm_lp_2 H locs hP hD hS ls hl
        refine lv_iload hx hb dX0_find_25 (lv_at hl 5 rfl) ?_
        refine lv_aload_n hx hb dX0_find_27 rfl (lv_at hl 0 rfl) ?_
        refine va_get (D := E.1) (ci := 0) (v := .int (nI k)) (C := RX0) (T := TX0) (N := 5) hx hb hts iX0 hown hK hP 0 rfl rfl 4 (by decide) (hts _ kw_91) (fun _ h9 => h9) rfl dX0_find_28 ?_
        refine n_icmp_ge (tgt := 82) hx hb (by omega) (by omega) dX0_find_31 (by decide) (fun c_3 => ?_) (fun c_3 => ?_)
        · -- t 82
          refine lv_aload_n hx hb dX0_find_82 rfl (lv_at hl 0 rfl) ?_
          refine va_get (D := E.1) (ci := 0) (v := .ref a1) (C := RX0) (T := TX0) (N := 5) hx hb hts iX0 hown hK hP 0 rfl rfl 0 (by decide) (hts _ kw_87) (fun _ h9 => h9) rfl dX0_find_83 ?_
          refine lv_iload_n hx hb dX0_find_86 rfl (lv_at hl 1 rfl) ?_
          refine lv_iconst (v := nI 0) hx hb dX0_find_87 (by decide) ?_
          refine n_iast hx hb hK hP hD hS 1 rfl (by omega) (by decide) dX0_find_88 (fun H locs hP hD hS => ?_)
          have hP : va_P E.1 vwCl (fdW E ao a1 a2 a3 fo k (va_up Rw ww 0) Su Sb m0 md Z k) H := hP
          have hD : va_D A (fdW E ao a1 a2 a3 fo k (va_up Rw ww 0) Su Sb m0 md Z k) := hD
          refine lv_aload_n hx hb dX0_find_89 rfl (lv_at hl 0 rfl) ?_
          refine va_get (D := E.1) (ci := 0) (v := .ref a2) (C := RX0) (T := TX0) (N := 5) hx hb hts iX0 hown hK hP 0 rfl rfl 1 (by decide) (hts _ kw_88) (fun _ h9 => h9) rfl dX0_find_90 ?_
          refine lv_iload_n hx hb dX0_find_93 rfl (lv_at hl 1 rfl) ?_
          refine lv_ldc (v := nI 65535) hx hb hown (hts _ kw_510) dX0_find_94 ?_
          refine n_iast hx hb hK hP hD hS 2 rfl (by omega) (by decide) dX0_find_96 (fun H locs hP hD hS => ?_)
          have hP : va_P E.1 vwCl (fdW E ao a1 a2 a3 fo k (va_up Rw ww 0) (va_up Su ww 65535) Sb m0 md Z k) H := hP
          have hD : va_D A (fdW E ao a1 a2 a3 fo k (va_up Rw ww 0) (va_up Su ww 65535) Sb m0 md Z k) := hD
          refine lv_aload_n hx hb dX0_find_97 rfl (lv_at hl 0 rfl) ?_
          refine lv_iload_n hx hb dX0_find_98 rfl (lv_at hl 1 rfl) ?_
          refine lv_lload_n hx hb dX0_find_99 rfl (lv_at hl 2 rfl) ?_
          refine lv_iconst (v := nI 0) hx hb dX0_find_100 (by decide) ?_
          refine cV_wr (X := []) (Y := mdC E m0 md :: clL Z k) (rest := []) hC (k_follow_k l E ao a1 a2 a3 nn net ww hc.n4 hw 14 k 0 (startN nn) _ _ (C 3) fo k (va_up Rw ww 0) (va_up Su ww 65535) Sb _ (by omega) (by omega) hk4 hc.st (VS_start hc.n4) hSb) kw_511 iy_X0_follow ⟨Nat.le_of_ble_eq_true rfl, Nat.le_of_ble_eq_true rfl⟩ ⟨rfl, rfl⟩ hK hP hD hS hA rfl (va_recv hK hP (ci := 0) (q0 := 0) rfl rfl) rfl hl.1 rfl (Nat.le_of_ble_eq_true rfl) dX0_find_101 ⟨Nat.le_of_ble_eq_true rfl, Nat.le_of_ble_eq_true rfl⟩ (fun v_ w_ H locs hpost hP hD hS => ?_)
          obtain ⟨rfl, rfl⟩ := hpost
          have hP : va_P E.1 vwCl (fdW E ao a1 a2 a3 fo k (va_up (va_up Rw ww 0) ww (va_up Rw ww 0 ww + trC nn net ww Sb k 0 (startN nn))) (va_up (va_up Su ww 65535) ww (trA nn net ww Sb k 0 (startN nn) (va_up Su ww 65535 ww))) Sb m0 md Z k) H := hP
          have hD : va_D A (fdW E ao a1 a2 a3 fo k (va_up (va_up Rw ww 0) ww (va_up Rw ww 0 ww + trC nn net ww Sb k 0 (startN nn))) (va_up (va_up Su ww 65535) ww (trA nn net ww Sb k 0 (startN nn) (va_up Su ww 65535 ww))) Sb m0 md Z k) := hD
          refine W.eq (g2 := F0 m 104 ls []) rfl ?_
          refine lv_aload_n hx hb dX0_find_104 rfl (lv_at hl 0 rfl) ?_
          refine lv_dup hx hb dX0_find_105 rfl ?_
          refine va_get (D := E.1) (ci := 0) (v := .int (nI fo)) (C := RX0) (T := TX0) (N := 5) hx hb hts iX0 hown hK hP 0 rfl rfl 2 (by decide) (hts _ kw_89) (fun _ h9 => h9) rfl dX0_find_106 ?_
          refine lv_iconst (v := nI 1) hx hb dX0_find_109 (by decide) ?_
          refine lv_iload_n hx hb dX0_find_110 rfl (lv_at hl 1 rfl) ?_
          refine n_ishl hx hb (by omega) dX0_find_111 ?_
          refine n_ior hx hb dX0_find_112 ?_
          refine va_put (D := E.1) (ci := 0) (v := .int (nI (fo ||| (1 <<< ww)))) (ty := .int) (C := RX0) (T := TX0) (N := 5) hx hb hts iX0 tyX0 tyX0_ok nmX0 hown hK hP hD hS 0 rfl rfl 2 (by decide) (hts _ kw_89) (fun _ h9 => h9) rfl (by decide +kernel) rfl rfl (Nat.le_of_ble_eq_true rfl) dX0_find_113 (fun H locs hP hD hS => ?_)
          have hP : va_P E.1 vwCl (fdW E ao a1 a2 a3 (fo ||| (1 <<< ww)) k (va_up (va_up Rw ww 0) ww (va_up Rw ww 0 ww + trC nn net ww Sb k 0 (startN nn))) (va_up (va_up Su ww 65535) ww (trA nn net ww Sb k 0 (startN nn) (va_up Su ww 65535 ww))) Sb m0 md Z k) H := hP
          have hD : va_D A (fdW E ao a1 a2 a3 (fo ||| (1 <<< ww)) k (va_up (va_up Rw ww 0) ww (va_up Rw ww 0 ww + trC nn net ww Sb k 0 (startN nn))) (va_up (va_up Su ww 65535) ww (trA nn net ww Sb k 0 (startN nn) (va_up Su ww 65535 ww))) Sb m0 md Z k) := hD
          exact rw_v hC hP hD hS (⟨rfl, _, _, _, _, _, rfl, AI_put hc hw hAI hSb (fun i h9 => hSs i (by omega)), bit_or _ _⟩) dX0_find_116 (Nat.le_of_ble_eq_true rfl) (Nat.le_of_ble_eq_true rfl)
        · -- f 34
          refine lv_aload hx hb dX0_find_34 (lv_at hl 3 rfl) ?_
          refine lv_iload hx hb dX0_find_36 (lv_at hl 5 rfl) ?_
          refine va_aldq hx hb hK hP 4 4 rfl rfl (vp_in_nI (by omega) (by decide)) dX0_find_38 ?_
          rw [nI_clamp (by omega)]
          rw [hmd c1 (by omega)]
          refine W.eq (g2 := F0 m 39 ls [.ref (Z 0 c1)]) rfl ?_
          have hc9 := hc.pq c1 (by omega); have hn4 := hc.n4; have haf := hc.af (by omega : c1 < k); have hx9 := haf.lt
          rcases hc.k1 (by omega : c1 < k) with hkk | hkk | hkk
          · -- kind 0
            have hPc : va_P E.1 vwCl [(Z 0 c1, .inr (1, cF Z c1))] H := cl_at hP fd_sub (by omega) hkk
            refine lv_astore (lv' := [(7, .ref (Z 0 c1)), (0, .ref ao), (1, .int (nI ww)), (2, .long (lN (C 3))), (4, .ref m0), (5, .int (nI k)), (6, .int (nI c1))]) hx hb dX0_find_39 hl (by decide) rfl (fun ls hl => ?_)
            refine lv_aload_n hx hb dX0_find_41 rfl (lv_at hl 1 rfl) ?_
            refine va_get (D := E.1) (ci := 0) (v := .ref a3) (C := RX0) (T := TX0) (N := 5) hx hb hts iX0 hown hK hP 0 rfl rfl 3 (by decide) (hts _ kw_90) (fun _ h9 => h9) rfl dX0_find_42 ?_
            refine lv_iload hx hb dX0_find_45 (lv_at hl 6 rfl) ?_
            refine lv_aload hx hb dX0_find_47 (lv_at hl 0 rfl) ?_
            refine lv_ifnonnull (tgt := 56) hx hb dX0_find_49 (by decide) ?_
            refine lv_iload_n hx hb dX0_find_56 rfl (lv_at hl 2 rfl) ?_
            refine lv_aload hx hb dX0_find_57 (lv_at hl 0 rfl) ?_
            refine va_get (D := E.1) (ci := 1) (v := .int (nI (Z 2 c1))) (C := RX1) (T := TX1) (N := 5) hx hb hts iX1 hown hK hPc 0 rfl rfl 1 (by decide) (hts _ kw_284) (fun _ h9 => h9) rfl dX0_find_59 ?_
            refine lv_aload hx hb dX0_find_62 (lv_at hl 0 rfl) ?_
            refine va_get (D := E.1) (ci := 1) (v := .int (nI (Z 3 c1))) (C := RX1) (T := TX1) (N := 5) hx hb hts iX1 hown hK hPc 0 rfl rfl 2 (by decide) (hts _ kw_289) (fun _ h9 => h9) rfl dX0_find_64 ?_
            refine lv_aload hx hb dX0_find_67 (lv_at hl 0 rfl) ?_
            refine va_get (D := E.1) (ci := 1) (v := .long (lN (Z 5 c1))) (C := RX1) (T := TX1) (N := 5) hx hb hts iX1 hown hK hPc 0 rfl rfl 4 (by decide) (hts _ kw_293) (fun _ h9 => h9) rfl dX0_find_69 ?_
            refine cS_p (rest := [.int (nI c1), .ref a3]) hC (k_sight l ww (Z 2 c1) (Z 3 c1) (Z 5 c1) (by omega) (by omega) (by omega) (by omega)) kw_505 sy_X0_sight ⟨Nat.le_of_ble_eq_true rfl, Nat.le_of_ble_eq_true rfl⟩ ⟨rfl, rfl⟩ rfl hl.1 rfl (Nat.le_of_ble_eq_true rfl) dX0_find_72 ⟨Nat.le_of_ble_eq_true rfl, Nat.le_of_ble_eq_true rfl⟩ ?_
            have f_4 := sgt_lt (by omega : (Z 2 c1) < 4) (by omega : (Z 3 c1) < 4) ww (Z 5 c1)
            refine n_iast hx hb hK hP hD hS 3 rfl (by omega) (by decide) dX0_find_75 (fun H locs hP hD hS => ?_)
            have hP : va_P E.1 vwCl (fdW E ao a1 a2 a3 fo k Rw Su (va_up Sb c1 (sgt ww (Z 2 c1) (Z 3 c1) (Z 5 c1))) m0 md Z k) H := hP
            have hD : va_D A (fdW E ao a1 a2 a3 fo k Rw Su (va_up Sb c1 (sgt ww (Z 2 c1) (Z 3 c1) (Z 5 c1))) m0 md Z k) := hD
            refine lv_iinc (v := nI (c1 + 1)) (lv' := [(6, .int (nI (c1 + 1))), (7, .ref (Z 0 c1)), (0, .ref ao), (1, .int (nI ww)), (2, .long (lN (C 3))), (4, .ref m0), (5, .int (nI k))]) hx hb dX0_find_76 hl (k := 6) rfl (ii_1 _) (by decide) rfl (fun ls hl => ?_)
            refine lv_goto (tgt := 25) hx hb dX0_find_79 (by decide) ?_
            exact ih_lp_2 (c1 + 1) (va_up Sb c1 (sgt ww (Z 2 c1) (Z 3 c1) (Z 5 c1))) (by omega) (fun i => by by_cases h9 : i = c1; rw [h9, vu_s]; exact sgt_lt (by omega) (by omega) _ _; rw [vu_n _ _ h9]; exact hSb i) (fun i h8 => by by_cases h9 : i = c1; rw [h9, vu_s]; exact fol_sg haf (by omega); rw [vu_n _ _ h9]; exact hSs i (by omega)) (by omega) H locs hP hD hS ls (lv_sub hl [2, 3, 4, 5, 6, 0] rfl)
          · -- kind 1
            have hPc : va_P E.1 vwCl [(Z 0 c1, .inr (3, cF Z c1))] H := cl_at hP fd_sub (by omega) hkk
            refine lv_astore (lv' := [(7, .ref (Z 0 c1)), (0, .ref ao), (1, .int (nI ww)), (2, .long (lN (C 3))), (4, .ref m0), (5, .int (nI k)), (6, .int (nI c1))]) hx hb dX0_find_39 hl (by decide) rfl (fun ls hl => ?_)
            refine lv_aload_n hx hb dX0_find_41 rfl (lv_at hl 1 rfl) ?_
            refine va_get (D := E.1) (ci := 0) (v := .ref a3) (C := RX0) (T := TX0) (N := 5) hx hb hts iX0 hown hK hP 0 rfl rfl 3 (by decide) (hts _ kw_90) (fun _ h9 => h9) rfl dX0_find_42 ?_
            refine lv_iload hx hb dX0_find_45 (lv_at hl 6 rfl) ?_
            refine lv_aload hx hb dX0_find_47 (lv_at hl 0 rfl) ?_
            refine lv_ifnonnull (tgt := 56) hx hb dX0_find_49 (by decide) ?_
            refine lv_iload_n hx hb dX0_find_56 rfl (lv_at hl 2 rfl) ?_
            refine lv_aload hx hb dX0_find_57 (lv_at hl 0 rfl) ?_
            refine va_get (D := E.1) (ci := 3) (v := .int (nI (Z 2 c1))) (C := RX4) (T := TX4) (N := 5) hx hb hts iX4 hown hK hPc 0 rfl rfl 1 (by decide) (hts _ kw_284) (fun _ h9 => h9) rfl dX0_find_59 ?_
            refine lv_aload hx hb dX0_find_62 (lv_at hl 0 rfl) ?_
            refine va_get (D := E.1) (ci := 3) (v := .int (nI (Z 3 c1))) (C := RX4) (T := TX4) (N := 5) hx hb hts iX4 hown hK hPc 0 rfl rfl 2 (by decide) (hts _ kw_289) (fun _ h9 => h9) rfl dX0_find_64 ?_
            refine lv_aload hx hb dX0_find_67 (lv_at hl 0 rfl) ?_
            refine va_get (D := E.1) (ci := 3) (v := .long (lN (Z 5 c1))) (C := RX4) (T := TX4) (N := 5) hx hb hts iX4 hown hK hPc 0 rfl rfl 4 (by decide) (hts _ kw_293) (fun _ h9 => h9) rfl dX0_find_69 ?_
            refine cS_p (rest := [.int (nI c1), .ref a3]) hC (k_sight l ww (Z 2 c1) (Z 3 c1) (Z 5 c1) (by omega) (by omega) (by omega) (by omega)) kw_505 sy_X0_sight ⟨Nat.le_of_ble_eq_true rfl, Nat.le_of_ble_eq_true rfl⟩ ⟨rfl, rfl⟩ rfl hl.1 rfl (Nat.le_of_ble_eq_true rfl) dX0_find_72 ⟨Nat.le_of_ble_eq_true rfl, Nat.le_of_ble_eq_true rfl⟩ ?_
            have f_5 := sgt_lt (by omega : (Z 2 c1) < 4) (by omega : (Z 3 c1) < 4) ww (Z 5 c1)
            refine n_iast hx hb hK hP hD hS 3 rfl (by omega) (by decide) dX0_find_75 (fun H locs hP hD hS => ?_)
            have hP : va_P E.1 vwCl (fdW E ao a1 a2 a3 fo k Rw Su (va_up Sb c1 (sgt ww (Z 2 c1) (Z 3 c1) (Z 5 c1))) m0 md Z k) H := hP
            have hD : va_D A (fdW E ao a1 a2 a3 fo k Rw Su (va_up Sb c1 (sgt ww (Z 2 c1) (Z 3 c1) (Z 5 c1))) m0 md Z k) := hD
            refine lv_iinc (v := nI (c1 + 1)) (lv' := [(6, .int (nI (c1 + 1))), (7, .ref (Z 0 c1)), (0, .ref ao), (1, .int (nI ww)), (2, .long (lN (C 3))), (4, .ref m0), (5, .int (nI k))]) hx hb dX0_find_76 hl (k := 6) rfl (ii_1 _) (by decide) rfl (fun ls hl => ?_)
            refine lv_goto (tgt := 25) hx hb dX0_find_79 (by decide) ?_
            exact ih_lp_2 (c1 + 1) (va_up Sb c1 (sgt ww (Z 2 c1) (Z 3 c1) (Z 5 c1))) (by omega) (fun i => by by_cases h9 : i = c1; rw [h9, vu_s]; exact sgt_lt (by omega) (by omega) _ _; rw [vu_n _ _ h9]; exact hSb i) (fun i h8 => by by_cases h9 : i = c1; rw [h9, vu_s]; exact fol_sg haf (by omega); rw [vu_n _ _ h9]; exact hSs i (by omega)) (by omega) H locs hP hD hS ls (lv_sub hl [2, 3, 4, 5, 6, 0] rfl)
          · -- kind 2
            have hPc : va_P E.1 vwCl [(Z 0 c1, .inr (8, cF Z c1))] H := cl_at hP fd_sub (by omega) hkk
            refine lv_astore (lv' := [(7, .ref (Z 0 c1)), (0, .ref ao), (1, .int (nI ww)), (2, .long (lN (C 3))), (4, .ref m0), (5, .int (nI k)), (6, .int (nI c1))]) hx hb dX0_find_39 hl (by decide) rfl (fun ls hl => ?_)
            refine lv_aload_n hx hb dX0_find_41 rfl (lv_at hl 1 rfl) ?_
            refine va_get (D := E.1) (ci := 0) (v := .ref a3) (C := RX0) (T := TX0) (N := 5) hx hb hts iX0 hown hK hP 0 rfl rfl 3 (by decide) (hts _ kw_90) (fun _ h9 => h9) rfl dX0_find_42 ?_
            refine lv_iload hx hb dX0_find_45 (lv_at hl 6 rfl) ?_
            refine lv_aload hx hb dX0_find_47 (lv_at hl 0 rfl) ?_
            refine lv_ifnonnull (tgt := 56) hx hb dX0_find_49 (by decide) ?_
            refine lv_iload_n hx hb dX0_find_56 rfl (lv_at hl 2 rfl) ?_
            refine lv_aload hx hb dX0_find_57 (lv_at hl 0 rfl) ?_
            refine va_get (D := E.1) (ci := 8) (v := .int (nI (Z 2 c1))) (C := RX10) (T := TX10) (N := 5) hx hb hts iX10 hown hK hPc 0 rfl rfl 1 (by decide) (hts _ kw_284) (fun _ h9 => h9) rfl dX0_find_59 ?_
            refine lv_aload hx hb dX0_find_62 (lv_at hl 0 rfl) ?_
            refine va_get (D := E.1) (ci := 8) (v := .int (nI (Z 3 c1))) (C := RX10) (T := TX10) (N := 5) hx hb hts iX10 hown hK hPc 0 rfl rfl 2 (by decide) (hts _ kw_289) (fun _ h9 => h9) rfl dX0_find_64 ?_
            refine lv_aload hx hb dX0_find_67 (lv_at hl 0 rfl) ?_
            refine va_get (D := E.1) (ci := 8) (v := .long (lN (Z 5 c1))) (C := RX10) (T := TX10) (N := 5) hx hb hts iX10 hown hK hPc 0 rfl rfl 4 (by decide) (hts _ kw_293) (fun _ h9 => h9) rfl dX0_find_69 ?_
            refine cS_p (rest := [.int (nI c1), .ref a3]) hC (k_sight l ww (Z 2 c1) (Z 3 c1) (Z 5 c1) (by omega) (by omega) (by omega) (by omega)) kw_505 sy_X0_sight ⟨Nat.le_of_ble_eq_true rfl, Nat.le_of_ble_eq_true rfl⟩ ⟨rfl, rfl⟩ rfl hl.1 rfl (Nat.le_of_ble_eq_true rfl) dX0_find_72 ⟨Nat.le_of_ble_eq_true rfl, Nat.le_of_ble_eq_true rfl⟩ ?_
            have f_6 := sgt_lt (by omega : (Z 2 c1) < 4) (by omega : (Z 3 c1) < 4) ww (Z 5 c1)
            refine n_iast hx hb hK hP hD hS 3 rfl (by omega) (by decide) dX0_find_75 (fun H locs hP hD hS => ?_)
            have hP : va_P E.1 vwCl (fdW E ao a1 a2 a3 fo k Rw Su (va_up Sb c1 (sgt ww (Z 2 c1) (Z 3 c1) (Z 5 c1))) m0 md Z k) H := hP
            have hD : va_D A (fdW E ao a1 a2 a3 fo k Rw Su (va_up Sb c1 (sgt ww (Z 2 c1) (Z 3 c1) (Z 5 c1))) m0 md Z k) := hD
            refine lv_iinc (v := nI (c1 + 1)) (lv' := [(6, .int (nI (c1 + 1))), (7, .ref (Z 0 c1)), (0, .ref ao), (1, .int (nI ww)), (2, .long (lN (C 3))), (4, .ref m0), (5, .int (nI k))]) hx hb dX0_find_76 hl (k := 6) rfl (ii_1 _) (by decide) rfl (fun ls hl => ?_)
            refine lv_goto (tgt := 25) hx hb dX0_find_79 (by decide) ?_
            exact ih_lp_2 (c1 + 1) (va_up Sb c1 (sgt ww (Z 2 c1) (Z 3 c1) (Z 5 c1))) (by omega) (fun i => by by_cases h9 : i = c1; rw [h9, vu_s]; exact sgt_lt (by omega) (by omega) _ _; rw [vu_n _ _ h9]; exact hSb i) (fun i h8 => by by_cases h9 : i = c1; rw [h9, vu_s]; exact fol_sg haf (by omega); rw [vu_n _ _ h9]; exact hSs i (by omega)) (by omega) H locs hP hD hS ls (lv_sub hl [2, 3, 4, 5, 6, 0] rfl)
    exact lp_2 _ 0 Si (Nat.zero_le _) hAI.2.1 (fun i h => absurd h (by omega)) (Nat.lt_succ_self _) H locs hP hD hS ls (lv_sub hl [1, 2, 3, 4, 5, 0] rfl)
  · -- f 11
    exact rw_v hC hP hD hS (⟨rfl, fo, sc, Rw, Su, Si, rfl, hAI, c_1⟩) dX0_find_11 (Nat.le_of_ble_eq_true rfl) (Nat.le_of_ble_eq_true rfl)

set_option maxHeartbeats 4000000 in
set_option maxRecDepth 100000 in
theorem k_rowsFor (l : Launch) (E : EE) (ao a1 a2 a3 fo sc : Nat) (Rw Su Si : Nat → Nat) (m0 : Nat) (md : Nat → Option Nat) (Z : Nat → Nat → Nat) (k : Nat) (nn : Nat) (net C : Nat → Nat) (hc : CS nn k net Z C) (hk4 : k ≤ 4) (hmd : ∀ i, i < k → md i = some (Z 0 i)) (ww : Nat) (hw : ww < nn) (hAI : AI nn k net Z fo Rw Su Si) (sz : Nat) : Wr l yX0_rowsFor cX0_rowsFor 6 (some .int) rm_X0_rowsFor 0 0 E (fdW E ao a1 a2 a3 fo sc Rw Su Si m0 md Z k) sz [.ref ao, .int (nI ww), .long (lN (C 3)), .ref m0, .int (nI k)] (fun v1 w1 => v1 = some (.int (nI (alC (ALf nn k net (Z 2) (Z 3) ww) (16 ^ k)))) ∧ ∃ (fo2 sc2 : Nat) (Rw2 Su2 Si2 : Nat → Nat), w1 = fdW E ao a1 a2 a3 fo2 sc2 Rw2 Su2 Si2 m0 md Z k ∧ AI nn k net Z fo2 Rw2 Su2 Si2) := by
  refine mk_wr (by decide) (Nat.le_of_ble_eq_true rfl) ?_
  intro p e s m args below meth c hC hin hK A hA hP hD hS ls hl
  obtain ⟨hx, hb, hr, hts, hown, hml, hlk, hN⟩ := id hC
  have hl : lv_has ls 6 [(0, .ref ao), (1, .int (nI ww)), (2, .long (lN (C 3))), (4, .ref m0), (5, .int (nI k))] := hl
  have hn4 := hc.n4
  obtain ⟨H, hH⟩ : ∃ z, z = s.heap := ⟨_, rfl⟩
  have hS : va_S A s.heap H [] := by rw [hH]; exact hS
  rw [← hH] at hP
  refine W_heap hH ?_
  obtain ⟨locs, hlo⟩ : ∃ z : List Loc, z = [] := ⟨_, rfl⟩
  rw [← hlo] at hS ⊢
  refine lv_aload_n hx hb dX0_rowsFor_0 rfl (lv_at hl 0 rfl) ?_
  refine lv_iload_n hx hb dX0_rowsFor_1 rfl (lv_at hl 1 rfl) ?_
  refine lv_lload_n hx hb dX0_rowsFor_2 rfl (lv_at hl 2 rfl) ?_
  refine lv_aload hx hb dX0_rowsFor_3 (lv_at hl 3 rfl) ?_
  refine lv_iload hx hb dX0_rowsFor_5 (lv_at hl 4 rfl) ?_
  refine cV_w0 (rest := []) hC (k_find2 l E ao a1 a2 a3 fo sc Rw Su Si m0 md Z k nn net C hc hk4 hmd ww hw hAI _) kw_499 iy_X0_find ⟨Nat.le_of_ble_eq_true rfl, Nat.le_of_ble_eq_true rfl⟩ ⟨rfl, rfl⟩ hK hP hD hS hA (va_recv hK hP (ci := 0) (q0 := 0) rfl rfl) rfl hl.1 rfl (Nat.le_of_ble_eq_true rfl) dX0_rowsFor_7 ⟨Nat.le_of_ble_eq_true rfl, Nat.le_of_ble_eq_true rfl⟩ (fun v_ w_ H locs hpost hP hD hS => ?_)
  obtain ⟨rfl, fo2, sc2, Rw2, Su2, Si2, rfl, hAI2, hfo2⟩ := hpost
  refine W.eq (g2 := F0 m 10 ls []) rfl ?_
  refine lv_aload_n hx hb dX0_rowsFor_10 rfl (lv_at hl 0 rfl) ?_
  refine va_get (D := E.1) (ci := 0) (v := .ref a1) (C := RX0) (T := TX0) (N := 5) hx hb hts iX0 hown hK hP 0 rfl rfl 0 (by decide) (hts _ kw_87) (fun _ h9 => h9) rfl dX0_rowsFor_11 ?_
  refine lv_iload_n hx hb dX0_rowsFor_14 rfl (lv_at hl 1 rfl) ?_
  refine n_iald (f := fun j => nI (Rw2 j)) hx hb hK hP 1 rfl (by omega) (by decide) dX0_rowsFor_15 ?_
  exact rw_i hC rfl hP hD hS (⟨by rw [(hAI2.2.2 ww hw hfo2).1], fo2, sc2, Rw2, Su2, Si2, rfl, hAI2⟩) dX0_rowsFor_16 (Nat.le_of_ble_eq_true rfl) (Nat.le_of_ble_eq_true rfl)

set_option maxHeartbeats 4000000 in
set_option maxRecDepth 100000 in
theorem k_sureFor (l : Launch) (E : EE) (ao a1 a2 a3 fo sc : Nat) (Rw Su Si : Nat → Nat) (m0 : Nat) (md : Nat → Option Nat) (Z : Nat → Nat → Nat) (k : Nat) (nn : Nat) (net C : Nat → Nat) (hc : CS nn k net Z C) (hk4 : k ≤ 4) (hmd : ∀ i, i < k → md i = some (Z 0 i)) (ww : Nat) (hw : ww < nn) (hAI : AI nn k net Z fo Rw Su Si) (sz : Nat) : Wr l yX0_sureSecretsFor cX0_sureSecretsFor 6 (some .int) rm_X0_sureSecretsFor 0 0 E (fdW E ao a1 a2 a3 fo sc Rw Su Si m0 md Z k) sz [.ref ao, .int (nI ww), .long (lN (C 3)), .ref m0, .int (nI k)] (fun v1 w1 => v1 = some (.int (nI (alA (ALf nn k net (Z 2) (Z 3) ww) (16 ^ k)))) ∧ ∃ (fo2 sc2 : Nat) (Rw2 Su2 Si2 : Nat → Nat), w1 = fdW E ao a1 a2 a3 fo2 sc2 Rw2 Su2 Si2 m0 md Z k ∧ AI nn k net Z fo2 Rw2 Su2 Si2) := by
  refine mk_wr (by decide) (Nat.le_of_ble_eq_true rfl) ?_
  intro p e s m args below meth c hC hin hK A hA hP hD hS ls hl
  obtain ⟨hx, hb, hr, hts, hown, hml, hlk, hN⟩ := id hC
  have hl : lv_has ls 6 [(0, .ref ao), (1, .int (nI ww)), (2, .long (lN (C 3))), (4, .ref m0), (5, .int (nI k))] := hl
  have hn4 := hc.n4
  obtain ⟨H, hH⟩ : ∃ z, z = s.heap := ⟨_, rfl⟩
  have hS : va_S A s.heap H [] := by rw [hH]; exact hS
  rw [← hH] at hP
  refine W_heap hH ?_
  obtain ⟨locs, hlo⟩ : ∃ z : List Loc, z = [] := ⟨_, rfl⟩
  rw [← hlo] at hS ⊢
  refine lv_aload_n hx hb dX0_sureSecretsFor_0 rfl (lv_at hl 0 rfl) ?_
  refine lv_iload_n hx hb dX0_sureSecretsFor_1 rfl (lv_at hl 1 rfl) ?_
  refine lv_lload_n hx hb dX0_sureSecretsFor_2 rfl (lv_at hl 2 rfl) ?_
  refine lv_aload hx hb dX0_sureSecretsFor_3 (lv_at hl 3 rfl) ?_
  refine lv_iload hx hb dX0_sureSecretsFor_5 (lv_at hl 4 rfl) ?_
  refine cV_w0 (rest := []) hC (k_find2 l E ao a1 a2 a3 fo sc Rw Su Si m0 md Z k nn net C hc hk4 hmd ww hw hAI _) kw_499 iy_X0_find ⟨Nat.le_of_ble_eq_true rfl, Nat.le_of_ble_eq_true rfl⟩ ⟨rfl, rfl⟩ hK hP hD hS hA (va_recv hK hP (ci := 0) (q0 := 0) rfl rfl) rfl hl.1 rfl (Nat.le_of_ble_eq_true rfl) dX0_sureSecretsFor_7 ⟨Nat.le_of_ble_eq_true rfl, Nat.le_of_ble_eq_true rfl⟩ (fun v_ w_ H locs hpost hP hD hS => ?_)
  obtain ⟨rfl, fo2, sc2, Rw2, Su2, Si2, rfl, hAI2, hfo2⟩ := hpost
  refine W.eq (g2 := F0 m 10 ls []) rfl ?_
  refine lv_aload_n hx hb dX0_sureSecretsFor_10 rfl (lv_at hl 0 rfl) ?_
  refine va_get (D := E.1) (ci := 0) (v := .ref a2) (C := RX0) (T := TX0) (N := 5) hx hb hts iX0 hown hK hP 0 rfl rfl 1 (by decide) (hts _ kw_88) (fun _ h9 => h9) rfl dX0_sureSecretsFor_11 ?_
  refine lv_iload_n hx hb dX0_sureSecretsFor_14 rfl (lv_at hl 1 rfl) ?_
  refine n_iald (f := fun j => nI (Su2 j)) hx hb hK hP 2 rfl (by omega) (by decide) dX0_sureSecretsFor_15 ?_
  exact rw_i hC rfl hP hD hS (⟨by rw [(hAI2.2.2 ww hw hfo2).2], fo2, sc2, Rw2, Su2, Si2, rfl, hAI2⟩) dX0_sureSecretsFor_16 (Nat.le_of_ble_eq_true rfl) (Nat.le_of_ble_eq_true rfl)

/-- the object alone -/
def aoW (ao a1 a2 a3 fo sc : Nat) : va_W := [(ao, .inr (0, [.ref a1, .ref a2, .int (nI fo), .ref a3, .int (nI sc)]))]
set_option maxHeartbeats 4000000 in
set_option maxRecDepth 100000 in
theorem k_forget (l : Launch) (E : EE) (ao a1 a2 a3 fo sc sz : Nat) : Wr l yX0_forget cX0_forget 1 none rm_X0_forget 0 0 E (aoW ao a1 a2 a3 fo sc) sz [.ref ao] (fun v1 w1 => v1 = none ∧ w1 = aoW ao a1 a2 a3 0 sc) := by
  refine mk_wr (by decide) (Nat.le_of_ble_eq_true rfl) ?_
  intro p e s m args below meth c hC hin hK A hA hP hD hS ls hl
  obtain ⟨hx, hb, hr, hts, hown, hml, hlk, hN⟩ := id hC
  have hl : lv_has ls 1 [(0, .ref ao)] := hl
  obtain ⟨H, hH⟩ : ∃ z, z = s.heap := ⟨_, rfl⟩
  have hS : va_S A s.heap H [] := by rw [hH]; exact hS
  rw [← hH] at hP
  refine W_heap hH ?_
  obtain ⟨locs, hlo⟩ : ∃ z : List Loc, z = [] := ⟨_, rfl⟩
  rw [← hlo] at hS ⊢
  refine lv_aload_n hx hb dX0_forget_0 rfl (lv_at hl 0 rfl) ?_
  refine lv_iconst (v := nI 0) hx hb dX0_forget_1 (by decide) ?_
  refine va_put (D := E.1) (ci := 0) (v := .int (nI 0)) (ty := .int) (C := RX0) (T := TX0) (N := 5) hx hb hts iX0 tyX0 tyX0_ok nmX0 hown hK hP hD hS 0 rfl rfl 2 (by decide) (hts _ kw_89) (fun _ h9 => h9) rfl (by decide +kernel) rfl rfl (Nat.le_of_ble_eq_true rfl) dX0_forget_2 (fun H locs hP hD hS => ?_)
  have hP : va_P E.1 vwCl (aoW ao a1 a2 a3 0 sc) H := hP
  have hD : va_D A (aoW ao a1 a2 a3 0 sc) := hD
  exact rw_v hC hP hD hS (⟨rfl, rfl⟩) dX0_forget_5 (Nat.le_of_ble_eq_true rfl) (Nat.le_of_ble_eq_true rfl)
