set_option maxHeartbeats 4000000 in
set_option maxRecDepth 100000 in
theorem k_alike (l : Launch) (E : EE) (ca ra : Nat → Nat) (ao : Nat) (C : Nat → Nat) (a1 a2 a3 fo sc : Nat) (Rw Su Si : Nat → Nat) (md : Nat → Option Nat) (nn kk : Nat) (net : Nat → Nat) (Z : Nat → Nat → Nat) (hc : CS nn kk net Z C) (hmd : ∀ i, i < kk → md i = some (Z 0 i)) (hAI : AI nn kk net Z fo Rw Su Si) (v1 : Int32) (sz : Nat) : Wr l yX11_alike cX11_alike 2 (some .int) rm_X11_alike 0 0 E (ofW E ca ra ao C a1 a2 a3 fo sc Rw Su Si md Z kk) sz [.ref (ca 0), .int v1] (fun v2 w1 => v2 = some (.int (s_alike nn kk net (Z 2) (Z 3) v1)) ∧ OFP E ca ra ao C a1 a2 a3 md Z nn kk net w1) := by
  refine mk_wr (by decide) (Nat.le_of_ble_eq_true rfl) ?_
  intro p e s m args below meth c hC hin hK A hA hP hD hS ls hl
  obtain ⟨hx, hb, hr, hts, hown, hml, hlk, hN⟩ := id hC
  have hl : lv_has ls 2 [(0, .ref (ca 0)), (1, .int v1)] := hl
  have hn4 := hc.n4; have hk12 := hc.k12; have hx3 := hc.st.lt; have hx4 := hc.nw.lt; have hp3 := hc.p3; have hp4 := hc.p4; have hcc := hc.cnt
  obtain ⟨H, hH⟩ : ∃ z, z = s.heap := ⟨_, rfl⟩
  have hS : va_S A s.heap H [] := by rw [hH]; exact hS
  rw [← hH] at hP
  refine W_heap hH ?_
  obtain ⟨locs, hlo⟩ : ∃ z : List Loc, z = [] := ⟨_, rfl⟩
  rw [← hlo] at hS ⊢
  refine lv_aload_n hx hb dX11_alike_0 rfl (lv_at hl 0 rfl) ?_
  refine lv_iload_n hx hb dX11_alike_1 rfl (lv_at hl 1 rfl) ?_
  refine cV_r (rest := []) hC (k_isPerson l E ca ra ao C nn kk net Z hc v1) kw_230 iy_X11_isPerson ⟨Nat.le_of_ble_eq_true rfl, Nat.le_of_ble_eq_true rfl⟩ ⟨rfl, rfl⟩ hK (show va_P E.1 vwCl (oW ca ra ao C) H from va_P_mem.mpr fun q9 h9 => va_P_mem.mp hP q9 (by rw [List.mem_singleton.mp h9]; exact List.mem_cons_self)) (va_recv hK hP (ci := 9) (q0 := 0) rfl rfl) rfl hl.1 rfl (Nat.le_of_ble_eq_true rfl) dX11_alike_2 ⟨Nat.le_of_ble_eq_true rfl, Nat.le_of_ble_eq_true rfl⟩ ?_
  refine b_if_ne (tgt := 10) hx hb dX11_alike_5 (by decide) (fun c_1 => ?_) (fun c_1 => ?_)
  · -- t 10
    obtain ⟨p1, hp1, rfl⟩ := isP_nat (by omega) c_1
    have hl : lv_has ls 2 [(0, .ref (ca 0)), (1, .int (nI p1))] := hl
    refine lv_aload_n hx hb dX11_alike_10 rfl (lv_at hl 0 rfl) ?_
    refine va_get (D := E.1) (ci := 9) (v := .int (nI (C 2))) (C := RX11) (T := TX11) (N := 13) hx hb hts iX11 hown hK hP 0 rfl rfl 2 (by decide) (hts _ kw_106) (fun _ h9 => h9) rfl dX11_alike_11 ?_
    refine lv_iconst (v := nI 4) hx hb dX11_alike_14 (by decide) ?_
    refine n_icmp_le (tgt := 21) hx hb (by omega) (by omega) dX11_alike_15 (by decide) (fun c_2 => ?_) (fun c_2 => ?_)
    · -- t 21
      have hk4 : kk ≤ 4 := (by omega)
      refine lv_aload_n hx hb dX11_alike_21 rfl (lv_at hl 0 rfl) ?_
      refine va_get (D := E.1) (ci := 9) (v := .ref ao) (C := RX11) (T := TX11) (N := 13) hx hb hts iX11 hown hK hP 0 rfl rfl 8 (by decide) (hts _ kw_112) (fun _ h9 => h9) rfl dX11_alike_22 ?_
      refine lv_iload_n hx hb dX11_alike_25 rfl (lv_at hl 1 rfl) ?_
      refine lv_aload_n hx hb dX11_alike_26 rfl (lv_at hl 0 rfl) ?_
      refine va_get (D := E.1) (ci := 9) (v := .long (lN (C 3))) (C := RX11) (T := TX11) (N := 13) hx hb hts iX11 hown hK hP 0 rfl rfl 3 (by decide) (hts _ kw_107) (fun _ h9 => h9) rfl dX11_alike_27 ?_
      refine lv_aload_n hx hb dX11_alike_30 rfl (lv_at hl 0 rfl) ?_
      refine va_get (D := E.1) (ci := 9) (v := .ref (ca 2)) (C := RX11) (T := TX11) (N := 13) hx hb hts iX11 hown hK hP 0 rfl rfl 1 (by decide) (hts _ kw_105) (fun _ h9 => h9) rfl dX11_alike_31 ?_
      refine lv_aload_n hx hb dX11_alike_34 rfl (lv_at hl 0 rfl) ?_
      refine va_get (D := E.1) (ci := 9) (v := .int (nI (C 2))) (C := RX11) (T := TX11) (N := 13) hx hb hts iX11 hown hK hP 0 rfl rfl 2 (by decide) (hts _ kw_106) (fun _ h9 => h9) rfl dX11_alike_35 ?_
      refine top_i (congrArg nI hcc) ?_
      refine cV_wr (X := [oC ca ra ao C]) (Y := []) (rest := []) hC (k_rowsFor l E ao a1 a2 a3 fo sc Rw Su Si (ca 2) md Z kk nn net C hc hk4 hmd p1 hp1 hAI _) kw_495 iy_X0_rowsFor ⟨Nat.le_of_ble_eq_true rfl, Nat.le_of_ble_eq_true rfl⟩ ⟨rfl, rfl⟩ hK hP hD hS hA (by rw [List.append_nil]; rfl) (va_recv hK hP (ci := 0) (q0 := 1) rfl rfl) rfl hl.1 rfl (Nat.le_of_ble_eq_true rfl) dX11_alike_38 ⟨Nat.le_of_ble_eq_true rfl, Nat.le_of_ble_eq_true rfl⟩ (fun v_ w_ H locs hpost hP hD hS => ?_)
      obtain ⟨rfl, fo2, sc2, Rw2, Su2, Si2, rfl, hAI2⟩ := hpost
      rw [List.append_nil] at hP hD
      have hP : va_P E.1 vwCl (ofW E ca ra ao C a1 a2 a3 fo2 sc2 Rw2 Su2 Si2 md Z kk) H := hP
      have hD : va_D A (ofW E ca ra ao C a1 a2 a3 fo2 sc2 Rw2 Su2 Si2 md Z kk) := hD
      refine W.eq (g2 := F0 m 41 ls [.int (nI (alC (ALf nn kk net (Z 2) (Z 3) p1) (16 ^ kk)))]) rfl ?_
      exact rw_i hC rfl hP hD hS (⟨by rw [s_alike, if_neg (by rw [nat_isP (by omega) hp1]; decide), if_neg (by omega), nI_clamp (by omega)], ⟨fo2, sc2, Rw2, Su2, Si2, rfl, hAI2⟩⟩) dX11_alike_41 (Nat.le_of_ble_eq_true rfl) (Nat.le_of_ble_eq_true rfl)
    · -- f 18
      refine lv_bipush (v := -3) hx hb dX11_alike_18 (by decide) ?_
      exact rw_i hC rfl hP hD hS (⟨by rw [s_alike, if_neg (by rw [nat_isP (by omega) hp1]; decide), if_pos (by omega)], ⟨fo, sc, Rw, Su, Si, rfl, hAI⟩⟩) dX11_alike_20 (Nat.le_of_ble_eq_true rfl) (Nat.le_of_ble_eq_true rfl)
  · -- f 8
    refine lv_iconst (v := -1) hx hb dX11_alike_8 (by decide) ?_
    exact rw_i hC rfl hP hD hS (⟨by rw [s_alike, if_pos c_1], ⟨fo, sc, Rw, Su, Si, rfl, hAI⟩⟩) dX11_alike_9 (Nat.le_of_ble_eq_true rfl) (Nat.le_of_ble_eq_true rfl)

set_option maxHeartbeats 4000000 in
set_option maxRecDepth 100000 in
theorem k_surelyHad (l : Launch) (E : EE) (ca ra : Nat → Nat) (ao : Nat) (C : Nat → Nat) (a1 a2 a3 fo sc : Nat) (Rw Su Si : Nat → Nat) (md : Nat → Option Nat) (nn kk : Nat) (net : Nat → Nat) (Z : Nat → Nat → Nat) (hc : CS nn kk net Z C) (hmd : ∀ i, i < kk → md i = some (Z 0 i)) (hAI : AI nn kk net Z fo Rw Su Si) (hk4 : kk ≤ 4) (p1 q1 : Nat) (hp1 : p1 < nn) (hq1 : q1 < nn) (sz : Nat) : Wr l yX11_surelyHad cX11_surelyHad 3 (some .int) rm_X11_surelyHad 0 0 E (ofW E ca ra ao C a1 a2 a3 fo sc Rw Su Si md Z kk) sz [.ref (ca 0), .int (nI p1), .int (nI q1)] (fun v1 w1 => v1 = some (.int (nI (of4 (alA (ALf nn kk net (Z 2) (Z 3) p1) (16 ^ kk)) q1))) ∧ OFP E ca ra ao C a1 a2 a3 md Z nn kk net w1) := by
  refine mk_wr (by decide) (Nat.le_of_ble_eq_true rfl) ?_
  intro p e s m args below meth c hC hin hK A hA hP hD hS ls hl
  obtain ⟨hx, hb, hr, hts, hown, hml, hlk, hN⟩ := id hC
  have hl : lv_has ls 3 [(0, .ref (ca 0)), (1, .int (nI p1)), (2, .int (nI q1))] := hl
  have hn4 := hc.n4; have hk12 := hc.k12; have hx3 := hc.st.lt; have hx4 := hc.nw.lt; have hp3 := hc.p3; have hp4 := hc.p4; have hcc := hc.cnt
  obtain ⟨H, hH⟩ : ∃ z, z = s.heap := ⟨_, rfl⟩
  have hS : va_S A s.heap H [] := by rw [hH]; exact hS
  rw [← hH] at hP
  refine W_heap hH ?_
  obtain ⟨locs, hlo⟩ : ∃ z : List Loc, z = [] := ⟨_, rfl⟩
  rw [← hlo] at hS ⊢
  refine lv_aload_n hx hb dX11_surelyHad_0 rfl (lv_at hl 0 rfl) ?_
  refine va_get (D := E.1) (ci := 9) (v := .ref ao) (C := RX11) (T := TX11) (N := 13) hx hb hts iX11 hown hK hP 0 rfl rfl 8 (by decide) (hts _ kw_112) (fun _ h9 => h9) rfl dX11_surelyHad_1 ?_
  refine lv_iload_n hx hb dX11_surelyHad_4 rfl (lv_at hl 1 rfl) ?_
  refine lv_aload_n hx hb dX11_surelyHad_5 rfl (lv_at hl 0 rfl) ?_
  refine va_get (D := E.1) (ci := 9) (v := .long (lN (C 3))) (C := RX11) (T := TX11) (N := 13) hx hb hts iX11 hown hK hP 0 rfl rfl 3 (by decide) (hts _ kw_107) (fun _ h9 => h9) rfl dX11_surelyHad_6 ?_
  refine lv_aload_n hx hb dX11_surelyHad_9 rfl (lv_at hl 0 rfl) ?_
  refine va_get (D := E.1) (ci := 9) (v := .ref (ca 2)) (C := RX11) (T := TX11) (N := 13) hx hb hts iX11 hown hK hP 0 rfl rfl 1 (by decide) (hts _ kw_105) (fun _ h9 => h9) rfl dX11_surelyHad_10 ?_
  refine lv_aload_n hx hb dX11_surelyHad_13 rfl (lv_at hl 0 rfl) ?_
  refine va_get (D := E.1) (ci := 9) (v := .int (nI (C 2))) (C := RX11) (T := TX11) (N := 13) hx hb hts iX11 hown hK hP 0 rfl rfl 2 (by decide) (hts _ kw_106) (fun _ h9 => h9) rfl dX11_surelyHad_14 ?_
  refine top_i (congrArg nI hcc) ?_
  refine cV_wr (X := [oC ca ra ao C]) (Y := []) (rest := []) hC (k_sureFor l E ao a1 a2 a3 fo sc Rw Su Si (ca 2) md Z kk nn net C hc hk4 hmd p1 hp1 hAI _) kw_527 iy_X0_sureSecretsFor ⟨Nat.le_of_ble_eq_true rfl, Nat.le_of_ble_eq_true rfl⟩ ⟨rfl, rfl⟩ hK hP hD hS hA (by rw [List.append_nil]; rfl) (va_recv hK hP (ci := 0) (q0 := 1) rfl rfl) rfl hl.1 rfl (Nat.le_of_ble_eq_true rfl) dX11_surelyHad_17 ⟨Nat.le_of_ble_eq_true rfl, Nat.le_of_ble_eq_true rfl⟩ (fun v_ w_ H locs hpost hP hD hS => ?_)
  obtain ⟨rfl, fo2, sc2, Rw2, Su2, Si2, rfl, hAI2⟩ := hpost
  rw [List.append_nil] at hP hD
  have hP : va_P E.1 vwCl (ofW E ca ra ao C a1 a2 a3 fo2 sc2 Rw2 Su2 Si2 md Z kk) H := hP
  have hD : va_D A (ofW E ca ra ao C a1 a2 a3 fo2 sc2 Rw2 Su2 Si2 md Z kk) := hD
  refine W.eq (g2 := F0 m 20 ls [.int (nI (alA (ALf nn kk net (Z 2) (Z 3) p1) (16 ^ kk)))]) rfl ?_
  have hle := alA_le (ALf nn kk net (Z 2) (Z 3) p1) (16 ^ kk)
  refine lv_iload_n hx hb dX11_surelyHad_20 rfl (lv_at hl 2 rfl) ?_
  refine cS_p (rest := []) hC (k_partOf l (alA (ALf nn kk net (Z 2) (Z 3) p1) (16 ^ kk)) q1 (by omega) (by omega)) kw_531 sy_X5_partOf ⟨Nat.le_of_ble_eq_true rfl, Nat.le_of_ble_eq_true rfl⟩ ⟨rfl, rfl⟩ rfl hl.1 rfl (Nat.le_of_ble_eq_true rfl) dX11_surelyHad_21 ⟨Nat.le_of_ble_eq_true rfl, Nat.le_of_ble_eq_true rfl⟩ ?_
  have f_1 := prt_lt (alA (ALf nn kk net (Z 2) (Z 3) p1) (16 ^ kk)) q1
  exact rw_i hC rfl hP hD hS (⟨rfl, ⟨fo2, sc2, Rw2, Su2, Si2, rfl, hAI2⟩⟩) dX11_surelyHad_24 (Nat.le_of_ble_eq_true rfl) (Nat.le_of_ble_eq_true rfl)

set_option maxHeartbeats 4000000 in
set_option maxRecDepth 100000 in
theorem k_sure (l : Launch) (E : EE) (ca ra : Nat → Nat) (ao : Nat) (C : Nat → Nat) (a1 a2 a3 fo sc : Nat) (Rw Su Si : Nat → Nat) (md : Nat → Option Nat) (nn kk : Nat) (net : Nat → Nat) (Z : Nat → Nat → Nat) (hc : CS nn kk net Z C) (hmd : ∀ i, i < kk → md i = some (Z 0 i)) (hAI : AI nn kk net Z fo Rw Su Si) (v1 v2 v3 : Int32) (sz : Nat) : Wr l yX11_sure cX11_sure 4 (some .int) rm_X11_sure 0 0 E (ofW E ca ra ao C a1 a2 a3 fo sc Rw Su Si md Z kk) sz [.ref (ca 0), .int v1, .int v2, .int v3] (fun v4 w1 => v4 = some (.int (s_sure nn kk net (Z 2) (Z 3) v1 v2 v3)) ∧ OFP E ca ra ao C a1 a2 a3 md Z nn kk net w1) := by
  refine mk_wr (by decide) (Nat.le_of_ble_eq_true rfl) ?_
  intro p e s m args below meth c hC hin hK A hA hP hD hS ls hl
  obtain ⟨hx, hb, hr, hts, hown, hml, hlk, hN⟩ := id hC
  have hl : lv_has ls 4 [(0, .ref (ca 0)), (1, .int v1), (2, .int v2), (3, .int v3)] := hl
  have hn4 := hc.n4; have hk12 := hc.k12; have hx3 := hc.st.lt; have hx4 := hc.nw.lt; have hp3 := hc.p3; have hp4 := hc.p4; have hcc := hc.cnt
  obtain ⟨H, hH⟩ : ∃ z, z = s.heap := ⟨_, rfl⟩
  have hS : va_S A s.heap H [] := by rw [hH]; exact hS
  rw [← hH] at hP
  refine W_heap hH ?_
  obtain ⟨locs, hlo⟩ : ∃ z : List Loc, z = [] := ⟨_, rfl⟩
  rw [← hlo] at hS ⊢
  refine lv_aload_n hx hb dX11_sure_0 rfl (lv_at hl 0 rfl) ?_
  refine lv_iload_n hx hb dX11_sure_1 rfl (lv_at hl 1 rfl) ?_
  refine cV_r (rest := []) hC (k_isPerson l E ca ra ao C nn kk net Z hc v1) kw_230 iy_X11_isPerson ⟨Nat.le_of_ble_eq_true rfl, Nat.le_of_ble_eq_true rfl⟩ ⟨rfl, rfl⟩ hK (show va_P E.1 vwCl (oW ca ra ao C) H from va_P_mem.mpr fun q9 h9 => va_P_mem.mp hP q9 (by rw [List.mem_singleton.mp h9]; exact List.mem_cons_self)) (va_recv hK hP (ci := 9) (q0 := 0) rfl rfl) rfl hl.1 rfl (Nat.le_of_ble_eq_true rfl) dX11_sure_2 ⟨Nat.le_of_ble_eq_true rfl, Nat.le_of_ble_eq_true rfl⟩ ?_
  refine b_if_eq (tgt := 24) hx hb dX11_sure_5 (by decide) (fun c_1 => ?_) (fun c_1 => ?_)
  · -- t 24
    refine lv_iconst (v := -1) hx hb dX11_sure_24 (by decide) ?_
    exact rw_i hC rfl hP hD hS (⟨by rw [s_sure, if_pos c_1], ⟨fo, sc, Rw, Su, Si, rfl, hAI⟩⟩) dX11_sure_25 (Nat.le_of_ble_eq_true rfl) (Nat.le_of_ble_eq_true rfl)
  · -- f 8
    obtain ⟨p1, hp1, rfl⟩ := isP_nat (by omega) c_1
    have hl : lv_has ls 4 [(0, .ref (ca 0)), (1, .int (nI p1)), (2, .int v2), (3, .int v3)] := hl
    refine lv_aload_n hx hb dX11_sure_8 rfl (lv_at hl 0 rfl) ?_
    refine lv_iload_n hx hb dX11_sure_9 rfl (lv_at hl 2 rfl) ?_
    refine cV_r (rest := []) hC (k_isPerson l E ca ra ao C nn kk net Z hc v2) kw_230 iy_X11_isPerson ⟨Nat.le_of_ble_eq_true rfl, Nat.le_of_ble_eq_true rfl⟩ ⟨rfl, rfl⟩ hK (show va_P E.1 vwCl (oW ca ra ao C) H from va_P_mem.mpr fun q9 h9 => va_P_mem.mp hP q9 (by rw [List.mem_singleton.mp h9]; exact List.mem_cons_self)) (va_recv hK hP (ci := 9) (q0 := 0) rfl rfl) rfl hl.1 rfl (Nat.le_of_ble_eq_true rfl) dX11_sure_10 ⟨Nat.le_of_ble_eq_true rfl, Nat.le_of_ble_eq_true rfl⟩ ?_
    refine b_if_eq (tgt := 24) hx hb dX11_sure_13 (by decide) (fun c_2 => ?_) (fun c_2 => ?_)
    · -- t 24
      refine lv_iconst (v := -1) hx hb dX11_sure_24 (by decide) ?_
      exact rw_i hC rfl hP hD hS (⟨by rw [s_sure, if_neg (by rw [nat_isP (by omega) hp1]; decide), if_pos c_2], ⟨fo, sc, Rw, Su, Si, rfl, hAI⟩⟩) dX11_sure_25 (Nat.le_of_ble_eq_true rfl) (Nat.le_of_ble_eq_true rfl)
    · -- f 16
      obtain ⟨q1, hq1, rfl⟩ := isP_nat (by omega) c_2
      have hl : lv_has ls 4 [(0, .ref (ca 0)), (1, .int (nI p1)), (2, .int (nI q1)), (3, .int v3)] := hl
      refine lv_aload_n hx hb dX11_sure_16 rfl (lv_at hl 0 rfl) ?_
      refine lv_iload_n hx hb dX11_sure_17 rfl (lv_at hl 3 rfl) ?_
      refine cV_r (rest := []) hC (k_isPerson l E ca ra ao C nn kk net Z hc v3) kw_230 iy_X11_isPerson ⟨Nat.le_of_ble_eq_true rfl, Nat.le_of_ble_eq_true rfl⟩ ⟨rfl, rfl⟩ hK (show va_P E.1 vwCl (oW ca ra ao C) H from va_P_mem.mpr fun q9 h9 => va_P_mem.mp hP q9 (by rw [List.mem_singleton.mp h9]; exact List.mem_cons_self)) (va_recv hK hP (ci := 9) (q0 := 0) rfl rfl) rfl hl.1 rfl (Nat.le_of_ble_eq_true rfl) dX11_sure_18 ⟨Nat.le_of_ble_eq_true rfl, Nat.le_of_ble_eq_true rfl⟩ ?_
      refine b_if_ne (tgt := 26) hx hb dX11_sure_21 (by decide) (fun c_3 => ?_) (fun c_3 => ?_)
      · -- t 26
        obtain ⟨s1, hs1, rfl⟩ := isP_nat (by omega) c_3
        have hl : lv_has ls 4 [(0, .ref (ca 0)), (1, .int (nI p1)), (2, .int (nI q1)), (3, .int (nI s1))] := hl
        refine lv_aload_n hx hb dX11_sure_26 rfl (lv_at hl 0 rfl) ?_
        refine va_get (D := E.1) (ci := 9) (v := .int (nI (C 2))) (C := RX11) (T := TX11) (N := 13) hx hb hts iX11 hown hK hP 0 rfl rfl 2 (by decide) (hts _ kw_106) (fun _ h9 => h9) rfl dX11_sure_27 ?_
        refine lv_iconst (v := nI 4) hx hb dX11_sure_30 (by decide) ?_
        refine n_icmp_le (tgt := 37) hx hb (by omega) (by omega) dX11_sure_31 (by decide) (fun c_4 => ?_) (fun c_4 => ?_)
        · -- t 37
          have hk4 : kk ≤ 4 := (by omega)
          refine lv_aload_n hx hb dX11_sure_37 rfl (lv_at hl 0 rfl) ?_
          refine lv_iload_n hx hb dX11_sure_38 rfl (lv_at hl 1 rfl) ?_
          refine lv_iload_n hx hb dX11_sure_39 rfl (lv_at hl 2 rfl) ?_
          refine cV_w0 (rest := []) hC (k_surelyHad l E ca ra ao C a1 a2 a3 fo sc Rw Su Si md nn kk net Z hc hmd hAI hk4 p1 q1 (by omega) (by omega) _) kw_523 iy_X11_surelyHad ⟨Nat.le_of_ble_eq_true rfl, Nat.le_of_ble_eq_true rfl⟩ ⟨rfl, rfl⟩ hK hP hD hS hA (va_recv hK hP (ci := 9) (q0 := 0) rfl rfl) rfl hl.1 rfl (Nat.le_of_ble_eq_true rfl) dX11_sure_40 ⟨Nat.le_of_ble_eq_true rfl, Nat.le_of_ble_eq_true rfl⟩ (fun v_ w_ H locs hpost hP hD hS => ?_)
          obtain ⟨rfl, fo2, sc2, Rw2, Su2, Si2, rfl, hAI2⟩ := hpost
          have f_5 := of4_lt (alA (ALf nn kk net (Z 2) (Z 3) p1) (16 ^ kk)) q1
          refine W.eq (g2 := F0 m 43 ls [.int (nI (of4 (alA (ALf nn kk net (Z 2) (Z 3) p1) (16 ^ kk)) q1))]) rfl ?_
          refine lv_iload_n hx hb dX11_sure_43 rfl (lv_at hl 3 rfl) ?_
          refine cS_p (rest := []) hC (k_contains l (of4 (alA (ALf nn kk net (Z 2) (Z 3) p1) (16 ^ kk)) q1) s1 (by omega) (by omega)) kw_261 sy_X11_contains ⟨Nat.le_of_ble_eq_true rfl, Nat.le_of_ble_eq_true rfl⟩ ⟨rfl, rfl⟩ rfl hl.1 rfl (Nat.le_of_ble_eq_true rfl) dX11_sure_44 ⟨Nat.le_of_ble_eq_true rfl, Nat.le_of_ble_eq_true rfl⟩ ?_
          refine cS_p (rest := []) hC (k_truth l ((of4 (alA (ALf nn kk net (Z 2) (Z 3) p1) (16 ^ kk)) q1).testBit s1)) kw_251 sy_X11_truth ⟨Nat.le_of_ble_eq_true rfl, Nat.le_of_ble_eq_true rfl⟩ ⟨rfl, rfl⟩ rfl hl.1 rfl (Nat.le_of_ble_eq_true rfl) dX11_sure_47 ⟨Nat.le_of_ble_eq_true rfl, Nat.le_of_ble_eq_true rfl⟩ ?_
          exact rw_i hC rfl hP hD hS (⟨by rw [s_sure, if_neg (by rw [nat_isP (by omega) hp1]; decide), if_neg (by rw [nat_isP (by omega) hq1]; decide), if_neg (by rw [nat_isP (by omega) hs1]; decide), if_neg (by omega), nI_clamp (by omega), nI_clamp (by omega), nI_clamp (by omega), tok_bit], ⟨fo2, sc2, Rw2, Su2, Si2, rfl, hAI2⟩⟩) dX11_sure_50 (Nat.le_of_ble_eq_true rfl) (Nat.le_of_ble_eq_true rfl)
        · -- f 34
          refine lv_bipush (v := -3) hx hb dX11_sure_34 (by decide) ?_
          exact rw_i hC rfl hP hD hS (⟨by rw [s_sure, if_neg (by rw [nat_isP (by omega) hp1]; decide), if_neg (by rw [nat_isP (by omega) hq1]; decide), if_neg (by rw [nat_isP (by omega) hs1]; decide), if_pos (by omega)], ⟨fo, sc, Rw, Su, Si, rfl, hAI⟩⟩) dX11_sure_36 (Nat.le_of_ble_eq_true rfl) (Nat.le_of_ble_eq_true rfl)
      · -- f 24
        refine lv_iconst (v := -1) hx hb dX11_sure_24 (by decide) ?_
        exact rw_i hC rfl hP hD hS (⟨by rw [s_sure, if_neg (by rw [nat_isP (by omega) hp1]; decide), if_neg (by rw [nat_isP (by omega) hq1]; decide), if_pos c_3], ⟨fo, sc, Rw, Su, Si, rfl, hAI⟩⟩) dX11_sure_25 (Nat.le_of_ble_eq_true rfl) (Nat.le_of_ble_eq_true rfl)

set_option maxHeartbeats 4000000 in
set_option maxRecDepth 100000 in
theorem k_known (l : Launch) (E : EE) (ca ra : Nat → Nat) (ao : Nat) (C : Nat → Nat) (a1 a2 a3 fo sc : Nat) (Rw Su Si : Nat → Nat) (md : Nat → Option Nat) (nn kk : Nat) (net : Nat → Nat) (Z : Nat → Nat → Nat) (hc : CS nn kk net Z C) (hmd : ∀ i, i < kk → md i = some (Z 0 i)) (hAI : AI nn kk net Z fo Rw Su Si) (v1 v2 : Int32) (sz : Nat) : Wr l yX11_known cX11_known 3 (some .int) rm_X11_known 0 0 E (ofW E ca ra ao C a1 a2 a3 fo sc Rw Su Si md Z kk) sz [.ref (ca 0), .int v1, .int v2] (fun v4 w1 => v4 = some (.int (s_known nn kk net (Z 2) (Z 3) v1 v2)) ∧ OFP E ca ra ao C a1 a2 a3 md Z nn kk net w1) := by
  refine mk_wr (by decide) (Nat.le_of_ble_eq_true rfl) ?_
  intro p e s m args below meth c hC hin hK A hA hP hD hS ls hl
  obtain ⟨hx, hb, hr, hts, hown, hml, hlk, hN⟩ := id hC
  have hl : lv_has ls 3 [(0, .ref (ca 0)), (1, .int v1), (2, .int v2)] := hl
  have hn4 := hc.n4; have hk12 := hc.k12; have hx3 := hc.st.lt; have hx4 := hc.nw.lt; have hp3 := hc.p3; have hp4 := hc.p4; have hcc := hc.cnt
  obtain ⟨H, hH⟩ : ∃ z, z = s.heap := ⟨_, rfl⟩
  have hS : va_S A s.heap H [] := by rw [hH]; exact hS
  rw [← hH] at hP
  refine W_heap hH ?_
  obtain ⟨locs, hlo⟩ : ∃ z : List Loc, z = [] := ⟨_, rfl⟩
  rw [← hlo] at hS ⊢
  refine lv_aload_n hx hb dX11_known_0 rfl (lv_at hl 0 rfl) ?_
  refine lv_iload_n hx hb dX11_known_1 rfl (lv_at hl 1 rfl) ?_
  refine cV_r (rest := []) hC (k_isPerson l E ca ra ao C nn kk net Z hc v1) kw_230 iy_X11_isPerson ⟨Nat.le_of_ble_eq_true rfl, Nat.le_of_ble_eq_true rfl⟩ ⟨rfl, rfl⟩ hK (show va_P E.1 vwCl (oW ca ra ao C) H from va_P_mem.mpr fun q9 h9 => va_P_mem.mp hP q9 (by rw [List.mem_singleton.mp h9]; exact List.mem_cons_self)) (va_recv hK hP (ci := 9) (q0 := 0) rfl rfl) rfl hl.1 rfl (Nat.le_of_ble_eq_true rfl) dX11_known_2 ⟨Nat.le_of_ble_eq_true rfl, Nat.le_of_ble_eq_true rfl⟩ ?_
  refine b_if_eq (tgt := 16) hx hb dX11_known_5 (by decide) (fun c_1 => ?_) (fun c_1 => ?_)
  · -- t 16
    refine lv_iconst (v := -1) hx hb dX11_known_16 (by decide) ?_
    exact rw_i hC rfl hP hD hS (⟨by rw [s_known, if_pos c_1], ⟨fo, sc, Rw, Su, Si, rfl, hAI⟩⟩) dX11_known_17 (Nat.le_of_ble_eq_true rfl) (Nat.le_of_ble_eq_true rfl)
  · -- f 8
    obtain ⟨p1, hp1, rfl⟩ := isP_nat (by omega) c_1
    have hl : lv_has ls 3 [(0, .ref (ca 0)), (1, .int (nI p1)), (2, .int v2)] := hl
    refine lv_aload_n hx hb dX11_known_8 rfl (lv_at hl 0 rfl) ?_
    refine lv_iload_n hx hb dX11_known_9 rfl (lv_at hl 2 rfl) ?_
    refine cV_r (rest := []) hC (k_isPerson l E ca ra ao C nn kk net Z hc v2) kw_230 iy_X11_isPerson ⟨Nat.le_of_ble_eq_true rfl, Nat.le_of_ble_eq_true rfl⟩ ⟨rfl, rfl⟩ hK (show va_P E.1 vwCl (oW ca ra ao C) H from va_P_mem.mpr fun q9 h9 => va_P_mem.mp hP q9 (by rw [List.mem_singleton.mp h9]; exact List.mem_cons_self)) (va_recv hK hP (ci := 9) (q0 := 0) rfl rfl) rfl hl.1 rfl (Nat.le_of_ble_eq_true rfl) dX11_known_10 ⟨Nat.le_of_ble_eq_true rfl, Nat.le_of_ble_eq_true rfl⟩ ?_
    refine b_if_ne (tgt := 18) hx hb dX11_known_13 (by decide) (fun c_2 => ?_) (fun c_2 => ?_)
    · -- t 18
      obtain ⟨q1, hq1, rfl⟩ := isP_nat (by omega) c_2
      have hl : lv_has ls 3 [(0, .ref (ca 0)), (1, .int (nI p1)), (2, .int (nI q1))] := hl
      refine lv_aload_n hx hb dX11_known_18 rfl (lv_at hl 0 rfl) ?_
      refine va_get (D := E.1) (ci := 9) (v := .int (nI (C 2))) (C := RX11) (T := TX11) (N := 13) hx hb hts iX11 hown hK hP 0 rfl rfl 2 (by decide) (hts _ kw_106) (fun _ h9 => h9) rfl dX11_known_19 ?_
      refine lv_iconst (v := nI 4) hx hb dX11_known_22 (by decide) ?_
      refine n_icmp_le (tgt := 29) hx hb (by omega) (by omega) dX11_known_23 (by decide) (fun c_3 => ?_) (fun c_3 => ?_)
      · -- t 29
        have hk4 : kk ≤ 4 := (by omega)
        refine lv_aload_n hx hb dX11_known_29 rfl (lv_at hl 0 rfl) ?_
        refine lv_iload_n hx hb dX11_known_30 rfl (lv_at hl 1 rfl) ?_
        refine lv_iload_n hx hb dX11_known_31 rfl (lv_at hl 2 rfl) ?_
        refine cV_w0 (rest := []) hC (k_surelyHad l E ca ra ao C a1 a2 a3 fo sc Rw Su Si md nn kk net Z hc hmd hAI hk4 p1 q1 (by omega) (by omega) _) kw_523 iy_X11_surelyHad ⟨Nat.le_of_ble_eq_true rfl, Nat.le_of_ble_eq_true rfl⟩ ⟨rfl, rfl⟩ hK hP hD hS hA (va_recv hK hP (ci := 9) (q0 := 0) rfl rfl) rfl hl.1 rfl (Nat.le_of_ble_eq_true rfl) dX11_known_32 ⟨Nat.le_of_ble_eq_true rfl, Nat.le_of_ble_eq_true rfl⟩ (fun v_ w_ H locs hpost hP hD hS => ?_)
        obtain ⟨rfl, fo2, sc2, Rw2, Su2, Si2, rfl, hAI2⟩ := hpost
        have f_4 := of4_lt (alA (ALf nn kk net (Z 2) (Z 3) p1) (16 ^ kk)) q1
        refine W.eq (g2 := F0 m 35 ls [.int (nI (of4 (alA (ALf nn kk net (Z 2) (Z 3) p1) (16 ^ kk)) q1))]) rfl ?_
        exact rw_i hC rfl hP hD hS (⟨by rw [s_known, if_neg (by rw [nat_isP (by omega) hp1]; decide), if_neg (by rw [nat_isP (by omega) hq1]; decide), if_neg (by omega), nI_clamp (by omega), nI_clamp (by omega)], ⟨fo2, sc2, Rw2, Su2, Si2, rfl, hAI2⟩⟩) dX11_known_35 (Nat.le_of_ble_eq_true rfl) (Nat.le_of_ble_eq_true rfl)
      · -- f 26
        refine lv_bipush (v := -3) hx hb dX11_known_26 (by decide) ?_
        exact rw_i hC rfl hP hD hS (⟨by rw [s_known, if_neg (by rw [nat_isP (by omega) hp1]; decide), if_neg (by rw [nat_isP (by omega) hq1]; decide), if_pos (by omega)], ⟨fo, sc, Rw, Su, Si, rfl, hAI⟩⟩) dX11_known_28 (Nat.le_of_ble_eq_true rfl) (Nat.le_of_ble_eq_true rfl)
    · -- f 16
      refine lv_iconst (v := -1) hx hb dX11_known_16 (by decide) ?_
      exact rw_i hC rfl hP hD hS (⟨by rw [s_known, if_neg (by rw [nat_isP (by omega) hp1]; decide), if_pos c_2], ⟨fo, sc, Rw, Su, Si, rfl, hAI⟩⟩) dX11_known_17 (Nat.le_of_ble_eq_true rfl) (Nat.le_of_ble_eq_true rfl)

set_option maxHeartbeats 4000000 in
set_option maxRecDepth 100000 in
theorem k_end (l : Launch) (E : EE) (ca ra : Nat → Nat) (ao : Nat) (C : Nat → Nat) (a1 a2 a3 fo sc : Nat) (Rw Su Si : Nat → Nat) (md : Nat → Option Nat) (nn kk : Nat) (net : Nat → Nat) (Z : Nat → Nat → Nat) (hc : CS nn kk net Z C) (hmd : ∀ i, i < kk → md i = some (Z 0 i)) (hAI : AI nn kk net Z fo Rw Su Si) (v1 : Int32) (sz : Nat) : Wr l yX11_end cX11_end 4 (some .int) rm_X11_end 0 0 E (ofW E ca ra ao C a1 a2 a3 fo sc Rw Su Si md Z kk) sz [.ref (ca 0), .int v1] (fun v4 w1 => v4 = some (.int (s_end nn kk net (Z 2) (Z 3) v1)) ∧ OFP E ca ra ao C a1 a2 a3 md Z nn kk net w1) := by
  refine mk_wr (by decide) (Nat.le_of_ble_eq_true rfl) ?_
  intro p e s m args below meth c hC hin hK A hA hP hD hS ls hl
  obtain ⟨hx, hb, hr, hts, hown, hml, hlk, hN⟩ := id hC
  have hl : lv_has ls 4 [(0, .ref (ca 0)), (1, .int v1)] := hl
  have hn4 := hc.n4; have hk12 := hc.k12; have hx3 := hc.st.lt; have hx4 := hc.nw.lt; have hp3 := hc.p3; have hp4 := hc.p4; have hcc := hc.cnt
  obtain ⟨H, hH⟩ : ∃ z, z = s.heap := ⟨_, rfl⟩
  have hS : va_S A s.heap H [] := by rw [hH]; exact hS
  rw [← hH] at hP
  refine W_heap hH ?_
  obtain ⟨locs, hlo⟩ : ∃ z : List Loc, z = [] := ⟨_, rfl⟩
  rw [← hlo] at hS ⊢
  refine lv_aload_n hx hb dX11_end_0 rfl (lv_at hl 0 rfl) ?_
  refine lv_iload_n hx hb dX11_end_1 rfl (lv_at hl 1 rfl) ?_
  refine cV_r (rest := []) hC (k_isPerson l E ca ra ao C nn kk net Z hc v1) kw_230 iy_X11_isPerson ⟨Nat.le_of_ble_eq_true rfl, Nat.le_of_ble_eq_true rfl⟩ ⟨rfl, rfl⟩ hK (show va_P E.1 vwCl (oW ca ra ao C) H from va_P_mem.mpr fun q9 h9 => va_P_mem.mp hP q9 (by rw [List.mem_singleton.mp h9]; exact List.mem_cons_self)) (va_recv hK hP (ci := 9) (q0 := 0) rfl rfl) rfl hl.1 rfl (Nat.le_of_ble_eq_true rfl) dX11_end_2 ⟨Nat.le_of_ble_eq_true rfl, Nat.le_of_ble_eq_true rfl⟩ ?_
  refine b_if_ne (tgt := 10) hx hb dX11_end_5 (by decide) (fun c_1 => ?_) (fun c_1 => ?_)
  · -- t 10
    obtain ⟨p1, hp1, rfl⟩ := isP_nat (by omega) c_1
    have hl : lv_has ls 4 [(0, .ref (ca 0)), (1, .int (nI p1))] := hl
    refine lv_aload_n hx hb dX11_end_10 rfl (lv_at hl 0 rfl) ?_
    refine va_get (D := E.1) (ci := 9) (v := .int (nI (C 2))) (C := RX11) (T := TX11) (N := 13) hx hb hts iX11 hown hK hP 0 rfl rfl 2 (by decide) (hts _ kw_106) (fun _ h9 => h9) rfl dX11_end_11 ?_
    refine lv_iconst (v := nI 4) hx hb dX11_end_14 (by decide) ?_
    refine n_icmp_le (tgt := 21) hx hb (by omega) (by omega) dX11_end_15 (by decide) (fun c_2 => ?_) (fun c_2 => ?_)
    · -- t 21
      have hk4 : kk ≤ 4 := (by omega)
      refine lv_aload_n hx hb dX11_end_21 rfl (lv_at hl 0 rfl) ?_
      refine va_get (D := E.1) (ci := 9) (v := .long (lN (C 4))) (C := RX11) (T := TX11) (N := 13) hx hb hts iX11 hown hK hP 0 rfl rfl 4 (by decide) (hts _ kw_108) (fun _ h9 => h9) rfl dX11_end_22 ?_
      refine cS_p (rest := []) hC (k_persons l (C 4) (by omega)) kw_234 sy_X5_persons ⟨Nat.le_of_ble_eq_true rfl, Nat.le_of_ble_eq_true rfl⟩ ⟨rfl, rfl⟩ rfl hl.1 rfl (Nat.le_of_ble_eq_true rfl) dX11_end_25 ⟨Nat.le_of_ble_eq_true rfl, Nat.le_of_ble_eq_true rfl⟩ ?_
      refine top_i (congrArg nI hp4) ?_
      refine lv_istore_n (lv' := [(2, .int (nI nn)), (0, .ref (ca 0)), (1, .int (nI p1))]) hx hb dX11_end_28 rfl hl (by decide) rfl (fun ls hl => ?_)
      refine lv_iconst (v := nI 0) hx hb dX11_end_29 (by decide) ?_
      refine lv_istore_n (lv' := [(3, .int (nI 0)), (2, .int (nI nn)), (0, .ref (ca 0)), (1, .int (nI p1))]) hx hb dX11_end_30 rfl hl (by decide) rfl (fun ls hl => ?_)
      have lp_3 : ∀ (n_lp_3 : Nat) (q1 fob scb : Nat) (Rwb Sub Sib : Nat → Nat) (hq1 : q1 ≤ nn) (hAIb : AI nn kk net Z fob Rwb Sub Sib) (hall : ∀ j, j < q1 → of4 (alA (ALf nn kk net (Z 2) (Z 3) p1) (16 ^ kk)) j = 1 <<< nn - 1), nn - q1 < n_lp_3 → ∀ (H : Heap) (locs : List Loc) (hP : va_P E.1 vwCl (ofW E ca ra ao C a1 a2 a3 fob scb Rwb Sub Sib md Z kk) H) (hD : va_D A (ofW E ca ra ao C a1 a2 a3 fob scb Rwb Sub Sib md Z kk)) (hS : va_S A s.heap H locs) (ls : Array Slot), lv_has ls 4 [(0, .ref (ca 0)), (1, .int (nI p1)), (2, .int (nI nn)), (3, .int (nI q1))] → W p l e rm_X11_end s m args below meth c H locs 0 0 (MQ below (wr_Q E A (fun v4 w1 => v4 = some (.int (s_end nn kk net (Z 2) (Z 3) (nI p1))) ∧ OFP E ca ra ao C a1 a2 a3 md Z nn kk net w1)) args s 0 0 A) (F0 m 31 ls []) := by
        intro n_lp_3
        induction n_lp_3 with
        | zero => intro q1 fob scb Rwb Sub Sib hq1 hAIb hall; intro hm_lp_3; exact absurd hm_lp_3 (Nat.not_lt_zero _)
        | succ n_lp_3 ih_lp_3 =>
          intro q1 fob scb Rwb Sub Sib hq1 hAIb hall hm_lp_3 H locs hP hD hS ls hl
          refine lv_iload_n hx hb dX11_end_31 rfl (lv_at hl 3 rfl) ?_
          refine lv_iload_n hx hb dX11_end_32 rfl (lv_at hl 2 rfl) ?_
          refine n_icmp_ge (tgt := 60) hx hb (by omega) (by omega) dX11_end_33 (by decide) (fun c_4 => ?_) (fun c_4 => ?_)
          · -- t 60
            refine lv_iconst (v := nI 1) hx hb dX11_end_60 (by decide) ?_
            exact rw_i hC rfl hP hD hS (⟨by rw [s_end, if_neg (by rw [nat_isP (by omega) hp1]; decide), if_neg (by omega), nI_clamp (by omega), expM, decide_eq_true (fun j h9 => hall j (by omega))]; rfl, fob, scb, Rwb, Sub, Sib, rfl, hAIb⟩) dX11_end_61 (Nat.le_of_ble_eq_true rfl) (Nat.le_of_ble_eq_true rfl)
          · -- f 36
            refine lv_aload_n hx hb dX11_end_36 rfl (lv_at hl 0 rfl) ?_
            refine lv_iload_n hx hb dX11_end_37 rfl (lv_at hl 1 rfl) ?_
            refine lv_iload_n hx hb dX11_end_38 rfl (lv_at hl 3 rfl) ?_
            refine cV_w0 (rest := []) hC (k_surelyHad l E ca ra ao C a1 a2 a3 fob scb Rwb Sub Sib md nn kk net Z hc hmd hAIb hk4 p1 q1 (by omega) (by omega) _) kw_523 iy_X11_surelyHad ⟨Nat.le_of_ble_eq_true rfl, Nat.le_of_ble_eq_true rfl⟩ ⟨rfl, rfl⟩ hK hP hD hS hA (va_recv hK hP (ci := 9) (q0 := 0) rfl rfl) rfl hl.1 rfl (Nat.le_of_ble_eq_true rfl) dX11_end_39 ⟨Nat.le_of_ble_eq_true rfl, Nat.le_of_ble_eq_true rfl⟩ (fun v_ w_ H locs hpost hP hD hS => ?_)
            obtain ⟨rfl, fo2, sc2, Rw2, Su2, Si2, rfl, hAI2⟩ := hpost
            have f_5 := of4_lt (alA (ALf nn kk net (Z 2) (Z 3) p1) (16 ^ kk)) q1
            refine W.eq (g2 := F0 m 42 ls [.int (nI (of4 (alA (ALf nn kk net (Z 2) (Z 3) p1) (16 ^ kk)) q1))]) rfl ?_
            refine lv_aload_n hx hb dX11_end_42 rfl (lv_at hl 0 rfl) ?_
            refine va_get (D := E.1) (ci := 9) (v := .long (lN (C 4))) (C := RX11) (T := TX11) (N := 13) hx hb hts iX11 hown hK hP 0 rfl rfl 4 (by decide) (hts _ kw_108) (fun _ h9 => h9) rfl dX11_end_43 ?_
            refine cS_p (rest := [.int (nI (of4 (alA (ALf nn kk net (Z 2) (Z 3) p1) (16 ^ kk)) q1))]) hC (k_everySecret l (C 4) (by omega) (by omega)) kw_542 sy_X5_everySecret ⟨Nat.le_of_ble_eq_true rfl, Nat.le_of_ble_eq_true rfl⟩ ⟨rfl, rfl⟩ rfl hl.1 rfl (Nat.le_of_ble_eq_true rfl) dX11_end_46 ⟨Nat.le_of_ble_eq_true rfl, Nat.le_of_ble_eq_true rfl⟩ ?_
            have f_6 := eS_lt (by omega : pN (C 4) ≤ 4)
            refine top_i (congrArg (fun z => nI (1 <<< z - 1)) hp4) ?_
            have hes := eS_lt hn4
            refine n_icmp_eq (tgt := 54) hx hb (by omega) (by omega) dX11_end_49 (by decide) (fun c_7 => ?_) (fun c_7 => ?_)
            · -- t 54
              refine lv_iinc (v := nI (q1 + 1)) (lv' := [(3, .int (nI (q1 + 1))), (0, .ref (ca 0)), (1, .int (nI p1)), (2, .int (nI nn))]) hx hb dX11_end_54 hl (k := 3) rfl (ii_1 _) (by decide) rfl (fun ls hl => ?_)
              refine lv_goto (tgt := 31) hx hb dX11_end_57 (by decide) ?_
              exact ih_lp_3 (q1 + 1) fo2 sc2 Rw2 Su2 Si2 (by omega) hAI2 (fun j h9 => by rcases (by omega : j < q1 ∨ j = q1) with h8 | h8; exact hall j h8; rw [h8]; exact c_7) (by omega) H locs hP hD hS ls (lv_sub hl [1, 2, 3, 0] rfl)
            · -- f 52
              refine lv_iconst (v := nI 0) hx hb dX11_end_52 (by decide) ?_
              exact rw_i hC rfl hP hD hS (⟨by rw [s_end, if_neg (by rw [nat_isP (by omega) hp1]; decide), if_neg (by omega), nI_clamp (by omega), expM, decide_eq_false (fun h9 => absurd (h9 q1 (by omega)) c_7)]; rfl, fo2, sc2, Rw2, Su2, Si2, rfl, hAI2⟩) dX11_end_53 (Nat.le_of_ble_eq_true rfl) (Nat.le_of_ble_eq_true rfl)
      exact lp_3 _ 0 fo sc Rw Su Si (Nat.zero_le _) hAI (fun j h => absurd h (by omega)) (Nat.lt_succ_self _) H locs hP hD hS ls (lv_sub hl [2, 3, 1, 0] rfl)
    · -- f 18
      refine lv_bipush (v := -3) hx hb dX11_end_18 (by decide) ?_
      exact rw_i hC rfl hP hD hS (⟨by rw [s_end, if_neg (by rw [nat_isP (by omega) hp1]; decide), if_pos (by omega)], ⟨fo, sc, Rw, Su, Si, rfl, hAI⟩⟩) dX11_end_20 (Nat.le_of_ble_eq_true rfl) (Nat.le_of_ble_eq_true rfl)
  · -- f 8
    refine lv_iconst (v := -1) hx hb dX11_end_8 (by decide) ?_
    exact rw_i hC rfl hP hD hS (⟨by rw [s_end, if_pos c_1], ⟨fo, sc, Rw, Su, Si, rfl, hAI⟩⟩) dX11_end_9 (Nat.le_of_ble_eq_true rfl) (Nat.le_of_ble_eq_true rfl)
