set_option maxHeartbeats 4000000 in
set_option maxRecDepth 100000 in
theorem k_runs (l : Launch) (E : EE) (ca ra : Nat → Nat) (ao : Nat) (C : Nat → Nat) (K : Nat → Nat) (u : Nat) (Al Gd Fw Mo : Nat → Nat) (K2 : Nat → Nat) (u2 : Nat) (nn kk : Nat) (net : Nat → Nat) (Z : Nat → Nat → Nat) (hc : CS nn kk net Z C) (hB : TBt K u) (hV : VI K Al Gd Fw Mo) (a1 a2 : Int32) (sz : Nat) : Wr l yX11_runs cX11_runs 3 (some .long) rm_X11_runs 0 0 E (orW E ca ra ao C K u Al Gd Fw Mo K2 u2) sz [.ref (ca 0), .int a1, .int a2] (fun v1 w1 => v1 = some (.long (s_runs nn kk net (Z 2) (Z 3) a1 a2)) ∧ ORP E ca ra ao C K2 u2 w1) := by
  refine mk_wr (by decide) (Nat.le_of_ble_eq_true rfl) ?_
  intro p e s m args below meth c hC hin hK A hA hP hD hS ls hl
  obtain ⟨hx, hb, hr, hts, hown, hml, hlk, hN⟩ := id hC
  have hl : lv_has ls 3 [(0, .ref (ca 0)), (1, .int a1), (2, .int a2)] := hl
  have hn4 := hc.n4; have hk12 := hc.k12; have hx3 := hc.st.lt; have hx4 := hc.nw.lt; have hp3 := hc.p3; have hp4 := hc.p4; have hcc := hc.cnt
  obtain ⟨H, hH⟩ : ∃ z, z = s.heap := ⟨_, rfl⟩
  have hS : va_S A s.heap H [] := by rw [hH]; exact hS
  rw [← hH] at hP
  refine W_heap hH ?_
  obtain ⟨locs, hlo⟩ : ∃ z : List Loc, z = [] := ⟨_, rfl⟩
  rw [← hlo] at hS ⊢
  refine lv_aload_n hx hb dX11_runs_0 rfl (lv_at hl 0 rfl) ?_
  refine lv_iload_n hx hb dX11_runs_1 rfl (lv_at hl 1 rfl) ?_
  refine cV_r (rest := []) hC (k_isRule l E ca ra ao C a1) kw_364 iy_X11_isRule ⟨Nat.le_of_ble_eq_true rfl, Nat.le_of_ble_eq_true rfl⟩ ⟨rfl, rfl⟩ hK (show va_P E.1 vwCl (oW ca ra ao C) H from va_P_mem.mpr fun q9 h9 => va_P_mem.mp hP q9 (by rw [List.mem_singleton.mp h9]; exact List.mem_cons_self)) (va_recv hK hP (ci := 9) (q0 := 0) rfl rfl) rfl hl.1 rfl (Nat.le_of_ble_eq_true rfl) dX11_runs_2 ⟨Nat.le_of_ble_eq_true rfl, Nat.le_of_ble_eq_true rfl⟩ ?_
  refine b_if_eq (tgt := 23) hx hb dX11_runs_5 (by decide) (fun c_1 => ?_) (fun c_1 => ?_)
  · -- t 23
    refine lv_ldc2 (v := lN 9223372036854775808) hx hb hown (hts _ kw_385) dX11_runs_23 ?_
    exact rw_l hC hP hD hS (⟨by rw [s_runs, if_pos c_1], ⟨K, u, Al, Gd, Fw, Mo, rfl, hB, hV⟩⟩) dX11_runs_26 (Nat.le_of_ble_eq_true rfl) (Nat.le_of_ble_eq_true rfl)
  · -- f 8
    obtain ⟨r1, hr1, rfl⟩ := isIn_nat (by decide) c_1
    have hl : lv_has ls 3 [(0, .ref (ca 0)), (1, .int (nI r1)), (2, .int a2)] := hl
    refine lv_aload_n hx hb dX11_runs_8 rfl (lv_at hl 0 rfl) ?_
    refine lv_iload_n hx hb dX11_runs_9 rfl (lv_at hl 2 rfl) ?_
    refine cV_r (rest := []) hC (k_isEither l E ca ra ao C a2) kw_377 iy_X11_isEither ⟨Nat.le_of_ble_eq_true rfl, Nat.le_of_ble_eq_true rfl⟩ ⟨rfl, rfl⟩ hK (show va_P E.1 vwCl (oW ca ra ao C) H from va_P_mem.mpr fun q9 h9 => va_P_mem.mp hP q9 (by rw [List.mem_singleton.mp h9]; exact List.mem_cons_self)) (va_recv hK hP (ci := 9) (q0 := 0) rfl rfl) rfl hl.1 rfl (Nat.le_of_ble_eq_true rfl) dX11_runs_10 ⟨Nat.le_of_ble_eq_true rfl, Nat.le_of_ble_eq_true rfl⟩ ?_
    refine b_if_eq (tgt := 23) hx hb dX11_runs_13 (by decide) (fun c_2 => ?_) (fun c_2 => ?_)
    · -- t 23
      refine lv_ldc2 (v := lN 9223372036854775808) hx hb hown (hts _ kw_385) dX11_runs_23 ?_
      exact rw_l hC hP hD hS (⟨by rw [s_runs, if_neg (by rw [nat_isIn (by decide) hr1]; decide), if_pos c_2], ⟨K, u, Al, Gd, Fw, Mo, rfl, hB, hV⟩⟩) dX11_runs_26 (Nat.le_of_ble_eq_true rfl) (Nat.le_of_ble_eq_true rfl)
    · -- f 16
      obtain ⟨w1, hw1, rfl⟩ := isIn_nat (by decide) c_2
      have hl : lv_has ls 3 [(0, .ref (ca 0)), (1, .int (nI r1)), (2, .int (nI w1))] := hl
      refine lv_aload_n hx hb dX11_runs_16 rfl (lv_at hl 0 rfl) ?_
      refine cV_r (rest := []) hC (k_noPersons l E ca ra ao C nn kk net Z hc) kw_381 iy_X11_noPersons ⟨Nat.le_of_ble_eq_true rfl, Nat.le_of_ble_eq_true rfl⟩ ⟨rfl, rfl⟩ hK (show va_P E.1 vwCl (oW ca ra ao C) H from va_P_mem.mpr fun q9 h9 => va_P_mem.mp hP q9 (by rw [List.mem_singleton.mp h9]; exact List.mem_cons_self)) (va_recv hK hP (ci := 9) (q0 := 0) rfl rfl) rfl hl.1 rfl (Nat.le_of_ble_eq_true rfl) dX11_runs_17 ⟨Nat.le_of_ble_eq_true rfl, Nat.le_of_ble_eq_true rfl⟩ ?_
      refine b_if_eq (tgt := 27) hx hb dX11_runs_20 (by decide) (fun c_3 => ?_) (fun c_3 => ?_)
      · -- t 27
        have h1 : 0 < nn := (by have := of_decide_eq_false c_3; omega)
        refine lv_iload_n hx hb dX11_runs_27 rfl (lv_at hl 2 rfl) ?_
        refine n_if_ne (tgt := 46) hx hb (by omega) dX11_runs_28 (by decide) (fun c_4 => ?_) (fun c_4 => ?_)
        · -- t 46
          refine lv_aload_n hx hb dX11_runs_46 rfl (lv_at hl 0 rfl) ?_
          refine va_get (D := E.1) (ci := 9) (v := .ref (ra 0)) (C := RX11) (T := TX11) (N := 13) hx hb hts iX11 hown hK hP 0 rfl rfl 7 (by decide) (hts _ kw_111) (fun _ h9 => h9) rfl dX11_runs_47 ?_
          refine lv_aload_n hx hb dX11_runs_50 rfl (lv_at hl 0 rfl) ?_
          refine va_get (D := E.1) (ci := 9) (v := .long (lN (C 4))) (C := RX11) (T := TX11) (N := 13) hx hb hts iX11 hown hK hP 0 rfl rfl 4 (by decide) (hts _ kw_108) (fun _ h9 => h9) rfl dX11_runs_51 ?_
          refine lv_iload_n hx hb dX11_runs_54 rfl (lv_at hl 1 rfl) ?_
          refine cV_wr (X := [oC ca ra ao C]) (Y := []) (rest := []) hC (k_good l E ra K u Al Gd Fw Mo K2 u2 nn net r1 h1 hn4 hc.nb (by omega) _ _ _ (C 4) (hc.pst h1 r1 r1) hB hV _) kw_447 iy_X6_good ⟨Nat.le_of_ble_eq_true rfl, Nat.le_of_ble_eq_true rfl⟩ ⟨rfl, rfl⟩ hK hP hD hS hA rfl (va_recv hK hP (ci := 4) (q0 := 1) rfl rfl) rfl hl.1 rfl (Nat.le_of_ble_eq_true rfl) dX11_runs_55 ⟨Nat.le_of_ble_eq_true rfl, Nat.le_of_ble_eq_true rfl⟩ (fun v_ w_ H locs hpost hP hD hS => ?_)
          obtain ⟨rfl, K1, u1, Al1, Gd1, Fw1, Mo1, rfl, hB1, hV1⟩ := hpost
          have hP : va_P E.1 vwCl (orW E ca ra ao C K1 u1 Al1 Gd1 Fw1 Mo1 K2 u2) H := hP
          have hD : va_D A (orW E ca ra ao C K1 u1 Al1 Gd1 Fw1 Mo1 K2 u2) := hD
          refine W.eq (g2 := F0 m 58 ls [.long (lN ((CN nn net r1 (stS nn (Z 2) (Z 3) kk) (tkR r1 (tokS nn 2 (Z 2) (Z 3) kk) (tokS nn 3 (Z 2) (Z 3) kk))).2.1))]) rfl ?_
          exact rw_l hC hP hD hS (⟨by rw [s_runs, if_neg (by rw [nat_isIn (by decide) hr1]; decide), if_neg (by rw [nat_isIn (by decide) hw1]; decide), if_neg (by omega : ¬ nn = 0), nI_clamp (by omega), if_neg (by omega), nI_clamp (by omega), hc.now r1 (by omega)], ⟨K1, u1, Al1, Gd1, Fw1, Mo1, rfl, hB1, hV1⟩⟩) dX11_runs_58 (Nat.le_of_ble_eq_true rfl) (Nat.le_of_ble_eq_true rfl)
        · -- f 31
          refine lv_aload_n hx hb dX11_runs_31 rfl (lv_at hl 0 rfl) ?_
          refine va_get (D := E.1) (ci := 9) (v := .ref (ra 0)) (C := RX11) (T := TX11) (N := 13) hx hb hts iX11 hown hK hP 0 rfl rfl 7 (by decide) (hts _ kw_111) (fun _ h9 => h9) rfl dX11_runs_32 ?_
          refine lv_aload_n hx hb dX11_runs_35 rfl (lv_at hl 0 rfl) ?_
          refine va_get (D := E.1) (ci := 9) (v := .long (lN (C 4))) (C := RX11) (T := TX11) (N := 13) hx hb hts iX11 hown hK hP 0 rfl rfl 4 (by decide) (hts _ kw_108) (fun _ h9 => h9) rfl dX11_runs_36 ?_
          refine lv_iload_n hx hb dX11_runs_39 rfl (lv_at hl 1 rfl) ?_
          refine cV_wr (X := [oC ca ra ao C]) (Y := []) (rest := []) hC (k_all l E ra K u Al Gd Fw Mo K2 u2 nn net r1 h1 hn4 hc.nb (by omega) _ _ _ (C 4) (hc.pst h1 r1 r1) hB hV _) kw_386 iy_X6_all ⟨Nat.le_of_ble_eq_true rfl, Nat.le_of_ble_eq_true rfl⟩ ⟨rfl, rfl⟩ hK hP hD hS hA rfl (va_recv hK hP (ci := 4) (q0 := 1) rfl rfl) rfl hl.1 rfl (Nat.le_of_ble_eq_true rfl) dX11_runs_40 ⟨Nat.le_of_ble_eq_true rfl, Nat.le_of_ble_eq_true rfl⟩ (fun v_ w_ H locs hpost hP hD hS => ?_)
          obtain ⟨rfl, K1, u1, Al1, Gd1, Fw1, Mo1, rfl, hB1, hV1⟩ := hpost
          have hP : va_P E.1 vwCl (orW E ca ra ao C K1 u1 Al1 Gd1 Fw1 Mo1 K2 u2) H := hP
          have hD : va_D A (orW E ca ra ao C K1 u1 Al1 Gd1 Fw1 Mo1 K2 u2) := hD
          refine W.eq (g2 := F0 m 43 ls [.long (lN ((CN nn net r1 (stS nn (Z 2) (Z 3) kk) (tkR r1 (tokS nn 2 (Z 2) (Z 3) kk) (tokS nn 3 (Z 2) (Z 3) kk))).1))]) rfl ?_
          refine lv_goto (tgt := 58) hx hb dX11_runs_43 (by decide) ?_
          exact rw_l hC hP hD hS (⟨by rw [s_runs, if_neg (by rw [nat_isIn (by decide) hr1]; decide), if_neg (by rw [nat_isIn (by decide) hw1]; decide), if_neg (by omega : ¬ nn = 0), nI_clamp (by omega), if_pos (by omega), nI_clamp (by omega), hc.now r1 (by omega)], ⟨K1, u1, Al1, Gd1, Fw1, Mo1, rfl, hB1, hV1⟩⟩) dX11_runs_58 (Nat.le_of_ble_eq_true rfl) (Nat.le_of_ble_eq_true rfl)
      · -- f 23
        refine lv_ldc2 (v := lN 9223372036854775808) hx hb hown (hts _ kw_385) dX11_runs_23 ?_
        exact rw_l hC hP hD hS (⟨by rw [s_runs, if_neg (by rw [nat_isIn (by decide) hr1]; decide), if_neg (by rw [nat_isIn (by decide) hw1]; decide), if_pos (of_decide_eq_true c_3)], ⟨K, u, Al, Gd, Fw, Mo, rfl, hB, hV⟩⟩) dX11_runs_26 (Nat.le_of_ble_eq_true rfl) (Nat.le_of_ble_eq_true rfl)

set_option maxHeartbeats 4000000 in
set_option maxRecDepth 100000 in
theorem k_verdict (l : Launch) (E : EE) (ca ra : Nat → Nat) (ao : Nat) (C : Nat → Nat) (K : Nat → Nat) (u : Nat) (Al Gd Fw Mo : Nat → Nat) (K2 : Nat → Nat) (u2 : Nat) (nn kk : Nat) (net : Nat → Nat) (Z : Nat → Nat → Nat) (hc : CS nn kk net Z C) (hB : TBt K u) (hV : VI K Al Gd Fw Mo) (a1 : Int32) (sz : Nat) : Wr l yX11_verdict cX11_verdict 2 (some .int) rm_X11_verdict 0 0 E (orW E ca ra ao C K u Al Gd Fw Mo K2 u2) sz [.ref (ca 0), .int a1] (fun v1 w1 => v1 = some (.int (s_verdict nn kk net (Z 2) (Z 3) a1)) ∧ ORP E ca ra ao C K2 u2 w1) := by
  refine mk_wr (by decide) (Nat.le_of_ble_eq_true rfl) ?_
  intro p e s m args below meth c hC hin hK A hA hP hD hS ls hl
  obtain ⟨hx, hb, hr, hts, hown, hml, hlk, hN⟩ := id hC
  have hl : lv_has ls 2 [(0, .ref (ca 0)), (1, .int a1)] := hl
  have hn4 := hc.n4; have hk12 := hc.k12; have hx3 := hc.st.lt; have hx4 := hc.nw.lt; have hp3 := hc.p3; have hp4 := hc.p4; have hcc := hc.cnt
  obtain ⟨H, hH⟩ : ∃ z, z = s.heap := ⟨_, rfl⟩
  have hS : va_S A s.heap H [] := by rw [hH]; exact hS
  rw [← hH] at hP
  refine W_heap hH ?_
  obtain ⟨locs, hlo⟩ : ∃ z : List Loc, z = [] := ⟨_, rfl⟩
  rw [← hlo] at hS ⊢
  refine lv_aload_n hx hb dX11_verdict_0 rfl (lv_at hl 0 rfl) ?_
  refine lv_iload_n hx hb dX11_verdict_1 rfl (lv_at hl 1 rfl) ?_
  refine cV_r (rest := []) hC (k_isRule l E ca ra ao C a1) kw_364 iy_X11_isRule ⟨Nat.le_of_ble_eq_true rfl, Nat.le_of_ble_eq_true rfl⟩ ⟨rfl, rfl⟩ hK (show va_P E.1 vwCl (oW ca ra ao C) H from va_P_mem.mpr fun q9 h9 => va_P_mem.mp hP q9 (by rw [List.mem_singleton.mp h9]; exact List.mem_cons_self)) (va_recv hK hP (ci := 9) (q0 := 0) rfl rfl) rfl hl.1 rfl (Nat.le_of_ble_eq_true rfl) dX11_verdict_2 ⟨Nat.le_of_ble_eq_true rfl, Nat.le_of_ble_eq_true rfl⟩ ?_
  refine b_if_ne (tgt := 10) hx hb dX11_verdict_5 (by decide) (fun c_1 => ?_) (fun c_1 => ?_)
  · -- t 10
    obtain ⟨r1, hr1, rfl⟩ := isIn_nat (by decide) c_1
    have hl : lv_has ls 2 [(0, .ref (ca 0)), (1, .int (nI r1))] := hl
    refine lv_aload_n hx hb dX11_verdict_10 rfl (lv_at hl 0 rfl) ?_
    refine cV_r (rest := []) hC (k_noPersons l E ca ra ao C nn kk net Z hc) kw_381 iy_X11_noPersons ⟨Nat.le_of_ble_eq_true rfl, Nat.le_of_ble_eq_true rfl⟩ ⟨rfl, rfl⟩ hK (show va_P E.1 vwCl (oW ca ra ao C) H from va_P_mem.mpr fun q9 h9 => va_P_mem.mp hP q9 (by rw [List.mem_singleton.mp h9]; exact List.mem_cons_self)) (va_recv hK hP (ci := 9) (q0 := 0) rfl rfl) rfl hl.1 rfl (Nat.le_of_ble_eq_true rfl) dX11_verdict_11 ⟨Nat.le_of_ble_eq_true rfl, Nat.le_of_ble_eq_true rfl⟩ ?_
    refine b_if_eq (tgt := 20) hx hb dX11_verdict_14 (by decide) (fun c_2 => ?_) (fun c_2 => ?_)
    · -- t 20
      have h1 : 0 < nn := (by have := of_decide_eq_false c_2; omega)
      refine lv_aload_n hx hb dX11_verdict_20 rfl (lv_at hl 0 rfl) ?_
      refine va_get (D := E.1) (ci := 9) (v := .ref (ra 0)) (C := RX11) (T := TX11) (N := 13) hx hb hts iX11 hown hK hP 0 rfl rfl 7 (by decide) (hts _ kw_111) (fun _ h9 => h9) rfl dX11_verdict_21 ?_
      refine lv_aload_n hx hb dX11_verdict_24 rfl (lv_at hl 0 rfl) ?_
      refine va_get (D := E.1) (ci := 9) (v := .long (lN (C 4))) (C := RX11) (T := TX11) (N := 13) hx hb hts iX11 hown hK hP 0 rfl rfl 4 (by decide) (hts _ kw_108) (fun _ h9 => h9) rfl dX11_verdict_25 ?_
      refine lv_iload_n hx hb dX11_verdict_28 rfl (lv_at hl 1 rfl) ?_
      refine cV_wr (X := [oC ca ra ao C]) (Y := []) (rest := []) hC (k_judge l E ra K u Al Gd Fw Mo K2 u2 nn net r1 h1 hn4 hc.nb (by omega) _ _ _ (C 4) (hc.pst h1 r1 r1) hB hV _) kw_455 iy_X6_judge ⟨Nat.le_of_ble_eq_true rfl, Nat.le_of_ble_eq_true rfl⟩ ⟨rfl, rfl⟩ hK hP hD hS hA rfl (va_recv hK hP (ci := 4) (q0 := 1) rfl rfl) rfl hl.1 rfl (Nat.le_of_ble_eq_true rfl) dX11_verdict_29 ⟨Nat.le_of_ble_eq_true rfl, Nat.le_of_ble_eq_true rfl⟩ (fun v_ w_ H locs hpost hP hD hS => ?_)
      obtain ⟨rfl, K1, u1, Al1, Gd1, Fw1, Mo1, rfl, hB1, hV1⟩ := hpost
      have hP : va_P E.1 vwCl (orW E ca ra ao C K1 u1 Al1 Gd1 Fw1 Mo1 K2 u2) H := hP
      have hD : va_D A (orW E ca ra ao C K1 u1 Al1 Gd1 Fw1 Mo1 K2 u2) := hD
      refine W.eq (g2 := F0 m 32 ls [.int (nI (verd (CN nn net r1 (stS nn (Z 2) (Z 3) kk) (tkR r1 (tokS nn 2 (Z 2) (Z 3) kk) (tokS nn 3 (Z 2) (Z 3) kk)))))]) rfl ?_
      exact rw_i hC rfl hP hD hS (⟨by rw [s_verdict, if_neg (by rw [nat_isIn (by decide) hr1]; decide), if_neg (by omega : ¬ nn = 0), nI_clamp (by omega), hc.now r1 (by omega)], ⟨K1, u1, Al1, Gd1, Fw1, Mo1, rfl, hB1, hV1⟩⟩) dX11_verdict_32 (Nat.le_of_ble_eq_true rfl) (Nat.le_of_ble_eq_true rfl)
    · -- f 17
      refine lv_bipush (v := -3) hx hb dX11_verdict_17 (by decide) ?_
      exact rw_i hC rfl hP hD hS (⟨by rw [s_verdict, if_neg (by rw [nat_isIn (by decide) hr1]; decide), if_pos (of_decide_eq_true c_2)], ⟨K, u, Al, Gd, Fw, Mo, rfl, hB, hV⟩⟩) dX11_verdict_19 (Nat.le_of_ble_eq_true rfl) (Nat.le_of_ble_eq_true rfl)
  · -- f 8
    refine lv_iconst (v := -1) hx hb dX11_verdict_8 (by decide) ?_
    exact rw_i hC rfl hP hD hS (⟨by rw [s_verdict, if_pos c_1], ⟨K, u, Al, Gd, Fw, Mo, rfl, hB, hV⟩⟩) dX11_verdict_9 (Nat.le_of_ble_eq_true rfl) (Nat.le_of_ble_eq_true rfl)

set_option maxHeartbeats 4000000 in
set_option maxRecDepth 100000 in
theorem k_calls (l : Launch) (E : EE) (ca ra : Nat → Nat) (ao : Nat) (C : Nat → Nat) (K : Nat → Nat) (u : Nat) (Al Gd Fw Mo : Nat → Nat) (K2 : Nat → Nat) (u2 : Nat) (nn kk : Nat) (net : Nat → Nat) (Z : Nat → Nat → Nat) (hc : CS nn kk net Z C) (hB : TBt K u) (hV : VI K Al Gd Fw Mo) (a1 a2 : Int32) (sz : Nat) : Wr l yX11_calls cX11_calls 3 (some .int) rm_X11_calls 0 0 E (orW E ca ra ao C K u Al Gd Fw Mo K2 u2) sz [.ref (ca 0), .int a1, .int a2] (fun v1 w1 => v1 = some (.int (s_calls nn kk net (Z 2) (Z 3) a1 a2)) ∧ ORP E ca ra ao C K2 u2 w1) := by
  refine mk_wr (by decide) (Nat.le_of_ble_eq_true rfl) ?_
  intro p e s m args below meth c hC hin hK A hA hP hD hS ls hl
  obtain ⟨hx, hb, hr, hts, hown, hml, hlk, hN⟩ := id hC
  have hl : lv_has ls 3 [(0, .ref (ca 0)), (1, .int a1), (2, .int a2)] := hl
  have hn4 := hc.n4; have hk12 := hc.k12; have hx3 := hc.st.lt; have hx4 := hc.nw.lt; have hp3 := hc.p3; have hp4 := hc.p4; have hcc := hc.cnt
  obtain ⟨H, hH⟩ : ∃ z, z = s.heap := ⟨_, rfl⟩
  have hS : va_S A s.heap H [] := by rw [hH]; exact hS
  rw [← hH] at hP
  refine W_heap hH ?_
  obtain ⟨locs, hlo⟩ : ∃ z : List Loc, z = [] := ⟨_, rfl⟩
  rw [← hlo] at hS ⊢
  refine lv_aload_n hx hb dX11_calls_0 rfl (lv_at hl 0 rfl) ?_
  refine lv_iload_n hx hb dX11_calls_1 rfl (lv_at hl 1 rfl) ?_
  refine cV_r (rest := []) hC (k_isRule l E ca ra ao C a1) kw_364 iy_X11_isRule ⟨Nat.le_of_ble_eq_true rfl, Nat.le_of_ble_eq_true rfl⟩ ⟨rfl, rfl⟩ hK (show va_P E.1 vwCl (oW ca ra ao C) H from va_P_mem.mpr fun q9 h9 => va_P_mem.mp hP q9 (by rw [List.mem_singleton.mp h9]; exact List.mem_cons_self)) (va_recv hK hP (ci := 9) (q0 := 0) rfl rfl) rfl hl.1 rfl (Nat.le_of_ble_eq_true rfl) dX11_calls_2 ⟨Nat.le_of_ble_eq_true rfl, Nat.le_of_ble_eq_true rfl⟩ ?_
  refine b_if_ne (tgt := 10) hx hb dX11_calls_5 (by decide) (fun c_1 => ?_) (fun c_1 => ?_)
  · -- t 10
    obtain ⟨r1, hr1, rfl⟩ := isIn_nat (by decide) c_1
    have hl : lv_has ls 3 [(0, .ref (ca 0)), (1, .int (nI r1)), (2, .int a2)] := hl
    refine lv_aload_n hx hb dX11_calls_10 rfl (lv_at hl 0 rfl) ?_
    refine lv_iload_n hx hb dX11_calls_11 rfl (lv_at hl 2 rfl) ?_
    refine cV_r (rest := []) hC (k_isEither l E ca ra ao C a2) kw_377 iy_X11_isEither ⟨Nat.le_of_ble_eq_true rfl, Nat.le_of_ble_eq_true rfl⟩ ⟨rfl, rfl⟩ hK (show va_P E.1 vwCl (oW ca ra ao C) H from va_P_mem.mpr fun q9 h9 => va_P_mem.mp hP q9 (by rw [List.mem_singleton.mp h9]; exact List.mem_cons_self)) (va_recv hK hP (ci := 9) (q0 := 0) rfl rfl) rfl hl.1 rfl (Nat.le_of_ble_eq_true rfl) dX11_calls_12 ⟨Nat.le_of_ble_eq_true rfl, Nat.le_of_ble_eq_true rfl⟩ ?_
    refine b_if_ne (tgt := 21) hx hb dX11_calls_15 (by decide) (fun c_2 => ?_) (fun c_2 => ?_)
    · -- t 21
      obtain ⟨w1, hw1, rfl⟩ := isIn_nat (by decide) c_2
      have hl : lv_has ls 3 [(0, .ref (ca 0)), (1, .int (nI r1)), (2, .int (nI w1))] := hl
      refine lv_aload_n hx hb dX11_calls_21 rfl (lv_at hl 0 rfl) ?_
      refine cV_r (rest := []) hC (k_noPersons l E ca ra ao C nn kk net Z hc) kw_381 iy_X11_noPersons ⟨Nat.le_of_ble_eq_true rfl, Nat.le_of_ble_eq_true rfl⟩ ⟨rfl, rfl⟩ hK (show va_P E.1 vwCl (oW ca ra ao C) H from va_P_mem.mpr fun q9 h9 => va_P_mem.mp hP q9 (by rw [List.mem_singleton.mp h9]; exact List.mem_cons_self)) (va_recv hK hP (ci := 9) (q0 := 0) rfl rfl) rfl hl.1 rfl (Nat.le_of_ble_eq_true rfl) dX11_calls_22 ⟨Nat.le_of_ble_eq_true rfl, Nat.le_of_ble_eq_true rfl⟩ ?_
      refine b_if_eq (tgt := 31) hx hb dX11_calls_25 (by decide) (fun c_3 => ?_) (fun c_3 => ?_)
      · -- t 31
        have h1 : 0 < nn := (by have := of_decide_eq_false c_3; omega)
        refine lv_iload_n hx hb dX11_calls_31 rfl (lv_at hl 2 rfl) ?_
        refine n_if_ne (tgt := 50) hx hb (by omega) dX11_calls_32 (by decide) (fun c_4 => ?_) (fun c_4 => ?_)
        · -- t 50
          refine lv_aload_n hx hb dX11_calls_50 rfl (lv_at hl 0 rfl) ?_
          refine va_get (D := E.1) (ci := 9) (v := .ref (ra 0)) (C := RX11) (T := TX11) (N := 13) hx hb hts iX11 hown hK hP 0 rfl rfl 7 (by decide) (hts _ kw_111) (fun _ h9 => h9) rfl dX11_calls_51 ?_
          refine lv_aload_n hx hb dX11_calls_54 rfl (lv_at hl 0 rfl) ?_
          refine va_get (D := E.1) (ci := 9) (v := .long (lN (C 4))) (C := RX11) (T := TX11) (N := 13) hx hb hts iX11 hown hK hP 0 rfl rfl 4 (by decide) (hts _ kw_108) (fun _ h9 => h9) rfl dX11_calls_55 ?_
          refine lv_iload_n hx hb dX11_calls_58 rfl (lv_at hl 1 rfl) ?_
          refine cV_wr (X := [oC ca ra ao C]) (Y := []) (rest := []) hC (k_most l E ra K u Al Gd Fw Mo K2 u2 nn net r1 h1 hn4 hc.nb (by omega) _ _ _ (C 4) (hc.pst h1 r1 r1) hB hV _) kw_467 iy_X6_most ⟨Nat.le_of_ble_eq_true rfl, Nat.le_of_ble_eq_true rfl⟩ ⟨rfl, rfl⟩ hK hP hD hS hA rfl (va_recv hK hP (ci := 4) (q0 := 1) rfl rfl) rfl hl.1 rfl (Nat.le_of_ble_eq_true rfl) dX11_calls_59 ⟨Nat.le_of_ble_eq_true rfl, Nat.le_of_ble_eq_true rfl⟩ (fun v_ w_ H locs hpost hP hD hS => ?_)
          obtain ⟨rfl, K1, u1, Al1, Gd1, Fw1, Mo1, rfl, hB1, hV1⟩ := hpost
          have hP : va_P E.1 vwCl (orW E ca ra ao C K1 u1 Al1 Gd1 Fw1 Mo1 K2 u2) H := hP
          have hD : va_D A (orW E ca ra ao C K1 u1 Al1 Gd1 Fw1 Mo1 K2 u2) := hD
          refine W.eq (g2 := F0 m 62 ls [.int (mosT (CN nn net r1 (stS nn (Z 2) (Z 3) kk) (tkR r1 (tokS nn 2 (Z 2) (Z 3) kk) (tokS nn 3 (Z 2) (Z 3) kk))))]) rfl ?_
          exact rw_i hC rfl hP hD hS (⟨by rw [s_calls, if_neg (by rw [nat_isIn (by decide) hr1]; decide), if_neg (by rw [nat_isIn (by decide) hw1]; decide), if_neg (by omega : ¬ nn = 0), nI_clamp (by omega), nI_clamp (by omega), hc.now r1 (by omega)]; exact congrArg (fun z => some (Value.int z)) (calls_mos (by omega)), ⟨K1, u1, Al1, Gd1, Fw1, Mo1, rfl, hB1, hV1⟩⟩) dX11_calls_62 (Nat.le_of_ble_eq_true rfl) (Nat.le_of_ble_eq_true rfl)
        · -- f 35
          refine lv_aload_n hx hb dX11_calls_35 rfl (lv_at hl 0 rfl) ?_
          refine va_get (D := E.1) (ci := 9) (v := .ref (ra 0)) (C := RX11) (T := TX11) (N := 13) hx hb hts iX11 hown hK hP 0 rfl rfl 7 (by decide) (hts _ kw_111) (fun _ h9 => h9) rfl dX11_calls_36 ?_
          refine lv_aload_n hx hb dX11_calls_39 rfl (lv_at hl 0 rfl) ?_
          refine va_get (D := E.1) (ci := 9) (v := .long (lN (C 4))) (C := RX11) (T := TX11) (N := 13) hx hb hts iX11 hown hK hP 0 rfl rfl 4 (by decide) (hts _ kw_108) (fun _ h9 => h9) rfl dX11_calls_40 ?_
          refine lv_iload_n hx hb dX11_calls_43 rfl (lv_at hl 1 rfl) ?_
          refine cV_wr (X := [oC ca ra ao C]) (Y := []) (rest := []) hC (k_fewest l E ra K u Al Gd Fw Mo K2 u2 nn net r1 h1 hn4 hc.nb (by omega) _ _ _ (C 4) (hc.pst h1 r1 r1) hB hV _) kw_463 iy_X6_fewest ⟨Nat.le_of_ble_eq_true rfl, Nat.le_of_ble_eq_true rfl⟩ ⟨rfl, rfl⟩ hK hP hD hS hA rfl (va_recv hK hP (ci := 4) (q0 := 1) rfl rfl) rfl hl.1 rfl (Nat.le_of_ble_eq_true rfl) dX11_calls_44 ⟨Nat.le_of_ble_eq_true rfl, Nat.le_of_ble_eq_true rfl⟩ (fun v_ w_ H locs hpost hP hD hS => ?_)
          obtain ⟨rfl, K1, u1, Al1, Gd1, Fw1, Mo1, rfl, hB1, hV1⟩ := hpost
          have hP : va_P E.1 vwCl (orW E ca ra ao C K1 u1 Al1 Gd1 Fw1 Mo1 K2 u2) H := hP
          have hD : va_D A (orW E ca ra ao C K1 u1 Al1 Gd1 Fw1 Mo1 K2 u2) := hD
          refine W.eq (g2 := F0 m 47 ls [.int (fewT (CN nn net r1 (stS nn (Z 2) (Z 3) kk) (tkR r1 (tokS nn 2 (Z 2) (Z 3) kk) (tokS nn 3 (Z 2) (Z 3) kk))))]) rfl ?_
          refine lv_goto (tgt := 62) hx hb dX11_calls_47 (by decide) ?_
          exact rw_i hC rfl hP hD hS (⟨by rw [s_calls, if_neg (by rw [nat_isIn (by decide) hr1]; decide), if_neg (by rw [nat_isIn (by decide) hw1]; decide), if_neg (by omega : ¬ nn = 0), nI_clamp (by omega), nI_clamp (by omega), hc.now r1 (by omega)]; exact congrArg (fun z => some (Value.int z)) (calls_few (by omega)), ⟨K1, u1, Al1, Gd1, Fw1, Mo1, rfl, hB1, hV1⟩⟩) dX11_calls_62 (Nat.le_of_ble_eq_true rfl) (Nat.le_of_ble_eq_true rfl)
      · -- f 28
        refine lv_bipush (v := -3) hx hb dX11_calls_28 (by decide) ?_
        exact rw_i hC rfl hP hD hS (⟨by rw [s_calls, if_neg (by rw [nat_isIn (by decide) hr1]; decide), if_neg (by rw [nat_isIn (by decide) hw1]; decide), if_pos (of_decide_eq_true c_3)], ⟨K, u, Al, Gd, Fw, Mo, rfl, hB, hV⟩⟩) dX11_calls_30 (Nat.le_of_ble_eq_true rfl) (Nat.le_of_ble_eq_true rfl)
    · -- f 18
      refine lv_bipush (v := -2) hx hb dX11_calls_18 (by decide) ?_
      exact rw_i hC rfl hP hD hS (⟨by rw [s_calls, if_neg (by rw [nat_isIn (by decide) hr1]; decide), if_pos c_2], ⟨K, u, Al, Gd, Fw, Mo, rfl, hB, hV⟩⟩) dX11_calls_20 (Nat.le_of_ble_eq_true rfl) (Nat.le_of_ble_eq_true rfl)
  · -- f 8
    refine lv_iconst (v := -1) hx hb dX11_calls_8 (by decide) ?_
    exact rw_i hC rfl hP hD hS (⟨by rw [s_calls, if_pos c_1], ⟨K, u, Al, Gd, Fw, Mo, rfl, hB, hV⟩⟩) dX11_calls_9 (Nat.le_of_ble_eq_true rfl) (Nat.le_of_ble_eq_true rfl)

set_option maxHeartbeats 4000000 in
set_option maxRecDepth 100000 in
theorem k_keeps (l : Launch) (E : EE) (ca ra : Nat → Nat) (ao : Nat) (C : Nat → Nat) (K : Nat → Nat) (u : Nat) (Al Gd Fw Mo : Nat → Nat) (K2 : Nat → Nat) (u2 : Nat) (nn kk : Nat) (net : Nat → Nat) (Z : Nat → Nat → Nat) (hc : CS nn kk net Z C) (hB : TBt K u) (hV : VI K Al Gd Fw Mo) (a1 a2 a3 : Int32) (sz : Nat) : Wr l yX11_keeps cX11_keeps 4 (some .int) rm_X11_keeps 0 0 E (orW E ca ra ao C K u Al Gd Fw Mo K2 u2) sz [.ref (ca 0), .int a1, .int a2, .int a3] (fun v1 w1 => v1 = some (.int (s_keeps nn kk net (Z 2) (Z 3) a1 a2 a3)) ∧ ORP E ca ra ao C K2 u2 w1) := by
  refine mk_wr (by decide) (Nat.le_of_ble_eq_true rfl) ?_
  intro p e s m args below meth c hC hin hK A hA hP hD hS ls hl
  obtain ⟨hx, hb, hr, hts, hown, hml, hlk, hN⟩ := id hC
  have hl : lv_has ls 4 [(0, .ref (ca 0)), (1, .int a1), (2, .int a2), (3, .int a3)] := hl
  have hn4 := hc.n4; have hk12 := hc.k12; have hx3 := hc.st.lt; have hx4 := hc.nw.lt; have hp3 := hc.p3; have hp4 := hc.p4; have hcc := hc.cnt
  obtain ⟨H, hH⟩ : ∃ z, z = s.heap := ⟨_, rfl⟩
  have hS : va_S A s.heap H [] := by rw [hH]; exact hS
  rw [← hH] at hP
  refine W_heap hH ?_
  obtain ⟨locs, hlo⟩ : ∃ z : List Loc, z = [] := ⟨_, rfl⟩
  rw [← hlo] at hS ⊢
  refine lv_aload_n hx hb dX11_keeps_0 rfl (lv_at hl 0 rfl) ?_
  refine lv_iload_n hx hb dX11_keeps_1 rfl (lv_at hl 1 rfl) ?_
  refine cV_r (rest := []) hC (k_isRule l E ca ra ao C a1) kw_364 iy_X11_isRule ⟨Nat.le_of_ble_eq_true rfl, Nat.le_of_ble_eq_true rfl⟩ ⟨rfl, rfl⟩ hK (show va_P E.1 vwCl (oW ca ra ao C) H from va_P_mem.mpr fun q9 h9 => va_P_mem.mp hP q9 (by rw [List.mem_singleton.mp h9]; exact List.mem_cons_self)) (va_recv hK hP (ci := 9) (q0 := 0) rfl rfl) rfl hl.1 rfl (Nat.le_of_ble_eq_true rfl) dX11_keeps_2 ⟨Nat.le_of_ble_eq_true rfl, Nat.le_of_ble_eq_true rfl⟩ ?_
  refine b_if_eq (tgt := 24) hx hb dX11_keeps_5 (by decide) (fun c_1 => ?_) (fun c_1 => ?_)
  · -- t 24
    refine lv_iconst (v := -1) hx hb dX11_keeps_24 (by decide) ?_
    exact rw_i hC rfl hP hD hS (⟨by rw [s_keeps, if_pos c_1], ⟨K, u, Al, Gd, Fw, Mo, rfl, hB, hV⟩⟩) dX11_keeps_25 (Nat.le_of_ble_eq_true rfl) (Nat.le_of_ble_eq_true rfl)
  · -- f 8
    obtain ⟨r1, hr1, rfl⟩ := isIn_nat (by decide) c_1
    have hl : lv_has ls 4 [(0, .ref (ca 0)), (1, .int (nI r1)), (2, .int a2), (3, .int a3)] := hl
    refine lv_aload_n hx hb dX11_keeps_8 rfl (lv_at hl 0 rfl) ?_
    refine lv_iload_n hx hb dX11_keeps_9 rfl (lv_at hl 2 rfl) ?_
    refine cV_r (rest := []) hC (k_isPerson l E ca ra ao C nn kk net Z hc a2) kw_230 iy_X11_isPerson ⟨Nat.le_of_ble_eq_true rfl, Nat.le_of_ble_eq_true rfl⟩ ⟨rfl, rfl⟩ hK (show va_P E.1 vwCl (oW ca ra ao C) H from va_P_mem.mpr fun q9 h9 => va_P_mem.mp hP q9 (by rw [List.mem_singleton.mp h9]; exact List.mem_cons_self)) (va_recv hK hP (ci := 9) (q0 := 0) rfl rfl) rfl hl.1 rfl (Nat.le_of_ble_eq_true rfl) dX11_keeps_10 ⟨Nat.le_of_ble_eq_true rfl, Nat.le_of_ble_eq_true rfl⟩ ?_
    refine b_if_eq (tgt := 24) hx hb dX11_keeps_13 (by decide) (fun c_2 => ?_) (fun c_2 => ?_)
    · -- t 24
      refine lv_iconst (v := -1) hx hb dX11_keeps_24 (by decide) ?_
      exact rw_i hC rfl hP hD hS (⟨by rw [s_keeps, if_neg (by rw [nat_isIn (by decide) hr1]; decide), if_pos c_2], ⟨K, u, Al, Gd, Fw, Mo, rfl, hB, hV⟩⟩) dX11_keeps_25 (Nat.le_of_ble_eq_true rfl) (Nat.le_of_ble_eq_true rfl)
    · -- f 16
      obtain ⟨p1, hp1, rfl⟩ := isP_nat (by omega) c_2
      have hl : lv_has ls 4 [(0, .ref (ca 0)), (1, .int (nI r1)), (2, .int (nI p1)), (3, .int a3)] := hl
      refine lv_aload_n hx hb dX11_keeps_16 rfl (lv_at hl 0 rfl) ?_
      refine lv_iload_n hx hb dX11_keeps_17 rfl (lv_at hl 3 rfl) ?_
      refine cV_r (rest := []) hC (k_isPerson l E ca ra ao C nn kk net Z hc a3) kw_230 iy_X11_isPerson ⟨Nat.le_of_ble_eq_true rfl, Nat.le_of_ble_eq_true rfl⟩ ⟨rfl, rfl⟩ hK (show va_P E.1 vwCl (oW ca ra ao C) H from va_P_mem.mpr fun q9 h9 => va_P_mem.mp hP q9 (by rw [List.mem_singleton.mp h9]; exact List.mem_cons_self)) (va_recv hK hP (ci := 9) (q0 := 0) rfl rfl) rfl hl.1 rfl (Nat.le_of_ble_eq_true rfl) dX11_keeps_18 ⟨Nat.le_of_ble_eq_true rfl, Nat.le_of_ble_eq_true rfl⟩ ?_
      refine b_if_ne (tgt := 26) hx hb dX11_keeps_21 (by decide) (fun c_3 => ?_) (fun c_3 => ?_)
      · -- t 26
        obtain ⟨q1, hq1, rfl⟩ := isP_nat (by omega) c_3
        have hl : lv_has ls 4 [(0, .ref (ca 0)), (1, .int (nI r1)), (2, .int (nI p1)), (3, .int (nI q1))] := hl
        refine lv_iload_n hx hb dX11_keeps_26 rfl (lv_at hl 2 rfl) ?_
        refine lv_iload_n hx hb dX11_keeps_27 rfl (lv_at hl 3 rfl) ?_
        refine n_icmp_ne (tgt := 34) hx hb (by omega) (by omega) dX11_keeps_28 (by decide) (fun c_4 => ?_) (fun c_4 => ?_)
        · -- t 34
          refine lv_aload_n hx hb dX11_keeps_34 rfl (lv_at hl 0 rfl) ?_
          refine va_get (D := E.1) (ci := 9) (v := .long (lN (C 4))) (C := RX11) (T := TX11) (N := 13) hx hb hts iX11 hown hK hP 0 rfl rfl 4 (by decide) (hts _ kw_108) (fun _ h9 => h9) rfl dX11_keeps_35 ?_
          refine lv_iload_n hx hb dX11_keeps_38 rfl (lv_at hl 1 rfl) ?_
          refine lv_iload_n hx hb dX11_keeps_39 rfl (lv_at hl 2 rfl) ?_
          refine cS_p (rest := []) hC (k_whomMay l (C 4) r1 p1 (by omega) (by omega) (by omega) (by omega)) kw_368 sy_X5_whomMay ⟨Nat.le_of_ble_eq_true rfl, Nat.le_of_ble_eq_true rfl⟩ ⟨rfl, rfl⟩ rfl hl.1 rfl (Nat.le_of_ble_eq_true rfl) dX11_keeps_40 ⟨Nat.le_of_ble_eq_true rfl, Nat.le_of_ble_eq_true rfl⟩ ?_
          have f_5 := whM_lt (by omega : pN (C 4) ≤ 4) r1 p1
          refine lv_iload_n hx hb dX11_keeps_43 rfl (lv_at hl 3 rfl) ?_
          refine cS_p (rest := []) hC (k_contains l (whM (C 4) r1 p1) q1 (by omega) (by omega)) kw_261 sy_X11_contains ⟨Nat.le_of_ble_eq_true rfl, Nat.le_of_ble_eq_true rfl⟩ ⟨rfl, rfl⟩ rfl hl.1 rfl (Nat.le_of_ble_eq_true rfl) dX11_keeps_44 ⟨Nat.le_of_ble_eq_true rfl, Nat.le_of_ble_eq_true rfl⟩ ?_
          refine b_if_ne (tgt := 53) hx hb dX11_keeps_47 (by decide) (fun c_6 => ?_) (fun c_6 => ?_)
          · -- t 53
            have hmy := (whM_may hn4 (hc.vs kk (Nat.le_refl kk)) hc.nb hc.nw (by omega) hp1 hq1).symm.trans c_6
            have hpq := may_pq hmy
            have h1 : 0 < nn := (by omega)
            have hps := Pst_ring hn4 (hc.pst h1 r1 r1) hp1 hq1 hpq
            have hx9 := hps.1.lt
            refine lv_aload_n hx hb dX11_keeps_53 rfl (lv_at hl 0 rfl) ?_
            refine va_get (D := E.1) (ci := 9) (v := .ref (ra 0)) (C := RX11) (T := TX11) (N := 13) hx hb hts iX11 hown hK hP 0 rfl rfl 7 (by decide) (hts _ kw_111) (fun _ h9 => h9) rfl dX11_keeps_54 ?_
            refine lv_aload_n hx hb dX11_keeps_57 rfl (lv_at hl 0 rfl) ?_
            refine va_get (D := E.1) (ci := 9) (v := .long (lN (C 4))) (C := RX11) (T := TX11) (N := 13) hx hb hts iX11 hown hK hP 0 rfl rfl 4 (by decide) (hts _ kw_108) (fun _ h9 => h9) rfl dX11_keeps_58 ?_
            refine lv_iload_n hx hb dX11_keeps_61 rfl (lv_at hl 2 rfl) ?_
            refine lv_iload_n hx hb dX11_keeps_62 rfl (lv_at hl 3 rfl) ?_
            refine cS_p (rest := [.ref (ra 0)]) hC (k_ring l (C 4) p1 q1 (by omega) (by omega) (by omega)) kw_268 sy_X5_ring ⟨Nat.le_of_ble_eq_true rfl, Nat.le_of_ble_eq_true rfl⟩ ⟨rfl, rfl⟩ rfl hl.1 rfl (Nat.le_of_ble_eq_true rfl) dX11_keeps_63 ⟨Nat.le_of_ble_eq_true rfl, Nat.le_of_ble_eq_true rfl⟩ ?_
            refine lv_iload_n hx hb dX11_keeps_66 rfl (lv_at hl 1 rfl) ?_
            refine cV_wr (X := [oC ca ra ao C]) (Y := []) (rest := []) hC (k_judge l E ra K u Al Gd Fw Mo K2 u2 nn net r1 h1 hn4 hc.nb (by omega) _ _ _ (rng (C 4) p1 q1) hps hB hV _) kw_455 iy_X6_judge ⟨Nat.le_of_ble_eq_true rfl, Nat.le_of_ble_eq_true rfl⟩ ⟨rfl, rfl⟩ hK hP hD hS hA rfl (va_recv hK hP (ci := 4) (q0 := 1) rfl rfl) rfl hl.1 rfl (Nat.le_of_ble_eq_true rfl) dX11_keeps_67 ⟨Nat.le_of_ble_eq_true rfl, Nat.le_of_ble_eq_true rfl⟩ (fun v_ w_ H locs hpost hP hD hS => ?_)
            obtain ⟨rfl, K1, u1, Al1, Gd1, Fw1, Mo1, rfl, hB1, hV1⟩ := hpost
            have hP : va_P E.1 vwCl (orW E ca ra ao C K1 u1 Al1 Gd1 Fw1 Mo1 K2 u2) H := hP
            have hD : va_D A (orW E ca ra ao C K1 u1 Al1 Gd1 Fw1 Mo1 K2 u2) := hD
            refine W.eq (g2 := F0 m 70 ls [.int (nI (verd (CN nn net r1 (aft (stS nn (Z 2) (Z 3) kk) p1 q1) (tkR r1 (tokA (tokS nn 2 (Z 2) (Z 3) kk) 2 p1 q1) (tokA (tokS nn 3 (Z 2) (Z 3) kk) 3 p1 q1)))))]) rfl ?_
            exact rw_i hC rfl hP hD hS (⟨by rw [s_keeps, if_neg (by rw [nat_isIn (by decide) hr1]; decide), if_neg (by rw [nat_isP (by omega) hp1]; decide), if_neg (by rw [nat_isP (by omega) hq1]; decide), nI_clamp (by omega), nI_clamp (by omega), nI_clamp (by omega), if_neg (by omega), if_neg (by rw [← hc.mayT r1 (by omega), hmy]; decide), hc.keep (by omega) hp1 hq1], ⟨K1, u1, Al1, Gd1, Fw1, Mo1, rfl, hB1, hV1⟩⟩) dX11_keeps_70 (Nat.le_of_ble_eq_true rfl) (Nat.le_of_ble_eq_true rfl)
          · -- f 50
            refine lv_bipush (v := -3) hx hb dX11_keeps_50 (by decide) ?_
            exact rw_i hC rfl hP hD hS (⟨by rw [s_keeps, if_neg (by rw [nat_isIn (by decide) hr1]; decide), if_neg (by rw [nat_isP (by omega) hp1]; decide), if_neg (by rw [nat_isP (by omega) hq1]; decide), nI_clamp (by omega), nI_clamp (by omega), nI_clamp (by omega), if_neg (by omega), if_pos (by rw [← hc.mayT r1 (by omega), ← whM_may hn4 (hc.vs kk (Nat.le_refl kk)) hc.nb hc.nw (by omega) hp1 hq1]; exact c_6)], ⟨K, u, Al, Gd, Fw, Mo, rfl, hB, hV⟩⟩) dX11_keeps_52 (Nat.le_of_ble_eq_true rfl) (Nat.le_of_ble_eq_true rfl)
        · -- f 31
          refine lv_bipush (v := -2) hx hb dX11_keeps_31 (by decide) ?_
          exact rw_i hC rfl hP hD hS (⟨by rw [s_keeps, if_neg (by rw [nat_isIn (by decide) hr1]; decide), if_neg (by rw [nat_isP (by omega) hp1]; decide), if_neg (by rw [nat_isP (by omega) hq1]; decide), if_pos (by rw [nI_clamp (by omega), nI_clamp (by omega)]; exact c_4)], ⟨K, u, Al, Gd, Fw, Mo, rfl, hB, hV⟩⟩) dX11_keeps_33 (Nat.le_of_ble_eq_true rfl) (Nat.le_of_ble_eq_true rfl)
      · -- f 24
        refine lv_iconst (v := -1) hx hb dX11_keeps_24 (by decide) ?_
        exact rw_i hC rfl hP hD hS (⟨by rw [s_keeps, if_neg (by rw [nat_isIn (by decide) hr1]; decide), if_neg (by rw [nat_isP (by omega) hp1]; decide), if_pos c_3], ⟨K, u, Al, Gd, Fw, Mo, rfl, hB, hV⟩⟩) dX11_keeps_25 (Nat.le_of_ble_eq_true rfl) (Nat.le_of_ble_eq_true rfl)

set_option maxHeartbeats 4000000 in
set_option maxRecDepth 100000 in
theorem k_best (l : Launch) (E : EE) (ca ra : Nat → Nat) (ao : Nat) (C : Nat → Nat) (K : Nat → Nat) (u : Nat) (Al Gd Fw Mo : Nat → Nat) (K2 : Nat → Nat) (u2 : Nat) (nn kk : Nat) (net : Nat → Nat) (Z : Nat → Nat → Nat) (hc : CS nn kk net Z C) (hB : TBt K u) (hV : VI K Al Gd Fw Mo) (a1 a2 : Int32) (sz : Nat) : Wr l yX11_best cX11_best 4 (some .int) rm_X11_best 0 0 E (orW E ca ra ao C K u Al Gd Fw Mo K2 u2) sz [.ref (ca 0), .int a1, .int a2] (fun v1 w1 => ∃ xx, v1 = some (.int xx) ∧ bestP nn kk net (Z 2) (Z 3) a1 a2 xx ∧ ORP E ca ra ao C K2 u2 w1) := by
  refine mk_wr (by decide) (Nat.le_of_ble_eq_true rfl) ?_
  intro p e s m args below meth c hC hin hK A hA hP hD hS ls hl
  obtain ⟨hx, hb, hr, hts, hown, hml, hlk, hN⟩ := id hC
  have hl : lv_has ls 4 [(0, .ref (ca 0)), (1, .int a1), (2, .int a2)] := hl
  have hn4 := hc.n4; have hk12 := hc.k12; have hx3 := hc.st.lt; have hx4 := hc.nw.lt; have hp3 := hc.p3; have hp4 := hc.p4; have hcc := hc.cnt
  obtain ⟨H, hH⟩ : ∃ z, z = s.heap := ⟨_, rfl⟩
  have hS : va_S A s.heap H [] := by rw [hH]; exact hS
  rw [← hH] at hP
  refine W_heap hH ?_
  obtain ⟨locs, hlo⟩ : ∃ z : List Loc, z = [] := ⟨_, rfl⟩
  rw [← hlo] at hS ⊢
  refine lv_aload_n hx hb dX11_best_0 rfl (lv_at hl 0 rfl) ?_
  refine lv_iload_n hx hb dX11_best_1 rfl (lv_at hl 1 rfl) ?_
  refine cV_r (rest := []) hC (k_isRule l E ca ra ao C a1) kw_364 iy_X11_isRule ⟨Nat.le_of_ble_eq_true rfl, Nat.le_of_ble_eq_true rfl⟩ ⟨rfl, rfl⟩ hK (show va_P E.1 vwCl (oW ca ra ao C) H from va_P_mem.mpr fun q9 h9 => va_P_mem.mp hP q9 (by rw [List.mem_singleton.mp h9]; exact List.mem_cons_self)) (va_recv hK hP (ci := 9) (q0 := 0) rfl rfl) rfl hl.1 rfl (Nat.le_of_ble_eq_true rfl) dX11_best_2 ⟨Nat.le_of_ble_eq_true rfl, Nat.le_of_ble_eq_true rfl⟩ ?_
  refine b_if_ne (tgt := 10) hx hb dX11_best_5 (by decide) (fun c_1 => ?_) (fun c_1 => ?_)
  · -- t 10
    obtain ⟨r1, hr1, rfl⟩ := isIn_nat (by decide) c_1
    have hl : lv_has ls 4 [(0, .ref (ca 0)), (1, .int (nI r1)), (2, .int a2)] := hl
    refine lv_aload_n hx hb dX11_best_10 rfl (lv_at hl 0 rfl) ?_
    refine lv_iload_n hx hb dX11_best_11 rfl (lv_at hl 2 rfl) ?_
    refine cV_r (rest := []) hC (k_isEither l E ca ra ao C a2) kw_377 iy_X11_isEither ⟨Nat.le_of_ble_eq_true rfl, Nat.le_of_ble_eq_true rfl⟩ ⟨rfl, rfl⟩ hK (show va_P E.1 vwCl (oW ca ra ao C) H from va_P_mem.mpr fun q9 h9 => va_P_mem.mp hP q9 (by rw [List.mem_singleton.mp h9]; exact List.mem_cons_self)) (va_recv hK hP (ci := 9) (q0 := 0) rfl rfl) rfl hl.1 rfl (Nat.le_of_ble_eq_true rfl) dX11_best_12 ⟨Nat.le_of_ble_eq_true rfl, Nat.le_of_ble_eq_true rfl⟩ ?_
    refine b_if_ne (tgt := 21) hx hb dX11_best_15 (by decide) (fun c_2 => ?_) (fun c_2 => ?_)
    · -- t 21
      obtain ⟨w1, hw1, rfl⟩ := isIn_nat (by decide) c_2
      have hl : lv_has ls 4 [(0, .ref (ca 0)), (1, .int (nI r1)), (2, .int (nI w1))] := hl
      refine lv_aload_n hx hb dX11_best_21 rfl (lv_at hl 0 rfl) ?_
      refine cV_r (rest := []) hC (k_noPersons l E ca ra ao C nn kk net Z hc) kw_381 iy_X11_noPersons ⟨Nat.le_of_ble_eq_true rfl, Nat.le_of_ble_eq_true rfl⟩ ⟨rfl, rfl⟩ hK (show va_P E.1 vwCl (oW ca ra ao C) H from va_P_mem.mpr fun q9 h9 => va_P_mem.mp hP q9 (by rw [List.mem_singleton.mp h9]; exact List.mem_cons_self)) (va_recv hK hP (ci := 9) (q0 := 0) rfl rfl) rfl hl.1 rfl (Nat.le_of_ble_eq_true rfl) dX11_best_22 ⟨Nat.le_of_ble_eq_true rfl, Nat.le_of_ble_eq_true rfl⟩ ?_
      refine b_if_eq (tgt := 31) hx hb dX11_best_25 (by decide) (fun c_3 => ?_) (fun c_3 => ?_)
      · -- t 31
        have h1 : 0 < nn := (by have := of_decide_eq_false c_3; omega)
        refine lv_aload_n hx hb dX11_best_31 rfl (lv_at hl 0 rfl) ?_
        refine va_get (D := E.1) (ci := 9) (v := .ref (ra 0)) (C := RX11) (T := TX11) (N := 13) hx hb hts iX11 hown hK hP 0 rfl rfl 7 (by decide) (hts _ kw_111) (fun _ h9 => h9) rfl dX11_best_32 ?_
        refine lv_aload_n hx hb dX11_best_35 rfl (lv_at hl 0 rfl) ?_
        refine va_get (D := E.1) (ci := 9) (v := .long (lN (C 4))) (C := RX11) (T := TX11) (N := 13) hx hb hts iX11 hown hK hP 0 rfl rfl 4 (by decide) (hts _ kw_108) (fun _ h9 => h9) rfl dX11_best_36 ?_
        refine lv_iload_n hx hb dX11_best_39 rfl (lv_at hl 1 rfl) ?_
        refine cV_wr (X := [oC ca ra ao C]) (Y := []) (rest := []) hC (k_bestPair l E ra K u Al Gd Fw Mo K2 u2 nn net r1 h1 hn4 hc.nb (by omega) _ _ _ (C 4) (hc.pst h1 r1 r1) hB hV _) kw_479 iy_X6_bestPair ⟨Nat.le_of_ble_eq_true rfl, Nat.le_of_ble_eq_true rfl⟩ ⟨rfl, rfl⟩ hK hP hD hS hA rfl (va_recv hK hP (ci := 4) (q0 := 1) rfl rfl) rfl hl.1 rfl (Nat.le_of_ble_eq_true rfl) dX11_best_40 ⟨Nat.le_of_ble_eq_true rfl, Nat.le_of_ble_eq_true rfl⟩ (fun v_ w_ H locs hpost hP hD hS => ?_)
        obtain ⟨xx, rfl, hbp, K1, u1, Al1, Gd1, Fw1, Mo1, rfl, hB1, hV1⟩ := hpost
        have hP : va_P E.1 vwCl (orW E ca ra ao C K1 u1 Al1 Gd1 Fw1 Mo1 K2 u2) H := hP
        have hD : va_D A (orW E ca ra ao C K1 u1 Al1 Gd1 Fw1 Mo1 K2 u2) := hD
        rcases hbp with ⟨j1, hj1, hjb, hjn, rfl⟩ | ⟨hjn, rfl⟩
        ·
          refine W.eq (g2 := F0 m 43 ls [.int (nI j1)]) rfl ?_
          refine lv_istore_n (lv' := [(3, .int (nI j1)), (0, .ref (ca 0)), (1, .int (nI r1)), (2, .int (nI w1))]) hx hb dX11_best_43 rfl hl (by decide) rfl (fun ls hl => ?_)
          refine lv_iload_n hx hb dX11_best_44 rfl (lv_at hl 0 rfl) ?_
          refine lv_bipush (v := -9) hx hb dX11_best_45 (by decide) ?_
          refine lv_icmp_ne (tgt := 53) hx hb dX11_best_47 (by decide) (fun c_4 => ?_) (fun c_4 => ?_)
          · -- t 53
            refine lv_iload_n hx hb dX11_best_53 rfl (lv_at hl 3 rfl) ?_
            refine n_if_ne (tgt := 64) hx hb (by omega) dX11_best_54 (by decide) (fun c_5 => ?_) (fun c_5 => ?_)
            · -- t 64
              refine lv_iload_n hx hb dX11_best_64 rfl (lv_at hl 0 rfl) ?_
              refine cS_p (rest := []) hC (k_rungOf l j1 ) kw_488 sy_X11_rungOf ⟨Nat.le_of_ble_eq_true rfl, Nat.le_of_ble_eq_true rfl⟩ ⟨rfl, rfl⟩ rfl hl.1 rfl (Nat.le_of_ble_eq_true rfl) dX11_best_65 ⟨Nat.le_of_ble_eq_true rfl, Nat.le_of_ble_eq_true rfl⟩ ?_
              have f_6 := (Nat.and_le_right : j1 &&& 3 ≤ 3)
              exact rw_i hC rfl hP hD hS (⟨_, rfl, by unfold bestP; rw [if_neg (by rw [nat_isIn (by decide) hr1]; decide), if_neg (by rw [nat_isIn (by decide) hw1]; decide), if_neg (by omega : ¬ nn = 0), nI_clamp (by omega), nI_clamp (by omega)]; exact best_of hn4 (hc.vs kk (Nat.le_refl kk)) (tk_of (by omega)) hj1 hjb hjn (by omega) (fun h9 => by first | rfl | exact absurd h9 (by omega)) (fun h9 => by first | rfl | exact absurd c_5 h9), ⟨K1, u1, Al1, Gd1, Fw1, Mo1, rfl, hB1, hV1⟩⟩) dX11_best_68 (Nat.le_of_ble_eq_true rfl) (Nat.le_of_ble_eq_true rfl)
            · -- f 57
              refine lv_iload_n hx hb dX11_best_57 rfl (lv_at hl 0 rfl) ?_
              refine cS_p (rest := []) hC (k_ringerOf l j1 (by omega)) kw_485 sy_X11_ringerOf ⟨Nat.le_of_ble_eq_true rfl, Nat.le_of_ble_eq_true rfl⟩ ⟨rfl, rfl⟩ rfl hl.1 rfl (Nat.le_of_ble_eq_true rfl) dX11_best_58 ⟨Nat.le_of_ble_eq_true rfl, Nat.le_of_ble_eq_true rfl⟩ ?_
              have f_7 := shr_le j1 2
              refine lv_goto (tgt := 68) hx hb dX11_best_61 (by decide) ?_
              exact rw_i hC rfl hP hD hS (⟨_, rfl, by unfold bestP; rw [if_neg (by rw [nat_isIn (by decide) hr1]; decide), if_neg (by rw [nat_isIn (by decide) hw1]; decide), if_neg (by omega : ¬ nn = 0), nI_clamp (by omega), nI_clamp (by omega)]; exact best_of hn4 (hc.vs kk (Nat.le_refl kk)) (tk_of (by omega)) hj1 hjb hjn (by omega) (fun h9 => by first | rfl | exact absurd h9 (by omega)) (fun h9 => by first | rfl | exact absurd c_5 h9), ⟨K1, u1, Al1, Gd1, Fw1, Mo1, rfl, hB1, hV1⟩⟩) dX11_best_68 (Nat.le_of_ble_eq_true rfl) (Nat.le_of_ble_eq_true rfl)
          · -- f 50
            exact absurd c_4 (nI_m9 (by omega))
        ·
          refine W.eq (g2 := F0 m 43 ls [.int (-9)]) rfl ?_
          refine lv_istore_n (lv' := [(3, .int (-9)), (0, .ref (ca 0)), (1, .int (nI r1)), (2, .int (nI w1))]) hx hb dX11_best_43 rfl hl (by decide) rfl (fun ls hl => ?_)
          refine lv_iload_n hx hb dX11_best_44 rfl (lv_at hl 0 rfl) ?_
          refine lv_bipush (v := -9) hx hb dX11_best_45 (by decide) ?_
          refine lv_icmp_ne (tgt := 53) hx hb dX11_best_47 (by decide) (fun c_8 => ?_) (fun c_8 => ?_)
          · -- t 53
            exact absurd rfl c_8
          · -- f 50
            refine lv_bipush (v := -9) hx hb dX11_best_50 (by decide) ?_
            exact rw_i hC rfl hP hD hS (⟨_, rfl, by unfold bestP; rw [if_neg (by rw [nat_isIn (by decide) hr1]; decide), if_neg (by rw [nat_isIn (by decide) hw1]; decide), if_neg (by omega : ¬ nn = 0), nI_clamp (by omega), nI_clamp (by omega)]; exact Or.inr ⟨fun i hi => by rw [← best_tk hn4 (hc.vs kk (Nat.le_refl kk)) (tk_of (by omega))]; exact hjn i hi, rfl⟩, ⟨K1, u1, Al1, Gd1, Fw1, Mo1, rfl, hB1, hV1⟩⟩) dX11_best_52 (Nat.le_of_ble_eq_true rfl) (Nat.le_of_ble_eq_true rfl)
      · -- f 28
        refine lv_bipush (v := -3) hx hb dX11_best_28 (by decide) ?_
        exact rw_i hC rfl hP hD hS (⟨_, rfl, by unfold bestP; rw [if_neg (by rw [nat_isIn (by decide) hr1]; decide), if_neg (by rw [nat_isIn (by decide) hw1]; decide), if_pos (of_decide_eq_true c_3)], ⟨K, u, Al, Gd, Fw, Mo, rfl, hB, hV⟩⟩) dX11_best_30 (Nat.le_of_ble_eq_true rfl) (Nat.le_of_ble_eq_true rfl)
    · -- f 18
      refine lv_bipush (v := -2) hx hb dX11_best_18 (by decide) ?_
      exact rw_i hC rfl hP hD hS (⟨_, rfl, by unfold bestP; rw [if_neg (by rw [nat_isIn (by decide) hr1]; decide), if_pos c_2], ⟨K, u, Al, Gd, Fw, Mo, rfl, hB, hV⟩⟩) dX11_best_20 (Nat.le_of_ble_eq_true rfl) (Nat.le_of_ble_eq_true rfl)
  · -- f 8
    refine lv_iconst (v := -1) hx hb dX11_best_8 (by decide) ?_
    exact rw_i hC rfl hP hD hS (⟨_, rfl, by unfold bestP; rw [if_pos c_1], ⟨K, u, Al, Gd, Fw, Mo, rfl, hB, hV⟩⟩) dX11_best_9 (Nat.le_of_ble_eq_true rfl) (Nat.le_of_ble_eq_true rfl)

set_option maxHeartbeats 4000000 in
set_option maxRecDepth 100000 in
theorem k_within (l : Launch) (E : EE) (ca ra : Nat → Nat) (ao : Nat) (C : Nat → Nat) (K : Nat → Nat) (u : Nat) (Al Gd Fw Mo : Nat → Nat) (K2 : Nat → Nat) (u2 : Nat) (nn kk : Nat) (net : Nat → Nat) (Z : Nat → Nat → Nat) (hc : CS nn kk net Z C) (hB2 : TBt K2 u2) (hW2 : WI K2) (a1 a2 : Int32) (sz : Nat) : Wr l yX11_within cX11_within 3 (some .int) rm_X11_within 0 0 E (orW E ca ra ao C K u Al Gd Fw Mo K2 u2) sz [.ref (ca 0), .int a1, .int a2] (fun v1 w1 => v1 = some (.int (s_within nn kk net (Z 2) (Z 3) a1 a2)) ∧ ∃ (K3 : Nat → Nat) (u3 : Nat), w1 = orW E ca ra ao C K u Al Gd Fw Mo K3 u3 ∧ TBt K3 u3 ∧ WI K3) := by
  refine mk_wr (by decide) (Nat.le_of_ble_eq_true rfl) ?_
  intro p e s m args below meth c hC hin hK A hA hP hD hS ls hl
  obtain ⟨hx, hb, hr, hts, hown, hml, hlk, hN⟩ := id hC
  have hl : lv_has ls 3 [(0, .ref (ca 0)), (1, .int a1), (2, .int a2)] := hl
  have hn4 := hc.n4; have hk12 := hc.k12; have hx3 := hc.st.lt; have hx4 := hc.nw.lt; have hp3 := hc.p3; have hp4 := hc.p4; have hcc := hc.cnt
  obtain ⟨H, hH⟩ : ∃ z, z = s.heap := ⟨_, rfl⟩
  have hS : va_S A s.heap H [] := by rw [hH]; exact hS
  rw [← hH] at hP
  refine W_heap hH ?_
  obtain ⟨locs, hlo⟩ : ∃ z : List Loc, z = [] := ⟨_, rfl⟩
  rw [← hlo] at hS ⊢
  refine lv_aload_n hx hb dX11_within_0 rfl (lv_at hl 0 rfl) ?_
  refine lv_iload_n hx hb dX11_within_1 rfl (lv_at hl 1 rfl) ?_
  refine cV_r (rest := []) hC (k_isRule l E ca ra ao C a1) kw_364 iy_X11_isRule ⟨Nat.le_of_ble_eq_true rfl, Nat.le_of_ble_eq_true rfl⟩ ⟨rfl, rfl⟩ hK (show va_P E.1 vwCl (oW ca ra ao C) H from va_P_mem.mpr fun q9 h9 => va_P_mem.mp hP q9 (by rw [List.mem_singleton.mp h9]; exact List.mem_cons_self)) (va_recv hK hP (ci := 9) (q0 := 0) rfl rfl) rfl hl.1 rfl (Nat.le_of_ble_eq_true rfl) dX11_within_2 ⟨Nat.le_of_ble_eq_true rfl, Nat.le_of_ble_eq_true rfl⟩ ?_
  refine b_if_eq (tgt := 16) hx hb dX11_within_5 (by decide) (fun c_1 => ?_) (fun c_1 => ?_)
  · -- t 16
    refine lv_iconst (v := -1) hx hb dX11_within_16 (by decide) ?_
    exact rw_i hC rfl hP hD hS (⟨by rw [s_within, if_pos c_1], K2, u2, rfl, hB2, hW2⟩) dX11_within_17 (Nat.le_of_ble_eq_true rfl) (Nat.le_of_ble_eq_true rfl)
  · -- f 8
    obtain ⟨r1, hr1, rfl⟩ := isIn_nat (by decide) c_1
    have hl : lv_has ls 3 [(0, .ref (ca 0)), (1, .int (nI r1)), (2, .int a2)] := hl
    refine lv_aload_n hx hb dX11_within_8 rfl (lv_at hl 0 rfl) ?_
    refine lv_iload_n hx hb dX11_within_9 rfl (lv_at hl 2 rfl) ?_
    refine cV_r (rest := []) hC (k_isRule l E ca ra ao C a2) kw_364 iy_X11_isRule ⟨Nat.le_of_ble_eq_true rfl, Nat.le_of_ble_eq_true rfl⟩ ⟨rfl, rfl⟩ hK (show va_P E.1 vwCl (oW ca ra ao C) H from va_P_mem.mpr fun q9 h9 => va_P_mem.mp hP q9 (by rw [List.mem_singleton.mp h9]; exact List.mem_cons_self)) (va_recv hK hP (ci := 9) (q0 := 0) rfl rfl) rfl hl.1 rfl (Nat.le_of_ble_eq_true rfl) dX11_within_10 ⟨Nat.le_of_ble_eq_true rfl, Nat.le_of_ble_eq_true rfl⟩ ?_
    refine b_if_ne (tgt := 18) hx hb dX11_within_13 (by decide) (fun c_2 => ?_) (fun c_2 => ?_)
    · -- t 18
      obtain ⟨o1, ho1, rfl⟩ := isIn_nat (by decide) c_2
      have hl : lv_has ls 3 [(0, .ref (ca 0)), (1, .int (nI r1)), (2, .int (nI o1))] := hl
      refine lv_iload_n hx hb dX11_within_18 rfl (lv_at hl 1 rfl) ?_
      refine lv_iconst (v := nI 2) hx hb dX11_within_19 (by decide) ?_
      refine n_icmp_ne (tgt := 28) hx hb (by omega) (by omega) dX11_within_20 (by decide) (fun c_3 => ?_) (fun c_3 => ?_)
      · -- t 28
        refine lv_iload_n hx hb dX11_within_28 rfl (lv_at hl 1 rfl) ?_
        refine lv_iconst (v := nI 3) hx hb dX11_within_29 (by decide) ?_
        refine n_icmp_ne (tgt := 41) hx hb (by omega) (by omega) dX11_within_30 (by decide) (fun c_4 => ?_) (fun c_4 => ?_)
        · -- t 41
          refine lv_aload_n hx hb dX11_within_41 rfl (lv_at hl 0 rfl) ?_
          refine cV_r (rest := []) hC (k_noPersons l E ca ra ao C nn kk net Z hc) kw_381 iy_X11_noPersons ⟨Nat.le_of_ble_eq_true rfl, Nat.le_of_ble_eq_true rfl⟩ ⟨rfl, rfl⟩ hK (show va_P E.1 vwCl (oW ca ra ao C) H from va_P_mem.mpr fun q9 h9 => va_P_mem.mp hP q9 (by rw [List.mem_singleton.mp h9]; exact List.mem_cons_self)) (va_recv hK hP (ci := 9) (q0 := 0) rfl rfl) rfl hl.1 rfl (Nat.le_of_ble_eq_true rfl) dX11_within_42 ⟨Nat.le_of_ble_eq_true rfl, Nat.le_of_ble_eq_true rfl⟩ ?_
          refine b_if_eq (tgt := 51) hx hb dX11_within_45 (by decide) (fun c_5 => ?_) (fun c_5 => ?_)
          · -- t 51
            have h1 : 0 < nn := (by have := of_decide_eq_false c_5; omega)
            have hmx : mixR r1 o1 := (by unfold mixR; omega)
            refine lv_aload_n hx hb dX11_within_51 rfl (lv_at hl 0 rfl) ?_
            refine va_get (D := E.1) (ci := 9) (v := .ref (ra 0)) (C := RX11) (T := TX11) (N := 13) hx hb hts iX11 hown hK hP 0 rfl rfl 7 (by decide) (hts _ kw_111) (fun _ h9 => h9) rfl dX11_within_52 ?_
            refine lv_aload_n hx hb dX11_within_55 rfl (lv_at hl 0 rfl) ?_
            refine va_get (D := E.1) (ci := 9) (v := .long (lN (C 4))) (C := RX11) (T := TX11) (N := 13) hx hb hts iX11 hown hK hP 0 rfl rfl 4 (by decide) (hts _ kw_108) (fun _ h9 => h9) rfl dX11_within_56 ?_
            refine lv_iload_n hx hb dX11_within_59 rfl (lv_at hl 1 rfl) ?_
            refine lv_iload_n hx hb dX11_within_60 rfl (lv_at hl 2 rfl) ?_
            refine cV_wr (X := [oC ca ra ao C]) (Y := []) (rest := []) hC (k_areWithin l E ra nn net r1 o1 h1 hn4 hc.nb (by omega) (by omega) hmx _ _ _ (C 4) K u Al Gd Fw Mo K2 u2 _ (hc.pst h1 r1 o1) hB2 hW2) kw_606 iy_X6_areWithin ⟨Nat.le_of_ble_eq_true rfl, Nat.le_of_ble_eq_true rfl⟩ ⟨rfl, rfl⟩ hK hP hD hS hA rfl (va_recv hK hP (ci := 4) (q0 := 1) rfl rfl) rfl hl.1 rfl (Nat.le_of_ble_eq_true rfl) dX11_within_61 ⟨Nat.le_of_ble_eq_true rfl, Nat.le_of_ble_eq_true rfl⟩ (fun v_ w_ H locs hpost hP hD hS => ?_)
            obtain ⟨rfl, K3, u3, rfl, hB3, hW3⟩ := hpost
            have hP : va_P E.1 vwCl (orW E ca ra ao C K u Al Gd Fw Mo K3 u3) H := hP
            have hD : va_D A (orW E ca ra ao C K u Al Gd Fw Mo K3 u3) := hD
            refine W.eq (g2 := F0 m 64 ls [.int (bI (WP nn net r1 o1 (stS nn (Z 2) (Z 3) kk) (tokS nn 2 (Z 2) (Z 3) kk) (tokS nn 3 (Z 2) (Z 3) kk)))]) rfl ?_
            refine cS_p (rest := []) hC (k_truth l (WP nn net r1 o1 (stS nn (Z 2) (Z 3) kk) (tokS nn 2 (Z 2) (Z 3) kk) (tokS nn 3 (Z 2) (Z 3) kk))) kw_251 sy_X11_truth ⟨Nat.le_of_ble_eq_true rfl, Nat.le_of_ble_eq_true rfl⟩ ⟨rfl, rfl⟩ rfl hl.1 rfl (Nat.le_of_ble_eq_true rfl) dX11_within_64 ⟨Nat.le_of_ble_eq_true rfl, Nat.le_of_ble_eq_true rfl⟩ ?_
            exact rw_i hC rfl hP hD hS (⟨by rw [s_within, if_neg (by rw [nat_isIn (by decide) hr1]; decide), if_neg (by rw [nat_isIn (by decide) ho1]; decide), nI_clamp (by omega), nI_clamp (by omega), if_neg (by unfold mixR at hmx; omega), if_neg (by omega : ¬ nn = 0), hc.within (by omega) (by omega) hmx], K3, u3, rfl, hB3, hW3⟩) dX11_within_67 (Nat.le_of_ble_eq_true rfl) (Nat.le_of_ble_eq_true rfl)
          · -- f 48
            refine lv_bipush (v := -3) hx hb dX11_within_48 (by decide) ?_
            exact rw_i hC rfl hP hD hS (⟨by rw [s_within, if_neg (by rw [nat_isIn (by decide) hr1]; decide), if_neg (by rw [nat_isIn (by decide) ho1]; decide), nI_clamp (by omega), nI_clamp (by omega), if_neg (by omega), if_pos (of_decide_eq_true c_5)], K2, u2, rfl, hB2, hW2⟩) dX11_within_50 (Nat.le_of_ble_eq_true rfl) (Nat.le_of_ble_eq_true rfl)
        · -- f 33
          refine lv_iload_n hx hb dX11_within_33 rfl (lv_at hl 2 rfl) ?_
          refine lv_iconst (v := nI 2) hx hb dX11_within_34 (by decide) ?_
          refine n_icmp_ne (tgt := 41) hx hb (by omega) (by omega) dX11_within_35 (by decide) (fun c_6 => ?_) (fun c_6 => ?_)
          · -- t 41
            refine lv_aload_n hx hb dX11_within_41 rfl (lv_at hl 0 rfl) ?_
            refine cV_r (rest := []) hC (k_noPersons l E ca ra ao C nn kk net Z hc) kw_381 iy_X11_noPersons ⟨Nat.le_of_ble_eq_true rfl, Nat.le_of_ble_eq_true rfl⟩ ⟨rfl, rfl⟩ hK (show va_P E.1 vwCl (oW ca ra ao C) H from va_P_mem.mpr fun q9 h9 => va_P_mem.mp hP q9 (by rw [List.mem_singleton.mp h9]; exact List.mem_cons_self)) (va_recv hK hP (ci := 9) (q0 := 0) rfl rfl) rfl hl.1 rfl (Nat.le_of_ble_eq_true rfl) dX11_within_42 ⟨Nat.le_of_ble_eq_true rfl, Nat.le_of_ble_eq_true rfl⟩ ?_
            refine b_if_eq (tgt := 51) hx hb dX11_within_45 (by decide) (fun c_7 => ?_) (fun c_7 => ?_)
            · -- t 51
              have h1 : 0 < nn := (by have := of_decide_eq_false c_7; omega)
              have hmx : mixR r1 o1 := (by unfold mixR; omega)
              refine lv_aload_n hx hb dX11_within_51 rfl (lv_at hl 0 rfl) ?_
              refine va_get (D := E.1) (ci := 9) (v := .ref (ra 0)) (C := RX11) (T := TX11) (N := 13) hx hb hts iX11 hown hK hP 0 rfl rfl 7 (by decide) (hts _ kw_111) (fun _ h9 => h9) rfl dX11_within_52 ?_
              refine lv_aload_n hx hb dX11_within_55 rfl (lv_at hl 0 rfl) ?_
              refine va_get (D := E.1) (ci := 9) (v := .long (lN (C 4))) (C := RX11) (T := TX11) (N := 13) hx hb hts iX11 hown hK hP 0 rfl rfl 4 (by decide) (hts _ kw_108) (fun _ h9 => h9) rfl dX11_within_56 ?_
              refine lv_iload_n hx hb dX11_within_59 rfl (lv_at hl 1 rfl) ?_
              refine lv_iload_n hx hb dX11_within_60 rfl (lv_at hl 2 rfl) ?_
              refine cV_wr (X := [oC ca ra ao C]) (Y := []) (rest := []) hC (k_areWithin l E ra nn net r1 o1 h1 hn4 hc.nb (by omega) (by omega) hmx _ _ _ (C 4) K u Al Gd Fw Mo K2 u2 _ (hc.pst h1 r1 o1) hB2 hW2) kw_606 iy_X6_areWithin ⟨Nat.le_of_ble_eq_true rfl, Nat.le_of_ble_eq_true rfl⟩ ⟨rfl, rfl⟩ hK hP hD hS hA rfl (va_recv hK hP (ci := 4) (q0 := 1) rfl rfl) rfl hl.1 rfl (Nat.le_of_ble_eq_true rfl) dX11_within_61 ⟨Nat.le_of_ble_eq_true rfl, Nat.le_of_ble_eq_true rfl⟩ (fun v_ w_ H locs hpost hP hD hS => ?_)
              obtain ⟨rfl, K3, u3, rfl, hB3, hW3⟩ := hpost
              have hP : va_P E.1 vwCl (orW E ca ra ao C K u Al Gd Fw Mo K3 u3) H := hP
              have hD : va_D A (orW E ca ra ao C K u Al Gd Fw Mo K3 u3) := hD
              refine W.eq (g2 := F0 m 64 ls [.int (bI (WP nn net r1 o1 (stS nn (Z 2) (Z 3) kk) (tokS nn 2 (Z 2) (Z 3) kk) (tokS nn 3 (Z 2) (Z 3) kk)))]) rfl ?_
              refine cS_p (rest := []) hC (k_truth l (WP nn net r1 o1 (stS nn (Z 2) (Z 3) kk) (tokS nn 2 (Z 2) (Z 3) kk) (tokS nn 3 (Z 2) (Z 3) kk))) kw_251 sy_X11_truth ⟨Nat.le_of_ble_eq_true rfl, Nat.le_of_ble_eq_true rfl⟩ ⟨rfl, rfl⟩ rfl hl.1 rfl (Nat.le_of_ble_eq_true rfl) dX11_within_64 ⟨Nat.le_of_ble_eq_true rfl, Nat.le_of_ble_eq_true rfl⟩ ?_
              exact rw_i hC rfl hP hD hS (⟨by rw [s_within, if_neg (by rw [nat_isIn (by decide) hr1]; decide), if_neg (by rw [nat_isIn (by decide) ho1]; decide), nI_clamp (by omega), nI_clamp (by omega), if_neg (by unfold mixR at hmx; omega), if_neg (by omega : ¬ nn = 0), hc.within (by omega) (by omega) hmx], K3, u3, rfl, hB3, hW3⟩) dX11_within_67 (Nat.le_of_ble_eq_true rfl) (Nat.le_of_ble_eq_true rfl)
            · -- f 48
              refine lv_bipush (v := -3) hx hb dX11_within_48 (by decide) ?_
              exact rw_i hC rfl hP hD hS (⟨by rw [s_within, if_neg (by rw [nat_isIn (by decide) hr1]; decide), if_neg (by rw [nat_isIn (by decide) ho1]; decide), nI_clamp (by omega), nI_clamp (by omega), if_neg (by omega), if_pos (of_decide_eq_true c_7)], K2, u2, rfl, hB2, hW2⟩) dX11_within_50 (Nat.le_of_ble_eq_true rfl) (Nat.le_of_ble_eq_true rfl)
          · -- f 38
            refine lv_bipush (v := -2) hx hb dX11_within_38 (by decide) ?_
            exact rw_i hC rfl hP hD hS (⟨by rw [s_within, if_neg (by rw [nat_isIn (by decide) hr1]; decide), if_neg (by rw [nat_isIn (by decide) ho1]; decide), nI_clamp (by omega), nI_clamp (by omega), if_pos (by omega)], K2, u2, rfl, hB2, hW2⟩) dX11_within_40 (Nat.le_of_ble_eq_true rfl) (Nat.le_of_ble_eq_true rfl)
      · -- f 23
        refine lv_iload_n hx hb dX11_within_23 rfl (lv_at hl 2 rfl) ?_
        refine lv_iconst (v := nI 3) hx hb dX11_within_24 (by decide) ?_
        refine n_icmp_eq (tgt := 38) hx hb (by omega) (by omega) dX11_within_25 (by decide) (fun c_8 => ?_) (fun c_8 => ?_)
        · -- t 38
          refine lv_bipush (v := -2) hx hb dX11_within_38 (by decide) ?_
          exact rw_i hC rfl hP hD hS (⟨by rw [s_within, if_neg (by rw [nat_isIn (by decide) hr1]; decide), if_neg (by rw [nat_isIn (by decide) ho1]; decide), nI_clamp (by omega), nI_clamp (by omega), if_pos (by omega)], K2, u2, rfl, hB2, hW2⟩) dX11_within_40 (Nat.le_of_ble_eq_true rfl) (Nat.le_of_ble_eq_true rfl)
        · -- f 28
          refine lv_iload_n hx hb dX11_within_28 rfl (lv_at hl 1 rfl) ?_
          refine lv_iconst (v := nI 3) hx hb dX11_within_29 (by decide) ?_
          refine n_icmp_ne (tgt := 41) hx hb (by omega) (by omega) dX11_within_30 (by decide) (fun c_9 => ?_) (fun c_9 => ?_)
          · -- t 41
            refine lv_aload_n hx hb dX11_within_41 rfl (lv_at hl 0 rfl) ?_
            refine cV_r (rest := []) hC (k_noPersons l E ca ra ao C nn kk net Z hc) kw_381 iy_X11_noPersons ⟨Nat.le_of_ble_eq_true rfl, Nat.le_of_ble_eq_true rfl⟩ ⟨rfl, rfl⟩ hK (show va_P E.1 vwCl (oW ca ra ao C) H from va_P_mem.mpr fun q9 h9 => va_P_mem.mp hP q9 (by rw [List.mem_singleton.mp h9]; exact List.mem_cons_self)) (va_recv hK hP (ci := 9) (q0 := 0) rfl rfl) rfl hl.1 rfl (Nat.le_of_ble_eq_true rfl) dX11_within_42 ⟨Nat.le_of_ble_eq_true rfl, Nat.le_of_ble_eq_true rfl⟩ ?_
            refine b_if_eq (tgt := 51) hx hb dX11_within_45 (by decide) (fun c_10 => ?_) (fun c_10 => ?_)
            · -- t 51
              have h1 : 0 < nn := (by have := of_decide_eq_false c_10; omega)
              have hmx : mixR r1 o1 := (by unfold mixR; omega)
              refine lv_aload_n hx hb dX11_within_51 rfl (lv_at hl 0 rfl) ?_
              refine va_get (D := E.1) (ci := 9) (v := .ref (ra 0)) (C := RX11) (T := TX11) (N := 13) hx hb hts iX11 hown hK hP 0 rfl rfl 7 (by decide) (hts _ kw_111) (fun _ h9 => h9) rfl dX11_within_52 ?_
              refine lv_aload_n hx hb dX11_within_55 rfl (lv_at hl 0 rfl) ?_
              refine va_get (D := E.1) (ci := 9) (v := .long (lN (C 4))) (C := RX11) (T := TX11) (N := 13) hx hb hts iX11 hown hK hP 0 rfl rfl 4 (by decide) (hts _ kw_108) (fun _ h9 => h9) rfl dX11_within_56 ?_
              refine lv_iload_n hx hb dX11_within_59 rfl (lv_at hl 1 rfl) ?_
              refine lv_iload_n hx hb dX11_within_60 rfl (lv_at hl 2 rfl) ?_
              refine cV_wr (X := [oC ca ra ao C]) (Y := []) (rest := []) hC (k_areWithin l E ra nn net r1 o1 h1 hn4 hc.nb (by omega) (by omega) hmx _ _ _ (C 4) K u Al Gd Fw Mo K2 u2 _ (hc.pst h1 r1 o1) hB2 hW2) kw_606 iy_X6_areWithin ⟨Nat.le_of_ble_eq_true rfl, Nat.le_of_ble_eq_true rfl⟩ ⟨rfl, rfl⟩ hK hP hD hS hA rfl (va_recv hK hP (ci := 4) (q0 := 1) rfl rfl) rfl hl.1 rfl (Nat.le_of_ble_eq_true rfl) dX11_within_61 ⟨Nat.le_of_ble_eq_true rfl, Nat.le_of_ble_eq_true rfl⟩ (fun v_ w_ H locs hpost hP hD hS => ?_)
              obtain ⟨rfl, K3, u3, rfl, hB3, hW3⟩ := hpost
              have hP : va_P E.1 vwCl (orW E ca ra ao C K u Al Gd Fw Mo K3 u3) H := hP
              have hD : va_D A (orW E ca ra ao C K u Al Gd Fw Mo K3 u3) := hD
              refine W.eq (g2 := F0 m 64 ls [.int (bI (WP nn net r1 o1 (stS nn (Z 2) (Z 3) kk) (tokS nn 2 (Z 2) (Z 3) kk) (tokS nn 3 (Z 2) (Z 3) kk)))]) rfl ?_
              refine cS_p (rest := []) hC (k_truth l (WP nn net r1 o1 (stS nn (Z 2) (Z 3) kk) (tokS nn 2 (Z 2) (Z 3) kk) (tokS nn 3 (Z 2) (Z 3) kk))) kw_251 sy_X11_truth ⟨Nat.le_of_ble_eq_true rfl, Nat.le_of_ble_eq_true rfl⟩ ⟨rfl, rfl⟩ rfl hl.1 rfl (Nat.le_of_ble_eq_true rfl) dX11_within_64 ⟨Nat.le_of_ble_eq_true rfl, Nat.le_of_ble_eq_true rfl⟩ ?_
              exact rw_i hC rfl hP hD hS (⟨by rw [s_within, if_neg (by rw [nat_isIn (by decide) hr1]; decide), if_neg (by rw [nat_isIn (by decide) ho1]; decide), nI_clamp (by omega), nI_clamp (by omega), if_neg (by unfold mixR at hmx; omega), if_neg (by omega : ¬ nn = 0), hc.within (by omega) (by omega) hmx], K3, u3, rfl, hB3, hW3⟩) dX11_within_67 (Nat.le_of_ble_eq_true rfl) (Nat.le_of_ble_eq_true rfl)
            · -- f 48
              refine lv_bipush (v := -3) hx hb dX11_within_48 (by decide) ?_
              exact rw_i hC rfl hP hD hS (⟨by rw [s_within, if_neg (by rw [nat_isIn (by decide) hr1]; decide), if_neg (by rw [nat_isIn (by decide) ho1]; decide), nI_clamp (by omega), nI_clamp (by omega), if_neg (by omega), if_pos (of_decide_eq_true c_10)], K2, u2, rfl, hB2, hW2⟩) dX11_within_50 (Nat.le_of_ble_eq_true rfl) (Nat.le_of_ble_eq_true rfl)
          · -- f 33
            refine lv_iload_n hx hb dX11_within_33 rfl (lv_at hl 2 rfl) ?_
            refine lv_iconst (v := nI 2) hx hb dX11_within_34 (by decide) ?_
            refine n_icmp_ne (tgt := 41) hx hb (by omega) (by omega) dX11_within_35 (by decide) (fun c_11 => ?_) (fun c_11 => ?_)
            · -- t 41
              refine lv_aload_n hx hb dX11_within_41 rfl (lv_at hl 0 rfl) ?_
              refine cV_r (rest := []) hC (k_noPersons l E ca ra ao C nn kk net Z hc) kw_381 iy_X11_noPersons ⟨Nat.le_of_ble_eq_true rfl, Nat.le_of_ble_eq_true rfl⟩ ⟨rfl, rfl⟩ hK (show va_P E.1 vwCl (oW ca ra ao C) H from va_P_mem.mpr fun q9 h9 => va_P_mem.mp hP q9 (by rw [List.mem_singleton.mp h9]; exact List.mem_cons_self)) (va_recv hK hP (ci := 9) (q0 := 0) rfl rfl) rfl hl.1 rfl (Nat.le_of_ble_eq_true rfl) dX11_within_42 ⟨Nat.le_of_ble_eq_true rfl, Nat.le_of_ble_eq_true rfl⟩ ?_
              refine b_if_eq (tgt := 51) hx hb dX11_within_45 (by decide) (fun c_12 => ?_) (fun c_12 => ?_)
              · -- t 51
                have h1 : 0 < nn := (by have := of_decide_eq_false c_12; omega)
                have hmx : mixR r1 o1 := (by unfold mixR; omega)
                refine lv_aload_n hx hb dX11_within_51 rfl (lv_at hl 0 rfl) ?_
                refine va_get (D := E.1) (ci := 9) (v := .ref (ra 0)) (C := RX11) (T := TX11) (N := 13) hx hb hts iX11 hown hK hP 0 rfl rfl 7 (by decide) (hts _ kw_111) (fun _ h9 => h9) rfl dX11_within_52 ?_
                refine lv_aload_n hx hb dX11_within_55 rfl (lv_at hl 0 rfl) ?_
                refine va_get (D := E.1) (ci := 9) (v := .long (lN (C 4))) (C := RX11) (T := TX11) (N := 13) hx hb hts iX11 hown hK hP 0 rfl rfl 4 (by decide) (hts _ kw_108) (fun _ h9 => h9) rfl dX11_within_56 ?_
                refine lv_iload_n hx hb dX11_within_59 rfl (lv_at hl 1 rfl) ?_
                refine lv_iload_n hx hb dX11_within_60 rfl (lv_at hl 2 rfl) ?_
                refine cV_wr (X := [oC ca ra ao C]) (Y := []) (rest := []) hC (k_areWithin l E ra nn net r1 o1 h1 hn4 hc.nb (by omega) (by omega) hmx _ _ _ (C 4) K u Al Gd Fw Mo K2 u2 _ (hc.pst h1 r1 o1) hB2 hW2) kw_606 iy_X6_areWithin ⟨Nat.le_of_ble_eq_true rfl, Nat.le_of_ble_eq_true rfl⟩ ⟨rfl, rfl⟩ hK hP hD hS hA rfl (va_recv hK hP (ci := 4) (q0 := 1) rfl rfl) rfl hl.1 rfl (Nat.le_of_ble_eq_true rfl) dX11_within_61 ⟨Nat.le_of_ble_eq_true rfl, Nat.le_of_ble_eq_true rfl⟩ (fun v_ w_ H locs hpost hP hD hS => ?_)
                obtain ⟨rfl, K3, u3, rfl, hB3, hW3⟩ := hpost
                have hP : va_P E.1 vwCl (orW E ca ra ao C K u Al Gd Fw Mo K3 u3) H := hP
                have hD : va_D A (orW E ca ra ao C K u Al Gd Fw Mo K3 u3) := hD
                refine W.eq (g2 := F0 m 64 ls [.int (bI (WP nn net r1 o1 (stS nn (Z 2) (Z 3) kk) (tokS nn 2 (Z 2) (Z 3) kk) (tokS nn 3 (Z 2) (Z 3) kk)))]) rfl ?_
                refine cS_p (rest := []) hC (k_truth l (WP nn net r1 o1 (stS nn (Z 2) (Z 3) kk) (tokS nn 2 (Z 2) (Z 3) kk) (tokS nn 3 (Z 2) (Z 3) kk))) kw_251 sy_X11_truth ⟨Nat.le_of_ble_eq_true rfl, Nat.le_of_ble_eq_true rfl⟩ ⟨rfl, rfl⟩ rfl hl.1 rfl (Nat.le_of_ble_eq_true rfl) dX11_within_64 ⟨Nat.le_of_ble_eq_true rfl, Nat.le_of_ble_eq_true rfl⟩ ?_
                exact rw_i hC rfl hP hD hS (⟨by rw [s_within, if_neg (by rw [nat_isIn (by decide) hr1]; decide), if_neg (by rw [nat_isIn (by decide) ho1]; decide), nI_clamp (by omega), nI_clamp (by omega), if_neg (by unfold mixR at hmx; omega), if_neg (by omega : ¬ nn = 0), hc.within (by omega) (by omega) hmx], K3, u3, rfl, hB3, hW3⟩) dX11_within_67 (Nat.le_of_ble_eq_true rfl) (Nat.le_of_ble_eq_true rfl)
              · -- f 48
                refine lv_bipush (v := -3) hx hb dX11_within_48 (by decide) ?_
                exact rw_i hC rfl hP hD hS (⟨by rw [s_within, if_neg (by rw [nat_isIn (by decide) hr1]; decide), if_neg (by rw [nat_isIn (by decide) ho1]; decide), nI_clamp (by omega), nI_clamp (by omega), if_neg (by omega), if_pos (of_decide_eq_true c_12)], K2, u2, rfl, hB2, hW2⟩) dX11_within_50 (Nat.le_of_ble_eq_true rfl) (Nat.le_of_ble_eq_true rfl)
            · -- f 38
              refine lv_bipush (v := -2) hx hb dX11_within_38 (by decide) ?_
              exact rw_i hC rfl hP hD hS (⟨by rw [s_within, if_neg (by rw [nat_isIn (by decide) hr1]; decide), if_neg (by rw [nat_isIn (by decide) ho1]; decide), nI_clamp (by omega), nI_clamp (by omega), if_pos (by omega)], K2, u2, rfl, hB2, hW2⟩) dX11_within_40 (Nat.le_of_ble_eq_true rfl) (Nat.le_of_ble_eq_true rfl)
    · -- f 16
      refine lv_iconst (v := -1) hx hb dX11_within_16 (by decide) ?_
      exact rw_i hC rfl hP hD hS (⟨by rw [s_within, if_neg (by rw [nat_isIn (by decide) hr1]; decide), if_pos c_2], K2, u2, rfl, hB2, hW2⟩) dX11_within_17 (Nat.le_of_ble_eq_true rfl) (Nat.le_of_ble_eq_true rfl)
