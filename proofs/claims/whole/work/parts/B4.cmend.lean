set_option maxHeartbeats 4000000 in
set_option maxRecDepth 100000 in
theorem k_findMending (l : Launch) (E : EE) (ca ra : Nat → Nat) (ao : Nat) (C : Nat → Nat) (K : Nat → Nat) (u : Nat) (Al Gd Fw Mo : Nat → Nat) (K2 : Nat → Nat) (u2 : Nat) (nn kk : Nat) (net : Nat → Nat) (Z : Nat → Nat → Nat) (hc : CS nn kk net Z C) (hB : TBt K u) (hV : VI K Al Gd Fw Mo) (r1 : Nat) (hr1 : r1 < 4) (h1 : 0 < nn) (sz : Nat) : Wr l yX11_findMending cX11_findMending 8 (some .int) rm_X11_findMending 0 0 E (orW E ca ra ao C K u Al Gd Fw Mo K2 u2) sz [.ref (ca 0), .int (nI r1)] (fun v1 w1 => v1 = some (.int (nI (nsP (mnB nn net (C 3 >>> 16 &&& 65535) r1) nn nn))) ∧ ORP E ca ra ao C K2 u2 w1) := by
  refine mk_wr (by decide) (Nat.le_of_ble_eq_true rfl) ?_
  intro p e s m args below meth c hC hin hK A hA hP hD hS ls hl
  obtain ⟨hx, hb, hr, hts, hown, hml, hlk, hN⟩ := id hC
  have hl : lv_has ls 8 [(0, .ref (ca 0)), (1, .int (nI r1))] := hl
  have hn4 := hc.n4; have hk12 := hc.k12; have hx3 := hc.st.lt; have hx4 := hc.nw.lt; have hp3 := hc.p3; have hp4 := hc.p4; have hcc := hc.cnt
  have hX6 := hc.xn.1
  obtain ⟨H, hH⟩ : ∃ z, z = s.heap := ⟨_, rfl⟩
  have hS : va_S A s.heap H [] := by rw [hH]; exact hS
  rw [← hH] at hP
  refine W_heap hH ?_
  obtain ⟨locs, hlo⟩ : ∃ z : List Loc, z = [] := ⟨_, rfl⟩
  rw [← hlo] at hS ⊢
  refine lv_aload_n hx hb dX11_findMending_0 rfl (lv_at hl 0 rfl) ?_
  refine va_get (D := E.1) (ci := 9) (v := .long (lN (C 3))) (C := RX11) (T := TX11) (N := 13) hx hb hts iX11 hown hK hP 0 rfl rfl 3 (by decide) (hts _ kw_107) (fun _ h9 => h9) rfl dX11_findMending_1 ?_
  refine cS_p (rest := []) hC (k_persons l (C 3) (by omega)) kw_234 sy_X5_persons ⟨Nat.le_of_ble_eq_true rfl, Nat.le_of_ble_eq_true rfl⟩ ⟨rfl, rfl⟩ rfl hl.1 rfl (Nat.le_of_ble_eq_true rfl) dX11_findMending_4 ⟨Nat.le_of_ble_eq_true rfl, Nat.le_of_ble_eq_true rfl⟩ ?_
  refine top_i (congrArg nI hp3) ?_
  refine lv_istore_n (lv' := [(2, .int (nI nn)), (0, .ref (ca 0)), (1, .int (nI r1))]) hx hb dX11_findMending_7 rfl hl (by decide) rfl (fun ls hl => ?_)
  refine lv_aload_n hx hb dX11_findMending_8 rfl (lv_at hl 1 rfl) ?_
  refine va_get (D := E.1) (ci := 9) (v := .long (lN (C 3))) (C := RX11) (T := TX11) (N := 13) hx hb hts iX11 hown hK hP 0 rfl rfl 3 (by decide) (hts _ kw_107) (fun _ h9 => h9) rfl dX11_findMending_9 ?_
  refine cS_p (rest := []) hC (k_allNumbers l (C 3) (by omega)) kw_547 sy_X5_allNumbers ⟨Nat.le_of_ble_eq_true rfl, Nat.le_of_ble_eq_true rfl⟩ ⟨rfl, rfl⟩ rfl hl.1 rfl (Nat.le_of_ble_eq_true rfl) dX11_findMending_12 ⟨Nat.le_of_ble_eq_true rfl, Nat.le_of_ble_eq_true rfl⟩ ?_
  have f_1 := (Nat.and_le_right : (C 3) >>> 16 &&& 65535 ≤ 65535)
  refine lv_istore_n (lv' := [(3, .int (nI ((C 3) >>> 16 &&& 65535))), (2, .int (nI nn)), (0, .ref (ca 0)), (1, .int (nI r1))]) hx hb dX11_findMending_15 rfl hl (by decide) rfl (fun ls hl => ?_)
  refine lv_iconst (v := nI 0) hx hb dX11_findMending_16 (by decide) ?_
  refine lv_istore (lv' := [(4, .int (nI 0)), (3, .int (nI ((C 3) >>> 16 &&& 65535))), (2, .int (nI nn)), (0, .ref (ca 0)), (1, .int (nI r1))]) hx hb dX11_findMending_17 hl (by decide) rfl (fun ls hl => ?_)
  refine lv_iconst (v := nI 0) hx hb dX11_findMending_19 (by decide) ?_
  refine lv_istore (lv' := [(5, .int (nI 0)), (4, .int (nI 0)), (3, .int (nI ((C 3) >>> 16 &&& 65535))), (2, .int (nI nn)), (0, .ref (ca 0)), (1, .int (nI r1))]) hx hb dX11_findMending_20 hl (by decide) rfl (fun ls hl => ?_)
  have lp_2 : ∀ (n_lp_2 : Nat) (p1 : Nat) (Kb : Nat → Nat) (ub : Nat) (Alb Gdb Fwb Mob : Nat → Nat) (hp1 : p1 ≤ nn) (hBb : TBt Kb ub) (hVb : VI Kb Alb Gdb Fwb Mob), nn - p1 < n_lp_2 → ∀ (H : Heap) (locs : List Loc) (hP : va_P E.1 vwCl (orW E ca ra ao C Kb ub Alb Gdb Fwb Mob K2 u2) H) (hD : va_D A (orW E ca ra ao C Kb ub Alb Gdb Fwb Mob K2 u2)) (hS : va_S A s.heap H locs) (ls : Array Slot), lv_has ls 8 [(0, .ref (ca 0)), (1, .int (nI r1)), (2, .int (nI nn)), (3, .int (nI (C 3 >>> 16 &&& 65535))), (4, .int (nI (nsP (mnB nn net (C 3 >>> 16 &&& 65535) r1) nn p1))), (5, .int (nI p1))] → W p l e rm_X11_findMending s m args below meth c H locs 0 0 (MQ below (wr_Q E A (fun v1 w1 => v1 = some (.int (nI (nsP (mnB nn net (C 3 >>> 16 &&& 65535) r1) nn nn))) ∧ ORP E ca ra ao C K2 u2 w1)) args s 0 0 A) (F0 m 22 ls []) := by
    intro n_lp_2
    induction n_lp_2 with
    | zero => intro p1 Kb ub Alb Gdb Fwb Mob hp1 hBb hVb; intro hm_lp_2; exact absurd hm_lp_2 (Nat.not_lt_zero _)
    | succ n_lp_2 ih_lp_2 =>
      intro p1 Kb ub Alb Gdb Fwb Mob hp1 hBb hVb hm_lp_2 H locs hP hD hS ls hl
      refine lv_iload hx hb dX11_findMending_22 (lv_at hl 5 rfl) ?_
      refine lv_iload_n hx hb dX11_findMending_24 rfl (lv_at hl 2 rfl) ?_
      refine n_icmp_ge (tgt := 97) hx hb (by omega) (by omega) dX11_findMending_25 (by decide) (fun c_3 => ?_) (fun c_3 => ?_)
      · -- t 97
        refine lv_iload hx hb dX11_findMending_97 (lv_at hl 4 rfl) ?_
        exact rw_i hC rfl hP hD hS (⟨by rw [show p1 = nn by omega], Kb, ub, Alb, Gdb, Fwb, Mob, rfl, hBb, hVb⟩) dX11_findMending_99 (Nat.le_of_ble_eq_true rfl) (Nat.le_of_ble_eq_true rfl)
      · -- f 28
        refine lv_iconst (v := nI 0) hx hb dX11_findMending_28 (by decide) ?_
        refine lv_istore (lv' := [(6, .int (nI 0)), (0, .ref (ca 0)), (1, .int (nI r1)), (2, .int (nI nn)), (3, .int (nI (C 3 >>> 16 &&& 65535))), (4, .int (nI (nsP (mnB nn net (C 3 >>> 16 &&& 65535) r1) nn p1))), (5, .int (nI p1))]) hx hb dX11_findMending_29 hl (by decide) rfl (fun ls hl => ?_)
        have lp_4 : ∀ (n_lp_4 : Nat) (q1 : Nat) (Kc : Nat → Nat) (uc : Nat) (Alc Gdc Fwc Moc : Nat → Nat) (hq1 : q1 ≤ nn) (hBc : TBt Kc uc) (hVc : VI Kc Alc Gdc Fwc Moc), nn - q1 < n_lp_4 → ∀ (H : Heap) (locs : List Loc) (hP : va_P E.1 vwCl (orW E ca ra ao C Kc uc Alc Gdc Fwc Moc K2 u2) H) (hD : va_D A (orW E ca ra ao C Kc uc Alc Gdc Fwc Moc K2 u2)) (hS : va_S A s.heap H locs) (ls : Array Slot), lv_has ls 8 [(0, .ref (ca 0)), (1, .int (nI r1)), (2, .int (nI nn)), (3, .int (nI (C 3 >>> 16 &&& 65535))), (4, .int (nI (nsQ (mnB nn net (C 3 >>> 16 &&& 65535) r1) p1 (nsP (mnB nn net (C 3 >>> 16 &&& 65535) r1) nn p1) q1))), (5, .int (nI p1)), (6, .int (nI q1))] → W p l e rm_X11_findMending s m args below meth c H locs 0 0 (MQ below (wr_Q E A (fun v1 w1 => v1 = some (.int (nI (nsP (mnB nn net (C 3 >>> 16 &&& 65535) r1) nn nn))) ∧ ORP E ca ra ao C K2 u2 w1)) args s 0 0 A) (F0 m 31 ls []) := by
          intro n_lp_4
          induction n_lp_4 with
          | zero => intro q1 Kc uc Alc Gdc Fwc Moc hq1 hBc hVc; intro hm_lp_4; exact absurd hm_lp_4 (Nat.not_lt_zero _)
          | succ n_lp_4 ih_lp_4 =>
            intro q1 Kc uc Alc Gdc Fwc Moc hq1 hBc hVc hm_lp_4 H locs hP hD hS ls hl
            refine lv_iload hx hb dX11_findMending_31 (lv_at hl 6 rfl) ?_
            refine lv_iload_n hx hb dX11_findMending_33 rfl (lv_at hl 2 rfl) ?_
            refine n_icmp_ge (tgt := 91) hx hb (by omega) (by omega) dX11_findMending_34 (by decide) (fun c_5 => ?_) (fun c_5 => ?_)
            · -- t 91
              refine lv_iinc (v := nI (p1 + 1)) (lv' := [(5, .int (nI (p1 + 1))), (0, .ref (ca 0)), (1, .int (nI r1)), (2, .int (nI nn)), (3, .int (nI (C 3 >>> 16 &&& 65535))), (4, .int (nI (nsQ (mnB nn net (C 3 >>> 16 &&& 65535) r1) p1 (nsP (mnB nn net (C 3 >>> 16 &&& 65535) r1) nn p1) q1))), (6, .int (nI q1))]) hx hb dX11_findMending_91 hl (k := 5) rfl (ii_1 _) (by decide) rfl (fun ls hl => ?_)
              refine lv_goto (tgt := 22) hx hb dX11_findMending_94 (by decide) ?_
              exact ih_lp_2 (p1 + 1) Kc uc Alc Gdc Fwc Moc (by omega) hBc hVc (by omega) H locs hP hD hS ls (by have h9 : lv_has ls 8 [(0, .ref (ca 0)), (1, .int (nI r1)), (2, .int (nI nn)), (3, .int (nI (C 3 >>> 16 &&& 65535))), (4, .int (nI (nsQ (mnB nn net (C 3 >>> 16 &&& 65535) r1) p1 (nsP (mnB nn net (C 3 >>> 16 &&& 65535) r1) nn p1) q1))), (5, .int (nI (p1 + 1)))] := lv_sub hl [1, 2, 3, 4, 5, 0] rfl; rw [show nsP (mnB nn net (C 3 >>> 16 &&& 65535) r1) nn (p1 + 1) = nsQ (mnB nn net (C 3 >>> 16 &&& 65535) r1) p1 (nsP (mnB nn net (C 3 >>> 16 &&& 65535) r1) nn p1) nn from rfl]; rw [show q1 = nn by omega] at h9; exact h9)
            · -- f 37
              refine lv_iconst (v := nI 1) hx hb dX11_findMending_37 (by decide) ?_
              refine lv_iload hx hb dX11_findMending_38 (lv_at hl 5 rfl) ?_
              refine lv_iload hx hb dX11_findMending_40 (lv_at hl 6 rfl) ?_
              refine cS_p (rest := [.int (nI 1)]) hC (k_pairOf l p1 q1 ) kw_590 sy_X11_pairOf ⟨Nat.le_of_ble_eq_true rfl, Nat.le_of_ble_eq_true rfl⟩ ⟨rfl, rfl⟩ rfl hl.1 rfl (Nat.le_of_ble_eq_true rfl) dX11_findMending_42 ⟨Nat.le_of_ble_eq_true rfl, Nat.le_of_ble_eq_true rfl⟩ ?_
              refine n_ishl hx hb (by omega) dX11_findMending_45 ?_
              refine lv_istore (lv' := [(7, .int (nI (1 <<< (4 * p1 + q1)))), (0, .ref (ca 0)), (1, .int (nI r1)), (2, .int (nI nn)), (3, .int (nI (C 3 >>> 16 &&& 65535))), (4, .int (nI (nsQ (mnB nn net (C 3 >>> 16 &&& 65535) r1) p1 (nsP (mnB nn net (C 3 >>> 16 &&& 65535) r1) nn p1) q1))), (5, .int (nI p1)), (6, .int (nI q1))]) hx hb dX11_findMending_46 hl (by decide) rfl (fun ls hl => ?_)
              refine lv_iload_n hx hb dX11_findMending_48 rfl (lv_at hl 4 rfl) ?_
              refine lv_iload hx hb dX11_findMending_49 (lv_at hl 0 rfl) ?_
              refine n_iand hx hb dX11_findMending_51 ?_
              have ha8 : (C 3 >>> 16 &&& 65535) &&& 1 <<< (4 * p1 + q1) ≤ (C 3 >>> 16 &&& 65535) := Nat.and_le_left
              refine n_if_eq (tgt := 58) hx hb (by omega) dX11_findMending_52 (by decide) (fun c_6 => ?_) (fun c_6 => ?_)
              · -- t 58
                have htb := and_tb.mp c_6
                obtain ⟨hpq, hbit⟩ := mn_new hn4 hc.xn (by omega : p1 < nn) (by omega : q1 < nn) htb
                have hxo : (C 3 >>> 16 &&& 65535) ||| 1 <<< (4 * p1 + q1) < 65536 := or_lt (n := 16) hc.xn.1 (one_shl (by omega))
                have hnx := NX_flip hn4 (by omega : p1 < nn) (by omega : q1 < nn) hpq hc.n16 hc.xn hbit
                refine lv_aload_n hx hb dX11_findMending_58 rfl (lv_at hl 1 rfl) ?_
                refine va_get (D := E.1) (ci := 9) (v := .ref (ra 0)) (C := RX11) (T := TX11) (N := 13) hx hb hts iX11 hown hK hP 0 rfl rfl 7 (by decide) (hts _ kw_111) (fun _ h9 => h9) rfl dX11_findMending_59 ?_
                refine lv_iload_n hx hb dX11_findMending_62 rfl (lv_at hl 3 rfl) ?_
                refine lv_iload_n hx hb dX11_findMending_63 rfl (lv_at hl 4 rfl) ?_
                refine lv_iload hx hb dX11_findMending_64 (lv_at hl 0 rfl) ?_
                refine n_ior hx hb dX11_findMending_66 ?_
                refine cS_p (rest := [.ref (ra 0)]) hC (k_first l nn ((C 3 >>> 16 &&& 65535) ||| (1 <<< (4 * p1 + q1))) (by omega) (by omega)) kw_210 sy_X5_first ⟨Nat.le_of_ble_eq_true rfl, Nat.le_of_ble_eq_true rfl⟩ ⟨rfl, rfl⟩ rfl hl.1 rfl (Nat.le_of_ble_eq_true rfl) dX11_findMending_67 ⟨Nat.le_of_ble_eq_true rfl, Nat.le_of_ble_eq_true rfl⟩ ?_
                refine lv_iload_n hx hb dX11_findMending_70 rfl (lv_at hl 2 rfl) ?_
                refine cV_wr (X := [oC ca ra ao C]) (Y := []) (rest := []) hC (k_judge l E ra Kc uc Alc Gdc Fwc Moc K2 u2 nn (flip net p1 q1) r1 h1 hn4 (NB_flip (by omega) hc.nb) (by omega) _ _ _ (frS nn ((C 3 >>> 16 &&& 65535) ||| (1 <<< (4 * p1 + q1))) nn) (Pst_first h1 hn4 hnx r1 r1) hBc hVc _) kw_455 iy_X6_judge ⟨Nat.le_of_ble_eq_true rfl, Nat.le_of_ble_eq_true rfl⟩ ⟨rfl, rfl⟩ hK hP hD hS hA rfl (va_recv hK hP (ci := 4) (q0 := 1) rfl rfl) rfl hl.1 rfl (Nat.le_of_ble_eq_true rfl) dX11_findMending_71 ⟨Nat.le_of_ble_eq_true rfl, Nat.le_of_ble_eq_true rfl⟩ (fun v_ w_ H locs hpost hP hD hS => ?_)
                obtain ⟨rfl, Kd, ud, Ald, Gdd, Fwd, Mod, rfl, hBd, hVd⟩ := hpost
                have hP : va_P E.1 vwCl (orW E ca ra ao C Kd ud Ald Gdd Fwd Mod K2 u2) H := hP
                have hD : va_D A (orW E ca ra ao C Kd ud Ald Gdd Fwd Mod K2 u2) := hD
                refine W.eq (g2 := F0 m 74 ls [.int (nI (verd (CN nn (flip net p1 q1) r1 (startN nn) (tkR r1 (1 <<< nn - 1) (1 <<< nn - 1)))))]) rfl ?_
                refine top_i (congrArg (fun z => nI (verd (CN nn (flip net p1 q1) r1 (startN nn) z))) (tkR_s r1 (1 <<< nn - 1))) ?_
                have hvl := verd_le (CN nn (flip net p1 q1) r1 (startN nn) (1 <<< nn - 1))
                refine lv_iconst (v := nI 2) hx hb dX11_findMending_74 (by decide) ?_
                refine n_icmp_ne (tgt := 85) hx hb (by omega) (by omega) dX11_findMending_75 (by decide) (fun c_7 => ?_) (fun c_7 => ?_)
                · -- t 85
                  have hmb : (mnB nn net (C 3 >>> 16 &&& 65535) r1) p1 q1 = false := by unfold mnB; rw [decide_eq_false c_7, Bool.and_false]
                  refine lv_iinc (v := nI (q1 + 1)) (lv' := [(6, .int (nI (q1 + 1))), (7, .int (nI (1 <<< (4 * p1 + q1)))), (0, .ref (ca 0)), (1, .int (nI r1)), (2, .int (nI nn)), (3, .int (nI (C 3 >>> 16 &&& 65535))), (4, .int (nI (nsQ (mnB nn net (C 3 >>> 16 &&& 65535) r1) p1 (nsP (mnB nn net (C 3 >>> 16 &&& 65535) r1) nn p1) q1))), (5, .int (nI p1))]) hx hb dX11_findMending_85 hl (k := 7) rfl (ii_1 _) (by decide) rfl (fun ls hl => ?_)
                  refine lv_goto (tgt := 31) hx hb dX11_findMending_88 (by decide) ?_
                  exact ih_lp_4 (q1 + 1) Kd ud Ald Gdd Fwd Mod (by omega) hBd hVd (by omega) H locs hP hD hS ls (by have h9 : lv_has ls 8 [(0, .ref (ca 0)), (1, .int (nI r1)), (2, .int (nI nn)), (3, .int (nI (C 3 >>> 16 &&& 65535))), (4, .int (nI (nsQ (mnB nn net (C 3 >>> 16 &&& 65535) r1) p1 (nsP (mnB nn net (C 3 >>> 16 &&& 65535) r1) nn p1) q1))), (5, .int (nI p1)), (6, .int (nI (q1 + 1)))] := lv_sub hl [2, 3, 4, 5, 6, 7, 0] rfl; rw [nsQ_f hmb]; exact h9)
                · -- f 78
                  have hmb : (mnB nn net (C 3 >>> 16 &&& 65535) r1) p1 q1 = true := by unfold mnB; rw [decide_eq_true c_7, htb]; rfl
                  refine lv_iload hx hb dX11_findMending_78 (lv_at hl 5 rfl) ?_
                  refine lv_iload hx hb dX11_findMending_80 (lv_at hl 0 rfl) ?_
                  refine n_ior hx hb dX11_findMending_82 ?_
                  refine lv_istore (lv' := [(4, .int (nI ((nsQ (mnB nn net (C 3 >>> 16 &&& 65535) r1) p1 (nsP (mnB nn net (C 3 >>> 16 &&& 65535) r1) nn p1) q1) ||| (1 <<< (4 * p1 + q1))))), (7, .int (nI (1 <<< (4 * p1 + q1)))), (0, .ref (ca 0)), (1, .int (nI r1)), (2, .int (nI nn)), (3, .int (nI (C 3 >>> 16 &&& 65535))), (5, .int (nI p1)), (6, .int (nI q1))]) hx hb dX11_findMending_83 hl (by decide) rfl (fun ls hl => ?_)
                  refine lv_iinc (v := nI (q1 + 1)) (lv' := [(6, .int (nI (q1 + 1))), (4, .int (nI ((nsQ (mnB nn net (C 3 >>> 16 &&& 65535) r1) p1 (nsP (mnB nn net (C 3 >>> 16 &&& 65535) r1) nn p1) q1) ||| (1 <<< (4 * p1 + q1))))), (7, .int (nI (1 <<< (4 * p1 + q1)))), (0, .ref (ca 0)), (1, .int (nI r1)), (2, .int (nI nn)), (3, .int (nI (C 3 >>> 16 &&& 65535))), (5, .int (nI p1))]) hx hb dX11_findMending_85 hl (k := 7) rfl (ii_1 _) (by decide) rfl (fun ls hl => ?_)
                  refine lv_goto (tgt := 31) hx hb dX11_findMending_88 (by decide) ?_
                  exact ih_lp_4 (q1 + 1) Kd ud Ald Gdd Fwd Mod (by omega) hBd hVd (by omega) H locs hP hD hS ls (by have h9 : lv_has ls 8 [(0, .ref (ca 0)), (1, .int (nI r1)), (2, .int (nI nn)), (3, .int (nI (C 3 >>> 16 &&& 65535))), (4, .int (nI ((nsQ (mnB nn net (C 3 >>> 16 &&& 65535) r1) p1 (nsP (mnB nn net (C 3 >>> 16 &&& 65535) r1) nn p1) q1) ||| (1 <<< (4 * p1 + q1))))), (5, .int (nI p1)), (6, .int (nI (q1 + 1)))] := lv_sub hl [3, 4, 5, 6, 1, 7, 0] rfl; rw [nsQ_t hmb]; exact h9)
              · -- f 55
                have hmb : (mnB nn net (C 3 >>> 16 &&& 65535) r1) p1 q1 = false := by unfold mnB; rw [tb_not0 c_6]; rfl
                refine lv_goto (tgt := 85) hx hb dX11_findMending_55 (by decide) ?_
                refine lv_iinc (v := nI (q1 + 1)) (lv' := [(6, .int (nI (q1 + 1))), (7, .int (nI (1 <<< (4 * p1 + q1)))), (0, .ref (ca 0)), (1, .int (nI r1)), (2, .int (nI nn)), (3, .int (nI (C 3 >>> 16 &&& 65535))), (4, .int (nI (nsQ (mnB nn net (C 3 >>> 16 &&& 65535) r1) p1 (nsP (mnB nn net (C 3 >>> 16 &&& 65535) r1) nn p1) q1))), (5, .int (nI p1))]) hx hb dX11_findMending_85 hl (k := 7) rfl (ii_1 _) (by decide) rfl (fun ls hl => ?_)
                refine lv_goto (tgt := 31) hx hb dX11_findMending_88 (by decide) ?_
                exact ih_lp_4 (q1 + 1) Kc uc Alc Gdc Fwc Moc (by omega) hBc hVc (by omega) H locs hP hD hS ls (by have h9 : lv_has ls 8 [(0, .ref (ca 0)), (1, .int (nI r1)), (2, .int (nI nn)), (3, .int (nI (C 3 >>> 16 &&& 65535))), (4, .int (nI (nsQ (mnB nn net (C 3 >>> 16 &&& 65535) r1) p1 (nsP (mnB nn net (C 3 >>> 16 &&& 65535) r1) nn p1) q1))), (5, .int (nI p1)), (6, .int (nI (q1 + 1)))] := lv_sub hl [2, 3, 4, 5, 6, 7, 0] rfl; rw [nsQ_f hmb]; exact h9)
        exact lp_4 _ 0 Kb ub Alb Gdb Fwb Mob (Nat.zero_le _) hBb hVb (Nat.lt_succ_self _) H locs hP hD hS ls (lv_sub hl [1, 2, 3, 4, 5, 6, 0] rfl)
  exact lp_2 _ 0 K u Al Gd Fw Mo (Nat.zero_le _) hB hV (Nat.lt_succ_self _) H locs hP hD hS ls (lv_sub hl [4, 5, 3, 2, 1, 0] rfl)

set_option maxHeartbeats 4000000 in
set_option maxRecDepth 100000 in
theorem k_mend (l : Launch) (E : EE) (ca ra : Nat → Nat) (ao : Nat) (C : Nat → Nat) (K : Nat → Nat) (u : Nat) (Al Gd Fw Mo : Nat → Nat) (K2 : Nat → Nat) (u2 : Nat) (nn kk : Nat) (net : Nat → Nat) (Z : Nat → Nat → Nat) (hc : CS nn kk net Z C) (hB : TBt K u) (hV : VI K Al Gd Fw Mo) (Me : Nat → Nat) (hM : MI nn net (C 3 >>> 16 &&& 65535) (C 10) Me) (a1 a2 : Int32) (sz : Nat) : Wr l yX11_mend cX11_mend 3 (some .int) rm_X11_mend 0 0 E (omW E ca ra ao C K u Al Gd Fw Mo K2 u2 Me) sz [.ref (ca 0), .int a1, .int a2] (fun v1 w1 => v1 = some (.int (b_mend nn net (C 3 >>> 16 &&& 65535) a1 a2)) ∧ ∃ (mf : Nat) (Me2 K : Nat → Nat) (u : Nat) (Al Gd Fw Mo : Nat → Nat), w1 = omW E ca ra ao (va_up C 10 mf) K u Al Gd Fw Mo K2 u2 Me2 ∧ MI nn net (C 3 >>> 16 &&& 65535) mf Me2 ∧ TBt K u ∧ VI K Al Gd Fw Mo) := by
  refine mk_wr (by decide) (Nat.le_of_ble_eq_true rfl) ?_
  intro p e s m args below meth c hC hin hK A hA hP hD hS ls hl
  obtain ⟨hx, hb, hr, hts, hown, hml, hlk, hN⟩ := id hC
  have hl : lv_has ls 3 [(0, .ref (ca 0)), (1, .int a1), (2, .int a2)] := hl
  have hn4 := hc.n4; have hk12 := hc.k12; have hx3 := hc.st.lt; have hx4 := hc.nw.lt; have hp3 := hc.p3; have hp4 := hc.p4; have hcc := hc.cnt
  have hmf := hM.1
  obtain ⟨H, hH⟩ : ∃ z, z = s.heap := ⟨_, rfl⟩
  have hS : va_S A s.heap H [] := by rw [hH]; exact hS
  rw [← hH] at hP
  refine W_heap hH ?_
  obtain ⟨locs, hlo⟩ : ∃ z : List Loc, z = [] := ⟨_, rfl⟩
  rw [← hlo] at hS ⊢
  refine lv_aload_n hx hb dX11_mend_0 rfl (lv_at hl 0 rfl) ?_
  refine lv_iload_n hx hb dX11_mend_1 rfl (lv_at hl 1 rfl) ?_
  refine cV_r (rest := []) hC (k_isRule l E ca ra ao C a1) kw_364 iy_X11_isRule ⟨Nat.le_of_ble_eq_true rfl, Nat.le_of_ble_eq_true rfl⟩ ⟨rfl, rfl⟩ hK (show va_P E.1 vwCl (oW ca ra ao C) H from va_P_mem.mpr fun q9 h9 => va_P_mem.mp hP q9 (by rw [List.mem_singleton.mp h9]; exact List.mem_cons_self)) (va_recv hK hP (ci := 9) (q0 := 0) rfl rfl) rfl hl.1 rfl (Nat.le_of_ble_eq_true rfl) dX11_mend_2 ⟨Nat.le_of_ble_eq_true rfl, Nat.le_of_ble_eq_true rfl⟩ ?_
  refine b_if_eq (tgt := 16) hx hb dX11_mend_5 (by decide) (fun c_1 => ?_) (fun c_1 => ?_)
  · -- t 16
    refine lv_iconst (v := -1) hx hb dX11_mend_16 (by decide) ?_
    exact rw_i hC rfl hP hD hS (⟨by rw [b_mend, if_pos c_1], C 10, Me, K, u, Al, Gd, Fw, Mo, by rw [vu_id], hM, hB, hV⟩) dX11_mend_17 (Nat.le_of_ble_eq_true rfl) (Nat.le_of_ble_eq_true rfl)
  · -- f 8
    obtain ⟨r1, hr1, rfl⟩ := isIn_nat (by decide) c_1
    have hl : lv_has ls 3 [(0, .ref (ca 0)), (1, .int (nI r1)), (2, .int a2)] := hl
    refine lv_aload_n hx hb dX11_mend_8 rfl (lv_at hl 0 rfl) ?_
    refine lv_iload_n hx hb dX11_mend_9 rfl (lv_at hl 2 rfl) ?_
    refine cV_r (rest := []) hC (k_isPlace l E ca ra ao C a2) kw_563 iy_X11_isPlaceOfNumber ⟨Nat.le_of_ble_eq_true rfl, Nat.le_of_ble_eq_true rfl⟩ ⟨rfl, rfl⟩ hK (show va_P E.1 vwCl (oW ca ra ao C) H from va_P_mem.mpr fun q9 h9 => va_P_mem.mp hP q9 (by rw [List.mem_singleton.mp h9]; exact List.mem_cons_self)) (va_recv hK hP (ci := 9) (q0 := 0) rfl rfl) rfl hl.1 rfl (Nat.le_of_ble_eq_true rfl) dX11_mend_10 ⟨Nat.le_of_ble_eq_true rfl, Nat.le_of_ble_eq_true rfl⟩ ?_
    refine b_if_ne (tgt := 18) hx hb dX11_mend_13 (by decide) (fun c_2 => ?_) (fun c_2 => ?_)
    · -- t 18
      refine lv_aload_n hx hb dX11_mend_18 rfl (lv_at hl 0 rfl) ?_
      refine cV_r (rest := []) hC (k_noPersons l E ca ra ao C nn kk net Z hc) kw_381 iy_X11_noPersons ⟨Nat.le_of_ble_eq_true rfl, Nat.le_of_ble_eq_true rfl⟩ ⟨rfl, rfl⟩ hK (show va_P E.1 vwCl (oW ca ra ao C) H from va_P_mem.mpr fun q9 h9 => va_P_mem.mp hP q9 (by rw [List.mem_singleton.mp h9]; exact List.mem_cons_self)) (va_recv hK hP (ci := 9) (q0 := 0) rfl rfl) rfl hl.1 rfl (Nat.le_of_ble_eq_true rfl) dX11_mend_19 ⟨Nat.le_of_ble_eq_true rfl, Nat.le_of_ble_eq_true rfl⟩ ?_
      refine b_if_eq (tgt := 28) hx hb dX11_mend_22 (by decide) (fun c_3 => ?_) (fun c_3 => ?_)
      · -- t 28
        have h1 : 0 < nn := (by have := of_decide_eq_false c_3; omega)
        refine lv_aload_n hx hb dX11_mend_28 rfl (lv_at hl 0 rfl) ?_
        refine va_get (D := E.1) (ci := 9) (v := .int (nI (C 10))) (C := RX11) (T := TX11) (N := 13) hx hb hts iX11 hown hK hP 0 rfl rfl 10 (by decide) (hts _ kw_114) (fun _ h9 => h9) rfl dX11_mend_29 ?_
        refine lv_iload_n hx hb dX11_mend_32 rfl (lv_at hl 1 rfl) ?_
        refine cS_p (rest := []) hC (k_contains l (C 10) r1 (by omega) (by omega)) kw_261 sy_X11_contains ⟨Nat.le_of_ble_eq_true rfl, Nat.le_of_ble_eq_true rfl⟩ ⟨rfl, rfl⟩ rfl hl.1 rfl (Nat.le_of_ble_eq_true rfl) dX11_mend_33 ⟨Nat.le_of_ble_eq_true rfl, Nat.le_of_ble_eq_true rfl⟩ ?_
        refine b_if_ne (tgt := 62) hx hb dX11_mend_36 (by decide) (fun c_4 => ?_) (fun c_4 => ?_)
        · -- t 62
          have hme := hM.2 r1 (by omega) c_4
          have hsl := nsP_lt (B := (mnB nn net (C 3 >>> 16 &&& 65535) r1)) hn4 nn hn4
          refine lv_aload_n hx hb dX11_mend_62 rfl (lv_at hl 0 rfl) ?_
          refine va_get (D := E.1) (ci := 9) (v := .ref (ca 4)) (C := RX11) (T := TX11) (N := 13) hx hb hts iX11 hown hK hP 0 rfl rfl 9 (by decide) (hts _ kw_113) (fun _ h9 => h9) rfl dX11_mend_63 ?_
          refine lv_iload_n hx hb dX11_mend_66 rfl (lv_at hl 1 rfl) ?_
          refine n_iald (f := fun j => nI (Me j)) hx hb hK hP 10 rfl (by omega) (by decide) dX11_mend_67 ?_
          refine top_i (congrArg nI hme) ?_
          refine lv_iload_n hx hb dX11_mend_68 rfl (lv_at hl 2 rfl) ?_
          refine cS_p (rest := []) hC (k_pickV l (nsP (mnB nn net (C 3 >>> 16 &&& 65535) r1) nn nn) a2 (by omega) c_2) kw_571 sy_X11_countOrPick ⟨Nat.le_of_ble_eq_true rfl, Nat.le_of_ble_eq_true rfl⟩ ⟨rfl, rfl⟩ rfl hl.1 rfl (Nat.le_of_ble_eq_true rfl) dX11_mend_69 ⟨Nat.le_of_ble_eq_true rfl, Nat.le_of_ble_eq_true rfl⟩ ?_
          exact rw_i hC rfl hP hD hS (⟨by rw [b_mend, if_neg (by rw [nat_isIn (by decide) hr1]; decide), if_neg (by rw [c_2]; decide), if_neg (by omega : ¬ nn = 0), nI_clamp (by omega)], C 10, Me, K, u, Al, Gd, Fw, Mo, by rw [vu_id], hM, hB, hV⟩) dX11_mend_72 (Nat.le_of_ble_eq_true rfl) (Nat.le_of_ble_eq_true rfl)
        · -- f 39
          refine lv_aload_n hx hb dX11_mend_39 rfl (lv_at hl 0 rfl) ?_
          refine va_get (D := E.1) (ci := 9) (v := .ref (ca 4)) (C := RX11) (T := TX11) (N := 13) hx hb hts iX11 hown hK hP 0 rfl rfl 9 (by decide) (hts _ kw_113) (fun _ h9 => h9) rfl dX11_mend_40 ?_
          refine lv_iload_n hx hb dX11_mend_43 rfl (lv_at hl 1 rfl) ?_
          refine lv_aload_n hx hb dX11_mend_44 rfl (lv_at hl 0 rfl) ?_
          refine lv_iload_n hx hb dX11_mend_45 rfl (lv_at hl 1 rfl) ?_
          refine cV_wr (X := []) (Y := [(ca 4, .inl (E.2 1, 4, .inl (fun j => nI (Me j))))]) (rest := [.int (nI r1), .ref (ca 4)]) hC (k_findMending l E ca ra ao C K u Al Gd Fw Mo K2 u2 nn kk net Z hc hB hV r1 (by omega) h1 _) kw_586 iy_X11_findMending ⟨Nat.le_of_ble_eq_true rfl, Nat.le_of_ble_eq_true rfl⟩ ⟨rfl, rfl⟩ hK hP hD hS hA rfl (va_recv hK hP (ci := 9) (q0 := 0) rfl rfl) rfl hl.1 rfl (Nat.le_of_ble_eq_true rfl) dX11_mend_46 ⟨Nat.le_of_ble_eq_true rfl, Nat.le_of_ble_eq_true rfl⟩ (fun v_ w_ H locs hpost hP hD hS => ?_)
          obtain ⟨rfl, K1, u1, Al1, Gd1, Fw1, Mo1, rfl, hB1, hV1⟩ := hpost
          have hP : va_P E.1 vwCl (omW E ca ra ao C K1 u1 Al1 Gd1 Fw1 Mo1 K2 u2 Me) H := hP
          have hD : va_D A (omW E ca ra ao C K1 u1 Al1 Gd1 Fw1 Mo1 K2 u2 Me) := hD
          have hsl := nsP_lt (B := (mnB nn net (C 3 >>> 16 &&& 65535) r1)) hn4 nn hn4
          refine W.eq (g2 := F0 m 49 ls [.int (nI (nsP (mnB nn net (C 3 >>> 16 &&& 65535) r1) nn nn)), .int (nI r1), .ref (ca 4)]) rfl ?_
          refine n_iast hx hb hK hP hD hS 10 rfl (by omega) (by decide) dX11_mend_49 (fun H locs hP hD hS => ?_)
          have hP : va_P E.1 vwCl (omW E ca ra ao C K1 u1 Al1 Gd1 Fw1 Mo1 K2 u2 (va_up Me r1 (nsP (mnB nn net (C 3 >>> 16 &&& 65535) r1) nn nn))) H := hP
          have hD : va_D A (omW E ca ra ao C K1 u1 Al1 Gd1 Fw1 Mo1 K2 u2 (va_up Me r1 (nsP (mnB nn net (C 3 >>> 16 &&& 65535) r1) nn nn))) := hD
          refine lv_aload_n hx hb dX11_mend_50 rfl (lv_at hl 0 rfl) ?_
          refine lv_dup hx hb dX11_mend_51 rfl ?_
          refine va_get (D := E.1) (ci := 9) (v := .int (nI (C 10))) (C := RX11) (T := TX11) (N := 13) hx hb hts iX11 hown hK hP 0 rfl rfl 10 (by decide) (hts _ kw_114) (fun _ h9 => h9) rfl dX11_mend_52 ?_
          refine lv_iconst (v := nI 1) hx hb dX11_mend_55 (by decide) ?_
          refine lv_iload_n hx hb dX11_mend_56 rfl (lv_at hl 1 rfl) ?_
          refine n_ishl hx hb (by omega) dX11_mend_57 ?_
          refine n_ior hx hb dX11_mend_58 ?_
          refine va_put (D := E.1) (ci := 9) (v := .int (nI ((C 10) ||| (1 <<< r1)))) (ty := .int) (C := RX11) (T := TX11) (N := 13) hx hb hts iX11 tyX11 tyX11_ok nmX11 hown hK hP hD hS 0 rfl rfl 10 (by decide) (hts _ kw_114) (fun _ h9 => h9) rfl (by decide +kernel) rfl rfl (Nat.le_of_ble_eq_true rfl) dX11_mend_59 (fun H locs hP hD hS => ?_)
          have hP : va_P E.1 vwCl (omW E ca ra ao (va_up C 10 ((C 10) ||| (1 <<< r1))) K1 u1 Al1 Gd1 Fw1 Mo1 K2 u2 (va_up Me r1 (nsP (mnB nn net (C 3 >>> 16 &&& 65535) r1) nn nn))) H := hP
          have hD : va_D A (omW E ca ra ao (va_up C 10 ((C 10) ||| (1 <<< r1))) K1 u1 Al1 Gd1 Fw1 Mo1 K2 u2 (va_up Me r1 (nsP (mnB nn net (C 3 >>> 16 &&& 65535) r1) nn nn))) := hD
          refine lv_aload_n hx hb dX11_mend_62 rfl (lv_at hl 0 rfl) ?_
          refine va_get (D := E.1) (ci := 9) (v := .ref (ca 4)) (C := RX11) (T := TX11) (N := 13) hx hb hts iX11 hown hK hP 0 rfl rfl 9 (by decide) (hts _ kw_113) (fun _ h9 => h9) rfl dX11_mend_63 ?_
          refine lv_iload_n hx hb dX11_mend_66 rfl (lv_at hl 1 rfl) ?_
          refine n_iald (f := fun j => nI ((va_up Me r1 (nsP (mnB nn net (C 3 >>> 16 &&& 65535) r1) nn nn)) j)) hx hb hK hP 10 rfl (by omega) (by decide) dX11_mend_67 ?_
          refine top_i (congrArg nI (vu_s _ _ _)) ?_
          refine lv_iload_n hx hb dX11_mend_68 rfl (lv_at hl 2 rfl) ?_
          refine cS_p (rest := []) hC (k_pickV l (nsP (mnB nn net (C 3 >>> 16 &&& 65535) r1) nn nn) a2 (by omega) c_2) kw_571 sy_X11_countOrPick ⟨Nat.le_of_ble_eq_true rfl, Nat.le_of_ble_eq_true rfl⟩ ⟨rfl, rfl⟩ rfl hl.1 rfl (Nat.le_of_ble_eq_true rfl) dX11_mend_69 ⟨Nat.le_of_ble_eq_true rfl, Nat.le_of_ble_eq_true rfl⟩ ?_
          exact rw_i hC rfl hP hD hS (⟨by rw [b_mend, if_neg (by rw [nat_isIn (by decide) hr1]; decide), if_neg (by rw [c_2]; decide), if_neg (by omega : ¬ nn = 0), nI_clamp (by omega)], _, _, K1, u1, Al1, Gd1, Fw1, Mo1, rfl, MI_put hM (by omega), hB1, hV1⟩) dX11_mend_72 (Nat.le_of_ble_eq_true rfl) (Nat.le_of_ble_eq_true rfl)
      · -- f 25
        refine lv_bipush (v := -3) hx hb dX11_mend_25 (by decide) ?_
        exact rw_i hC rfl hP hD hS (⟨by rw [b_mend, if_neg (by rw [nat_isIn (by decide) hr1]; decide), if_neg (by rw [c_2]; decide), if_pos (of_decide_eq_true c_3)], C 10, Me, K, u, Al, Gd, Fw, Mo, by rw [vu_id], hM, hB, hV⟩) dX11_mend_27 (Nat.le_of_ble_eq_true rfl) (Nat.le_of_ble_eq_true rfl)
    · -- f 16
      refine lv_iconst (v := -1) hx hb dX11_mend_16 (by decide) ?_
      exact rw_i hC rfl hP hD hS (⟨by rw [b_mend, if_neg (by rw [nat_isIn (by decide) hr1]; decide), if_pos c_2], C 10, Me, K, u, Al, Gd, Fw, Mo, by rw [vu_id], hM, hB, hV⟩) dX11_mend_17 (Nat.le_of_ble_eq_true rfl) (Nat.le_of_ble_eq_true rfl)

set_option maxHeartbeats 4000000 in
set_option maxRecDepth 100000 in
theorem k_countNets (l : Launch) (E : EE) (ca ra : Nat → Nat) (ao : Nat) (C : Nat → Nat) (K : Nat → Nat) (u : Nat) (Al Gd Fw Mo : Nat → Nat) (K2 : Nat → Nat) (u2 : Nat) (Nc : Nat → Nat) (hB : TBt K u) (hV : VI K Al Gd Fw Mo) (n1 r1 a1 : Nat) (hn1 : 1 ≤ n1) (hn3 : n1 ≤ 3) (hr1 : r1 < 4) (ha1 : a1 ≤ 44) (sz : Nat) : Wr l yX11_countNets cX11_countNets 7 none rm_X11_countNets 0 0 E (onW E ca ra ao C K u Al Gd Fw Mo K2 u2 Nc) sz [.ref (ca 0), .int (nI n1), .int (nI r1), .int (nI a1)] (fun v1 w1 => v1 = none ∧ ∃ (N2 K : Nat → Nat) (u : Nat) (Al Gd Fw Mo : Nat → Nat), w1 = onW E ca ra ao C K u Al Gd Fw Mo K2 u2 N2 ∧ NcX n1 r1 a1 (1 <<< (n1 * (n1 - 1))) Nc N2 ∧ TBt K u ∧ VI K Al Gd Fw Mo) := by
  refine mk_wr (by decide) (Nat.le_of_ble_eq_true rfl) ?_
  intro p e s m args below meth c hC hin hK A hA hP hD hS ls hl
  obtain ⟨hx, hb, hr, hts, hown, hml, hlk, hN⟩ := id hC
  have hl : lv_has ls 7 [(0, .ref (ca 0)), (1, .int (nI n1)), (2, .int (nI r1)), (3, .int (nI a1))] := hl
  have hnn := nn6 n1 hn3; have hn4 : n1 ≤ 4 := (by omega)
  obtain ⟨H, hH⟩ : ∃ z, z = s.heap := ⟨_, rfl⟩
  have hS : va_S A s.heap H [] := by rw [hH]; exact hS
  rw [← hH] at hP
  refine W_heap hH ?_
  obtain ⟨locs, hlo⟩ : ∃ z : List Loc, z = [] := ⟨_, rfl⟩
  rw [← hlo] at hS ⊢
  refine lv_iconst (v := nI 1) hx hb dX11_countNets_0 (by decide) ?_
  refine lv_iload_n hx hb dX11_countNets_1 rfl (lv_at hl 1 rfl) ?_
  refine lv_iload_n hx hb dX11_countNets_2 rfl (lv_at hl 1 rfl) ?_
  refine lv_iconst (v := nI 1) hx hb dX11_countNets_3 (by decide) ?_
  refine n_isub hx hb (by omega) dX11_countNets_4 ?_
  refine n_imul hx hb dX11_countNets_5 ?_
  refine n_ishl hx hb (by omega) dX11_countNets_6 ?_
  refine lv_istore (lv' := [(4, .int (nI (1 <<< (n1 * (n1 - 1))))), (0, .ref (ca 0)), (1, .int (nI n1)), (2, .int (nI r1)), (3, .int (nI a1))]) hx hb dX11_countNets_7 hl (by decide) rfl (fun ls hl => ?_)
  refine lv_iconst (v := nI 0) hx hb dX11_countNets_9 (by decide) ?_
  refine lv_istore (lv' := [(5, .int (nI 0)), (4, .int (nI (1 <<< (n1 * (n1 - 1))))), (0, .ref (ca 0)), (1, .int (nI n1)), (2, .int (nI r1)), (3, .int (nI a1))]) hx hb dX11_countNets_10 hl (by decide) rfl (fun ls hl => ?_)
  have lp_1 : ∀ (n_lp_1 : Nat) (x1 : Nat) (Kb : Nat → Nat) (ub : Nat) (Alb Gdb Fwb Mob : Nat → Nat) (Ncb : Nat → Nat) (hx1 : x1 ≤ (1 <<< (n1 * (n1 - 1)))) (hBb : TBt Kb ub) (hVb : VI Kb Alb Gdb Fwb Mob) (hNb : NcX n1 r1 a1 x1 Nc Ncb), (1 <<< (n1 * (n1 - 1))) - x1 < n_lp_1 → ∀ (H : Heap) (locs : List Loc) (hP : va_P E.1 vwCl (onW E ca ra ao C Kb ub Alb Gdb Fwb Mob K2 u2 Ncb) H) (hD : va_D A (onW E ca ra ao C Kb ub Alb Gdb Fwb Mob K2 u2 Ncb)) (hS : va_S A s.heap H locs) (ls : Array Slot), lv_has ls 7 [(0, .ref (ca 0)), (1, .int (nI n1)), (2, .int (nI r1)), (3, .int (nI a1)), (4, .int (nI (1 <<< (n1 * (n1 - 1))))), (5, .int (nI x1))] → W p l e rm_X11_countNets s m args below meth c H locs 0 0 (MQ below (wr_Q E A (fun v1 w1 => v1 = none ∧ ∃ (N2 K : Nat → Nat) (u : Nat) (Al Gd Fw Mo : Nat → Nat), w1 = onW E ca ra ao C K u Al Gd Fw Mo K2 u2 N2 ∧ NcX n1 r1 a1 (1 <<< (n1 * (n1 - 1))) Nc N2 ∧ TBt K u ∧ VI K Al Gd Fw Mo)) args s 0 0 A) (F0 m 12 ls []) := by
    intro n_lp_1
    induction n_lp_1 with
    | zero => intro x1 Kb ub Alb Gdb Fwb Mob Ncb hx1 hBb hVb hNb; intro hm_lp_1; exact absurd hm_lp_1 (Nat.not_lt_zero _)
    | succ n_lp_1 ih_lp_1 =>
      intro x1 Kb ub Alb Gdb Fwb Mob Ncb hx1 hBb hVb hNb hm_lp_1 H locs hP hD hS ls hl
      refine lv_iload hx hb dX11_countNets_12 (lv_at hl 5 rfl) ?_
      refine lv_iload hx hb dX11_countNets_14 (lv_at hl 4 rfl) ?_
      refine n_icmp_ge (tgt := 82) hx hb (by omega) (by omega) dX11_countNets_16 (by decide) (fun c_2 => ?_) (fun c_2 => ?_)
      · -- t 82
        exact rw_v hC hP hD hS (⟨rfl, Ncb, Kb, ub, Alb, Gdb, Fwb, Mob, rfl, by rw [show x1 = 1 <<< (n1 * (n1 - 1)) by omega] at hNb; exact hNb, hBb, hVb⟩) dX11_countNets_82 (Nat.le_of_ble_eq_true rfl) (Nat.le_of_ble_eq_true rfl)
      · -- f 19
        refine lv_iload_n hx hb dX11_countNets_19 rfl (lv_at hl 1 rfl) ?_
        refine lv_iload hx hb dX11_countNets_20 (lv_at hl 5 rfl) ?_
        refine cS_p (rest := []) hC (k_chosen l n1 x1 (by omega) (by omega)) kw_599 sy_X2_chosen ⟨Nat.le_of_ble_eq_true rfl, Nat.le_of_ble_eq_true rfl⟩ ⟨rfl, rfl⟩ rfl hl.1 rfl (Nat.le_of_ble_eq_true rfl) dX11_countNets_22 ⟨Nat.le_of_ble_eq_true rfl, Nat.le_of_ble_eq_true rfl⟩ ?_
        have f_3 := nsP_lt (B := chB n1 x1) (by omega : n1 ≤ 4) n1 (by omega)
        refine lv_istore (lv' := [(6, .int (nI (chN n1 x1))), (0, .ref (ca 0)), (1, .int (nI n1)), (2, .int (nI r1)), (3, .int (nI a1)), (4, .int (nI (1 <<< (n1 * (n1 - 1))))), (5, .int (nI x1))]) hx hb dX11_countNets_25 hl (by decide) rfl (fun ls hl => ?_)
        refine lv_iload_n hx hb dX11_countNets_27 rfl (lv_at hl 2 rfl) ?_
        refine lv_iload hx hb dX11_countNets_28 (lv_at hl 0 rfl) ?_
        refine cS_p (rest := []) hC (k_isJoined l n1 (chN n1 x1) (by omega) (by omega)) kw_550 sy_X2_isJoined ⟨Nat.le_of_ble_eq_true rfl, Nat.le_of_ble_eq_true rfl⟩ ⟨rfl, rfl⟩ rfl hl.1 rfl (Nat.le_of_ble_eq_true rfl) dX11_countNets_30 ⟨Nat.le_of_ble_eq_true rfl, Nat.le_of_ble_eq_true rfl⟩ ?_
        refine b_if_ne (tgt := 39) hx hb dX11_countNets_33 (by decide) (fun c_4 => ?_) (fun c_4 => ?_)
        · -- t 39
          have hjn := (joC_eq (by omega) hn4 (NX_ch (x := x1) hn4) NB_nt own_nt (nt_16 hn4)).symm.trans c_4
          have hvl := verd_le (CN n1 (ntC n1 x1) r1 (startN n1) (1 <<< n1 - 1))
          refine lv_aload_n hx hb dX11_countNets_39 rfl (lv_at hl 1 rfl) ?_
          refine va_get (D := E.1) (ci := 9) (v := .ref (ca 5)) (C := RX11) (T := TX11) (N := 13) hx hb hts iX11 hown hK hP 0 rfl rfl 11 (by decide) (hts _ kw_115) (fun _ h9 => h9) rfl dX11_countNets_40 ?_
          refine lv_iload_n hx hb dX11_countNets_43 rfl (lv_at hl 4 rfl) ?_
          refine lv_iconst (v := nI 3) hx hb dX11_countNets_44 (by decide) ?_
          refine n_iadd hx hb dX11_countNets_45 ?_
          refine lv_dup2_11 hx hb dX11_countNets_46 rfl rfl ?_
          refine n_iald (f := fun j => nI (Ncb j)) hx hb hK hP 10 rfl (by omega) (by decide) dX11_countNets_47 ?_
          refine lv_iconst (v := nI 1) hx hb dX11_countNets_48 (by decide) ?_
          refine n_iadd hx hb dX11_countNets_49 ?_
          refine n_iast hx hb hK hP hD hS 10 rfl (by omega) (by decide) dX11_countNets_50 (fun H locs hP hD hS => ?_)
          have hP : va_P E.1 vwCl (onW E ca ra ao C Kb ub Alb Gdb Fwb Mob K2 u2 (va_up Ncb (a1 + 3) ((Ncb (a1 + 3)) + 1))) H := hP
          have hD : va_D A (onW E ca ra ao C Kb ub Alb Gdb Fwb Mob K2 u2 (va_up Ncb (a1 + 3) ((Ncb (a1 + 3)) + 1))) := hD
          refine lv_aload_n hx hb dX11_countNets_51 rfl (lv_at hl 1 rfl) ?_
          refine va_get (D := E.1) (ci := 9) (v := .ref (ca 5)) (C := RX11) (T := TX11) (N := 13) hx hb hts iX11 hown hK hP 0 rfl rfl 11 (by decide) (hts _ kw_115) (fun _ h9 => h9) rfl dX11_countNets_52 ?_
          refine lv_iload_n hx hb dX11_countNets_55 rfl (lv_at hl 4 rfl) ?_
          refine lv_aload_n hx hb dX11_countNets_56 rfl (lv_at hl 1 rfl) ?_
          refine va_get (D := E.1) (ci := 9) (v := .ref (ra 0)) (C := RX11) (T := TX11) (N := 13) hx hb hts iX11 hown hK hP 0 rfl rfl 7 (by decide) (hts _ kw_111) (fun _ h9 => h9) rfl dX11_countNets_57 ?_
          refine lv_iload_n hx hb dX11_countNets_60 rfl (lv_at hl 2 rfl) ?_
          refine lv_iload hx hb dX11_countNets_61 (lv_at hl 0 rfl) ?_
          refine cS_p (rest := [.ref (ra 0), .int (nI a1), .ref (ca 5)]) hC (k_first l n1 (chN n1 x1) (by omega) (by omega)) kw_210 sy_X5_first ⟨Nat.le_of_ble_eq_true rfl, Nat.le_of_ble_eq_true rfl⟩ ⟨rfl, rfl⟩ rfl hl.1 rfl (Nat.le_of_ble_eq_true rfl) dX11_countNets_63 ⟨Nat.le_of_ble_eq_true rfl, Nat.le_of_ble_eq_true rfl⟩ ?_
          refine lv_iload_n hx hb dX11_countNets_66 rfl (lv_at hl 3 rfl) ?_
          refine cV_wr (X := [oC ca ra ao C]) (Y := [(ca 5, .inl (E.2 1, 48, .inl (fun j => nI ((va_up Ncb (a1 + 3) ((Ncb (a1 + 3)) + 1)) j))))]) (rest := [.int (nI a1), .ref (ca 5)]) hC (k_judge l E ra Kb ub Alb Gdb Fwb Mob K2 u2 n1 (ntC n1 x1) r1 (by omega) hn4 NB_nt hr1 _ _ _ (frS n1 (chN n1 x1) n1) (Pst_first (by omega) hn4 (NX_ch hn4) r1 r1) hBb hVb _) kw_455 iy_X6_judge ⟨Nat.le_of_ble_eq_true rfl, Nat.le_of_ble_eq_true rfl⟩ ⟨rfl, rfl⟩ hK hP hD hS hA rfl (va_recv hK hP (ci := 4) (q0 := 1) rfl rfl) rfl hl.1 rfl (Nat.le_of_ble_eq_true rfl) dX11_countNets_67 ⟨Nat.le_of_ble_eq_true rfl, Nat.le_of_ble_eq_true rfl⟩ (fun v_ w_ H locs hpost hP hD hS => ?_)
          obtain ⟨rfl, Kd, ud, Ald, Gdd, Fwd, Mod, rfl, hBd, hVd⟩ := hpost
          have hP : va_P E.1 vwCl (onW E ca ra ao C Kd ud Ald Gdd Fwd Mod K2 u2 (va_up Ncb (a1 + 3) ((Ncb (a1 + 3)) + 1))) H := hP
          have hD : va_D A (onW E ca ra ao C Kd ud Ald Gdd Fwd Mod K2 u2 (va_up Ncb (a1 + 3) ((Ncb (a1 + 3)) + 1))) := hD
          refine W.eq (g2 := F0 m 70 ls [.int (nI (verd (CN n1 (ntC n1 x1) r1 (startN n1) (tkR r1 (1 <<< n1 - 1) (1 <<< n1 - 1))))), .int (nI a1), .ref (ca 5)]) rfl ?_
          refine top_i (congrArg (fun z => nI (verd (CN n1 (ntC n1 x1) r1 (startN n1) z))) (tkR_s r1 (1 <<< n1 - 1))) ?_
          refine n_iadd hx hb dX11_countNets_70 ?_
          refine lv_dup2_11 hx hb dX11_countNets_71 rfl rfl ?_
          refine n_iald (f := fun j => nI ((va_up Ncb (a1 + 3) ((Ncb (a1 + 3)) + 1)) j)) hx hb hK hP 10 rfl (by omega) (by decide) dX11_countNets_72 ?_
          refine lv_iconst (v := nI 1) hx hb dX11_countNets_73 (by decide) ?_
          refine n_iadd hx hb dX11_countNets_74 ?_
          refine n_iast hx hb hK hP hD hS 10 rfl (by omega) (by decide) dX11_countNets_75 (fun H locs hP hD hS => ?_)
          have hP : va_P E.1 vwCl (onW E ca ra ao C Kd ud Ald Gdd Fwd Mod K2 u2 (va_up (va_up Ncb (a1 + 3) ((Ncb (a1 + 3)) + 1)) (a1 + (verd (CN n1 (ntC n1 x1) r1 (startN n1) (1 <<< n1 - 1)))) (((va_up Ncb (a1 + 3) ((Ncb (a1 + 3)) + 1)) (a1 + (verd (CN n1 (ntC n1 x1) r1 (startN n1) (1 <<< n1 - 1))))) + 1))) H := hP
          have hD : va_D A (onW E ca ra ao C Kd ud Ald Gdd Fwd Mod K2 u2 (va_up (va_up Ncb (a1 + 3) ((Ncb (a1 + 3)) + 1)) (a1 + (verd (CN n1 (ntC n1 x1) r1 (startN n1) (1 <<< n1 - 1)))) (((va_up Ncb (a1 + 3) ((Ncb (a1 + 3)) + 1)) (a1 + (verd (CN n1 (ntC n1 x1) r1 (startN n1) (1 <<< n1 - 1))))) + 1))) := hD
          refine lv_iinc (v := nI (x1 + 1)) (lv' := [(5, .int (nI (x1 + 1))), (6, .int (nI (chN n1 x1))), (0, .ref (ca 0)), (1, .int (nI n1)), (2, .int (nI r1)), (3, .int (nI a1)), (4, .int (nI (1 <<< (n1 * (n1 - 1)))))]) hx hb dX11_countNets_76 hl (k := 6) rfl (ii_1 _) (by decide) rfl (fun ls hl => ?_)
          refine lv_goto (tgt := 12) hx hb dX11_countNets_79 (by decide) ?_
          exact ih_lp_1 (x1 + 1) Kd ud Ald Gdd Fwd Mod (va_up (va_up Ncb (a1 + 3) ((Ncb (a1 + 3)) + 1)) (a1 + (verd (CN n1 (ntC n1 x1) r1 (startN n1) (1 <<< n1 - 1)))) (((va_up Ncb (a1 + 3) ((Ncb (a1 + 3)) + 1)) (a1 + (verd (CN n1 (ntC n1 x1) r1 (startN n1) (1 <<< n1 - 1))))) + 1)) (by omega) hBd hVd (NcX_yes hNb hjn) (by omega) H locs hP hD hS ls (lv_sub hl [2, 3, 4, 5, 6, 0] rfl)
        · -- f 36
          have hjn := (joC_eq (by omega) hn4 (NX_ch (x := x1) hn4) NB_nt own_nt (nt_16 hn4)).symm.trans c_4
          refine lv_goto (tgt := 76) hx hb dX11_countNets_36 (by decide) ?_
          refine lv_iinc (v := nI (x1 + 1)) (lv' := [(5, .int (nI (x1 + 1))), (6, .int (nI (chN n1 x1))), (0, .ref (ca 0)), (1, .int (nI n1)), (2, .int (nI r1)), (3, .int (nI a1)), (4, .int (nI (1 <<< (n1 * (n1 - 1)))))]) hx hb dX11_countNets_76 hl (k := 6) rfl (ii_1 _) (by decide) rfl (fun ls hl => ?_)
          refine lv_goto (tgt := 12) hx hb dX11_countNets_79 (by decide) ?_
          exact ih_lp_1 (x1 + 1) Kb ub Alb Gdb Fwb Mob Ncb (by omega) hBb hVb (NcX_no hNb hjn) (by omega) H locs hP hD hS ls (lv_sub hl [2, 3, 4, 5, 6, 0] rfl)
  exact lp_1 _ 0 K u Al Gd Fw Mo Nc (Nat.zero_le _) hB hV NcX_0 (Nat.lt_succ_self _) H locs hP hD hS ls (lv_sub hl [2, 3, 4, 5, 1, 0] rfl)

set_option maxHeartbeats 4000000 in
set_option maxRecDepth 100000 in
theorem k_nets (l : Launch) (E : EE) (ca ra : Nat → Nat) (ao : Nat) (C : Nat → Nat) (K : Nat → Nat) (u : Nat) (Al Gd Fw Mo : Nat → Nat) (K2 : Nat → Nat) (u2 : Nat) (Nc : Nat → Nat) (hB : TBt K u) (hV : VI K Al Gd Fw Mo) (hI : NI (C 12) Nc) (a1 a2 a3 : Int32) (sz : Nat) : Wr l yX11_nets cX11_nets 5 (some .int) rm_X11_nets 0 0 E (onW E ca ra ao C K u Al Gd Fw Mo K2 u2 Nc) sz [.ref (ca 0), .int a1, .int a2, .int a3] (fun v1 w1 => v1 = some (.int (s_nets a1 a2 a3)) ∧ ∃ (nf : Nat) (N2 K : Nat → Nat) (u : Nat) (Al Gd Fw Mo : Nat → Nat), w1 = onW E ca ra ao (va_up C 12 nf) K u Al Gd Fw Mo K2 u2 N2 ∧ NI nf N2 ∧ TBt K u ∧ VI K Al Gd Fw Mo) := by
  refine mk_wr (by decide) (Nat.le_of_ble_eq_true rfl) ?_
  intro p e s m args below meth c hC hin hK A hA hP hD hS ls hl
  obtain ⟨hx, hb, hr, hts, hown, hml, hlk, hN⟩ := id hC
  have hl : lv_has ls 5 [(0, .ref (ca 0)), (1, .int a1), (2, .int a2), (3, .int a3)] := hl
  have hnf := hI.1
  obtain ⟨H, hH⟩ : ∃ z, z = s.heap := ⟨_, rfl⟩
  have hS : va_S A s.heap H [] := by rw [hH]; exact hS
  rw [← hH] at hP
  refine W_heap hH ?_
  obtain ⟨locs, hlo⟩ : ∃ z : List Loc, z = [] := ⟨_, rfl⟩
  rw [← hlo] at hS ⊢
  refine lv_aload_n hx hb dX11_nets_0 rfl (lv_at hl 0 rfl) ?_
  refine lv_iload_n hx hb dX11_nets_1 rfl (lv_at hl 2 rfl) ?_
  refine cV_r (rest := []) hC (k_isRule l E ca ra ao C a2) kw_364 iy_X11_isRule ⟨Nat.le_of_ble_eq_true rfl, Nat.le_of_ble_eq_true rfl⟩ ⟨rfl, rfl⟩ hK (show va_P E.1 vwCl (oW ca ra ao C) H from va_P_mem.mpr fun q9 h9 => va_P_mem.mp hP q9 (by rw [List.mem_singleton.mp h9]; exact List.mem_cons_self)) (va_recv hK hP (ci := 9) (q0 := 0) rfl rfl) rfl hl.1 rfl (Nat.le_of_ble_eq_true rfl) dX11_nets_2 ⟨Nat.le_of_ble_eq_true rfl, Nat.le_of_ble_eq_true rfl⟩ ?_
  refine b_if_ne (tgt := 10) hx hb dX11_nets_5 (by decide) (fun c_1 => ?_) (fun c_1 => ?_)
  · -- t 10
    obtain ⟨r1, hr1, rfl⟩ := isIn_nat (by decide) c_1
    have hl : lv_has ls 5 [(0, .ref (ca 0)), (1, .int a1), (2, .int (nI r1)), (3, .int a3)] := hl
    refine lv_iload_n hx hb dX11_nets_10 rfl (lv_at hl 1 rfl) ?_
    refine lv_iconst (v := nI 1) hx hb dX11_nets_11 (by decide) ?_
    refine lv_icmp_lt (tgt := 29) hx hb dX11_nets_12 (by decide) (fun c_2 => ?_) (fun c_2 => ?_)
    · -- t 29
      refine lv_bipush (v := -2) hx hb dX11_nets_29 (by decide) ?_
      exact rw_i hC rfl hP hD hS (⟨by rw [s_nets, if_neg (by rw [nat_isIn (by decide) hr1]; decide), if_pos (isIn_f1 (by assumption))], C 12, Nc, K, u, Al, Gd, Fw, Mo, by rw [vu_id], hI, hB, hV⟩) dX11_nets_31 (Nat.le_of_ble_eq_true rfl) (Nat.le_of_ble_eq_true rfl)
    · -- f 15
      refine lv_iload_n hx hb dX11_nets_15 rfl (lv_at hl 1 rfl) ?_
      refine lv_iconst (v := nI 3) hx hb dX11_nets_16 (by decide) ?_
      refine lv_icmp_gt (tgt := 29) hx hb dX11_nets_17 (by decide) (fun c_3 => ?_) (fun c_3 => ?_)
      · -- t 29
        refine lv_bipush (v := -2) hx hb dX11_nets_29 (by decide) ?_
        exact rw_i hC rfl hP hD hS (⟨by rw [s_nets, if_neg (by rw [nat_isIn (by decide) hr1]; decide), if_pos (isIn_f2 (by assumption))], C 12, Nc, K, u, Al, Gd, Fw, Mo, by rw [vu_id], hI, hB, hV⟩) dX11_nets_31 (Nat.le_of_ble_eq_true rfl) (Nat.le_of_ble_eq_true rfl)
      · -- f 20
        refine lv_iload_n hx hb dX11_nets_20 rfl (lv_at hl 3 rfl) ?_
        refine lv_if_lt (tgt := 29) hx hb dX11_nets_21 (by decide) (fun c_4 => ?_) (fun c_4 => ?_)
        · -- t 29
          refine lv_bipush (v := -2) hx hb dX11_nets_29 (by decide) ?_
          exact rw_i hC rfl hP hD hS (⟨by rw [s_nets, if_neg (by rw [nat_isIn (by decide) hr1]; decide), if_neg (by rw [isIn_t (by assumption) (by assumption)]; decide), if_pos (isIn_z1 (by assumption))], C 12, Nc, K, u, Al, Gd, Fw, Mo, by rw [vu_id], hI, hB, hV⟩) dX11_nets_31 (Nat.le_of_ble_eq_true rfl) (Nat.le_of_ble_eq_true rfl)
        · -- f 24
          refine lv_iload_n hx hb dX11_nets_24 rfl (lv_at hl 3 rfl) ?_
          refine lv_iconst (v := nI 4) hx hb dX11_nets_25 (by decide) ?_
          refine lv_icmp_lt (tgt := 32) hx hb dX11_nets_26 (by decide) (fun c_5 => ?_) (fun c_5 => ?_)
          · -- t 32
            have hi1 : isIn a1 (nI 1) (nI 3) = true := isIn_t (by assumption) (by assumption)
            have hi3 : isIn a3 (nI 0) (nI 3) = true := lt4_isIn (by assumption) (by assumption)
            obtain ⟨n1, hn1, hn3, rfl⟩ := isIn_1 (by decide) hi1
            obtain ⟨w1, hw1, rfl⟩ := isIn_nat (by decide) hi3
            have hl : lv_has ls 5 [(0, .ref (ca 0)), (1, .int (nI n1)), (2, .int (nI r1)), (3, .int (nI w1))] := hl
            refine lv_iload_n hx hb dX11_nets_32 rfl (lv_at hl 1 rfl) ?_
            refine lv_iconst (v := nI 1) hx hb dX11_nets_33 (by decide) ?_
            refine n_isub hx hb (by omega) dX11_nets_34 ?_
            refine lv_iconst (v := nI 4) hx hb dX11_nets_35 (by decide) ?_
            refine n_imul hx hb dX11_nets_36 ?_
            refine lv_iload_n hx hb dX11_nets_37 rfl (lv_at hl 2 rfl) ?_
            refine n_iadd hx hb dX11_nets_38 ?_
            refine lv_istore (lv' := [(4, .int (nI (((n1 - 1) * 4) + r1))), (0, .ref (ca 0)), (1, .int (nI n1)), (2, .int (nI r1)), (3, .int (nI w1))]) hx hb dX11_nets_39 hl (by decide) rfl (fun ls hl => ?_)
            refine lv_aload_n hx hb dX11_nets_41 rfl (lv_at hl 1 rfl) ?_
            refine va_get (D := E.1) (ci := 9) (v := .int (nI (C 12))) (C := RX11) (T := TX11) (N := 13) hx hb hts iX11 hown hK hP 0 rfl rfl 12 (by decide) (hts _ kw_116) (fun _ h9 => h9) rfl dX11_nets_42 ?_
            refine lv_iload hx hb dX11_nets_45 (lv_at hl 0 rfl) ?_
            refine cS_p (rest := []) hC (k_contains l (C 12) (((n1 - 1) * 4) + r1) (by omega) (by omega)) kw_261 sy_X11_contains ⟨Nat.le_of_ble_eq_true rfl, Nat.le_of_ble_eq_true rfl⟩ ⟨rfl, rfl⟩ rfl hl.1 rfl (Nat.le_of_ble_eq_true rfl) dX11_nets_47 ⟨Nat.le_of_ble_eq_true rfl, Nat.le_of_ble_eq_true rfl⟩ ?_
            refine b_if_ne (tgt := 76) hx hb dX11_nets_50 (by decide) (fun c_6 => ?_) (fun c_6 => ?_)
            · -- t 76
              have hbt := c_6
              refine lv_aload_n hx hb dX11_nets_76 rfl (lv_at hl 1 rfl) ?_
              refine va_get (D := E.1) (ci := 9) (v := .ref (ca 5)) (C := RX11) (T := TX11) (N := 13) hx hb hts iX11 hown hK hP 0 rfl rfl 11 (by decide) (hts _ kw_115) (fun _ h9 => h9) rfl dX11_nets_77 ?_
              refine lv_iconst (v := nI 4) hx hb dX11_nets_80 (by decide) ?_
              refine lv_iload hx hb dX11_nets_81 (lv_at hl 0 rfl) ?_
              refine n_imul hx hb dX11_nets_83 ?_
              refine lv_iload_n hx hb dX11_nets_84 rfl (lv_at hl 4 rfl) ?_
              refine n_iadd hx hb dX11_nets_85 ?_
              refine n_iald (f := fun j => nI (Nc j)) hx hb hK hP 10 rfl (by omega) (by decide) dX11_nets_86 ?_
              exact rw_i hC rfl hP hD hS (⟨by rw [s_nets, if_neg (by rw [nat_isIn (by decide) hr1]; decide), if_neg (by rw [hi1]; decide), if_neg (by rw [hi3]; decide), nI_clamp (by omega), nI_clamp (by omega), nI_clamp (by omega), hI.2 n1 r1 w1 hn1 hn3 (by omega) (by omega), if_pos (hbt)], C 12, Nc, K, u, Al, Gd, Fw, Mo, by rw [vu_id], hI, hB, hV⟩) dX11_nets_87 (Nat.le_of_ble_eq_true rfl) (Nat.le_of_ble_eq_true rfl)
            · -- f 53
              have hbt := c_6
              refine lv_aload_n hx hb dX11_nets_53 rfl (lv_at hl 1 rfl) ?_
              refine lv_iload_n hx hb dX11_nets_54 rfl (lv_at hl 2 rfl) ?_
              refine lv_iload_n hx hb dX11_nets_55 rfl (lv_at hl 3 rfl) ?_
              refine lv_iconst (v := nI 4) hx hb dX11_nets_56 (by decide) ?_
              refine lv_iload hx hb dX11_nets_57 (lv_at hl 0 rfl) ?_
              refine n_imul hx hb dX11_nets_59 ?_
              refine cV_w0 (rest := []) hC (k_countNets l E ca ra ao C K u Al Gd Fw Mo K2 u2 Nc hB hV n1 r1 (4 * (((n1 - 1) * 4) + r1)) hn1 hn3 (by omega) (by omega) _) kw_595 iy_X11_countNets ⟨Nat.le_of_ble_eq_true rfl, Nat.le_of_ble_eq_true rfl⟩ ⟨rfl, rfl⟩ hK hP hD hS hA (va_recv hK hP (ci := 9) (q0 := 0) rfl rfl) rfl hl.1 rfl (Nat.le_of_ble_eq_true rfl) dX11_nets_60 ⟨Nat.le_of_ble_eq_true rfl, Nat.le_of_ble_eq_true rfl⟩ (fun v_ w_ H locs hpost hP hD hS => ?_)
              obtain ⟨rfl, Nc1, K1, u1, Al1, Gd1, Fw1, Mo1, rfl, hN1, hB1, hV1⟩ := hpost
              refine W.eq (g2 := F0 m 63 ls []) rfl ?_
              refine lv_aload_n hx hb dX11_nets_63 rfl (lv_at hl 1 rfl) ?_
              refine lv_dup hx hb dX11_nets_64 rfl ?_
              refine va_get (D := E.1) (ci := 9) (v := .int (nI (C 12))) (C := RX11) (T := TX11) (N := 13) hx hb hts iX11 hown hK hP 0 rfl rfl 12 (by decide) (hts _ kw_116) (fun _ h9 => h9) rfl dX11_nets_65 ?_
              refine lv_iconst (v := nI 1) hx hb dX11_nets_68 (by decide) ?_
              refine lv_iload hx hb dX11_nets_69 (lv_at hl 0 rfl) ?_
              refine n_ishl hx hb (by omega) dX11_nets_71 ?_
              refine n_ior hx hb dX11_nets_72 ?_
              refine va_put (D := E.1) (ci := 9) (v := .int (nI ((C 12) ||| (1 <<< (((n1 - 1) * 4) + r1))))) (ty := .int) (C := RX11) (T := TX11) (N := 13) hx hb hts iX11 tyX11 tyX11_ok nmX11 hown hK hP hD hS 0 rfl rfl 12 (by decide) (hts _ kw_116) (fun _ h9 => h9) rfl (by decide +kernel) rfl rfl (Nat.le_of_ble_eq_true rfl) dX11_nets_73 (fun H locs hP hD hS => ?_)
              have hP : va_P E.1 vwCl (onW E ca ra ao (va_up C 12 ((C 12) ||| (1 <<< (((n1 - 1) * 4) + r1)))) K1 u1 Al1 Gd1 Fw1 Mo1 K2 u2 Nc1) H := hP
              have hD : va_D A (onW E ca ra ao (va_up C 12 ((C 12) ||| (1 <<< (((n1 - 1) * 4) + r1)))) K1 u1 Al1 Gd1 Fw1 Mo1 K2 u2 Nc1) := hD
              refine lv_aload_n hx hb dX11_nets_76 rfl (lv_at hl 1 rfl) ?_
              refine va_get (D := E.1) (ci := 9) (v := .ref (ca 5)) (C := RX11) (T := TX11) (N := 13) hx hb hts iX11 hown hK hP 0 rfl rfl 11 (by decide) (hts _ kw_115) (fun _ h9 => h9) rfl dX11_nets_77 ?_
              refine lv_iconst (v := nI 4) hx hb dX11_nets_80 (by decide) ?_
              refine lv_iload hx hb dX11_nets_81 (lv_at hl 0 rfl) ?_
              refine n_imul hx hb dX11_nets_83 ?_
              refine lv_iload_n hx hb dX11_nets_84 rfl (lv_at hl 4 rfl) ?_
              refine n_iadd hx hb dX11_nets_85 ?_
              have hI2 := NI_put hI hn1 hn3 (by omega) hbt hN1
              refine n_iald (f := fun j => nI (Nc1 j)) hx hb hK hP 10 rfl (by omega) (by decide) dX11_nets_86 ?_
              exact rw_i hC rfl hP hD hS (⟨by rw [s_nets, if_neg (by rw [nat_isIn (by decide) hr1]; decide), if_neg (by rw [hi1]; decide), if_neg (by rw [hi3]; decide), nI_clamp (by omega), nI_clamp (by omega), nI_clamp (by omega), hI2.2 n1 r1 w1 hn1 hn3 (by omega) (by omega), if_pos (bit_or _ _)], _, _, K1, u1, Al1, Gd1, Fw1, Mo1, rfl, hI2, hB1, hV1⟩) dX11_nets_87 (Nat.le_of_ble_eq_true rfl) (Nat.le_of_ble_eq_true rfl)
          · -- f 29
            refine lv_bipush (v := -2) hx hb dX11_nets_29 (by decide) ?_
            exact rw_i hC rfl hP hD hS (⟨by rw [s_nets, if_neg (by rw [nat_isIn (by decide) hr1]; decide), if_neg (by rw [isIn_t (by assumption) (by assumption)]; decide), if_pos (ge4_isIn (by assumption))], C 12, Nc, K, u, Al, Gd, Fw, Mo, by rw [vu_id], hI, hB, hV⟩) dX11_nets_31 (Nat.le_of_ble_eq_true rfl) (Nat.le_of_ble_eq_true rfl)
  · -- f 8
    refine lv_iconst (v := -1) hx hb dX11_nets_8 (by decide) ?_
    exact rw_i hC rfl hP hD hS (⟨by rw [s_nets, if_pos c_1], C 12, Nc, K, u, Al, Gd, Fw, Mo, by rw [vu_id], hI, hB, hV⟩) dX11_nets_9 (Nat.le_of_ble_eq_true rfl) (Nat.le_of_ble_eq_true rfl)
