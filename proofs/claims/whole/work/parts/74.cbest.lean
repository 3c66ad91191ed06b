set_option maxHeartbeats 4000000 in
set_option maxRecDepth 100000 in
theorem k_bestPair (l : Launch) (E : EE) (ra : Nat → Nat) (K : Nat → Nat) (u : Nat) (Al Gd Fw Mo : Nat → Nat) (K2 : Nat → Nat) (u2 : Nat) (nn : Nat) (net : Nat → Nat) (rr : Nat) (h1 : 0 < nn) (hn : nn ≤ 4) (hnb : NB nn net) (hr4 : rr < 4) (st t2 t3 x0 : Nat) (hs : Pst nn net rr rr st t2 t3 x0) (hB : TBt K u) (hV : VI K Al Gd Fw Mo) (sz : Nat) : Wr l yX6_bestPair cX6_bestPair 9 (some .int) rm_X6_bestPair 0 0 E (rW E ra K u Al Gd Fw Mo K2 u2) sz [.ref (ra 0), .long (lN x0), .int (nI rr)] (fun v1 w1 => ∃ xx, v1 = some (.int xx) ∧ bpR nn net rr st (tkR rr t2 t3) xx ∧ ∃ (K : Nat → Nat) (u : Nat) (Al Gd Fw Mo : Nat → Nat), w1 = rW E ra K u Al Gd Fw Mo K2 u2 ∧ TBt K u ∧ VI K Al Gd Fw Mo) := by
  refine mk_wr (by decide) (Nat.le_of_ble_eq_true rfl) ?_
  intro p e s m args below meth c hC hin hK A hA hP hD hS ls hl
  obtain ⟨hx, hb, hr, hts, hown, hml, hlk, hN⟩ := id hC
  have hl : lv_has ls 9 [(0, .ref (ra 0)), (1, .long (lN x0)), (3, .int (nI rr))] := hl
  have hps := hs.1.ps
  have hx0 := hs.1.lt
  obtain ⟨H, hH⟩ : ∃ z, z = s.heap := ⟨_, rfl⟩
  have hS : va_S A s.heap H [] := by rw [hH]; exact hS
  rw [← hH] at hP
  refine W_heap hH ?_
  obtain ⟨locs, hlo⟩ : ∃ z : List Loc, z = [] := ⟨_, rfl⟩
  rw [← hlo] at hS ⊢
  refine lv_aload_n hx hb dX6_bestPair_0 rfl (lv_at hl 0 rfl) ?_
  refine lv_lload_n hx hb dX6_bestPair_1 rfl (lv_at hl 1 rfl) ?_
  refine lv_iload_n hx hb dX6_bestPair_2 rfl (lv_at hl 2 rfl) ?_
  refine cV_w0 (rest := []) hC (k_fewest l E ra K u Al Gd Fw Mo K2 u2 nn net rr h1 hn hnb hr4 st t2 t3 x0 hs hB hV _) kw_483 iy_X6_fewest ⟨Nat.le_of_ble_eq_true rfl, Nat.le_of_ble_eq_true rfl⟩ ⟨rfl, rfl⟩ hK hP hD hS hA (va_recv hK hP (ci := 4) (q0 := 0) rfl rfl) rfl hl.1 rfl (Nat.le_of_ble_eq_true rfl) dX6_bestPair_3 ⟨Nat.le_of_ble_eq_true rfl, Nat.le_of_ble_eq_true rfl⟩ (fun v_ w_ H locs hpost hP hD hS => ?_)
  obtain ⟨rfl, K1, u1, Al1, Gd1, Fw1, Mo1, rfl, hB1, hV1⟩ := hpost
  refine W.eq (g2 := F0 m 6 ls [.int (fewT (CN nn net rr st (tkR rr t2 t3)))]) rfl ?_
  by_cases hg0 : (CN nn net rr st (tkR rr t2 t3)).2.1 = 0
  ·
    refine top_i (show fewT (CN nn net rr st (tkR rr t2 t3)) = -9 from by unfold fewT; rw [if_pos hg0]) ?_
    refine lv_istore (lv' := [(4, .int (-9)), (0, .ref (ra 0)), (1, .long (lN x0)), (3, .int (nI rr))]) hx hb dX6_bestPair_6 hl (by decide) rfl (fun ls hl => ?_)
    refine lv_iload hx hb dX6_bestPair_8 (lv_at hl 0 rfl) ?_
    refine lv_bipush (v := -9) hx hb dX6_bestPair_10 (by decide) ?_
    refine lv_icmp_eq (tgt := 20) hx hb dX6_bestPair_12 (by decide) (fun c_1 => ?_) (fun c_1 => ?_)
    · -- t 20
      refine lv_bipush (v := -9) hx hb dX6_bestPair_20 (by decide) ?_
      exact rw_i hC rfl hP hD hS (⟨_, rfl, Or.inr ⟨fun i hi => Bool.eq_false_iff.mpr (fun h8 => by have h9 := best_good hn hs.2.1 hi h8; omega), rfl⟩, K1, u1, Al1, Gd1, Fw1, Mo1, rfl, hB1, hV1⟩) dX6_bestPair_22 (Nat.le_of_ble_eq_true rfl) (Nat.le_of_ble_eq_true rfl)
    · -- f 15
      exact absurd rfl c_1
  ·
    refine top_i (show fewT (CN nn net rr st (tkR rr t2 t3)) = nI (CN nn net rr st (tkR rr t2 t3)).2.2.1 from by unfold fewT; rw [if_neg hg0]) ?_
    have hfm := CN_fm (show 0 < (CN nn net rr st (tkR rr t2 t3)).2.1 by omega)
    refine lv_istore (lv' := [(4, .int (nI ((CN nn net rr st (tkR rr t2 t3)).2.2.1))), (0, .ref (ra 0)), (1, .long (lN x0)), (3, .int (nI rr))]) hx hb dX6_bestPair_6 hl (by decide) rfl (fun ls hl => ?_)
    refine lv_iload hx hb dX6_bestPair_8 (lv_at hl 0 rfl) ?_
    refine lv_bipush (v := -9) hx hb dX6_bestPair_10 (by decide) ?_
    refine lv_icmp_eq (tgt := 20) hx hb dX6_bestPair_12 (by decide) (fun c_2 => ?_) (fun c_2 => ?_)
    · -- t 20
      exact absurd c_2 (fun e9 => by have h8 := congrArg Int32.toInt e9; rw [nI_toInt (by omega)] at h8; have h7 : (-9 : Int32).toInt = -9 := (by decide); omega)
    · -- f 15
      refine lv_iload hx hb dX6_bestPair_15 (lv_at hl 0 rfl) ?_
      refine n_if_ne (tgt := 23) hx hb (by omega) dX6_bestPair_17 (by decide) (fun c_3 => ?_) (fun c_3 => ?_)
      · -- t 23
        refine lv_lload_n hx hb dX6_bestPair_23 rfl (lv_at hl 2 rfl) ?_
        refine cS_p (rest := []) hC (k_persons l x0 (by omega)) kw_415 sy_X5_persons ⟨Nat.le_of_ble_eq_true rfl, Nat.le_of_ble_eq_true rfl⟩ ⟨rfl, rfl⟩ rfl hl.1 rfl (Nat.le_of_ble_eq_true rfl) dX6_bestPair_24 ⟨Nat.le_of_ble_eq_true rfl, Nat.le_of_ble_eq_true rfl⟩ ?_
        refine top_i (congrArg nI hs.1.ps) ?_
        refine lv_istore (lv' := [(5, .int (nI nn)), (4, .int (nI ((CN nn net rr st (tkR rr t2 t3)).2.2.1))), (0, .ref (ra 0)), (1, .long (lN x0)), (3, .int (nI rr))]) hx hb dX6_bestPair_27 hl (by decide) rfl (fun ls hl => ?_)
        refine lv_iconst (v := nI 0) hx hb dX6_bestPair_29 (by decide) ?_
        refine lv_istore (lv' := [(6, .int (nI 0)), (5, .int (nI nn)), (4, .int (nI ((CN nn net rr st (tkR rr t2 t3)).2.2.1))), (0, .ref (ra 0)), (1, .long (lN x0)), (3, .int (nI rr))]) hx hb dX6_bestPair_30 hl (by decide) rfl (fun ls hl => ?_)
        have lp_4 : ∀ (n_lp_4 : Nat) (p1 : Nat) (Kb : Nat → Nat) (ub : Nat) (Alb Gdb Fwb Mob : Nat → Nat) (hp1 : p1 ≤ nn) (hBb : TBt Kb ub) (hVb : VI Kb Alb Gdb Fwb Mob) (hbb : ∀ i, i < 4 * p1 → bestB nn net rr st (tkR rr t2 t3) i = false), nn - p1 < n_lp_4 → ∀ (H : Heap) (locs : List Loc) (hP : va_P E.1 vwCl (rW E ra Kb ub Alb Gdb Fwb Mob K2 u2) H) (hD : va_D A (rW E ra Kb ub Alb Gdb Fwb Mob K2 u2)) (hS : va_S A s.heap H locs) (ls : Array Slot), lv_has ls 9 [(0, .ref (ra 0)), (1, .long (lN x0)), (3, .int (nI rr)), (4, .int (nI ((CN nn net rr st (tkR rr t2 t3)).2.2.1))), (5, .int (nI nn)), (6, .int (nI p1))] → W p l e rm_X6_bestPair s m args below meth c H locs 0 0 (MQ below (wr_Q E A (fun v1 w1 => ∃ xx, v1 = some (.int xx) ∧ bpR nn net rr st (tkR rr t2 t3) xx ∧ ∃ (K : Nat → Nat) (u : Nat) (Al Gd Fw Mo : Nat → Nat), w1 = rW E ra K u Al Gd Fw Mo K2 u2 ∧ TBt K u ∧ VI K Al Gd Fw Mo)) args s 0 0 A) (F0 m 32 ls []) := by
          intro n_lp_4
          induction n_lp_4 with
          | zero => intro p1 Kb ub Alb Gdb Fwb Mob hp1 hBb hVb hbb; intro hm_lp_4; exact absurd hm_lp_4 (Nat.not_lt_zero _)
          | succ n_lp_4 ih_lp_4 =>
            intro p1 Kb ub Alb Gdb Fwb Mob hp1 hBb hVb hbb hm_lp_4 H locs hP hD hS ls hl
            refine lv_iload hx hb dX6_bestPair_32 (lv_at hl 5 rfl) ?_
            refine lv_iload hx hb dX6_bestPair_34 (lv_at hl 4 rfl) ?_
            refine n_icmp_ge (tgt := 111) hx hb (by omega) (by omega) dX6_bestPair_36 (by decide) (fun c_5 => ?_) (fun c_5 => ?_)
            · -- t 111
              refine lv_bipush (v := -9) hx hb dX6_bestPair_111 (by decide) ?_
              exact rw_i hC rfl hP hD hS (⟨_, rfl, Or.inr ⟨best_end (by omega) hbb, rfl⟩, Kb, ub, Alb, Gdb, Fwb, Mob, rfl, hBb, hVb⟩) dX6_bestPair_113 (Nat.le_of_ble_eq_true rfl) (Nat.le_of_ble_eq_true rfl)
            · -- f 39
              refine lv_lload_n hx hb dX6_bestPair_39 rfl (lv_at hl 1 rfl) ?_
              refine lv_iload_n hx hb dX6_bestPair_40 rfl (lv_at hl 2 rfl) ?_
              refine lv_iload hx hb dX6_bestPair_41 (lv_at hl 5 rfl) ?_
              refine cS_p (rest := []) hC (k_whomMay l x0 rr p1 (by omega) (by omega) (by omega) (by omega)) kw_416 sy_X5_whomMay ⟨Nat.le_of_ble_eq_true rfl, Nat.le_of_ble_eq_true rfl⟩ ⟨rfl, rfl⟩ rfl hl.1 rfl (Nat.le_of_ble_eq_true rfl) dX6_bestPair_43 ⟨Nat.le_of_ble_eq_true rfl, Nat.le_of_ble_eq_true rfl⟩ ?_
              have f_6 := whM_lt (by omega : pN x0 ≤ 4) rr p1
              refine lv_istore (lv' := [(7, .int (nI (whM x0 rr p1))), (0, .ref (ra 0)), (1, .long (lN x0)), (3, .int (nI rr)), (4, .int (nI ((CN nn net rr st (tkR rr t2 t3)).2.2.1))), (5, .int (nI nn)), (6, .int (nI p1))]) hx hb dX6_bestPair_46 hl (by decide) rfl (fun ls hl => ?_)
              refine lv_iconst (v := nI 0) hx hb dX6_bestPair_48 (by decide) ?_
              refine lv_istore (lv' := [(8, .int (nI 0)), (7, .int (nI (whM x0 rr p1))), (0, .ref (ra 0)), (1, .long (lN x0)), (3, .int (nI rr)), (4, .int (nI ((CN nn net rr st (tkR rr t2 t3)).2.2.1))), (5, .int (nI nn)), (6, .int (nI p1))]) hx hb dX6_bestPair_49 hl (by decide) rfl (fun ls hl => ?_)
              have lp_7 : ∀ (n_lp_7 : Nat) (q1 : Nat) (Kc : Nat → Nat) (uc : Nat) (Alc Gdc Fwc Moc : Nat → Nat) (hq1 : q1 ≤ nn) (hBc : TBt Kc uc) (hVc : VI Kc Alc Gdc Fwc Moc) (hbc : ∀ i, i < 4 * p1 + q1 → bestB nn net rr st (tkR rr t2 t3) i = false), nn - q1 < n_lp_7 → ∀ (H : Heap) (locs : List Loc) (hP : va_P E.1 vwCl (rW E ra Kc uc Alc Gdc Fwc Moc K2 u2) H) (hD : va_D A (rW E ra Kc uc Alc Gdc Fwc Moc K2 u2)) (hS : va_S A s.heap H locs) (ls : Array Slot), lv_has ls 9 [(0, .ref (ra 0)), (1, .long (lN x0)), (3, .int (nI rr)), (4, .int (nI ((CN nn net rr st (tkR rr t2 t3)).2.2.1))), (5, .int (nI nn)), (6, .int (nI p1)), (7, .int (nI (whM x0 rr p1))), (8, .int (nI q1))] → W p l e rm_X6_bestPair s m args below meth c H locs 0 0 (MQ below (wr_Q E A (fun v1 w1 => ∃ xx, v1 = some (.int xx) ∧ bpR nn net rr st (tkR rr t2 t3) xx ∧ ∃ (K : Nat → Nat) (u : Nat) (Al Gd Fw Mo : Nat → Nat), w1 = rW E ra K u Al Gd Fw Mo K2 u2 ∧ TBt K u ∧ VI K Al Gd Fw Mo)) args s 0 0 A) (F0 m 51 ls []) := by
                intro n_lp_7
                induction n_lp_7 with
                | zero => intro q1 Kc uc Alc Gdc Fwc Moc hq1 hBc hVc hbc; intro hm_lp_7; exact absurd hm_lp_7 (Nat.not_lt_zero _)
                | succ n_lp_7 ih_lp_7 =>
                  intro q1 Kc uc Alc Gdc Fwc Moc hq1 hBc hVc hbc hm_lp_7 H locs hP hD hS ls hl
                  refine lv_iload hx hb dX6_bestPair_51 (lv_at hl 7 rfl) ?_
                  refine lv_iload hx hb dX6_bestPair_53 (lv_at hl 4 rfl) ?_
                  refine n_icmp_ge (tgt := 105) hx hb (by omega) (by omega) dX6_bestPair_55 (by decide) (fun c_8 => ?_) (fun c_8 => ?_)
                  · -- t 105
                    refine lv_iinc (v := nI (p1 + 1)) (lv' := [(6, .int (nI (p1 + 1))), (0, .ref (ra 0)), (1, .long (lN x0)), (3, .int (nI rr)), (4, .int (nI ((CN nn net rr st (tkR rr t2 t3)).2.2.1))), (5, .int (nI nn)), (7, .int (nI (whM x0 rr p1))), (8, .int (nI q1))]) hx hb dX6_bestPair_105 hl (k := 5) rfl (ii_1 _) (by decide) rfl (fun ls hl => ?_)
                    refine lv_goto (tgt := 32) hx hb dX6_bestPair_108 (by decide) ?_
                    exact ih_lp_4 (p1 + 1) Kc uc Alc Gdc Fwc Moc (by omega) hBc hVc (best_row hn (by omega) hbc) (by omega) H locs hP hD hS ls (lv_sub hl [1, 2, 3, 4, 5, 0] rfl)
                  · -- f 58
                    refine lv_iload hx hb dX6_bestPair_58 (lv_at hl 6 rfl) ?_
                    refine lv_iload hx hb dX6_bestPair_60 (lv_at hl 7 rfl) ?_
                    refine cN_p (rest := []) hC (k_contains l (whM x0 rr p1) q1 (by omega) (by omega)) hN.2.2.2.1 sy_X11_contains ⟨Nat.le_of_ble_eq_true rfl, Nat.le_of_ble_eq_true rfl⟩ ⟨rfl, rfl⟩ rfl hl.1 rfl (Nat.le_of_ble_eq_true rfl) dX6_bestPair_62 ⟨Nat.le_of_ble_eq_true rfl, Nat.le_of_ble_eq_true rfl⟩ ?_
                    refine b_if_ne (tgt := 71) hx hb dX6_bestPair_65 (by decide) (fun c_9 => ?_) (fun c_9 => ?_)
                    · -- t 71
                      have hcv := (whM_cv hn hs.2.1 hnb hs.1 hr4 (by omega : p1 < nn) (by omega : q1 < nn)).symm.trans c_9
                      have hpq := cv_ne hn (by omega : p1 < nn) (by omega : q1 < nn) hcv
                      have hsn := Pst_ring hn hs (by omega : p1 < nn) (by omega : q1 < nn) hpq
                      have hbe := bestB_eq hn hr4 hs.2.1 (by omega : p1 < nn) (by omega : q1 < nn) hcv (by omega) (by omega)
                      refine lv_aload_n hx hb dX6_bestPair_71 rfl (lv_at hl 0 rfl) ?_
                      refine lv_lload_n hx hb dX6_bestPair_72 rfl (lv_at hl 1 rfl) ?_
                      refine lv_iload hx hb dX6_bestPair_73 (lv_at hl 5 rfl) ?_
                      refine lv_iload hx hb dX6_bestPair_75 (lv_at hl 7 rfl) ?_
                      refine cS_p (rest := [.ref (ra 0)]) hC (k_ring l x0 p1 q1 (by omega) (by omega) (by omega)) kw_418 sy_X5_ring ⟨Nat.le_of_ble_eq_true rfl, Nat.le_of_ble_eq_true rfl⟩ ⟨rfl, rfl⟩ rfl hl.1 rfl (Nat.le_of_ble_eq_true rfl) dX6_bestPair_77 ⟨Nat.le_of_ble_eq_true rfl, Nat.le_of_ble_eq_true rfl⟩ ?_
                      refine lv_iload_n hx hb dX6_bestPair_80 rfl (lv_at hl 2 rfl) ?_
                      refine cV_w0 (rest := []) hC (k_fewest l E ra Kc uc Alc Gdc Fwc Moc K2 u2 nn net rr h1 hn hnb hr4 (aft st p1 q1) (tokA t2 2 p1 q1) (tokA t3 3 p1 q1) (rng x0 p1 q1) hsn hBc hVc _) kw_483 iy_X6_fewest ⟨Nat.le_of_ble_eq_true rfl, Nat.le_of_ble_eq_true rfl⟩ ⟨rfl, rfl⟩ hK hP hD hS hA (va_recv hK hP (ci := 4) (q0 := 0) rfl rfl) rfl hl.1 rfl (Nat.le_of_ble_eq_true rfl) dX6_bestPair_81 ⟨Nat.le_of_ble_eq_true rfl, Nat.le_of_ble_eq_true rfl⟩ (fun v_ w_ H locs hpost hP hD hS => ?_)
                      obtain ⟨rfl, Kd, ud, Ald, Gdd, Fwd, Mod, rfl, hBd, hVd⟩ := hpost
                      refine W.eq (g2 := F0 m 84 ls [.int (fewT (CN nn net rr (aft st p1 q1) (tkR rr (tokA t2 2 p1 q1) (tokA t3 3 p1 q1))))]) rfl ?_
                      refine lv_iload hx hb dX6_bestPair_84 (lv_at hl 3 rfl) ?_
                      refine lv_iconst (v := nI 1) hx hb dX6_bestPair_86 (by decide) ?_
                      refine n_isub hx hb (by omega) dX6_bestPair_87 ?_
                      refine lv_icmp_ne (tgt := 99) hx hb dX6_bestPair_88 (by decide) (fun c_10 => ?_) (fun c_10 => ?_)
                      · -- t 99
                        refine lv_iinc (v := nI (q1 + 1)) (lv' := [(8, .int (nI (q1 + 1))), (0, .ref (ra 0)), (1, .long (lN x0)), (3, .int (nI rr)), (4, .int (nI ((CN nn net rr st (tkR rr t2 t3)).2.2.1))), (5, .int (nI nn)), (6, .int (nI p1)), (7, .int (nI (whM x0 rr p1)))]) hx hb dX6_bestPair_99 hl (k := 7) rfl (ii_1 _) (by decide) rfl (fun ls hl => ?_)
                        refine lv_goto (tgt := 51) hx hb dX6_bestPair_102 (by decide) ?_
                        exact ih_lp_7 (q1 + 1) Kd ud Ald Gdd Fwd Mod (by omega) hBd hVd (fun i hi => by rcases (by omega : i < 4 * p1 + q1 ∨ i = 4 * p1 + q1) with h9 | h9; exact hbc i h9; rw [h9]; exact Bool.eq_false_iff.mpr (fun h8 => c_10 (hbe.mp h8))) (by omega) H locs hP hD hS ls (lv_sub hl [1, 2, 3, 4, 5, 6, 7, 0] rfl)
                      · -- f 91
                        refine lv_iload hx hb dX6_bestPair_91 (lv_at hl 5 rfl) ?_
                        refine lv_iload hx hb dX6_bestPair_93 (lv_at hl 7 rfl) ?_
                        refine cN_p (rest := []) hC (k_pairOf l p1 q1 ) hN.2.2.2.2.2.1 sy_X11_pairOf ⟨Nat.le_of_ble_eq_true rfl, Nat.le_of_ble_eq_true rfl⟩ ⟨rfl, rfl⟩ rfl hl.1 rfl (Nat.le_of_ble_eq_true rfl) dX6_bestPair_95 ⟨Nat.le_of_ble_eq_true rfl, Nat.le_of_ble_eq_true rfl⟩ ?_
                        exact rw_i hC rfl hP hD hS (⟨_, rfl, Or.inl ⟨4 * p1 + q1, by omega, hbe.mpr c_10, hbc, rfl⟩, Kd, ud, Ald, Gdd, Fwd, Mod, rfl, hBd, hVd⟩) dX6_bestPair_98 (Nat.le_of_ble_eq_true rfl) (Nat.le_of_ble_eq_true rfl)
                    · -- f 68
                      have hcv := (whM_cv hn hs.2.1 hnb hs.1 hr4 (by omega : p1 < nn) (by omega : q1 < nn)).symm.trans c_9
                      refine lv_goto (tgt := 99) hx hb dX6_bestPair_68 (by decide) ?_
                      refine lv_iinc (v := nI (q1 + 1)) (lv' := [(8, .int (nI (q1 + 1))), (0, .ref (ra 0)), (1, .long (lN x0)), (3, .int (nI rr)), (4, .int (nI ((CN nn net rr st (tkR rr t2 t3)).2.2.1))), (5, .int (nI nn)), (6, .int (nI p1)), (7, .int (nI (whM x0 rr p1)))]) hx hb dX6_bestPair_99 hl (k := 7) rfl (ii_1 _) (by decide) rfl (fun ls hl => ?_)
                      refine lv_goto (tgt := 51) hx hb dX6_bestPair_102 (by decide) ?_
                      exact ih_lp_7 (q1 + 1) Kc uc Alc Gdc Fwc Moc (by omega) hBc hVc (fun i hi => by rcases (by omega : i < 4 * p1 + q1 ∨ i = 4 * p1 + q1) with h9 | h9; exact hbc i h9; rw [h9]; exact best_cv hcv) (by omega) H locs hP hD hS ls (lv_sub hl [1, 2, 3, 4, 5, 6, 7, 0] rfl)
              exact lp_7 _ 0 Kb ub Alb Gdb Fwb Mob (Nat.zero_le _) hBb hVb hbb (Nat.lt_succ_self _) H locs hP hD hS ls (lv_sub hl [2, 3, 4, 5, 6, 7, 1, 0] rfl)
        exact lp_4 _ 0 K1 u1 Al1 Gd1 Fw1 Mo1 (Nat.zero_le _) hB1 hV1 (fun i hi => absurd hi (by omega)) (Nat.lt_succ_self _) H locs hP hD hS ls (lv_sub hl [3, 4, 5, 2, 1, 0] rfl)
      · -- f 20
        refine lv_bipush (v := -9) hx hb dX6_bestPair_20 (by decide) ?_
        exact rw_i hC rfl hP hD hS (⟨_, rfl, Or.inr ⟨fun i hi => Bool.eq_false_iff.mpr (fun h8 => by have h9 := best_good hn hs.2.1 hi h8; omega), rfl⟩, K1, u1, Al1, Gd1, Fw1, Mo1, rfl, hB1, hV1⟩) dX6_bestPair_22 (Nat.le_of_ble_eq_true rfl) (Nat.le_of_ble_eq_true rfl)
