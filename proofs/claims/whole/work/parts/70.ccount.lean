set_option maxHeartbeats 4000000 in
set_option maxRecDepth 100000 in
theorem k_count_s (l : Launch) (E : EE) (ra : Nat → Nat) (nn : Nat) (net : Nat → Nat) (rr : Nat) (h1 : 0 < nn) (hn : nn ≤ 4) (hnb : NB nn net) (hr4 : rr < 4) (k1 : Nat) (ih : CntS l E ra nn net rr k1) (dd st t2 t3 x0 u0 S : Nat) (K : Nat → Nat) (u : Nat) (Al Gd Fw Mo : Nat → Nat) (K2 : Nat → Nat) (u2 sz : Nat) (hd0 : 0 < dd) (hdk : dd + (k1 + 1) = 14) (hmis : mis nn st + dd ≤ 12) (hs : Pst nn net rr rr st t2 t3 x0) (hT : TQ nn net rr rr u0 S K u) (hV : VI K Al Gd Fw Mo) : Wr l yX6_count cX6_count 19 (some .int) (rm_X6_count_k (k1 + 1)) 0 0 E (rW E ra K u Al Gd Fw Mo K2 u2) sz [.ref (ra 0), .long (lN x0), .int (nI rr), .int (nI dd)] (CPost E ra nn net rr x0 u0 K2 u2) := by
  refine mk_wr (by decide) (Nat.le_of_ble_eq_true rfl) ?_
  intro p e s m args below meth c hC hin hK A hA hP hD hS ls hl
  obtain ⟨hx, hb, hr, hts, hown, hml, hlk, hN⟩ := id hC
  have hl : lv_has ls 19 [(0, .ref (ra 0)), (1, .long (lN x0)), (3, .int (nI rr)), (4, .int (nI dd))] := hl
  obtain hps := hs.1.ps
  have hx0 := hs.1.lt
  have hky0 := keyF_lt hs.1.lt hr4 hr4
  have hky : keyF x0 rr rr < 2 ^ 63 := (by omega)
  obtain ⟨H, hH⟩ : ∃ z, z = s.heap := ⟨_, rfl⟩
  have hS : va_S A s.heap H [] := by rw [hH]; exact hS
  rw [← hH] at hP
  refine W_heap hH ?_
  obtain ⟨locs, hlo⟩ : ∃ z : List Loc, z = [] := ⟨_, rfl⟩
  rw [← hlo] at hS ⊢
  refine lv_iload hx hb dX6_count_0 (lv_at hl 3 rfl) ?_
  refine n_if_ne (tgt := 12) hx hb (by omega) dX6_count_2 (by decide) (fun c_1 => ?_) (fun c_1 => ?_)
  · -- t 12
    refine lv_lload_n hx hb dX6_count_12 rfl (lv_at hl 1 rfl) ?_
    refine lv_iload_n hx hb dX6_count_13 rfl (lv_at hl 2 rfl) ?_
    refine lv_iload_n hx hb dX6_count_14 rfl (lv_at hl 2 rfl) ?_
    refine cS_p (rest := []) hC (k_keyFor l x0 rr rr (by omega) (by omega)) kw_401 sy_X5_keyFor ⟨by dsimp only [rm_X6_count_k, rm_X5_keyFor, rm_X8_find, rm_X5_persons, rm_X5_whomMay, rm_X11_contains, rm_X5_ring, rm_J9_min_7cf53, rm_J9_max_7cf53, rm_X6_keep, rm_X5_allAreExperts, rm_X11_truth, rm_X8_makeRoom]; omega, by dsimp only [rm_X6_count_k, rm_X5_keyFor, rm_X8_find, rm_X5_persons, rm_X5_whomMay, rm_X11_contains, rm_X5_ring, rm_J9_min_7cf53, rm_J9_max_7cf53, rm_X6_keep, rm_X5_allAreExperts, rm_X11_truth, rm_X8_makeRoom]; omega⟩ ⟨rfl, rfl⟩ rfl hl.1 rfl (Nat.le_of_ble_eq_true rfl) dX6_count_15 ⟨Nat.le_of_ble_eq_true rfl, Nat.le_of_ble_eq_true rfl⟩ ?_
    refine lv_lstore (lv' := [(5, .long (lN (keyF x0 rr rr))), (0, .ref (ra 0)), (1, .long (lN x0)), (3, .int (nI rr)), (4, .int (nI dd))]) hx hb dX6_count_18 hl (by decide) rfl (fun ls hl => ?_)
    refine lv_aload_n hx hb dX6_count_20 rfl (lv_at hl 1 rfl) ?_
    refine va_get (D := E.1) (ci := 4) (v := .ref (ra 1)) (C := RX6) (T := TX6) (N := 6) hx hb hts iX6 hown hK hP 0 rfl rfl 0 (by decide) (hts _ kw_61) (fun _ h9 => h9) rfl dX6_count_21 ?_
    refine lv_lload hx hb dX6_count_24 (lv_at hl 0 rfl) ?_
    refine cV_r (rest := []) hC (k_find l E (ra 1) (ra 2) K u (keyF x0 rr rr) hky hT.1 (TQ_room h1 hn hT (keyF x0 rr rr))) kw_406 iy_X8_find ⟨by dsimp only [rm_X6_count_k, rm_X5_keyFor, rm_X8_find, rm_X5_persons, rm_X5_whomMay, rm_X11_contains, rm_X5_ring, rm_J9_min_7cf53, rm_J9_max_7cf53, rm_X6_keep, rm_X5_allAreExperts, rm_X11_truth, rm_X8_makeRoom]; omega, by dsimp only [rm_X6_count_k, rm_X5_keyFor, rm_X8_find, rm_X5_persons, rm_X5_whomMay, rm_X11_contains, rm_X5_ring, rm_J9_min_7cf53, rm_J9_max_7cf53, rm_X6_keep, rm_X5_allAreExperts, rm_X11_truth, rm_X8_makeRoom]; omega⟩ ⟨rfl, rfl⟩ hK (va_P_l (X := tW E (ra 1) (ra 2) K u) (Y := rY E ra Al Gd Fw Mo K2 u2) (va_P_r (X := rX ra) hP)) (va_recv hK hP (ci := 6) (q0 := 1) rfl rfl) rfl hl.1 rfl (Nat.le_of_ble_eq_true rfl) dX6_count_26 ⟨Nat.le_of_ble_eq_true rfl, Nat.le_of_ble_eq_true rfl⟩ ?_
    by_cases hfd : K (slt K (keyF x0 rr rr)) = (keyF x0 rr rr)
    ·
      refine top_i (show fndT K (keyF x0 rr rr) = nI (slt K (keyF x0 rr rr)) from by unfold fndT; rw [if_pos hfd]) ?_
      have hslt := slt_lt K (keyF x0 rr rr)
      refine lv_istore (lv' := [(7, .int (nI (slt K (keyF x0 rr rr)))), (5, .long (lN (keyF x0 rr rr))), (0, .ref (ra 0)), (1, .long (lN x0)), (3, .int (nI rr)), (4, .int (nI dd))]) hx hb dX6_count_29 hl (by decide) rfl (fun ls hl => ?_)
      refine lv_iload hx hb dX6_count_31 (lv_at hl 0 rfl) ?_
      refine n_if_ge (tgt := 43) hx hb (by omega) dX6_count_33 (by decide) ?_
      refine lv_iload hx hb dX6_count_43 (lv_at hl 0 rfl) ?_
      exact rw_i hC rfl hP hD hS (⟨slt K (keyF x0 rr rr), S, K, u, Al, Gd, Fw, Mo, rfl, rfl, hslt, hT, hV, hfd⟩) dX6_count_45 (Nat.le_of_ble_eq_true rfl) (Nat.le_of_ble_eq_true rfl)
    ·
      refine top_i (show fndT K (keyF x0 rr rr) = -1 from by unfold fndT; rw [if_neg hfd]) ?_
      refine lv_istore (lv' := [(7, .int (-1)), (5, .long (lN (keyF x0 rr rr))), (0, .ref (ra 0)), (1, .long (lN x0)), (3, .int (nI rr)), (4, .int (nI dd))]) hx hb dX6_count_29 hl (by decide) rfl (fun ls hl => ?_)
      refine lv_iload hx hb dX6_count_31 (lv_at hl 0 rfl) ?_
      refine lv_if_ge (tgt := 43) hx hb dX6_count_33 (by decide) (fun c_2 => ?_) (fun c_2 => ?_)
      · -- t 43
        exact absurd c_2 (by decide)
      · -- f 36
        refine lv_iload hx hb dX6_count_36 (lv_at hl 5 rfl) ?_
        refine lv_bipush (v := nI 12) hx hb dX6_count_38 (by decide) ?_
        refine n_icmp_le (tgt := 46) hx hb (by omega) (by omega) dX6_count_40 (by decide) (fun c_3 => ?_) (fun c_3 => ?_)
        · -- t 46
          refine lv_lconst (v := lN 0) hx hb dX6_count_46 (by decide) ?_
          refine lv_lstore (lv' := [(8, .long (lN 0)), (7, .int (-1)), (5, .long (lN (keyF x0 rr rr))), (0, .ref (ra 0)), (1, .long (lN x0)), (3, .int (nI rr)), (4, .int (nI dd))]) hx hb dX6_count_47 hl (by decide) rfl (fun ls hl => ?_)
          refine lv_lconst (v := lN 0) hx hb dX6_count_49 (by decide) ?_
          refine lv_lstore (lv' := [(10, .long (lN 0)), (8, .long (lN 0)), (7, .int (-1)), (5, .long (lN (keyF x0 rr rr))), (0, .ref (ra 0)), (1, .long (lN x0)), (3, .int (nI rr)), (4, .int (nI dd))]) hx hb dX6_count_50 hl (by decide) rfl (fun ls hl => ?_)
          refine lv_bipush (v := nI 12) hx hb dX6_count_52 (by decide) ?_
          refine lv_istore (lv' := [(12, .int (nI 12)), (10, .long (lN 0)), (8, .long (lN 0)), (7, .int (-1)), (5, .long (lN (keyF x0 rr rr))), (0, .ref (ra 0)), (1, .long (lN x0)), (3, .int (nI rr)), (4, .int (nI dd))]) hx hb dX6_count_54 hl (by decide) rfl (fun ls hl => ?_)
          refine lv_iconst (v := nI 0) hx hb dX6_count_56 (by decide) ?_
          refine lv_istore (lv' := [(13, .int (nI 0)), (12, .int (nI 12)), (10, .long (lN 0)), (8, .long (lN 0)), (7, .int (-1)), (5, .long (lN (keyF x0 rr rr))), (0, .ref (ra 0)), (1, .long (lN x0)), (3, .int (nI rr)), (4, .int (nI dd))]) hx hb dX6_count_57 hl (by decide) rfl (fun ls hl => ?_)
          refine lv_lload_n hx hb dX6_count_59 rfl (lv_at hl 7 rfl) ?_
          refine cS_p (rest := []) hC (k_persons l x0 (by omega)) kw_415 sy_X5_persons ⟨by dsimp only [rm_X6_count_k, rm_X5_keyFor, rm_X8_find, rm_X5_persons, rm_X5_whomMay, rm_X11_contains, rm_X5_ring, rm_J9_min_7cf53, rm_J9_max_7cf53, rm_X6_keep, rm_X5_allAreExperts, rm_X11_truth, rm_X8_makeRoom]; omega, by dsimp only [rm_X6_count_k, rm_X5_keyFor, rm_X8_find, rm_X5_persons, rm_X5_whomMay, rm_X11_contains, rm_X5_ring, rm_J9_min_7cf53, rm_J9_max_7cf53, rm_X6_keep, rm_X5_allAreExperts, rm_X11_truth, rm_X8_makeRoom]; omega⟩ ⟨rfl, rfl⟩ rfl hl.1 rfl (Nat.le_of_ble_eq_true rfl) dX6_count_60 ⟨Nat.le_of_ble_eq_true rfl, Nat.le_of_ble_eq_true rfl⟩ ?_
          refine top_i (congrArg nI hps) ?_
          refine lv_istore (lv' := [(14, .int (nI nn)), (13, .int (nI 0)), (12, .int (nI 12)), (10, .long (lN 0)), (8, .long (lN 0)), (7, .int (-1)), (5, .long (lN (keyF x0 rr rr))), (0, .ref (ra 0)), (1, .long (lN x0)), (3, .int (nI rr)), (4, .int (nI dd))]) hx hb dX6_count_63 hl (by decide) rfl (fun ls hl => ?_)
          refine lv_iconst (v := nI 0) hx hb dX6_count_65 (by decide) ?_
          refine lv_istore (lv' := [(15, .int (nI 0)), (14, .int (nI nn)), (13, .int (nI 0)), (12, .int (nI 12)), (10, .long (lN 0)), (8, .long (lN 0)), (7, .int (-1)), (5, .long (lN (keyF x0 rr rr))), (0, .ref (ra 0)), (1, .long (lN x0)), (3, .int (nI rr)), (4, .int (nI dd))]) hx hb dX6_count_66 hl (by decide) rfl (fun ls hl => ?_)
          have lp_4 : ∀ (n_lp_4 : Nat) (p1 : Nat) (al gd fw mo Sb : Nat) (Kb : Nat → Nat) (ub : Nat) (Alb Gdb Fwb Mob : Nat → Nat) (hp1 : p1 ≤ nn) (hTb : TQ nn net rr rr u0 Sb Kb ub) (hVb : VI Kb Alb Gdb Fwb Mob) (hgb : gC al gd fw mo (accC nn net rr (CN nn net rr) st (tkR rr t2 t3) (4 * p1))), nn - p1 < n_lp_4 → ∀ (H : Heap) (locs : List Loc) (hP : va_P E.1 vwCl (rW E ra Kb ub Alb Gdb Fwb Mob K2 u2) H) (hD : va_D A (rW E ra Kb ub Alb Gdb Fwb Mob K2 u2)) (hS : va_S A s.heap H locs) (ls : Array Slot), lv_has ls 19 [(0, .ref (ra 0)), (1, .long (lN x0)), (3, .int (nI rr)), (4, .int (nI dd)), (5, .long (lN (keyF x0 rr rr))), (8, .long (lN al)), (10, .long (lN gd)), (12, .int (nI fw)), (13, .int (nI mo)), (14, .int (nI nn)), (15, .int (nI p1))] → W p l e (rm_X6_count_k (k1 + 1)) s m args below meth c H locs 0 0 (MQ below (wr_Q E A (CPost E ra nn net rr x0 u0 K2 u2)) args s 0 0 A) (F0 m 68 ls []) := by
            intro n_lp_4
            induction n_lp_4 with
            | zero => intro p1 al gd fw mo Sb Kb ub Alb Gdb Fwb Mob hp1 hTb hVb hgb; intro hm_lp_4; exact absurd hm_lp_4 (Nat.not_lt_zero _)
            | succ n_lp_4 ih_lp_4 =>
              intro p1 al gd fw mo Sb Kb ub Alb Gdb Fwb Mob hp1 hTb hVb hgb hm_lp_4 H locs hP hD hS ls hl
              have hsb := gC_sm (by omega : 4 * p1 ≤ 16) hgb
              refine lv_iload hx hb dX6_count_68 (lv_at hl 10 rfl) ?_
              refine lv_iload hx hb dX6_count_70 (lv_at hl 9 rfl) ?_
              refine n_icmp_ge (tgt := 217) hx hb (by omega) (by omega) dX6_count_72 (by decide) (fun c_5 => ?_) (fun c_5 => ?_)
              · -- t 217
                refine lv_lload hx hb dX6_count_217 (lv_at hl 5 rfl) ?_
                refine lv_lconst (v := lN 0) hx hb dX6_count_219 (by decide) ?_
                refine n_lcmp_le (tgt := 239) hx hb (by omega) (by omega) dX6_count_220 dX6_count_221 (by decide) (fun c_6 => ?_) (fun c_6 => ?_)
                · -- t 239
                  refine lv_aload_n hx hb dX6_count_239 rfl (lv_at hl 0 rfl) ?_
                  refine lv_lload hx hb dX6_count_240 (lv_at hl 4 rfl) ?_
                  refine lv_lconst (v := lN 1) hx hb dX6_count_242 (by decide) ?_
                  refine lv_lload_n hx hb dX6_count_243 rfl (lv_at hl 1 rfl) ?_
                  refine cS_p (rest := [.long (lN 1), .long (lN (keyF x0 rr rr)), .ref (ra 0)]) hC (k_allAreExperts l x0 (by omega) (by omega)) kw_433 sy_X5_allAreExperts ⟨by dsimp only [rm_X6_count_k, rm_X5_keyFor, rm_X8_find, rm_X5_persons, rm_X5_whomMay, rm_X11_contains, rm_X5_ring, rm_J9_min_7cf53, rm_J9_max_7cf53, rm_X6_keep, rm_X5_allAreExperts, rm_X11_truth, rm_X8_makeRoom]; omega, by dsimp only [rm_X6_count_k, rm_X5_keyFor, rm_X8_find, rm_X5_persons, rm_X5_whomMay, rm_X11_contains, rm_X5_ring, rm_J9_min_7cf53, rm_J9_max_7cf53, rm_X6_keep, rm_X5_allAreExperts, rm_X11_truth, rm_X8_makeRoom]; omega⟩ ⟨rfl, rfl⟩ rfl hl.1 rfl (Nat.le_of_ble_eq_true rfl) dX6_count_244 ⟨Nat.le_of_ble_eq_true rfl, Nat.le_of_ble_eq_true rfl⟩ ?_
                  refine cN_p (rest := [.long (lN 1), .long (lN (keyF x0 rr rr)), .ref (ra 0)]) hC (k_truth l (decide (bitsN (x0 &&& 65535) 16 = pN x0 * pN x0))) hN.2.2.2.2.1 sy_X11_truth ⟨by dsimp only [rm_X6_count_k, rm_X5_keyFor, rm_X8_find, rm_X5_persons, rm_X5_whomMay, rm_X11_contains, rm_X5_ring, rm_J9_min_7cf53, rm_J9_max_7cf53, rm_X6_keep, rm_X5_allAreExperts, rm_X11_truth, rm_X8_makeRoom]; omega, by dsimp only [rm_X6_count_k, rm_X5_keyFor, rm_X8_find, rm_X5_persons, rm_X5_whomMay, rm_X11_contains, rm_X5_ring, rm_J9_min_7cf53, rm_J9_max_7cf53, rm_X6_keep, rm_X5_allAreExperts, rm_X11_truth, rm_X8_makeRoom]; omega⟩ ⟨rfl, rfl⟩ rfl hl.1 rfl (Nat.le_of_ble_eq_true rfl) dX6_count_247 ⟨Nat.le_of_ble_eq_true rfl, Nat.le_of_ble_eq_true rfl⟩ ?_
                  refine top_i ((bI_nI _).trans (congrArg (fun b => nI (Bool.toNat b)) (Ps_exp hn hs.2.1 hs.1))) ?_
                  have hbt := Bool.toNat_le (expM st nn)
                  refine n_i2l hx hb (by omega) dX6_count_250 ?_
                  refine lv_iconst (v := nI 0) hx hb dX6_count_251 (by decide) ?_
                  refine lv_iconst (v := nI 0) hx hb dX6_count_252 (by decide) ?_
                  refine cV_w0 (rest := []) hC (k_keep l E ra Kb ub Alb Gdb Fwb Mob K2 u2 (keyF x0 rr rr) 1 ((expM st nn).toNat) 0 0 hky hTb.1 (TQ_room h1 hn hTb (keyF x0 rr rr)) (by have := TQ_u h1 hn hTb; omega) (by omega) (by omega) _) kw_425 iy_X6_keep ⟨by dsimp only [rm_X6_count_k, rm_X5_keyFor, rm_X8_find, rm_X5_persons, rm_X5_whomMay, rm_X11_contains, rm_X5_ring, rm_J9_min_7cf53, rm_J9_max_7cf53, rm_X6_keep, rm_X5_allAreExperts, rm_X11_truth, rm_X8_makeRoom]; omega, by dsimp only [rm_X6_count_k, rm_X5_keyFor, rm_X8_find, rm_X5_persons, rm_X5_whomMay, rm_X11_contains, rm_X5_ring, rm_J9_min_7cf53, rm_J9_max_7cf53, rm_X6_keep, rm_X5_allAreExperts, rm_X11_truth, rm_X8_makeRoom]; omega⟩ ⟨rfl, rfl⟩ hK hP hD hS hA (va_recv hK hP (ci := 4) (q0 := 0) rfl rfl) rfl hl.1 rfl (Nat.le_of_ble_eq_true rfl) dX6_count_253 ⟨Nat.le_of_ble_eq_true rfl, Nat.le_of_ble_eq_true rfl⟩ (fun v_ w_ H locs hpost hP hD hS => ?_)
                  obtain ⟨rfl, rfl⟩ := hpost
                  obtain ⟨Se, hTe, hVe⟩ := keep_ok h1 hn hr4 hTb hVb hs (gC_leaf (gd := gd) (fw := fw) (mo := mo) hn hs.2.1 (by rw [acc_end hn (by omega) (by omega), ← (by omega : al = 0)]; exact hgb))
                  refine W.eq (g2 := F0 m 256 ls [.int (nI (slt Kb (keyF x0 rr rr)))]) rfl ?_
                  exact rw_i hC rfl hP hD hS (⟨slt Kb (keyF x0 rr rr), Se, _, _, _, _, _, _, rfl, rfl, slt_lt _ _, hTe, hVe, vu_s _ _ _⟩) dX6_count_256 (Nat.le_of_ble_eq_true rfl) (Nat.le_of_ble_eq_true rfl)
                · -- f 224
                  refine lv_aload_n hx hb dX6_count_224 rfl (lv_at hl 0 rfl) ?_
                  refine lv_lload hx hb dX6_count_225 (lv_at hl 4 rfl) ?_
                  refine lv_lload hx hb dX6_count_227 (lv_at hl 5 rfl) ?_
                  refine lv_lload hx hb dX6_count_229 (lv_at hl 6 rfl) ?_
                  refine lv_iload hx hb dX6_count_231 (lv_at hl 7 rfl) ?_
                  refine lv_iload hx hb dX6_count_233 (lv_at hl 8 rfl) ?_
                  refine cV_w0 (rest := []) hC (k_keep l E ra Kb ub Alb Gdb Fwb Mob K2 u2 (keyF x0 rr rr) al gd fw mo hky hTb.1 (TQ_room h1 hn hTb (keyF x0 rr rr)) (by have := TQ_u h1 hn hTb; omega) (by omega) (by omega) _) kw_425 iy_X6_keep ⟨by dsimp only [rm_X6_count_k, rm_X5_keyFor, rm_X8_find, rm_X5_persons, rm_X5_whomMay, rm_X11_contains, rm_X5_ring, rm_J9_min_7cf53, rm_J9_max_7cf53, rm_X6_keep, rm_X5_allAreExperts, rm_X11_truth, rm_X8_makeRoom]; omega, by dsimp only [rm_X6_count_k, rm_X5_keyFor, rm_X8_find, rm_X5_persons, rm_X5_whomMay, rm_X11_contains, rm_X5_ring, rm_J9_min_7cf53, rm_J9_max_7cf53, rm_X6_keep, rm_X5_allAreExperts, rm_X11_truth, rm_X8_makeRoom]; omega⟩ ⟨rfl, rfl⟩ hK hP hD hS hA (va_recv hK hP (ci := 4) (q0 := 0) rfl rfl) rfl hl.1 rfl (Nat.le_of_ble_eq_true rfl) dX6_count_235 ⟨Nat.le_of_ble_eq_true rfl, Nat.le_of_ble_eq_true rfl⟩ (fun v_ w_ H locs hpost hP hD hS => ?_)
                  obtain ⟨rfl, rfl⟩ := hpost
                  obtain ⟨Se, hTe, hVe⟩ := keep_ok h1 hn hr4 hTb hVb hs (gC_fin hn hs.2.1 (by rw [acc_end hn (by omega) (by omega)]; exact hgb) (by omega))
                  refine W.eq (g2 := F0 m 238 ls [.int (nI (slt Kb (keyF x0 rr rr)))]) rfl ?_
                  exact rw_i hC rfl hP hD hS (⟨slt Kb (keyF x0 rr rr), Se, _, _, _, _, _, _, rfl, rfl, slt_lt _ _, hTe, hVe, vu_s _ _ _⟩) dX6_count_238 (Nat.le_of_ble_eq_true rfl) (Nat.le_of_ble_eq_true rfl)
              · -- f 75
                refine lv_lload_n hx hb dX6_count_75 rfl (lv_at hl 1 rfl) ?_
                refine lv_iload_n hx hb dX6_count_76 rfl (lv_at hl 2 rfl) ?_
                refine lv_iload hx hb dX6_count_77 (lv_at hl 10 rfl) ?_
                refine cS_p (rest := []) hC (k_whomMay l x0 rr p1 (by omega) (by omega) (by omega) (by omega)) kw_416 sy_X5_whomMay ⟨by dsimp only [rm_X6_count_k, rm_X5_keyFor, rm_X8_find, rm_X5_persons, rm_X5_whomMay, rm_X11_contains, rm_X5_ring, rm_J9_min_7cf53, rm_J9_max_7cf53, rm_X6_keep, rm_X5_allAreExperts, rm_X11_truth, rm_X8_makeRoom]; omega, by dsimp only [rm_X6_count_k, rm_X5_keyFor, rm_X8_find, rm_X5_persons, rm_X5_whomMay, rm_X11_contains, rm_X5_ring, rm_J9_min_7cf53, rm_J9_max_7cf53, rm_X6_keep, rm_X5_allAreExperts, rm_X11_truth, rm_X8_makeRoom]; omega⟩ ⟨rfl, rfl⟩ rfl hl.1 rfl (Nat.le_of_ble_eq_true rfl) dX6_count_79 ⟨Nat.le_of_ble_eq_true rfl, Nat.le_of_ble_eq_true rfl⟩ ?_
                have f_7 := whM_lt (by omega : pN x0 ≤ 4) rr p1
                refine lv_istore (lv' := [(16, .int (nI (whM x0 rr p1))), (0, .ref (ra 0)), (1, .long (lN x0)), (3, .int (nI rr)), (4, .int (nI dd)), (5, .long (lN (keyF x0 rr rr))), (8, .long (lN al)), (10, .long (lN gd)), (12, .int (nI fw)), (13, .int (nI mo)), (14, .int (nI nn)), (15, .int (nI p1))]) hx hb dX6_count_82 hl (by decide) rfl (fun ls hl => ?_)
                refine lv_iconst (v := nI 0) hx hb dX6_count_84 (by decide) ?_
                refine lv_istore (lv' := [(17, .int (nI 0)), (16, .int (nI (whM x0 rr p1))), (0, .ref (ra 0)), (1, .long (lN x0)), (3, .int (nI rr)), (4, .int (nI dd)), (5, .long (lN (keyF x0 rr rr))), (8, .long (lN al)), (10, .long (lN gd)), (12, .int (nI fw)), (13, .int (nI mo)), (14, .int (nI nn)), (15, .int (nI p1))]) hx hb dX6_count_85 hl (by decide) rfl (fun ls hl => ?_)
                have lp_8 : ∀ (n_lp_8 : Nat) (q1 : Nat) (al2 gd2 fw2 mo2 Sc : Nat) (Kc : Nat → Nat) (uc : Nat) (Alc Gdc Fwc Moc : Nat → Nat) (hq1 : q1 ≤ nn) (hTc : TQ nn net rr rr u0 Sc Kc uc) (hVc : VI Kc Alc Gdc Fwc Moc) (hgc : gC al2 gd2 fw2 mo2 (accC nn net rr (CN nn net rr) st (tkR rr t2 t3) (4 * p1 + q1))), nn - q1 < n_lp_8 → ∀ (H : Heap) (locs : List Loc) (hP : va_P E.1 vwCl (rW E ra Kc uc Alc Gdc Fwc Moc K2 u2) H) (hD : va_D A (rW E ra Kc uc Alc Gdc Fwc Moc K2 u2)) (hS : va_S A s.heap H locs) (ls : Array Slot), lv_has ls 19 [(0, .ref (ra 0)), (1, .long (lN x0)), (3, .int (nI rr)), (4, .int (nI dd)), (5, .long (lN (keyF x0 rr rr))), (8, .long (lN al2)), (10, .long (lN gd2)), (12, .int (nI fw2)), (13, .int (nI mo2)), (14, .int (nI nn)), (15, .int (nI p1)), (16, .int (nI (whM x0 rr p1))), (17, .int (nI q1))] → W p l e (rm_X6_count_k (k1 + 1)) s m args below meth c H locs 0 0 (MQ below (wr_Q E A (CPost E ra nn net rr x0 u0 K2 u2)) args s 0 0 A) (F0 m 87 ls []) := by
                  intro n_lp_8
                  induction n_lp_8 with
                  | zero => intro q1 al2 gd2 fw2 mo2 Sc Kc uc Alc Gdc Fwc Moc hq1 hTc hVc hgc; intro hm_lp_8; exact absurd hm_lp_8 (Nat.not_lt_zero _)
                  | succ n_lp_8 ih_lp_8 =>
                    intro q1 al2 gd2 fw2 mo2 Sc Kc uc Alc Gdc Fwc Moc hq1 hTc hVc hgc hm_lp_8 H locs hP hD hS ls hl
                    have hsc := gC_sm (by omega : 4 * p1 + q1 ≤ 16) hgc
                    refine lv_iload hx hb dX6_count_87 (lv_at hl 12 rfl) ?_
                    refine lv_iload hx hb dX6_count_89 (lv_at hl 9 rfl) ?_
                    refine n_icmp_ge (tgt := 211) hx hb (by omega) (by omega) dX6_count_91 (by decide) (fun c_9 => ?_) (fun c_9 => ?_)
                    · -- t 211
                      refine lv_iinc (v := nI (p1 + 1)) (lv' := [(15, .int (nI (p1 + 1))), (0, .ref (ra 0)), (1, .long (lN x0)), (3, .int (nI rr)), (4, .int (nI dd)), (5, .long (lN (keyF x0 rr rr))), (8, .long (lN al2)), (10, .long (lN gd2)), (12, .int (nI fw2)), (13, .int (nI mo2)), (14, .int (nI nn)), (16, .int (nI (whM x0 rr p1))), (17, .int (nI q1))]) hx hb dX6_count_211 hl (k := 10) rfl (ii_1 _) (by decide) rfl (fun ls hl => ?_)
                      refine lv_goto (tgt := 68) hx hb dX6_count_214 (by decide) ?_
                      exact ih_lp_4 (p1 + 1) al2 gd2 fw2 mo2 Sc Kc uc Alc Gdc Fwc Moc (by omega) hTc hVc (by rw [acc_row hn (by omega) (by omega)]; exact hgc) (by omega) H locs hP hD hS ls (lv_sub hl [1, 2, 3, 4, 5, 6, 7, 8, 9, 10, 0] rfl)
                    · -- f 94
                      refine lv_iload hx hb dX6_count_94 (lv_at hl 11 rfl) ?_
                      refine lv_iload hx hb dX6_count_96 (lv_at hl 12 rfl) ?_
                      refine cN_p (rest := []) hC (k_contains l (whM x0 rr p1) q1 (by omega) (by omega)) hN.2.2.2.1 sy_X11_contains ⟨by dsimp only [rm_X6_count_k, rm_X5_keyFor, rm_X8_find, rm_X5_persons, rm_X5_whomMay, rm_X11_contains, rm_X5_ring, rm_J9_min_7cf53, rm_J9_max_7cf53, rm_X6_keep, rm_X5_allAreExperts, rm_X11_truth, rm_X8_makeRoom]; omega, by dsimp only [rm_X6_count_k, rm_X5_keyFor, rm_X8_find, rm_X5_persons, rm_X5_whomMay, rm_X11_contains, rm_X5_ring, rm_J9_min_7cf53, rm_J9_max_7cf53, rm_X6_keep, rm_X5_allAreExperts, rm_X11_truth, rm_X8_makeRoom]; omega⟩ ⟨rfl, rfl⟩ rfl hl.1 rfl (Nat.le_of_ble_eq_true rfl) dX6_count_98 ⟨Nat.le_of_ble_eq_true rfl, Nat.le_of_ble_eq_true rfl⟩ ?_
                      refine b_if_ne (tgt := 107) hx hb dX6_count_101 (by decide) (fun c_10 => ?_) (fun c_10 => ?_)
                      · -- t 107
                        have hcv := (whM_cv hn hs.2.1 hnb hs.1 hr4 (by omega : p1 < nn) (by omega : q1 < nn)).symm.trans c_10
                        have hpq := cv_ne hn (by omega : p1 < nn) (by omega : q1 < nn) hcv
                        have hok := cv_ok hn hs.2.1 hcv; have hmi : mis nn (aft st p1 q1) < mis nn st := (by have h9 := hok.2.2.2.2; unfold nxS at h9; rwa [show (4 * p1 + q1) / 4 = p1 by omega, show (4 * p1 + q1) % 4 = q1 by omega] at h9)
                        have hsn := Pst_ring hn hs (by omega : p1 < nn) (by omega : q1 < nn) hpq
                        refine lv_aload_n hx hb dX6_count_107 rfl (lv_at hl 0 rfl) ?_
                        refine lv_lload_n hx hb dX6_count_108 rfl (lv_at hl 1 rfl) ?_
                        refine lv_iload hx hb dX6_count_109 (lv_at hl 10 rfl) ?_
                        refine lv_iload hx hb dX6_count_111 (lv_at hl 12 rfl) ?_
                        refine cS_p (rest := [.ref (ra 0)]) hC (k_ring l x0 p1 q1 (by omega) (by omega) (by omega)) kw_418 sy_X5_ring ⟨by dsimp only [rm_X6_count_k, rm_X5_keyFor, rm_X8_find, rm_X5_persons, rm_X5_whomMay, rm_X11_contains, rm_X5_ring, rm_J9_min_7cf53, rm_J9_max_7cf53, rm_X6_keep, rm_X5_allAreExperts, rm_X11_truth, rm_X8_makeRoom]; omega, by dsimp only [rm_X6_count_k, rm_X5_keyFor, rm_X8_find, rm_X5_persons, rm_X5_whomMay, rm_X11_contains, rm_X5_ring, rm_J9_min_7cf53, rm_J9_max_7cf53, rm_X6_keep, rm_X5_allAreExperts, rm_X11_truth, rm_X8_makeRoom]; omega⟩ ⟨rfl, rfl⟩ rfl hl.1 rfl (Nat.le_of_ble_eq_true rfl) dX6_count_113 ⟨Nat.le_of_ble_eq_true rfl, Nat.le_of_ble_eq_true rfl⟩ ?_
                        refine lv_iload_n hx hb dX6_count_116 rfl (lv_at hl 2 rfl) ?_
                        refine lv_iload hx hb dX6_count_117 (lv_at hl 3 rfl) ?_
                        refine lv_iconst (v := nI 1) hx hb dX6_count_119 (by decide) ?_
                        refine n_iadd hx hb dX6_count_120 ?_
                        refine cV_w0 (rest := []) hC (ih (dd + 1) (aft st p1 q1) (tokA t2 2 p1 q1) (tokA t3 3 p1 q1) (rng x0 p1 q1) u0 Sc Kc uc Alc Gdc Fwc Moc K2 u2 _ (by omega) (by omega) (by omega) hsn hTc hVc) kw_390 iy_X6_count ⟨by dsimp only [rm_X6_count_k, rm_X5_keyFor, rm_X8_find, rm_X5_persons, rm_X5_whomMay, rm_X11_contains, rm_X5_ring, rm_J9_min_7cf53, rm_J9_max_7cf53, rm_X6_keep, rm_X5_allAreExperts, rm_X11_truth, rm_X8_makeRoom]; omega, by dsimp only [rm_X6_count_k, rm_X5_keyFor, rm_X8_find, rm_X5_persons, rm_X5_whomMay, rm_X11_contains, rm_X5_ring, rm_J9_min_7cf53, rm_J9_max_7cf53, rm_X6_keep, rm_X5_allAreExperts, rm_X11_truth, rm_X8_makeRoom]; omega⟩ ⟨rfl, rfl⟩ hK hP hD hS hA (va_recv hK hP (ci := 4) (q0 := 0) rfl rfl) rfl hl.1 rfl (Nat.le_of_ble_eq_true rfl) dX6_count_121 ⟨Nat.le_of_ble_eq_true rfl, Nat.le_of_ble_eq_true rfl⟩ (fun v_ w_ H locs hpost hP hD hS => ?_)
                        obtain ⟨s1, Sd, Kd, ud, Ald, Gdd, Fwd, Mod, rfl, rfl, hs1, hTd, hVd, hKd⟩ := hpost
                        have hvd := VI_at h1 hn hr4 hVd hs1 hsn hKd
                        rw [CN_tk hn hr4 hsn.2.1] at hvd
                        have hsd := vC_sm hvd
                        refine W.eq (g2 := F0 m 124 ls [.int (nI s1)]) rfl ?_
                        refine lv_istore (lv' := [(18, .int (nI s1)), (0, .ref (ra 0)), (1, .long (lN x0)), (3, .int (nI rr)), (4, .int (nI dd)), (5, .long (lN (keyF x0 rr rr))), (8, .long (lN al2)), (10, .long (lN gd2)), (12, .int (nI fw2)), (13, .int (nI mo2)), (14, .int (nI nn)), (15, .int (nI p1)), (16, .int (nI (whM x0 rr p1))), (17, .int (nI q1))]) hx hb dX6_count_124 hl (by decide) rfl (fun ls hl => ?_)
                        refine lv_iload hx hb dX6_count_126 (lv_at hl 0 rfl) ?_
                        refine n_if_ge (tgt := 134) hx hb (by omega) dX6_count_128 (by decide) ?_
                        refine lv_lload hx hb dX6_count_134 (lv_at hl 6 rfl) ?_
                        refine lv_aload_n hx hb dX6_count_136 rfl (lv_at hl 1 rfl) ?_
                        refine va_get (D := E.1) (ci := 4) (v := .ref (ra 3)) (C := RX6) (T := TX6) (N := 6) hx hb hts iX6 hown hK hP 0 rfl rfl 1 (by decide) (hts _ kw_62) (fun _ h9 => h9) rfl dX6_count_137 ?_
                        refine lv_iload hx hb dX6_count_140 (lv_at hl 0 rfl) ?_
                        refine n_lald (f := fun j => lN (Ald j)) hx hb hK hP 3 rfl (by omega) (by decide) dX6_count_142 ?_
                        refine n_ladd hx hb dX6_count_143 ?_
                        refine lv_lstore (lv' := [(8, .long (lN (al2 + (Ald s1)))), (18, .int (nI s1)), (0, .ref (ra 0)), (1, .long (lN x0)), (3, .int (nI rr)), (4, .int (nI dd)), (5, .long (lN (keyF x0 rr rr))), (10, .long (lN gd2)), (12, .int (nI fw2)), (13, .int (nI mo2)), (14, .int (nI nn)), (15, .int (nI p1)), (16, .int (nI (whM x0 rr p1))), (17, .int (nI q1))]) hx hb dX6_count_144 hl (by decide) rfl (fun ls hl => ?_)
                        refine lv_lload hx hb dX6_count_146 (lv_at hl 7 rfl) ?_
                        refine lv_aload_n hx hb dX6_count_148 rfl (lv_at hl 2 rfl) ?_
                        refine va_get (D := E.1) (ci := 4) (v := .ref (ra 4)) (C := RX6) (T := TX6) (N := 6) hx hb hts iX6 hown hK hP 0 rfl rfl 2 (by decide) (hts _ kw_63) (fun _ h9 => h9) rfl dX6_count_149 ?_
                        refine lv_iload hx hb dX6_count_152 (lv_at hl 1 rfl) ?_
                        refine n_lald (f := fun j => lN (Gdd j)) hx hb hK hP 4 rfl (by omega) (by decide) dX6_count_154 ?_
                        refine n_ladd hx hb dX6_count_155 ?_
                        refine lv_lstore (lv' := [(10, .long (lN (gd2 + (Gdd s1)))), (8, .long (lN (al2 + (Ald s1)))), (18, .int (nI s1)), (0, .ref (ra 0)), (1, .long (lN x0)), (3, .int (nI rr)), (4, .int (nI dd)), (5, .long (lN (keyF x0 rr rr))), (12, .int (nI fw2)), (13, .int (nI mo2)), (14, .int (nI nn)), (15, .int (nI p1)), (16, .int (nI (whM x0 rr p1))), (17, .int (nI q1))]) hx hb dX6_count_156 hl (by decide) rfl (fun ls hl => ?_)
                        refine lv_aload_n hx hb dX6_count_158 rfl (lv_at hl 3 rfl) ?_
                        refine va_get (D := E.1) (ci := 4) (v := .ref (ra 4)) (C := RX6) (T := TX6) (N := 6) hx hb hts iX6 hown hK hP 0 rfl rfl 2 (by decide) (hts _ kw_63) (fun _ h9 => h9) rfl dX6_count_159 ?_
                        refine lv_iload hx hb dX6_count_162 (lv_at hl 2 rfl) ?_
                        refine n_lald (f := fun j => lN (Gdd j)) hx hb hK hP 4 rfl (by omega) (by decide) dX6_count_164 ?_
                        refine lv_lconst (v := lN 0) hx hb dX6_count_165 (by decide) ?_
                        refine n_lcmp_ne (tgt := 173) hx hb (by omega) (by omega) dX6_count_166 dX6_count_167 (by decide) (fun c_11 => ?_) (fun c_11 => ?_)
                        · -- t 173
                          refine lv_iload hx hb dX6_count_173 (lv_at hl 8 rfl) ?_
                          refine lv_aload_n hx hb dX6_count_175 rfl (lv_at hl 3 rfl) ?_
                          refine va_get (D := E.1) (ci := 4) (v := .ref (ra 5)) (C := RX6) (T := TX6) (N := 6) hx hb hts iX6 hown hK hP 0 rfl rfl 3 (by decide) (hts _ kw_64) (fun _ h9 => h9) rfl dX6_count_176 ?_
                          refine lv_iload hx hb dX6_count_179 (lv_at hl 2 rfl) ?_
                          refine n_bald (f := fun j => nI (Fwd j)) hx hb hK hP 5 rfl (by omega) (by decide) dX6_count_181 ?_
                          refine lv_iconst (v := nI 1) hx hb dX6_count_182 (by decide) ?_
                          refine n_iadd hx hb dX6_count_183 ?_
                          refine va_mmin hx hb (by rw [hml, hl.1]) hown (hts _ kw_419) (hts _ kw_420) (hts _ kw_13) (hts _ kw_421) (by dsimp only [rm_X6_count_k, rm_X5_keyFor, rm_X8_find, rm_X5_persons, rm_X5_whomMay, rm_X11_contains, rm_X5_ring, rm_J9_min_7cf53, rm_J9_max_7cf53, rm_X6_keep, rm_X5_allAreExperts, rm_X11_truth, rm_X8_makeRoom]; omega) (show 0 + 13 ≤ _ from by dsimp only [rm_X6_count_k, rm_X5_keyFor, rm_X8_find, rm_X5_persons, rm_X5_whomMay, rm_X11_contains, rm_X5_ring, rm_J9_min_7cf53, rm_J9_max_7cf53, rm_X6_keep, rm_X5_allAreExperts, rm_X11_truth, rm_X8_makeRoom]; omega) (Nat.le_of_ble_eq_true rfl) (Nat.le_of_ble_eq_true rfl) dX6_count_184 ?_
                          refine top_i (mmin_nI (by omega) (by omega)) ?_
                          refine lv_istore (lv' := [(12, .int (nI (min fw2 ((Fwd s1) + 1)))), (10, .long (lN (gd2 + (Gdd s1)))), (8, .long (lN (al2 + (Ald s1)))), (18, .int (nI s1)), (0, .ref (ra 0)), (1, .long (lN x0)), (3, .int (nI rr)), (4, .int (nI dd)), (5, .long (lN (keyF x0 rr rr))), (13, .int (nI mo2)), (14, .int (nI nn)), (15, .int (nI p1)), (16, .int (nI (whM x0 rr p1))), (17, .int (nI q1))]) hx hb dX6_count_187 hl (by decide) rfl (fun ls hl => ?_)
                          refine lv_iload hx hb dX6_count_189 (lv_at hl 9 rfl) ?_
                          refine lv_aload_n hx hb dX6_count_191 rfl (lv_at hl 4 rfl) ?_
                          refine va_get (D := E.1) (ci := 4) (v := .ref (ra 6)) (C := RX6) (T := TX6) (N := 6) hx hb hts iX6 hown hK hP 0 rfl rfl 4 (by decide) (hts _ kw_65) (fun _ h9 => h9) rfl dX6_count_192 ?_
                          refine lv_iload hx hb dX6_count_195 (lv_at hl 3 rfl) ?_
                          refine n_bald (f := fun j => nI (Mod j)) hx hb hK hP 6 rfl (by omega) (by decide) dX6_count_197 ?_
                          refine lv_iconst (v := nI 1) hx hb dX6_count_198 (by decide) ?_
                          refine n_iadd hx hb dX6_count_199 ?_
                          refine va_mmax hx hb (by rw [hml, hl.1]) hown (hts _ kw_422) (hts _ kw_423) (hts _ kw_13) (hts _ kw_424) (by dsimp only [rm_X6_count_k, rm_X5_keyFor, rm_X8_find, rm_X5_persons, rm_X5_whomMay, rm_X11_contains, rm_X5_ring, rm_J9_min_7cf53, rm_J9_max_7cf53, rm_X6_keep, rm_X5_allAreExperts, rm_X11_truth, rm_X8_makeRoom]; omega) (show 0 + 13 ≤ _ from by dsimp only [rm_X6_count_k, rm_X5_keyFor, rm_X8_find, rm_X5_persons, rm_X5_whomMay, rm_X11_contains, rm_X5_ring, rm_J9_min_7cf53, rm_J9_max_7cf53, rm_X6_keep, rm_X5_allAreExperts, rm_X11_truth, rm_X8_makeRoom]; omega) (Nat.le_of_ble_eq_true rfl) (Nat.le_of_ble_eq_true rfl) dX6_count_200 ?_
                          refine top_i (mmax_nI (by omega) (by omega)) ?_
                          refine lv_istore (lv' := [(13, .int (nI (max mo2 ((Mod s1) + 1)))), (12, .int (nI (min fw2 ((Fwd s1) + 1)))), (10, .long (lN (gd2 + (Gdd s1)))), (8, .long (lN (al2 + (Ald s1)))), (18, .int (nI s1)), (0, .ref (ra 0)), (1, .long (lN x0)), (3, .int (nI rr)), (4, .int (nI dd)), (5, .long (lN (keyF x0 rr rr))), (14, .int (nI nn)), (15, .int (nI p1)), (16, .int (nI (whM x0 rr p1))), (17, .int (nI q1))]) hx hb dX6_count_203 hl (by decide) rfl (fun ls hl => ?_)
                          refine lv_iinc (v := nI (q1 + 1)) (lv' := [(17, .int (nI (q1 + 1))), (13, .int (nI (max mo2 ((Mod s1) + 1)))), (12, .int (nI (min fw2 ((Fwd s1) + 1)))), (10, .long (lN (gd2 + (Gdd s1)))), (8, .long (lN (al2 + (Ald s1)))), (18, .int (nI s1)), (0, .ref (ra 0)), (1, .long (lN x0)), (3, .int (nI rr)), (4, .int (nI dd)), (5, .long (lN (keyF x0 rr rr))), (14, .int (nI nn)), (15, .int (nI p1)), (16, .int (nI (whM x0 rr p1)))]) hx hb dX6_count_205 hl (k := 13) rfl (ii_1 _) (by decide) rfl (fun ls hl => ?_)
                          refine lv_goto (tgt := 87) hx hb dX6_count_208 (by decide) ?_
                          exact ih_lp_8 (q1 + 1) (al2 + Ald s1) (gd2 + Gdd s1) (min fw2 (Fwd s1 + 1)) (max mo2 (Mod s1 + 1)) Sd Kd ud Ald Gdd Fwd Mod (by omega) hTd hVd (by rw [acc_y (by omega) hcv]; exact gC_yes hgc hvd c_11 (CN_fm (by have := hvd.2.1; omega)).2.1 (CN_fm (by have := hvd.2.1; omega)).2.2) (by omega) H locs hP hD hS ls (lv_sub hl [6, 7, 8, 9, 10, 4, 3, 2, 1, 11, 12, 13, 0] rfl)
                        · -- f 170
                          refine lv_goto (tgt := 205) hx hb dX6_count_170 (by decide) ?_
                          refine lv_iinc (v := nI (q1 + 1)) (lv' := [(17, .int (nI (q1 + 1))), (10, .long (lN (gd2 + (Gdd s1)))), (8, .long (lN (al2 + (Ald s1)))), (18, .int (nI s1)), (0, .ref (ra 0)), (1, .long (lN x0)), (3, .int (nI rr)), (4, .int (nI dd)), (5, .long (lN (keyF x0 rr rr))), (12, .int (nI fw2)), (13, .int (nI mo2)), (14, .int (nI nn)), (15, .int (nI p1)), (16, .int (nI (whM x0 rr p1)))]) hx hb dX6_count_205 hl (k := 13) rfl (ii_1 _) (by decide) rfl (fun ls hl => ?_)
                          refine lv_goto (tgt := 87) hx hb dX6_count_208 (by decide) ?_
                          exact ih_lp_8 (q1 + 1) (al2 + Ald s1) (gd2 + Gdd s1) fw2 mo2 Sd Kd ud Ald Gdd Fwd Mod (by omega) hTd hVd (by rw [acc_y (by omega) hcv]; exact gC_no hgc hvd c_11) (by omega) H locs hP hD hS ls (lv_sub hl [4, 5, 6, 7, 8, 2, 1, 9, 10, 11, 12, 13, 0] rfl)
                      · -- f 104
                        have hcv := (whM_cv hn hs.2.1 hnb hs.1 hr4 (by omega : p1 < nn) (by omega : q1 < nn)).symm.trans c_10
                        refine lv_goto (tgt := 205) hx hb dX6_count_104 (by decide) ?_
                        refine lv_iinc (v := nI (q1 + 1)) (lv' := [(17, .int (nI (q1 + 1))), (0, .ref (ra 0)), (1, .long (lN x0)), (3, .int (nI rr)), (4, .int (nI dd)), (5, .long (lN (keyF x0 rr rr))), (8, .long (lN al2)), (10, .long (lN gd2)), (12, .int (nI fw2)), (13, .int (nI mo2)), (14, .int (nI nn)), (15, .int (nI p1)), (16, .int (nI (whM x0 rr p1)))]) hx hb dX6_count_205 hl (k := 12) rfl (ii_1 _) (by decide) rfl (fun ls hl => ?_)
                        refine lv_goto (tgt := 87) hx hb dX6_count_208 (by decide) ?_
                        exact ih_lp_8 (q1 + 1) al2 gd2 fw2 mo2 Sc Kc uc Alc Gdc Fwc Moc (by omega) hTc hVc (by rw [acc_n hcv]; exact hgc) (by omega) H locs hP hD hS ls (lv_sub hl [1, 2, 3, 4, 5, 6, 7, 8, 9, 10, 11, 12, 0] rfl)
                exact lp_8 _ 0 al gd fw mo Sb Kb ub Alb Gdb Fwb Mob (Nat.zero_le _) hTb hVb hgb (Nat.lt_succ_self _) H locs hP hD hS ls (lv_sub hl [2, 3, 4, 5, 6, 7, 8, 9, 10, 11, 12, 1, 0] rfl)
          exact lp_4 _ 0 0 0 12 0 S K u Al Gd Fw Mo (Nat.zero_le _) hT hV gC_0 (Nat.lt_succ_self _) H locs hP hD hS ls (lv_sub hl [8, 9, 10, 11, 7, 5, 4, 3, 2, 1, 0] rfl)
        · -- f 43
          exact absurd c_3 (by omega)
  · -- f 5
    exact absurd c_1 (by omega)

theorem k_count_k (l : Launch) (E : EE) (ra : Nat → Nat) (nn : Nat) (net : Nat → Nat) (rr : Nat) (h1 : 0 < nn) (hn : nn ≤ 4) (hnb : NB nn net) (hr4 : rr < 4) : ∀ k, CntS l E ra nn net rr k
  | 0 => fun dd st t2 t3 P u0 S K u Al Gd Fw Mo K2 u2 sz a b c1 => absurd c1 (by omega)
  | k + 1 => fun dd st t2 t3 P u0 S K u Al Gd Fw Mo K2 u2 sz a b c1 d f1 g => k_count_s l E ra nn net rr h1 hn hnb hr4 k (k_count_k l E ra nn net rr h1 hn hnb hr4 k) dd st t2 t3 P u0 S K u Al Gd Fw Mo K2 u2 sz a b c1 d f1 g

set_option maxHeartbeats 4000000 in
set_option maxRecDepth 100000 in
theorem k_count (l : Launch) (E : EE) (ra : Nat → Nat) (nn : Nat) (net : Nat → Nat) (rr : Nat) (h1 : 0 < nn) (hn : nn ≤ 4) (hnb : NB nn net) (hr4 : rr < 4) (st t2 t3 x0 : Nat) (K : Nat → Nat) (u : Nat) (Al Gd Fw Mo : Nat → Nat) (K2 : Nat → Nat) (u2 sz : Nat) (hs : Pst nn net rr rr st t2 t3 x0) (hB : TBt K u) (hV : VI K Al Gd Fw Mo) : Wr l yX6_count cX6_count 19 (some .int) rm_X6_count 0 0 E (rW E ra K u Al Gd Fw Mo K2 u2) sz [.ref (ra 0), .long (lN x0), .int (nI rr), .int (nI 0)] (fun v1 w1 => ∃ u0, CPost E ra nn net rr x0 u0 K2 u2 v1 w1) := by
  refine mk_wr (by decide) (Nat.le_of_ble_eq_true rfl) ?_
  intro p e s m args below meth c hC hin hK A hA hP hD hS ls hl
  obtain ⟨hx, hb, hr, hts, hown, hml, hlk, hN⟩ := id hC
  have hl : lv_has ls 19 [(0, .ref (ra 0)), (1, .long (lN x0)), (3, .int (nI rr)), (4, .int (nI 0))] := hl
  obtain hps := hs.1.ps
  have hx0 := hs.1.lt
  have hky0 := keyF_lt hs.1.lt hr4 hr4
  have hky : keyF x0 rr rr < 2 ^ 63 := (by omega)
  have ih := k_count_k l E ra nn net rr h1 hn hnb hr4 13
  have hmis := mis_le hn hs.2.1
  obtain ⟨H, hH⟩ : ∃ z, z = s.heap := ⟨_, rfl⟩
  have hS : va_S A s.heap H [] := by rw [hH]; exact hS
  rw [← hH] at hP
  refine W_heap hH ?_
  obtain ⟨locs, hlo⟩ : ∃ z : List Loc, z = [] := ⟨_, rfl⟩
  rw [← hlo] at hS ⊢
  refine lv_iload hx hb dX6_count_0 (lv_at hl 3 rfl) ?_
  refine n_if_ne (tgt := 12) hx hb (by omega) dX6_count_2 (by decide) (fun c_1 => absurd rfl c_1) (fun _ => ?_)
  refine lv_aload_n hx hb dX6_count_5 rfl (lv_at hl 0 rfl) ?_
  refine va_get (D := E.1) (ci := 4) (v := .ref (ra 1)) (C := RX6) (T := TX6) (N := 6) hx hb hts iX6 hown hK hP 0 rfl rfl 0 (by decide) (hts _ kw_61) (fun _ h9 => h9) rfl dX6_count_6 ?_
  refine cV_wr (X := rX ra) (Y := rY E ra Al Gd Fw Mo K2 u2) (rest := []) hC (k_makeRoom l E (ra 1) (ra 2) K u (by have := hB.2.2.2; omega) _) kw_394 iy_X8_makeRoom ⟨Nat.le_of_ble_eq_true rfl, Nat.le_of_ble_eq_true rfl⟩ ⟨rfl, rfl⟩ hK hP hD hS hA rfl (va_recv hK hP (ci := 6) (q0 := 1) rfl rfl) rfl hl.1 rfl (Nat.le_of_ble_eq_true rfl) dX6_count_9 ⟨Nat.le_of_ble_eq_true rfl, Nat.le_of_ble_eq_true rfl⟩ (fun v_ w_ H locs hpost hP hD hS => ?_)
  obtain ⟨rfl, hw_⟩ := hpost
  obtain ⟨Ka, u0, hw2, hT0, hsub⟩ := mr_tab hB hw_
  subst hw2
  have hV := VI_sub hV hsub
  have hT := hT0 nn net rr rr
  have hP : va_P E.1 vwCl (rW E ra Ka u0 Al Gd Fw Mo K2 u2) H := hP
  have hD : va_D A (rW E ra Ka u0 Al Gd Fw Mo K2 u2) := hD
  refine W.eq (g2 := F0 m 12 ls []) rfl ?_
  refine lv_lload_n hx hb dX6_count_12 rfl (lv_at hl 1 rfl) ?_
  refine lv_iload_n hx hb dX6_count_13 rfl (lv_at hl 2 rfl) ?_
  refine lv_iload_n hx hb dX6_count_14 rfl (lv_at hl 2 rfl) ?_
  refine cS_p (rest := []) hC (k_keyFor l x0 rr rr (by omega) (by omega)) kw_401 sy_X5_keyFor ⟨Nat.le_of_ble_eq_true rfl, Nat.le_of_ble_eq_true rfl⟩ ⟨rfl, rfl⟩ rfl hl.1 rfl (Nat.le_of_ble_eq_true rfl) dX6_count_15 ⟨Nat.le_of_ble_eq_true rfl, Nat.le_of_ble_eq_true rfl⟩ ?_
  refine lv_lstore (lv' := [(5, .long (lN (keyF x0 rr rr))), (0, .ref (ra 0)), (1, .long (lN x0)), (3, .int (nI rr)), (4, .int (nI 0))]) hx hb dX6_count_18 hl (by decide) rfl (fun ls hl => ?_)
  refine lv_aload_n hx hb dX6_count_20 rfl (lv_at hl 1 rfl) ?_
  refine va_get (D := E.1) (ci := 4) (v := .ref (ra 1)) (C := RX6) (T := TX6) (N := 6) hx hb hts iX6 hown hK hP 0 rfl rfl 0 (by decide) (hts _ kw_61) (fun _ h9 => h9) rfl dX6_count_21 ?_
  refine lv_lload hx hb dX6_count_24 (lv_at hl 0 rfl) ?_
  refine cV_r (rest := []) hC (k_find l E (ra 1) (ra 2) Ka u0 (keyF x0 rr rr) hky hT.1 (TQ_room h1 hn hT (keyF x0 rr rr))) kw_406 iy_X8_find ⟨Nat.le_of_ble_eq_true rfl, Nat.le_of_ble_eq_true rfl⟩ ⟨rfl, rfl⟩ hK (va_P_l (X := tW E (ra 1) (ra 2) Ka u0) (Y := rY E ra Al Gd Fw Mo K2 u2) (va_P_r (X := rX ra) hP)) (va_recv hK hP (ci := 6) (q0 := 1) rfl rfl) rfl hl.1 rfl (Nat.le_of_ble_eq_true rfl) dX6_count_26 ⟨Nat.le_of_ble_eq_true rfl, Nat.le_of_ble_eq_true rfl⟩ ?_
  by_cases hfd : Ka (slt Ka (keyF x0 rr rr)) = (keyF x0 rr rr)
  ·
    refine top_i (show fndT Ka (keyF x0 rr rr) = nI (slt Ka (keyF x0 rr rr)) from by unfold fndT; rw [if_pos hfd]) ?_
    have hslt := slt_lt Ka (keyF x0 rr rr)
    refine lv_istore (lv' := [(7, .int (nI (slt Ka (keyF x0 rr rr)))), (5, .long (lN (keyF x0 rr rr))), (0, .ref (ra 0)), (1, .long (lN x0)), (3, .int (nI rr)), (4, .int (nI 0))]) hx hb dX6_count_29 hl (by decide) rfl (fun ls hl => ?_)
    refine lv_iload hx hb dX6_count_31 (lv_at hl 0 rfl) ?_
    refine n_if_ge (tgt := 43) hx hb (by omega) dX6_count_33 (by decide) ?_
    refine lv_iload hx hb dX6_count_43 (lv_at hl 0 rfl) ?_
    exact rw_i hC rfl hP hD hS (⟨u0, slt Ka (keyF x0 rr rr), 0, Ka, u0, Al, Gd, Fw, Mo, rfl, rfl, hslt, hT, hV, hfd⟩) dX6_count_45 (Nat.le_of_ble_eq_true rfl) (Nat.le_of_ble_eq_true rfl)
  ·
    refine top_i (show fndT Ka (keyF x0 rr rr) = -1 from by unfold fndT; rw [if_neg hfd]) ?_
    refine lv_istore (lv' := [(7, .int (-1)), (5, .long (lN (keyF x0 rr rr))), (0, .ref (ra 0)), (1, .long (lN x0)), (3, .int (nI rr)), (4, .int (nI 0))]) hx hb dX6_count_29 hl (by decide) rfl (fun ls hl => ?_)
    refine lv_iload hx hb dX6_count_31 (lv_at hl 0 rfl) ?_
    refine lv_if_ge (tgt := 43) hx hb dX6_count_33 (by decide) (fun c_2 => ?_) (fun c_2 => ?_)
    · -- t 43
      exact absurd c_2 (by decide)
    · -- f 36
      refine lv_iload hx hb dX6_count_36 (lv_at hl 5 rfl) ?_
      refine lv_bipush (v := nI 12) hx hb dX6_count_38 (by decide) ?_
      refine n_icmp_le (tgt := 46) hx hb (by omega) (by omega) dX6_count_40 (by decide) (fun c_3 => ?_) (fun c_3 => ?_)
      · -- t 46
        refine lv_lconst (v := lN 0) hx hb dX6_count_46 (by decide) ?_
        refine lv_lstore (lv' := [(8, .long (lN 0)), (7, .int (-1)), (5, .long (lN (keyF x0 rr rr))), (0, .ref (ra 0)), (1, .long (lN x0)), (3, .int (nI rr)), (4, .int (nI 0))]) hx hb dX6_count_47 hl (by decide) rfl (fun ls hl => ?_)
        refine lv_lconst (v := lN 0) hx hb dX6_count_49 (by decide) ?_
        refine lv_lstore (lv' := [(10, .long (lN 0)), (8, .long (lN 0)), (7, .int (-1)), (5, .long (lN (keyF x0 rr rr))), (0, .ref (ra 0)), (1, .long (lN x0)), (3, .int (nI rr)), (4, .int (nI 0))]) hx hb dX6_count_50 hl (by decide) rfl (fun ls hl => ?_)
        refine lv_bipush (v := nI 12) hx hb dX6_count_52 (by decide) ?_
        refine lv_istore (lv' := [(12, .int (nI 12)), (10, .long (lN 0)), (8, .long (lN 0)), (7, .int (-1)), (5, .long (lN (keyF x0 rr rr))), (0, .ref (ra 0)), (1, .long (lN x0)), (3, .int (nI rr)), (4, .int (nI 0))]) hx hb dX6_count_54 hl (by decide) rfl (fun ls hl => ?_)
        refine lv_iconst (v := nI 0) hx hb dX6_count_56 (by decide) ?_
        refine lv_istore (lv' := [(13, .int (nI 0)), (12, .int (nI 12)), (10, .long (lN 0)), (8, .long (lN 0)), (7, .int (-1)), (5, .long (lN (keyF x0 rr rr))), (0, .ref (ra 0)), (1, .long (lN x0)), (3, .int (nI rr)), (4, .int (nI 0))]) hx hb dX6_count_57 hl (by decide) rfl (fun ls hl => ?_)
        refine lv_lload_n hx hb dX6_count_59 rfl (lv_at hl 7 rfl) ?_
        refine cS_p (rest := []) hC (k_persons l x0 (by omega)) kw_415 sy_X5_persons ⟨Nat.le_of_ble_eq_true rfl, Nat.le_of_ble_eq_true rfl⟩ ⟨rfl, rfl⟩ rfl hl.1 rfl (Nat.le_of_ble_eq_true rfl) dX6_count_60 ⟨Nat.le_of_ble_eq_true rfl, Nat.le_of_ble_eq_true rfl⟩ ?_
        refine top_i (congrArg nI hps) ?_
        refine lv_istore (lv' := [(14, .int (nI nn)), (13, .int (nI 0)), (12, .int (nI 12)), (10, .long (lN 0)), (8, .long (lN 0)), (7, .int (-1)), (5, .long (lN (keyF x0 rr rr))), (0, .ref (ra 0)), (1, .long (lN x0)), (3, .int (nI rr)), (4, .int (nI 0))]) hx hb dX6_count_63 hl (by decide) rfl (fun ls hl => ?_)
        refine lv_iconst (v := nI 0) hx hb dX6_count_65 (by decide) ?_
        refine lv_istore (lv' := [(15, .int (nI 0)), (14, .int (nI nn)), (13, .int (nI 0)), (12, .int (nI 12)), (10, .long (lN 0)), (8, .long (lN 0)), (7, .int (-1)), (5, .long (lN (keyF x0 rr rr))), (0, .ref (ra 0)), (1, .long (lN x0)), (3, .int (nI rr)), (4, .int (nI 0))]) hx hb dX6_count_66 hl (by decide) rfl (fun ls hl => ?_)
        have lp_4 : ∀ (n_lp_4 : Nat) (p1 : Nat) (al gd fw mo Sb : Nat) (Kb : Nat → Nat) (ub : Nat) (Alb Gdb Fwb Mob : Nat → Nat) (hp1 : p1 ≤ nn) (hTb : TQ nn net rr rr u0 Sb Kb ub) (hVb : VI Kb Alb Gdb Fwb Mob) (hgb : gC al gd fw mo (accC nn net rr (CN nn net rr) st (tkR rr t2 t3) (4 * p1))), nn - p1 < n_lp_4 → ∀ (H : Heap) (locs : List Loc) (hP : va_P E.1 vwCl (rW E ra Kb ub Alb Gdb Fwb Mob K2 u2) H) (hD : va_D A (rW E ra Kb ub Alb Gdb Fwb Mob K2 u2)) (hS : va_S A s.heap H locs) (ls : Array Slot), lv_has ls 19 [(0, .ref (ra 0)), (1, .long (lN x0)), (3, .int (nI rr)), (4, .int (nI 0)), (5, .long (lN (keyF x0 rr rr))), (8, .long (lN al)), (10, .long (lN gd)), (12, .int (nI fw)), (13, .int (nI mo)), (14, .int (nI nn)), (15, .int (nI p1))] → W p l e rm_X6_count s m args below meth c H locs 0 0 (MQ below (wr_Q E A (fun v1 w1 => ∃ u0, CPost E ra nn net rr x0 u0 K2 u2 v1 w1)) args s 0 0 A) (F0 m 68 ls []) := by
          intro n_lp_4
          induction n_lp_4 with
          | zero => intro p1 al gd fw mo Sb Kb ub Alb Gdb Fwb Mob hp1 hTb hVb hgb; intro hm_lp_4; exact absurd hm_lp_4 (Nat.not_lt_zero _)
          | succ n_lp_4 ih_lp_4 =>
            intro p1 al gd fw mo Sb Kb ub Alb Gdb Fwb Mob hp1 hTb hVb hgb hm_lp_4 H locs hP hD hS ls hl
            have hsb := gC_sm (by omega : 4 * p1 ≤ 16) hgb
            refine lv_iload hx hb dX6_count_68 (lv_at hl 10 rfl) ?_
            refine lv_iload hx hb dX6_count_70 (lv_at hl 9 rfl) ?_
            refine n_icmp_ge (tgt := 217) hx hb (by omega) (by omega) dX6_count_72 (by decide) (fun c_5 => ?_) (fun c_5 => ?_)
            · -- t 217
              refine lv_lload hx hb dX6_count_217 (lv_at hl 5 rfl) ?_
              refine lv_lconst (v := lN 0) hx hb dX6_count_219 (by decide) ?_
              refine n_lcmp_le (tgt := 239) hx hb (by omega) (by omega) dX6_count_220 dX6_count_221 (by decide) (fun c_6 => ?_) (fun c_6 => ?_)
              · -- t 239
                refine lv_aload_n hx hb dX6_count_239 rfl (lv_at hl 0 rfl) ?_
                refine lv_lload hx hb dX6_count_240 (lv_at hl 4 rfl) ?_
                refine lv_lconst (v := lN 1) hx hb dX6_count_242 (by decide) ?_
                refine lv_lload_n hx hb dX6_count_243 rfl (lv_at hl 1 rfl) ?_
                refine cS_p (rest := [.long (lN 1), .long (lN (keyF x0 rr rr)), .ref (ra 0)]) hC (k_allAreExperts l x0 (by omega) (by omega)) kw_433 sy_X5_allAreExperts ⟨Nat.le_of_ble_eq_true rfl, Nat.le_of_ble_eq_true rfl⟩ ⟨rfl, rfl⟩ rfl hl.1 rfl (Nat.le_of_ble_eq_true rfl) dX6_count_244 ⟨Nat.le_of_ble_eq_true rfl, Nat.le_of_ble_eq_true rfl⟩ ?_
                refine cN_p (rest := [.long (lN 1), .long (lN (keyF x0 rr rr)), .ref (ra 0)]) hC (k_truth l (decide (bitsN (x0 &&& 65535) 16 = pN x0 * pN x0))) hN.2.2.2.2.1 sy_X11_truth ⟨Nat.le_of_ble_eq_true rfl, Nat.le_of_ble_eq_true rfl⟩ ⟨rfl, rfl⟩ rfl hl.1 rfl (Nat.le_of_ble_eq_true rfl) dX6_count_247 ⟨Nat.le_of_ble_eq_true rfl, Nat.le_of_ble_eq_true rfl⟩ ?_
                refine top_i ((bI_nI _).trans (congrArg (fun b => nI (Bool.toNat b)) (Ps_exp hn hs.2.1 hs.1))) ?_
                have hbt := Bool.toNat_le (expM st nn)
                refine n_i2l hx hb (by omega) dX6_count_250 ?_
                refine lv_iconst (v := nI 0) hx hb dX6_count_251 (by decide) ?_
                refine lv_iconst (v := nI 0) hx hb dX6_count_252 (by decide) ?_
                refine cV_w0 (rest := []) hC (k_keep l E ra Kb ub Alb Gdb Fwb Mob K2 u2 (keyF x0 rr rr) 1 ((expM st nn).toNat) 0 0 hky hTb.1 (TQ_room h1 hn hTb (keyF x0 rr rr)) (by have := TQ_u h1 hn hTb; omega) (by omega) (by omega) _) kw_425 iy_X6_keep ⟨Nat.le_of_ble_eq_true rfl, Nat.le_of_ble_eq_true rfl⟩ ⟨rfl, rfl⟩ hK hP hD hS hA (va_recv hK hP (ci := 4) (q0 := 0) rfl rfl) rfl hl.1 rfl (Nat.le_of_ble_eq_true rfl) dX6_count_253 ⟨Nat.le_of_ble_eq_true rfl, Nat.le_of_ble_eq_true rfl⟩ (fun v_ w_ H locs hpost hP hD hS => ?_)
                obtain ⟨rfl, rfl⟩ := hpost
                obtain ⟨Se, hTe, hVe⟩ := keep_ok h1 hn hr4 hTb hVb hs (gC_leaf (gd := gd) (fw := fw) (mo := mo) hn hs.2.1 (by rw [acc_end hn (by omega) (by omega), ← (by omega : al = 0)]; exact hgb))
                refine W.eq (g2 := F0 m 256 ls [.int (nI (slt Kb (keyF x0 rr rr)))]) rfl ?_
                exact rw_i hC rfl hP hD hS (⟨u0, slt Kb (keyF x0 rr rr), Se, _, _, _, _, _, _, rfl, rfl, slt_lt _ _, hTe, hVe, vu_s _ _ _⟩) dX6_count_256 (Nat.le_of_ble_eq_true rfl) (Nat.le_of_ble_eq_true rfl)
              · -- f 224
                refine lv_aload_n hx hb dX6_count_224 rfl (lv_at hl 0 rfl) ?_
                refine lv_lload hx hb dX6_count_225 (lv_at hl 4 rfl) ?_
                refine lv_lload hx hb dX6_count_227 (lv_at hl 5 rfl) ?_
                refine lv_lload hx hb dX6_count_229 (lv_at hl 6 rfl) ?_
                refine lv_iload hx hb dX6_count_231 (lv_at hl 7 rfl) ?_
                refine lv_iload hx hb dX6_count_233 (lv_at hl 8 rfl) ?_
                refine cV_w0 (rest := []) hC (k_keep l E ra Kb ub Alb Gdb Fwb Mob K2 u2 (keyF x0 rr rr) al gd fw mo hky hTb.1 (TQ_room h1 hn hTb (keyF x0 rr rr)) (by have := TQ_u h1 hn hTb; omega) (by omega) (by omega) _) kw_425 iy_X6_keep ⟨Nat.le_of_ble_eq_true rfl, Nat.le_of_ble_eq_true rfl⟩ ⟨rfl, rfl⟩ hK hP hD hS hA (va_recv hK hP (ci := 4) (q0 := 0) rfl rfl) rfl hl.1 rfl (Nat.le_of_ble_eq_true rfl) dX6_count_235 ⟨Nat.le_of_ble_eq_true rfl, Nat.le_of_ble_eq_true rfl⟩ (fun v_ w_ H locs hpost hP hD hS => ?_)
                obtain ⟨rfl, rfl⟩ := hpost
                obtain ⟨Se, hTe, hVe⟩ := keep_ok h1 hn hr4 hTb hVb hs (gC_fin hn hs.2.1 (by rw [acc_end hn (by omega) (by omega)]; exact hgb) (by omega))
                refine W.eq (g2 := F0 m 238 ls [.int (nI (slt Kb (keyF x0 rr rr)))]) rfl ?_
                exact rw_i hC rfl hP hD hS (⟨u0, slt Kb (keyF x0 rr rr), Se, _, _, _, _, _, _, rfl, rfl, slt_lt _ _, hTe, hVe, vu_s _ _ _⟩) dX6_count_238 (Nat.le_of_ble_eq_true rfl) (Nat.le_of_ble_eq_true rfl)
            · -- f 75
              refine lv_lload_n hx hb dX6_count_75 rfl (lv_at hl 1 rfl) ?_
              refine lv_iload_n hx hb dX6_count_76 rfl (lv_at hl 2 rfl) ?_
              refine lv_iload hx hb dX6_count_77 (lv_at hl 10 rfl) ?_
              refine cS_p (rest := []) hC (k_whomMay l x0 rr p1 (by omega) (by omega) (by omega) (by omega)) kw_416 sy_X5_whomMay ⟨Nat.le_of_ble_eq_true rfl, Nat.le_of_ble_eq_true rfl⟩ ⟨rfl, rfl⟩ rfl hl.1 rfl (Nat.le_of_ble_eq_true rfl) dX6_count_79 ⟨Nat.le_of_ble_eq_true rfl, Nat.le_of_ble_eq_true rfl⟩ ?_
              have f_7 := whM_lt (by omega : pN x0 ≤ 4) rr p1
              refine lv_istore (lv' := [(16, .int (nI (whM x0 rr p1))), (0, .ref (ra 0)), (1, .long (lN x0)), (3, .int (nI rr)), (4, .int (nI 0)), (5, .long (lN (keyF x0 rr rr))), (8, .long (lN al)), (10, .long (lN gd)), (12, .int (nI fw)), (13, .int (nI mo)), (14, .int (nI nn)), (15, .int (nI p1))]) hx hb dX6_count_82 hl (by decide) rfl (fun ls hl => ?_)
              refine lv_iconst (v := nI 0) hx hb dX6_count_84 (by decide) ?_
              refine lv_istore (lv' := [(17, .int (nI 0)), (16, .int (nI (whM x0 rr p1))), (0, .ref (ra 0)), (1, .long (lN x0)), (3, .int (nI rr)), (4, .int (nI 0)), (5, .long (lN (keyF x0 rr rr))), (8, .long (lN al)), (10, .long (lN gd)), (12, .int (nI fw)), (13, .int (nI mo)), (14, .int (nI nn)), (15, .int (nI p1))]) hx hb dX6_count_85 hl (by decide) rfl (fun ls hl => ?_)
              have lp_8 : ∀ (n_lp_8 : Nat) (q1 : Nat) (al2 gd2 fw2 mo2 Sc : Nat) (Kc : Nat → Nat) (uc : Nat) (Alc Gdc Fwc Moc : Nat → Nat) (hq1 : q1 ≤ nn) (hTc : TQ nn net rr rr u0 Sc Kc uc) (hVc : VI Kc Alc Gdc Fwc Moc) (hgc : gC al2 gd2 fw2 mo2 (accC nn net rr (CN nn net rr) st (tkR rr t2 t3) (4 * p1 + q1))), nn - q1 < n_lp_8 → ∀ (H : Heap) (locs : List Loc) (hP : va_P E.1 vwCl (rW E ra Kc uc Alc Gdc Fwc Moc K2 u2) H) (hD : va_D A (rW E ra Kc uc Alc Gdc Fwc Moc K2 u2)) (hS : va_S A s.heap H locs) (ls : Array Slot), lv_has ls 19 [(0, .ref (ra 0)), (1, .long (lN x0)), (3, .int (nI rr)), (4, .int (nI 0)), (5, .long (lN (keyF x0 rr rr))), (8, .long (lN al2)), (10, .long (lN gd2)), (12, .int (nI fw2)), (13, .int (nI mo2)), (14, .int (nI nn)), (15, .int (nI p1)), (16, .int (nI (whM x0 rr p1))), (17, .int (nI q1))] → W p l e rm_X6_count s m args below meth c H locs 0 0 (MQ below (wr_Q E A (fun v1 w1 => ∃ u0, CPost E ra nn net rr x0 u0 K2 u2 v1 w1)) args s 0 0 A) (F0 m 87 ls []) := by
                intro n_lp_8
                induction n_lp_8 with
                | zero => intro q1 al2 gd2 fw2 mo2 Sc Kc uc Alc Gdc Fwc Moc hq1 hTc hVc hgc; intro hm_lp_8; exact absurd hm_lp_8 (Nat.not_lt_zero _)
                | succ n_lp_8 ih_lp_8 =>
                  intro q1 al2 gd2 fw2 mo2 Sc Kc uc Alc Gdc Fwc Moc hq1 hTc hVc hgc hm_lp_8 H locs hP hD hS ls hl
                  have hsc := gC_sm (by omega : 4 * p1 + q1 ≤ 16) hgc
                  refine lv_iload hx hb dX6_count_87 (lv_at hl 12 rfl) ?_
                  refine lv_iload hx hb dX6_count_89 (lv_at hl 9 rfl) ?_
                  refine n_icmp_ge (tgt := 211) hx hb (by omega) (by omega) dX6_count_91 (by decide) (fun c_9 => ?_) (fun c_9 => ?_)
                  · -- t 211
                    refine lv_iinc (v := nI (p1 + 1)) (lv' := [(15, .int (nI (p1 + 1))), (0, .ref (ra 0)), (1, .long (lN x0)), (3, .int (nI rr)), (4, .int (nI 0)), (5, .long (lN (keyF x0 rr rr))), (8, .long (lN al2)), (10, .long (lN gd2)), (12, .int (nI fw2)), (13, .int (nI mo2)), (14, .int (nI nn)), (16, .int (nI (whM x0 rr p1))), (17, .int (nI q1))]) hx hb dX6_count_211 hl (k := 10) rfl (ii_1 _) (by decide) rfl (fun ls hl => ?_)
                    refine lv_goto (tgt := 68) hx hb dX6_count_214 (by decide) ?_
                    exact ih_lp_4 (p1 + 1) al2 gd2 fw2 mo2 Sc Kc uc Alc Gdc Fwc Moc (by omega) hTc hVc (by rw [acc_row hn (by omega) (by omega)]; exact hgc) (by omega) H locs hP hD hS ls (lv_sub hl [1, 2, 3, 4, 5, 6, 7, 8, 9, 10, 0] rfl)
                  · -- f 94
                    refine lv_iload hx hb dX6_count_94 (lv_at hl 11 rfl) ?_
                    refine lv_iload hx hb dX6_count_96 (lv_at hl 12 rfl) ?_
                    refine cN_p (rest := []) hC (k_contains l (whM x0 rr p1) q1 (by omega) (by omega)) hN.2.2.2.1 sy_X11_contains ⟨Nat.le_of_ble_eq_true rfl, Nat.le_of_ble_eq_true rfl⟩ ⟨rfl, rfl⟩ rfl hl.1 rfl (Nat.le_of_ble_eq_true rfl) dX6_count_98 ⟨Nat.le_of_ble_eq_true rfl, Nat.le_of_ble_eq_true rfl⟩ ?_
                    refine b_if_ne (tgt := 107) hx hb dX6_count_101 (by decide) (fun c_10 => ?_) (fun c_10 => ?_)
                    · -- t 107
                      have hcv := (whM_cv hn hs.2.1 hnb hs.1 hr4 (by omega : p1 < nn) (by omega : q1 < nn)).symm.trans c_10
                      have hpq := cv_ne hn (by omega : p1 < nn) (by omega : q1 < nn) hcv
                      have hok := cv_ok hn hs.2.1 hcv; have hmi : mis nn (aft st p1 q1) < mis nn st := (by have h9 := hok.2.2.2.2; unfold nxS at h9; rwa [show (4 * p1 + q1) / 4 = p1 by omega, show (4 * p1 + q1) % 4 = q1 by omega] at h9)
                      have hsn := Pst_ring hn hs (by omega : p1 < nn) (by omega : q1 < nn) hpq
                      refine lv_aload_n hx hb dX6_count_107 rfl (lv_at hl 0 rfl) ?_
                      refine lv_lload_n hx hb dX6_count_108 rfl (lv_at hl 1 rfl) ?_
                      refine lv_iload hx hb dX6_count_109 (lv_at hl 10 rfl) ?_
                      refine lv_iload hx hb dX6_count_111 (lv_at hl 12 rfl) ?_
                      refine cS_p (rest := [.ref (ra 0)]) hC (k_ring l x0 p1 q1 (by omega) (by omega) (by omega)) kw_418 sy_X5_ring ⟨Nat.le_of_ble_eq_true rfl, Nat.le_of_ble_eq_true rfl⟩ ⟨rfl, rfl⟩ rfl hl.1 rfl (Nat.le_of_ble_eq_true rfl) dX6_count_113 ⟨Nat.le_of_ble_eq_true rfl, Nat.le_of_ble_eq_true rfl⟩ ?_
                      refine lv_iload_n hx hb dX6_count_116 rfl (lv_at hl 2 rfl) ?_
                      refine lv_iload hx hb dX6_count_117 (lv_at hl 3 rfl) ?_
                      refine lv_iconst (v := nI 1) hx hb dX6_count_119 (by decide) ?_
                      refine n_iadd hx hb dX6_count_120 ?_
                      refine cV_w0 (rest := []) hC (ih (0 + 1) (aft st p1 q1) (tokA t2 2 p1 q1) (tokA t3 3 p1 q1) (rng x0 p1 q1) u0 Sc Kc uc Alc Gdc Fwc Moc K2 u2 _ (by omega) (by omega) (by omega) hsn hTc hVc) kw_390 iy_X6_count ⟨Nat.le_of_ble_eq_true rfl, Nat.le_of_ble_eq_true rfl⟩ ⟨rfl, rfl⟩ hK hP hD hS hA (va_recv hK hP (ci := 4) (q0 := 0) rfl rfl) rfl hl.1 rfl (Nat.le_of_ble_eq_true rfl) dX6_count_121 ⟨Nat.le_of_ble_eq_true rfl, Nat.le_of_ble_eq_true rfl⟩ (fun v_ w_ H locs hpost hP hD hS => ?_)
                      obtain ⟨s1, Sd, Kd, ud, Ald, Gdd, Fwd, Mod, rfl, rfl, hs1, hTd, hVd, hKd⟩ := hpost
                      have hvd := VI_at h1 hn hr4 hVd hs1 hsn hKd
                      rw [CN_tk hn hr4 hsn.2.1] at hvd
                      have hsd := vC_sm hvd
                      refine W.eq (g2 := F0 m 124 ls [.int (nI s1)]) rfl ?_
                      refine lv_istore (lv' := [(18, .int (nI s1)), (0, .ref (ra 0)), (1, .long (lN x0)), (3, .int (nI rr)), (4, .int (nI 0)), (5, .long (lN (keyF x0 rr rr))), (8, .long (lN al2)), (10, .long (lN gd2)), (12, .int (nI fw2)), (13, .int (nI mo2)), (14, .int (nI nn)), (15, .int (nI p1)), (16, .int (nI (whM x0 rr p1))), (17, .int (nI q1))]) hx hb dX6_count_124 hl (by decide) rfl (fun ls hl => ?_)
                      refine lv_iload hx hb dX6_count_126 (lv_at hl 0 rfl) ?_
                      refine n_if_ge (tgt := 134) hx hb (by omega) dX6_count_128 (by decide) ?_
                      refine lv_lload hx hb dX6_count_134 (lv_at hl 6 rfl) ?_
                      refine lv_aload_n hx hb dX6_count_136 rfl (lv_at hl 1 rfl) ?_
                      refine va_get (D := E.1) (ci := 4) (v := .ref (ra 3)) (C := RX6) (T := TX6) (N := 6) hx hb hts iX6 hown hK hP 0 rfl rfl 1 (by decide) (hts _ kw_62) (fun _ h9 => h9) rfl dX6_count_137 ?_
                      refine lv_iload hx hb dX6_count_140 (lv_at hl 0 rfl) ?_
                      refine n_lald (f := fun j => lN (Ald j)) hx hb hK hP 3 rfl (by omega) (by decide) dX6_count_142 ?_
                      refine n_ladd hx hb dX6_count_143 ?_
                      refine lv_lstore (lv' := [(8, .long (lN (al2 + (Ald s1)))), (18, .int (nI s1)), (0, .ref (ra 0)), (1, .long (lN x0)), (3, .int (nI rr)), (4, .int (nI 0)), (5, .long (lN (keyF x0 rr rr))), (10, .long (lN gd2)), (12, .int (nI fw2)), (13, .int (nI mo2)), (14, .int (nI nn)), (15, .int (nI p1)), (16, .int (nI (whM x0 rr p1))), (17, .int (nI q1))]) hx hb dX6_count_144 hl (by decide) rfl (fun ls hl => ?_)
                      refine lv_lload hx hb dX6_count_146 (lv_at hl 7 rfl) ?_
                      refine lv_aload_n hx hb dX6_count_148 rfl (lv_at hl 2 rfl) ?_
                      refine va_get (D := E.1) (ci := 4) (v := .ref (ra 4)) (C := RX6) (T := TX6) (N := 6) hx hb hts iX6 hown hK hP 0 rfl rfl 2 (by decide) (hts _ kw_63) (fun _ h9 => h9) rfl dX6_count_149 ?_
                      refine lv_iload hx hb dX6_count_152 (lv_at hl 1 rfl) ?_
                      refine n_lald (f := fun j => lN (Gdd j)) hx hb hK hP 4 rfl (by omega) (by decide) dX6_count_154 ?_
                      refine n_ladd hx hb dX6_count_155 ?_
                      refine lv_lstore (lv' := [(10, .long (lN (gd2 + (Gdd s1)))), (8, .long (lN (al2 + (Ald s1)))), (18, .int (nI s1)), (0, .ref (ra 0)), (1, .long (lN x0)), (3, .int (nI rr)), (4, .int (nI 0)), (5, .long (lN (keyF x0 rr rr))), (12, .int (nI fw2)), (13, .int (nI mo2)), (14, .int (nI nn)), (15, .int (nI p1)), (16, .int (nI (whM x0 rr p1))), (17, .int (nI q1))]) hx hb dX6_count_156 hl (by decide) rfl (fun ls hl => ?_)
                      refine lv_aload_n hx hb dX6_count_158 rfl (lv_at hl 3 rfl) ?_
                      refine va_get (D := E.1) (ci := 4) (v := .ref (ra 4)) (C := RX6) (T := TX6) (N := 6) hx hb hts iX6 hown hK hP 0 rfl rfl 2 (by decide) (hts _ kw_63) (fun _ h9 => h9) rfl dX6_count_159 ?_
                      refine lv_iload hx hb dX6_count_162 (lv_at hl 2 rfl) ?_
                      refine n_lald (f := fun j => lN (Gdd j)) hx hb hK hP 4 rfl (by omega) (by decide) dX6_count_164 ?_
                      refine lv_lconst (v := lN 0) hx hb dX6_count_165 (by decide) ?_
                      refine n_lcmp_ne (tgt := 173) hx hb (by omega) (by omega) dX6_count_166 dX6_count_167 (by decide) (fun c_11 => ?_) (fun c_11 => ?_)
                      · -- t 173
                        refine lv_iload hx hb dX6_count_173 (lv_at hl 8 rfl) ?_
                        refine lv_aload_n hx hb dX6_count_175 rfl (lv_at hl 3 rfl) ?_
                        refine va_get (D := E.1) (ci := 4) (v := .ref (ra 5)) (C := RX6) (T := TX6) (N := 6) hx hb hts iX6 hown hK hP 0 rfl rfl 3 (by decide) (hts _ kw_64) (fun _ h9 => h9) rfl dX6_count_176 ?_
                        refine lv_iload hx hb dX6_count_179 (lv_at hl 2 rfl) ?_
                        refine n_bald (f := fun j => nI (Fwd j)) hx hb hK hP 5 rfl (by omega) (by decide) dX6_count_181 ?_
                        refine lv_iconst (v := nI 1) hx hb dX6_count_182 (by decide) ?_
                        refine n_iadd hx hb dX6_count_183 ?_
                        refine va_mmin hx hb (by rw [hml, hl.1]) hown (hts _ kw_419) (hts _ kw_420) (hts _ kw_13) (hts _ kw_421) (Nat.le_of_ble_eq_true rfl) (show 0 + 13 ≤ _ from Nat.le_of_ble_eq_true rfl) (Nat.le_of_ble_eq_true rfl) (Nat.le_of_ble_eq_true rfl) dX6_count_184 ?_
                        refine top_i (mmin_nI (by omega) (by omega)) ?_
                        refine lv_istore (lv' := [(12, .int (nI (min fw2 ((Fwd s1) + 1)))), (10, .long (lN (gd2 + (Gdd s1)))), (8, .long (lN (al2 + (Ald s1)))), (18, .int (nI s1)), (0, .ref (ra 0)), (1, .long (lN x0)), (3, .int (nI rr)), (4, .int (nI 0)), (5, .long (lN (keyF x0 rr rr))), (13, .int (nI mo2)), (14, .int (nI nn)), (15, .int (nI p1)), (16, .int (nI (whM x0 rr p1))), (17, .int (nI q1))]) hx hb dX6_count_187 hl (by decide) rfl (fun ls hl => ?_)
                        refine lv_iload hx hb dX6_count_189 (lv_at hl 9 rfl) ?_
                        refine lv_aload_n hx hb dX6_count_191 rfl (lv_at hl 4 rfl) ?_
                        refine va_get (D := E.1) (ci := 4) (v := .ref (ra 6)) (C := RX6) (T := TX6) (N := 6) hx hb hts iX6 hown hK hP 0 rfl rfl 4 (by decide) (hts _ kw_65) (fun _ h9 => h9) rfl dX6_count_192 ?_
                        refine lv_iload hx hb dX6_count_195 (lv_at hl 3 rfl) ?_
                        refine n_bald (f := fun j => nI (Mod j)) hx hb hK hP 6 rfl (by omega) (by decide) dX6_count_197 ?_
                        refine lv_iconst (v := nI 1) hx hb dX6_count_198 (by decide) ?_
                        refine n_iadd hx hb dX6_count_199 ?_
                        refine va_mmax hx hb (by rw [hml, hl.1]) hown (hts _ kw_422) (hts _ kw_423) (hts _ kw_13) (hts _ kw_424) (Nat.le_of_ble_eq_true rfl) (show 0 + 13 ≤ _ from Nat.le_of_ble_eq_true rfl) (Nat.le_of_ble_eq_true rfl) (Nat.le_of_ble_eq_true rfl) dX6_count_200 ?_
                        refine top_i (mmax_nI (by omega) (by omega)) ?_
                        refine lv_istore (lv' := [(13, .int (nI (max mo2 ((Mod s1) + 1)))), (12, .int (nI (min fw2 ((Fwd s1) + 1)))), (10, .long (lN (gd2 + (Gdd s1)))), (8, .long (lN (al2 + (Ald s1)))), (18, .int (nI s1)), (0, .ref (ra 0)), (1, .long (lN x0)), (3, .int (nI rr)), (4, .int (nI 0)), (5, .long (lN (keyF x0 rr rr))), (14, .int (nI nn)), (15, .int (nI p1)), (16, .int (nI (whM x0 rr p1))), (17, .int (nI q1))]) hx hb dX6_count_203 hl (by decide) rfl (fun ls hl => ?_)
                        refine lv_iinc (v := nI (q1 + 1)) (lv' := [(17, .int (nI (q1 + 1))), (13, .int (nI (max mo2 ((Mod s1) + 1)))), (12, .int (nI (min fw2 ((Fwd s1) + 1)))), (10, .long (lN (gd2 + (Gdd s1)))), (8, .long (lN (al2 + (Ald s1)))), (18, .int (nI s1)), (0, .ref (ra 0)), (1, .long (lN x0)), (3, .int (nI rr)), (4, .int (nI 0)), (5, .long (lN (keyF x0 rr rr))), (14, .int (nI nn)), (15, .int (nI p1)), (16, .int (nI (whM x0 rr p1)))]) hx hb dX6_count_205 hl (k := 13) rfl (ii_1 _) (by decide) rfl (fun ls hl => ?_)
                        refine lv_goto (tgt := 87) hx hb dX6_count_208 (by decide) ?_
                        exact ih_lp_8 (q1 + 1) (al2 + Ald s1) (gd2 + Gdd s1) (min fw2 (Fwd s1 + 1)) (max mo2 (Mod s1 + 1)) Sd Kd ud Ald Gdd Fwd Mod (by omega) hTd hVd (by rw [acc_y (by omega) hcv]; exact gC_yes hgc hvd c_11 (CN_fm (by have := hvd.2.1; omega)).2.1 (CN_fm (by have := hvd.2.1; omega)).2.2) (by omega) H locs hP hD hS ls (lv_sub hl [6, 7, 8, 9, 10, 4, 3, 2, 1, 11, 12, 13, 0] rfl)
                      · -- f 170
                        refine lv_goto (tgt := 205) hx hb dX6_count_170 (by decide) ?_
                        refine lv_iinc (v := nI (q1 + 1)) (lv' := [(17, .int (nI (q1 + 1))), (10, .long (lN (gd2 + (Gdd s1)))), (8, .long (lN (al2 + (Ald s1)))), (18, .int (nI s1)), (0, .ref (ra 0)), (1, .long (lN x0)), (3, .int (nI rr)), (4, .int (nI 0)), (5, .long (lN (keyF x0 rr rr))), (12, .int (nI fw2)), (13, .int (nI mo2)), (14, .int (nI nn)), (15, .int (nI p1)), (16, .int (nI (whM x0 rr p1)))]) hx hb dX6_count_205 hl (k := 13) rfl (ii_1 _) (by decide) rfl (fun ls hl => ?_)
                        refine lv_goto (tgt := 87) hx hb dX6_count_208 (by decide) ?_
                        exact ih_lp_8 (q1 + 1) (al2 + Ald s1) (gd2 + Gdd s1) fw2 mo2 Sd Kd ud Ald Gdd Fwd Mod (by omega) hTd hVd (by rw [acc_y (by omega) hcv]; exact gC_no hgc hvd c_11) (by omega) H locs hP hD hS ls (lv_sub hl [4, 5, 6, 7, 8, 2, 1, 9, 10, 11, 12, 13, 0] rfl)
                    · -- f 104
                      have hcv := (whM_cv hn hs.2.1 hnb hs.1 hr4 (by omega : p1 < nn) (by omega : q1 < nn)).symm.trans c_10
                      refine lv_goto (tgt := 205) hx hb dX6_count_104 (by decide) ?_
                      refine lv_iinc (v := nI (q1 + 1)) (lv' := [(17, .int (nI (q1 + 1))), (0, .ref (ra 0)), (1, .long (lN x0)), (3, .int (nI rr)), (4, .int (nI 0)), (5, .long (lN (keyF x0 rr rr))), (8, .long (lN al2)), (10, .long (lN gd2)), (12, .int (nI fw2)), (13, .int (nI mo2)), (14, .int (nI nn)), (15, .int (nI p1)), (16, .int (nI (whM x0 rr p1)))]) hx hb dX6_count_205 hl (k := 12) rfl (ii_1 _) (by decide) rfl (fun ls hl => ?_)
                      refine lv_goto (tgt := 87) hx hb dX6_count_208 (by decide) ?_
                      exact ih_lp_8 (q1 + 1) al2 gd2 fw2 mo2 Sc Kc uc Alc Gdc Fwc Moc (by omega) hTc hVc (by rw [acc_n hcv]; exact hgc) (by omega) H locs hP hD hS ls (lv_sub hl [1, 2, 3, 4, 5, 6, 7, 8, 9, 10, 11, 12, 0] rfl)
              exact lp_8 _ 0 al gd fw mo Sb Kb ub Alb Gdb Fwb Mob (Nat.zero_le _) hTb hVb hgb (Nat.lt_succ_self _) H locs hP hD hS ls (lv_sub hl [2, 3, 4, 5, 6, 7, 8, 9, 10, 11, 12, 1, 0] rfl)
        exact lp_4 _ 0 0 0 12 0 0 Ka u0 Al Gd Fw Mo (Nat.zero_le _) hT hV gC_0 (Nat.lt_succ_self _) H locs hP hD hS ls (lv_sub hl [8, 9, 10, 11, 7, 5, 4, 3, 2, 1, 0] rfl)
      · -- f 43
        exact absurd c_3 (by omega)
