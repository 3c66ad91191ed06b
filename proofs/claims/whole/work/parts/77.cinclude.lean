set_option maxHeartbeats 4000000 in
set_option maxRecDepth 100000 in
theorem k_include_s (l : Launch) (E : EE) (ra : Nat → Nat) (nn : Nat) (net : Nat → Nat) (rr oo : Nat) (h1 : 0 < nn) (hn : nn ≤ 4) (hnb : NB nn net) (hr4 : rr < 4) (ho4 : oo < 4) (hmx : mixR rr oo) (k1 : Nat) (ih : IncS l E ra nn net rr oo k1) (dd st t2 t3 x0 u0 S : Nat) (K : Nat → Nat) (u : Nat) (Al Gd Fw Mo : Nat → Nat) (K2 : Nat → Nat) (u2 sz : Nat) (hd0 : 0 < dd) (hdk : dd + (k1 + 1) = 14) (hmis : mis nn st + dd ≤ 12) (hs : Pst nn net rr oo st t2 t3 x0) (hT : TQ nn net rr oo u0 S K2 u2) (hW : WI K2) : Wr l yX6_include cX6_include 12 (some .boolean) (rm_X6_include_k (k1 + 1)) 0 0 E (rW E ra K u Al Gd Fw Mo K2 u2) sz [.ref (ra 0), .long (lN x0), .int (nI rr), .int (nI oo), .int (nI dd)] (IPost E ra nn net rr oo st t2 t3 u0 K u Al Gd Fw Mo) := by
  refine mk_wr (by decide) (Nat.le_of_ble_eq_true rfl) ?_
  intro p e s m args below meth c hC hin hK A hA hP hD hS ls hl
  obtain ⟨hx, hb, hr, hts, hown, hml, hlk, hN⟩ := id hC
  have hl : lv_has ls 12 [(0, .ref (ra 0)), (1, .long (lN x0)), (3, .int (nI rr)), (4, .int (nI oo)), (5, .int (nI dd))] := hl
  have hps := hs.1.ps
  have hx0 := hs.1.lt
  have hky0 := keyF_lt hs.1.lt hr4 ho4
  have hky : keyF x0 rr oo < 2 ^ 63 := (by omega)
  obtain ⟨H, hH⟩ : ∃ z, z = s.heap := ⟨_, rfl⟩
  have hS : va_S A s.heap H [] := by rw [hH]; exact hS
  rw [← hH] at hP
  refine W_heap hH ?_
  obtain ⟨locs, hlo⟩ : ∃ z : List Loc, z = [] := ⟨_, rfl⟩
  rw [← hlo] at hS ⊢
  refine lv_iload hx hb dX6_include_0 (lv_at hl 4 rfl) ?_
  refine n_if_ne (tgt := 12) hx hb (by omega) dX6_include_2 (by decide) (fun c_1 => ?_) (fun c_1 => ?_)
  · -- t 12
    refine lv_lload_n hx hb dX6_include_12 rfl (lv_at hl 1 rfl) ?_
    refine lv_iload_n hx hb dX6_include_13 rfl (lv_at hl 2 rfl) ?_
    refine lv_iload hx hb dX6_include_14 (lv_at hl 3 rfl) ?_
    refine cS_p (rest := []) hC (k_keyFor l x0 rr oo (by omega) (by omega)) kw_401 sy_X5_keyFor ⟨by dsimp only [rm_X6_include_k, rm_X5_keyFor, rm_X8_find, rm_X5_persons, rm_X5_whomMay, rm_X11_contains, rm_X5_ring, rm_X8_take, rm_X8_makeRoom]; omega, by dsimp only [rm_X6_include_k, rm_X5_keyFor, rm_X8_find, rm_X5_persons, rm_X5_whomMay, rm_X11_contains, rm_X5_ring, rm_X8_take, rm_X8_makeRoom]; omega⟩ ⟨rfl, rfl⟩ rfl hl.1 rfl (Nat.le_of_ble_eq_true rfl) dX6_include_16 ⟨Nat.le_of_ble_eq_true rfl, Nat.le_of_ble_eq_true rfl⟩ ?_
    refine lv_lstore (lv' := [(6, .long (lN (keyF x0 rr oo))), (0, .ref (ra 0)), (1, .long (lN x0)), (3, .int (nI rr)), (4, .int (nI oo)), (5, .int (nI dd))]) hx hb dX6_include_19 hl (by decide) rfl (fun ls hl => ?_)
    refine lv_iload hx hb dX6_include_21 (lv_at hl 5 rfl) ?_
    refine lv_bipush (v := nI 12) hx hb dX6_include_23 (by decide) ?_
    refine n_icmp_gt (tgt := 40) hx hb (by omega) (by omega) dX6_include_25 (by decide) (fun c_2 => ?_) (fun c_2 => ?_)
    · -- t 40
      exact absurd c_2 (by omega)
    · -- f 28
      refine lv_aload_n hx hb dX6_include_28 rfl (lv_at hl 1 rfl) ?_
      refine va_get (D := E.1) (ci := 4) (v := .ref (ra 7)) (C := RX6) (T := TX6) (N := 6) hx hb hts iX6 hown hK hP 0 rfl rfl 5 (by decide) (hts _ kw_66) (fun _ h9 => h9) rfl dX6_include_29 ?_
      refine lv_lload hx hb dX6_include_32 (lv_at hl 0 rfl) ?_
      refine cV_r (rest := []) hC (k_find l E (ra 7) (ra 8) K2 u2 (keyF x0 rr oo) hky hT.1 (TQ_room h1 hn hT (keyF x0 rr oo))) kw_406 iy_X8_find ⟨by dsimp only [rm_X6_include_k, rm_X5_keyFor, rm_X8_find, rm_X5_persons, rm_X5_whomMay, rm_X11_contains, rm_X5_ring, rm_X8_take, rm_X8_makeRoom]; omega, by dsimp only [rm_X6_include_k, rm_X5_keyFor, rm_X8_find, rm_X5_persons, rm_X5_whomMay, rm_X11_contains, rm_X5_ring, rm_X8_take, rm_X8_makeRoom]; omega⟩ ⟨rfl, rfl⟩ hK (va_P_l (X := tW E (ra 7) (ra 8) K2 u2) (Y := []) (va_P_r (X := rX2 E ra K u Al Gd Fw Mo) hP)) (va_recv hK hP (ci := 6) (q0 := 7) rfl rfl) rfl hl.1 rfl (Nat.le_of_ble_eq_true rfl) dX6_include_34 ⟨Nat.le_of_ble_eq_true rfl, Nat.le_of_ble_eq_true rfl⟩ ?_
      by_cases hfd : K2 (slt K2 (keyF x0 rr oo)) = (keyF x0 rr oo)
      ·
        refine top_i (show fndT K2 (keyF x0 rr oo) = nI (slt K2 (keyF x0 rr oo)) from by unfold fndT; rw [if_pos hfd]) ?_
        have hslt := slt_lt K2 (keyF x0 rr oo)
        refine n_if_lt (tgt := 42) hx hb (by omega) dX6_include_37 (by decide) ?_
        refine lv_iconst (v := nI 1) hx hb dX6_include_40 (by decide) ?_
        exact rw_bE hC (show nI 1 = bI true from rfl) hP hD hS (⟨S, K2, u2, by rw [WI_at h1 hn hr4 ho4 hmx hW hslt hs hfd]; rfl, rfl, hT, hW⟩) dX6_include_41 (Nat.le_of_ble_eq_true rfl) (Nat.le_of_ble_eq_true rfl)
      ·
        refine top_i (show fndT K2 (keyF x0 rr oo) = -1 from by unfold fndT; rw [if_neg hfd]) ?_
        refine lv_if_lt (tgt := 42) hx hb dX6_include_37 (by decide) (fun c_3 => ?_) (fun c_3 => ?_)
        · -- t 42
          refine lv_lload_n hx hb dX6_include_42 rfl (lv_at hl 2 rfl) ?_
          refine cS_p (rest := []) hC (k_persons l x0 (by omega)) kw_415 sy_X5_persons ⟨by dsimp only [rm_X6_include_k, rm_X5_keyFor, rm_X8_find, rm_X5_persons, rm_X5_whomMay, rm_X11_contains, rm_X5_ring, rm_X8_take, rm_X8_makeRoom]; omega, by dsimp only [rm_X6_include_k, rm_X5_keyFor, rm_X8_find, rm_X5_persons, rm_X5_whomMay, rm_X11_contains, rm_X5_ring, rm_X8_take, rm_X8_makeRoom]; omega⟩ ⟨rfl, rfl⟩ rfl hl.1 rfl (Nat.le_of_ble_eq_true rfl) dX6_include_43 ⟨Nat.le_of_ble_eq_true rfl, Nat.le_of_ble_eq_true rfl⟩ ?_
          refine top_i (congrArg nI hps) ?_
          refine lv_istore (lv' := [(8, .int (nI nn)), (6, .long (lN (keyF x0 rr oo))), (0, .ref (ra 0)), (1, .long (lN x0)), (3, .int (nI rr)), (4, .int (nI oo)), (5, .int (nI dd))]) hx hb dX6_include_46 hl (by decide) rfl (fun ls hl => ?_)
          refine lv_iconst (v := nI 0) hx hb dX6_include_48 (by decide) ?_
          refine lv_istore (lv' := [(9, .int (nI 0)), (8, .int (nI nn)), (6, .long (lN (keyF x0 rr oo))), (0, .ref (ra 0)), (1, .long (lN x0)), (3, .int (nI rr)), (4, .int (nI oo)), (5, .int (nI dd))]) hx hb dX6_include_49 hl (by decide) rfl (fun ls hl => ?_)
          have lp_4 : ∀ (n_lp_4 : Nat) (p1 Sb : Nat) (K2b : Nat → Nat) (u2b : Nat) (hp1 : p1 ≤ nn) (hTb : TQ nn net rr oo u0 Sb K2b u2b) (hWb : WI K2b) (hdn : ∀ p, p < p1 → ∀ q, q < nn → mayM net rr st (tkR rr t2 t3) p q = true → mayM net oo st (tkR oo t2 t3) p q = true ∧ WP nn net rr oo (aft st p q) (tokA t2 2 p q) (tokA t3 3 p q) = true), nn - p1 < n_lp_4 → ∀ (H : Heap) (locs : List Loc) (hP : va_P E.1 vwCl (rW E ra K u Al Gd Fw Mo K2b u2b) H) (hD : va_D A (rW E ra K u Al Gd Fw Mo K2b u2b)) (hS : va_S A s.heap H locs) (ls : Array Slot), lv_has ls 12 [(0, .ref (ra 0)), (1, .long (lN x0)), (3, .int (nI rr)), (4, .int (nI oo)), (5, .int (nI dd)), (6, .long (lN (keyF x0 rr oo))), (8, .int (nI nn)), (9, .int (nI p1))] → W p l e (rm_X6_include_k (k1 + 1)) s m args below meth c H locs 0 0 (MQ below (wr_Q E A (IPost E ra nn net rr oo st t2 t3 u0 K u Al Gd Fw Mo)) args s 0 0 A) (F0 m 51 ls []) := by
            intro n_lp_4
            induction n_lp_4 with
            | zero => intro p1 Sb K2b u2b hp1 hTb hWb hdn; intro hm_lp_4; exact absurd hm_lp_4 (Nat.not_lt_zero _)
            | succ n_lp_4 ih_lp_4 =>
              intro p1 Sb K2b u2b hp1 hTb hWb hdn hm_lp_4 H locs hP hD hS ls hl
              refine lv_iload hx hb dX6_include_51 (lv_at hl 7 rfl) ?_
              refine lv_iload hx hb dX6_include_53 (lv_at hl 6 rfl) ?_
              refine n_icmp_ge (tgt := 144) hx hb (by omega) (by omega) dX6_include_55 (by decide) (fun c_5 => ?_) (fun c_5 => ?_)
              · -- t 144
                refine lv_aload_n hx hb dX6_include_144 rfl (lv_at hl 0 rfl) ?_
                refine va_get (D := E.1) (ci := 4) (v := .ref (ra 7)) (C := RX6) (T := TX6) (N := 6) hx hb hts iX6 hown hK hP 0 rfl rfl 5 (by decide) (hts _ kw_66) (fun _ h9 => h9) rfl dX6_include_145 ?_
                refine lv_lload hx hb dX6_include_148 (lv_at hl 5 rfl) ?_
                refine cV_wr (X := rX2 E ra K u Al Gd Fw Mo) (Y := []) (rest := []) hC (k_take l E (ra 7) (ra 8) K2b u2b (keyF x0 rr oo) hky hTb.1 (TQ_room h1 hn hTb (keyF x0 rr oo)) (by have := TQ_u h1 hn hTb; omega) _) kw_429 iy_X8_take ⟨by dsimp only [rm_X6_include_k, rm_X5_keyFor, rm_X8_find, rm_X5_persons, rm_X5_whomMay, rm_X11_contains, rm_X5_ring, rm_X8_take, rm_X8_makeRoom]; omega, by dsimp only [rm_X6_include_k, rm_X5_keyFor, rm_X8_find, rm_X5_persons, rm_X5_whomMay, rm_X11_contains, rm_X5_ring, rm_X8_take, rm_X8_makeRoom]; omega⟩ ⟨rfl, rfl⟩ hK hP hD hS hA rfl (va_recv hK hP (ci := 6) (q0 := 7) rfl rfl) rfl hl.1 rfl (Nat.le_of_ble_eq_true rfl) dX6_include_150 ⟨Nat.le_of_ble_eq_true rfl, Nat.le_of_ble_eq_true rfl⟩ (fun v_ w_ H locs hpost hP hD hS => ?_)
                obtain ⟨rfl, hw_⟩ := hpost
                rw [if_put (TQ_room h1 hn hTb (keyF x0 rr oo))] at hw_; subst hw_
                have hP : va_P E.1 vwCl (rW E ra K u Al Gd Fw Mo (va_up K2b (slt K2b (keyF x0 rr oo)) (keyF x0 rr oo)) (if K2b (slt K2b (keyF x0 rr oo)) = 0 then u2b + 1 else u2b)) H := hP
                have hD : va_D A (rW E ra K u Al Gd Fw Mo (va_up K2b (slt K2b (keyF x0 rr oo)) (keyF x0 rr oo)) (if K2b (slt K2b (keyF x0 rr oo)) = 0 then u2b + 1 else u2b)) := hD
                have hwt : WP nn net rr oo st t2 t3 = true := (WP_iff hn hr4 ho4 hmx hs.2.1).mpr (fun p h9 q h8 h7 => hdn p (by omega) q h8 h7)
                obtain ⟨Se, hTe, hWe⟩ := inc_ok h1 hn hr4 ho4 hmx hTb hWb hs hwt
                refine W.eq (g2 := F0 m 153 ls [.int (nI (slt K2b (keyF x0 rr oo)))]) rfl ?_
                refine lv_pop hx hb dX6_include_153 rfl ?_
                refine lv_iconst (v := nI 1) hx hb dX6_include_154 (by decide) ?_
                exact rw_bE hC (show nI 1 = bI true from rfl) hP hD hS (⟨Se, _, _, by rw [hwt]; rfl, rfl, hTe, hWe⟩) dX6_include_155 (Nat.le_of_ble_eq_true rfl) (Nat.le_of_ble_eq_true rfl)
              · -- f 58
                refine lv_lload_n hx hb dX6_include_58 rfl (lv_at hl 1 rfl) ?_
                refine lv_iload_n hx hb dX6_include_59 rfl (lv_at hl 2 rfl) ?_
                refine lv_iload hx hb dX6_include_60 (lv_at hl 7 rfl) ?_
                refine cS_p (rest := []) hC (k_whomMay l x0 rr p1 (by omega) (by omega) (by omega) (by omega)) kw_416 sy_X5_whomMay ⟨by dsimp only [rm_X6_include_k, rm_X5_keyFor, rm_X8_find, rm_X5_persons, rm_X5_whomMay, rm_X11_contains, rm_X5_ring, rm_X8_take, rm_X8_makeRoom]; omega, by dsimp only [rm_X6_include_k, rm_X5_keyFor, rm_X8_find, rm_X5_persons, rm_X5_whomMay, rm_X11_contains, rm_X5_ring, rm_X8_take, rm_X8_makeRoom]; omega⟩ ⟨rfl, rfl⟩ rfl hl.1 rfl (Nat.le_of_ble_eq_true rfl) dX6_include_62 ⟨Nat.le_of_ble_eq_true rfl, Nat.le_of_ble_eq_true rfl⟩ ?_
                have f_6 := whM_lt (by omega : pN x0 ≤ 4) rr p1
                refine lv_istore (lv' := [(10, .int (nI (whM x0 rr p1))), (0, .ref (ra 0)), (1, .long (lN x0)), (3, .int (nI rr)), (4, .int (nI oo)), (5, .int (nI dd)), (6, .long (lN (keyF x0 rr oo))), (8, .int (nI nn)), (9, .int (nI p1))]) hx hb dX6_include_65 hl (by decide) rfl (fun ls hl => ?_)
                refine lv_iload hx hb dX6_include_67 (lv_at hl 0 rfl) ?_
                refine lv_lload_n hx hb dX6_include_69 rfl (lv_at hl 2 rfl) ?_
                refine lv_iload hx hb dX6_include_70 (lv_at hl 4 rfl) ?_
                refine lv_iload hx hb dX6_include_72 (lv_at hl 8 rfl) ?_
                refine cS_p (rest := [.int (nI (whM x0 rr p1))]) hC (k_whomMay l x0 oo p1 (by omega) (by omega) (by omega) (by omega)) kw_416 sy_X5_whomMay ⟨by dsimp only [rm_X6_include_k, rm_X5_keyFor, rm_X8_find, rm_X5_persons, rm_X5_whomMay, rm_X11_contains, rm_X5_ring, rm_X8_take, rm_X8_makeRoom]; omega, by dsimp only [rm_X6_include_k, rm_X5_keyFor, rm_X8_find, rm_X5_persons, rm_X5_whomMay, rm_X11_contains, rm_X5_ring, rm_X8_take, rm_X8_makeRoom]; omega⟩ ⟨rfl, rfl⟩ rfl hl.1 rfl (Nat.le_of_ble_eq_true rfl) dX6_include_74 ⟨Nat.le_of_ble_eq_true rfl, Nat.le_of_ble_eq_true rfl⟩ ?_
                have f_7 := whM_lt (by omega : pN x0 ≤ 4) oo p1
                refine lv_iconst (v := -1) hx hb dX6_include_77 (by decide) ?_
                refine n_ixor (y := 4294967295) hx hb dX6_include_78 ?_
                refine n_iand hx hb dX6_include_79 ?_
                have hle := (Nat.and_le_left : whM x0 rr p1 &&& (whM x0 oo p1 ^^^ 4294967295) ≤ whM x0 rr p1)
                refine n_if_eq (tgt := 85) hx hb (by omega) dX6_include_80 (by decide) (fun c_8 => ?_) (fun c_8 => ?_)
                · -- t 85
                  have hrow := (whM_in hn hs.2.1 hnb hs.1 hr4 ho4 (by omega : p1 < nn)).mp c_8
                  refine lv_iconst (v := nI 0) hx hb dX6_include_85 (by decide) ?_
                  refine lv_istore (lv' := [(11, .int (nI 0)), (10, .int (nI (whM x0 rr p1))), (0, .ref (ra 0)), (1, .long (lN x0)), (3, .int (nI rr)), (4, .int (nI oo)), (5, .int (nI dd)), (6, .long (lN (keyF x0 rr oo))), (8, .int (nI nn)), (9, .int (nI p1))]) hx hb dX6_include_86 hl (by decide) rfl (fun ls hl => ?_)
                  have lp_9 : ∀ (n_lp_9 : Nat) (q1 Sc : Nat) (K2c : Nat → Nat) (u2c : Nat) (hq1 : q1 ≤ nn) (hTc : TQ nn net rr oo u0 Sc K2c u2c) (hWc : WI K2c) (hqn : ∀ q, q < q1 → mayM net rr st (tkR rr t2 t3) p1 q = true → WP nn net rr oo (aft st p1 q) (tokA t2 2 p1 q) (tokA t3 3 p1 q) = true), nn - q1 < n_lp_9 → ∀ (H : Heap) (locs : List Loc) (hP : va_P E.1 vwCl (rW E ra K u Al Gd Fw Mo K2c u2c) H) (hD : va_D A (rW E ra K u Al Gd Fw Mo K2c u2c)) (hS : va_S A s.heap H locs) (ls : Array Slot), lv_has ls 12 [(0, .ref (ra 0)), (1, .long (lN x0)), (3, .int (nI rr)), (4, .int (nI oo)), (5, .int (nI dd)), (6, .long (lN (keyF x0 rr oo))), (8, .int (nI nn)), (9, .int (nI p1)), (10, .int (nI (whM x0 rr p1))), (11, .int (nI q1))] → W p l e (rm_X6_include_k (k1 + 1)) s m args below meth c H locs 0 0 (MQ below (wr_Q E A (IPost E ra nn net rr oo st t2 t3 u0 K u Al Gd Fw Mo)) args s 0 0 A) (F0 m 88 ls []) := by
                    intro n_lp_9
                    induction n_lp_9 with
                    | zero => intro q1 Sc K2c u2c hq1 hTc hWc hqn; intro hm_lp_9; exact absurd hm_lp_9 (Nat.not_lt_zero _)
                    | succ n_lp_9 ih_lp_9 =>
                      intro q1 Sc K2c u2c hq1 hTc hWc hqn hm_lp_9 H locs hP hD hS ls hl
                      refine lv_iload hx hb dX6_include_88 (lv_at hl 9 rfl) ?_
                      refine lv_iload hx hb dX6_include_90 (lv_at hl 6 rfl) ?_
                      refine n_icmp_ge (tgt := 138) hx hb (by omega) (by omega) dX6_include_92 (by decide) (fun c_10 => ?_) (fun c_10 => ?_)
                      · -- t 138
                        refine lv_iinc (v := nI (p1 + 1)) (lv' := [(9, .int (nI (p1 + 1))), (0, .ref (ra 0)), (1, .long (lN x0)), (3, .int (nI rr)), (4, .int (nI oo)), (5, .int (nI dd)), (6, .long (lN (keyF x0 rr oo))), (8, .int (nI nn)), (10, .int (nI (whM x0 rr p1))), (11, .int (nI q1))]) hx hb dX6_include_138 hl (k := 7) rfl (ii_1 _) (by decide) rfl (fun ls hl => ?_)
                        refine lv_goto (tgt := 51) hx hb dX6_include_141 (by decide) ?_
                        exact ih_lp_4 (p1 + 1) Sc K2c u2c (by omega) hTc hWc (fun p h9 q h8 h7 => by rcases (by omega : p < p1 ∨ p = p1) with h6 | h6; exact hdn p h6 q h8 h7; subst h6; exact ⟨hrow q h8 h7, hqn q (by omega) h7⟩) (by omega) H locs hP hD hS ls (lv_sub hl [1, 2, 3, 4, 5, 6, 7, 0] rfl)
                      · -- f 95
                        refine lv_iload hx hb dX6_include_95 (lv_at hl 8 rfl) ?_
                        refine lv_iload hx hb dX6_include_97 (lv_at hl 9 rfl) ?_
                        refine cN_p (rest := []) hC (k_contains l (whM x0 rr p1) q1 (by omega) (by omega)) hN.2.2.2.1 sy_X11_contains ⟨by dsimp only [rm_X6_include_k, rm_X5_keyFor, rm_X8_find, rm_X5_persons, rm_X5_whomMay, rm_X11_contains, rm_X5_ring, rm_X8_take, rm_X8_makeRoom]; omega, by dsimp only [rm_X6_include_k, rm_X5_keyFor, rm_X8_find, rm_X5_persons, rm_X5_whomMay, rm_X11_contains, rm_X5_ring, rm_X8_take, rm_X8_makeRoom]; omega⟩ ⟨rfl, rfl⟩ rfl hl.1 rfl (Nat.le_of_ble_eq_true rfl) dX6_include_99 ⟨Nat.le_of_ble_eq_true rfl, Nat.le_of_ble_eq_true rfl⟩ ?_
                        refine b_if_ne (tgt := 108) hx hb dX6_include_102 (by decide) (fun c_11 => ?_) (fun c_11 => ?_)
                        · -- t 108
                          have hmy := (whM_may hn hs.2.1 hnb hs.1 hr4 (by omega : p1 < nn) (by omega : q1 < nn)).symm.trans c_11
                          have hpq := may_pq hmy
                          have hsn := Pst_ring hn hs (by omega : p1 < nn) (by omega : q1 < nn) hpq
                          have hmi := mis_aft hn (by omega : p1 < nn) (by omega : q1 < nn) hs.2.1 (may_ne hn (by omega : q1 < nn) hs.2.1 hmy)
                          refine lv_aload_n hx hb dX6_include_108 rfl (lv_at hl 0 rfl) ?_
                          refine lv_lload_n hx hb dX6_include_109 rfl (lv_at hl 1 rfl) ?_
                          refine lv_iload hx hb dX6_include_110 (lv_at hl 7 rfl) ?_
                          refine lv_iload hx hb dX6_include_112 (lv_at hl 9 rfl) ?_
                          refine cS_p (rest := [.ref (ra 0)]) hC (k_ring l x0 p1 q1 (by omega) (by omega) (by omega)) kw_418 sy_X5_ring ⟨by dsimp only [rm_X6_include_k, rm_X5_keyFor, rm_X8_find, rm_X5_persons, rm_X5_whomMay, rm_X11_contains, rm_X5_ring, rm_X8_take, rm_X8_makeRoom]; omega, by dsimp only [rm_X6_include_k, rm_X5_keyFor, rm_X8_find, rm_X5_persons, rm_X5_whomMay, rm_X11_contains, rm_X5_ring, rm_X8_take, rm_X8_makeRoom]; omega⟩ ⟨rfl, rfl⟩ rfl hl.1 rfl (Nat.le_of_ble_eq_true rfl) dX6_include_114 ⟨Nat.le_of_ble_eq_true rfl, Nat.le_of_ble_eq_true rfl⟩ ?_
                          refine lv_iload_n hx hb dX6_include_117 rfl (lv_at hl 2 rfl) ?_
                          refine lv_iload hx hb dX6_include_118 (lv_at hl 3 rfl) ?_
                          refine lv_iload hx hb dX6_include_120 (lv_at hl 4 rfl) ?_
                          refine lv_iconst (v := nI 1) hx hb dX6_include_122 (by decide) ?_
                          refine n_iadd hx hb dX6_include_123 ?_
                          refine cV_w0 (rest := []) hC (ih (dd + 1) (aft st p1 q1) (tokA t2 2 p1 q1) (tokA t3 3 p1 q1) (rng x0 p1 q1) u0 Sc K u Al Gd Fw Mo K2c u2c _ (by omega) (by omega) (by omega) hsn hTc hWc) kw_610 iy_X6_include ⟨by dsimp only [rm_X6_include_k, rm_X5_keyFor, rm_X8_find, rm_X5_persons, rm_X5_whomMay, rm_X11_contains, rm_X5_ring, rm_X8_take, rm_X8_makeRoom]; omega, by dsimp only [rm_X6_include_k, rm_X5_keyFor, rm_X8_find, rm_X5_persons, rm_X5_whomMay, rm_X11_contains, rm_X5_ring, rm_X8_take, rm_X8_makeRoom]; omega⟩ ⟨rfl, rfl⟩ hK hP hD hS hA (va_recv hK hP (ci := 4) (q0 := 0) rfl rfl) rfl hl.1 rfl (Nat.le_of_ble_eq_true rfl) dX6_include_124 ⟨Nat.le_of_ble_eq_true rfl, Nat.le_of_ble_eq_true rfl⟩ (fun v_ w_ H locs hpost hP hD hS => ?_)
                          obtain ⟨Sd, K2d, u2d, rfl, rfl, hTd, hWd⟩ := hpost
                          refine W.eq (g2 := F0 m 127 ls [.int (bI (WP nn net rr oo (aft st p1 q1) (tokA t2 2 p1 q1) (tokA t3 3 p1 q1)))]) rfl ?_
                          refine b_if_ne (tgt := 132) hx hb dX6_include_127 (by decide) (fun c_12 => ?_) (fun c_12 => ?_)
                          · -- t 132
                            refine lv_iinc (v := nI (q1 + 1)) (lv' := [(11, .int (nI (q1 + 1))), (0, .ref (ra 0)), (1, .long (lN x0)), (3, .int (nI rr)), (4, .int (nI oo)), (5, .int (nI dd)), (6, .long (lN (keyF x0 rr oo))), (8, .int (nI nn)), (9, .int (nI p1)), (10, .int (nI (whM x0 rr p1)))]) hx hb dX6_include_132 hl (k := 9) rfl (ii_1 _) (by decide) rfl (fun ls hl => ?_)
                            refine lv_goto (tgt := 88) hx hb dX6_include_135 (by decide) ?_
                            exact ih_lp_9 (q1 + 1) Sd K2d u2d (by omega) hTd hWd (fun q h9 h8 => by rcases (by omega : q < q1 ∨ q = q1) with h6 | h6; exact hqn q h6 h8; subst h6; exact c_12) (by omega) H locs hP hD hS ls (lv_sub hl [1, 2, 3, 4, 5, 6, 7, 8, 9, 0] rfl)
                          · -- f 130
                            refine lv_iconst (v := nI 0) hx hb dX6_include_130 (by decide) ?_
                            exact rw_bE hC (show nI 0 = bI false from rfl) hP hD hS (⟨Sd, K2d, u2d, by rw [show WP nn net rr oo st t2 t3 = false from Bool.eq_false_iff.mpr (fun h9 => by have h8 := ((WP_iff hn hr4 ho4 hmx hs.2.1).mp h9 p1 (by omega) q1 (by omega) hmy).2; rw [c_12] at h8; cases h8)]; rfl, rfl, hTd, hWd⟩) dX6_include_131 (Nat.le_of_ble_eq_true rfl) (Nat.le_of_ble_eq_true rfl)
                        · -- f 105
                          have hmy := (whM_may hn hs.2.1 hnb hs.1 hr4 (by omega : p1 < nn) (by omega : q1 < nn)).symm.trans c_11
                          refine lv_goto (tgt := 132) hx hb dX6_include_105 (by decide) ?_
                          refine lv_iinc (v := nI (q1 + 1)) (lv' := [(11, .int (nI (q1 + 1))), (0, .ref (ra 0)), (1, .long (lN x0)), (3, .int (nI rr)), (4, .int (nI oo)), (5, .int (nI dd)), (6, .long (lN (keyF x0 rr oo))), (8, .int (nI nn)), (9, .int (nI p1)), (10, .int (nI (whM x0 rr p1)))]) hx hb dX6_include_132 hl (k := 9) rfl (ii_1 _) (by decide) rfl (fun ls hl => ?_)
                          refine lv_goto (tgt := 88) hx hb dX6_include_135 (by decide) ?_
                          exact ih_lp_9 (q1 + 1) Sc K2c u2c (by omega) hTc hWc (fun q h9 h8 => by rcases (by omega : q < q1 ∨ q = q1) with h6 | h6; exact hqn q h6 h8; subst h6; rw [hmy] at h8; cases h8) (by omega) H locs hP hD hS ls (lv_sub hl [1, 2, 3, 4, 5, 6, 7, 8, 9, 0] rfl)
                  exact lp_9 _ 0 Sb K2b u2b (Nat.zero_le _) hTb hWb (fun q h => absurd h (by omega)) (Nat.lt_succ_self _) H locs hP hD hS ls (lv_sub hl [2, 3, 4, 5, 6, 7, 8, 9, 1, 0] rfl)
                · -- f 83
                  refine lv_iconst (v := nI 0) hx hb dX6_include_83 (by decide) ?_
                  exact rw_bE hC (show nI 0 = bI false from rfl) hP hD hS (⟨Sb, K2b, u2b, by rw [show WP nn net rr oo st t2 t3 = false from Bool.eq_false_iff.mpr (fun h9 => c_8 ((whM_in hn hs.2.1 hnb hs.1 hr4 ho4 (by omega : p1 < nn)).mpr (fun q h8 h7 => ((WP_iff hn hr4 ho4 hmx hs.2.1).mp h9 p1 (by omega) q h8 h7).1)))]; rfl, rfl, hTb, hWb⟩) dX6_include_84 (Nat.le_of_ble_eq_true rfl) (Nat.le_of_ble_eq_true rfl)
          exact lp_4 _ 0 S K2 u2 (Nat.zero_le _) hT hW (fun p h => absurd h (by omega)) (Nat.lt_succ_self _) H locs hP hD hS ls (lv_sub hl [3, 4, 5, 6, 7, 2, 1, 0] rfl)
        · -- f 40
          exact absurd (by decide) c_3
  · -- f 5
    exact absurd c_1 (by omega)

theorem k_include_k (l : Launch) (E : EE) (ra : Nat → Nat) (nn : Nat) (net : Nat → Nat) (rr oo : Nat) (h1 : 0 < nn) (hn : nn ≤ 4) (hnb : NB nn net) (hr4 : rr < 4) (ho4 : oo < 4) (hmx : mixR rr oo) : ∀ k, IncS l E ra nn net rr oo k
  | 0 => fun dd st t2 t3 P u0 S K u Al Gd Fw Mo K2 u2 sz a b c1 => absurd c1 (by omega)
  | k + 1 => fun dd st t2 t3 P u0 S K u Al Gd Fw Mo K2 u2 sz a b c1 d f1 g => k_include_s l E ra nn net rr oo h1 hn hnb hr4 ho4 hmx k (k_include_k l E ra nn net rr oo h1 hn hnb hr4 ho4 hmx k) dd st t2 t3 P u0 S K u Al Gd Fw Mo K2 u2 sz a b c1 d f1 g

set_option maxHeartbeats 4000000 in
set_option maxRecDepth 100000 in
theorem k_include (l : Launch) (E : EE) (ra : Nat → Nat) (nn : Nat) (net : Nat → Nat) (rr oo : Nat) (h1 : 0 < nn) (hn : nn ≤ 4) (hnb : NB nn net) (hr4 : rr < 4) (ho4 : oo < 4) (hmx : mixR rr oo) (st t2 t3 x0 : Nat) (K : Nat → Nat) (u : Nat) (Al Gd Fw Mo : Nat → Nat) (K2 : Nat → Nat) (u2 sz : Nat) (hs : Pst nn net rr oo st t2 t3 x0) (hB : TBt K2 u2) (hW : WI K2) : Wr l yX6_include cX6_include 12 (some .boolean) rm_X6_include 0 0 E (rW E ra K u Al Gd Fw Mo K2 u2) sz [.ref (ra 0), .long (lN x0), .int (nI rr), .int (nI oo), .int (nI 0)] (fun v1 w1 => ∃ u0, IPost E ra nn net rr oo st t2 t3 u0 K u Al Gd Fw Mo v1 w1) := by
  refine mk_wr (by decide) (Nat.le_of_ble_eq_true rfl) ?_
  intro p e s m args below meth c hC hin hK A hA hP hD hS ls hl
  obtain ⟨hx, hb, hr, hts, hown, hml, hlk, hN⟩ := id hC
  have hl : lv_has ls 12 [(0, .ref (ra 0)), (1, .long (lN x0)), (3, .int (nI rr)), (4, .int (nI oo)), (5, .int (nI 0))] := hl
  have hps := hs.1.ps
  have hx0 := hs.1.lt
  have hky0 := keyF_lt hs.1.lt hr4 ho4
  have hky : keyF x0 rr oo < 2 ^ 63 := (by omega)
  have ih := k_include_k l E ra nn net rr oo h1 hn hnb hr4 ho4 hmx 13
  have hmis := mis_le hn hs.2.1
  obtain ⟨H, hH⟩ : ∃ z, z = s.heap := ⟨_, rfl⟩
  have hS : va_S A s.heap H [] := by rw [hH]; exact hS
  rw [← hH] at hP
  refine W_heap hH ?_
  obtain ⟨locs, hlo⟩ : ∃ z : List Loc, z = [] := ⟨_, rfl⟩
  rw [← hlo] at hS ⊢
  refine lv_iload hx hb dX6_include_0 (lv_at hl 4 rfl) ?_
  refine n_if_ne (tgt := 12) hx hb (by omega) dX6_include_2 (by decide) (fun c_1 => absurd rfl c_1) (fun _ => ?_)
  refine lv_aload_n hx hb dX6_include_5 rfl (lv_at hl 0 rfl) ?_
  refine va_get (D := E.1) (ci := 4) (v := .ref (ra 7)) (C := RX6) (T := TX6) (N := 6) hx hb hts iX6 hown hK hP 0 rfl rfl 5 (by decide) (hts _ kw_66) (fun _ h9 => h9) rfl dX6_include_6 ?_
  refine cV_wr (X := rX2 E ra K u Al Gd Fw Mo) (Y := []) (rest := []) hC (k_makeRoom l E (ra 7) (ra 8) K2 u2 (by have := hB.2.2.2; omega) _) kw_394 iy_X8_makeRoom ⟨Nat.le_of_ble_eq_true rfl, Nat.le_of_ble_eq_true rfl⟩ ⟨rfl, rfl⟩ hK hP hD hS hA rfl (va_recv hK hP (ci := 6) (q0 := 7) rfl rfl) rfl hl.1 rfl (Nat.le_of_ble_eq_true rfl) dX6_include_9 ⟨Nat.le_of_ble_eq_true rfl, Nat.le_of_ble_eq_true rfl⟩ (fun v_ w_ H locs hpost hP hD hS => ?_)
  obtain ⟨rfl, hw_⟩ := hpost
  obtain ⟨Ka, u0, hw2, hT0, hsub⟩ := mr_tab hB hw_
  subst hw2
  have hW := WI_sub hW hsub
  have hT := hT0 nn net rr oo
  have hP : va_P E.1 vwCl (rW E ra K u Al Gd Fw Mo Ka u0) H := hP
  have hD : va_D A (rW E ra K u Al Gd Fw Mo Ka u0) := hD
  refine W.eq (g2 := F0 m 12 ls []) rfl ?_
  refine lv_lload_n hx hb dX6_include_12 rfl (lv_at hl 1 rfl) ?_
  refine lv_iload_n hx hb dX6_include_13 rfl (lv_at hl 2 rfl) ?_
  refine lv_iload hx hb dX6_include_14 (lv_at hl 3 rfl) ?_
  refine cS_p (rest := []) hC (k_keyFor l x0 rr oo (by omega) (by omega)) kw_401 sy_X5_keyFor ⟨Nat.le_of_ble_eq_true rfl, Nat.le_of_ble_eq_true rfl⟩ ⟨rfl, rfl⟩ rfl hl.1 rfl (Nat.le_of_ble_eq_true rfl) dX6_include_16 ⟨Nat.le_of_ble_eq_true rfl, Nat.le_of_ble_eq_true rfl⟩ ?_
  refine lv_lstore (lv' := [(6, .long (lN (keyF x0 rr oo))), (0, .ref (ra 0)), (1, .long (lN x0)), (3, .int (nI rr)), (4, .int (nI oo)), (5, .int (nI 0))]) hx hb dX6_include_19 hl (by decide) rfl (fun ls hl => ?_)
  refine lv_iload hx hb dX6_include_21 (lv_at hl 5 rfl) ?_
  refine lv_bipush (v := nI 12) hx hb dX6_include_23 (by decide) ?_
  refine n_icmp_gt (tgt := 40) hx hb (by omega) (by omega) dX6_include_25 (by decide) (fun c_2 => ?_) (fun c_2 => ?_)
  · -- t 40
    exact absurd c_2 (by omega)
  · -- f 28
    refine lv_aload_n hx hb dX6_include_28 rfl (lv_at hl 1 rfl) ?_
    refine va_get (D := E.1) (ci := 4) (v := .ref (ra 7)) (C := RX6) (T := TX6) (N := 6) hx hb hts iX6 hown hK hP 0 rfl rfl 5 (by decide) (hts _ kw_66) (fun _ h9 => h9) rfl dX6_include_29 ?_
    refine lv_lload hx hb dX6_include_32 (lv_at hl 0 rfl) ?_
    refine cV_r (rest := []) hC (k_find l E (ra 7) (ra 8) Ka u0 (keyF x0 rr oo) hky hT.1 (TQ_room h1 hn hT (keyF x0 rr oo))) kw_406 iy_X8_find ⟨Nat.le_of_ble_eq_true rfl, Nat.le_of_ble_eq_true rfl⟩ ⟨rfl, rfl⟩ hK (va_P_l (X := tW E (ra 7) (ra 8) Ka u0) (Y := []) (va_P_r (X := rX2 E ra K u Al Gd Fw Mo) hP)) (va_recv hK hP (ci := 6) (q0 := 7) rfl rfl) rfl hl.1 rfl (Nat.le_of_ble_eq_true rfl) dX6_include_34 ⟨Nat.le_of_ble_eq_true rfl, Nat.le_of_ble_eq_true rfl⟩ ?_
    by_cases hfd : Ka (slt Ka (keyF x0 rr oo)) = (keyF x0 rr oo)
    ·
      refine top_i (show fndT Ka (keyF x0 rr oo) = nI (slt Ka (keyF x0 rr oo)) from by unfold fndT; rw [if_pos hfd]) ?_
      have hslt := slt_lt Ka (keyF x0 rr oo)
      refine n_if_lt (tgt := 42) hx hb (by omega) dX6_include_37 (by decide) ?_
      refine lv_iconst (v := nI 1) hx hb dX6_include_40 (by decide) ?_
      exact rw_bE hC (show nI 1 = bI true from rfl) hP hD hS (⟨u0, 0, Ka, u0, by rw [WI_at h1 hn hr4 ho4 hmx hW hslt hs hfd]; rfl, rfl, hT, hW⟩) dX6_include_41 (Nat.le_of_ble_eq_true rfl) (Nat.le_of_ble_eq_true rfl)
    ·
      refine top_i (show fndT Ka (keyF x0 rr oo) = -1 from by unfold fndT; rw [if_neg hfd]) ?_
      refine lv_if_lt (tgt := 42) hx hb dX6_include_37 (by decide) (fun c_3 => ?_) (fun c_3 => ?_)
      · -- t 42
        refine lv_lload_n hx hb dX6_include_42 rfl (lv_at hl 2 rfl) ?_
        refine cS_p (rest := []) hC (k_persons l x0 (by omega)) kw_415 sy_X5_persons ⟨Nat.le_of_ble_eq_true rfl, Nat.le_of_ble_eq_true rfl⟩ ⟨rfl, rfl⟩ rfl hl.1 rfl (Nat.le_of_ble_eq_true rfl) dX6_include_43 ⟨Nat.le_of_ble_eq_true rfl, Nat.le_of_ble_eq_true rfl⟩ ?_
        refine top_i (congrArg nI hps) ?_
        refine lv_istore (lv' := [(8, .int (nI nn)), (6, .long (lN (keyF x0 rr oo))), (0, .ref (ra 0)), (1, .long (lN x0)), (3, .int (nI rr)), (4, .int (nI oo)), (5, .int (nI 0))]) hx hb dX6_include_46 hl (by decide) rfl (fun ls hl => ?_)
        refine lv_iconst (v := nI 0) hx hb dX6_include_48 (by decide) ?_
        refine lv_istore (lv' := [(9, .int (nI 0)), (8, .int (nI nn)), (6, .long (lN (keyF x0 rr oo))), (0, .ref (ra 0)), (1, .long (lN x0)), (3, .int (nI rr)), (4, .int (nI oo)), (5, .int (nI 0))]) hx hb dX6_include_49 hl (by decide) rfl (fun ls hl => ?_)
        have lp_4 : ∀ (n_lp_4 : Nat) (p1 Sb : Nat) (K2b : Nat → Nat) (u2b : Nat) (hp1 : p1 ≤ nn) (hTb : TQ nn net rr oo u0 Sb K2b u2b) (hWb : WI K2b) (hdn : ∀ p, p < p1 → ∀ q, q < nn → mayM net rr st (tkR rr t2 t3) p q = true → mayM net oo st (tkR oo t2 t3) p q = true ∧ WP nn net rr oo (aft st p q) (tokA t2 2 p q) (tokA t3 3 p q) = true), nn - p1 < n_lp_4 → ∀ (H : Heap) (locs : List Loc) (hP : va_P E.1 vwCl (rW E ra K u Al Gd Fw Mo K2b u2b) H) (hD : va_D A (rW E ra K u Al Gd Fw Mo K2b u2b)) (hS : va_S A s.heap H locs) (ls : Array Slot), lv_has ls 12 [(0, .ref (ra 0)), (1, .long (lN x0)), (3, .int (nI rr)), (4, .int (nI oo)), (5, .int (nI 0)), (6, .long (lN (keyF x0 rr oo))), (8, .int (nI nn)), (9, .int (nI p1))] → W p l e rm_X6_include s m args below meth c H locs 0 0 (MQ below (wr_Q E A (fun v1 w1 => ∃ u0, IPost E ra nn net rr oo st t2 t3 u0 K u Al Gd Fw Mo v1 w1)) args s 0 0 A) (F0 m 51 ls []) := by
          intro n_lp_4
          induction n_lp_4 with
          | zero => intro p1 Sb K2b u2b hp1 hTb hWb hdn; intro hm_lp_4; exact absurd hm_lp_4 (Nat.not_lt_zero _)
          | succ n_lp_4 ih_lp_4 =>
            intro p1 Sb K2b u2b hp1 hTb hWb hdn hm_lp_4 H locs hP hD hS ls hl
            refine lv_iload hx hb dX6_include_51 (lv_at hl 7 rfl) ?_
            refine lv_iload hx hb dX6_include_53 (lv_at hl 6 rfl) ?_
            refine n_icmp_ge (tgt := 144) hx hb (by omega) (by omega) dX6_include_55 (by decide) (fun c_5 => ?_) (fun c_5 => ?_)
            · -- t 144
              refine lv_aload_n hx hb dX6_include_144 rfl (lv_at hl 0 rfl) ?_
              refine va_get (D := E.1) (ci := 4) (v := .ref (ra 7)) (C := RX6) (T := TX6) (N := 6) hx hb hts iX6 hown hK hP 0 rfl rfl 5 (by decide) (hts _ kw_66) (fun _ h9 => h9) rfl dX6_include_145 ?_
              refine lv_lload hx hb dX6_include_148 (lv_at hl 5 rfl) ?_
              refine cV_wr (X := rX2 E ra K u Al Gd Fw Mo) (Y := []) (rest := []) hC (k_take l E (ra 7) (ra 8) K2b u2b (keyF x0 rr oo) hky hTb.1 (TQ_room h1 hn hTb (keyF x0 rr oo)) (by have := TQ_u h1 hn hTb; omega) _) kw_429 iy_X8_take ⟨Nat.le_of_ble_eq_true rfl, Nat.le_of_ble_eq_true rfl⟩ ⟨rfl, rfl⟩ hK hP hD hS hA rfl (va_recv hK hP (ci := 6) (q0 := 7) rfl rfl) rfl hl.1 rfl (Nat.le_of_ble_eq_true rfl) dX6_include_150 ⟨Nat.le_of_ble_eq_true rfl, Nat.le_of_ble_eq_true rfl⟩ (fun v_ w_ H locs hpost hP hD hS => ?_)
              obtain ⟨rfl, hw_⟩ := hpost
              rw [if_put (TQ_room h1 hn hTb (keyF x0 rr oo))] at hw_; subst hw_
              have hP : va_P E.1 vwCl (rW E ra K u Al Gd Fw Mo (va_up K2b (slt K2b (keyF x0 rr oo)) (keyF x0 rr oo)) (if K2b (slt K2b (keyF x0 rr oo)) = 0 then u2b + 1 else u2b)) H := hP
              have hD : va_D A (rW E ra K u Al Gd Fw Mo (va_up K2b (slt K2b (keyF x0 rr oo)) (keyF x0 rr oo)) (if K2b (slt K2b (keyF x0 rr oo)) = 0 then u2b + 1 else u2b)) := hD
              have hwt : WP nn net rr oo st t2 t3 = true := (WP_iff hn hr4 ho4 hmx hs.2.1).mpr (fun p h9 q h8 h7 => hdn p (by omega) q h8 h7)
              obtain ⟨Se, hTe, hWe⟩ := inc_ok h1 hn hr4 ho4 hmx hTb hWb hs hwt
              refine W.eq (g2 := F0 m 153 ls [.int (nI (slt K2b (keyF x0 rr oo)))]) rfl ?_
              refine lv_pop hx hb dX6_include_153 rfl ?_
              refine lv_iconst (v := nI 1) hx hb dX6_include_154 (by decide) ?_
              exact rw_bE hC (show nI 1 = bI true from rfl) hP hD hS (⟨u0, Se, _, _, by rw [hwt]; rfl, rfl, hTe, hWe⟩) dX6_include_155 (Nat.le_of_ble_eq_true rfl) (Nat.le_of_ble_eq_true rfl)
            · -- f 58
              refine lv_lload_n hx hb dX6_include_58 rfl (lv_at hl 1 rfl) ?_
              refine lv_iload_n hx hb dX6_include_59 rfl (lv_at hl 2 rfl) ?_
              refine lv_iload hx hb dX6_include_60 (lv_at hl 7 rfl) ?_
              refine cS_p (rest := []) hC (k_whomMay l x0 rr p1 (by omega) (by omega) (by omega) (by omega)) kw_416 sy_X5_whomMay ⟨Nat.le_of_ble_eq_true rfl, Nat.le_of_ble_eq_true rfl⟩ ⟨rfl, rfl⟩ rfl hl.1 rfl (Nat.le_of_ble_eq_true rfl) dX6_include_62 ⟨Nat.le_of_ble_eq_true rfl, Nat.le_of_ble_eq_true rfl⟩ ?_
              have f_6 := whM_lt (by omega : pN x0 ≤ 4) rr p1
              refine lv_istore (lv' := [(10, .int (nI (whM x0 rr p1))), (0, .ref (ra 0)), (1, .long (lN x0)), (3, .int (nI rr)), (4, .int (nI oo)), (5, .int (nI 0)), (6, .long (lN (keyF x0 rr oo))), (8, .int (nI nn)), (9, .int (nI p1))]) hx hb dX6_include_65 hl (by decide) rfl (fun ls hl => ?_)
              refine lv_iload hx hb dX6_include_67 (lv_at hl 0 rfl) ?_
              refine lv_lload_n hx hb dX6_include_69 rfl (lv_at hl 2 rfl) ?_
              refine lv_iload hx hb dX6_include_70 (lv_at hl 4 rfl) ?_
              refine lv_iload hx hb dX6_include_72 (lv_at hl 8 rfl) ?_
              refine cS_p (rest := [.int (nI (whM x0 rr p1))]) hC (k_whomMay l x0 oo p1 (by omega) (by omega) (by omega) (by omega)) kw_416 sy_X5_whomMay ⟨Nat.le_of_ble_eq_true rfl, Nat.le_of_ble_eq_true rfl⟩ ⟨rfl, rfl⟩ rfl hl.1 rfl (Nat.le_of_ble_eq_true rfl) dX6_include_74 ⟨Nat.le_of_ble_eq_true rfl, Nat.le_of_ble_eq_true rfl⟩ ?_
              have f_7 := whM_lt (by omega : pN x0 ≤ 4) oo p1
              refine lv_iconst (v := -1) hx hb dX6_include_77 (by decide) ?_
              refine n_ixor (y := 4294967295) hx hb dX6_include_78 ?_
              refine n_iand hx hb dX6_include_79 ?_
              have hle := (Nat.and_le_left : whM x0 rr p1 &&& (whM x0 oo p1 ^^^ 4294967295) ≤ whM x0 rr p1)
              refine n_if_eq (tgt := 85) hx hb (by omega) dX6_include_80 (by decide) (fun c_8 => ?_) (fun c_8 => ?_)
              · -- t 85
                have hrow := (whM_in hn hs.2.1 hnb hs.1 hr4 ho4 (by omega : p1 < nn)).mp c_8
                refine lv_iconst (v := nI 0) hx hb dX6_include_85 (by decide) ?_
                refine lv_istore (lv' := [(11, .int (nI 0)), (10, .int (nI (whM x0 rr p1))), (0, .ref (ra 0)), (1, .long (lN x0)), (3, .int (nI rr)), (4, .int (nI oo)), (5, .int (nI 0)), (6, .long (lN (keyF x0 rr oo))), (8, .int (nI nn)), (9, .int (nI p1))]) hx hb dX6_include_86 hl (by decide) rfl (fun ls hl => ?_)
                have lp_9 : ∀ (n_lp_9 : Nat) (q1 Sc : Nat) (K2c : Nat → Nat) (u2c : Nat) (hq1 : q1 ≤ nn) (hTc : TQ nn net rr oo u0 Sc K2c u2c) (hWc : WI K2c) (hqn : ∀ q, q < q1 → mayM net rr st (tkR rr t2 t3) p1 q = true → WP nn net rr oo (aft st p1 q) (tokA t2 2 p1 q) (tokA t3 3 p1 q) = true), nn - q1 < n_lp_9 → ∀ (H : Heap) (locs : List Loc) (hP : va_P E.1 vwCl (rW E ra K u Al Gd Fw Mo K2c u2c) H) (hD : va_D A (rW E ra K u Al Gd Fw Mo K2c u2c)) (hS : va_S A s.heap H locs) (ls : Array Slot), lv_has ls 12 [(0, .ref (ra 0)), (1, .long (lN x0)), (3, .int (nI rr)), (4, .int (nI oo)), (5, .int (nI 0)), (6, .long (lN (keyF x0 rr oo))), (8, .int (nI nn)), (9, .int (nI p1)), (10, .int (nI (whM x0 rr p1))), (11, .int (nI q1))] → W p l e rm_X6_include s m args below meth c H locs 0 0 (MQ below (wr_Q E A (fun v1 w1 => ∃ u0, IPost E ra nn net rr oo st t2 t3 u0 K u Al Gd Fw Mo v1 w1)) args s 0 0 A) (F0 m 88 ls []) := by
                  intro n_lp_9
                  induction n_lp_9 with
                  | zero => intro q1 Sc K2c u2c hq1 hTc hWc hqn; intro hm_lp_9; exact absurd hm_lp_9 (Nat.not_lt_zero _)
                  | succ n_lp_9 ih_lp_9 =>
                    intro q1 Sc K2c u2c hq1 hTc hWc hqn hm_lp_9 H locs hP hD hS ls hl
                    refine lv_iload hx hb dX6_include_88 (lv_at hl 9 rfl) ?_
                    refine lv_iload hx hb dX6_include_90 (lv_at hl 6 rfl) ?_
                    refine n_icmp_ge (tgt := 138) hx hb (by omega) (by omega) dX6_include_92 (by decide) (fun c_10 => ?_) (fun c_10 => ?_)
                    · -- t 138
                      refine lv_iinc (v := nI (p1 + 1)) (lv' := [(9, .int (nI (p1 + 1))), (0, .ref (ra 0)), (1, .long (lN x0)), (3, .int (nI rr)), (4, .int (nI oo)), (5, .int (nI 0)), (6, .long (lN (keyF x0 rr oo))), (8, .int (nI nn)), (10, .int (nI (whM x0 rr p1))), (11, .int (nI q1))]) hx hb dX6_include_138 hl (k := 7) rfl (ii_1 _) (by decide) rfl (fun ls hl => ?_)
                      refine lv_goto (tgt := 51) hx hb dX6_include_141 (by decide) ?_
                      exact ih_lp_4 (p1 + 1) Sc K2c u2c (by omega) hTc hWc (fun p h9 q h8 h7 => by rcases (by omega : p < p1 ∨ p = p1) with h6 | h6; exact hdn p h6 q h8 h7; subst h6; exact ⟨hrow q h8 h7, hqn q (by omega) h7⟩) (by omega) H locs hP hD hS ls (lv_sub hl [1, 2, 3, 4, 5, 6, 7, 0] rfl)
                    · -- f 95
                      refine lv_iload hx hb dX6_include_95 (lv_at hl 8 rfl) ?_
                      refine lv_iload hx hb dX6_include_97 (lv_at hl 9 rfl) ?_
                      refine cN_p (rest := []) hC (k_contains l (whM x0 rr p1) q1 (by omega) (by omega)) hN.2.2.2.1 sy_X11_contains ⟨Nat.le_of_ble_eq_true rfl, Nat.le_of_ble_eq_true rfl⟩ ⟨rfl, rfl⟩ rfl hl.1 rfl (Nat.le_of_ble_eq_true rfl) dX6_include_99 ⟨Nat.le_of_ble_eq_true rfl, Nat.le_of_ble_eq_true rfl⟩ ?_
                      refine b_if_ne (tgt := 108) hx hb dX6_include_102 (by decide) (fun c_11 => ?_) (fun c_11 => ?_)
                      · -- t 108
                        have hmy := (whM_may hn hs.2.1 hnb hs.1 hr4 (by omega : p1 < nn) (by omega : q1 < nn)).symm.trans c_11
                        have hpq := may_pq hmy
                        have hsn := Pst_ring hn hs (by omega : p1 < nn) (by omega : q1 < nn) hpq
                        have hmi := mis_aft hn (by omega : p1 < nn) (by omega : q1 < nn) hs.2.1 (may_ne hn (by omega : q1 < nn) hs.2.1 hmy)
                        refine lv_aload_n hx hb dX6_include_108 rfl (lv_at hl 0 rfl) ?_
                        refine lv_lload_n hx hb dX6_include_109 rfl (lv_at hl 1 rfl) ?_
                        refine lv_iload hx hb dX6_include_110 (lv_at hl 7 rfl) ?_
                        refine lv_iload hx hb dX6_include_112 (lv_at hl 9 rfl) ?_
                        refine cS_p (rest := [.ref (ra 0)]) hC (k_ring l x0 p1 q1 (by omega) (by omega) (by omega)) kw_418 sy_X5_ring ⟨Nat.le_of_ble_eq_true rfl, Nat.le_of_ble_eq_true rfl⟩ ⟨rfl, rfl⟩ rfl hl.1 rfl (Nat.le_of_ble_eq_true rfl) dX6_include_114 ⟨Nat.le_of_ble_eq_true rfl, Nat.le_of_ble_eq_true rfl⟩ ?_
                        refine lv_iload_n hx hb dX6_include_117 rfl (lv_at hl 2 rfl) ?_
                        refine lv_iload hx hb dX6_include_118 (lv_at hl 3 rfl) ?_
                        refine lv_iload hx hb dX6_include_120 (lv_at hl 4 rfl) ?_
                        refine lv_iconst (v := nI 1) hx hb dX6_include_122 (by decide) ?_
                        refine n_iadd hx hb dX6_include_123 ?_
                        refine cV_w0 (rest := []) hC (ih (0 + 1) (aft st p1 q1) (tokA t2 2 p1 q1) (tokA t3 3 p1 q1) (rng x0 p1 q1) u0 Sc K u Al Gd Fw Mo K2c u2c _ (by omega) (by omega) (by omega) hsn hTc hWc) kw_610 iy_X6_include ⟨Nat.le_of_ble_eq_true rfl, Nat.le_of_ble_eq_true rfl⟩ ⟨rfl, rfl⟩ hK hP hD hS hA (va_recv hK hP (ci := 4) (q0 := 0) rfl rfl) rfl hl.1 rfl (Nat.le_of_ble_eq_true rfl) dX6_include_124 ⟨Nat.le_of_ble_eq_true rfl, Nat.le_of_ble_eq_true rfl⟩ (fun v_ w_ H locs hpost hP hD hS => ?_)
                        obtain ⟨Sd, K2d, u2d, rfl, rfl, hTd, hWd⟩ := hpost
                        refine W.eq (g2 := F0 m 127 ls [.int (bI (WP nn net rr oo (aft st p1 q1) (tokA t2 2 p1 q1) (tokA t3 3 p1 q1)))]) rfl ?_
                        refine b_if_ne (tgt := 132) hx hb dX6_include_127 (by decide) (fun c_12 => ?_) (fun c_12 => ?_)
                        · -- t 132
                          refine lv_iinc (v := nI (q1 + 1)) (lv' := [(11, .int (nI (q1 + 1))), (0, .ref (ra 0)), (1, .long (lN x0)), (3, .int (nI rr)), (4, .int (nI oo)), (5, .int (nI 0)), (6, .long (lN (keyF x0 rr oo))), (8, .int (nI nn)), (9, .int (nI p1)), (10, .int (nI (whM x0 rr p1)))]) hx hb dX6_include_132 hl (k := 9) rfl (ii_1 _) (by decide) rfl (fun ls hl => ?_)
                          refine lv_goto (tgt := 88) hx hb dX6_include_135 (by decide) ?_
                          exact ih_lp_9 (q1 + 1) Sd K2d u2d (by omega) hTd hWd (fun q h9 h8 => by rcases (by omega : q < q1 ∨ q = q1) with h6 | h6; exact hqn q h6 h8; subst h6; exact c_12) (by omega) H locs hP hD hS ls (lv_sub hl [1, 2, 3, 4, 5, 6, 7, 8, 9, 0] rfl)
                        · -- f 130
                          refine lv_iconst (v := nI 0) hx hb dX6_include_130 (by decide) ?_
                          exact rw_bE hC (show nI 0 = bI false from rfl) hP hD hS (⟨u0, Sd, K2d, u2d, by rw [show WP nn net rr oo st t2 t3 = false from Bool.eq_false_iff.mpr (fun h9 => by have h8 := ((WP_iff hn hr4 ho4 hmx hs.2.1).mp h9 p1 (by omega) q1 (by omega) hmy).2; rw [c_12] at h8; cases h8)]; rfl, rfl, hTd, hWd⟩) dX6_include_131 (Nat.le_of_ble_eq_true rfl) (Nat.le_of_ble_eq_true rfl)
                      · -- f 105
                        have hmy := (whM_may hn hs.2.1 hnb hs.1 hr4 (by omega : p1 < nn) (by omega : q1 < nn)).symm.trans c_11
                        refine lv_goto (tgt := 132) hx hb dX6_include_105 (by decide) ?_
                        refine lv_iinc (v := nI (q1 + 1)) (lv' := [(11, .int (nI (q1 + 1))), (0, .ref (ra 0)), (1, .long (lN x0)), (3, .int (nI rr)), (4, .int (nI oo)), (5, .int (nI 0)), (6, .long (lN (keyF x0 rr oo))), (8, .int (nI nn)), (9, .int (nI p1)), (10, .int (nI (whM x0 rr p1)))]) hx hb dX6_include_132 hl (k := 9) rfl (ii_1 _) (by decide) rfl (fun ls hl => ?_)
                        refine lv_goto (tgt := 88) hx hb dX6_include_135 (by decide) ?_
                        exact ih_lp_9 (q1 + 1) Sc K2c u2c (by omega) hTc hWc (fun q h9 h8 => by rcases (by omega : q < q1 ∨ q = q1) with h6 | h6; exact hqn q h6 h8; subst h6; rw [hmy] at h8; cases h8) (by omega) H locs hP hD hS ls (lv_sub hl [1, 2, 3, 4, 5, 6, 7, 8, 9, 0] rfl)
                exact lp_9 _ 0 Sb K2b u2b (Nat.zero_le _) hTb hWb (fun q h => absurd h (by omega)) (Nat.lt_succ_self _) H locs hP hD hS ls (lv_sub hl [2, 3, 4, 5, 6, 7, 8, 9, 1, 0] rfl)
              · -- f 83
                refine lv_iconst (v := nI 0) hx hb dX6_include_83 (by decide) ?_
                exact rw_bE hC (show nI 0 = bI false from rfl) hP hD hS (⟨u0, Sb, K2b, u2b, by rw [show WP nn net rr oo st t2 t3 = false from Bool.eq_false_iff.mpr (fun h9 => c_8 ((whM_in hn hs.2.1 hnb hs.1 hr4 ho4 (by omega : p1 < nn)).mpr (fun q h8 h7 => ((WP_iff hn hr4 ho4 hmx hs.2.1).mp h9 p1 (by omega) q h8 h7).1)))]; rfl, rfl, hTb, hWb⟩) dX6_include_84 (Nat.le_of_ble_eq_true rfl) (Nat.le_of_ble_eq_true rfl)
        exact lp_4 _ 0 0 Ka u0 (Nat.zero_le _) hT hW (fun p h => absurd h (by omega)) (Nat.lt_succ_self _) H locs hP hD hS ls (lv_sub hl [3, 4, 5, 6, 7, 2, 1, 0] rfl)
      · -- f 40
        exact absurd (by decide) c_3

set_option maxHeartbeats 4000000 in
set_option maxRecDepth 100000 in
theorem k_areWithin (l : Launch) (E : EE) (ra : Nat → Nat) (nn : Nat) (net : Nat → Nat) (rr oo : Nat) (h1 : 0 < nn) (hn : nn ≤ 4) (hnb : NB nn net) (hr4 : rr < 4) (ho4 : oo < 4) (hmx : mixR rr oo) (st t2 t3 x0 : Nat) (K : Nat → Nat) (u : Nat) (Al Gd Fw Mo : Nat → Nat) (K2 : Nat → Nat) (u2 sz : Nat) (hs : Pst nn net rr oo st t2 t3 x0) (hB : TBt K2 u2) (hW : WI K2) : Wr l yX6_areWithin cX6_areWithin 5 (some .boolean) rm_X6_areWithin 0 0 E (rW E ra K u Al Gd Fw Mo K2 u2) sz [.ref (ra 0), .long (lN x0), .int (nI rr), .int (nI oo)] (fun v1 w1 => v1 = some (.int (bI (WP nn net rr oo st t2 t3))) ∧ ∃ (K3 : Nat → Nat) (u3 : Nat), w1 = rW E ra K u Al Gd Fw Mo K3 u3 ∧ TBt K3 u3 ∧ WI K3) := by
  refine mk_wr (by decide) (Nat.le_of_ble_eq_true rfl) ?_
  intro p e s m args below meth c hC hin hK A hA hP hD hS ls hl
  obtain ⟨hx, hb, hr, hts, hown, hml, hlk, hN⟩ := id hC
  have hl : lv_has ls 5 [(0, .ref (ra 0)), (1, .long (lN x0)), (3, .int (nI rr)), (4, .int (nI oo))] := hl
  obtain ⟨H, hH⟩ : ∃ z, z = s.heap := ⟨_, rfl⟩
  have hS : va_S A s.heap H [] := by rw [hH]; exact hS
  rw [← hH] at hP
  refine W_heap hH ?_
  obtain ⟨locs, hlo⟩ : ∃ z : List Loc, z = [] := ⟨_, rfl⟩
  rw [← hlo] at hS ⊢
  refine lv_aload_n hx hb dX6_areWithin_0 rfl (lv_at hl 0 rfl) ?_
  refine lv_lload_n hx hb dX6_areWithin_1 rfl (lv_at hl 1 rfl) ?_
  refine lv_iload_n hx hb dX6_areWithin_2 rfl (lv_at hl 2 rfl) ?_
  refine lv_iload hx hb dX6_areWithin_3 (lv_at hl 3 rfl) ?_
  refine lv_iconst (v := nI 0) hx hb dX6_areWithin_5 (by decide) ?_
  refine cV_w0 (rest := []) hC (k_include l E ra nn net rr oo h1 hn hnb hr4 ho4 hmx st t2 t3 x0 K u Al Gd Fw Mo K2 u2 _ hs hB hW) kw_610 iy_X6_include ⟨Nat.le_of_ble_eq_true rfl, Nat.le_of_ble_eq_true rfl⟩ ⟨rfl, rfl⟩ hK hP hD hS hA (va_recv hK hP (ci := 4) (q0 := 0) rfl rfl) rfl hl.1 rfl (Nat.le_of_ble_eq_true rfl) dX6_areWithin_6 ⟨Nat.le_of_ble_eq_true rfl, Nat.le_of_ble_eq_true rfl⟩ (fun v_ w_ H locs hpost hP hD hS => ?_)
  obtain ⟨u0, S1, K21, u21, rfl, rfl, hT1, hW1⟩ := hpost
  have hB1 := TQ_bt h1 hn hT1
  refine W.eq (g2 := F0 m 9 ls [.int (bI (WP nn net rr oo st t2 t3))]) rfl ?_
  exact rw_bE hC (rfl) hP hD hS (⟨rfl, K21, u21, rfl, hB1, hW1⟩) dX6_areWithin_9 (Nat.le_of_ble_eq_true rfl) (Nat.le_of_ble_eq_true rfl)
