set_option maxHeartbeats 4000000 in
set_option maxRecDepth 100000 in
theorem k_all (l : Launch) (E : EE) (ra : Nat → Nat) (K : Nat → Nat) (u : Nat) (Al Gd Fw Mo : Nat → Nat) (K2 : Nat → Nat) (u2 : Nat) (nn : Nat) (net : Nat → Nat) (rr : Nat) (h1 : 0 < nn) (hn : nn ≤ 4) (hnb : NB nn net) (hr4 : rr < 4) (st t2 t3 x0 : Nat) (hs : Pst nn net rr rr st t2 t3 x0) (hB : TBt K u) (hV : VI K Al Gd Fw Mo) (sz : Nat) : Wr l yX6_all cX6_all 5 (some .long) rm_X6_all 0 0 E (rW E ra K u Al Gd Fw Mo K2 u2) sz [.ref (ra 0), .long (lN x0), .int (nI rr)] (RPost E ra K2 u2 (.long (lN (CN nn net rr st (tkR rr t2 t3)).1))) := by
  refine mk_wr (by decide) (Nat.le_of_ble_eq_true rfl) ?_
  intro p e s m args below meth c hC hin hK A hA hP hD hS ls hl
  obtain ⟨hx, hb, hr, hts, hown, hml, hlk, hN⟩ := id hC
  have hl : lv_has ls 5 [(0, .ref (ra 0)), (1, .long (lN x0)), (3, .int (nI rr))] := hl
  obtain ⟨H, hH⟩ : ∃ z, z = s.heap := ⟨_, rfl⟩
  have hS : va_S A s.heap H [] := by rw [hH]; exact hS
  rw [← hH] at hP
  refine W_heap hH ?_
  obtain ⟨locs, hlo⟩ : ∃ z : List Loc, z = [] := ⟨_, rfl⟩
  rw [← hlo] at hS ⊢
  refine lv_aload_n hx hb dX6_all_0 rfl (lv_at hl 0 rfl) ?_
  refine lv_lload_n hx hb dX6_all_1 rfl (lv_at hl 1 rfl) ?_
  refine lv_iload_n hx hb dX6_all_2 rfl (lv_at hl 2 rfl) ?_
  refine lv_iconst (v := nI 0) hx hb dX6_all_3 (by decide) ?_
  refine cV_w0 (rest := []) hC (k_count l E ra nn net rr h1 hn hnb hr4 st t2 t3 x0 K u Al Gd Fw Mo K2 u2 _ hs hB hV) kw_390 iy_X6_count ⟨Nat.le_of_ble_eq_true rfl, Nat.le_of_ble_eq_true rfl⟩ ⟨rfl, rfl⟩ hK hP hD hS hA (va_recv hK hP (ci := 4) (q0 := 0) rfl rfl) rfl hl.1 rfl (Nat.le_of_ble_eq_true rfl) dX6_all_4 ⟨Nat.le_of_ble_eq_true rfl, Nat.le_of_ble_eq_true rfl⟩ (fun v_ w_ H locs hpost hP hD hS => ?_)
  obtain ⟨u0, s1, S1, K1, u1, Al1, Gd1, Fw1, Mo1, rfl, rfl, hs1, hT1, hV1, hK1⟩ := hpost
  have hvd := VI_at h1 hn hr4 hV1 hs1 hs hK1
  have hsd := vC_sm hvd
  have hB1 := TQ_bt h1 hn hT1
  refine W.eq (g2 := F0 m 7 ls [.int (nI s1)]) rfl ?_
  refine lv_istore (lv' := [(4, .int (nI s1)), (0, .ref (ra 0)), (1, .long (lN x0)), (3, .int (nI rr))]) hx hb dX6_all_7 hl (by decide) rfl (fun ls hl => ?_)
  refine lv_iload hx hb dX6_all_9 (lv_at hl 0 rfl) ?_
  refine n_if_ge (tgt := 18) hx hb (by omega) dX6_all_11 (by decide) ?_
  refine lv_aload_n hx hb dX6_all_18 rfl (lv_at hl 1 rfl) ?_
  refine va_get (D := E.1) (ci := 4) (v := .ref (ra 3)) (C := RX6) (T := TX6) (N := 6) hx hb hts iX6 hown hK hP 0 rfl rfl 1 (by decide) (hts _ kw_62) (fun _ h9 => h9) rfl dX6_all_19 ?_
  refine lv_iload hx hb dX6_all_22 (lv_at hl 0 rfl) ?_
  refine n_lald (f := fun j => lN (Al1 j)) hx hb hK hP 3 rfl (by omega) (by decide) dX6_all_24 ?_
  exact rw_l hC hP hD hS (⟨congrArg (fun z => some (Value.long (lN z))) hvd.1, K1, u1, Al1, Gd1, Fw1, Mo1, rfl, hB1, hV1⟩) dX6_all_25 (Nat.le_of_ble_eq_true rfl) (Nat.le_of_ble_eq_true rfl)

set_option maxHeartbeats 4000000 in
set_option maxRecDepth 100000 in
theorem k_good (l : Launch) (E : EE) (ra : Nat → Nat) (K : Nat → Nat) (u : Nat) (Al Gd Fw Mo : Nat → Nat) (K2 : Nat → Nat) (u2 : Nat) (nn : Nat) (net : Nat → Nat) (rr : Nat) (h1 : 0 < nn) (hn : nn ≤ 4) (hnb : NB nn net) (hr4 : rr < 4) (st t2 t3 x0 : Nat) (hs : Pst nn net rr rr st t2 t3 x0) (hB : TBt K u) (hV : VI K Al Gd Fw Mo) (sz : Nat) : Wr l yX6_good cX6_good 5 (some .long) rm_X6_good 0 0 E (rW E ra K u Al Gd Fw Mo K2 u2) sz [.ref (ra 0), .long (lN x0), .int (nI rr)] (RPost E ra K2 u2 (.long (lN (CN nn net rr st (tkR rr t2 t3)).2.1))) := by
  refine mk_wr (by decide) (Nat.le_of_ble_eq_true rfl) ?_
  intro p e s m args below meth c hC hin hK A hA hP hD hS ls hl
  obtain ⟨hx, hb, hr, hts, hown, hml, hlk, hN⟩ := id hC
  have hl : lv_has ls 5 [(0, .ref (ra 0)), (1, .long (lN x0)), (3, .int (nI rr))] := hl
  obtain ⟨H, hH⟩ : ∃ z, z = s.heap := ⟨_, rfl⟩
  have hS : va_S A s.heap H [] := by rw [hH]; exact hS
  rw [← hH] at hP
  refine W_heap hH ?_
  obtain ⟨locs, hlo⟩ : ∃ z : List Loc, z = [] := ⟨_, rfl⟩
  rw [← hlo] at hS ⊢
  refine lv_aload_n hx hb dX6_good_0 rfl (lv_at hl 0 rfl) ?_
  refine lv_lload_n hx hb dX6_good_1 rfl (lv_at hl 1 rfl) ?_
  refine lv_iload_n hx hb dX6_good_2 rfl (lv_at hl 2 rfl) ?_
  refine lv_iconst (v := nI 0) hx hb dX6_good_3 (by decide) ?_
  refine cV_w0 (rest := []) hC (k_count l E ra nn net rr h1 hn hnb hr4 st t2 t3 x0 K u Al Gd Fw Mo K2 u2 _ hs hB hV) kw_390 iy_X6_count ⟨Nat.le_of_ble_eq_true rfl, Nat.le_of_ble_eq_true rfl⟩ ⟨rfl, rfl⟩ hK hP hD hS hA (va_recv hK hP (ci := 4) (q0 := 0) rfl rfl) rfl hl.1 rfl (Nat.le_of_ble_eq_true rfl) dX6_good_4 ⟨Nat.le_of_ble_eq_true rfl, Nat.le_of_ble_eq_true rfl⟩ (fun v_ w_ H locs hpost hP hD hS => ?_)
  obtain ⟨u0, s1, S1, K1, u1, Al1, Gd1, Fw1, Mo1, rfl, rfl, hs1, hT1, hV1, hK1⟩ := hpost
  have hvd := VI_at h1 hn hr4 hV1 hs1 hs hK1
  have hsd := vC_sm hvd
  have hB1 := TQ_bt h1 hn hT1
  refine W.eq (g2 := F0 m 7 ls [.int (nI s1)]) rfl ?_
  refine lv_istore (lv' := [(4, .int (nI s1)), (0, .ref (ra 0)), (1, .long (lN x0)), (3, .int (nI rr))]) hx hb dX6_good_7 hl (by decide) rfl (fun ls hl => ?_)
  refine lv_iload hx hb dX6_good_9 (lv_at hl 0 rfl) ?_
  refine n_if_ge (tgt := 18) hx hb (by omega) dX6_good_11 (by decide) ?_
  refine lv_aload_n hx hb dX6_good_18 rfl (lv_at hl 1 rfl) ?_
  refine va_get (D := E.1) (ci := 4) (v := .ref (ra 4)) (C := RX6) (T := TX6) (N := 6) hx hb hts iX6 hown hK hP 0 rfl rfl 2 (by decide) (hts _ kw_63) (fun _ h9 => h9) rfl dX6_good_19 ?_
  refine lv_iload hx hb dX6_good_22 (lv_at hl 0 rfl) ?_
  refine n_lald (f := fun j => lN (Gd1 j)) hx hb hK hP 4 rfl (by omega) (by decide) dX6_good_24 ?_
  exact rw_l hC hP hD hS (⟨congrArg (fun z => some (Value.long (lN z))) hvd.2.1, K1, u1, Al1, Gd1, Fw1, Mo1, rfl, hB1, hV1⟩) dX6_good_25 (Nat.le_of_ble_eq_true rfl) (Nat.le_of_ble_eq_true rfl)

set_option maxHeartbeats 4000000 in
set_option maxRecDepth 100000 in
theorem k_fewest (l : Launch) (E : EE) (ra : Nat → Nat) (K : Nat → Nat) (u : Nat) (Al Gd Fw Mo : Nat → Nat) (K2 : Nat → Nat) (u2 : Nat) (nn : Nat) (net : Nat → Nat) (rr : Nat) (h1 : 0 < nn) (hn : nn ≤ 4) (hnb : NB nn net) (hr4 : rr < 4) (st t2 t3 x0 : Nat) (hs : Pst nn net rr rr st t2 t3 x0) (hB : TBt K u) (hV : VI K Al Gd Fw Mo) (sz : Nat) : Wr l yX6_fewest cX6_fewest 5 (some .int) rm_X6_fewest 0 0 E (rW E ra K u Al Gd Fw Mo K2 u2) sz [.ref (ra 0), .long (lN x0), .int (nI rr)] (RPost E ra K2 u2 (.int (fewT (CN nn net rr st (tkR rr t2 t3))))) := by
  refine mk_wr (by decide) (Nat.le_of_ble_eq_true rfl) ?_
  intro p e s m args below meth c hC hin hK A hA hP hD hS ls hl
  obtain ⟨hx, hb, hr, hts, hown, hml, hlk, hN⟩ := id hC
  have hl : lv_has ls 5 [(0, .ref (ra 0)), (1, .long (lN x0)), (3, .int (nI rr))] := hl
  obtain ⟨H, hH⟩ : ∃ z, z = s.heap := ⟨_, rfl⟩
  have hS : va_S A s.heap H [] := by rw [hH]; exact hS
  rw [← hH] at hP
  refine W_heap hH ?_
  obtain ⟨locs, hlo⟩ : ∃ z : List Loc, z = [] := ⟨_, rfl⟩
  rw [← hlo] at hS ⊢
  refine lv_aload_n hx hb dX6_fewest_0 rfl (lv_at hl 0 rfl) ?_
  refine lv_lload_n hx hb dX6_fewest_1 rfl (lv_at hl 1 rfl) ?_
  refine lv_iload_n hx hb dX6_fewest_2 rfl (lv_at hl 2 rfl) ?_
  refine lv_iconst (v := nI 0) hx hb dX6_fewest_3 (by decide) ?_
  refine cV_w0 (rest := []) hC (k_count l E ra nn net rr h1 hn hnb hr4 st t2 t3 x0 K u Al Gd Fw Mo K2 u2 _ hs hB hV) kw_390 iy_X6_count ⟨Nat.le_of_ble_eq_true rfl, Nat.le_of_ble_eq_true rfl⟩ ⟨rfl, rfl⟩ hK hP hD hS hA (va_recv hK hP (ci := 4) (q0 := 0) rfl rfl) rfl hl.1 rfl (Nat.le_of_ble_eq_true rfl) dX6_fewest_4 ⟨Nat.le_of_ble_eq_true rfl, Nat.le_of_ble_eq_true rfl⟩ (fun v_ w_ H locs hpost hP hD hS => ?_)
  obtain ⟨u0, s1, S1, K1, u1, Al1, Gd1, Fw1, Mo1, rfl, rfl, hs1, hT1, hV1, hK1⟩ := hpost
  have hvd := VI_at h1 hn hr4 hV1 hs1 hs hK1
  have hsd := vC_sm hvd
  have hB1 := TQ_bt h1 hn hT1
  refine W.eq (g2 := F0 m 7 ls [.int (nI s1)]) rfl ?_
  refine lv_istore (lv' := [(4, .int (nI s1)), (0, .ref (ra 0)), (1, .long (lN x0)), (3, .int (nI rr))]) hx hb dX6_fewest_7 hl (by decide) rfl (fun ls hl => ?_)
  refine lv_iload hx hb dX6_fewest_9 (lv_at hl 0 rfl) ?_
  refine n_if_lt (tgt := 26) hx hb (by omega) dX6_fewest_11 (by decide) ?_
  refine lv_aload_n hx hb dX6_fewest_14 rfl (lv_at hl 1 rfl) ?_
  refine va_get (D := E.1) (ci := 4) (v := .ref (ra 4)) (C := RX6) (T := TX6) (N := 6) hx hb hts iX6 hown hK hP 0 rfl rfl 2 (by decide) (hts _ kw_63) (fun _ h9 => h9) rfl dX6_fewest_15 ?_
  refine lv_iload hx hb dX6_fewest_18 (lv_at hl 0 rfl) ?_
  refine n_lald (f := fun j => lN (Gd1 j)) hx hb hK hP 4 rfl (by omega) (by decide) dX6_fewest_20 ?_
  refine lv_lconst (v := lN 0) hx hb dX6_fewest_21 (by decide) ?_
  refine n_lcmp_ne (tgt := 31) hx hb (by omega) (by omega) dX6_fewest_22 dX6_fewest_23 (by decide) (fun c_1 => ?_) (fun c_1 => ?_)
  · -- t 31
    refine lv_aload_n hx hb dX6_fewest_31 rfl (lv_at hl 1 rfl) ?_
    refine va_get (D := E.1) (ci := 4) (v := .ref (ra 5)) (C := RX6) (T := TX6) (N := 6) hx hb hts iX6 hown hK hP 0 rfl rfl 3 (by decide) (hts _ kw_64) (fun _ h9 => h9) rfl dX6_fewest_32 ?_
    refine lv_iload hx hb dX6_fewest_35 (lv_at hl 0 rfl) ?_
    refine n_bald (f := fun j => nI (Fw1 j)) hx hb hK hP 5 rfl (by omega) (by decide) dX6_fewest_37 ?_
    exact rw_i hC rfl hP hD hS (⟨congrArg (fun z => some (Value.int z)) (vC_few hvd c_1), K1, u1, Al1, Gd1, Fw1, Mo1, rfl, hB1, hV1⟩) dX6_fewest_38 (Nat.le_of_ble_eq_true rfl) (Nat.le_of_ble_eq_true rfl)
  · -- f 26
    refine lv_bipush (v := -9) hx hb dX6_fewest_26 (by decide) ?_
    refine lv_goto (tgt := 38) hx hb dX6_fewest_28 (by decide) ?_
    exact rw_i hC rfl hP hD hS (⟨congrArg (fun z => some (Value.int z)) (show (-9 : Int32) = fewT (CN nn net rr st (tkR rr t2 t3)) from by unfold fewT; rw [if_pos (by have := hvd.2.1; omega)]), K1, u1, Al1, Gd1, Fw1, Mo1, rfl, hB1, hV1⟩) dX6_fewest_38 (Nat.le_of_ble_eq_true rfl) (Nat.le_of_ble_eq_true rfl)

set_option maxHeartbeats 4000000 in
set_option maxRecDepth 100000 in
theorem k_most (l : Launch) (E : EE) (ra : Nat → Nat) (K : Nat → Nat) (u : Nat) (Al Gd Fw Mo : Nat → Nat) (K2 : Nat → Nat) (u2 : Nat) (nn : Nat) (net : Nat → Nat) (rr : Nat) (h1 : 0 < nn) (hn : nn ≤ 4) (hnb : NB nn net) (hr4 : rr < 4) (st t2 t3 x0 : Nat) (hs : Pst nn net rr rr st t2 t3 x0) (hB : TBt K u) (hV : VI K Al Gd Fw Mo) (sz : Nat) : Wr l yX6_most cX6_most 5 (some .int) rm_X6_most 0 0 E (rW E ra K u Al Gd Fw Mo K2 u2) sz [.ref (ra 0), .long (lN x0), .int (nI rr)] (RPost E ra K2 u2 (.int (mosT (CN nn net rr st (tkR rr t2 t3))))) := by
  refine mk_wr (by decide) (Nat.le_of_ble_eq_true rfl) ?_
  intro p e s m args below meth c hC hin hK A hA hP hD hS ls hl
  obtain ⟨hx, hb, hr, hts, hown, hml, hlk, hN⟩ := id hC
  have hl : lv_has ls 5 [(0, .ref (ra 0)), (1, .long (lN x0)), (3, .int (nI rr))] := hl
  obtain ⟨H, hH⟩ : ∃ z, z = s.heap := ⟨_, rfl⟩
  have hS : va_S A s.heap H [] := by rw [hH]; exact hS
  rw [← hH] at hP
  refine W_heap hH ?_
  obtain ⟨locs, hlo⟩ : ∃ z : List Loc, z = [] := ⟨_, rfl⟩
  rw [← hlo] at hS ⊢
  refine lv_aload_n hx hb dX6_most_0 rfl (lv_at hl 0 rfl) ?_
  refine lv_lload_n hx hb dX6_most_1 rfl (lv_at hl 1 rfl) ?_
  refine lv_iload_n hx hb dX6_most_2 rfl (lv_at hl 2 rfl) ?_
  refine lv_iconst (v := nI 0) hx hb dX6_most_3 (by decide) ?_
  refine cV_w0 (rest := []) hC (k_count l E ra nn net rr h1 hn hnb hr4 st t2 t3 x0 K u Al Gd Fw Mo K2 u2 _ hs hB hV) kw_390 iy_X6_count ⟨Nat.le_of_ble_eq_true rfl, Nat.le_of_ble_eq_true rfl⟩ ⟨rfl, rfl⟩ hK hP hD hS hA (va_recv hK hP (ci := 4) (q0 := 0) rfl rfl) rfl hl.1 rfl (Nat.le_of_ble_eq_true rfl) dX6_most_4 ⟨Nat.le_of_ble_eq_true rfl, Nat.le_of_ble_eq_true rfl⟩ (fun v_ w_ H locs hpost hP hD hS => ?_)
  obtain ⟨u0, s1, S1, K1, u1, Al1, Gd1, Fw1, Mo1, rfl, rfl, hs1, hT1, hV1, hK1⟩ := hpost
  have hvd := VI_at h1 hn hr4 hV1 hs1 hs hK1
  have hsd := vC_sm hvd
  have hB1 := TQ_bt h1 hn hT1
  refine W.eq (g2 := F0 m 7 ls [.int (nI s1)]) rfl ?_
  refine lv_istore (lv' := [(4, .int (nI s1)), (0, .ref (ra 0)), (1, .long (lN x0)), (3, .int (nI rr))]) hx hb dX6_most_7 hl (by decide) rfl (fun ls hl => ?_)
  refine lv_iload hx hb dX6_most_9 (lv_at hl 0 rfl) ?_
  refine n_if_lt (tgt := 26) hx hb (by omega) dX6_most_11 (by decide) ?_
  refine lv_aload_n hx hb dX6_most_14 rfl (lv_at hl 1 rfl) ?_
  refine va_get (D := E.1) (ci := 4) (v := .ref (ra 4)) (C := RX6) (T := TX6) (N := 6) hx hb hts iX6 hown hK hP 0 rfl rfl 2 (by decide) (hts _ kw_63) (fun _ h9 => h9) rfl dX6_most_15 ?_
  refine lv_iload hx hb dX6_most_18 (lv_at hl 0 rfl) ?_
  refine n_lald (f := fun j => lN (Gd1 j)) hx hb hK hP 4 rfl (by omega) (by decide) dX6_most_20 ?_
  refine lv_lconst (v := lN 0) hx hb dX6_most_21 (by decide) ?_
  refine n_lcmp_ne (tgt := 31) hx hb (by omega) (by omega) dX6_most_22 dX6_most_23 (by decide) (fun c_1 => ?_) (fun c_1 => ?_)
  · -- t 31
    refine lv_aload_n hx hb dX6_most_31 rfl (lv_at hl 1 rfl) ?_
    refine va_get (D := E.1) (ci := 4) (v := .ref (ra 6)) (C := RX6) (T := TX6) (N := 6) hx hb hts iX6 hown hK hP 0 rfl rfl 4 (by decide) (hts _ kw_65) (fun _ h9 => h9) rfl dX6_most_32 ?_
    refine lv_iload hx hb dX6_most_35 (lv_at hl 0 rfl) ?_
    refine n_bald (f := fun j => nI (Mo1 j)) hx hb hK hP 6 rfl (by omega) (by decide) dX6_most_37 ?_
    exact rw_i hC rfl hP hD hS (⟨congrArg (fun z => some (Value.int z)) (vC_mos hvd c_1), K1, u1, Al1, Gd1, Fw1, Mo1, rfl, hB1, hV1⟩) dX6_most_38 (Nat.le_of_ble_eq_true rfl) (Nat.le_of_ble_eq_true rfl)
  · -- f 26
    refine lv_bipush (v := -9) hx hb dX6_most_26 (by decide) ?_
    refine lv_goto (tgt := 38) hx hb dX6_most_28 (by decide) ?_
    exact rw_i hC rfl hP hD hS (⟨congrArg (fun z => some (Value.int z)) (show (-9 : Int32) = mosT (CN nn net rr st (tkR rr t2 t3)) from by unfold mosT; rw [if_pos (by have := hvd.2.1; omega)]), K1, u1, Al1, Gd1, Fw1, Mo1, rfl, hB1, hV1⟩) dX6_most_38 (Nat.le_of_ble_eq_true rfl) (Nat.le_of_ble_eq_true rfl)

set_option maxHeartbeats 4000000 in
set_option maxRecDepth 100000 in
theorem k_judge (l : Launch) (E : EE) (ra : Nat → Nat) (K : Nat → Nat) (u : Nat) (Al Gd Fw Mo : Nat → Nat) (K2 : Nat → Nat) (u2 : Nat) (nn : Nat) (net : Nat → Nat) (rr : Nat) (h1 : 0 < nn) (hn : nn ≤ 4) (hnb : NB nn net) (hr4 : rr < 4) (st t2 t3 x0 : Nat) (hs : Pst nn net rr rr st t2 t3 x0) (hB : TBt K u) (hV : VI K Al Gd Fw Mo) (sz : Nat) : Wr l yX6_judge cX6_judge 5 (some .int) rm_X6_judge 0 0 E (rW E ra K u Al Gd Fw Mo K2 u2) sz [.ref (ra 0), .long (lN x0), .int (nI rr)] (RPost E ra K2 u2 (.int (nI (verd (CN nn net rr st (tkR rr t2 t3)))))) := by
  refine mk_wr (by decide) (Nat.le_of_ble_eq_true rfl) ?_
  intro p e s m args below meth c hC hin hK A hA hP hD hS ls hl
  obtain ⟨hx, hb, hr, hts, hown, hml, hlk, hN⟩ := id hC
  have hl : lv_has ls 5 [(0, .ref (ra 0)), (1, .long (lN x0)), (3, .int (nI rr))] := hl
  obtain ⟨H, hH⟩ : ∃ z, z = s.heap := ⟨_, rfl⟩
  have hS : va_S A s.heap H [] := by rw [hH]; exact hS
  rw [← hH] at hP
  refine W_heap hH ?_
  obtain ⟨locs, hlo⟩ : ∃ z : List Loc, z = [] := ⟨_, rfl⟩
  rw [← hlo] at hS ⊢
  refine lv_aload_n hx hb dX6_judge_0 rfl (lv_at hl 0 rfl) ?_
  refine lv_lload_n hx hb dX6_judge_1 rfl (lv_at hl 1 rfl) ?_
  refine lv_iload_n hx hb dX6_judge_2 rfl (lv_at hl 2 rfl) ?_
  refine lv_iconst (v := nI 0) hx hb dX6_judge_3 (by decide) ?_
  refine cV_w0 (rest := []) hC (k_count l E ra nn net rr h1 hn hnb hr4 st t2 t3 x0 K u Al Gd Fw Mo K2 u2 _ hs hB hV) kw_390 iy_X6_count ⟨Nat.le_of_ble_eq_true rfl, Nat.le_of_ble_eq_true rfl⟩ ⟨rfl, rfl⟩ hK hP hD hS hA (va_recv hK hP (ci := 4) (q0 := 0) rfl rfl) rfl hl.1 rfl (Nat.le_of_ble_eq_true rfl) dX6_judge_4 ⟨Nat.le_of_ble_eq_true rfl, Nat.le_of_ble_eq_true rfl⟩ (fun v_ w_ H locs hpost hP hD hS => ?_)
  obtain ⟨u0, s1, S1, K1, u1, Al1, Gd1, Fw1, Mo1, rfl, rfl, hs1, hT1, hV1, hK1⟩ := hpost
  have hvd := VI_at h1 hn hr4 hV1 hs1 hs hK1
  have hsd := vC_sm hvd
  have hB1 := TQ_bt h1 hn hT1
  refine W.eq (g2 := F0 m 7 ls [.int (nI s1)]) rfl ?_
  refine lv_istore (lv' := [(4, .int (nI s1)), (0, .ref (ra 0)), (1, .long (lN x0)), (3, .int (nI rr))]) hx hb dX6_judge_7 hl (by decide) rfl (fun ls hl => ?_)
  refine lv_iload hx hb dX6_judge_9 (lv_at hl 0 rfl) ?_
  refine n_if_lt (tgt := 26) hx hb (by omega) dX6_judge_11 (by decide) ?_
  refine lv_aload_n hx hb dX6_judge_14 rfl (lv_at hl 1 rfl) ?_
  refine va_get (D := E.1) (ci := 4) (v := .ref (ra 4)) (C := RX6) (T := TX6) (N := 6) hx hb hts iX6 hown hK hP 0 rfl rfl 2 (by decide) (hts _ kw_63) (fun _ h9 => h9) rfl dX6_judge_15 ?_
  refine lv_iload hx hb dX6_judge_18 (lv_at hl 0 rfl) ?_
  refine n_lald (f := fun j => lN (Gd1 j)) hx hb hK hP 4 rfl (by omega) (by decide) dX6_judge_20 ?_
  refine lv_lconst (v := lN 0) hx hb dX6_judge_21 (by decide) ?_
  refine n_lcmp_ne (tgt := 28) hx hb (by omega) (by omega) dX6_judge_22 dX6_judge_23 (by decide) (fun c_1 => ?_) (fun c_1 => ?_)
  · -- t 28
    refine lv_aload_n hx hb dX6_judge_28 rfl (lv_at hl 1 rfl) ?_
    refine va_get (D := E.1) (ci := 4) (v := .ref (ra 4)) (C := RX6) (T := TX6) (N := 6) hx hb hts iX6 hown hK hP 0 rfl rfl 2 (by decide) (hts _ kw_63) (fun _ h9 => h9) rfl dX6_judge_29 ?_
    refine lv_iload hx hb dX6_judge_32 (lv_at hl 0 rfl) ?_
    refine n_lald (f := fun j => lN (Gd1 j)) hx hb hK hP 4 rfl (by omega) (by decide) dX6_judge_34 ?_
    refine lv_aload_n hx hb dX6_judge_35 rfl (lv_at hl 1 rfl) ?_
    refine va_get (D := E.1) (ci := 4) (v := .ref (ra 3)) (C := RX6) (T := TX6) (N := 6) hx hb hts iX6 hown hK hP 0 rfl rfl 1 (by decide) (hts _ kw_62) (fun _ h9 => h9) rfl dX6_judge_36 ?_
    refine lv_iload hx hb dX6_judge_39 (lv_at hl 0 rfl) ?_
    refine n_lald (f := fun j => lN (Al1 j)) hx hb hK hP 3 rfl (by omega) (by decide) dX6_judge_41 ?_
    refine n_lcmp_ne (tgt := 50) hx hb (by omega) (by omega) dX6_judge_42 dX6_judge_43 (by decide) (fun c_2 => ?_) (fun c_2 => ?_)
    · -- t 50
      refine lv_iconst (v := nI 1) hx hb dX6_judge_50 (by decide) ?_
      exact rw_i hC rfl hP hD hS (⟨congrArg (fun z => some (Value.int (nI z))) (by have e1 := hvd.1; have e2 := hvd.2.1; unfold verd; first | rw [if_pos (by omega)] | rw [if_neg (by omega), if_pos (by omega)] | rw [if_neg (by omega), if_neg (by omega)]), K1, u1, Al1, Gd1, Fw1, Mo1, rfl, hB1, hV1⟩) dX6_judge_51 (Nat.le_of_ble_eq_true rfl) (Nat.le_of_ble_eq_true rfl)
    · -- f 46
      refine lv_iconst (v := nI 2) hx hb dX6_judge_46 (by decide) ?_
      refine lv_goto (tgt := 51) hx hb dX6_judge_47 (by decide) ?_
      exact rw_i hC rfl hP hD hS (⟨congrArg (fun z => some (Value.int (nI z))) (by have e1 := hvd.1; have e2 := hvd.2.1; unfold verd; first | rw [if_pos (by omega)] | rw [if_neg (by omega), if_pos (by omega)] | rw [if_neg (by omega), if_neg (by omega)]), K1, u1, Al1, Gd1, Fw1, Mo1, rfl, hB1, hV1⟩) dX6_judge_51 (Nat.le_of_ble_eq_true rfl) (Nat.le_of_ble_eq_true rfl)
  · -- f 26
    refine lv_iconst (v := nI 0) hx hb dX6_judge_26 (by decide) ?_
    exact rw_i hC rfl hP hD hS (⟨congrArg (fun z => some (Value.int (nI z))) (by have e1 := hvd.1; have e2 := hvd.2.1; unfold verd; first | rw [if_pos (by omega)] | rw [if_neg (by omega), if_pos (by omega)] | rw [if_neg (by omega), if_neg (by omega)]), K1, u1, Al1, Gd1, Fw1, Mo1, rfl, hB1, hV1⟩) dX6_judge_27 (Nat.le_of_ble_eq_true rfl) (Nat.le_of_ble_eq_true rfl)
