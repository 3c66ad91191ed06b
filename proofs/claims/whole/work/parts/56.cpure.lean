set_option maxHeartbeats 4000000 in
set_option maxRecDepth 100000 in
theorem k_truth (l : Launch) (b1 : Bool) : Pz l yX11_truth cX11_truth 1 (some .int) rm_X11_truth [.int (bI b1)] (some (.int (bI b1))) := by
  refine mk_pz (by decide) (Nat.le_of_ble_eq_true rfl) ?_
  intro p e s m args below meth c hC ls hl
  obtain ⟨hx, hb, hr, hts, hown, hml, hlk, hN⟩ := id hC
  have hl : lv_has ls 1 [(0, .int (bI b1))] := hl
  refine lv_iload_n hx hb dX11_truth_0 rfl (lv_at hl 0 rfl) ?_
  refine b_if_eq (tgt := 8) hx hb dX11_truth_1 (by decide) (fun c_1 => ?_) (fun c_1 => ?_)
  · -- t 8
    refine lv_iconst (v := nI 0) hx hb dX11_truth_8 (by decide) ?_
    exact rz_iE hC (by rw [show b1 = false from by simp [c_1]]; rfl) dX11_truth_9
  · -- f 4
    refine lv_iconst (v := nI 1) hx hb dX11_truth_4 (by decide) ?_
    refine lv_goto (tgt := 9) hx hb dX11_truth_5 (by decide) ?_
    exact rz_iE hC (by rw [show b1 = true from by simp [c_1]]; rfl) dX11_truth_9

set_option maxHeartbeats 4000000 in
set_option maxRecDepth 100000 in
theorem k_contains (l : Launch) (z k : Nat) (hz1 : z < 2 ^ 31) (hk : k < 32) : Pz l yX11_contains cX11_contains 2 (some .boolean) rm_X11_contains [.int (nI z), .int (nI k)] (some (.int (bI (z.testBit k)))) := by
  refine mk_pz (by decide) (Nat.le_of_ble_eq_true rfl) ?_
  intro p e s m args below meth c hC ls hl
  obtain ⟨hx, hb, hr, hts, hown, hml, hlk, hN⟩ := id hC
  have hl : lv_has ls 2 [(0, .int (nI z)), (1, .int (nI k))] := hl
  refine lv_iload_n hx hb dX11_contains_0 rfl (lv_at hl 0 rfl) ?_
  refine lv_iload_n hx hb dX11_contains_1 rfl (lv_at hl 1 rfl) ?_
  refine n_ishr hx hb (by omega) (by omega) dX11_contains_2 ?_
  have f_1 := shr_le z k
  refine lv_iconst (v := nI 1) hx hb dX11_contains_3 (by decide) ?_
  refine n_iand hx hb dX11_contains_4 ?_
  have f_2 : (z >>> k) &&& 1 ≤ 1 := Nat.and_le_right
  refine lv_iconst (v := nI 1) hx hb dX11_contains_5 (by decide) ?_
  refine n_icmp_ne (tgt := 13) hx hb (by omega) (by omega) dX11_contains_6 (by decide) (fun c_3 => ?_) (fun c_3 => ?_)
  · -- t 13
    refine lv_iconst (v := nI 0) hx hb dX11_contains_13 (by decide) ?_
    exact rz_bE hC (by first | rw [tb_1 (by assumption)]; rfl | rw [tb_0 (by assumption)]; rfl) dX11_contains_14
  · -- f 9
    refine lv_iconst (v := nI 1) hx hb dX11_contains_9 (by decide) ?_
    refine lv_goto (tgt := 14) hx hb dX11_contains_10 (by decide) ?_
    exact rz_bE hC (by first | rw [tb_1 (by assumption)]; rfl | rw [tb_0 (by assumption)]; rfl) dX11_contains_14

set_option maxHeartbeats 4000000 in
set_option maxRecDepth 100000 in
theorem k_pairOf (l : Launch) (pp qq : Nat) : Pz l yX11_pairOf cX11_pairOf 2 (some .int) rm_X11_pairOf [.int (nI pp), .int (nI qq)] (some (.int (nI (4 * pp + qq)))) := by
  refine mk_pz (by decide) (Nat.le_of_ble_eq_true rfl) ?_
  intro p e s m args below meth c hC ls hl
  obtain ⟨hx, hb, hr, hts, hown, hml, hlk, hN⟩ := id hC
  have hl : lv_has ls 2 [(0, .int (nI pp)), (1, .int (nI qq))] := hl
  refine lv_iconst (v := nI 4) hx hb dX11_pairOf_0 (by decide) ?_
  refine lv_iload_n hx hb dX11_pairOf_1 rfl (lv_at hl 0 rfl) ?_
  refine n_imul hx hb dX11_pairOf_2 ?_
  refine lv_iload_n hx hb dX11_pairOf_3 rfl (lv_at hl 1 rfl) ?_
  refine n_iadd hx hb dX11_pairOf_4 ?_
  exact rz_iE hC (rfl) dX11_pairOf_5

set_option maxHeartbeats 4000000 in
set_option maxRecDepth 100000 in
theorem k_ringerOf (l : Launch) (k : Nat) (hk : k < 2 ^ 31) : Pz l yX11_ringerOf cX11_ringerOf 1 (some .int) rm_X11_ringerOf [.int (nI k)] (some (.int (nI (k >>> 2)))) := by
  refine mk_pz (by decide) (Nat.le_of_ble_eq_true rfl) ?_
  intro p e s m args below meth c hC ls hl
  obtain ⟨hx, hb, hr, hts, hown, hml, hlk, hN⟩ := id hC
  have hl : lv_has ls 1 [(0, .int (nI k))] := hl
  refine lv_iload_n hx hb dX11_ringerOf_0 rfl (lv_at hl 0 rfl) ?_
  refine lv_iconst (v := nI 2) hx hb dX11_ringerOf_1 (by decide) ?_
  refine n_ishr hx hb (by omega) (by omega) dX11_ringerOf_2 ?_
  have f_1 := shr_le k 2
  exact rz_iE hC (rfl) dX11_ringerOf_3

set_option maxHeartbeats 4000000 in
set_option maxRecDepth 100000 in
theorem k_rungOf (l : Launch) (k : Nat) : Pz l yX11_rungOf cX11_rungOf 1 (some .int) rm_X11_rungOf [.int (nI k)] (some (.int (nI (k &&& 3)))) := by
  refine mk_pz (by decide) (Nat.le_of_ble_eq_true rfl) ?_
  intro p e s m args below meth c hC ls hl
  obtain ⟨hx, hb, hr, hts, hown, hml, hlk, hN⟩ := id hC
  have hl : lv_has ls 1 [(0, .int (nI k))] := hl
  refine lv_iload_n hx hb dX11_rungOf_0 rfl (lv_at hl 0 rfl) ?_
  refine lv_iconst (v := nI 3) hx hb dX11_rungOf_1 (by decide) ?_
  refine n_iand hx hb dX11_rungOf_2 ?_
  have f_1 : k &&& 3 ≤ 3 := Nat.and_le_right
  exact rz_iE hC (rfl) dX11_rungOf_3

set_option maxHeartbeats 4000000 in
set_option maxRecDepth 100000 in
theorem k_bits (l : Launch) (z : Nat) (h1 : z < 65536) : Pz l yJ6_bitCount_0f7a4 cJ6_bitCount_0f7a4 1 (some .int) rm_J6_bitCount_0f7a4 [.int (nI z)] (some (.int (nI (bitsN z 16)))) := by
  refine mk_pz (by decide) (Nat.le_of_ble_eq_true rfl) ?_
  intro p e s m args below meth c hC ls hl
  obtain ⟨hx, hb, hr, hts, hown, hml, hlk, hN⟩ := id hC
  have hl : lv_has ls 1 [(0, .int (nI z))] := hl
  refine lv_iload_n hx hb dJ6_bitCount_0f7a4_0 rfl (lv_at hl 0 rfl) ?_
  refine lv_iload_n hx hb dJ6_bitCount_0f7a4_1 rfl (lv_at hl 0 rfl) ?_
  refine lv_iconst (v := nI 1) hx hb dJ6_bitCount_0f7a4_2 (by decide) ?_
  refine n_iushr hx hb (by omega) (by omega) dJ6_bitCount_0f7a4_3 ?_
  have f_1 := shr_le z 1
  refine lv_ldcw (v := nI 1431655765) hx hb hown (hts _ kw_443) dJ6_bitCount_0f7a4_4 ?_
  refine n_iand hx hb dJ6_bitCount_0f7a4_7 ?_
  have f_2 : (z >>> 1) &&& 1431655765 ≤ 1431655765 := Nat.and_le_right
  have hle : z >>> 1 &&& 1431655765 ≤ z := Nat.le_trans Nat.and_le_left (shr_le z 1)
  refine n_isub hx hb (by omega) dJ6_bitCount_0f7a4_8 ?_
  refine lv_istore_n (lv' := [(0, .int (nI (z - ((z >>> 1) &&& 1431655765))))]) hx hb dJ6_bitCount_0f7a4_9 rfl hl (by decide) rfl (fun ls hl => ?_)
  refine lv_iload_n hx hb dJ6_bitCount_0f7a4_10 rfl (lv_at hl 0 rfl) ?_
  refine lv_ldcw (v := nI 858993459) hx hb hown (hts _ kw_444) dJ6_bitCount_0f7a4_11 ?_
  refine n_iand hx hb dJ6_bitCount_0f7a4_14 ?_
  have f_3 : (z - ((z >>> 1) &&& 1431655765)) &&& 858993459 ≤ 858993459 := Nat.and_le_right
  refine lv_iload_n hx hb dJ6_bitCount_0f7a4_15 rfl (lv_at hl 0 rfl) ?_
  refine lv_iconst (v := nI 2) hx hb dJ6_bitCount_0f7a4_16 (by decide) ?_
  refine n_iushr hx hb (by omega) (by omega) dJ6_bitCount_0f7a4_17 ?_
  have f_4 := shr_le (z - ((z >>> 1) &&& 1431655765)) 2
  refine lv_ldcw (v := nI 858993459) hx hb hown (hts _ kw_444) dJ6_bitCount_0f7a4_18 ?_
  refine n_iand hx hb dJ6_bitCount_0f7a4_21 ?_
  have f_5 : ((z - ((z >>> 1) &&& 1431655765)) >>> 2) &&& 858993459 ≤ 858993459 := Nat.and_le_right
  refine n_iadd hx hb dJ6_bitCount_0f7a4_22 ?_
  refine lv_istore_n (lv' := [(0, .int (nI (((z - ((z >>> 1) &&& 1431655765)) &&& 858993459) + (((z - ((z >>> 1) &&& 1431655765)) >>> 2) &&& 858993459))))]) hx hb dJ6_bitCount_0f7a4_23 rfl hl (by decide) rfl (fun ls hl => ?_)
  refine lv_iload_n hx hb dJ6_bitCount_0f7a4_24 rfl (lv_at hl 0 rfl) ?_
  refine lv_iload_n hx hb dJ6_bitCount_0f7a4_25 rfl (lv_at hl 0 rfl) ?_
  refine lv_iconst (v := nI 4) hx hb dJ6_bitCount_0f7a4_26 (by decide) ?_
  refine n_iushr hx hb (by omega) (by omega) dJ6_bitCount_0f7a4_27 ?_
  have f_6 := shr_le (((z - ((z >>> 1) &&& 1431655765)) &&& 858993459) + (((z - ((z >>> 1) &&& 1431655765)) >>> 2) &&& 858993459)) 4
  refine n_iadd hx hb dJ6_bitCount_0f7a4_28 ?_
  refine lv_ldcw (v := nI 252645135) hx hb hown (hts _ kw_445) dJ6_bitCount_0f7a4_29 ?_
  refine n_iand hx hb dJ6_bitCount_0f7a4_32 ?_
  have f_7 : ((((z - ((z >>> 1) &&& 1431655765)) &&& 858993459) + (((z - ((z >>> 1) &&& 1431655765)) >>> 2) &&& 858993459)) + ((((z - ((z >>> 1) &&& 1431655765)) &&& 858993459) + (((z - ((z >>> 1) &&& 1431655765)) >>> 2) &&& 858993459)) >>> 4)) &&& 252645135 ≤ 252645135 := Nat.and_le_right
  refine lv_istore_n (lv' := [(0, .int (nI (((((z - ((z >>> 1) &&& 1431655765)) &&& 858993459) + (((z - ((z >>> 1) &&& 1431655765)) >>> 2) &&& 858993459)) + ((((z - ((z >>> 1) &&& 1431655765)) &&& 858993459) + (((z - ((z >>> 1) &&& 1431655765)) >>> 2) &&& 858993459)) >>> 4)) &&& 252645135)))]) hx hb dJ6_bitCount_0f7a4_33 rfl hl (by decide) rfl (fun ls hl => ?_)
  refine lv_iload_n hx hb dJ6_bitCount_0f7a4_34 rfl (lv_at hl 0 rfl) ?_
  refine lv_iload_n hx hb dJ6_bitCount_0f7a4_35 rfl (lv_at hl 0 rfl) ?_
  refine lv_bipush (v := nI 8) hx hb dJ6_bitCount_0f7a4_36 (by decide) ?_
  refine n_iushr hx hb (by omega) (by omega) dJ6_bitCount_0f7a4_38 ?_
  have f_8 := shr_le (((((z - ((z >>> 1) &&& 1431655765)) &&& 858993459) + (((z - ((z >>> 1) &&& 1431655765)) >>> 2) &&& 858993459)) + ((((z - ((z >>> 1) &&& 1431655765)) &&& 858993459) + (((z - ((z >>> 1) &&& 1431655765)) >>> 2) &&& 858993459)) >>> 4)) &&& 252645135) 8
  refine n_iadd hx hb dJ6_bitCount_0f7a4_39 ?_
  refine lv_istore_n (lv' := [(0, .int (nI ((((((z - ((z >>> 1) &&& 1431655765)) &&& 858993459) + (((z - ((z >>> 1) &&& 1431655765)) >>> 2) &&& 858993459)) + ((((z - ((z >>> 1) &&& 1431655765)) &&& 858993459) + (((z - ((z >>> 1) &&& 1431655765)) >>> 2) &&& 858993459)) >>> 4)) &&& 252645135) + ((((((z - ((z >>> 1) &&& 1431655765)) &&& 858993459) + (((z - ((z >>> 1) &&& 1431655765)) >>> 2) &&& 858993459)) + ((((z - ((z >>> 1) &&& 1431655765)) &&& 858993459) + (((z - ((z >>> 1) &&& 1431655765)) >>> 2) &&& 858993459)) >>> 4)) &&& 252645135) >>> 8))))]) hx hb dJ6_bitCount_0f7a4_40 rfl hl (by decide) rfl (fun ls hl => ?_)
  refine lv_iload_n hx hb dJ6_bitCount_0f7a4_41 rfl (lv_at hl 0 rfl) ?_
  refine lv_iload_n hx hb dJ6_bitCount_0f7a4_42 rfl (lv_at hl 0 rfl) ?_
  refine lv_bipush (v := nI 16) hx hb dJ6_bitCount_0f7a4_43 (by decide) ?_
  refine n_iushr hx hb (by omega) (by omega) dJ6_bitCount_0f7a4_45 ?_
  have f_9 := shr_le ((((((z - ((z >>> 1) &&& 1431655765)) &&& 858993459) + (((z - ((z >>> 1) &&& 1431655765)) >>> 2) &&& 858993459)) + ((((z - ((z >>> 1) &&& 1431655765)) &&& 858993459) + (((z - ((z >>> 1) &&& 1431655765)) >>> 2) &&& 858993459)) >>> 4)) &&& 252645135) + ((((((z - ((z >>> 1) &&& 1431655765)) &&& 858993459) + (((z - ((z >>> 1) &&& 1431655765)) >>> 2) &&& 858993459)) + ((((z - ((z >>> 1) &&& 1431655765)) &&& 858993459) + (((z - ((z >>> 1) &&& 1431655765)) >>> 2) &&& 858993459)) >>> 4)) &&& 252645135) >>> 8)) 16
  refine n_iadd hx hb dJ6_bitCount_0f7a4_46 ?_
  refine lv_istore_n (lv' := [(0, .int (nI (((((((z - ((z >>> 1) &&& 1431655765)) &&& 858993459) + (((z - ((z >>> 1) &&& 1431655765)) >>> 2) &&& 858993459)) + ((((z - ((z >>> 1) &&& 1431655765)) &&& 858993459) + (((z - ((z >>> 1) &&& 1431655765)) >>> 2) &&& 858993459)) >>> 4)) &&& 252645135) + ((((((z - ((z >>> 1) &&& 1431655765)) &&& 858993459) + (((z - ((z >>> 1) &&& 1431655765)) >>> 2) &&& 858993459)) + ((((z - ((z >>> 1) &&& 1431655765)) &&& 858993459) + (((z - ((z >>> 1) &&& 1431655765)) >>> 2) &&& 858993459)) >>> 4)) &&& 252645135) >>> 8)) + (((((((z - ((z >>> 1) &&& 1431655765)) &&& 858993459) + (((z - ((z >>> 1) &&& 1431655765)) >>> 2) &&& 858993459)) + ((((z - ((z >>> 1) &&& 1431655765)) &&& 858993459) + (((z - ((z >>> 1) &&& 1431655765)) >>> 2) &&& 858993459)) >>> 4)) &&& 252645135) + ((((((z - ((z >>> 1) &&& 1431655765)) &&& 858993459) + (((z - ((z >>> 1) &&& 1431655765)) >>> 2) &&& 858993459)) + ((((z - ((z >>> 1) &&& 1431655765)) &&& 858993459) + (((z - ((z >>> 1) &&& 1431655765)) >>> 2) &&& 858993459)) >>> 4)) &&& 252645135) >>> 8)) >>> 16))))]) hx hb dJ6_bitCount_0f7a4_47 rfl hl (by decide) rfl (fun ls hl => ?_)
  refine lv_iload_n hx hb dJ6_bitCount_0f7a4_48 rfl (lv_at hl 0 rfl) ?_
  refine lv_bipush (v := nI 63) hx hb dJ6_bitCount_0f7a4_49 (by decide) ?_
  refine n_iand hx hb dJ6_bitCount_0f7a4_51 ?_
  have f_10 : (((((((z - ((z >>> 1) &&& 1431655765)) &&& 858993459) + (((z - ((z >>> 1) &&& 1431655765)) >>> 2) &&& 858993459)) + ((((z - ((z >>> 1) &&& 1431655765)) &&& 858993459) + (((z - ((z >>> 1) &&& 1431655765)) >>> 2) &&& 858993459)) >>> 4)) &&& 252645135) + ((((((z - ((z >>> 1) &&& 1431655765)) &&& 858993459) + (((z - ((z >>> 1) &&& 1431655765)) >>> 2) &&& 858993459)) + ((((z - ((z >>> 1) &&& 1431655765)) &&& 858993459) + (((z - ((z >>> 1) &&& 1431655765)) >>> 2) &&& 858993459)) >>> 4)) &&& 252645135) >>> 8)) + (((((((z - ((z >>> 1) &&& 1431655765)) &&& 858993459) + (((z - ((z >>> 1) &&& 1431655765)) >>> 2) &&& 858993459)) + ((((z - ((z >>> 1) &&& 1431655765)) &&& 858993459) + (((z - ((z >>> 1) &&& 1431655765)) >>> 2) &&& 858993459)) >>> 4)) &&& 252645135) + ((((((z - ((z >>> 1) &&& 1431655765)) &&& 858993459) + (((z - ((z >>> 1) &&& 1431655765)) >>> 2) &&& 858993459)) + ((((z - ((z >>> 1) &&& 1431655765)) &&& 858993459) + (((z - ((z >>> 1) &&& 1431655765)) >>> 2) &&& 858993459)) >>> 4)) &&& 252645135) >>> 8)) >>> 16)) &&& 63 ≤ 63 := Nat.and_le_right
  exact rz_iE hC (by rw [← bcN_eq h1]; rfl) dJ6_bitCount_0f7a4_52

set_option maxHeartbeats 4000000 in
set_option maxRecDepth 100000 in
theorem k_persons (l : Launch) (x0 : Nat) (h1 : x0 < 2 ^ 63) : Pz l yX5_persons cX5_persons 2 (some .int) rm_X5_persons [.long (lN x0)] (some (.int (nI (pN x0)))) := by
  refine mk_pz (by decide) (Nat.le_of_ble_eq_true rfl) ?_
  intro p e s m args below meth c hC ls hl
  obtain ⟨hx, hb, hr, hts, hown, hml, hlk, hN⟩ := id hC
  have hl : lv_has ls 2 [(0, .long (lN x0))] := hl
  refine lv_lload_n hx hb dX5_persons_0 rfl (lv_at hl 0 rfl) ?_
  refine lv_bipush (v := nI 40) hx hb dX5_persons_1 (by decide) ?_
  refine n_lshr hx hb (by omega) (by omega) dX5_persons_3 ?_
  have f_1 := shr_le x0 40
  refine n_l2i hx hb dX5_persons_4 ?_
  exact rz_iE hC (rfl) dX5_persons_5

set_option maxHeartbeats 4000000 in
set_option maxRecDepth 100000 in
theorem k_allSecrets (l : Launch) (x0 : Nat) (h1 : x0 < 2 ^ 63) : Pz l yX5_allSecrets cX5_allSecrets 2 (some .int) rm_X5_allSecrets [.long (lN x0)] (some (.int (nI (x0 &&& 65535)))) := by
  refine mk_pz (by decide) (Nat.le_of_ble_eq_true rfl) ?_
  intro p e s m args below meth c hC ls hl
  obtain ⟨hx, hb, hr, hts, hown, hml, hlk, hN⟩ := id hC
  have hl : lv_has ls 2 [(0, .long (lN x0))] := hl
  refine lv_lload_n hx hb dX5_allSecrets_0 rfl (lv_at hl 0 rfl) ?_
  refine n_l2i hx hb dX5_allSecrets_1 ?_
  refine lv_ldc (v := nI 65535) hx hb hown (hts _ kw_439) dX5_allSecrets_2 ?_
  refine n_iand hx hb dX5_allSecrets_4 ?_
  have f_1 : x0 &&& 65535 ≤ 65535 := Nat.and_le_right
  exact rz_iE hC (rfl) dX5_allSecrets_5

set_option maxHeartbeats 4000000 in
set_option maxRecDepth 100000 in
theorem k_allNumbers (l : Launch) (x0 : Nat) (h1 : x0 < 2 ^ 63) : Pz l yX5_allNumbers cX5_allNumbers 2 (some .int) rm_X5_allNumbers [.long (lN x0)] (some (.int (nI (x0 >>> 16 &&& 65535)))) := by
  refine mk_pz (by decide) (Nat.le_of_ble_eq_true rfl) ?_
  intro p e s m args below meth c hC ls hl
  obtain ⟨hx, hb, hr, hts, hown, hml, hlk, hN⟩ := id hC
  have hl : lv_has ls 2 [(0, .long (lN x0))] := hl
  refine lv_lload_n hx hb dX5_allNumbers_0 rfl (lv_at hl 0 rfl) ?_
  refine lv_bipush (v := nI 16) hx hb dX5_allNumbers_1 (by decide) ?_
  refine n_lshr hx hb (by omega) (by omega) dX5_allNumbers_3 ?_
  have f_1 := shr_le x0 16
  refine n_l2i hx hb dX5_allNumbers_4 ?_
  refine lv_ldc (v := nI 65535) hx hb hown (hts _ kw_439) dX5_allNumbers_5 ?_
  refine n_iand hx hb dX5_allNumbers_7 ?_
  have f_2 : (x0 >>> 16) &&& 65535 ≤ 65535 := Nat.and_le_right
  exact rz_iE hC (rfl) dX5_allNumbers_8

set_option maxHeartbeats 4000000 in
set_option maxRecDepth 100000 in
theorem k_partOf (l : Launch) (x0 pp : Nat) (h1 : x0 < 2 ^ 31) (h2 : pp < 4) : Pz l yX5_partOf cX5_partOf 2 (some .int) rm_X5_partOf [.int (nI x0), .int (nI pp)] (some (.int (nI (prt x0 pp)))) := by
  refine mk_pz (by decide) (Nat.le_of_ble_eq_true rfl) ?_
  intro p e s m args below meth c hC ls hl
  obtain ⟨hx, hb, hr, hts, hown, hml, hlk, hN⟩ := id hC
  have hl : lv_has ls 2 [(0, .int (nI x0)), (1, .int (nI pp))] := hl
  refine lv_iload_n hx hb dX5_partOf_0 rfl (lv_at hl 0 rfl) ?_
  refine lv_iconst (v := nI 4) hx hb dX5_partOf_1 (by decide) ?_
  refine lv_iload_n hx hb dX5_partOf_2 rfl (lv_at hl 1 rfl) ?_
  refine n_imul hx hb dX5_partOf_3 ?_
  refine n_ishr hx hb (by omega) (by omega) dX5_partOf_4 ?_
  have f_1 := shr_le x0 (4 * pp)
  refine lv_bipush (v := nI 15) hx hb dX5_partOf_5 (by decide) ?_
  refine n_iand hx hb dX5_partOf_7 ?_
  have f_2 : (x0 >>> (4 * pp)) &&& 15 ≤ 15 := Nat.and_le_right
  exact rz_iE hC (rfl) dX5_partOf_8

set_option maxHeartbeats 4000000 in
set_option maxRecDepth 100000 in
theorem k_secretsOf (l : Launch) (x0 pp : Nat) (h1 : x0 < 2 ^ 63) (h2 : pp < 4) : Pz l yX5_secretsOf cX5_secretsOf 3 (some .int) rm_X5_secretsOf [.long (lN x0), .int (nI pp)] (some (.int (nI (of4 x0 pp)))) := by
  refine mk_pz (by decide) (Nat.le_of_ble_eq_true rfl) ?_
  intro p e s m args below meth c hC ls hl
  obtain ⟨hx, hb, hr, hts, hown, hml, hlk, hN⟩ := id hC
  have hl : lv_has ls 3 [(0, .long (lN x0)), (2, .int (nI pp))] := hl
  refine lv_lload_n hx hb dX5_secretsOf_0 rfl (lv_at hl 0 rfl) ?_
  refine lv_iconst (v := nI 4) hx hb dX5_secretsOf_1 (by decide) ?_
  refine lv_iload_n hx hb dX5_secretsOf_2 rfl (lv_at hl 1 rfl) ?_
  refine n_imul hx hb dX5_secretsOf_3 ?_
  refine n_lshr hx hb (by omega) (by omega) dX5_secretsOf_4 ?_
  have f_1 := shr_le x0 (4 * pp)
  refine n_l2i hx hb dX5_secretsOf_5 ?_
  refine lv_bipush (v := nI 15) hx hb dX5_secretsOf_6 (by decide) ?_
  refine n_iand hx hb dX5_secretsOf_8 ?_
  have f_2 : (x0 >>> (4 * pp)) &&& 15 ≤ 15 := Nat.and_le_right
  exact rz_iE hC (rfl) dX5_secretsOf_9

set_option maxHeartbeats 4000000 in
set_option maxRecDepth 100000 in
theorem k_numbersOf (l : Launch) (x0 pp : Nat) (h1 : x0 < 2 ^ 63) (h2 : pp < 4) : Pz l yX5_numbersOf cX5_numbersOf 3 (some .int) rm_X5_numbersOf [.long (lN x0), .int (nI pp)] (some (.int (nI (nO x0 pp)))) := by
  refine mk_pz (by decide) (Nat.le_of_ble_eq_true rfl) ?_
  intro p e s m args below meth c hC ls hl
  obtain ⟨hx, hb, hr, hts, hown, hml, hlk, hN⟩ := id hC
  have hl : lv_has ls 3 [(0, .long (lN x0)), (2, .int (nI pp))] := hl
  refine lv_lload_n hx hb dX5_numbersOf_0 rfl (lv_at hl 0 rfl) ?_
  refine lv_bipush (v := nI 16) hx hb dX5_numbersOf_1 (by decide) ?_
  refine lv_iconst (v := nI 4) hx hb dX5_numbersOf_3 (by decide) ?_
  refine lv_iload_n hx hb dX5_numbersOf_4 rfl (lv_at hl 1 rfl) ?_
  refine n_imul hx hb dX5_numbersOf_5 ?_
  refine n_iadd hx hb dX5_numbersOf_6 ?_
  refine n_lshr hx hb (by omega) (by omega) dX5_numbersOf_7 ?_
  have f_1 := shr_le x0 (16 + (4 * pp))
  refine n_l2i hx hb dX5_numbersOf_8 ?_
  refine lv_bipush (v := nI 15) hx hb dX5_numbersOf_9 (by decide) ?_
  refine n_iand hx hb dX5_numbersOf_11 ?_
  have f_2 : (x0 >>> (16 + (4 * pp))) &&& 15 ≤ 15 := Nat.and_le_right
  exact rz_iE hC (rfl) dX5_numbersOf_12

set_option maxHeartbeats 4000000 in
set_option maxRecDepth 100000 in
theorem k_hasToken (l : Launch) (x0 rr pp : Nat) (h1 : x0 < 2 ^ 63) (h2 : rr < 4) (h3 : pp < 4) : Pz l yX5_hasToken cX5_hasToken 5 (some .boolean) rm_X5_hasToken [.long (lN x0), .int (nI rr), .int (nI pp)] (some (.int (bI (hT x0 rr pp)))) := by
  refine mk_pz (by decide) (Nat.le_of_ble_eq_true rfl) ?_
  intro p e s m args below meth c hC ls hl
  obtain ⟨hx, hb, hr, hts, hown, hml, hlk, hN⟩ := id hC
  have hl : lv_has ls 5 [(0, .long (lN x0)), (2, .int (nI rr)), (3, .int (nI pp))] := hl
  refine lv_iload_n hx hb dX5_hasToken_0 rfl (lv_at hl 1 rfl) ?_
  refine lv_iconst (v := nI 2) hx hb dX5_hasToken_1 (by decide) ?_
  refine n_icmp_ne (tgt := 10) hx hb (by omega) (by omega) dX5_hasToken_2 (by decide) (fun c_1 => ?_) (fun c_1 => ?_)
  · -- t 10
    refine lv_bipush (v := nI 36) hx hb dX5_hasToken_10 (by decide) ?_
    refine lv_istore (lv' := [(4, .int (nI 36)), (0, .long (lN x0)), (2, .int (nI rr)), (3, .int (nI pp))]) hx hb dX5_hasToken_12 hl (by decide) rfl (fun ls hl => ?_)
    refine lv_lload_n hx hb dX5_hasToken_14 rfl (lv_at hl 1 rfl) ?_
    refine lv_iload hx hb dX5_hasToken_15 (lv_at hl 0 rfl) ?_
    refine lv_iload_n hx hb dX5_hasToken_17 rfl (lv_at hl 3 rfl) ?_
    refine n_iadd hx hb dX5_hasToken_18 ?_
    refine n_lshr hx hb (by omega) (by omega) dX5_hasToken_19 ?_
    have f_2 := shr_le x0 (36 + pp)
    refine lv_lconst (v := lN 1) hx hb dX5_hasToken_20 (by decide) ?_
    refine n_land hx hb dX5_hasToken_21 ?_
    have f_3 : (x0 >>> (36 + pp)) &&& 1 ≤ 1 := Nat.and_le_right
    refine lv_lconst (v := lN 1) hx hb dX5_hasToken_22 (by decide) ?_
    refine n_lcmp_ne (tgt := 31) hx hb (by omega) (by omega) dX5_hasToken_23 dX5_hasToken_24 (by decide) (fun c_4 => ?_) (fun c_4 => ?_)
    · -- t 31
      refine lv_iconst (v := nI 0) hx hb dX5_hasToken_31 (by decide) ?_
      exact rz_bE hC (by rw [show hT x0 rr pp = false from by unfold hT; first | rw [if_pos (by assumption)]; exact tb_0 (by assumption) | rw [if_neg (by assumption)]; exact tb_0 (by assumption)]; rfl) dX5_hasToken_32
    · -- f 27
      refine lv_iconst (v := nI 1) hx hb dX5_hasToken_27 (by decide) ?_
      refine lv_goto (tgt := 32) hx hb dX5_hasToken_28 (by decide) ?_
      exact rz_bE hC (by rw [show hT x0 rr pp = true from by unfold hT; first | rw [if_pos (by assumption)]; exact tb_1 (by assumption) | rw [if_neg (by assumption)]; exact tb_1 (by assumption)]; rfl) dX5_hasToken_32
  · -- f 5
    refine lv_bipush (v := nI 32) hx hb dX5_hasToken_5 (by decide) ?_
    refine lv_goto (tgt := 12) hx hb dX5_hasToken_7 (by decide) ?_
    refine lv_istore (lv' := [(4, .int (nI 32)), (0, .long (lN x0)), (2, .int (nI rr)), (3, .int (nI pp))]) hx hb dX5_hasToken_12 hl (by decide) rfl (fun ls hl => ?_)
    refine lv_lload_n hx hb dX5_hasToken_14 rfl (lv_at hl 1 rfl) ?_
    refine lv_iload hx hb dX5_hasToken_15 (lv_at hl 0 rfl) ?_
    refine lv_iload_n hx hb dX5_hasToken_17 rfl (lv_at hl 3 rfl) ?_
    refine n_iadd hx hb dX5_hasToken_18 ?_
    refine n_lshr hx hb (by omega) (by omega) dX5_hasToken_19 ?_
    have f_5 := shr_le x0 (32 + pp)
    refine lv_lconst (v := lN 1) hx hb dX5_hasToken_20 (by decide) ?_
    refine n_land hx hb dX5_hasToken_21 ?_
    have f_6 : (x0 >>> (32 + pp)) &&& 1 ≤ 1 := Nat.and_le_right
    refine lv_lconst (v := lN 1) hx hb dX5_hasToken_22 (by decide) ?_
    refine n_lcmp_ne (tgt := 31) hx hb (by omega) (by omega) dX5_hasToken_23 dX5_hasToken_24 (by decide) (fun c_7 => ?_) (fun c_7 => ?_)
    · -- t 31
      refine lv_iconst (v := nI 0) hx hb dX5_hasToken_31 (by decide) ?_
      exact rz_bE hC (by rw [show hT x0 rr pp = false from by unfold hT; first | rw [if_pos (by assumption)]; exact tb_0 (by assumption) | rw [if_neg (by assumption)]; exact tb_0 (by assumption)]; rfl) dX5_hasToken_32
    · -- f 27
      refine lv_iconst (v := nI 1) hx hb dX5_hasToken_27 (by decide) ?_
      refine lv_goto (tgt := 32) hx hb dX5_hasToken_28 (by decide) ?_
      exact rz_bE hC (by rw [show hT x0 rr pp = true from by unfold hT; first | rw [if_pos (by assumption)]; exact tb_1 (by assumption) | rw [if_neg (by assumption)]; exact tb_1 (by assumption)]; rfl) dX5_hasToken_32

set_option maxHeartbeats 4000000 in
set_option maxRecDepth 100000 in
theorem k_everySecret (l : Launch) (x0 : Nat) (h1 : x0 < 2 ^ 63) (h4 : pN x0 ≤ 4) : Pz l yX5_everySecret cX5_everySecret 2 (some .int) rm_X5_everySecret [.long (lN x0)] (some (.int (nI (1 <<< pN x0 - 1)))) := by
  refine mk_pz (by decide) (Nat.le_of_ble_eq_true rfl) ?_
  intro p e s m args below meth c hC ls hl
  obtain ⟨hx, hb, hr, hts, hown, hml, hlk, hN⟩ := id hC
  have hl : lv_has ls 2 [(0, .long (lN x0))] := hl
  refine lv_iconst (v := nI 1) hx hb dX5_everySecret_0 (by decide) ?_
  refine lv_lload_n hx hb dX5_everySecret_1 rfl (lv_at hl 0 rfl) ?_
  refine cS_p (rest := [.int (nI 1)]) hC (k_persons l x0 (by omega)) kw_250 sy_X5_persons ⟨Nat.le_of_ble_eq_true rfl, Nat.le_of_ble_eq_true rfl⟩ ⟨rfl, rfl⟩ rfl hl.1 rfl (Nat.le_of_ble_eq_true rfl) dX5_everySecret_2 ⟨Nat.le_of_ble_eq_true rfl, Nat.le_of_ble_eq_true rfl⟩ ?_
  refine n_ishl hx hb (by omega) dX5_everySecret_5 ?_
  refine lv_iconst (v := nI 1) hx hb dX5_everySecret_6 (by decide) ?_
  have hle := one_le_shl (pN x0)
  refine n_isub hx hb (by omega) dX5_everySecret_7 ?_
  exact rz_iE hC (rfl) dX5_everySecret_8

set_option maxHeartbeats 4000000 in
set_option maxRecDepth 100000 in
theorem k_isExpert (l : Launch) (x0 pp : Nat) (h1 : x0 < 2 ^ 63) (h4 : pN x0 ≤ 4) (h2 : pp < 4) : Pz l yX5_isExpert cX5_isExpert 3 (some .boolean) rm_X5_isExpert [.long (lN x0), .int (nI pp)] (some (.int (bI (decide (of4 x0 pp = 1 <<< pN x0 - 1))))) := by
  refine mk_pz (by decide) (Nat.le_of_ble_eq_true rfl) ?_
  intro p e s m args below meth c hC ls hl
  obtain ⟨hx, hb, hr, hts, hown, hml, hlk, hN⟩ := id hC
  have hl : lv_has ls 3 [(0, .long (lN x0)), (2, .int (nI pp))] := hl
  refine lv_lload_n hx hb dX5_isExpert_0 rfl (lv_at hl 0 rfl) ?_
  refine lv_iload_n hx hb dX5_isExpert_1 rfl (lv_at hl 1 rfl) ?_
  refine cS_p (rest := []) hC (k_secretsOf l x0 pp (by omega) (by omega)) kw_246 sy_X5_secretsOf ⟨Nat.le_of_ble_eq_true rfl, Nat.le_of_ble_eq_true rfl⟩ ⟨rfl, rfl⟩ rfl hl.1 rfl (Nat.le_of_ble_eq_true rfl) dX5_isExpert_2 ⟨Nat.le_of_ble_eq_true rfl, Nat.le_of_ble_eq_true rfl⟩ ?_
  have f_1 := of4_lt x0 pp
  refine lv_lload_n hx hb dX5_isExpert_5 rfl (lv_at hl 0 rfl) ?_
  refine cS_p (rest := [.int (nI (of4 x0 pp))]) hC (k_everySecret l x0 (by omega) (by omega)) kw_247 sy_X5_everySecret ⟨Nat.le_of_ble_eq_true rfl, Nat.le_of_ble_eq_true rfl⟩ ⟨rfl, rfl⟩ rfl hl.1 rfl (Nat.le_of_ble_eq_true rfl) dX5_isExpert_6 ⟨Nat.le_of_ble_eq_true rfl, Nat.le_of_ble_eq_true rfl⟩ ?_
  have f_2 := eS_lt (by omega : pN x0 ≤ 4)
  refine n_icmp_ne (tgt := 16) hx hb (by omega) (by omega) dX5_isExpert_9 (by decide) (fun c_3 => ?_) (fun c_3 => ?_)
  · -- t 16
    refine lv_iconst (v := nI 0) hx hb dX5_isExpert_16 (by decide) ?_
    exact rz_bE hC (by rw [show (decide (of4 x0 pp = 1 <<< pN x0 - 1)) = false from by simp [c_3]]; rfl) dX5_isExpert_17
  · -- f 12
    refine lv_iconst (v := nI 1) hx hb dX5_isExpert_12 (by decide) ?_
    refine lv_goto (tgt := 17) hx hb dX5_isExpert_13 (by decide) ?_
    exact rz_bE hC (by rw [show (decide (of4 x0 pp = 1 <<< pN x0 - 1)) = true from by simp [c_3]]; rfl) dX5_isExpert_17

set_option maxHeartbeats 4000000 in
set_option maxRecDepth 100000 in
theorem k_experts (l : Launch) (x0 : Nat) (h1 : x0 < 2 ^ 63) (h4 : pN x0 ≤ 4) : Pz l yX5_experts cX5_experts 5 (some .int) rm_X5_experts [.long (lN x0)] (some (.int (nI (exK x0 (pN x0))))) := by
  refine mk_pz (by decide) (Nat.le_of_ble_eq_true rfl) ?_
  intro p e s m args below meth c hC ls hl
  obtain ⟨hx, hb, hr, hts, hown, hml, hlk, hN⟩ := id hC
  have hl : lv_has ls 5 [(0, .long (lN x0))] := hl
  refine lv_lload_n hx hb dX5_experts_0 rfl (lv_at hl 0 rfl) ?_
  refine cS_p (rest := []) hC (k_persons l x0 (by omega)) kw_250 sy_X5_persons ⟨Nat.le_of_ble_eq_true rfl, Nat.le_of_ble_eq_true rfl⟩ ⟨rfl, rfl⟩ rfl hl.1 rfl (Nat.le_of_ble_eq_true rfl) dX5_experts_1 ⟨Nat.le_of_ble_eq_true rfl, Nat.le_of_ble_eq_true rfl⟩ ?_
  refine lv_istore_n (lv' := [(2, .int (nI (pN x0))), (0, .long (lN x0))]) hx hb dX5_experts_4 rfl hl (by decide) rfl (fun ls hl => ?_)
  refine lv_iconst (v := nI 0) hx hb dX5_experts_5 (by decide) ?_
  refine lv_istore_n (lv' := [(3, .int (nI 0)), (2, .int (nI (pN x0))), (0, .long (lN x0))]) hx hb dX5_experts_6 rfl hl (by decide) rfl (fun ls hl => ?_)
  refine lv_iconst (v := nI 0) hx hb dX5_experts_7 (by decide) ?_
  refine lv_istore (lv' := [(4, .int (nI 0)), (3, .int (nI 0)), (2, .int (nI (pN x0))), (0, .long (lN x0))]) hx hb dX5_experts_8 hl (by decide) rfl (fun ls hl => ?_)
  have lp_1 : ∀ (n_lp_1 : Nat) (k : Nat) (hk : k ≤ pN x0), pN x0 - k < n_lp_1 → ∀ (ls : Array Slot), lv_has ls 5 [(0, .long (lN x0)), (2, .int (nI (pN x0))), (3, .int (nI (exK x0 k))), (4, .int (nI k))] → W p l e rm_X5_experts s m args below meth c s.heap [] 0 0 (MQ below (pz_Q (some (.int (nI (exK x0 (pN x0)))))) args s 0 0 pz_F) (F0 m 10 ls []) := by
    intro n_lp_1
    induction n_lp_1 with
    | zero => intro k hk; intro hm_lp_1; exact absurd hm_lp_1 (Nat.not_lt_zero _)
    | succ n_lp_1 ih_lp_1 =>
      intro k hk hm_lp_1 ls hl
      refine lv_iload hx hb dX5_experts_10 (lv_at hl 3 rfl) ?_
      refine lv_iload_n hx hb dX5_experts_12 rfl (lv_at hl 1 rfl) ?_
      refine n_icmp_ge (tgt := 34) hx hb (by omega) (by omega) dX5_experts_13 (by decide) (fun c_2 => ?_) (fun c_2 => ?_)
      · -- t 34
        refine lv_iload_n hx hb dX5_experts_34 rfl (lv_at hl 2 rfl) ?_
        exact rz_iE hC (by rw [show k = pN x0 by omega]) dX5_experts_35
      · -- f 16
        refine lv_lload_n hx hb dX5_experts_16 rfl (lv_at hl 0 rfl) ?_
        refine lv_iload hx hb dX5_experts_17 (lv_at hl 3 rfl) ?_
        refine cS_p (rest := []) hC (k_isExpert l x0 k (by omega) (by omega) (by omega)) kw_731 sy_X5_isExpert ⟨Nat.le_of_ble_eq_true rfl, Nat.le_of_ble_eq_true rfl⟩ ⟨rfl, rfl⟩ rfl hl.1 rfl (Nat.le_of_ble_eq_true rfl) dX5_experts_19 ⟨Nat.le_of_ble_eq_true rfl, Nat.le_of_ble_eq_true rfl⟩ ?_
        refine b_if_eq (tgt := 28) hx hb dX5_experts_22 (by decide) (fun c_3 => ?_) (fun c_3 => ?_)
        · -- t 28
          refine lv_iinc (v := nI (k + 1)) (lv' := [(4, .int (nI (k + 1))), (0, .long (lN x0)), (2, .int (nI (pN x0))), (3, .int (nI (exK x0 k)))]) hx hb dX5_experts_28 hl (k := 3) rfl (ii_1 _) (by decide) rfl (fun ls hl => ?_)
          refine lv_goto (tgt := 10) hx hb dX5_experts_31 (by decide) ?_
          exact ih_lp_1 (k + 1) (by omega) (by omega) ls (by have h9 : lv_has ls 5 [(0, .long (lN x0)), (2, .int (nI (pN x0))), (3, .int (nI (exK x0 k))), (4, .int (nI (k + 1)))] := lv_sub hl [1, 2, 3, 0] rfl; simp only [exK]; first | rw [if_neg (of_decide_eq_false c_3)]; exact h9 | rw [if_pos (of_decide_eq_true c_3)]; exact h9)
        · -- f 25
          refine lv_iinc (v := nI ((exK x0 k) + 1)) (lv' := [(3, .int (nI ((exK x0 k) + 1))), (0, .long (lN x0)), (2, .int (nI (pN x0))), (4, .int (nI k))]) hx hb dX5_experts_25 hl (k := 2) rfl (ii_1 _) (by decide) rfl (fun ls hl => ?_)
          refine lv_iinc (v := nI (k + 1)) (lv' := [(4, .int (nI (k + 1))), (3, .int (nI ((exK x0 k) + 1))), (0, .long (lN x0)), (2, .int (nI (pN x0)))]) hx hb dX5_experts_28 hl (k := 3) rfl (ii_1 _) (by decide) rfl (fun ls hl => ?_)
          refine lv_goto (tgt := 10) hx hb dX5_experts_31 (by decide) ?_
          exact ih_lp_1 (k + 1) (by omega) (by omega) ls (by have h9 : lv_has ls 5 [(0, .long (lN x0)), (2, .int (nI (pN x0))), (3, .int (nI ((exK x0 k) + 1))), (4, .int (nI (k + 1)))] := lv_sub hl [2, 3, 1, 0] rfl; simp only [exK]; first | rw [if_neg (of_decide_eq_false c_3)]; exact h9 | rw [if_pos (of_decide_eq_true c_3)]; exact h9)
  exact lp_1 _ 0 (Nat.zero_le _) (Nat.lt_succ_self _) ls (lv_sub hl [3, 2, 1, 0] rfl)

set_option maxHeartbeats 4000000 in
set_option maxRecDepth 100000 in
theorem k_allAreExperts (l : Launch) (x0 : Nat) (h1 : x0 < 2 ^ 63) (h4 : pN x0 ≤ 4) : Pz l yX5_allAreExperts cX5_allAreExperts 3 (some .boolean) rm_X5_allAreExperts [.long (lN x0)] (some (.int (bI (decide (bitsN (x0 &&& 65535) 16 = pN x0 * pN x0))))) := by
  refine mk_pz (by decide) (Nat.le_of_ble_eq_true rfl) ?_
  intro p e s m args below meth c hC ls hl
  obtain ⟨hx, hb, hr, hts, hown, hml, hlk, hN⟩ := id hC
  have hl : lv_has ls 3 [(0, .long (lN x0))] := hl
  have hsq : pN x0 * pN x0 ≤ 4 * 4 := Nat.mul_le_mul h4 h4
  refine lv_lload_n hx hb dX5_allAreExperts_0 rfl (lv_at hl 0 rfl) ?_
  refine cS_p (rest := []) hC (k_persons l x0 (by omega)) kw_250 sy_X5_persons ⟨Nat.le_of_ble_eq_true rfl, Nat.le_of_ble_eq_true rfl⟩ ⟨rfl, rfl⟩ rfl hl.1 rfl (Nat.le_of_ble_eq_true rfl) dX5_allAreExperts_1 ⟨Nat.le_of_ble_eq_true rfl, Nat.le_of_ble_eq_true rfl⟩ ?_
  refine lv_istore_n (lv' := [(2, .int (nI (pN x0))), (0, .long (lN x0))]) hx hb dX5_allAreExperts_4 rfl hl (by decide) rfl (fun ls hl => ?_)
  refine lv_lload_n hx hb dX5_allAreExperts_5 rfl (lv_at hl 1 rfl) ?_
  refine cS_p (rest := []) hC (k_allSecrets l x0 (by omega)) kw_436 sy_X5_allSecrets ⟨Nat.le_of_ble_eq_true rfl, Nat.le_of_ble_eq_true rfl⟩ ⟨rfl, rfl⟩ rfl hl.1 rfl (Nat.le_of_ble_eq_true rfl) dX5_allAreExperts_6 ⟨Nat.le_of_ble_eq_true rfl, Nat.le_of_ble_eq_true rfl⟩ ?_
  have f_1 := (Nat.and_le_right : x0 &&& 65535 ≤ 65535)
  refine cS_p (rest := []) hC (k_bits l (x0 &&& 65535) (by omega)) kw_440 sy_J6_bitCount_0f7a4 ⟨Nat.le_of_ble_eq_true rfl, Nat.le_of_ble_eq_true rfl⟩ ⟨rfl, rfl⟩ rfl hl.1 rfl (Nat.le_of_ble_eq_true rfl) dX5_allAreExperts_9 ⟨Nat.le_of_ble_eq_true rfl, Nat.le_of_ble_eq_true rfl⟩ ?_
  have f_2 := bitsN_le (x0 &&& 65535) 16
  refine lv_iload_n hx hb dX5_allAreExperts_12 rfl (lv_at hl 0 rfl) ?_
  refine lv_iload_n hx hb dX5_allAreExperts_13 rfl (lv_at hl 0 rfl) ?_
  refine n_imul hx hb dX5_allAreExperts_14 ?_
  refine n_icmp_ne (tgt := 22) hx hb (by omega) (by omega) dX5_allAreExperts_15 (by decide) (fun c_3 => ?_) (fun c_3 => ?_)
  · -- t 22
    refine lv_iconst (v := nI 0) hx hb dX5_allAreExperts_22 (by decide) ?_
    exact rz_bE hC (by rw [show (decide (bitsN (x0 &&& 65535) 16 = pN x0 * pN x0)) = false from by simp [c_3]]; rfl) dX5_allAreExperts_23
  · -- f 18
    refine lv_iconst (v := nI 1) hx hb dX5_allAreExperts_18 (by decide) ?_
    refine lv_goto (tgt := 23) hx hb dX5_allAreExperts_19 (by decide) ?_
    exact rz_bE hC (by rw [show (decide (bitsN (x0 &&& 65535) 16 = pN x0 * pN x0)) = true from by simp [c_3]]; rfl) dX5_allAreExperts_23

set_option maxHeartbeats 4000000 in
set_option maxRecDepth 100000 in
theorem k_whomMay (l : Launch) (x0 rr pp : Nat) (h1 : x0 < 2 ^ 63) (h4 : pN x0 ≤ 4) (h2 : rr < 4) (h3 : pp < 4) : Pz l yX5_whomMay cX5_whomMay 9 (some .int) rm_X5_whomMay [.long (lN x0), .int (nI rr), .int (nI pp)] (some (.int (nI (whM x0 rr pp)))) := by
  refine mk_pz (by decide) (Nat.le_of_ble_eq_true rfl) ?_
  intro p e s m args below meth c hC ls hl
  obtain ⟨hx, hb, hr, hts, hown, hml, hlk, hN⟩ := id hC
  have hl : lv_has ls 9 [(0, .long (lN x0)), (2, .int (nI rr)), (3, .int (nI pp))] := hl
  refine lv_iload_n hx hb dX5_whomMay_0 rfl (lv_at hl 1 rfl) ?_
  refine lv_iconst (v := nI 2) hx hb dX5_whomMay_1 (by decide) ?_
  refine n_icmp_eq (tgt := 10) hx hb (by omega) (by omega) dX5_whomMay_2 (by decide) (fun c_1 => ?_) (fun c_1 => ?_)
  · -- t 10
    refine lv_lload_n hx hb dX5_whomMay_10 rfl (lv_at hl 0 rfl) ?_
    refine lv_iload_n hx hb dX5_whomMay_11 rfl (lv_at hl 1 rfl) ?_
    refine lv_iload_n hx hb dX5_whomMay_12 rfl (lv_at hl 2 rfl) ?_
    refine cS_p (rest := []) hC (k_hasToken l x0 rr pp (by omega) (by omega) (by omega)) kw_371 sy_X5_hasToken ⟨Nat.le_of_ble_eq_true rfl, Nat.le_of_ble_eq_true rfl⟩ ⟨rfl, rfl⟩ rfl hl.1 rfl (Nat.le_of_ble_eq_true rfl) dX5_whomMay_13 ⟨Nat.le_of_ble_eq_true rfl, Nat.le_of_ble_eq_true rfl⟩ ?_
    refine b_if_ne (tgt := 21) hx hb dX5_whomMay_16 (by decide) (fun c_2 => ?_) (fun c_2 => ?_)
    · -- t 21
      refine lv_lload_n hx hb dX5_whomMay_21 rfl (lv_at hl 0 rfl) ?_
      refine lv_iload_n hx hb dX5_whomMay_22 rfl (lv_at hl 2 rfl) ?_
      refine cS_p (rest := []) hC (k_secretsOf l x0 pp (by omega) (by omega)) kw_246 sy_X5_secretsOf ⟨Nat.le_of_ble_eq_true rfl, Nat.le_of_ble_eq_true rfl⟩ ⟨rfl, rfl⟩ rfl hl.1 rfl (Nat.le_of_ble_eq_true rfl) dX5_whomMay_23 ⟨Nat.le_of_ble_eq_true rfl, Nat.le_of_ble_eq_true rfl⟩ ?_
      have f_3 := of4_lt x0 pp
      refine lv_istore (lv' := [(4, .int (nI (of4 x0 pp))), (0, .long (lN x0)), (2, .int (nI rr)), (3, .int (nI pp))]) hx hb dX5_whomMay_26 hl (by decide) rfl (fun ls hl => ?_)
      refine lv_lload_n hx hb dX5_whomMay_28 rfl (lv_at hl 1 rfl) ?_
      refine lv_iload_n hx hb dX5_whomMay_29 rfl (lv_at hl 3 rfl) ?_
      refine cS_p (rest := []) hC (k_numbersOf l x0 pp (by omega) (by omega)) kw_271 sy_X5_numbersOf ⟨Nat.le_of_ble_eq_true rfl, Nat.le_of_ble_eq_true rfl⟩ ⟨rfl, rfl⟩ rfl hl.1 rfl (Nat.le_of_ble_eq_true rfl) dX5_whomMay_30 ⟨Nat.le_of_ble_eq_true rfl, Nat.le_of_ble_eq_true rfl⟩ ?_
      have f_4 := nO_lt x0 pp
      refine lv_iconst (v := nI 1) hx hb dX5_whomMay_33 (by decide) ?_
      refine lv_iload_n hx hb dX5_whomMay_34 rfl (lv_at hl 3 rfl) ?_
      refine n_ishl hx hb (by omega) dX5_whomMay_35 ?_
      refine lv_iconst (v := -1) hx hb dX5_whomMay_36 (by decide) ?_
      refine n_ixor (y := 4294967295) hx hb dX5_whomMay_37 ?_
      refine n_iand hx hb dX5_whomMay_38 ?_
      refine lv_istore (lv' := [(5, .int (nI ((nO x0 pp) &&& ((1 <<< pp) ^^^ 4294967295)))), (4, .int (nI (of4 x0 pp))), (0, .long (lN x0)), (2, .int (nI rr)), (3, .int (nI pp))]) hx hb dX5_whomMay_39 hl (by decide) rfl (fun ls hl => ?_)
      have hot : nO x0 pp &&& (1 <<< pp ^^^ 4294967295) ≤ nO x0 pp := Nat.and_le_left
      refine lv_iload_n hx hb dX5_whomMay_41 rfl (lv_at hl 3 rfl) ?_
      refine lv_iconst (v := nI 1) hx hb dX5_whomMay_42 (by decide) ?_
      refine n_icmp_ne (tgt := 54) hx hb (by omega) (by omega) dX5_whomMay_43 (by decide) (fun c_5 => ?_) (fun c_5 => ?_)
      · -- t 54
        refine lv_lload_n hx hb dX5_whomMay_54 rfl (lv_at hl 2 rfl) ?_
        refine cS_p (rest := []) hC (k_persons l x0 (by omega)) kw_250 sy_X5_persons ⟨Nat.le_of_ble_eq_true rfl, Nat.le_of_ble_eq_true rfl⟩ ⟨rfl, rfl⟩ rfl hl.1 rfl (Nat.le_of_ble_eq_true rfl) dX5_whomMay_55 ⟨Nat.le_of_ble_eq_true rfl, Nat.le_of_ble_eq_true rfl⟩ ?_
        refine lv_istore (lv' := [(6, .int (nI (pN x0))), (5, .int (nI ((nO x0 pp) &&& ((1 <<< pp) ^^^ 4294967295)))), (4, .int (nI (of4 x0 pp))), (0, .long (lN x0)), (2, .int (nI rr)), (3, .int (nI pp))]) hx hb dX5_whomMay_58 hl (by decide) rfl (fun ls hl => ?_)
        refine lv_iconst (v := nI 0) hx hb dX5_whomMay_60 (by decide) ?_
        refine lv_istore (lv' := [(7, .int (nI 0)), (6, .int (nI (pN x0))), (5, .int (nI ((nO x0 pp) &&& ((1 <<< pp) ^^^ 4294967295)))), (4, .int (nI (of4 x0 pp))), (0, .long (lN x0)), (2, .int (nI rr)), (3, .int (nI pp))]) hx hb dX5_whomMay_61 hl (by decide) rfl (fun ls hl => ?_)
        refine lv_iconst (v := nI 0) hx hb dX5_whomMay_63 (by decide) ?_
        refine lv_istore (lv' := [(8, .int (nI 0)), (7, .int (nI 0)), (6, .int (nI (pN x0))), (5, .int (nI ((nO x0 pp) &&& ((1 <<< pp) ^^^ 4294967295)))), (4, .int (nI (of4 x0 pp))), (0, .long (lN x0)), (2, .int (nI rr)), (3, .int (nI pp))]) hx hb dX5_whomMay_64 hl (by decide) rfl (fun ls hl => ?_)
        have lp_6 : ∀ (n_lp_6 : Nat) (k : Nat) (hk : k ≤ pN x0), pN x0 - k < n_lp_6 → ∀ (ls : Array Slot), lv_has ls 9 [(0, .long (lN x0)), (2, .int (nI rr)), (3, .int (nI pp)), (4, .int (nI (of4 x0 pp))), (5, .int (nI (nO x0 pp &&& (1 <<< pp ^^^ 4294967295)))), (6, .int (nI (pN x0))), (7, .int (nI (wmS x0 (nO x0 pp &&& (1 <<< pp ^^^ 4294967295)) (of4 x0 pp) k))), (8, .int (nI k))] → W p l e rm_X5_whomMay s m args below meth c s.heap [] 0 0 (MQ below (pz_Q (some (.int (nI (whM x0 rr pp))))) args s 0 0 pz_F) (F0 m 66 ls []) := by
          intro n_lp_6
          induction n_lp_6 with
          | zero => intro k hk; intro hm_lp_6; exact absurd hm_lp_6 (Nat.not_lt_zero _)
          | succ n_lp_6 ih_lp_6 =>
            intro k hk hm_lp_6 ls hl
            refine lv_iload hx hb dX5_whomMay_66 (lv_at hl 7 rfl) ?_
            refine lv_iload hx hb dX5_whomMay_68 (lv_at hl 5 rfl) ?_
            refine n_icmp_ge (tgt := 109) hx hb (by omega) (by omega) dX5_whomMay_70 (by decide) (fun c_7 => ?_) (fun c_7 => ?_)
            · -- t 109
              refine lv_iload hx hb dX5_whomMay_109 (lv_at hl 6 rfl) ?_
              exact rz_iE hC (congrArg nI (by rw [show k = pN x0 by omega]; unfold whM; rw [if_neg (fun q9 => by have q8 := q9.2; have q7 := q9.1; first | exact absurd q7 (by omega) | (rw [c_1] at q8; exact absurd q8 (by decide)) | (rw [c_2] at q8; exact absurd q8 (by decide)) | (rw [c_5] at q8; exact absurd q8 (by decide)) | (rw [c_7] at q8; exact absurd q8 (by decide))), if_neg (by assumption)])) dX5_whomMay_111
            · -- f 73
              refine lv_iload hx hb dX5_whomMay_73 (lv_at hl 4 rfl) ?_
              refine lv_iload hx hb dX5_whomMay_75 (lv_at hl 7 rfl) ?_
              refine cN_p (rest := []) hC (k_contains l (nO x0 pp &&& (1 <<< pp ^^^ 4294967295)) k (by omega) (by omega)) hN.2.2.1 sy_X11_contains ⟨Nat.le_of_ble_eq_true rfl, Nat.le_of_ble_eq_true rfl⟩ ⟨rfl, rfl⟩ rfl hl.1 rfl (Nat.le_of_ble_eq_true rfl) dX5_whomMay_77 ⟨Nat.le_of_ble_eq_true rfl, Nat.le_of_ble_eq_true rfl⟩ ?_
              refine b_if_eq (tgt := 103) hx hb dX5_whomMay_80 (by decide) (fun c_8 => ?_) (fun c_8 => ?_)
              · -- t 103
                refine lv_iinc (v := nI (k + 1)) (lv' := [(8, .int (nI (k + 1))), (0, .long (lN x0)), (2, .int (nI rr)), (3, .int (nI pp)), (4, .int (nI (of4 x0 pp))), (5, .int (nI (nO x0 pp &&& (1 <<< pp ^^^ 4294967295)))), (6, .int (nI (pN x0))), (7, .int (nI (wmS x0 (nO x0 pp &&& (1 <<< pp ^^^ 4294967295)) (of4 x0 pp) k)))]) hx hb dX5_whomMay_103 hl (k := 7) rfl (ii_1 _) (by decide) rfl (fun ls hl => ?_)
                refine lv_goto (tgt := 66) hx hb dX5_whomMay_106 (by decide) ?_
                exact ih_lp_6 (k + 1) (by omega) (by omega) ls (by have h9 : lv_has ls 9 [(0, .long (lN x0)), (2, .int (nI rr)), (3, .int (nI pp)), (4, .int (nI (of4 x0 pp))), (5, .int (nI (nO x0 pp &&& (1 <<< pp ^^^ 4294967295)))), (6, .int (nI (pN x0))), (7, .int (nI (wmS x0 (nO x0 pp &&& (1 <<< pp ^^^ 4294967295)) (of4 x0 pp) k))), (8, .int (nI (k + 1)))] := lv_sub hl [1, 2, 3, 4, 5, 6, 7, 0] rfl; simpa [wmS, c_1, c_2, c_5, c_7, c_8] using h9)
              · -- f 83
                refine lv_lload_n hx hb dX5_whomMay_83 rfl (lv_at hl 0 rfl) ?_
                refine lv_iload hx hb dX5_whomMay_84 (lv_at hl 7 rfl) ?_
                refine cS_p (rest := []) hC (k_secretsOf l x0 k (by omega) (by omega)) kw_246 sy_X5_secretsOf ⟨Nat.le_of_ble_eq_true rfl, Nat.le_of_ble_eq_true rfl⟩ ⟨rfl, rfl⟩ rfl hl.1 rfl (Nat.le_of_ble_eq_true rfl) dX5_whomMay_86 ⟨Nat.le_of_ble_eq_true rfl, Nat.le_of_ble_eq_true rfl⟩ ?_
                have f_9 := of4_lt x0 k
                refine lv_iload hx hb dX5_whomMay_89 (lv_at hl 3 rfl) ?_
                refine n_icmp_eq (tgt := 103) hx hb (by omega) (by omega) dX5_whomMay_91 (by decide) (fun c_10 => ?_) (fun c_10 => ?_)
                · -- t 103
                  refine lv_iinc (v := nI (k + 1)) (lv' := [(8, .int (nI (k + 1))), (0, .long (lN x0)), (2, .int (nI rr)), (3, .int (nI pp)), (4, .int (nI (of4 x0 pp))), (5, .int (nI (nO x0 pp &&& (1 <<< pp ^^^ 4294967295)))), (6, .int (nI (pN x0))), (7, .int (nI (wmS x0 (nO x0 pp &&& (1 <<< pp ^^^ 4294967295)) (of4 x0 pp) k)))]) hx hb dX5_whomMay_103 hl (k := 7) rfl (ii_1 _) (by decide) rfl (fun ls hl => ?_)
                  refine lv_goto (tgt := 66) hx hb dX5_whomMay_106 (by decide) ?_
                  exact ih_lp_6 (k + 1) (by omega) (by omega) ls (by have h9 : lv_has ls 9 [(0, .long (lN x0)), (2, .int (nI rr)), (3, .int (nI pp)), (4, .int (nI (of4 x0 pp))), (5, .int (nI (nO x0 pp &&& (1 <<< pp ^^^ 4294967295)))), (6, .int (nI (pN x0))), (7, .int (nI (wmS x0 (nO x0 pp &&& (1 <<< pp ^^^ 4294967295)) (of4 x0 pp) k))), (8, .int (nI (k + 1)))] := lv_sub hl [1, 2, 3, 4, 5, 6, 7, 0] rfl; simpa [wmS, c_1, c_2, c_5, c_7, c_8, c_10] using h9)
                · -- f 94
                  refine lv_iload hx hb dX5_whomMay_94 (lv_at hl 6 rfl) ?_
                  refine lv_iconst (v := nI 1) hx hb dX5_whomMay_96 (by decide) ?_
                  refine lv_iload hx hb dX5_whomMay_97 (lv_at hl 7 rfl) ?_
                  refine n_ishl hx hb (by omega) dX5_whomMay_99 ?_
                  refine n_ior hx hb dX5_whomMay_100 ?_
                  refine lv_istore (lv' := [(7, .int (nI ((wmS x0 (nO x0 pp &&& (1 <<< pp ^^^ 4294967295)) (of4 x0 pp) k) ||| (1 <<< k)))), (0, .long (lN x0)), (2, .int (nI rr)), (3, .int (nI pp)), (4, .int (nI (of4 x0 pp))), (5, .int (nI (nO x0 pp &&& (1 <<< pp ^^^ 4294967295)))), (6, .int (nI (pN x0))), (8, .int (nI k))]) hx hb dX5_whomMay_101 hl (by decide) rfl (fun ls hl => ?_)
                  refine lv_iinc (v := nI (k + 1)) (lv' := [(8, .int (nI (k + 1))), (7, .int (nI ((wmS x0 (nO x0 pp &&& (1 <<< pp ^^^ 4294967295)) (of4 x0 pp) k) ||| (1 <<< k)))), (0, .long (lN x0)), (2, .int (nI rr)), (3, .int (nI pp)), (4, .int (nI (of4 x0 pp))), (5, .int (nI (nO x0 pp &&& (1 <<< pp ^^^ 4294967295)))), (6, .int (nI (pN x0)))]) hx hb dX5_whomMay_103 hl (k := 7) rfl (ii_1 _) (by decide) rfl (fun ls hl => ?_)
                  refine lv_goto (tgt := 66) hx hb dX5_whomMay_106 (by decide) ?_
                  exact ih_lp_6 (k + 1) (by omega) (by omega) ls (by have h9 : lv_has ls 9 [(0, .long (lN x0)), (2, .int (nI rr)), (3, .int (nI pp)), (4, .int (nI (of4 x0 pp))), (5, .int (nI (nO x0 pp &&& (1 <<< pp ^^^ 4294967295)))), (6, .int (nI (pN x0))), (7, .int (nI ((wmS x0 (nO x0 pp &&& (1 <<< pp ^^^ 4294967295)) (of4 x0 pp) k) ||| (1 <<< k)))), (8, .int (nI (k + 1)))] := lv_sub hl [2, 3, 4, 5, 6, 7, 1, 0] rfl; simpa [wmS, c_1, c_2, c_5, c_7, c_8, c_10] using h9)
        exact lp_6 _ 0 (Nat.zero_le _) (Nat.lt_succ_self _) ls (lv_sub hl [5, 6, 7, 4, 3, 2, 1, 0] rfl)
      · -- f 46
        refine lv_iload hx hb dX5_whomMay_46 (lv_at hl 0 rfl) ?_
        refine lv_iload hx hb dX5_whomMay_48 (lv_at hl 1 rfl) ?_
        refine lv_iconst (v := -1) hx hb dX5_whomMay_50 (by decide) ?_
        refine n_ixor (y := 4294967295) hx hb dX5_whomMay_51 ?_
        refine n_iand hx hb dX5_whomMay_52 ?_
        exact rz_iE hC (congrArg nI (by unfold whM; rw [if_neg (fun q9 => by have q8 := q9.2; have q7 := q9.1; first | exact absurd q7 (by omega) | (rw [c_1] at q8; exact absurd q8 (by decide)) | (rw [c_2] at q8; exact absurd q8 (by decide)) | (rw [c_5] at q8; exact absurd q8 (by decide))), if_pos (by assumption)])) dX5_whomMay_53
    · -- f 19
      refine lv_iconst (v := nI 0) hx hb dX5_whomMay_19 (by decide) ?_
      exact rz_iE hC (congrArg nI (by unfold whM; rw [if_pos ⟨by omega, by assumption⟩])) dX5_whomMay_20
  · -- f 5
    refine lv_iload_n hx hb dX5_whomMay_5 rfl (lv_at hl 1 rfl) ?_
    refine lv_iconst (v := nI 3) hx hb dX5_whomMay_6 (by decide) ?_
    refine n_icmp_ne (tgt := 21) hx hb (by omega) (by omega) dX5_whomMay_7 (by decide) (fun c_11 => ?_) (fun c_11 => ?_)
    · -- t 21
      refine lv_lload_n hx hb dX5_whomMay_21 rfl (lv_at hl 0 rfl) ?_
      refine lv_iload_n hx hb dX5_whomMay_22 rfl (lv_at hl 2 rfl) ?_
      refine cS_p (rest := []) hC (k_secretsOf l x0 pp (by omega) (by omega)) kw_246 sy_X5_secretsOf ⟨Nat.le_of_ble_eq_true rfl, Nat.le_of_ble_eq_true rfl⟩ ⟨rfl, rfl⟩ rfl hl.1 rfl (Nat.le_of_ble_eq_true rfl) dX5_whomMay_23 ⟨Nat.le_of_ble_eq_true rfl, Nat.le_of_ble_eq_true rfl⟩ ?_
      have f_12 := of4_lt x0 pp
      refine lv_istore (lv' := [(4, .int (nI (of4 x0 pp))), (0, .long (lN x0)), (2, .int (nI rr)), (3, .int (nI pp))]) hx hb dX5_whomMay_26 hl (by decide) rfl (fun ls hl => ?_)
      refine lv_lload_n hx hb dX5_whomMay_28 rfl (lv_at hl 1 rfl) ?_
      refine lv_iload_n hx hb dX5_whomMay_29 rfl (lv_at hl 3 rfl) ?_
      refine cS_p (rest := []) hC (k_numbersOf l x0 pp (by omega) (by omega)) kw_271 sy_X5_numbersOf ⟨Nat.le_of_ble_eq_true rfl, Nat.le_of_ble_eq_true rfl⟩ ⟨rfl, rfl⟩ rfl hl.1 rfl (Nat.le_of_ble_eq_true rfl) dX5_whomMay_30 ⟨Nat.le_of_ble_eq_true rfl, Nat.le_of_ble_eq_true rfl⟩ ?_
      have f_13 := nO_lt x0 pp
      refine lv_iconst (v := nI 1) hx hb dX5_whomMay_33 (by decide) ?_
      refine lv_iload_n hx hb dX5_whomMay_34 rfl (lv_at hl 3 rfl) ?_
      refine n_ishl hx hb (by omega) dX5_whomMay_35 ?_
      refine lv_iconst (v := -1) hx hb dX5_whomMay_36 (by decide) ?_
      refine n_ixor (y := 4294967295) hx hb dX5_whomMay_37 ?_
      refine n_iand hx hb dX5_whomMay_38 ?_
      refine lv_istore (lv' := [(5, .int (nI ((nO x0 pp) &&& ((1 <<< pp) ^^^ 4294967295)))), (4, .int (nI (of4 x0 pp))), (0, .long (lN x0)), (2, .int (nI rr)), (3, .int (nI pp))]) hx hb dX5_whomMay_39 hl (by decide) rfl (fun ls hl => ?_)
      have hot : nO x0 pp &&& (1 <<< pp ^^^ 4294967295) ≤ nO x0 pp := Nat.and_le_left
      refine lv_iload_n hx hb dX5_whomMay_41 rfl (lv_at hl 3 rfl) ?_
      refine lv_iconst (v := nI 1) hx hb dX5_whomMay_42 (by decide) ?_
      refine n_icmp_ne (tgt := 54) hx hb (by omega) (by omega) dX5_whomMay_43 (by decide) (fun c_14 => ?_) (fun c_14 => ?_)
      · -- t 54
        refine lv_lload_n hx hb dX5_whomMay_54 rfl (lv_at hl 2 rfl) ?_
        refine cS_p (rest := []) hC (k_persons l x0 (by omega)) kw_250 sy_X5_persons ⟨Nat.le_of_ble_eq_true rfl, Nat.le_of_ble_eq_true rfl⟩ ⟨rfl, rfl⟩ rfl hl.1 rfl (Nat.le_of_ble_eq_true rfl) dX5_whomMay_55 ⟨Nat.le_of_ble_eq_true rfl, Nat.le_of_ble_eq_true rfl⟩ ?_
        refine lv_istore (lv' := [(6, .int (nI (pN x0))), (5, .int (nI ((nO x0 pp) &&& ((1 <<< pp) ^^^ 4294967295)))), (4, .int (nI (of4 x0 pp))), (0, .long (lN x0)), (2, .int (nI rr)), (3, .int (nI pp))]) hx hb dX5_whomMay_58 hl (by decide) rfl (fun ls hl => ?_)
        refine lv_iconst (v := nI 0) hx hb dX5_whomMay_60 (by decide) ?_
        refine lv_istore (lv' := [(7, .int (nI 0)), (6, .int (nI (pN x0))), (5, .int (nI ((nO x0 pp) &&& ((1 <<< pp) ^^^ 4294967295)))), (4, .int (nI (of4 x0 pp))), (0, .long (lN x0)), (2, .int (nI rr)), (3, .int (nI pp))]) hx hb dX5_whomMay_61 hl (by decide) rfl (fun ls hl => ?_)
        refine lv_iconst (v := nI 0) hx hb dX5_whomMay_63 (by decide) ?_
        refine lv_istore (lv' := [(8, .int (nI 0)), (7, .int (nI 0)), (6, .int (nI (pN x0))), (5, .int (nI ((nO x0 pp) &&& ((1 <<< pp) ^^^ 4294967295)))), (4, .int (nI (of4 x0 pp))), (0, .long (lN x0)), (2, .int (nI rr)), (3, .int (nI pp))]) hx hb dX5_whomMay_64 hl (by decide) rfl (fun ls hl => ?_)
        have lp_15 : ∀ (n_lp_15 : Nat) (k : Nat) (hk : k ≤ pN x0), pN x0 - k < n_lp_15 → ∀ (ls : Array Slot), lv_has ls 9 [(0, .long (lN x0)), (2, .int (nI rr)), (3, .int (nI pp)), (4, .int (nI (of4 x0 pp))), (5, .int (nI (nO x0 pp &&& (1 <<< pp ^^^ 4294967295)))), (6, .int (nI (pN x0))), (7, .int (nI (wmS x0 (nO x0 pp &&& (1 <<< pp ^^^ 4294967295)) (of4 x0 pp) k))), (8, .int (nI k))] → W p l e rm_X5_whomMay s m args below meth c s.heap [] 0 0 (MQ below (pz_Q (some (.int (nI (whM x0 rr pp))))) args s 0 0 pz_F) (F0 m 66 ls []) := by
          intro n_lp_15
          induction n_lp_15 with
          | zero => intro k hk; intro hm_lp_15; exact absurd hm_lp_15 (Nat.not_lt_zero _)
          | succ n_lp_15 ih_lp_15 =>
            intro k hk hm_lp_15 ls hl
            refine lv_iload hx hb dX5_whomMay_66 (lv_at hl 7 rfl) ?_
            refine lv_iload hx hb dX5_whomMay_68 (lv_at hl 5 rfl) ?_
            refine n_icmp_ge (tgt := 109) hx hb (by omega) (by omega) dX5_whomMay_70 (by decide) (fun c_16 => ?_) (fun c_16 => ?_)
            · -- t 109
              refine lv_iload hx hb dX5_whomMay_109 (lv_at hl 6 rfl) ?_
              exact rz_iE hC (congrArg nI (by rw [show k = pN x0 by omega]; unfold whM; rw [if_neg (fun q9 => by have q8 := q9.2; have q7 := q9.1; first | exact absurd q7 (by omega) | (rw [c_1] at q8; exact absurd q8 (by decide)) | (rw [c_11] at q8; exact absurd q8 (by decide)) | (rw [c_14] at q8; exact absurd q8 (by decide)) | (rw [c_16] at q8; exact absurd q8 (by decide))), if_neg (by assumption)])) dX5_whomMay_111
            · -- f 73
              refine lv_iload hx hb dX5_whomMay_73 (lv_at hl 4 rfl) ?_
              refine lv_iload hx hb dX5_whomMay_75 (lv_at hl 7 rfl) ?_
              refine cN_p (rest := []) hC (k_contains l (nO x0 pp &&& (1 <<< pp ^^^ 4294967295)) k (by omega) (by omega)) hN.2.2.1 sy_X11_contains ⟨Nat.le_of_ble_eq_true rfl, Nat.le_of_ble_eq_true rfl⟩ ⟨rfl, rfl⟩ rfl hl.1 rfl (Nat.le_of_ble_eq_true rfl) dX5_whomMay_77 ⟨Nat.le_of_ble_eq_true rfl, Nat.le_of_ble_eq_true rfl⟩ ?_
              refine b_if_eq (tgt := 103) hx hb dX5_whomMay_80 (by decide) (fun c_17 => ?_) (fun c_17 => ?_)
              · -- t 103
                refine lv_iinc (v := nI (k + 1)) (lv' := [(8, .int (nI (k + 1))), (0, .long (lN x0)), (2, .int (nI rr)), (3, .int (nI pp)), (4, .int (nI (of4 x0 pp))), (5, .int (nI (nO x0 pp &&& (1 <<< pp ^^^ 4294967295)))), (6, .int (nI (pN x0))), (7, .int (nI (wmS x0 (nO x0 pp &&& (1 <<< pp ^^^ 4294967295)) (of4 x0 pp) k)))]) hx hb dX5_whomMay_103 hl (k := 7) rfl (ii_1 _) (by decide) rfl (fun ls hl => ?_)
                refine lv_goto (tgt := 66) hx hb dX5_whomMay_106 (by decide) ?_
                exact ih_lp_15 (k + 1) (by omega) (by omega) ls (by have h9 : lv_has ls 9 [(0, .long (lN x0)), (2, .int (nI rr)), (3, .int (nI pp)), (4, .int (nI (of4 x0 pp))), (5, .int (nI (nO x0 pp &&& (1 <<< pp ^^^ 4294967295)))), (6, .int (nI (pN x0))), (7, .int (nI (wmS x0 (nO x0 pp &&& (1 <<< pp ^^^ 4294967295)) (of4 x0 pp) k))), (8, .int (nI (k + 1)))] := lv_sub hl [1, 2, 3, 4, 5, 6, 7, 0] rfl; simpa [wmS, c_1, c_11, c_14, c_16, c_17] using h9)
              · -- f 83
                refine lv_lload_n hx hb dX5_whomMay_83 rfl (lv_at hl 0 rfl) ?_
                refine lv_iload hx hb dX5_whomMay_84 (lv_at hl 7 rfl) ?_
                refine cS_p (rest := []) hC (k_secretsOf l x0 k (by omega) (by omega)) kw_246 sy_X5_secretsOf ⟨Nat.le_of_ble_eq_true rfl, Nat.le_of_ble_eq_true rfl⟩ ⟨rfl, rfl⟩ rfl hl.1 rfl (Nat.le_of_ble_eq_true rfl) dX5_whomMay_86 ⟨Nat.le_of_ble_eq_true rfl, Nat.le_of_ble_eq_true rfl⟩ ?_
                have f_18 := of4_lt x0 k
                refine lv_iload hx hb dX5_whomMay_89 (lv_at hl 3 rfl) ?_
                refine n_icmp_eq (tgt := 103) hx hb (by omega) (by omega) dX5_whomMay_91 (by decide) (fun c_19 => ?_) (fun c_19 => ?_)
                · -- t 103
                  refine lv_iinc (v := nI (k + 1)) (lv' := [(8, .int (nI (k + 1))), (0, .long (lN x0)), (2, .int (nI rr)), (3, .int (nI pp)), (4, .int (nI (of4 x0 pp))), (5, .int (nI (nO x0 pp &&& (1 <<< pp ^^^ 4294967295)))), (6, .int (nI (pN x0))), (7, .int (nI (wmS x0 (nO x0 pp &&& (1 <<< pp ^^^ 4294967295)) (of4 x0 pp) k)))]) hx hb dX5_whomMay_103 hl (k := 7) rfl (ii_1 _) (by decide) rfl (fun ls hl => ?_)
                  refine lv_goto (tgt := 66) hx hb dX5_whomMay_106 (by decide) ?_
                  exact ih_lp_15 (k + 1) (by omega) (by omega) ls (by have h9 : lv_has ls 9 [(0, .long (lN x0)), (2, .int (nI rr)), (3, .int (nI pp)), (4, .int (nI (of4 x0 pp))), (5, .int (nI (nO x0 pp &&& (1 <<< pp ^^^ 4294967295)))), (6, .int (nI (pN x0))), (7, .int (nI (wmS x0 (nO x0 pp &&& (1 <<< pp ^^^ 4294967295)) (of4 x0 pp) k))), (8, .int (nI (k + 1)))] := lv_sub hl [1, 2, 3, 4, 5, 6, 7, 0] rfl; simpa [wmS, c_1, c_11, c_14, c_16, c_17, c_19] using h9)
                · -- f 94
                  refine lv_iload hx hb dX5_whomMay_94 (lv_at hl 6 rfl) ?_
                  refine lv_iconst (v := nI 1) hx hb dX5_whomMay_96 (by decide) ?_
                  refine lv_iload hx hb dX5_whomMay_97 (lv_at hl 7 rfl) ?_
                  refine n_ishl hx hb (by omega) dX5_whomMay_99 ?_
                  refine n_ior hx hb dX5_whomMay_100 ?_
                  refine lv_istore (lv' := [(7, .int (nI ((wmS x0 (nO x0 pp &&& (1 <<< pp ^^^ 4294967295)) (of4 x0 pp) k) ||| (1 <<< k)))), (0, .long (lN x0)), (2, .int (nI rr)), (3, .int (nI pp)), (4, .int (nI (of4 x0 pp))), (5, .int (nI (nO x0 pp &&& (1 <<< pp ^^^ 4294967295)))), (6, .int (nI (pN x0))), (8, .int (nI k))]) hx hb dX5_whomMay_101 hl (by decide) rfl (fun ls hl => ?_)
                  refine lv_iinc (v := nI (k + 1)) (lv' := [(8, .int (nI (k + 1))), (7, .int (nI ((wmS x0 (nO x0 pp &&& (1 <<< pp ^^^ 4294967295)) (of4 x0 pp) k) ||| (1 <<< k)))), (0, .long (lN x0)), (2, .int (nI rr)), (3, .int (nI pp)), (4, .int (nI (of4 x0 pp))), (5, .int (nI (nO x0 pp &&& (1 <<< pp ^^^ 4294967295)))), (6, .int (nI (pN x0)))]) hx hb dX5_whomMay_103 hl (k := 7) rfl (ii_1 _) (by decide) rfl (fun ls hl => ?_)
                  refine lv_goto (tgt := 66) hx hb dX5_whomMay_106 (by decide) ?_
                  exact ih_lp_15 (k + 1) (by omega) (by omega) ls (by have h9 : lv_has ls 9 [(0, .long (lN x0)), (2, .int (nI rr)), (3, .int (nI pp)), (4, .int (nI (of4 x0 pp))), (5, .int (nI (nO x0 pp &&& (1 <<< pp ^^^ 4294967295)))), (6, .int (nI (pN x0))), (7, .int (nI ((wmS x0 (nO x0 pp &&& (1 <<< pp ^^^ 4294967295)) (of4 x0 pp) k) ||| (1 <<< k)))), (8, .int (nI (k + 1)))] := lv_sub hl [2, 3, 4, 5, 6, 7, 1, 0] rfl; simpa [wmS, c_1, c_11, c_14, c_16, c_17, c_19] using h9)
        exact lp_15 _ 0 (Nat.zero_le _) (Nat.lt_succ_self _) ls (lv_sub hl [5, 6, 7, 4, 3, 2, 1, 0] rfl)
      · -- f 46
        refine lv_iload hx hb dX5_whomMay_46 (lv_at hl 0 rfl) ?_
        refine lv_iload hx hb dX5_whomMay_48 (lv_at hl 1 rfl) ?_
        refine lv_iconst (v := -1) hx hb dX5_whomMay_50 (by decide) ?_
        refine n_ixor (y := 4294967295) hx hb dX5_whomMay_51 ?_
        refine n_iand hx hb dX5_whomMay_52 ?_
        exact rz_iE hC (congrArg nI (by unfold whM; rw [if_neg (fun q9 => by have q8 := q9.2; have q7 := q9.1; first | exact absurd q7 (by omega) | (rw [c_1] at q8; exact absurd q8 (by decide)) | (rw [c_11] at q8; exact absurd q8 (by decide)) | (rw [c_14] at q8; exact absurd q8 (by decide))), if_pos (by assumption)])) dX5_whomMay_53
    · -- f 10
      refine lv_lload_n hx hb dX5_whomMay_10 rfl (lv_at hl 0 rfl) ?_
      refine lv_iload_n hx hb dX5_whomMay_11 rfl (lv_at hl 1 rfl) ?_
      refine lv_iload_n hx hb dX5_whomMay_12 rfl (lv_at hl 2 rfl) ?_
      refine cS_p (rest := []) hC (k_hasToken l x0 rr pp (by omega) (by omega) (by omega)) kw_371 sy_X5_hasToken ⟨Nat.le_of_ble_eq_true rfl, Nat.le_of_ble_eq_true rfl⟩ ⟨rfl, rfl⟩ rfl hl.1 rfl (Nat.le_of_ble_eq_true rfl) dX5_whomMay_13 ⟨Nat.le_of_ble_eq_true rfl, Nat.le_of_ble_eq_true rfl⟩ ?_
      refine b_if_ne (tgt := 21) hx hb dX5_whomMay_16 (by decide) (fun c_20 => ?_) (fun c_20 => ?_)
      · -- t 21
        refine lv_lload_n hx hb dX5_whomMay_21 rfl (lv_at hl 0 rfl) ?_
        refine lv_iload_n hx hb dX5_whomMay_22 rfl (lv_at hl 2 rfl) ?_
        refine cS_p (rest := []) hC (k_secretsOf l x0 pp (by omega) (by omega)) kw_246 sy_X5_secretsOf ⟨Nat.le_of_ble_eq_true rfl, Nat.le_of_ble_eq_true rfl⟩ ⟨rfl, rfl⟩ rfl hl.1 rfl (Nat.le_of_ble_eq_true rfl) dX5_whomMay_23 ⟨Nat.le_of_ble_eq_true rfl, Nat.le_of_ble_eq_true rfl⟩ ?_
        have f_21 := of4_lt x0 pp
        refine lv_istore (lv' := [(4, .int (nI (of4 x0 pp))), (0, .long (lN x0)), (2, .int (nI rr)), (3, .int (nI pp))]) hx hb dX5_whomMay_26 hl (by decide) rfl (fun ls hl => ?_)
        refine lv_lload_n hx hb dX5_whomMay_28 rfl (lv_at hl 1 rfl) ?_
        refine lv_iload_n hx hb dX5_whomMay_29 rfl (lv_at hl 3 rfl) ?_
        refine cS_p (rest := []) hC (k_numbersOf l x0 pp (by omega) (by omega)) kw_271 sy_X5_numbersOf ⟨Nat.le_of_ble_eq_true rfl, Nat.le_of_ble_eq_true rfl⟩ ⟨rfl, rfl⟩ rfl hl.1 rfl (Nat.le_of_ble_eq_true rfl) dX5_whomMay_30 ⟨Nat.le_of_ble_eq_true rfl, Nat.le_of_ble_eq_true rfl⟩ ?_
        have f_22 := nO_lt x0 pp
        refine lv_iconst (v := nI 1) hx hb dX5_whomMay_33 (by decide) ?_
        refine lv_iload_n hx hb dX5_whomMay_34 rfl (lv_at hl 3 rfl) ?_
        refine n_ishl hx hb (by omega) dX5_whomMay_35 ?_
        refine lv_iconst (v := -1) hx hb dX5_whomMay_36 (by decide) ?_
        refine n_ixor (y := 4294967295) hx hb dX5_whomMay_37 ?_
        refine n_iand hx hb dX5_whomMay_38 ?_
        refine lv_istore (lv' := [(5, .int (nI ((nO x0 pp) &&& ((1 <<< pp) ^^^ 4294967295)))), (4, .int (nI (of4 x0 pp))), (0, .long (lN x0)), (2, .int (nI rr)), (3, .int (nI pp))]) hx hb dX5_whomMay_39 hl (by decide) rfl (fun ls hl => ?_)
        have hot : nO x0 pp &&& (1 <<< pp ^^^ 4294967295) ≤ nO x0 pp := Nat.and_le_left
        refine lv_iload_n hx hb dX5_whomMay_41 rfl (lv_at hl 3 rfl) ?_
        refine lv_iconst (v := nI 1) hx hb dX5_whomMay_42 (by decide) ?_
        refine n_icmp_ne (tgt := 54) hx hb (by omega) (by omega) dX5_whomMay_43 (by decide) (fun c_23 => ?_) (fun c_23 => ?_)
        · -- t 54
          refine lv_lload_n hx hb dX5_whomMay_54 rfl (lv_at hl 2 rfl) ?_
          refine cS_p (rest := []) hC (k_persons l x0 (by omega)) kw_250 sy_X5_persons ⟨Nat.le_of_ble_eq_true rfl, Nat.le_of_ble_eq_true rfl⟩ ⟨rfl, rfl⟩ rfl hl.1 rfl (Nat.le_of_ble_eq_true rfl) dX5_whomMay_55 ⟨Nat.le_of_ble_eq_true rfl, Nat.le_of_ble_eq_true rfl⟩ ?_
          refine lv_istore (lv' := [(6, .int (nI (pN x0))), (5, .int (nI ((nO x0 pp) &&& ((1 <<< pp) ^^^ 4294967295)))), (4, .int (nI (of4 x0 pp))), (0, .long (lN x0)), (2, .int (nI rr)), (3, .int (nI pp))]) hx hb dX5_whomMay_58 hl (by decide) rfl (fun ls hl => ?_)
          refine lv_iconst (v := nI 0) hx hb dX5_whomMay_60 (by decide) ?_
          refine lv_istore (lv' := [(7, .int (nI 0)), (6, .int (nI (pN x0))), (5, .int (nI ((nO x0 pp) &&& ((1 <<< pp) ^^^ 4294967295)))), (4, .int (nI (of4 x0 pp))), (0, .long (lN x0)), (2, .int (nI rr)), (3, .int (nI pp))]) hx hb dX5_whomMay_61 hl (by decide) rfl (fun ls hl => ?_)
          refine lv_iconst (v := nI 0) hx hb dX5_whomMay_63 (by decide) ?_
          refine lv_istore (lv' := [(8, .int (nI 0)), (7, .int (nI 0)), (6, .int (nI (pN x0))), (5, .int (nI ((nO x0 pp) &&& ((1 <<< pp) ^^^ 4294967295)))), (4, .int (nI (of4 x0 pp))), (0, .long (lN x0)), (2, .int (nI rr)), (3, .int (nI pp))]) hx hb dX5_whomMay_64 hl (by decide) rfl (fun ls hl => ?_)
          have lp_24 : ∀ (n_lp_24 : Nat) (k : Nat) (hk : k ≤ pN x0), pN x0 - k < n_lp_24 → ∀ (ls : Array Slot), lv_has ls 9 [(0, .long (lN x0)), (2, .int (nI rr)), (3, .int (nI pp)), (4, .int (nI (of4 x0 pp))), (5, .int (nI (nO x0 pp &&& (1 <<< pp ^^^ 4294967295)))), (6, .int (nI (pN x0))), (7, .int (nI (wmS x0 (nO x0 pp &&& (1 <<< pp ^^^ 4294967295)) (of4 x0 pp) k))), (8, .int (nI k))] → W p l e rm_X5_whomMay s m args below meth c s.heap [] 0 0 (MQ below (pz_Q (some (.int (nI (whM x0 rr pp))))) args s 0 0 pz_F) (F0 m 66 ls []) := by
            intro n_lp_24
            induction n_lp_24 with
            | zero => intro k hk; intro hm_lp_24; exact absurd hm_lp_24 (Nat.not_lt_zero _)
            | succ n_lp_24 ih_lp_24 =>
              intro k hk hm_lp_24 ls hl
              refine lv_iload hx hb dX5_whomMay_66 (lv_at hl 7 rfl) ?_
              refine lv_iload hx hb dX5_whomMay_68 (lv_at hl 5 rfl) ?_
              refine n_icmp_ge (tgt := 109) hx hb (by omega) (by omega) dX5_whomMay_70 (by decide) (fun c_25 => ?_) (fun c_25 => ?_)
              · -- t 109
                refine lv_iload hx hb dX5_whomMay_109 (lv_at hl 6 rfl) ?_
                exact rz_iE hC (congrArg nI (by rw [show k = pN x0 by omega]; unfold whM; rw [if_neg (fun q9 => by have q8 := q9.2; have q7 := q9.1; first | exact absurd q7 (by omega) | (rw [c_1] at q8; exact absurd q8 (by decide)) | (rw [c_11] at q8; exact absurd q8 (by decide)) | (rw [c_20] at q8; exact absurd q8 (by decide)) | (rw [c_23] at q8; exact absurd q8 (by decide)) | (rw [c_25] at q8; exact absurd q8 (by decide))), if_neg (by assumption)])) dX5_whomMay_111
              · -- f 73
                refine lv_iload hx hb dX5_whomMay_73 (lv_at hl 4 rfl) ?_
                refine lv_iload hx hb dX5_whomMay_75 (lv_at hl 7 rfl) ?_
                refine cN_p (rest := []) hC (k_contains l (nO x0 pp &&& (1 <<< pp ^^^ 4294967295)) k (by omega) (by omega)) hN.2.2.1 sy_X11_contains ⟨Nat.le_of_ble_eq_true rfl, Nat.le_of_ble_eq_true rfl⟩ ⟨rfl, rfl⟩ rfl hl.1 rfl (Nat.le_of_ble_eq_true rfl) dX5_whomMay_77 ⟨Nat.le_of_ble_eq_true rfl, Nat.le_of_ble_eq_true rfl⟩ ?_
                refine b_if_eq (tgt := 103) hx hb dX5_whomMay_80 (by decide) (fun c_26 => ?_) (fun c_26 => ?_)
                · -- t 103
                  refine lv_iinc (v := nI (k + 1)) (lv' := [(8, .int (nI (k + 1))), (0, .long (lN x0)), (2, .int (nI rr)), (3, .int (nI pp)), (4, .int (nI (of4 x0 pp))), (5, .int (nI (nO x0 pp &&& (1 <<< pp ^^^ 4294967295)))), (6, .int (nI (pN x0))), (7, .int (nI (wmS x0 (nO x0 pp &&& (1 <<< pp ^^^ 4294967295)) (of4 x0 pp) k)))]) hx hb dX5_whomMay_103 hl (k := 7) rfl (ii_1 _) (by decide) rfl (fun ls hl => ?_)
                  refine lv_goto (tgt := 66) hx hb dX5_whomMay_106 (by decide) ?_
                  exact ih_lp_24 (k + 1) (by omega) (by omega) ls (by have h9 : lv_has ls 9 [(0, .long (lN x0)), (2, .int (nI rr)), (3, .int (nI pp)), (4, .int (nI (of4 x0 pp))), (5, .int (nI (nO x0 pp &&& (1 <<< pp ^^^ 4294967295)))), (6, .int (nI (pN x0))), (7, .int (nI (wmS x0 (nO x0 pp &&& (1 <<< pp ^^^ 4294967295)) (of4 x0 pp) k))), (8, .int (nI (k + 1)))] := lv_sub hl [1, 2, 3, 4, 5, 6, 7, 0] rfl; simpa [wmS, c_1, c_11, c_20, c_23, c_25, c_26] using h9)
                · -- f 83
                  refine lv_lload_n hx hb dX5_whomMay_83 rfl (lv_at hl 0 rfl) ?_
                  refine lv_iload hx hb dX5_whomMay_84 (lv_at hl 7 rfl) ?_
                  refine cS_p (rest := []) hC (k_secretsOf l x0 k (by omega) (by omega)) kw_246 sy_X5_secretsOf ⟨Nat.le_of_ble_eq_true rfl, Nat.le_of_ble_eq_true rfl⟩ ⟨rfl, rfl⟩ rfl hl.1 rfl (Nat.le_of_ble_eq_true rfl) dX5_whomMay_86 ⟨Nat.le_of_ble_eq_true rfl, Nat.le_of_ble_eq_true rfl⟩ ?_
                  have f_27 := of4_lt x0 k
                  refine lv_iload hx hb dX5_whomMay_89 (lv_at hl 3 rfl) ?_
                  refine n_icmp_eq (tgt := 103) hx hb (by omega) (by omega) dX5_whomMay_91 (by decide) (fun c_28 => ?_) (fun c_28 => ?_)
                  · -- t 103
                    refine lv_iinc (v := nI (k + 1)) (lv' := [(8, .int (nI (k + 1))), (0, .long (lN x0)), (2, .int (nI rr)), (3, .int (nI pp)), (4, .int (nI (of4 x0 pp))), (5, .int (nI (nO x0 pp &&& (1 <<< pp ^^^ 4294967295)))), (6, .int (nI (pN x0))), (7, .int (nI (wmS x0 (nO x0 pp &&& (1 <<< pp ^^^ 4294967295)) (of4 x0 pp) k)))]) hx hb dX5_whomMay_103 hl (k := 7) rfl (ii_1 _) (by decide) rfl (fun ls hl => ?_)
                    refine lv_goto (tgt := 66) hx hb dX5_whomMay_106 (by decide) ?_
                    exact ih_lp_24 (k + 1) (by omega) (by omega) ls (by have h9 : lv_has ls 9 [(0, .long (lN x0)), (2, .int (nI rr)), (3, .int (nI pp)), (4, .int (nI (of4 x0 pp))), (5, .int (nI (nO x0 pp &&& (1 <<< pp ^^^ 4294967295)))), (6, .int (nI (pN x0))), (7, .int (nI (wmS x0 (nO x0 pp &&& (1 <<< pp ^^^ 4294967295)) (of4 x0 pp) k))), (8, .int (nI (k + 1)))] := lv_sub hl [1, 2, 3, 4, 5, 6, 7, 0] rfl; simpa [wmS, c_1, c_11, c_20, c_23, c_25, c_26, c_28] using h9)
                  · -- f 94
                    refine lv_iload hx hb dX5_whomMay_94 (lv_at hl 6 rfl) ?_
                    refine lv_iconst (v := nI 1) hx hb dX5_whomMay_96 (by decide) ?_
                    refine lv_iload hx hb dX5_whomMay_97 (lv_at hl 7 rfl) ?_
                    refine n_ishl hx hb (by omega) dX5_whomMay_99 ?_
                    refine n_ior hx hb dX5_whomMay_100 ?_
                    refine lv_istore (lv' := [(7, .int (nI ((wmS x0 (nO x0 pp &&& (1 <<< pp ^^^ 4294967295)) (of4 x0 pp) k) ||| (1 <<< k)))), (0, .long (lN x0)), (2, .int (nI rr)), (3, .int (nI pp)), (4, .int (nI (of4 x0 pp))), (5, .int (nI (nO x0 pp &&& (1 <<< pp ^^^ 4294967295)))), (6, .int (nI (pN x0))), (8, .int (nI k))]) hx hb dX5_whomMay_101 hl (by decide) rfl (fun ls hl => ?_)
                    refine lv_iinc (v := nI (k + 1)) (lv' := [(8, .int (nI (k + 1))), (7, .int (nI ((wmS x0 (nO x0 pp &&& (1 <<< pp ^^^ 4294967295)) (of4 x0 pp) k) ||| (1 <<< k)))), (0, .long (lN x0)), (2, .int (nI rr)), (3, .int (nI pp)), (4, .int (nI (of4 x0 pp))), (5, .int (nI (nO x0 pp &&& (1 <<< pp ^^^ 4294967295)))), (6, .int (nI (pN x0)))]) hx hb dX5_whomMay_103 hl (k := 7) rfl (ii_1 _) (by decide) rfl (fun ls hl => ?_)
                    refine lv_goto (tgt := 66) hx hb dX5_whomMay_106 (by decide) ?_
                    exact ih_lp_24 (k + 1) (by omega) (by omega) ls (by have h9 : lv_has ls 9 [(0, .long (lN x0)), (2, .int (nI rr)), (3, .int (nI pp)), (4, .int (nI (of4 x0 pp))), (5, .int (nI (nO x0 pp &&& (1 <<< pp ^^^ 4294967295)))), (6, .int (nI (pN x0))), (7, .int (nI ((wmS x0 (nO x0 pp &&& (1 <<< pp ^^^ 4294967295)) (of4 x0 pp) k) ||| (1 <<< k)))), (8, .int (nI (k + 1)))] := lv_sub hl [2, 3, 4, 5, 6, 7, 1, 0] rfl; simpa [wmS, c_1, c_11, c_20, c_23, c_25, c_26, c_28] using h9)
          exact lp_24 _ 0 (Nat.zero_le _) (Nat.lt_succ_self _) ls (lv_sub hl [5, 6, 7, 4, 3, 2, 1, 0] rfl)
        · -- f 46
          refine lv_iload hx hb dX5_whomMay_46 (lv_at hl 0 rfl) ?_
          refine lv_iload hx hb dX5_whomMay_48 (lv_at hl 1 rfl) ?_
          refine lv_iconst (v := -1) hx hb dX5_whomMay_50 (by decide) ?_
          refine n_ixor (y := 4294967295) hx hb dX5_whomMay_51 ?_
          refine n_iand hx hb dX5_whomMay_52 ?_
          exact rz_iE hC (congrArg nI (by unfold whM; rw [if_neg (fun q9 => by have q8 := q9.2; have q7 := q9.1; first | exact absurd q7 (by omega) | (rw [c_1] at q8; exact absurd q8 (by decide)) | (rw [c_11] at q8; exact absurd q8 (by decide)) | (rw [c_20] at q8; exact absurd q8 (by decide)) | (rw [c_23] at q8; exact absurd q8 (by decide))), if_pos (by assumption)])) dX5_whomMay_53
      · -- f 19
        refine lv_iconst (v := nI 0) hx hb dX5_whomMay_19 (by decide) ?_
        exact rz_iE hC (congrArg nI (by unfold whM; rw [if_pos ⟨by omega, by assumption⟩])) dX5_whomMay_20

set_option maxHeartbeats 4000000 in
set_option maxRecDepth 100000 in
theorem k_ring (l : Launch) (x0 pp qq : Nat) (h1 : x0 < 2 ^ 63) (h2 : pp < 4) (h3 : qq < 4) : Pz l yX5_ring cX5_ring 14 (some .long) rm_X5_ring [.long (lN x0), .int (nI pp), .int (nI qq)] (some (.long (lN (rng x0 pp qq)))) := by
  refine mk_pz (by decide) (Nat.le_of_ble_eq_true rfl) ?_
  intro p e s m args below meth c hC ls hl
  obtain ⟨hx, hb, hr, hts, hown, hml, hlk, hN⟩ := id hC
  have hl : lv_has ls 14 [(0, .long (lN x0)), (2, .int (nI pp)), (3, .int (nI qq))] := hl
  refine lv_lload_n hx hb dX5_ring_0 rfl (lv_at hl 0 rfl) ?_
  refine lv_iload_n hx hb dX5_ring_1 rfl (lv_at hl 1 rfl) ?_
  refine cS_p (rest := []) hC (k_secretsOf l x0 pp (by omega) (by omega)) kw_246 sy_X5_secretsOf ⟨Nat.le_of_ble_eq_true rfl, Nat.le_of_ble_eq_true rfl⟩ ⟨rfl, rfl⟩ rfl hl.1 rfl (Nat.le_of_ble_eq_true rfl) dX5_ring_2 ⟨Nat.le_of_ble_eq_true rfl, Nat.le_of_ble_eq_true rfl⟩ ?_
  have f_1 := of4_lt x0 pp
  refine lv_lload_n hx hb dX5_ring_5 rfl (lv_at hl 0 rfl) ?_
  refine lv_iload_n hx hb dX5_ring_6 rfl (lv_at hl 2 rfl) ?_
  refine cS_p (rest := [.int (nI (of4 x0 pp))]) hC (k_secretsOf l x0 qq (by omega) (by omega)) kw_246 sy_X5_secretsOf ⟨Nat.le_of_ble_eq_true rfl, Nat.le_of_ble_eq_true rfl⟩ ⟨rfl, rfl⟩ rfl hl.1 rfl (Nat.le_of_ble_eq_true rfl) dX5_ring_7 ⟨Nat.le_of_ble_eq_true rfl, Nat.le_of_ble_eq_true rfl⟩ ?_
  have f_2 := of4_lt x0 qq
  refine n_ior hx hb dX5_ring_10 ?_
  have ho1 : of4 x0 pp ||| of4 x0 qq < 2 ^ 4 := or_lt (of4_lt x0 pp) (of4_lt x0 qq)
  refine n_i2l hx hb (by omega) dX5_ring_11 ?_
  refine lv_lstore (lv' := [(4, .long (lN ((of4 x0 pp) ||| (of4 x0 qq)))), (0, .long (lN x0)), (2, .int (nI pp)), (3, .int (nI qq))]) hx hb dX5_ring_12 hl (by decide) rfl (fun ls hl => ?_)
  refine lv_lload_n hx hb dX5_ring_14 rfl (lv_at hl 1 rfl) ?_
  refine lv_iload_n hx hb dX5_ring_15 rfl (lv_at hl 2 rfl) ?_
  refine cS_p (rest := []) hC (k_numbersOf l x0 pp (by omega) (by omega)) kw_271 sy_X5_numbersOf ⟨Nat.le_of_ble_eq_true rfl, Nat.le_of_ble_eq_true rfl⟩ ⟨rfl, rfl⟩ rfl hl.1 rfl (Nat.le_of_ble_eq_true rfl) dX5_ring_16 ⟨Nat.le_of_ble_eq_true rfl, Nat.le_of_ble_eq_true rfl⟩ ?_
  have f_3 := nO_lt x0 pp
  refine lv_lload_n hx hb dX5_ring_19 rfl (lv_at hl 1 rfl) ?_
  refine lv_iload_n hx hb dX5_ring_20 rfl (lv_at hl 3 rfl) ?_
  refine cS_p (rest := [.int (nI (nO x0 pp))]) hC (k_numbersOf l x0 qq (by omega) (by omega)) kw_271 sy_X5_numbersOf ⟨Nat.le_of_ble_eq_true rfl, Nat.le_of_ble_eq_true rfl⟩ ⟨rfl, rfl⟩ rfl hl.1 rfl (Nat.le_of_ble_eq_true rfl) dX5_ring_21 ⟨Nat.le_of_ble_eq_true rfl, Nat.le_of_ble_eq_true rfl⟩ ?_
  have f_4 := nO_lt x0 qq
  refine n_ior hx hb dX5_ring_24 ?_
  have ho2 : nO x0 pp ||| nO x0 qq < 2 ^ 4 := or_lt (nO_lt x0 pp) (nO_lt x0 qq)
  refine n_i2l hx hb (by omega) dX5_ring_25 ?_
  refine lv_lstore (lv' := [(6, .long (lN ((nO x0 pp) ||| (nO x0 qq)))), (4, .long (lN ((of4 x0 pp) ||| (of4 x0 qq)))), (0, .long (lN x0)), (2, .int (nI pp)), (3, .int (nI qq))]) hx hb dX5_ring_26 hl (by decide) rfl (fun ls hl => ?_)
  refine lv_lload hx hb dX5_ring_28 (lv_at hl 1 rfl) ?_
  refine lv_lload hx hb dX5_ring_30 (lv_at hl 0 rfl) ?_
  refine lv_bipush (v := nI 16) hx hb dX5_ring_32 (by decide) ?_
  refine n_lshl hx hb (by omega) dX5_ring_34 ?_
  refine n_lor hx hb dX5_ring_35 ?_
  refine lv_lstore (lv' := [(8, .long (lN (((of4 x0 pp) ||| (of4 x0 qq)) ||| (((nO x0 pp) ||| (nO x0 qq)) <<< 16)))), (6, .long (lN ((nO x0 pp) ||| (nO x0 qq)))), (4, .long (lN ((of4 x0 pp) ||| (of4 x0 qq)))), (0, .long (lN x0)), (2, .int (nI pp)), (3, .int (nI qq))]) hx hb dX5_ring_36 hl (by decide) rfl (fun ls hl => ?_)
  refine lv_lload hx hb dX5_ring_38 (lv_at hl 0 rfl) ?_
  refine lv_iconst (v := nI 4) hx hb dX5_ring_40 (by decide) ?_
  refine lv_iload_n hx hb dX5_ring_41 rfl (lv_at hl 4 rfl) ?_
  refine n_imul hx hb dX5_ring_42 ?_
  refine n_lshl hx hb (by omega) dX5_ring_43 ?_
  refine lv_lload hx hb dX5_ring_44 (lv_at hl 0 rfl) ?_
  refine lv_iconst (v := nI 4) hx hb dX5_ring_46 (by decide) ?_
  refine lv_iload_n hx hb dX5_ring_47 rfl (lv_at hl 5 rfl) ?_
  refine n_imul hx hb dX5_ring_48 ?_
  refine n_lshl hx hb (by omega) dX5_ring_49 ?_
  refine n_lor hx hb dX5_ring_50 ?_
  refine lv_lconst (v := lN 1) hx hb dX5_ring_51 (by decide) ?_
  refine lv_bipush (v := nI 32) hx hb dX5_ring_52 (by decide) ?_
  refine lv_iload_n hx hb dX5_ring_54 rfl (lv_at hl 5 rfl) ?_
  refine n_iadd hx hb dX5_ring_55 ?_
  refine n_lshl hx hb (by omega) dX5_ring_56 ?_
  refine n_lor hx hb dX5_ring_57 ?_
  refine lv_lstore (lv' := [(10, .long (lN ((((((of4 x0 pp) ||| (of4 x0 qq)) ||| (((nO x0 pp) ||| (nO x0 qq)) <<< 16)) <<< (4 * pp)) ||| ((((of4 x0 pp) ||| (of4 x0 qq)) ||| (((nO x0 pp) ||| (nO x0 qq)) <<< 16)) <<< (4 * qq))) ||| (1 <<< (32 + qq))))), (8, .long (lN (((of4 x0 pp) ||| (of4 x0 qq)) ||| (((nO x0 pp) ||| (nO x0 qq)) <<< 16)))), (6, .long (lN ((nO x0 pp) ||| (nO x0 qq)))), (4, .long (lN ((of4 x0 pp) ||| (of4 x0 qq)))), (0, .long (lN x0)), (2, .int (nI pp)), (3, .int (nI qq))]) hx hb dX5_ring_58 hl (by decide) rfl (fun ls hl => ?_)
  refine lv_lconst (v := lN 1) hx hb dX5_ring_60 (by decide) ?_
  refine lv_bipush (v := nI 32) hx hb dX5_ring_61 (by decide) ?_
  refine lv_iload_n hx hb dX5_ring_63 rfl (lv_at hl 5 rfl) ?_
  refine n_iadd hx hb dX5_ring_64 ?_
  refine n_lshl hx hb (by omega) dX5_ring_65 ?_
  refine lv_lconst (v := lN 1) hx hb dX5_ring_66 (by decide) ?_
  refine lv_bipush (v := nI 36) hx hb dX5_ring_67 (by decide) ?_
  refine lv_iload_n hx hb dX5_ring_69 rfl (lv_at hl 6 rfl) ?_
  refine n_iadd hx hb dX5_ring_70 ?_
  refine n_lshl hx hb (by omega) dX5_ring_71 ?_
  refine n_lor hx hb dX5_ring_72 ?_
  refine lv_lstore (lv' := [(12, .long (lN ((1 <<< (32 + pp)) ||| (1 <<< (36 + qq))))), (10, .long (lN ((((((of4 x0 pp) ||| (of4 x0 qq)) ||| (((nO x0 pp) ||| (nO x0 qq)) <<< 16)) <<< (4 * pp)) ||| ((((of4 x0 pp) ||| (of4 x0 qq)) ||| (((nO x0 pp) ||| (nO x0 qq)) <<< 16)) <<< (4 * qq))) ||| (1 <<< (32 + qq))))), (8, .long (lN (((of4 x0 pp) ||| (of4 x0 qq)) ||| (((nO x0 pp) ||| (nO x0 qq)) <<< 16)))), (6, .long (lN ((nO x0 pp) ||| (nO x0 qq)))), (4, .long (lN ((of4 x0 pp) ||| (of4 x0 qq)))), (0, .long (lN x0)), (2, .int (nI pp)), (3, .int (nI qq))]) hx hb dX5_ring_73 hl (by decide) rfl (fun ls hl => ?_)
  refine lv_lload_n hx hb dX5_ring_75 rfl (lv_at hl 5 rfl) ?_
  refine lv_lload hx hb dX5_ring_76 (lv_at hl 1 rfl) ?_
  refine n_lor hx hb dX5_ring_78 ?_
  refine lv_lload hx hb dX5_ring_79 (lv_at hl 0 rfl) ?_
  refine lv_ldc2 (v := lN 18446744073709551615) hx hb hown (hts _ kw_272) dX5_ring_81 ?_
  refine n_lxor hx hb dX5_ring_84 ?_
  refine n_land hx hb dX5_ring_85 ?_
  exact rz_lE hC (rfl) dX5_ring_86

set_option maxHeartbeats 4000000 in
set_option maxRecDepth 100000 in
theorem k_keyFor (l : Launch) (x0 rr oo : Nat) (h2 : rr < 4) (h3 : oo < 4) : Pz l yX5_keyFor cX5_keyFor 6 (some .long) rm_X5_keyFor [.long (lN x0), .int (nI rr), .int (nI oo)] (some (.long (lN (keyF x0 rr oo)))) := by
  refine mk_pz (by decide) (Nat.le_of_ble_eq_true rfl) ?_
  intro p e s m args below meth c hC ls hl
  obtain ⟨hx, hb, hr, hts, hown, hml, hlk, hN⟩ := id hC
  have hl : lv_has ls 6 [(0, .long (lN x0)), (2, .int (nI rr)), (3, .int (nI oo))] := hl
  refine lv_lload_n hx hb dX5_keyFor_0 rfl (lv_at hl 0 rfl) ?_
  refine lv_lstore (lv' := [(4, .long (lN x0)), (0, .long (lN x0)), (2, .int (nI rr)), (3, .int (nI oo))]) hx hb dX5_keyFor_1 hl (by decide) rfl (fun ls hl => ?_)
  refine lv_iload_n hx hb dX5_keyFor_3 rfl (lv_at hl 2 rfl) ?_
  refine lv_iconst (v := nI 2) hx hb dX5_keyFor_4 (by decide) ?_
  refine n_icmp_eq (tgt := 21) hx hb (by omega) (by omega) dX5_keyFor_5 (by decide) (fun c_1 => ?_) (fun c_1 => ?_)
  · -- t 21
    refine lv_iload_n hx hb dX5_keyFor_21 rfl (lv_at hl 2 rfl) ?_
    refine lv_iconst (v := nI 3) hx hb dX5_keyFor_22 (by decide) ?_
    refine n_icmp_eq (tgt := 39) hx hb (by omega) (by omega) dX5_keyFor_23 (by decide) (fun c_2 => ?_) (fun c_2 => ?_)
    · -- t 39
      refine lv_lload hx hb dX5_keyFor_39 (lv_at hl 0 rfl) ?_
      refine lv_iload_n hx hb dX5_keyFor_41 rfl (lv_at hl 2 rfl) ?_
      refine lv_iload_n hx hb dX5_keyFor_42 rfl (lv_at hl 3 rfl) ?_
      refine cN_p (rest := [.long (lN x0)]) hC (k_pairOf l rr oo ) hN.2.1 sy_X11_pairOf ⟨Nat.le_of_ble_eq_true rfl, Nat.le_of_ble_eq_true rfl⟩ ⟨rfl, rfl⟩ rfl hl.1 rfl (Nat.le_of_ble_eq_true rfl) dX5_keyFor_43 ⟨Nat.le_of_ble_eq_true rfl, Nat.le_of_ble_eq_true rfl⟩ ?_
      refine n_i2l hx hb (by omega) dX5_keyFor_46 ?_
      refine lv_bipush (v := nI 43) hx hb dX5_keyFor_47 (by decide) ?_
      refine n_lshl hx hb (by omega) dX5_keyFor_49 ?_
      refine n_lor hx hb dX5_keyFor_50 ?_
      exact rz_lE hC (congrArg lN (by first | (exfalso; omega) | simp [keyF, kF1, kF2, c_1, c_2])) dX5_keyFor_51
    · -- f 26
      refine lv_iload_n hx hb dX5_keyFor_26 rfl (lv_at hl 3 rfl) ?_
      refine lv_iconst (v := nI 3) hx hb dX5_keyFor_27 (by decide) ?_
      refine n_icmp_eq (tgt := 39) hx hb (by omega) (by omega) dX5_keyFor_28 (by decide) (fun c_3 => ?_) (fun c_3 => ?_)
      · -- t 39
        refine lv_lload hx hb dX5_keyFor_39 (lv_at hl 0 rfl) ?_
        refine lv_iload_n hx hb dX5_keyFor_41 rfl (lv_at hl 2 rfl) ?_
        refine lv_iload_n hx hb dX5_keyFor_42 rfl (lv_at hl 3 rfl) ?_
        refine cN_p (rest := [.long (lN x0)]) hC (k_pairOf l rr oo ) hN.2.1 sy_X11_pairOf ⟨Nat.le_of_ble_eq_true rfl, Nat.le_of_ble_eq_true rfl⟩ ⟨rfl, rfl⟩ rfl hl.1 rfl (Nat.le_of_ble_eq_true rfl) dX5_keyFor_43 ⟨Nat.le_of_ble_eq_true rfl, Nat.le_of_ble_eq_true rfl⟩ ?_
        refine n_i2l hx hb (by omega) dX5_keyFor_46 ?_
        refine lv_bipush (v := nI 43) hx hb dX5_keyFor_47 (by decide) ?_
        refine n_lshl hx hb (by omega) dX5_keyFor_49 ?_
        refine n_lor hx hb dX5_keyFor_50 ?_
        exact rz_lE hC (congrArg lN (by first | (exfalso; omega) | simp [keyF, kF1, kF2, c_1, c_2, c_3])) dX5_keyFor_51
      · -- f 31
        refine lv_lload hx hb dX5_keyFor_31 (lv_at hl 0 rfl) ?_
        refine lv_ldc2 (v := lN 18446743042917400575) hx hb hown (hts _ kw_405) dX5_keyFor_33 ?_
        refine n_land hx hb dX5_keyFor_36 ?_
        have f_4 : x0 &&& 18446743042917400575 ≤ 18446743042917400575 := Nat.and_le_right
        refine lv_lstore (lv' := [(4, .long (lN (x0 &&& 18446743042917400575))), (0, .long (lN x0)), (2, .int (nI rr)), (3, .int (nI oo))]) hx hb dX5_keyFor_37 hl (by decide) rfl (fun ls hl => ?_)
        refine lv_lload hx hb dX5_keyFor_39 (lv_at hl 0 rfl) ?_
        refine lv_iload_n hx hb dX5_keyFor_41 rfl (lv_at hl 2 rfl) ?_
        refine lv_iload_n hx hb dX5_keyFor_42 rfl (lv_at hl 3 rfl) ?_
        refine cN_p (rest := [.long (lN (x0 &&& 18446743042917400575))]) hC (k_pairOf l rr oo ) hN.2.1 sy_X11_pairOf ⟨Nat.le_of_ble_eq_true rfl, Nat.le_of_ble_eq_true rfl⟩ ⟨rfl, rfl⟩ rfl hl.1 rfl (Nat.le_of_ble_eq_true rfl) dX5_keyFor_43 ⟨Nat.le_of_ble_eq_true rfl, Nat.le_of_ble_eq_true rfl⟩ ?_
        refine n_i2l hx hb (by omega) dX5_keyFor_46 ?_
        refine lv_bipush (v := nI 43) hx hb dX5_keyFor_47 (by decide) ?_
        refine n_lshl hx hb (by omega) dX5_keyFor_49 ?_
        refine n_lor hx hb dX5_keyFor_50 ?_
        exact rz_lE hC (congrArg lN (by first | (exfalso; omega) | simp [keyF, kF1, kF2, c_1, c_2, c_3])) dX5_keyFor_51
  · -- f 8
    refine lv_iload_n hx hb dX5_keyFor_8 rfl (lv_at hl 3 rfl) ?_
    refine lv_iconst (v := nI 2) hx hb dX5_keyFor_9 (by decide) ?_
    refine n_icmp_eq (tgt := 21) hx hb (by omega) (by omega) dX5_keyFor_10 (by decide) (fun c_5 => ?_) (fun c_5 => ?_)
    · -- t 21
      refine lv_iload_n hx hb dX5_keyFor_21 rfl (lv_at hl 2 rfl) ?_
      refine lv_iconst (v := nI 3) hx hb dX5_keyFor_22 (by decide) ?_
      refine n_icmp_eq (tgt := 39) hx hb (by omega) (by omega) dX5_keyFor_23 (by decide) (fun c_6 => ?_) (fun c_6 => ?_)
      · -- t 39
        refine lv_lload hx hb dX5_keyFor_39 (lv_at hl 0 rfl) ?_
        refine lv_iload_n hx hb dX5_keyFor_41 rfl (lv_at hl 2 rfl) ?_
        refine lv_iload_n hx hb dX5_keyFor_42 rfl (lv_at hl 3 rfl) ?_
        refine cN_p (rest := [.long (lN x0)]) hC (k_pairOf l rr oo ) hN.2.1 sy_X11_pairOf ⟨Nat.le_of_ble_eq_true rfl, Nat.le_of_ble_eq_true rfl⟩ ⟨rfl, rfl⟩ rfl hl.1 rfl (Nat.le_of_ble_eq_true rfl) dX5_keyFor_43 ⟨Nat.le_of_ble_eq_true rfl, Nat.le_of_ble_eq_true rfl⟩ ?_
        refine n_i2l hx hb (by omega) dX5_keyFor_46 ?_
        refine lv_bipush (v := nI 43) hx hb dX5_keyFor_47 (by decide) ?_
        refine n_lshl hx hb (by omega) dX5_keyFor_49 ?_
        refine n_lor hx hb dX5_keyFor_50 ?_
        exact rz_lE hC (congrArg lN (by first | (exfalso; omega) | simp [keyF, kF1, kF2, c_1, c_5, c_6])) dX5_keyFor_51
      · -- f 26
        refine lv_iload_n hx hb dX5_keyFor_26 rfl (lv_at hl 3 rfl) ?_
        refine lv_iconst (v := nI 3) hx hb dX5_keyFor_27 (by decide) ?_
        refine n_icmp_eq (tgt := 39) hx hb (by omega) (by omega) dX5_keyFor_28 (by decide) (fun c_7 => ?_) (fun c_7 => ?_)
        · -- t 39
          refine lv_lload hx hb dX5_keyFor_39 (lv_at hl 0 rfl) ?_
          refine lv_iload_n hx hb dX5_keyFor_41 rfl (lv_at hl 2 rfl) ?_
          refine lv_iload_n hx hb dX5_keyFor_42 rfl (lv_at hl 3 rfl) ?_
          refine cN_p (rest := [.long (lN x0)]) hC (k_pairOf l rr oo ) hN.2.1 sy_X11_pairOf ⟨Nat.le_of_ble_eq_true rfl, Nat.le_of_ble_eq_true rfl⟩ ⟨rfl, rfl⟩ rfl hl.1 rfl (Nat.le_of_ble_eq_true rfl) dX5_keyFor_43 ⟨Nat.le_of_ble_eq_true rfl, Nat.le_of_ble_eq_true rfl⟩ ?_
          refine n_i2l hx hb (by omega) dX5_keyFor_46 ?_
          refine lv_bipush (v := nI 43) hx hb dX5_keyFor_47 (by decide) ?_
          refine n_lshl hx hb (by omega) dX5_keyFor_49 ?_
          refine n_lor hx hb dX5_keyFor_50 ?_
          exact rz_lE hC (congrArg lN (by first | (exfalso; omega) | simp [keyF, kF1, kF2, c_1, c_5, c_6, c_7])) dX5_keyFor_51
        · -- f 31
          refine lv_lload hx hb dX5_keyFor_31 (lv_at hl 0 rfl) ?_
          refine lv_ldc2 (v := lN 18446743042917400575) hx hb hown (hts _ kw_405) dX5_keyFor_33 ?_
          refine n_land hx hb dX5_keyFor_36 ?_
          have f_8 : x0 &&& 18446743042917400575 ≤ 18446743042917400575 := Nat.and_le_right
          refine lv_lstore (lv' := [(4, .long (lN (x0 &&& 18446743042917400575))), (0, .long (lN x0)), (2, .int (nI rr)), (3, .int (nI oo))]) hx hb dX5_keyFor_37 hl (by decide) rfl (fun ls hl => ?_)
          refine lv_lload hx hb dX5_keyFor_39 (lv_at hl 0 rfl) ?_
          refine lv_iload_n hx hb dX5_keyFor_41 rfl (lv_at hl 2 rfl) ?_
          refine lv_iload_n hx hb dX5_keyFor_42 rfl (lv_at hl 3 rfl) ?_
          refine cN_p (rest := [.long (lN (x0 &&& 18446743042917400575))]) hC (k_pairOf l rr oo ) hN.2.1 sy_X11_pairOf ⟨Nat.le_of_ble_eq_true rfl, Nat.le_of_ble_eq_true rfl⟩ ⟨rfl, rfl⟩ rfl hl.1 rfl (Nat.le_of_ble_eq_true rfl) dX5_keyFor_43 ⟨Nat.le_of_ble_eq_true rfl, Nat.le_of_ble_eq_true rfl⟩ ?_
          refine n_i2l hx hb (by omega) dX5_keyFor_46 ?_
          refine lv_bipush (v := nI 43) hx hb dX5_keyFor_47 (by decide) ?_
          refine n_lshl hx hb (by omega) dX5_keyFor_49 ?_
          refine n_lor hx hb dX5_keyFor_50 ?_
          exact rz_lE hC (congrArg lN (by first | (exfalso; omega) | simp [keyF, kF1, kF2, c_1, c_5, c_6, c_7])) dX5_keyFor_51
    · -- f 13
      refine lv_lload hx hb dX5_keyFor_13 (lv_at hl 0 rfl) ?_
      refine lv_ldc2 (v := lN 18446744009285042175) hx hb hown (hts _ kw_404) dX5_keyFor_15 ?_
      refine n_land hx hb dX5_keyFor_18 ?_
      have f_9 : x0 &&& 18446744009285042175 ≤ 18446744009285042175 := Nat.and_le_right
      refine lv_lstore (lv' := [(4, .long (lN (x0 &&& 18446744009285042175))), (0, .long (lN x0)), (2, .int (nI rr)), (3, .int (nI oo))]) hx hb dX5_keyFor_19 hl (by decide) rfl (fun ls hl => ?_)
      refine lv_iload_n hx hb dX5_keyFor_21 rfl (lv_at hl 2 rfl) ?_
      refine lv_iconst (v := nI 3) hx hb dX5_keyFor_22 (by decide) ?_
      refine n_icmp_eq (tgt := 39) hx hb (by omega) (by omega) dX5_keyFor_23 (by decide) (fun c_10 => ?_) (fun c_10 => ?_)
      · -- t 39
        refine lv_lload hx hb dX5_keyFor_39 (lv_at hl 0 rfl) ?_
        refine lv_iload_n hx hb dX5_keyFor_41 rfl (lv_at hl 2 rfl) ?_
        refine lv_iload_n hx hb dX5_keyFor_42 rfl (lv_at hl 3 rfl) ?_
        refine cN_p (rest := [.long (lN (x0 &&& 18446744009285042175))]) hC (k_pairOf l rr oo ) hN.2.1 sy_X11_pairOf ⟨Nat.le_of_ble_eq_true rfl, Nat.le_of_ble_eq_true rfl⟩ ⟨rfl, rfl⟩ rfl hl.1 rfl (Nat.le_of_ble_eq_true rfl) dX5_keyFor_43 ⟨Nat.le_of_ble_eq_true rfl, Nat.le_of_ble_eq_true rfl⟩ ?_
        refine n_i2l hx hb (by omega) dX5_keyFor_46 ?_
        refine lv_bipush (v := nI 43) hx hb dX5_keyFor_47 (by decide) ?_
        refine n_lshl hx hb (by omega) dX5_keyFor_49 ?_
        refine n_lor hx hb dX5_keyFor_50 ?_
        exact rz_lE hC (congrArg lN (by first | (exfalso; omega) | simp [keyF, kF1, kF2, c_1, c_5, c_10])) dX5_keyFor_51
      · -- f 26
        refine lv_iload_n hx hb dX5_keyFor_26 rfl (lv_at hl 3 rfl) ?_
        refine lv_iconst (v := nI 3) hx hb dX5_keyFor_27 (by decide) ?_
        refine n_icmp_eq (tgt := 39) hx hb (by omega) (by omega) dX5_keyFor_28 (by decide) (fun c_11 => ?_) (fun c_11 => ?_)
        · -- t 39
          refine lv_lload hx hb dX5_keyFor_39 (lv_at hl 0 rfl) ?_
          refine lv_iload_n hx hb dX5_keyFor_41 rfl (lv_at hl 2 rfl) ?_
          refine lv_iload_n hx hb dX5_keyFor_42 rfl (lv_at hl 3 rfl) ?_
          refine cN_p (rest := [.long (lN (x0 &&& 18446744009285042175))]) hC (k_pairOf l rr oo ) hN.2.1 sy_X11_pairOf ⟨Nat.le_of_ble_eq_true rfl, Nat.le_of_ble_eq_true rfl⟩ ⟨rfl, rfl⟩ rfl hl.1 rfl (Nat.le_of_ble_eq_true rfl) dX5_keyFor_43 ⟨Nat.le_of_ble_eq_true rfl, Nat.le_of_ble_eq_true rfl⟩ ?_
          refine n_i2l hx hb (by omega) dX5_keyFor_46 ?_
          refine lv_bipush (v := nI 43) hx hb dX5_keyFor_47 (by decide) ?_
          refine n_lshl hx hb (by omega) dX5_keyFor_49 ?_
          refine n_lor hx hb dX5_keyFor_50 ?_
          exact rz_lE hC (congrArg lN (by first | (exfalso; omega) | simp [keyF, kF1, kF2, c_1, c_5, c_10, c_11])) dX5_keyFor_51
        · -- f 31
          refine lv_lload hx hb dX5_keyFor_31 (lv_at hl 0 rfl) ?_
          refine lv_ldc2 (v := lN 18446743042917400575) hx hb hown (hts _ kw_405) dX5_keyFor_33 ?_
          refine n_land hx hb dX5_keyFor_36 ?_
          have f_12 : (x0 &&& 18446744009285042175) &&& 18446743042917400575 ≤ 18446743042917400575 := Nat.and_le_right
          refine lv_lstore (lv' := [(4, .long (lN ((x0 &&& 18446744009285042175) &&& 18446743042917400575))), (0, .long (lN x0)), (2, .int (nI rr)), (3, .int (nI oo))]) hx hb dX5_keyFor_37 hl (by decide) rfl (fun ls hl => ?_)
          refine lv_lload hx hb dX5_keyFor_39 (lv_at hl 0 rfl) ?_
          refine lv_iload_n hx hb dX5_keyFor_41 rfl (lv_at hl 2 rfl) ?_
          refine lv_iload_n hx hb dX5_keyFor_42 rfl (lv_at hl 3 rfl) ?_
          refine cN_p (rest := [.long (lN ((x0 &&& 18446744009285042175) &&& 18446743042917400575))]) hC (k_pairOf l rr oo ) hN.2.1 sy_X11_pairOf ⟨Nat.le_of_ble_eq_true rfl, Nat.le_of_ble_eq_true rfl⟩ ⟨rfl, rfl⟩ rfl hl.1 rfl (Nat.le_of_ble_eq_true rfl) dX5_keyFor_43 ⟨Nat.le_of_ble_eq_true rfl, Nat.le_of_ble_eq_true rfl⟩ ?_
          refine n_i2l hx hb (by omega) dX5_keyFor_46 ?_
          refine lv_bipush (v := nI 43) hx hb dX5_keyFor_47 (by decide) ?_
          refine n_lshl hx hb (by omega) dX5_keyFor_49 ?_
          refine n_lor hx hb dX5_keyFor_50 ?_
          exact rz_lE hC (congrArg lN (by first | (exfalso; omega) | simp [keyF, kF1, kF2, c_1, c_5, c_10, c_11])) dX5_keyFor_51

set_option maxHeartbeats 4000000 in
set_option maxRecDepth 100000 in
theorem k_first (l : Launch) (nn xx : Nat) (h1 : nn ≤ 4) (h2 : xx < 65536) : Pz l yX5_first cX5_first 5 (some .long) rm_X5_first [.int (nI nn), .int (nI xx)] (some (.long (lN (frS nn xx nn)))) := by
  refine mk_pz (by decide) (Nat.le_of_ble_eq_true rfl) ?_
  intro p e s m args below meth c hC ls hl
  obtain ⟨hx, hb, hr, hts, hown, hml, hlk, hN⟩ := id hC
  have hl : lv_has ls 5 [(0, .int (nI nn)), (1, .int (nI xx))] := hl
  refine lv_iload_n hx hb dX5_first_0 rfl (lv_at hl 0 rfl) ?_
  refine n_i2l hx hb (by omega) dX5_first_1 ?_
  refine lv_bipush (v := nI 40) hx hb dX5_first_2 (by decide) ?_
  refine n_lshl hx hb (by omega) dX5_first_4 ?_
  refine lv_iload_n hx hb dX5_first_5 rfl (lv_at hl 1 rfl) ?_
  refine n_i2l hx hb (by omega) dX5_first_6 ?_
  refine lv_bipush (v := nI 16) hx hb dX5_first_7 (by decide) ?_
  refine n_lshl hx hb (by omega) dX5_first_9 ?_
  refine n_lor hx hb dX5_first_10 ?_
  refine lv_lstore_n (lv' := [(2, .long (lN ((nn <<< 40) ||| (xx <<< 16)))), (0, .int (nI nn)), (1, .int (nI xx))]) hx hb dX5_first_11 rfl hl (by decide) rfl (fun ls hl => ?_)
  refine lv_iconst (v := nI 0) hx hb dX5_first_12 (by decide) ?_
  refine lv_istore (lv' := [(4, .int (nI 0)), (2, .long (lN ((nn <<< 40) ||| (xx <<< 16)))), (0, .int (nI nn)), (1, .int (nI xx))]) hx hb dX5_first_13 hl (by decide) rfl (fun ls hl => ?_)
  have lp_1 : ∀ (n_lp_1 : Nat) (k : Nat) (hk : k ≤ nn), nn - k < n_lp_1 → ∀ (ls : Array Slot), lv_has ls 5 [(0, .int (nI nn)), (1, .int (nI xx)), (2, .long (lN (frS nn xx k))), (4, .int (nI k))] → W p l e rm_X5_first s m args below meth c s.heap [] 0 0 (MQ below (pz_Q (some (.long (lN (frS nn xx nn))))) args s 0 0 pz_F) (F0 m 15 ls []) := by
    intro n_lp_1
    induction n_lp_1 with
    | zero => intro k hk; intro hm_lp_1; exact absurd hm_lp_1 (Nat.not_lt_zero _)
    | succ n_lp_1 ih_lp_1 =>
      intro k hk hm_lp_1 ls hl
      refine lv_iload hx hb dX5_first_15 (lv_at hl 3 rfl) ?_
      refine lv_iload_n hx hb dX5_first_17 rfl (lv_at hl 0 rfl) ?_
      refine n_icmp_ge (tgt := 55) hx hb (by omega) (by omega) dX5_first_18 (by decide) (fun c_2 => ?_) (fun c_2 => ?_)
      · -- t 55
        refine lv_lload_n hx hb dX5_first_55 rfl (lv_at hl 2 rfl) ?_
        exact rz_lE hC (by rw [show k = nn by omega]) dX5_first_56
      · -- f 21
        refine lv_lload_n hx hb dX5_first_21 rfl (lv_at hl 2 rfl) ?_
        refine lv_lconst (v := lN 1) hx hb dX5_first_22 (by decide) ?_
        refine lv_iload hx hb dX5_first_23 (lv_at hl 3 rfl) ?_
        refine lv_iload hx hb dX5_first_25 (lv_at hl 3 rfl) ?_
        refine cN_p (rest := [.long (lN 1), .long (lN (frS nn xx k))]) hC (k_pairOf l k k ) hN.2.1 sy_X11_pairOf ⟨Nat.le_of_ble_eq_true rfl, Nat.le_of_ble_eq_true rfl⟩ ⟨rfl, rfl⟩ rfl hl.1 rfl (Nat.le_of_ble_eq_true rfl) dX5_first_27 ⟨Nat.le_of_ble_eq_true rfl, Nat.le_of_ble_eq_true rfl⟩ ?_
        refine n_lshl hx hb (by omega) dX5_first_30 ?_
        refine lv_lconst (v := lN 1) hx hb dX5_first_31 (by decide) ?_
        refine lv_bipush (v := nI 32) hx hb dX5_first_32 (by decide) ?_
        refine lv_iload hx hb dX5_first_34 (lv_at hl 3 rfl) ?_
        refine n_iadd hx hb dX5_first_36 ?_
        refine n_lshl hx hb (by omega) dX5_first_37 ?_
        refine n_lor hx hb dX5_first_38 ?_
        refine lv_lconst (v := lN 1) hx hb dX5_first_39 (by decide) ?_
        refine lv_bipush (v := nI 36) hx hb dX5_first_40 (by decide) ?_
        refine lv_iload hx hb dX5_first_42 (lv_at hl 3 rfl) ?_
        refine n_iadd hx hb dX5_first_44 ?_
        refine n_lshl hx hb (by omega) dX5_first_45 ?_
        refine n_lor hx hb dX5_first_46 ?_
        refine n_lor hx hb dX5_first_47 ?_
        refine lv_lstore_n (lv' := [(2, .long (lN ((frS nn xx k) ||| (((1 <<< (4 * k + k)) ||| (1 <<< (32 + k))) ||| (1 <<< (36 + k)))))), (0, .int (nI nn)), (1, .int (nI xx)), (4, .int (nI k))]) hx hb dX5_first_48 rfl hl (by decide) rfl (fun ls hl => ?_)
        refine lv_iinc (v := nI (k + 1)) (lv' := [(4, .int (nI (k + 1))), (2, .long (lN ((frS nn xx k) ||| (((1 <<< (4 * k + k)) ||| (1 <<< (32 + k))) ||| (1 <<< (36 + k)))))), (0, .int (nI nn)), (1, .int (nI xx))]) hx hb dX5_first_49 hl (k := 3) rfl (ii_1 _) (by decide) rfl (fun ls hl => ?_)
        refine lv_goto (tgt := 15) hx hb dX5_first_52 (by decide) ?_
        exact ih_lp_1 (k + 1) (by omega) (by omega) ls (lv_sub hl [2, 3, 1, 0] rfl)
  exact lp_1 _ 0 (Nat.zero_le _) (Nat.lt_succ_self _) ls (lv_sub hl [2, 3, 1, 0] rfl)

set_option maxHeartbeats 4000000 in
set_option maxRecDepth 100000 in
theorem k_sight (l : Launch) (ww pp qq x0 : Nat) (h0 : ww < 4) (h1 : x0 < 2 ^ 63) (h2 : pp < 4) (h3 : qq < 4) : Pz l yX0_sight cX0_sight 5 (some .int) rm_X0_sight [.int (nI ww), .int (nI pp), .int (nI qq), .long (lN x0)] (some (.int (nI (sgt ww pp qq x0)))) := by
  refine mk_pz (by decide) (Nat.le_of_ble_eq_true rfl) ?_
  intro p e s m args below meth c hC ls hl
  obtain ⟨hx, hb, hr, hts, hown, hml, hlk, hN⟩ := id hC
  have hl : lv_has ls 5 [(0, .int (nI ww)), (1, .int (nI pp)), (2, .int (nI qq)), (3, .long (lN x0))] := hl
  refine lv_iload_n hx hb dX0_sight_0 rfl (lv_at hl 0 rfl) ?_
  refine lv_iload_n hx hb dX0_sight_1 rfl (lv_at hl 1 rfl) ?_
  refine n_icmp_eq (tgt := 12) hx hb (by omega) (by omega) dX0_sight_2 (by decide) (fun c_1 => ?_) (fun c_1 => ?_)
  · -- t 12
    refine lv_lload_n hx hb dX0_sight_12 rfl (lv_at hl 3 rfl) ?_
    refine lv_iload_n hx hb dX0_sight_13 rfl (lv_at hl 0 rfl) ?_
    refine cS_p (rest := []) hC (k_secretsOf l x0 ww (by omega) (by omega)) kw_508 sy_X5_secretsOf ⟨Nat.le_of_ble_eq_true rfl, Nat.le_of_ble_eq_true rfl⟩ ⟨rfl, rfl⟩ rfl hl.1 rfl (Nat.le_of_ble_eq_true rfl) dX0_sight_14 ⟨Nat.le_of_ble_eq_true rfl, Nat.le_of_ble_eq_true rfl⟩ ?_
    have f_2 := of4_lt x0 ww
    refine lv_iconst (v := nI 4) hx hb dX0_sight_17 (by decide) ?_
    refine n_ishl hx hb (by omega) dX0_sight_18 ?_
    refine lv_iload_n hx hb dX0_sight_19 rfl (lv_at hl 1 rfl) ?_
    refine lv_iload_n hx hb dX0_sight_20 rfl (lv_at hl 2 rfl) ?_
    refine cN_p (rest := [.int (nI ((of4 x0 ww) <<< 4))]) hC (k_pairOf l pp qq ) hN.2.2.2.2.2.2.2.1 sy_X11_pairOf ⟨Nat.le_of_ble_eq_true rfl, Nat.le_of_ble_eq_true rfl⟩ ⟨rfl, rfl⟩ rfl hl.1 rfl (Nat.le_of_ble_eq_true rfl) dX0_sight_21 ⟨Nat.le_of_ble_eq_true rfl, Nat.le_of_ble_eq_true rfl⟩ ?_
    refine n_ior hx hb dX0_sight_24 ?_
    exact rz_iE hC (by simp [sgt, c_1]) dX0_sight_25
  · -- f 5
    refine lv_iload_n hx hb dX0_sight_5 rfl (lv_at hl 0 rfl) ?_
    refine lv_iload_n hx hb dX0_sight_6 rfl (lv_at hl 2 rfl) ?_
    refine n_icmp_eq (tgt := 12) hx hb (by omega) (by omega) dX0_sight_7 (by decide) (fun c_3 => ?_) (fun c_3 => ?_)
    · -- t 12
      refine lv_lload_n hx hb dX0_sight_12 rfl (lv_at hl 3 rfl) ?_
      refine lv_iload_n hx hb dX0_sight_13 rfl (lv_at hl 0 rfl) ?_
      refine cS_p (rest := []) hC (k_secretsOf l x0 ww (by omega) (by omega)) kw_508 sy_X5_secretsOf ⟨Nat.le_of_ble_eq_true rfl, Nat.le_of_ble_eq_true rfl⟩ ⟨rfl, rfl⟩ rfl hl.1 rfl (Nat.le_of_ble_eq_true rfl) dX0_sight_14 ⟨Nat.le_of_ble_eq_true rfl, Nat.le_of_ble_eq_true rfl⟩ ?_
      have f_4 := of4_lt x0 ww
      refine lv_iconst (v := nI 4) hx hb dX0_sight_17 (by decide) ?_
      refine n_ishl hx hb (by omega) dX0_sight_18 ?_
      refine lv_iload_n hx hb dX0_sight_19 rfl (lv_at hl 1 rfl) ?_
      refine lv_iload_n hx hb dX0_sight_20 rfl (lv_at hl 2 rfl) ?_
      refine cN_p (rest := [.int (nI ((of4 x0 ww) <<< 4))]) hC (k_pairOf l pp qq ) hN.2.2.2.2.2.2.2.1 sy_X11_pairOf ⟨Nat.le_of_ble_eq_true rfl, Nat.le_of_ble_eq_true rfl⟩ ⟨rfl, rfl⟩ rfl hl.1 rfl (Nat.le_of_ble_eq_true rfl) dX0_sight_21 ⟨Nat.le_of_ble_eq_true rfl, Nat.le_of_ble_eq_true rfl⟩ ?_
      refine n_ior hx hb dX0_sight_24 ?_
      exact rz_iE hC (by simp [sgt, c_1, c_3]) dX0_sight_25
    · -- f 10
      refine lv_iconst (v := nI 0) hx hb dX0_sight_10 (by decide) ?_
      exact rz_iE hC (by simp [sgt, c_1, c_3]) dX0_sight_11

set_option maxHeartbeats 4000000 in
set_option maxRecDepth 100000 in
theorem k_isDigit (l : Launch) (v1 : Int32) : Pz l yX3_isDigit cX3_isDigit 1 (some .boolean) rm_X3_isDigit [.int v1] (some (.int (bI (isIn v1 (nI 48) (nI 51))))) := by
  refine mk_pz (by decide) (Nat.le_of_ble_eq_true rfl) ?_
  intro p e s m args below meth c hC ls hl
  obtain ⟨hx, hb, hr, hts, hown, hml, hlk, hN⟩ := id hC
  have hl : lv_has ls 1 [(0, .int v1)] := hl
  refine lv_iload_n hx hb dX3_isDigit_0 rfl (lv_at hl 0 rfl) ?_
  refine lv_bipush (v := nI 48) hx hb dX3_isDigit_1 (by decide) ?_
  refine lv_icmp_lt (tgt := 16) hx hb dX3_isDigit_3 (by decide) (fun c_1 => ?_) (fun c_1 => ?_)
  · -- t 16
    refine lv_iconst (v := nI 0) hx hb dX3_isDigit_16 (by decide) ?_
    exact rz_bE hC (by first | rw [isIn_t2 (b := 51) (by decide) (by assumption) (by assumption)]; rfl | rw [isIn_f1 (by assumption)]; rfl | rw [isIn_f3 (b := 51) (by decide) (by assumption)]; rfl) dX3_isDigit_17
  · -- f 6
    refine lv_iload_n hx hb dX3_isDigit_6 rfl (lv_at hl 0 rfl) ?_
    refine lv_bipush (v := nI 52) hx hb dX3_isDigit_7 (by decide) ?_
    refine lv_icmp_ge (tgt := 16) hx hb dX3_isDigit_9 (by decide) (fun c_2 => ?_) (fun c_2 => ?_)
    · -- t 16
      refine lv_iconst (v := nI 0) hx hb dX3_isDigit_16 (by decide) ?_
      exact rz_bE hC (by first | rw [isIn_t2 (b := 51) (by decide) (by assumption) (by assumption)]; rfl | rw [isIn_f1 (by assumption)]; rfl | rw [isIn_f3 (b := 51) (by decide) (by assumption)]; rfl) dX3_isDigit_17
    · -- f 12
      refine lv_iconst (v := nI 1) hx hb dX3_isDigit_12 (by decide) ?_
      refine lv_goto (tgt := 17) hx hb dX3_isDigit_13 (by decide) ?_
      exact rz_bE hC (by first | rw [isIn_t2 (b := 51) (by decide) (by assumption) (by assumption)]; rfl | rw [isIn_f1 (by assumption)]; rfl | rw [isIn_f3 (b := 51) (by decide) (by assumption)]; rfl) dX3_isDigit_17

set_option maxHeartbeats 4000000 in
set_option maxRecDepth 100000 in
theorem k_reach (l : Launch) (nn xx ff : Nat) (h1 : nn ≤ 4) (h2 : xx < 65536) (h3 : ff < 4) : Pz l yX2_reach cX2_reach 6 (some .int) rm_X2_reach [.int (nI nn), .int (nI xx), .int (nI ff)] (some (.int (nI (rch nn xx ff)))) := by
  refine mk_pz (by decide) (Nat.le_of_ble_eq_true rfl) ?_
  intro p e s m args below meth c hC ls hl
  obtain ⟨hx, hb, hr, hts, hown, hml, hlk, hN⟩ := id hC
  have hl : lv_has ls 6 [(0, .int (nI nn)), (1, .int (nI xx)), (2, .int (nI ff))] := hl
  refine lv_iconst (v := nI 1) hx hb dX2_reach_0 (by decide) ?_
  refine lv_iload_n hx hb dX2_reach_1 rfl (lv_at hl 2 rfl) ?_
  refine n_ishl hx hb (by omega) dX2_reach_2 ?_
  refine lv_istore_n (lv' := [(3, .int (nI (1 <<< ff))), (0, .int (nI nn)), (1, .int (nI xx)), (2, .int (nI ff))]) hx hb dX2_reach_3 rfl hl (by decide) rfl (fun ls hl => ?_)
  refine lv_iconst (v := nI 0) hx hb dX2_reach_4 (by decide) ?_
  refine lv_istore (lv' := [(4, .int (nI 0)), (3, .int (nI (1 <<< ff))), (0, .int (nI nn)), (1, .int (nI xx)), (2, .int (nI ff))]) hx hb dX2_reach_5 hl (by decide) rfl (fun ls hl => ?_)
  have lp_1 : ∀ (n_lp_1 : Nat) (a1 : Nat) (ha1 : a1 ≤ nn), nn - a1 < n_lp_1 → ∀ (ls : Array Slot), lv_has ls 6 [(0, .int (nI nn)), (1, .int (nI xx)), (2, .int (nI ff)), (3, .int (nI (rcA nn xx ff a1))), (4, .int (nI a1))] → W p l e rm_X2_reach s m args below meth c s.heap [] 0 0 (MQ below (pz_Q (some (.int (nI (rch nn xx ff))))) args s 0 0 pz_F) (F0 m 7 ls []) := by
    intro n_lp_1
    induction n_lp_1 with
    | zero => intro a1 ha1; intro hm_lp_1; exact absurd hm_lp_1 (Nat.not_lt_zero _)
    | succ n_lp_1 ih_lp_1 =>
      intro a1 ha1 hm_lp_1 ls hl
      refine lv_iload hx hb dX2_reach_7 (lv_at hl 4 rfl) ?_
      refine lv_iload_n hx hb dX2_reach_9 rfl (lv_at hl 0 rfl) ?_
      refine n_icmp_ge (tgt := 52) hx hb (by omega) (by omega) dX2_reach_10 (by decide) (fun c_2 => ?_) (fun c_2 => ?_)
      · -- t 52
        refine lv_iload_n hx hb dX2_reach_52 rfl (lv_at hl 3 rfl) ?_
        exact rz_iE hC (by rw [show a1 = nn by omega]) dX2_reach_53
      · -- f 13
        refine lv_iconst (v := nI 0) hx hb dX2_reach_13 (by decide) ?_
        refine lv_istore (lv' := [(5, .int (nI 0)), (0, .int (nI nn)), (1, .int (nI xx)), (2, .int (nI ff)), (3, .int (nI (rcA nn xx ff a1))), (4, .int (nI a1))]) hx hb dX2_reach_14 hl (by decide) rfl (fun ls hl => ?_)
        have lp_3 : ∀ (n_lp_3 : Nat) (k : Nat) (hk : k ≤ nn), nn - k < n_lp_3 → ∀ (ls : Array Slot), lv_has ls 6 [(0, .int (nI nn)), (1, .int (nI xx)), (2, .int (nI ff)), (3, .int (nI (rcQ xx (rcA nn xx ff a1) k))), (4, .int (nI a1)), (5, .int (nI k))] → W p l e rm_X2_reach s m args below meth c s.heap [] 0 0 (MQ below (pz_Q (some (.int (nI (rch nn xx ff))))) args s 0 0 pz_F) (F0 m 16 ls []) := by
          intro n_lp_3
          induction n_lp_3 with
          | zero => intro k hk; intro hm_lp_3; exact absurd hm_lp_3 (Nat.not_lt_zero _)
          | succ n_lp_3 ih_lp_3 =>
            intro k hk hm_lp_3 ls hl
            have hlt := rcQ_lt (x := xx) (rcA_lt (n := nn) (x := xx) h3 a1) k
            refine lv_iload hx hb dX2_reach_16 (lv_at hl 5 rfl) ?_
            refine lv_iload_n hx hb dX2_reach_18 rfl (lv_at hl 0 rfl) ?_
            refine n_icmp_ge (tgt := 46) hx hb (by omega) (by omega) dX2_reach_19 (by decide) (fun c_4 => ?_) (fun c_4 => ?_)
            · -- t 46
              refine lv_iinc (v := nI (a1 + 1)) (lv' := [(4, .int (nI (a1 + 1))), (0, .int (nI nn)), (1, .int (nI xx)), (2, .int (nI ff)), (3, .int (nI (rcQ xx (rcA nn xx ff a1) k))), (5, .int (nI k))]) hx hb dX2_reach_46 hl (k := 4) rfl (ii_1 _) (by decide) rfl (fun ls hl => ?_)
              refine lv_goto (tgt := 7) hx hb dX2_reach_49 (by decide) ?_
              exact ih_lp_1 (a1 + 1) (by omega) (by omega) ls (by have h9 : lv_has ls 6 [(0, .int (nI nn)), (1, .int (nI xx)), (2, .int (nI ff)), (3, .int (nI (rcQ xx (rcA nn xx ff a1) k))), (4, .int (nI (a1 + 1)))] := lv_sub hl [1, 2, 3, 4, 0] rfl; rw [show rcA nn xx ff (a1 + 1) = rcQ xx (rcA nn xx ff a1) nn from rfl]; rw [show k = nn by omega] at h9; exact h9)
            · -- f 22
              refine lv_iload_n hx hb dX2_reach_22 rfl (lv_at hl 3 rfl) ?_
              refine lv_iload hx hb dX2_reach_23 (lv_at hl 5 rfl) ?_
              refine cN_p (rest := []) hC (k_contains l (rcQ xx (rcA nn xx ff a1) k) k (by omega) (by omega)) hN.2.2.2.2.2.2.2.2.2.1 sy_X11_contains ⟨Nat.le_of_ble_eq_true rfl, Nat.le_of_ble_eq_true rfl⟩ ⟨rfl, rfl⟩ rfl hl.1 rfl (Nat.le_of_ble_eq_true rfl) dX2_reach_25 ⟨Nat.le_of_ble_eq_true rfl, Nat.le_of_ble_eq_true rfl⟩ ?_
              refine b_if_eq (tgt := 40) hx hb dX2_reach_28 (by decide) (fun c_5 => ?_) (fun c_5 => ?_)
              · -- t 40
                refine lv_iinc (v := nI (k + 1)) (lv' := [(5, .int (nI (k + 1))), (0, .int (nI nn)), (1, .int (nI xx)), (2, .int (nI ff)), (3, .int (nI (rcQ xx (rcA nn xx ff a1) k))), (4, .int (nI a1))]) hx hb dX2_reach_40 hl (k := 5) rfl (ii_1 _) (by decide) rfl (fun ls hl => ?_)
                refine lv_goto (tgt := 16) hx hb dX2_reach_43 (by decide) ?_
                exact ih_lp_3 (k + 1) (by omega) (by omega) ls (by have h9 : lv_has ls 6 [(0, .int (nI nn)), (1, .int (nI xx)), (2, .int (nI ff)), (3, .int (nI (rcQ xx (rcA nn xx ff a1) k))), (4, .int (nI a1)), (5, .int (nI (k + 1)))] := lv_sub hl [1, 2, 3, 4, 5, 0] rfl; simpa [rcQ, c_2, c_4, c_5] using h9)
              · -- f 31
                refine lv_iload_n hx hb dX2_reach_31 rfl (lv_at hl 3 rfl) ?_
                refine lv_iload_n hx hb dX2_reach_32 rfl (lv_at hl 1 rfl) ?_
                refine lv_iload hx hb dX2_reach_33 (lv_at hl 5 rfl) ?_
                refine cS_p (rest := [.int (nI (rcQ xx (rcA nn xx ff a1) k))]) hC (k_partOf l xx k (by omega) (by omega)) kw_558 sy_X5_partOf ⟨Nat.le_of_ble_eq_true rfl, Nat.le_of_ble_eq_true rfl⟩ ⟨rfl, rfl⟩ rfl hl.1 rfl (Nat.le_of_ble_eq_true rfl) dX2_reach_35 ⟨Nat.le_of_ble_eq_true rfl, Nat.le_of_ble_eq_true rfl⟩ ?_
                have f_6 := prt_lt xx k
                refine n_ior hx hb dX2_reach_38 ?_
                refine lv_istore_n (lv' := [(3, .int (nI ((rcQ xx (rcA nn xx ff a1) k) ||| (prt xx k)))), (0, .int (nI nn)), (1, .int (nI xx)), (2, .int (nI ff)), (4, .int (nI a1)), (5, .int (nI k))]) hx hb dX2_reach_39 rfl hl (by decide) rfl (fun ls hl => ?_)
                refine lv_iinc (v := nI (k + 1)) (lv' := [(5, .int (nI (k + 1))), (3, .int (nI ((rcQ xx (rcA nn xx ff a1) k) ||| (prt xx k)))), (0, .int (nI nn)), (1, .int (nI xx)), (2, .int (nI ff)), (4, .int (nI a1))]) hx hb dX2_reach_40 hl (k := 5) rfl (ii_1 _) (by decide) rfl (fun ls hl => ?_)
                refine lv_goto (tgt := 16) hx hb dX2_reach_43 (by decide) ?_
                exact ih_lp_3 (k + 1) (by omega) (by omega) ls (by have h9 : lv_has ls 6 [(0, .int (nI nn)), (1, .int (nI xx)), (2, .int (nI ff)), (3, .int (nI ((rcQ xx (rcA nn xx ff a1) k) ||| (prt xx k)))), (4, .int (nI a1)), (5, .int (nI (k + 1)))] := lv_sub hl [2, 3, 4, 1, 5, 0] rfl; simpa [rcQ, c_2, c_4, c_5] using h9)
        exact lp_3 _ 0 (Nat.zero_le _) (Nat.lt_succ_self _) ls (lv_sub hl [1, 2, 3, 4, 5, 0] rfl)
  exact lp_1 _ 0 (Nat.zero_le _) (Nat.lt_succ_self _) ls (lv_sub hl [2, 3, 4, 1, 0] rfl)

set_option maxHeartbeats 4000000 in
set_option maxRecDepth 100000 in
theorem k_isJoined (l : Launch) (nn xx : Nat) (h1 : nn ≤ 4) (h2 : xx < 65536) : Pz l yX2_isJoined cX2_isJoined 5 (some .boolean) rm_X2_isJoined [.int (nI nn), .int (nI xx)] (some (.int (bI (joC nn xx)))) := by
  refine mk_pz (by decide) (Nat.le_of_ble_eq_true rfl) ?_
  intro p e s m args below meth c hC ls hl
  obtain ⟨hx, hb, hr, hts, hown, hml, hlk, hN⟩ := id hC
  have hl : lv_has ls 5 [(0, .int (nI nn)), (1, .int (nI xx))] := hl
  refine lv_iload_n hx hb dX2_isJoined_0 rfl (lv_at hl 1 rfl) ?_
  refine lv_istore_n (lv' := [(2, .int (nI xx)), (0, .int (nI nn)), (1, .int (nI xx))]) hx hb dX2_isJoined_1 rfl hl (by decide) rfl (fun ls hl => ?_)
  refine lv_iconst (v := nI 0) hx hb dX2_isJoined_2 (by decide) ?_
  refine lv_istore_n (lv' := [(3, .int (nI 0)), (2, .int (nI xx)), (0, .int (nI nn)), (1, .int (nI xx))]) hx hb dX2_isJoined_3 rfl hl (by decide) rfl (fun ls hl => ?_)
  have lp_1 : ∀ (n_lp_1 : Nat) (a1 : Nat) (ha1 : a1 ≤ nn), nn - a1 < n_lp_1 → ∀ (ls : Array Slot), lv_has ls 5 [(0, .int (nI nn)), (1, .int (nI xx)), (2, .int (nI (bwP nn xx a1))), (3, .int (nI a1))] → W p l e rm_X2_isJoined s m args below meth c s.heap [] 0 0 (MQ below (pz_Q (some (.int (bI (joC nn xx))))) args s 0 0 pz_F) (F0 m 4 ls []) := by
    intro n_lp_1
    induction n_lp_1 with
    | zero => intro a1 ha1; intro hm_lp_1; exact absurd hm_lp_1 (Nat.not_lt_zero _)
    | succ n_lp_1 ih_lp_1 =>
      intro a1 ha1 hm_lp_1 ls hl
      have hlt := bwP_lt h1 h2 a1 (by omega)
      refine lv_iload_n hx hb dX2_isJoined_4 rfl (lv_at hl 3 rfl) ?_
      refine lv_iload_n hx hb dX2_isJoined_5 rfl (lv_at hl 0 rfl) ?_
      refine n_icmp_ge (tgt := 54) hx hb (by omega) (by omega) dX2_isJoined_6 (by decide) (fun c_2 => ?_) (fun c_2 => ?_)
      · -- t 54
        refine lv_iload_n hx hb dX2_isJoined_54 rfl (lv_at hl 0 rfl) ?_
        refine lv_iload_n hx hb dX2_isJoined_55 rfl (lv_at hl 2 rfl) ?_
        refine lv_iconst (v := nI 0) hx hb dX2_isJoined_56 (by decide) ?_
        refine cS_p (rest := []) hC (k_reach l nn (bwP nn xx a1) 0 (by omega) (by omega) (by omega)) kw_555 sy_X2_reach ⟨Nat.le_of_ble_eq_true rfl, Nat.le_of_ble_eq_true rfl⟩ ⟨rfl, rfl⟩ rfl hl.1 rfl (Nat.le_of_ble_eq_true rfl) dX2_isJoined_57 ⟨Nat.le_of_ble_eq_true rfl, Nat.le_of_ble_eq_true rfl⟩ ?_
        have f_3 := (show rch nn (bwP nn xx a1) 0 < 16 from rcA_lt (n := nn) (x := (bwP nn xx a1)) (by omega : 0 < 4) nn)
        refine lv_iconst (v := nI 1) hx hb dX2_isJoined_60 (by decide) ?_
        refine lv_iload_n hx hb dX2_isJoined_61 rfl (lv_at hl 0 rfl) ?_
        refine n_ishl hx hb (by omega) dX2_isJoined_62 ?_
        refine lv_iconst (v := nI 1) hx hb dX2_isJoined_63 (by decide) ?_
        have hle := one_le_shl nn; have hes := eS_lt h1
        refine n_isub hx hb (by omega) dX2_isJoined_64 ?_
        refine n_icmp_ne (tgt := 72) hx hb (by omega) (by omega) dX2_isJoined_65 (by decide) (fun c_4 => ?_) (fun c_4 => ?_)
        · -- t 72
          refine lv_iconst (v := nI 0) hx hb dX2_isJoined_72 (by decide) ?_
          exact rz_bE hC (by rw [show joC nn xx = false from by have e9 : a1 = nn := (by omega); rw [e9] at c_4; unfold joC; exact beq_false_of_ne c_4]; rfl) dX2_isJoined_73
        · -- f 68
          refine lv_iconst (v := nI 1) hx hb dX2_isJoined_68 (by decide) ?_
          refine lv_goto (tgt := 73) hx hb dX2_isJoined_69 (by decide) ?_
          exact rz_bE hC (by rw [show joC nn xx = true from by have e9 : a1 = nn := (by omega); rw [e9] at c_4; unfold joC; rw [c_4]; exact beq_self_eq_true _]; rfl) dX2_isJoined_73
      · -- f 9
        refine lv_iconst (v := nI 0) hx hb dX2_isJoined_9 (by decide) ?_
        refine lv_istore (lv' := [(4, .int (nI 0)), (0, .int (nI nn)), (1, .int (nI xx)), (2, .int (nI (bwP nn xx a1))), (3, .int (nI a1))]) hx hb dX2_isJoined_10 hl (by decide) rfl (fun ls hl => ?_)
        have lp_5 : ∀ (n_lp_5 : Nat) (k : Nat) (hk : k ≤ nn), nn - k < n_lp_5 → ∀ (ls : Array Slot), lv_has ls 5 [(0, .int (nI nn)), (1, .int (nI xx)), (2, .int (nI (bwQ xx a1 (bwP nn xx a1) k))), (3, .int (nI a1)), (4, .int (nI k))] → W p l e rm_X2_isJoined s m args below meth c s.heap [] 0 0 (MQ below (pz_Q (some (.int (bI (joC nn xx))))) args s 0 0 pz_F) (F0 m 12 ls []) := by
          intro n_lp_5
          induction n_lp_5 with
          | zero => intro k hk; intro hm_lp_5; exact absurd hm_lp_5 (Nat.not_lt_zero _)
          | succ n_lp_5 ih_lp_5 =>
            intro k hk hm_lp_5 ls hl
            refine lv_iload hx hb dX2_isJoined_12 (lv_at hl 4 rfl) ?_
            refine lv_iload_n hx hb dX2_isJoined_14 rfl (lv_at hl 0 rfl) ?_
            refine n_icmp_ge (tgt := 48) hx hb (by omega) (by omega) dX2_isJoined_15 (by decide) (fun c_6 => ?_) (fun c_6 => ?_)
            · -- t 48
              refine lv_iinc (v := nI (a1 + 1)) (lv' := [(3, .int (nI (a1 + 1))), (0, .int (nI nn)), (1, .int (nI xx)), (2, .int (nI (bwQ xx a1 (bwP nn xx a1) k))), (4, .int (nI k))]) hx hb dX2_isJoined_48 hl (k := 3) rfl (ii_1 _) (by decide) rfl (fun ls hl => ?_)
              refine lv_goto (tgt := 4) hx hb dX2_isJoined_51 (by decide) ?_
              exact ih_lp_1 (a1 + 1) (by omega) (by omega) ls (by have h9 : lv_has ls 5 [(0, .int (nI nn)), (1, .int (nI xx)), (2, .int (nI (bwQ xx a1 (bwP nn xx a1) k))), (3, .int (nI (a1 + 1)))] := lv_sub hl [1, 2, 3, 0] rfl; rw [show bwP nn xx (a1 + 1) = bwQ xx a1 (bwP nn xx a1) nn from rfl]; rw [show k = nn by omega] at h9; exact h9)
            · -- f 18
              refine lv_iload_n hx hb dX2_isJoined_18 rfl (lv_at hl 1 rfl) ?_
              refine lv_iload_n hx hb dX2_isJoined_19 rfl (lv_at hl 3 rfl) ?_
              refine lv_iload hx hb dX2_isJoined_20 (lv_at hl 4 rfl) ?_
              refine cN_p (rest := [.int (nI xx)]) hC (k_pairOf l a1 k ) hN.2.2.2.2.2.2.2.2.1 sy_X11_pairOf ⟨Nat.le_of_ble_eq_true rfl, Nat.le_of_ble_eq_true rfl⟩ ⟨rfl, rfl⟩ rfl hl.1 rfl (Nat.le_of_ble_eq_true rfl) dX2_isJoined_22 ⟨Nat.le_of_ble_eq_true rfl, Nat.le_of_ble_eq_true rfl⟩ ?_
              refine cN_p (rest := []) hC (k_contains l xx (4 * a1 + k) (by omega) (by omega)) hN.2.2.2.2.2.2.2.2.2.1 sy_X11_contains ⟨Nat.le_of_ble_eq_true rfl, Nat.le_of_ble_eq_true rfl⟩ ⟨rfl, rfl⟩ rfl hl.1 rfl (Nat.le_of_ble_eq_true rfl) dX2_isJoined_25 ⟨Nat.le_of_ble_eq_true rfl, Nat.le_of_ble_eq_true rfl⟩ ?_
              refine b_if_eq (tgt := 42) hx hb dX2_isJoined_28 (by decide) (fun c_7 => ?_) (fun c_7 => ?_)
              · -- t 42
                refine lv_iinc (v := nI (k + 1)) (lv' := [(4, .int (nI (k + 1))), (0, .int (nI nn)), (1, .int (nI xx)), (2, .int (nI (bwQ xx a1 (bwP nn xx a1) k))), (3, .int (nI a1))]) hx hb dX2_isJoined_42 hl (k := 4) rfl (ii_1 _) (by decide) rfl (fun ls hl => ?_)
                refine lv_goto (tgt := 12) hx hb dX2_isJoined_45 (by decide) ?_
                exact ih_lp_5 (k + 1) (by omega) (by omega) ls (by have h9 : lv_has ls 5 [(0, .int (nI nn)), (1, .int (nI xx)), (2, .int (nI (bwQ xx a1 (bwP nn xx a1) k))), (3, .int (nI a1)), (4, .int (nI (k + 1)))] := lv_sub hl [1, 2, 3, 4, 0] rfl; simpa [bwQ, c_2, c_6, c_7] using h9)
              · -- f 31
                refine lv_iload_n hx hb dX2_isJoined_31 rfl (lv_at hl 2 rfl) ?_
                refine lv_iconst (v := nI 1) hx hb dX2_isJoined_32 (by decide) ?_
                refine lv_iload hx hb dX2_isJoined_33 (lv_at hl 4 rfl) ?_
                refine lv_iload_n hx hb dX2_isJoined_35 rfl (lv_at hl 3 rfl) ?_
                refine cN_p (rest := [.int (nI 1), .int (nI (bwQ xx a1 (bwP nn xx a1) k))]) hC (k_pairOf l k a1 ) hN.2.2.2.2.2.2.2.2.1 sy_X11_pairOf ⟨Nat.le_of_ble_eq_true rfl, Nat.le_of_ble_eq_true rfl⟩ ⟨rfl, rfl⟩ rfl hl.1 rfl (Nat.le_of_ble_eq_true rfl) dX2_isJoined_36 ⟨Nat.le_of_ble_eq_true rfl, Nat.le_of_ble_eq_true rfl⟩ ?_
                refine n_ishl hx hb (by omega) dX2_isJoined_39 ?_
                refine n_ior hx hb dX2_isJoined_40 ?_
                refine lv_istore_n (lv' := [(2, .int (nI ((bwQ xx a1 (bwP nn xx a1) k) ||| (1 <<< (4 * k + a1))))), (0, .int (nI nn)), (1, .int (nI xx)), (3, .int (nI a1)), (4, .int (nI k))]) hx hb dX2_isJoined_41 rfl hl (by decide) rfl (fun ls hl => ?_)
                refine lv_iinc (v := nI (k + 1)) (lv' := [(4, .int (nI (k + 1))), (2, .int (nI ((bwQ xx a1 (bwP nn xx a1) k) ||| (1 <<< (4 * k + a1))))), (0, .int (nI nn)), (1, .int (nI xx)), (3, .int (nI a1))]) hx hb dX2_isJoined_42 hl (k := 4) rfl (ii_1 _) (by decide) rfl (fun ls hl => ?_)
                refine lv_goto (tgt := 12) hx hb dX2_isJoined_45 (by decide) ?_
                exact ih_lp_5 (k + 1) (by omega) (by omega) ls (by have h9 : lv_has ls 5 [(0, .int (nI nn)), (1, .int (nI xx)), (2, .int (nI ((bwQ xx a1 (bwP nn xx a1) k) ||| (1 <<< (4 * k + a1))))), (3, .int (nI a1)), (4, .int (nI (k + 1)))] := lv_sub hl [2, 3, 1, 4, 0] rfl; simpa [bwQ, c_2, c_6, c_7] using h9)
        exact lp_5 _ 0 (Nat.zero_le _) (Nat.lt_succ_self _) ls (lv_sub hl [1, 2, 3, 4, 0] rfl)
  exact lp_1 _ 0 (Nat.zero_le _) (Nat.lt_succ_self _) ls (lv_sub hl [2, 3, 1, 0] rfl)

set_option maxHeartbeats 4000000 in
set_option maxRecDepth 100000 in
theorem k_chosen (l : Launch) (nn xx : Nat) (h1 : nn ≤ 4) (h2 : xx < 65536) : Pz l yX2_chosen cX2_chosen 6 (some .int) rm_X2_chosen [.int (nI nn), .int (nI xx)] (some (.int (nI (chN nn xx)))) := by
  refine mk_pz (by decide) (Nat.le_of_ble_eq_true rfl) ?_
  intro p e s m args below meth c hC ls hl
  obtain ⟨hx, hb, hr, hts, hown, hml, hlk, hN⟩ := id hC
  have hl : lv_has ls 6 [(0, .int (nI nn)), (1, .int (nI xx))] := hl
  refine lv_iconst (v := nI 0) hx hb dX2_chosen_0 (by decide) ?_
  refine lv_istore_n (lv' := [(2, .int (nI 0)), (0, .int (nI nn)), (1, .int (nI xx))]) hx hb dX2_chosen_1 rfl hl (by decide) rfl (fun ls hl => ?_)
  refine lv_iconst (v := nI 0) hx hb dX2_chosen_2 (by decide) ?_
  refine lv_istore_n (lv' := [(3, .int (nI 0)), (2, .int (nI 0)), (0, .int (nI nn)), (1, .int (nI xx))]) hx hb dX2_chosen_3 rfl hl (by decide) rfl (fun ls hl => ?_)
  refine lv_iconst (v := nI 0) hx hb dX2_chosen_4 (by decide) ?_
  refine lv_istore (lv' := [(4, .int (nI 0)), (3, .int (nI 0)), (2, .int (nI 0)), (0, .int (nI nn)), (1, .int (nI xx))]) hx hb dX2_chosen_5 hl (by decide) rfl (fun ls hl => ?_)
  have lp_1 : ∀ (n_lp_1 : Nat) (a1 : Nat) (ha1 : a1 ≤ nn), nn - a1 < n_lp_1 → ∀ (ls : Array Slot), lv_has ls 6 [(0, .int (nI nn)), (1, .int (nI xx)), (2, .int (nI (nsP (chB nn xx) nn a1))), (3, .int (nI (bP nn a1))), (4, .int (nI a1))] → W p l e rm_X2_chosen s m args below meth c s.heap [] 0 0 (MQ below (pz_Q (some (.int (nI (chN nn xx))))) args s 0 0 pz_F) (F0 m 7 ls []) := by
    intro n_lp_1
    induction n_lp_1 with
    | zero => intro a1 ha1; intro hm_lp_1; exact absurd hm_lp_1 (Nat.not_lt_zero _)
    | succ n_lp_1 ih_lp_1 =>
      intro a1 ha1 hm_lp_1 ls hl
      refine lv_iload hx hb dX2_chosen_7 (lv_at hl 4 rfl) ?_
      refine lv_iload_n hx hb dX2_chosen_9 rfl (lv_at hl 0 rfl) ?_
      refine n_icmp_ge (tgt := 71) hx hb (by omega) (by omega) dX2_chosen_10 (by decide) (fun c_2 => ?_) (fun c_2 => ?_)
      · -- t 71
        refine lv_iload_n hx hb dX2_chosen_71 rfl (lv_at hl 2 rfl) ?_
        exact rz_iE hC (by rw [show a1 = nn by omega]) dX2_chosen_72
      · -- f 13
        refine lv_iconst (v := nI 0) hx hb dX2_chosen_13 (by decide) ?_
        refine lv_istore (lv' := [(5, .int (nI 0)), (0, .int (nI nn)), (1, .int (nI xx)), (2, .int (nI (nsP (chB nn xx) nn a1))), (3, .int (nI (bP nn a1))), (4, .int (nI a1))]) hx hb dX2_chosen_14 hl (by decide) rfl (fun ls hl => ?_)
        have lp_3 : ∀ (n_lp_3 : Nat) (k : Nat) (hk : k ≤ nn), nn - k < n_lp_3 → ∀ (ls : Array Slot), lv_has ls 6 [(0, .int (nI nn)), (1, .int (nI xx)), (2, .int (nI (nsQ (chB nn xx) a1 (nsP (chB nn xx) nn a1) k))), (3, .int (nI (bP nn a1 + cQ a1 k))), (4, .int (nI a1)), (5, .int (nI k))] → W p l e rm_X2_chosen s m args below meth c s.heap [] 0 0 (MQ below (pz_Q (some (.int (nI (chN nn xx))))) args s 0 0 pz_F) (F0 m 16 ls []) := by
          intro n_lp_3
          induction n_lp_3 with
          | zero => intro k hk; intro hm_lp_3; exact absurd hm_lp_3 (Nat.not_lt_zero _)
          | succ n_lp_3 ih_lp_3 =>
            intro k hk hm_lp_3 ls hl
            have hlt := nsQ_lt (B := (chB nn xx)) (by omega : a1 < 4) (nsP_lt (B := (chB nn xx)) h1 a1 (by omega)) k (by omega)
            refine lv_iload hx hb dX2_chosen_16 (lv_at hl 5 rfl) ?_
            refine lv_iload_n hx hb dX2_chosen_18 rfl (lv_at hl 0 rfl) ?_
            refine n_icmp_ge (tgt := 65) hx hb (by omega) (by omega) dX2_chosen_19 (by decide) (fun c_4 => ?_) (fun c_4 => ?_)
            · -- t 65
              refine lv_iinc (v := nI (a1 + 1)) (lv' := [(4, .int (nI (a1 + 1))), (0, .int (nI nn)), (1, .int (nI xx)), (2, .int (nI (nsQ (chB nn xx) a1 (nsP (chB nn xx) nn a1) k))), (3, .int (nI (bP nn a1 + cQ a1 k))), (5, .int (nI k))]) hx hb dX2_chosen_65 hl (k := 4) rfl (ii_1 _) (by decide) rfl (fun ls hl => ?_)
              refine lv_goto (tgt := 7) hx hb dX2_chosen_68 (by decide) ?_
              exact ih_lp_1 (a1 + 1) (by omega) (by omega) ls (by have h9 : lv_has ls 6 [(0, .int (nI nn)), (1, .int (nI xx)), (2, .int (nI (nsQ (chB nn xx) a1 (nsP (chB nn xx) nn a1) k))), (3, .int (nI (bP nn a1 + cQ a1 k))), (4, .int (nI (a1 + 1)))] := lv_sub hl [1, 2, 3, 4, 0] rfl; rw [show nsP (chB nn xx) nn (a1 + 1) = nsQ (chB nn xx) a1 (nsP (chB nn xx) nn a1) nn from rfl]; rw [show k = nn by omega] at h9; exact h9)
            · -- f 22
              refine lv_iload hx hb dX2_chosen_22 (lv_at hl 4 rfl) ?_
              refine lv_iload hx hb dX2_chosen_24 (lv_at hl 5 rfl) ?_
              refine n_icmp_eq (tgt := 37) hx hb (by omega) (by omega) dX2_chosen_26 (by decide) (fun c_5 => ?_) (fun c_5 => ?_)
              · -- t 37
                refine lv_iload_n hx hb dX2_chosen_37 rfl (lv_at hl 2 rfl) ?_
                refine lv_iconst (v := nI 1) hx hb dX2_chosen_38 (by decide) ?_
                refine lv_iload hx hb dX2_chosen_39 (lv_at hl 4 rfl) ?_
                refine lv_iload hx hb dX2_chosen_41 (lv_at hl 5 rfl) ?_
                refine cN_p (rest := [.int (nI 1), .int (nI (nsQ (chB nn xx) a1 (nsP (chB nn xx) nn a1) k))]) hC (k_pairOf l a1 k ) hN.2.2.2.2.2.2.2.2.1 sy_X11_pairOf ⟨Nat.le_of_ble_eq_true rfl, Nat.le_of_ble_eq_true rfl⟩ ⟨rfl, rfl⟩ rfl hl.1 rfl (Nat.le_of_ble_eq_true rfl) dX2_chosen_43 ⟨Nat.le_of_ble_eq_true rfl, Nat.le_of_ble_eq_true rfl⟩ ?_
                refine n_ishl hx hb (by omega) dX2_chosen_46 ?_
                refine n_ior hx hb dX2_chosen_47 ?_
                refine lv_istore_n (lv' := [(2, .int (nI ((nsQ (chB nn xx) a1 (nsP (chB nn xx) nn a1) k) ||| (1 <<< (4 * a1 + k))))), (0, .int (nI nn)), (1, .int (nI xx)), (3, .int (nI (bP nn a1 + cQ a1 k))), (4, .int (nI a1)), (5, .int (nI k))]) hx hb dX2_chosen_48 rfl hl (by decide) rfl (fun ls hl => ?_)
                refine lv_iload hx hb dX2_chosen_49 (lv_at hl 4 rfl) ?_
                refine lv_iload hx hb dX2_chosen_51 (lv_at hl 5 rfl) ?_
                refine n_icmp_eq (tgt := 59) hx hb (by omega) (by omega) dX2_chosen_53 (by decide) (fun c_6 => ?_) (fun c_6 => ?_)
                · -- t 59
                  refine lv_iinc (v := nI (k + 1)) (lv' := [(5, .int (nI (k + 1))), (2, .int (nI ((nsQ (chB nn xx) a1 (nsP (chB nn xx) nn a1) k) ||| (1 <<< (4 * a1 + k))))), (0, .int (nI nn)), (1, .int (nI xx)), (3, .int (nI (bP nn a1 + cQ a1 k))), (4, .int (nI a1))]) hx hb dX2_chosen_59 hl (k := 5) rfl (ii_1 _) (by decide) rfl (fun ls hl => ?_)
                  refine lv_goto (tgt := 16) hx hb dX2_chosen_62 (by decide) ?_
                  exact ih_lp_3 (k + 1) (by omega) (by omega) ls (by have h9 : lv_has ls 6 [(0, .int (nI nn)), (1, .int (nI xx)), (2, .int (nI ((nsQ (chB nn xx) a1 (nsP (chB nn xx) nn a1) k) ||| (1 <<< (4 * a1 + k))))), (3, .int (nI (bP nn a1 + cQ a1 k))), (4, .int (nI a1)), (5, .int (nI (k + 1)))] := lv_sub hl [2, 3, 1, 4, 5, 0] rfl; have e1 : bP nn a1 + cQ a1 (k + 1) = bP nn a1 + cQ a1 k := (by simp only [cQ]; first | (exfalso; omega) | (rw [if_pos c_2.symm]; rfl) | (rw [if_pos c_4.symm]; rfl) | (rw [if_pos c_5.symm]; rfl) | (rw [if_pos c_6.symm]; rfl)); have e2 : nsQ (chB nn xx) a1 (nsP (chB nn xx) nn a1) (k + 1) = nsQ (chB nn xx) a1 (nsP (chB nn xx) nn a1) k ||| 1 <<< (4 * a1 + k) := (by simp only [nsQ]; first | (exfalso; omega) | rw [if_pos (by simp [chB, c_2, c_4, c_5, c_6])]); rw [e1, e2]; exact h9)
                · -- f 56
                  refine lv_iinc (v := nI ((bP nn a1 + cQ a1 k) + 1)) (lv' := [(3, .int (nI ((bP nn a1 + cQ a1 k) + 1))), (2, .int (nI ((nsQ (chB nn xx) a1 (nsP (chB nn xx) nn a1) k) ||| (1 <<< (4 * a1 + k))))), (0, .int (nI nn)), (1, .int (nI xx)), (4, .int (nI a1)), (5, .int (nI k))]) hx hb dX2_chosen_56 hl (k := 3) rfl (ii_1 _) (by decide) rfl (fun ls hl => ?_)
                  refine lv_iinc (v := nI (k + 1)) (lv' := [(5, .int (nI (k + 1))), (3, .int (nI ((bP nn a1 + cQ a1 k) + 1))), (2, .int (nI ((nsQ (chB nn xx) a1 (nsP (chB nn xx) nn a1) k) ||| (1 <<< (4 * a1 + k))))), (0, .int (nI nn)), (1, .int (nI xx)), (4, .int (nI a1))]) hx hb dX2_chosen_59 hl (k := 5) rfl (ii_1 _) (by decide) rfl (fun ls hl => ?_)
                  refine lv_goto (tgt := 16) hx hb dX2_chosen_62 (by decide) ?_
                  exact ih_lp_3 (k + 1) (by omega) (by omega) ls (by have h9 : lv_has ls 6 [(0, .int (nI nn)), (1, .int (nI xx)), (2, .int (nI ((nsQ (chB nn xx) a1 (nsP (chB nn xx) nn a1) k) ||| (1 <<< (4 * a1 + k))))), (3, .int (nI ((bP nn a1 + cQ a1 k) + 1))), (4, .int (nI a1)), (5, .int (nI (k + 1)))] := lv_sub hl [3, 4, 2, 1, 5, 0] rfl; have e1 : bP nn a1 + cQ a1 (k + 1) = bP nn a1 + cQ a1 k + 1 := (by simp only [cQ]; first | (exfalso; omega) | (rw [if_neg (fun h => c_2 h.symm)]; rfl) | (rw [if_neg (fun h => c_4 h.symm)]; rfl) | (rw [if_neg (fun h => c_5 h.symm)]; rfl) | (rw [if_neg (fun h => c_6 h.symm)]; rfl)); have e2 : nsQ (chB nn xx) a1 (nsP (chB nn xx) nn a1) (k + 1) = nsQ (chB nn xx) a1 (nsP (chB nn xx) nn a1) k ||| 1 <<< (4 * a1 + k) := (by simp only [nsQ]; first | (exfalso; omega) | rw [if_pos (by simp [chB, c_2, c_4, c_5, c_6])]); rw [e1, e2]; exact h9)
              · -- f 29
                have hb1 := bP_16 h1 (by omega : a1 < 4); have hb2 := cQ_le a1 k
                refine lv_iload_n hx hb dX2_chosen_29 rfl (lv_at hl 1 rfl) ?_
                refine lv_iload_n hx hb dX2_chosen_30 rfl (lv_at hl 3 rfl) ?_
                refine cN_p (rest := []) hC (k_contains l xx (bP nn a1 + cQ a1 k) (by omega) (by omega)) hN.2.2.2.2.2.2.2.2.2.1 sy_X11_contains ⟨Nat.le_of_ble_eq_true rfl, Nat.le_of_ble_eq_true rfl⟩ ⟨rfl, rfl⟩ rfl hl.1 rfl (Nat.le_of_ble_eq_true rfl) dX2_chosen_31 ⟨Nat.le_of_ble_eq_true rfl, Nat.le_of_ble_eq_true rfl⟩ ?_
                refine b_if_eq (tgt := 49) hx hb dX2_chosen_34 (by decide) (fun c_7 => ?_) (fun c_7 => ?_)
                · -- t 49
                  refine lv_iload hx hb dX2_chosen_49 (lv_at hl 4 rfl) ?_
                  refine lv_iload hx hb dX2_chosen_51 (lv_at hl 5 rfl) ?_
                  refine n_icmp_eq (tgt := 59) hx hb (by omega) (by omega) dX2_chosen_53 (by decide) (fun c_8 => ?_) (fun c_8 => ?_)
                  · -- t 59
                    refine lv_iinc (v := nI (k + 1)) (lv' := [(5, .int (nI (k + 1))), (0, .int (nI nn)), (1, .int (nI xx)), (2, .int (nI (nsQ (chB nn xx) a1 (nsP (chB nn xx) nn a1) k))), (3, .int (nI (bP nn a1 + cQ a1 k))), (4, .int (nI a1))]) hx hb dX2_chosen_59 hl (k := 5) rfl (ii_1 _) (by decide) rfl (fun ls hl => ?_)
                    refine lv_goto (tgt := 16) hx hb dX2_chosen_62 (by decide) ?_
                    exact ih_lp_3 (k + 1) (by omega) (by omega) ls (by have h9 : lv_has ls 6 [(0, .int (nI nn)), (1, .int (nI xx)), (2, .int (nI (nsQ (chB nn xx) a1 (nsP (chB nn xx) nn a1) k))), (3, .int (nI (bP nn a1 + cQ a1 k))), (4, .int (nI a1)), (5, .int (nI (k + 1)))] := lv_sub hl [1, 2, 3, 4, 5, 0] rfl; have e1 : bP nn a1 + cQ a1 (k + 1) = bP nn a1 + cQ a1 k := (by simp only [cQ]; first | (exfalso; omega) | (rw [if_pos c_2.symm]; rfl) | (rw [if_pos c_4.symm]; rfl) | (rw [if_pos c_5.symm]; rfl) | (rw [if_pos c_7.symm]; rfl) | (rw [if_pos c_8.symm]; rfl)); have e2 : nsQ (chB nn xx) a1 (nsP (chB nn xx) nn a1) (k + 1) = nsQ (chB nn xx) a1 (nsP (chB nn xx) nn a1) k := (by simp only [nsQ]; first | (exfalso; omega) | rw [if_neg (by simp [chB, c_2, c_4, c_5, c_7, c_8])]); rw [e1, e2]; exact h9)
                  · -- f 56
                    refine lv_iinc (v := nI ((bP nn a1 + cQ a1 k) + 1)) (lv' := [(3, .int (nI ((bP nn a1 + cQ a1 k) + 1))), (0, .int (nI nn)), (1, .int (nI xx)), (2, .int (nI (nsQ (chB nn xx) a1 (nsP (chB nn xx) nn a1) k))), (4, .int (nI a1)), (5, .int (nI k))]) hx hb dX2_chosen_56 hl (k := 3) rfl (ii_1 _) (by decide) rfl (fun ls hl => ?_)
                    refine lv_iinc (v := nI (k + 1)) (lv' := [(5, .int (nI (k + 1))), (3, .int (nI ((bP nn a1 + cQ a1 k) + 1))), (0, .int (nI nn)), (1, .int (nI xx)), (2, .int (nI (nsQ (chB nn xx) a1 (nsP (chB nn xx) nn a1) k))), (4, .int (nI a1))]) hx hb dX2_chosen_59 hl (k := 5) rfl (ii_1 _) (by decide) rfl (fun ls hl => ?_)
                    refine lv_goto (tgt := 16) hx hb dX2_chosen_62 (by decide) ?_
                    exact ih_lp_3 (k + 1) (by omega) (by omega) ls (by have h9 : lv_has ls 6 [(0, .int (nI nn)), (1, .int (nI xx)), (2, .int (nI (nsQ (chB nn xx) a1 (nsP (chB nn xx) nn a1) k))), (3, .int (nI ((bP nn a1 + cQ a1 k) + 1))), (4, .int (nI a1)), (5, .int (nI (k + 1)))] := lv_sub hl [2, 3, 4, 1, 5, 0] rfl; have e1 : bP nn a1 + cQ a1 (k + 1) = bP nn a1 + cQ a1 k + 1 := (by simp only [cQ]; first | (exfalso; omega) | (rw [if_neg (fun h => c_2 h.symm)]; rfl) | (rw [if_neg (fun h => c_4 h.symm)]; rfl) | (rw [if_neg (fun h => c_5 h.symm)]; rfl) | (rw [if_neg (fun h => c_7 h.symm)]; rfl) | (rw [if_neg (fun h => c_8 h.symm)]; rfl)); have e2 : nsQ (chB nn xx) a1 (nsP (chB nn xx) nn a1) (k + 1) = nsQ (chB nn xx) a1 (nsP (chB nn xx) nn a1) k := (by simp only [nsQ]; first | (exfalso; omega) | rw [if_neg (by simp [chB, c_2, c_4, c_5, c_7, c_8])]); rw [e1, e2]; exact h9)
                · -- f 37
                  refine lv_iload_n hx hb dX2_chosen_37 rfl (lv_at hl 2 rfl) ?_
                  refine lv_iconst (v := nI 1) hx hb dX2_chosen_38 (by decide) ?_
                  refine lv_iload hx hb dX2_chosen_39 (lv_at hl 4 rfl) ?_
                  refine lv_iload hx hb dX2_chosen_41 (lv_at hl 5 rfl) ?_
                  refine cN_p (rest := [.int (nI 1), .int (nI (nsQ (chB nn xx) a1 (nsP (chB nn xx) nn a1) k))]) hC (k_pairOf l a1 k ) hN.2.2.2.2.2.2.2.2.1 sy_X11_pairOf ⟨Nat.le_of_ble_eq_true rfl, Nat.le_of_ble_eq_true rfl⟩ ⟨rfl, rfl⟩ rfl hl.1 rfl (Nat.le_of_ble_eq_true rfl) dX2_chosen_43 ⟨Nat.le_of_ble_eq_true rfl, Nat.le_of_ble_eq_true rfl⟩ ?_
                  refine n_ishl hx hb (by omega) dX2_chosen_46 ?_
                  refine n_ior hx hb dX2_chosen_47 ?_
                  refine lv_istore_n (lv' := [(2, .int (nI ((nsQ (chB nn xx) a1 (nsP (chB nn xx) nn a1) k) ||| (1 <<< (4 * a1 + k))))), (0, .int (nI nn)), (1, .int (nI xx)), (3, .int (nI (bP nn a1 + cQ a1 k))), (4, .int (nI a1)), (5, .int (nI k))]) hx hb dX2_chosen_48 rfl hl (by decide) rfl (fun ls hl => ?_)
                  refine lv_iload hx hb dX2_chosen_49 (lv_at hl 4 rfl) ?_
                  refine lv_iload hx hb dX2_chosen_51 (lv_at hl 5 rfl) ?_
                  refine n_icmp_eq (tgt := 59) hx hb (by omega) (by omega) dX2_chosen_53 (by decide) (fun c_9 => ?_) (fun c_9 => ?_)
                  · -- t 59
                    refine lv_iinc (v := nI (k + 1)) (lv' := [(5, .int (nI (k + 1))), (2, .int (nI ((nsQ (chB nn xx) a1 (nsP (chB nn xx) nn a1) k) ||| (1 <<< (4 * a1 + k))))), (0, .int (nI nn)), (1, .int (nI xx)), (3, .int (nI (bP nn a1 + cQ a1 k))), (4, .int (nI a1))]) hx hb dX2_chosen_59 hl (k := 5) rfl (ii_1 _) (by decide) rfl (fun ls hl => ?_)
                    refine lv_goto (tgt := 16) hx hb dX2_chosen_62 (by decide) ?_
                    exact ih_lp_3 (k + 1) (by omega) (by omega) ls (by have h9 : lv_has ls 6 [(0, .int (nI nn)), (1, .int (nI xx)), (2, .int (nI ((nsQ (chB nn xx) a1 (nsP (chB nn xx) nn a1) k) ||| (1 <<< (4 * a1 + k))))), (3, .int (nI (bP nn a1 + cQ a1 k))), (4, .int (nI a1)), (5, .int (nI (k + 1)))] := lv_sub hl [2, 3, 1, 4, 5, 0] rfl; have e1 : bP nn a1 + cQ a1 (k + 1) = bP nn a1 + cQ a1 k := (by simp only [cQ]; first | (exfalso; omega) | (rw [if_pos c_2.symm]; rfl) | (rw [if_pos c_4.symm]; rfl) | (rw [if_pos c_5.symm]; rfl) | (rw [if_pos c_7.symm]; rfl) | (rw [if_pos c_9.symm]; rfl)); have e2 : nsQ (chB nn xx) a1 (nsP (chB nn xx) nn a1) (k + 1) = nsQ (chB nn xx) a1 (nsP (chB nn xx) nn a1) k ||| 1 <<< (4 * a1 + k) := (by simp only [nsQ]; first | (exfalso; omega) | rw [if_pos (by simp [chB, c_2, c_4, c_5, c_7, c_9])]); rw [e1, e2]; exact h9)
                  · -- f 56
                    refine lv_iinc (v := nI ((bP nn a1 + cQ a1 k) + 1)) (lv' := [(3, .int (nI ((bP nn a1 + cQ a1 k) + 1))), (2, .int (nI ((nsQ (chB nn xx) a1 (nsP (chB nn xx) nn a1) k) ||| (1 <<< (4 * a1 + k))))), (0, .int (nI nn)), (1, .int (nI xx)), (4, .int (nI a1)), (5, .int (nI k))]) hx hb dX2_chosen_56 hl (k := 3) rfl (ii_1 _) (by decide) rfl (fun ls hl => ?_)
                    refine lv_iinc (v := nI (k + 1)) (lv' := [(5, .int (nI (k + 1))), (3, .int (nI ((bP nn a1 + cQ a1 k) + 1))), (2, .int (nI ((nsQ (chB nn xx) a1 (nsP (chB nn xx) nn a1) k) ||| (1 <<< (4 * a1 + k))))), (0, .int (nI nn)), (1, .int (nI xx)), (4, .int (nI a1))]) hx hb dX2_chosen_59 hl (k := 5) rfl (ii_1 _) (by decide) rfl (fun ls hl => ?_)
                    refine lv_goto (tgt := 16) hx hb dX2_chosen_62 (by decide) ?_
                    exact ih_lp_3 (k + 1) (by omega) (by omega) ls (by have h9 : lv_has ls 6 [(0, .int (nI nn)), (1, .int (nI xx)), (2, .int (nI ((nsQ (chB nn xx) a1 (nsP (chB nn xx) nn a1) k) ||| (1 <<< (4 * a1 + k))))), (3, .int (nI ((bP nn a1 + cQ a1 k) + 1))), (4, .int (nI a1)), (5, .int (nI (k + 1)))] := lv_sub hl [3, 4, 2, 1, 5, 0] rfl; have e1 : bP nn a1 + cQ a1 (k + 1) = bP nn a1 + cQ a1 k + 1 := (by simp only [cQ]; first | (exfalso; omega) | (rw [if_neg (fun h => c_2 h.symm)]; rfl) | (rw [if_neg (fun h => c_4 h.symm)]; rfl) | (rw [if_neg (fun h => c_5 h.symm)]; rfl) | (rw [if_neg (fun h => c_7 h.symm)]; rfl) | (rw [if_neg (fun h => c_9 h.symm)]; rfl)); have e2 : nsQ (chB nn xx) a1 (nsP (chB nn xx) nn a1) (k + 1) = nsQ (chB nn xx) a1 (nsP (chB nn xx) nn a1) k ||| 1 <<< (4 * a1 + k) := (by simp only [nsQ]; first | (exfalso; omega) | rw [if_pos (by simp [chB, c_2, c_4, c_5, c_7, c_9])]); rw [e1, e2]; exact h9)
        exact lp_3 _ 0 (Nat.zero_le _) (Nat.lt_succ_self _) ls (lv_sub hl [1, 2, 3, 4, 5, 0] rfl)
  exact lp_1 _ 0 (Nat.zero_le _) (Nat.lt_succ_self _) ls (lv_sub hl [3, 4, 2, 1, 0] rfl)

set_option maxHeartbeats 4000000 in
set_option maxRecDepth 100000 in
theorem k_bridges (l : Launch) (nn xx : Nat) (h1 : nn ≤ 4) (h2 : xx < 65536) : Pz l yX2_bridges cX2_bridges 6 (some .int) rm_X2_bridges [.int (nI nn), .int (nI xx)] (some (.int (nI (nsP (brB nn xx) nn nn)))) := by
  refine mk_pz (by decide) (Nat.le_of_ble_eq_true rfl) ?_
  intro p e s m args below meth c hC ls hl
  obtain ⟨hx, hb, hr, hts, hown, hml, hlk, hN⟩ := id hC
  have hl : lv_has ls 6 [(0, .int (nI nn)), (1, .int (nI xx))] := hl
  refine lv_iconst (v := nI 0) hx hb dX2_bridges_0 (by decide) ?_
  refine lv_istore_n (lv' := [(2, .int (nI 0)), (0, .int (nI nn)), (1, .int (nI xx))]) hx hb dX2_bridges_1 rfl hl (by decide) rfl (fun ls hl => ?_)
  refine lv_iconst (v := nI 0) hx hb dX2_bridges_2 (by decide) ?_
  refine lv_istore_n (lv' := [(3, .int (nI 0)), (2, .int (nI 0)), (0, .int (nI nn)), (1, .int (nI xx))]) hx hb dX2_bridges_3 rfl hl (by decide) rfl (fun ls hl => ?_)
  have lp_1 : ∀ (n_lp_1 : Nat) (a1 : Nat) (ha1 : a1 ≤ nn), nn - a1 < n_lp_1 → ∀ (ls : Array Slot), lv_has ls 6 [(0, .int (nI nn)), (1, .int (nI xx)), (2, .int (nI (nsP (brB nn xx) nn a1))), (3, .int (nI a1))] → W p l e rm_X2_bridges s m args below meth c s.heap [] 0 0 (MQ below (pz_Q (some (.int (nI (nsP (brB nn xx) nn nn))))) args s 0 0 pz_F) (F0 m 4 ls []) := by
    intro n_lp_1
    induction n_lp_1 with
    | zero => intro a1 ha1; intro hm_lp_1; exact absurd hm_lp_1 (Nat.not_lt_zero _)
    | succ n_lp_1 ih_lp_1 =>
      intro a1 ha1 hm_lp_1 ls hl
      refine lv_iload_n hx hb dX2_bridges_4 rfl (lv_at hl 3 rfl) ?_
      refine lv_iload_n hx hb dX2_bridges_5 rfl (lv_at hl 0 rfl) ?_
      refine n_icmp_ge (tgt := 74) hx hb (by omega) (by omega) dX2_bridges_6 (by decide) (fun c_2 => ?_) (fun c_2 => ?_)
      · -- t 74
        refine lv_iload_n hx hb dX2_bridges_74 rfl (lv_at hl 2 rfl) ?_
        exact rz_iE hC (by rw [show a1 = nn by omega]) dX2_bridges_75
      · -- f 9
        refine lv_iconst (v := nI 0) hx hb dX2_bridges_9 (by decide) ?_
        refine lv_istore (lv' := [(4, .int (nI 0)), (0, .int (nI nn)), (1, .int (nI xx)), (2, .int (nI (nsP (brB nn xx) nn a1))), (3, .int (nI a1))]) hx hb dX2_bridges_10 hl (by decide) rfl (fun ls hl => ?_)
        have lp_3 : ∀ (n_lp_3 : Nat) (k : Nat) (hk : k ≤ nn), nn - k < n_lp_3 → ∀ (ls : Array Slot), lv_has ls 6 [(0, .int (nI nn)), (1, .int (nI xx)), (2, .int (nI (nsQ (brB nn xx) a1 (nsP (brB nn xx) nn a1) k))), (3, .int (nI a1)), (4, .int (nI k))] → W p l e rm_X2_bridges s m args below meth c s.heap [] 0 0 (MQ below (pz_Q (some (.int (nI (nsP (brB nn xx) nn nn))))) args s 0 0 pz_F) (F0 m 12 ls []) := by
          intro n_lp_3
          induction n_lp_3 with
          | zero => intro k hk; intro hm_lp_3; exact absurd hm_lp_3 (Nat.not_lt_zero _)
          | succ n_lp_3 ih_lp_3 =>
            intro k hk hm_lp_3 ls hl
            have hlt := nsQ_lt (B := (brB nn xx)) (by omega : a1 < 4) (nsP_lt (B := (brB nn xx)) h1 a1 (by omega)) k (by omega)
            refine lv_iload hx hb dX2_bridges_12 (lv_at hl 4 rfl) ?_
            refine lv_iload_n hx hb dX2_bridges_14 rfl (lv_at hl 0 rfl) ?_
            refine n_icmp_ge (tgt := 68) hx hb (by omega) (by omega) dX2_bridges_15 (by decide) (fun c_4 => ?_) (fun c_4 => ?_)
            · -- t 68
              refine lv_iinc (v := nI (a1 + 1)) (lv' := [(3, .int (nI (a1 + 1))), (0, .int (nI nn)), (1, .int (nI xx)), (2, .int (nI (nsQ (brB nn xx) a1 (nsP (brB nn xx) nn a1) k))), (4, .int (nI k))]) hx hb dX2_bridges_68 hl (k := 3) rfl (ii_1 _) (by decide) rfl (fun ls hl => ?_)
              refine lv_goto (tgt := 4) hx hb dX2_bridges_71 (by decide) ?_
              exact ih_lp_1 (a1 + 1) (by omega) (by omega) ls (by have h9 : lv_has ls 6 [(0, .int (nI nn)), (1, .int (nI xx)), (2, .int (nI (nsQ (brB nn xx) a1 (nsP (brB nn xx) nn a1) k))), (3, .int (nI (a1 + 1)))] := lv_sub hl [1, 2, 3, 0] rfl; rw [show nsP (brB nn xx) nn (a1 + 1) = nsQ (brB nn xx) a1 (nsP (brB nn xx) nn a1) nn from rfl]; rw [show k = nn by omega] at h9; exact h9)
            · -- f 18
              refine lv_iconst (v := nI 1) hx hb dX2_bridges_18 (by decide) ?_
              refine lv_iload_n hx hb dX2_bridges_19 rfl (lv_at hl 3 rfl) ?_
              refine lv_iload hx hb dX2_bridges_20 (lv_at hl 4 rfl) ?_
              refine cN_p (rest := [.int (nI 1)]) hC (k_pairOf l a1 k ) hN.2.2.2.2.2.2.2.2.1 sy_X11_pairOf ⟨Nat.le_of_ble_eq_true rfl, Nat.le_of_ble_eq_true rfl⟩ ⟨rfl, rfl⟩ rfl hl.1 rfl (Nat.le_of_ble_eq_true rfl) dX2_bridges_22 ⟨Nat.le_of_ble_eq_true rfl, Nat.le_of_ble_eq_true rfl⟩ ?_
              refine n_ishl hx hb (by omega) dX2_bridges_25 ?_
              refine lv_istore (lv' := [(5, .int (nI (1 <<< (4 * a1 + k)))), (0, .int (nI nn)), (1, .int (nI xx)), (2, .int (nI (nsQ (brB nn xx) a1 (nsP (brB nn xx) nn a1) k))), (3, .int (nI a1)), (4, .int (nI k))]) hx hb dX2_bridges_26 hl (by decide) rfl (fun ls hl => ?_)
              have ha9 : xx &&& (1 <<< (4 * a1 + k) ^^^ 4294967295) ≤ xx := Nat.and_le_left; have ha8 : xx &&& 1 <<< (4 * a1 + k) ≤ xx := Nat.and_le_left
              refine lv_iload_n hx hb dX2_bridges_28 rfl (lv_at hl 4 rfl) ?_
              refine lv_iload hx hb dX2_bridges_29 (lv_at hl 5 rfl) ?_
              refine n_icmp_eq (tgt := 62) hx hb (by omega) (by omega) dX2_bridges_31 (by decide) (fun c_5 => ?_) (fun c_5 => ?_)
              · -- t 62
                refine lv_iinc (v := nI (k + 1)) (lv' := [(4, .int (nI (k + 1))), (5, .int (nI (1 <<< (4 * a1 + k)))), (0, .int (nI nn)), (1, .int (nI xx)), (2, .int (nI (nsQ (brB nn xx) a1 (nsP (brB nn xx) nn a1) k))), (3, .int (nI a1))]) hx hb dX2_bridges_62 hl (k := 5) rfl (ii_1 _) (by decide) rfl (fun ls hl => ?_)
                refine lv_goto (tgt := 12) hx hb dX2_bridges_65 (by decide) ?_
                exact ih_lp_3 (k + 1) (by omega) (by omega) ls (by have h9 : lv_has ls 6 [(0, .int (nI nn)), (1, .int (nI xx)), (2, .int (nI (nsQ (brB nn xx) a1 (nsP (brB nn xx) nn a1) k))), (3, .int (nI a1)), (4, .int (nI (k + 1)))] := lv_sub hl [2, 3, 4, 5, 0] rfl; have e2 : nsQ (brB nn xx) a1 (nsP (brB nn xx) nn a1) (k + 1) = if brB nn xx a1 k = true then nsQ (brB nn xx) a1 (nsP (brB nn xx) nn a1) k ||| 1 <<< (4 * a1 + k) else nsQ (brB nn xx) a1 (nsP (brB nn xx) nn a1) k := rfl; rw [e2]; first | (rw [if_pos (by simp only [brB, c_2, c_4, c_5]; simp [c_2, c_4, c_5])]; exact h9) | (rw [if_neg (by simp only [brB, c_2, c_4, c_5]; simp [c_2, c_4, c_5])]; exact h9))
              · -- f 34
                refine lv_iload_n hx hb dX2_bridges_34 rfl (lv_at hl 2 rfl) ?_
                refine lv_iload hx hb dX2_bridges_35 (lv_at hl 0 rfl) ?_
                refine n_iand hx hb dX2_bridges_37 ?_
                refine n_if_ne (tgt := 44) hx hb (by omega) dX2_bridges_38 (by decide) (fun c_6 => ?_) (fun c_6 => ?_)
                · -- t 44
                  refine lv_iload_n hx hb dX2_bridges_44 rfl (lv_at hl 1 rfl) ?_
                  refine lv_iload_n hx hb dX2_bridges_45 rfl (lv_at hl 2 rfl) ?_
                  refine lv_iload hx hb dX2_bridges_46 (lv_at hl 0 rfl) ?_
                  refine lv_iconst (v := -1) hx hb dX2_bridges_48 (by decide) ?_
                  refine n_ixor (y := 4294967295) hx hb dX2_bridges_49 ?_
                  refine n_iand hx hb dX2_bridges_50 ?_
                  refine cS_p (rest := []) hC (k_isJoined l nn (xx &&& ((1 <<< (4 * a1 + k)) ^^^ 4294967295)) (by omega) (by omega)) kw_570 sy_X2_isJoined ⟨Nat.le_of_ble_eq_true rfl, Nat.le_of_ble_eq_true rfl⟩ ⟨rfl, rfl⟩ rfl hl.1 rfl (Nat.le_of_ble_eq_true rfl) dX2_bridges_51 ⟨Nat.le_of_ble_eq_true rfl, Nat.le_of_ble_eq_true rfl⟩ ?_
                  refine b_if_ne (tgt := 62) hx hb dX2_bridges_54 (by decide) (fun c_7 => ?_) (fun c_7 => ?_)
                  · -- t 62
                    refine lv_iinc (v := nI (k + 1)) (lv' := [(4, .int (nI (k + 1))), (5, .int (nI (1 <<< (4 * a1 + k)))), (0, .int (nI nn)), (1, .int (nI xx)), (2, .int (nI (nsQ (brB nn xx) a1 (nsP (brB nn xx) nn a1) k))), (3, .int (nI a1))]) hx hb dX2_bridges_62 hl (k := 5) rfl (ii_1 _) (by decide) rfl (fun ls hl => ?_)
                    refine lv_goto (tgt := 12) hx hb dX2_bridges_65 (by decide) ?_
                    exact ih_lp_3 (k + 1) (by omega) (by omega) ls (by have h9 : lv_has ls 6 [(0, .int (nI nn)), (1, .int (nI xx)), (2, .int (nI (nsQ (brB nn xx) a1 (nsP (brB nn xx) nn a1) k))), (3, .int (nI a1)), (4, .int (nI (k + 1)))] := lv_sub hl [2, 3, 4, 5, 0] rfl; have e2 : nsQ (brB nn xx) a1 (nsP (brB nn xx) nn a1) (k + 1) = if brB nn xx a1 k = true then nsQ (brB nn xx) a1 (nsP (brB nn xx) nn a1) k ||| 1 <<< (4 * a1 + k) else nsQ (brB nn xx) a1 (nsP (brB nn xx) nn a1) k := rfl; rw [e2]; first | (rw [if_pos (by simp only [brB, c_2, c_4, c_5, c_6, c_7]; simp [c_2, c_4, c_5, c_6, c_7])]; exact h9) | (rw [if_neg (by simp only [brB, c_2, c_4, c_5, c_6, c_7]; simp [c_2, c_4, c_5, c_6, c_7])]; exact h9))
                  · -- f 57
                    refine lv_iload_n hx hb dX2_bridges_57 rfl (lv_at hl 3 rfl) ?_
                    refine lv_iload hx hb dX2_bridges_58 (lv_at hl 0 rfl) ?_
                    refine n_ior hx hb dX2_bridges_60 ?_
                    refine lv_istore_n (lv' := [(2, .int (nI ((nsQ (brB nn xx) a1 (nsP (brB nn xx) nn a1) k) ||| (1 <<< (4 * a1 + k))))), (5, .int (nI (1 <<< (4 * a1 + k)))), (0, .int (nI nn)), (1, .int (nI xx)), (3, .int (nI a1)), (4, .int (nI k))]) hx hb dX2_bridges_61 rfl hl (by decide) rfl (fun ls hl => ?_)
                    refine lv_iinc (v := nI (k + 1)) (lv' := [(4, .int (nI (k + 1))), (2, .int (nI ((nsQ (brB nn xx) a1 (nsP (brB nn xx) nn a1) k) ||| (1 <<< (4 * a1 + k))))), (5, .int (nI (1 <<< (4 * a1 + k)))), (0, .int (nI nn)), (1, .int (nI xx)), (3, .int (nI a1))]) hx hb dX2_bridges_62 hl (k := 5) rfl (ii_1 _) (by decide) rfl (fun ls hl => ?_)
                    refine lv_goto (tgt := 12) hx hb dX2_bridges_65 (by decide) ?_
                    exact ih_lp_3 (k + 1) (by omega) (by omega) ls (by have h9 : lv_has ls 6 [(0, .int (nI nn)), (1, .int (nI xx)), (2, .int (nI ((nsQ (brB nn xx) a1 (nsP (brB nn xx) nn a1) k) ||| (1 <<< (4 * a1 + k))))), (3, .int (nI a1)), (4, .int (nI (k + 1)))] := lv_sub hl [3, 4, 1, 5, 0] rfl; have e2 : nsQ (brB nn xx) a1 (nsP (brB nn xx) nn a1) (k + 1) = if brB nn xx a1 k = true then nsQ (brB nn xx) a1 (nsP (brB nn xx) nn a1) k ||| 1 <<< (4 * a1 + k) else nsQ (brB nn xx) a1 (nsP (brB nn xx) nn a1) k := rfl; rw [e2]; first | (rw [if_pos (by simp only [brB, c_2, c_4, c_5, c_6, c_7]; simp [c_2, c_4, c_5, c_6, c_7])]; exact h9) | (rw [if_neg (by simp only [brB, c_2, c_4, c_5, c_6, c_7]; simp [c_2, c_4, c_5, c_6, c_7])]; exact h9))
                · -- f 41
                  refine lv_goto (tgt := 62) hx hb dX2_bridges_41 (by decide) ?_
                  refine lv_iinc (v := nI (k + 1)) (lv' := [(4, .int (nI (k + 1))), (5, .int (nI (1 <<< (4 * a1 + k)))), (0, .int (nI nn)), (1, .int (nI xx)), (2, .int (nI (nsQ (brB nn xx) a1 (nsP (brB nn xx) nn a1) k))), (3, .int (nI a1))]) hx hb dX2_bridges_62 hl (k := 5) rfl (ii_1 _) (by decide) rfl (fun ls hl => ?_)
                  refine lv_goto (tgt := 12) hx hb dX2_bridges_65 (by decide) ?_
                  exact ih_lp_3 (k + 1) (by omega) (by omega) ls (by have h9 : lv_has ls 6 [(0, .int (nI nn)), (1, .int (nI xx)), (2, .int (nI (nsQ (brB nn xx) a1 (nsP (brB nn xx) nn a1) k))), (3, .int (nI a1)), (4, .int (nI (k + 1)))] := lv_sub hl [2, 3, 4, 5, 0] rfl; have e2 : nsQ (brB nn xx) a1 (nsP (brB nn xx) nn a1) (k + 1) = if brB nn xx a1 k = true then nsQ (brB nn xx) a1 (nsP (brB nn xx) nn a1) k ||| 1 <<< (4 * a1 + k) else nsQ (brB nn xx) a1 (nsP (brB nn xx) nn a1) k := rfl; rw [e2]; first | (rw [if_pos (by simp only [brB, c_2, c_4, c_5, c_6]; simp [c_2, c_4, c_5, c_6])]; exact h9) | (rw [if_neg (by simp only [brB, c_2, c_4, c_5, c_6]; simp [c_2, c_4, c_5, c_6])]; exact h9))
        exact lp_3 _ 0 (Nat.zero_le _) (Nat.lt_succ_self _) ls (lv_sub hl [1, 2, 3, 4, 0] rfl)
  exact lp_1 _ 0 (Nat.zero_le _) (Nat.lt_succ_self _) ls (lv_sub hl [2, 3, 1, 0] rfl)

set_option maxHeartbeats 4000000 in
set_option maxRecDepth 100000 in
theorem k_isSun (l : Launch) (nn xx : Nat) (h1 : nn ≤ 4) (h2 : xx < 65536) : Pz l yX2_isSun cX2_isSun 4 (some .boolean) rm_X2_isSun [.int (nI nn), .int (nI xx)] (some (.int (bI (suC nn xx)))) := by
  refine mk_pz (by decide) (Nat.le_of_ble_eq_true rfl) ?_
  intro p e s m args below meth c hC ls hl
  obtain ⟨hx, hb, hr, hts, hown, hml, hlk, hN⟩ := id hC
  have hl : lv_has ls 4 [(0, .int (nI nn)), (1, .int (nI xx))] := hl
  refine lv_iconst (v := nI 0) hx hb dX2_isSun_0 (by decide) ?_
  refine lv_istore_n (lv' := [(2, .int (nI 0)), (0, .int (nI nn)), (1, .int (nI xx))]) hx hb dX2_isSun_1 rfl hl (by decide) rfl (fun ls hl => ?_)
  refine lv_iconst (v := nI 0) hx hb dX2_isSun_2 (by decide) ?_
  refine lv_istore_n (lv' := [(3, .int (nI 0)), (2, .int (nI 0)), (0, .int (nI nn)), (1, .int (nI xx))]) hx hb dX2_isSun_3 rfl hl (by decide) rfl (fun ls hl => ?_)
  have lp_1 : ∀ (n_lp_1 : Nat) (k : Nat) (hk : k ≤ nn), nn - k < n_lp_1 → ∀ (ls : Array Slot), lv_has ls 4 [(0, .int (nI nn)), (1, .int (nI xx)), (2, .int (nI (hoC xx k))), (3, .int (nI k))] → W p l e rm_X2_isSun s m args below meth c s.heap [] 0 0 (MQ below (pz_Q (some (.int (bI (suC nn xx))))) args s 0 0 pz_F) (F0 m 4 ls []) := by
    intro n_lp_1
    induction n_lp_1 with
    | zero => intro k hk; intro hm_lp_1; exact absurd hm_lp_1 (Nat.not_lt_zero _)
    | succ n_lp_1 ih_lp_1 =>
      intro k hk hm_lp_1 ls hl
      refine lv_iload_n hx hb dX2_isSun_4 rfl (lv_at hl 3 rfl) ?_
      refine lv_iload_n hx hb dX2_isSun_5 rfl (lv_at hl 0 rfl) ?_
      refine n_icmp_ge (tgt := 35) hx hb (by omega) (by omega) dX2_isSun_6 (by decide) (fun c_2 => ?_) (fun c_2 => ?_)
      · -- t 35
        refine lv_iconst (v := nI 0) hx hb dX2_isSun_35 (by decide) ?_
        refine lv_istore_n (lv' := [(3, .int (nI 0)), (0, .int (nI nn)), (1, .int (nI xx)), (2, .int (nI (hoC xx k)))]) hx hb dX2_isSun_36 rfl hl (by decide) rfl (fun ls hl => ?_)
        have lp_3 : ∀ (n_lp_3 : Nat) (k2 : Nat) (hk2 : k2 ≤ nn) (hk3 : ∀ j, j < k2 → hoC xx nn &&& (rch nn xx j ^^^ 4294967295) = 0), nn - k2 < n_lp_3 → ∀ (ls : Array Slot), lv_has ls 4 [(0, .int (nI nn)), (1, .int (nI xx)), (2, .int (nI (hoC xx nn))), (3, .int (nI k2))] → W p l e rm_X2_isSun s m args below meth c s.heap [] 0 0 (MQ below (pz_Q (some (.int (bI (suC nn xx))))) args s 0 0 pz_F) (F0 m 37 ls []) := by
          intro n_lp_3
          induction n_lp_3 with
          | zero => intro k2 hk2 hk3; intro hm_lp_3; exact absurd hm_lp_3 (Nat.not_lt_zero _)
          | succ n_lp_3 ih_lp_3 =>
            intro k2 hk2 hk3 hm_lp_3 ls hl
            refine lv_iload_n hx hb dX2_isSun_37 rfl (lv_at hl 3 rfl) ?_
            refine lv_iload_n hx hb dX2_isSun_38 rfl (lv_at hl 0 rfl) ?_
            refine n_icmp_ge (tgt := 63) hx hb (by omega) (by omega) dX2_isSun_39 (by decide) (fun c_4 => ?_) (fun c_4 => ?_)
            · -- t 63
              refine lv_iconst (v := nI 1) hx hb dX2_isSun_63 (by decide) ?_
              exact rz_bE hC (by rw [show suC nn xx = true from by unfold suC; exact decide_eq_true (fun j hj => hk3 j (by omega))]; rfl) dX2_isSun_64
            · -- f 42
              refine lv_iload_n hx hb dX2_isSun_42 rfl (lv_at hl 2 rfl) ?_
              refine lv_iload_n hx hb dX2_isSun_43 rfl (lv_at hl 0 rfl) ?_
              refine lv_iload_n hx hb dX2_isSun_44 rfl (lv_at hl 1 rfl) ?_
              refine lv_iload_n hx hb dX2_isSun_45 rfl (lv_at hl 3 rfl) ?_
              refine cS_p (rest := [.int (nI (hoC xx nn))]) hC (k_reach l nn xx k2 (by omega) (by omega) (by omega)) kw_555 sy_X2_reach ⟨Nat.le_of_ble_eq_true rfl, Nat.le_of_ble_eq_true rfl⟩ ⟨rfl, rfl⟩ rfl hl.1 rfl (Nat.le_of_ble_eq_true rfl) dX2_isSun_46 ⟨Nat.le_of_ble_eq_true rfl, Nat.le_of_ble_eq_true rfl⟩ ?_
              have f_5 := (show rch nn xx k2 < 16 from rcA_lt (n := nn) (x := xx) (by omega : k2 < 4) nn)
              refine lv_iconst (v := -1) hx hb dX2_isSun_49 (by decide) ?_
              refine n_ixor (y := 4294967295) hx hb dX2_isSun_50 ?_
              refine n_iand hx hb dX2_isSun_51 ?_
              have hx9 : hoC xx nn &&& (rch nn xx k2 ^^^ 4294967295) ≤ hoC xx nn := Nat.and_le_left; have hx8 := hoC_lt xx nn h1
              refine n_if_eq (tgt := 57) hx hb (by omega) dX2_isSun_52 (by decide) (fun c_6 => ?_) (fun c_6 => ?_)
              · -- t 57
                refine lv_iinc (v := nI (k2 + 1)) (lv' := [(3, .int (nI (k2 + 1))), (0, .int (nI nn)), (1, .int (nI xx)), (2, .int (nI (hoC xx nn)))]) hx hb dX2_isSun_57 hl (k := 3) rfl (ii_1 _) (by decide) rfl (fun ls hl => ?_)
                refine lv_goto (tgt := 37) hx hb dX2_isSun_60 (by decide) ?_
                exact ih_lp_3 (k2 + 1) (by omega) (fun j hj => by rcases (by omega : j < k2 ∨ j = k2) with h7 | h7; exact hk3 j h7; rw [h7]; exact c_6) (by omega) ls (lv_sub hl [1, 2, 3, 0] rfl)
              · -- f 55
                refine lv_iconst (v := nI 0) hx hb dX2_isSun_55 (by decide) ?_
                exact rz_bE hC (by rw [show suC nn xx = false from by unfold suC; exact decide_eq_false (fun h9 => c_6 (h9 k2 (by omega)))]; rfl) dX2_isSun_56
        exact lp_3 _ 0 (Nat.zero_le _) (fun j hj => absurd hj (by omega)) (Nat.lt_succ_self _) ls (by have h9 : lv_has ls 4 [(0, .int (nI nn)), (1, .int (nI xx)), (2, .int (nI (hoC xx k))), (3, .int (nI 0))] := lv_sub hl [1, 2, 3, 0] rfl; rw [show k = nn by omega] at h9; exact h9)
      · -- f 9
        refine lv_iload_n hx hb dX2_isSun_9 rfl (lv_at hl 1 rfl) ?_
        refine lv_iload_n hx hb dX2_isSun_10 rfl (lv_at hl 3 rfl) ?_
        refine cS_p (rest := []) hC (k_partOf l xx k (by omega) (by omega)) kw_558 sy_X5_partOf ⟨Nat.le_of_ble_eq_true rfl, Nat.le_of_ble_eq_true rfl⟩ ⟨rfl, rfl⟩ rfl hl.1 rfl (Nat.le_of_ble_eq_true rfl) dX2_isSun_11 ⟨Nat.le_of_ble_eq_true rfl, Nat.le_of_ble_eq_true rfl⟩ ?_
        have f_7 := prt_lt xx k
        refine lv_iconst (v := nI 1) hx hb dX2_isSun_14 (by decide) ?_
        refine lv_iload_n hx hb dX2_isSun_15 rfl (lv_at hl 3 rfl) ?_
        refine n_ishl hx hb (by omega) dX2_isSun_16 ?_
        refine lv_iconst (v := -1) hx hb dX2_isSun_17 (by decide) ?_
        refine n_ixor (y := 4294967295) hx hb dX2_isSun_18 ?_
        refine n_iand hx hb dX2_isSun_19 ?_
        have hx9 : prt xx k &&& (1 <<< k ^^^ 4294967295) ≤ prt xx k := Nat.and_le_left
        refine n_if_eq (tgt := 29) hx hb (by omega) dX2_isSun_20 (by decide) (fun c_8 => ?_) (fun c_8 => ?_)
        · -- t 29
          refine lv_iinc (v := nI (k + 1)) (lv' := [(3, .int (nI (k + 1))), (0, .int (nI nn)), (1, .int (nI xx)), (2, .int (nI (hoC xx k)))]) hx hb dX2_isSun_29 hl (k := 3) rfl (ii_1 _) (by decide) rfl (fun ls hl => ?_)
          refine lv_goto (tgt := 4) hx hb dX2_isSun_32 (by decide) ?_
          exact ih_lp_1 (k + 1) (by omega) (by omega) ls (by have h9 : lv_has ls 4 [(0, .int (nI nn)), (1, .int (nI xx)), (2, .int (nI (hoC xx k))), (3, .int (nI (k + 1)))] := lv_sub hl [1, 2, 3, 0] rfl; simpa [hoC, c_2, c_8] using h9)
        · -- f 23
          refine lv_iload_n hx hb dX2_isSun_23 rfl (lv_at hl 2 rfl) ?_
          refine lv_iconst (v := nI 1) hx hb dX2_isSun_24 (by decide) ?_
          refine lv_iload_n hx hb dX2_isSun_25 rfl (lv_at hl 3 rfl) ?_
          refine n_ishl hx hb (by omega) dX2_isSun_26 ?_
          refine n_ior hx hb dX2_isSun_27 ?_
          refine lv_istore_n (lv' := [(2, .int (nI ((hoC xx k) ||| (1 <<< k)))), (0, .int (nI nn)), (1, .int (nI xx)), (3, .int (nI k))]) hx hb dX2_isSun_28 rfl hl (by decide) rfl (fun ls hl => ?_)
          refine lv_iinc (v := nI (k + 1)) (lv' := [(3, .int (nI (k + 1))), (2, .int (nI ((hoC xx k) ||| (1 <<< k)))), (0, .int (nI nn)), (1, .int (nI xx))]) hx hb dX2_isSun_29 hl (k := 3) rfl (ii_1 _) (by decide) rfl (fun ls hl => ?_)
          refine lv_goto (tgt := 4) hx hb dX2_isSun_32 (by decide) ?_
          exact ih_lp_1 (k + 1) (by omega) (by omega) ls (by have h9 : lv_has ls 4 [(0, .int (nI nn)), (1, .int (nI xx)), (2, .int (nI ((hoC xx k) ||| (1 <<< k)))), (3, .int (nI (k + 1)))] := lv_sub hl [2, 3, 1, 0] rfl; simpa [hoC, c_2, c_8] using h9)
  exact lp_1 _ 0 (Nat.zero_le _) (Nat.lt_succ_self _) ls (lv_sub hl [2, 3, 1, 0] rfl)
