set_option maxHeartbeats 4000000 in
set_option maxRecDepth 100000 in
theorem c_isIn (l : Launch) (v a b : Int32) : Pz l yX12_isIn cX12_isIn 3 (some .boolean) rm_X12_isIn [.int v, .int a, .int b] (some (.int (bI (isIn v a b)))) := by
  refine mk_pz (by decide) (Nat.le_of_ble_eq_true rfl) ?_
  intro p e s m args below meth c hC ls hl
  obtain ⟨hx, hb, hr, hts, hown, hml, hlk, hN⟩ := id hC
  have hl : lv_has ls 3 [(0, .int v), (1, .int a), (2, .int b)] := hl
  refine lv_iload_n hx hb dX12_isIn_0 rfl (lv_at hl 0 rfl) ?_
  refine lv_iload_n hx hb dX12_isIn_1 rfl (lv_at hl 1 rfl) ?_
  refine lv_icmp_lt (tgt := 14) hx hb dX12_isIn_2 (by decide) (fun c_1 => ?_) (fun c_1 => ?_)
  · -- t 14
    refine lv_iconst (v := nI 0) hx hb dX12_isIn_14 (by decide) ?_
    exact rz_bE hC (by first | rw [isIn_t (by assumption) (by assumption)]; rfl | rw [isIn_f1 (by assumption)]; rfl | rw [isIn_f2 (by assumption)]; rfl) dX12_isIn_15
  · -- f 5
    refine lv_iload_n hx hb dX12_isIn_5 rfl (lv_at hl 0 rfl) ?_
    refine lv_iload_n hx hb dX12_isIn_6 rfl (lv_at hl 2 rfl) ?_
    refine lv_icmp_gt (tgt := 14) hx hb dX12_isIn_7 (by decide) (fun c_2 => ?_) (fun c_2 => ?_)
    · -- t 14
      refine lv_iconst (v := nI 0) hx hb dX12_isIn_14 (by decide) ?_
      exact rz_bE hC (by first | rw [isIn_t (by assumption) (by assumption)]; rfl | rw [isIn_f1 (by assumption)]; rfl | rw [isIn_f2 (by assumption)]; rfl) dX12_isIn_15
    · -- f 10
      refine lv_iconst (v := nI 1) hx hb dX12_isIn_10 (by decide) ?_
      refine lv_goto (tgt := 15) hx hb dX12_isIn_11 (by decide) ?_
      exact rz_bE hC (by first | rw [isIn_t (by assumption) (by assumption)]; rfl | rw [isIn_f1 (by assumption)]; rfl | rw [isIn_f2 (by assumption)]; rfl) dX12_isIn_15

set_option maxHeartbeats 4000000 in
set_option maxRecDepth 100000 in
theorem c_m_isSheet (l : Launch) (v : Int32) : Pz l yX12_isSheet cX12_isSheet 1 (some .boolean) rm_X12_isSheet [.int v] (some (.int (bI (isIn v (nI 0) (nI 3))))) := by
  refine mk_pz (by decide) (Nat.le_of_ble_eq_true rfl) ?_
  intro p e s m args below meth c hC ls hl
  obtain ⟨hx, hb, hr, hts, hown, hml, hlk, hN⟩ := id hC
  have hl : lv_has ls 1 [(0, .int v)] := hl
  refine lv_iload_n hx hb dX12_isSheet_0 rfl (lv_at hl 0 rfl) ?_
  refine lv_iconst (v := nI 0) hx hb dX12_isSheet_1 (by decide) ?_
  refine lv_iconst (v := nI 3) hx hb dX12_isSheet_2 (by decide) ?_
  refine cS_p (rest := []) hC (c_isIn l v (nI 0) (nI 3)) kw_837 sy_X12_isIn ⟨Nat.le_of_ble_eq_true rfl, Nat.le_of_ble_eq_true rfl⟩ ⟨rfl, rfl⟩ rfl hl.1 rfl (Nat.le_of_ble_eq_true rfl) dX12_isSheet_3 ⟨Nat.le_of_ble_eq_true rfl, Nat.le_of_ble_eq_true rfl⟩ ?_
  exact rz_bE hC (rfl) dX12_isSheet_6

set_option maxHeartbeats 4000000 in
set_option maxRecDepth 100000 in
theorem c_m_isLane (l : Launch) (v : Int32) : Pz l yX12_isLane cX12_isLane 1 (some .boolean) rm_X12_isLane [.int v] (some (.int (bI (isIn v (nI 0) (nI 2))))) := by
  refine mk_pz (by decide) (Nat.le_of_ble_eq_true rfl) ?_
  intro p e s m args below meth c hC ls hl
  obtain ⟨hx, hb, hr, hts, hown, hml, hlk, hN⟩ := id hC
  have hl : lv_has ls 1 [(0, .int v)] := hl
  refine lv_iload_n hx hb dX12_isLane_0 rfl (lv_at hl 0 rfl) ?_
  refine lv_iconst (v := nI 0) hx hb dX12_isLane_1 (by decide) ?_
  refine lv_iconst (v := nI 2) hx hb dX12_isLane_2 (by decide) ?_
  refine cS_p (rest := []) hC (c_isIn l v (nI 0) (nI 2)) kw_837 sy_X12_isIn ⟨Nat.le_of_ble_eq_true rfl, Nat.le_of_ble_eq_true rfl⟩ ⟨rfl, rfl⟩ rfl hl.1 rfl (Nat.le_of_ble_eq_true rfl) dX12_isLane_3 ⟨Nat.le_of_ble_eq_true rfl, Nat.le_of_ble_eq_true rfl⟩ ?_
  exact rz_bE hC (rfl) dX12_isLane_6

set_option maxHeartbeats 4000000 in
set_option maxRecDepth 100000 in
theorem c_m_isRule (l : Launch) (v : Int32) : Pz l yX12_isRule cX12_isRule 1 (some .boolean) rm_X12_isRule [.int v] (some (.int (bI (isIn v (nI 0) (nI 3))))) := by
  refine mk_pz (by decide) (Nat.le_of_ble_eq_true rfl) ?_
  intro p e s m args below meth c hC ls hl
  obtain ⟨hx, hb, hr, hts, hown, hml, hlk, hN⟩ := id hC
  have hl : lv_has ls 1 [(0, .int v)] := hl
  refine lv_iload_n hx hb dX12_isRule_0 rfl (lv_at hl 0 rfl) ?_
  refine lv_iconst (v := nI 0) hx hb dX12_isRule_1 (by decide) ?_
  refine lv_iconst (v := nI 3) hx hb dX12_isRule_2 (by decide) ?_
  refine cS_p (rest := []) hC (c_isIn l v (nI 0) (nI 3)) kw_837 sy_X12_isIn ⟨Nat.le_of_ble_eq_true rfl, Nat.le_of_ble_eq_true rfl⟩ ⟨rfl, rfl⟩ rfl hl.1 rfl (Nat.le_of_ble_eq_true rfl) dX12_isRule_3 ⟨Nat.le_of_ble_eq_true rfl, Nat.le_of_ble_eq_true rfl⟩ ?_
  exact rz_bE hC (rfl) dX12_isRule_6

set_option maxHeartbeats 4000000 in
set_option maxRecDepth 100000 in
theorem c_m_has (l : Launch) (z k : Nat) (hz1 : z < 2 ^ 31) (hk : k < 32) : Pz l yX12_has cX12_has 2 (some .boolean) rm_X12_has [.int (nI z), .int (nI k)] (some (.int (bI (z.testBit k)))) := by
  refine mk_pz (by decide) (Nat.le_of_ble_eq_true rfl) ?_
  intro p e s m args below meth c hC ls hl
  obtain ⟨hx, hb, hr, hts, hown, hml, hlk, hN⟩ := id hC
  have hl : lv_has ls 2 [(0, .int (nI z)), (1, .int (nI k))] := hl
  refine lv_iload_n hx hb dX12_has_0 rfl (lv_at hl 0 rfl) ?_
  refine lv_iload_n hx hb dX12_has_1 rfl (lv_at hl 1 rfl) ?_
  refine n_ishr hx hb (by omega) (by omega) dX12_has_2 ?_
  have f_1 := shr_le z k
  refine lv_iconst (v := nI 1) hx hb dX12_has_3 (by decide) ?_
  refine n_iand hx hb dX12_has_4 ?_
  have f_2 : (z >>> k) &&& 1 ≤ 1 := Nat.and_le_right
  refine lv_iconst (v := nI 1) hx hb dX12_has_5 (by decide) ?_
  refine n_icmp_ne (tgt := 13) hx hb (by omega) (by omega) dX12_has_6 (by decide) (fun c_3 => ?_) (fun c_3 => ?_)
  · -- t 13
    refine lv_iconst (v := nI 0) hx hb dX12_has_13 (by decide) ?_
    exact rz_bE hC (by first | rw [tb_1 (by assumption)]; rfl | rw [tb_0 (by assumption)]; rfl) dX12_has_14
  · -- f 9
    refine lv_iconst (v := nI 1) hx hb dX12_has_9 (by decide) ?_
    refine lv_goto (tgt := 14) hx hb dX12_has_10 (by decide) ?_
    exact rz_bE hC (by first | rw [tb_1 (by assumption)]; rfl | rw [tb_0 (by assumption)]; rfl) dX12_has_14

set_option maxHeartbeats 4000000 in
set_option maxRecDepth 100000 in
theorem c_of (l : Launch) (st pp : Nat) (h1 : st < 2 ^ 31) (h2 : pp < 4) : Pz l yX12_of cX12_of 2 (some .int) rm_X12_of [.int (nI st), .int (nI pp)] (some (.int (nI (of4 st pp)))) := by
  refine mk_pz (by decide) (Nat.le_of_ble_eq_true rfl) ?_
  intro p e s m args below meth c hC ls hl
  obtain ⟨hx, hb, hr, hts, hown, hml, hlk, hN⟩ := id hC
  have hl : lv_has ls 2 [(0, .int (nI st)), (1, .int (nI pp))] := hl
  refine lv_iload_n hx hb dX12_of_0 rfl (lv_at hl 0 rfl) ?_
  refine lv_iconst (v := nI 4) hx hb dX12_of_1 (by decide) ?_
  refine lv_iload_n hx hb dX12_of_2 rfl (lv_at hl 1 rfl) ?_
  refine n_imul hx hb dX12_of_3 ?_
  refine n_ishr hx hb (by omega) (by omega) dX12_of_4 ?_
  have f_1 := shr_le st (4 * pp)
  refine lv_bipush (v := nI 15) hx hb dX12_of_5 (by decide) ?_
  refine n_iand hx hb dX12_of_7 ?_
  have f_2 : (st >>> (4 * pp)) &&& 15 ≤ 15 := Nat.and_le_right
  exact rz_iE hC (rfl) dX12_of_8

set_option maxHeartbeats 4000000 in
set_option maxRecDepth 100000 in
theorem c_bitsOf (l : Launch) (z : Nat) (h1 : z < 2 ^ 31) : Pz l yX12_bitsOf cX12_bitsOf 3 (some .int) rm_X12_bitsOf [.int (nI z)] (some (.int (nI (bitsN z 16)))) := by
  refine mk_pz (by decide) (Nat.le_of_ble_eq_true rfl) ?_
  intro p e s m args below meth c hC ls hl
  obtain ⟨hx, hb, hr, hts, hown, hml, hlk, hN⟩ := id hC
  have hl : lv_has ls 3 [(0, .int (nI z))] := hl
  refine lv_iconst (v := nI 0) hx hb dX12_bitsOf_0 (by decide) ?_
  refine lv_istore_n (lv' := [(1, .int (nI 0)), (0, .int (nI z))]) hx hb dX12_bitsOf_1 rfl hl (by decide) rfl (fun ls hl => ?_)
  refine lv_iconst (v := nI 0) hx hb dX12_bitsOf_2 (by decide) ?_
  refine lv_istore_n (lv' := [(2, .int (nI 0)), (1, .int (nI 0)), (0, .int (nI z))]) hx hb dX12_bitsOf_3 rfl hl (by decide) rfl (fun ls hl => ?_)
  have lp_1 : ∀ (n_lp_1 : Nat) (k : Nat) (hk : k ≤ 16), 16 - k < n_lp_1 → ∀ (ls : Array Slot), lv_has ls 3 [(0, .int (nI z)), (1, .int (nI (bitsN z k))), (2, .int (nI k))] → W p l e rm_X12_bitsOf s m args below meth c s.heap [] 0 0 (MQ below (pz_Q (some (.int (nI (bitsN z 16))))) args s 0 0 pz_F) (F0 m 4 ls []) := by
    intro n_lp_1
    induction n_lp_1 with
    | zero => intro k hk; intro hm_lp_1; exact absurd hm_lp_1 (Nat.not_lt_zero _)
    | succ n_lp_1 ih_lp_1 =>
      intro k hk hm_lp_1 ls hl
      refine lv_iload_n hx hb dX12_bitsOf_4 rfl (lv_at hl 2 rfl) ?_
      refine lv_bipush (v := nI 16) hx hb dX12_bitsOf_5 (by decide) ?_
      refine n_icmp_ge (tgt := 24) hx hb (by omega) (by omega) dX12_bitsOf_7 (by decide) (fun c_2 => ?_) (fun c_2 => ?_)
      · -- t 24
        refine lv_iload_n hx hb dX12_bitsOf_24 rfl (lv_at hl 1 rfl) ?_
        exact rz_iE hC (by rw [show k = 16 by omega]) dX12_bitsOf_25
      · -- f 10
        refine lv_iload_n hx hb dX12_bitsOf_10 rfl (lv_at hl 1 rfl) ?_
        refine lv_iload_n hx hb dX12_bitsOf_11 rfl (lv_at hl 0 rfl) ?_
        refine lv_iload_n hx hb dX12_bitsOf_12 rfl (lv_at hl 2 rfl) ?_
        refine n_ishr hx hb (by omega) (by omega) dX12_bitsOf_13 ?_
        have f_3 := shr_le z k
        refine lv_iconst (v := nI 1) hx hb dX12_bitsOf_14 (by decide) ?_
        refine n_iand hx hb dX12_bitsOf_15 ?_
        have f_4 : (z >>> k) &&& 1 ≤ 1 := Nat.and_le_right
        refine n_iadd hx hb dX12_bitsOf_16 ?_
        refine lv_istore_n (lv' := [(1, .int (nI ((bitsN z k) + ((z >>> k) &&& 1)))), (0, .int (nI z)), (2, .int (nI k))]) hx hb dX12_bitsOf_17 rfl hl (by decide) rfl (fun ls hl => ?_)
        refine lv_iinc (v := nI (k + 1)) (lv' := [(2, .int (nI (k + 1))), (1, .int (nI ((bitsN z k) + ((z >>> k) &&& 1)))), (0, .int (nI z))]) hx hb dX12_bitsOf_18 hl (k := 2) rfl (ii_1 _) (by decide) rfl (fun ls hl => ?_)
        refine lv_goto (tgt := 4) hx hb dX12_bitsOf_21 (by decide) ?_
        exact ih_lp_1 (k + 1) (by omega) (by omega) ls (lv_sub hl [2, 1, 0] rfl)
  exact lp_1 _ 0 (by omega) (Nat.lt_succ_self _) ls (lv_sub hl [2, 1, 0] rfl)

set_option maxHeartbeats 4000000 in
set_option maxRecDepth 100000 in
theorem c_aft (l : Launch) (st pp qq : Nat) (h1 : st < 2 ^ 31) (h2 : pp < 4) (h3 : qq < 4) : Pz l yX12_afterCall cX12_afterCall 4 (some .int) rm_X12_afterCall [.int (nI st), .int (nI pp), .int (nI qq)] (some (.int (nI (aft st pp qq)))) := by
  refine mk_pz (by decide) (Nat.le_of_ble_eq_true rfl) ?_
  intro p e s m args below meth c hC ls hl
  obtain ⟨hx, hb, hr, hts, hown, hml, hlk, hN⟩ := id hC
  have hl : lv_has ls 4 [(0, .int (nI st)), (1, .int (nI pp)), (2, .int (nI qq))] := hl
  refine lv_iload_n hx hb dX12_afterCall_0 rfl (lv_at hl 0 rfl) ?_
  refine lv_iload_n hx hb dX12_afterCall_1 rfl (lv_at hl 1 rfl) ?_
  refine cS_p (rest := []) hC (c_of l st pp (by omega) (by omega)) kw_874 sy_X12_of ⟨Nat.le_of_ble_eq_true rfl, Nat.le_of_ble_eq_true rfl⟩ ⟨rfl, rfl⟩ rfl hl.1 rfl (Nat.le_of_ble_eq_true rfl) dX12_afterCall_2 ⟨Nat.le_of_ble_eq_true rfl, Nat.le_of_ble_eq_true rfl⟩ ?_
  have f_1 := of4_lt st pp
  refine lv_iload_n hx hb dX12_afterCall_5 rfl (lv_at hl 0 rfl) ?_
  refine lv_iload_n hx hb dX12_afterCall_6 rfl (lv_at hl 2 rfl) ?_
  refine cS_p (rest := [.int (nI (of4 st pp))]) hC (c_of l st qq (by omega) (by omega)) kw_874 sy_X12_of ⟨Nat.le_of_ble_eq_true rfl, Nat.le_of_ble_eq_true rfl⟩ ⟨rfl, rfl⟩ rfl hl.1 rfl (Nat.le_of_ble_eq_true rfl) dX12_afterCall_7 ⟨Nat.le_of_ble_eq_true rfl, Nat.le_of_ble_eq_true rfl⟩ ?_
  have f_2 := of4_lt st qq
  refine n_ior hx hb dX12_afterCall_10 ?_
  refine lv_istore_n (lv' := [(3, .int (nI ((of4 st pp) ||| (of4 st qq)))), (0, .int (nI st)), (1, .int (nI pp)), (2, .int (nI qq))]) hx hb dX12_afterCall_11 rfl hl (by decide) rfl (fun ls hl => ?_)
  refine lv_iload_n hx hb dX12_afterCall_12 rfl (lv_at hl 1 rfl) ?_
  refine lv_iload_n hx hb dX12_afterCall_13 rfl (lv_at hl 0 rfl) ?_
  refine lv_iconst (v := nI 4) hx hb dX12_afterCall_14 (by decide) ?_
  refine lv_iload_n hx hb dX12_afterCall_15 rfl (lv_at hl 2 rfl) ?_
  refine n_imul hx hb dX12_afterCall_16 ?_
  refine n_ishl hx hb (by omega) dX12_afterCall_17 ?_
  refine n_ior hx hb dX12_afterCall_18 ?_
  refine lv_iload_n hx hb dX12_afterCall_19 rfl (lv_at hl 0 rfl) ?_
  refine lv_iconst (v := nI 4) hx hb dX12_afterCall_20 (by decide) ?_
  refine lv_iload_n hx hb dX12_afterCall_21 rfl (lv_at hl 3 rfl) ?_
  refine n_imul hx hb dX12_afterCall_22 ?_
  refine n_ishl hx hb (by omega) dX12_afterCall_23 ?_
  refine n_ior hx hb dX12_afterCall_24 ?_
  exact rz_iE hC (rfl) dX12_afterCall_25

set_option maxHeartbeats 4000000 in
set_option maxRecDepth 100000 in
theorem c_tokA (l : Launch) (t r pp qq : Nat) (h1 : r < 4) (h2 : pp < 4) (h3 : qq < 4) : Pz l yX12_tokensAfter cX12_tokensAfter 4 (some .int) rm_X12_tokensAfter [.int (nI t), .int (nI r), .int (nI pp), .int (nI qq)] (some (.int (nI (tokA t r pp qq)))) := by
  refine mk_pz (by decide) (Nat.le_of_ble_eq_true rfl) ?_
  intro p e s m args below meth c hC ls hl
  obtain ⟨hx, hb, hr, hts, hown, hml, hlk, hN⟩ := id hC
  have hl : lv_has ls 4 [(0, .int (nI t)), (1, .int (nI r)), (2, .int (nI pp)), (3, .int (nI qq))] := hl
  refine lv_iload_n hx hb dX12_tokensAfter_0 rfl (lv_at hl 1 rfl) ?_
  refine lv_iconst (v := nI 2) hx hb dX12_tokensAfter_1 (by decide) ?_
  refine n_icmp_ne (tgt := 19) hx hb (by omega) (by omega) dX12_tokensAfter_2 (by decide) (fun c_1 => ?_) (fun c_1 => ?_)
  · -- t 19
    refine lv_iload_n hx hb dX12_tokensAfter_19 rfl (lv_at hl 1 rfl) ?_
    refine lv_iconst (v := nI 3) hx hb dX12_tokensAfter_20 (by decide) ?_
    refine n_icmp_ne (tgt := 34) hx hb (by omega) (by omega) dX12_tokensAfter_21 (by decide) (fun c_2 => ?_) (fun c_2 => ?_)
    · -- t 34
      refine lv_iload_n hx hb dX12_tokensAfter_34 rfl (lv_at hl 0 rfl) ?_
      exact rz_iE hC (by first | rw [tokA, if_pos (by assumption)] | rw [tokA, if_neg (by assumption), if_pos (by assumption)] | rw [tokA, if_neg (by assumption), if_neg (by assumption)]) dX12_tokensAfter_35
    · -- f 24
      refine lv_iload_n hx hb dX12_tokensAfter_24 rfl (lv_at hl 0 rfl) ?_
      refine lv_iconst (v := nI 1) hx hb dX12_tokensAfter_25 (by decide) ?_
      refine lv_iload_n hx hb dX12_tokensAfter_26 rfl (lv_at hl 3 rfl) ?_
      refine n_ishl hx hb (by omega) dX12_tokensAfter_27 ?_
      refine lv_iconst (v := -1) hx hb dX12_tokensAfter_28 (by decide) ?_
      refine n_ixor (y := 4294967295) hx hb dX12_tokensAfter_29 ?_
      refine n_iand hx hb dX12_tokensAfter_30 ?_
      refine lv_goto (tgt := 35) hx hb dX12_tokensAfter_31 (by decide) ?_
      exact rz_iE hC (by first | rw [tokA, if_pos (by assumption)] | rw [tokA, if_neg (by assumption), if_pos (by assumption)] | rw [tokA, if_neg (by assumption), if_neg (by assumption)]) dX12_tokensAfter_35
  · -- f 5
    refine lv_iload_n hx hb dX12_tokensAfter_5 rfl (lv_at hl 0 rfl) ?_
    refine lv_iconst (v := nI 1) hx hb dX12_tokensAfter_6 (by decide) ?_
    refine lv_iload_n hx hb dX12_tokensAfter_7 rfl (lv_at hl 2 rfl) ?_
    refine n_ishl hx hb (by omega) dX12_tokensAfter_8 ?_
    refine lv_iconst (v := -1) hx hb dX12_tokensAfter_9 (by decide) ?_
    refine n_ixor (y := 4294967295) hx hb dX12_tokensAfter_10 ?_
    refine n_iand hx hb dX12_tokensAfter_11 ?_
    refine lv_iconst (v := nI 1) hx hb dX12_tokensAfter_12 (by decide) ?_
    refine lv_iload_n hx hb dX12_tokensAfter_13 rfl (lv_at hl 3 rfl) ?_
    refine n_ishl hx hb (by omega) dX12_tokensAfter_14 ?_
    refine n_ior hx hb dX12_tokensAfter_15 ?_
    refine lv_goto (tgt := 35) hx hb dX12_tokensAfter_16 (by decide) ?_
    exact rz_iE hC (by first | rw [tokA, if_pos (by assumption)] | rw [tokA, if_neg (by assumption), if_pos (by assumption)] | rw [tokA, if_neg (by assumption), if_neg (by assumption)]) dX12_tokensAfter_35
