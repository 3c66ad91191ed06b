set_option maxHeartbeats 4000000 in
set_option maxRecDepth 100000 in
theorem c_m_layOther (l : Launch) (E : EE) (ad : Nat → Nat) (lk : Nat) (tr : Int32) (N : Nat → Nat) (X : Nat → Nat → Int32) (F G : Nat → Nat → Nat) (sz : Nat) (i1 i2 : Nat) (h1 : i1 < 4) (h2 : i2 < 4) : Wr l yX12_layOther cX12_layOther 4 none rm_X12_layOther 0 0 E (mW E ad lk tr N X F G) sz [.ref (ad 0), .int (nI i1), .int (nI i2)] (fun v w1 => v = none ∧ w1 = mW E ad lk tr N X (va_up F 28 (flip (F 6) i1 i2)) G) := by
  refine mk_wr (by decide) (Nat.le_of_ble_eq_true rfl) ?_
  intro p e s m args below meth c hC hin hK A hA hP hD hS ls hl
  obtain ⟨hx, hb, hr, hts, hown, hml, hlk, hN⟩ := id hC
  have hl : lv_has ls 4 [(0, .ref (ad 0)), (1, .int (nI i1)), (2, .int (nI i2))] := hl
  obtain ⟨H, hH⟩ : ∃ z, z = s.heap := ⟨_, rfl⟩
  have hS : va_S A s.heap H [] := by rw [hH]; exact hS
  rw [← hH] at hP
  refine W_heap hH ?_
  obtain ⟨locs, hlo⟩ : ∃ z : List Loc, z = [] := ⟨_, rfl⟩
  rw [← hlo] at hS ⊢
  refine lv_iconst (v := nI 0) hx hb dX12_layOther_0 (by decide) ?_
  refine lv_istore_n (lv' := [(3, .int (nI 0)), (0, .ref (ad 0)), (1, .int (nI i1)), (2, .int (nI i2))]) hx hb dX12_layOther_1 rfl hl (by decide) rfl (fun ls hl => ?_)
  have lp_1 : ∀ (n_lp_1 : Nat) (k : Nat) (hk : k ≤ 4), 4 - k < n_lp_1 → ∀ (H : Heap) (locs : List Loc) (hP : va_P E.1 vwCl (mW E ad lk tr N X (va_up F 28 (netU (F 28) (F 6) k)) G) H) (hD : va_D A (mW E ad lk tr N X (va_up F 28 (netU (F 28) (F 6) k)) G)) (hS : va_S A s.heap H locs) (ls : Array Slot), lv_has ls 4 [(0, .ref (ad 0)), (1, .int (nI i1)), (2, .int (nI i2)), (3, .int (nI k))] → W p l e rm_X12_layOther s m args below meth c H locs 0 0 (MQ below (wr_Q E A (fun v w1 => v = none ∧ w1 = mW E ad lk tr N X (va_up F 28 (flip (F 6) i1 i2)) G)) args s 0 0 A) (F0 m 2 ls []) := by
    intro n_lp_1
    induction n_lp_1 with
    | zero => intro k hk; intro hm_lp_1; exact absurd hm_lp_1 (Nat.not_lt_zero _)
    | succ n_lp_1 ih_lp_1 =>
      intro k hk hm_lp_1 H locs hP hD hS ls hl
      refine lv_iload_n hx hb dX12_layOther_2 rfl (lv_at hl 3 rfl) ?_
      refine lv_iconst (v := nI 4) hx hb dX12_layOther_3 (by decide) ?_
      refine n_icmp_ge (tgt := 25) hx hb (by omega) (by omega) dX12_layOther_4 (by decide) (fun c_2 => ?_) (fun c_2 => ?_)
      · -- t 25
        rw [show k = 4 by omega] at hP hD
        have hP := mW_28 (f := netU (F 28) (F 6) 4) (g := F 6) (fun j hj => by unfold netU; rw [if_pos hj]) hP
        have hD := mWD_28 (f := netU (F 28) (F 6) 4) (g := F 6) hD
        refine lv_aload_n hx hb dX12_layOther_25 rfl (lv_at hl 0 rfl) ?_
        refine va_get (D := E.1) (ci := 10) (v := .ref (ad 28)) (C := RX12) (T := TX12) (N := 30) hx hb hts iX12 hown hK hP 0 rfl rfl 28 (by decide) (hts _ kw_767) (fun _ h9 => h9) rfl dX12_layOther_26 ?_
        refine lv_iload_n hx hb dX12_layOther_29 rfl (lv_at hl 1 rfl) ?_
        refine lv_dup2_11 hx hb dX12_layOther_30 rfl rfl ?_
        refine n_iald hx hb hK hP 18 rfl (by omega) (by decide) dX12_layOther_31 ?_
        refine lv_iconst (v := nI 1) hx hb dX12_layOther_32 (by decide) ?_
        refine lv_iload_n hx hb dX12_layOther_33 rfl (lv_at hl 2 rfl) ?_
        refine n_ishl hx hb (by omega) dX12_layOther_34 ?_
        refine n_ixor hx hb dX12_layOther_35 ?_
        refine n_iast hx hb hK hP hD hS 18 rfl (by omega) (by decide) dX12_layOther_36 (fun H locs hP hD hS => ?_)
        have hP : va_P E.1 vwCl (mW E ad lk tr N X (va_up F 28 (va_up (F 6) i1 (((F 6) i1) ^^^ (1 <<< i2)))) G) H := hP
        have hD : va_D A (mW E ad lk tr N X (va_up F 28 (va_up (F 6) i1 (((F 6) i1) ^^^ (1 <<< i2)))) G) := hD
        exact rw_v hC hP hD hS (⟨rfl, rfl⟩) dX12_layOther_37 (Nat.le_of_ble_eq_true rfl) (Nat.le_of_ble_eq_true rfl)
      · -- f 7
        refine lv_aload_n hx hb dX12_layOther_7 rfl (lv_at hl 0 rfl) ?_
        refine va_get (D := E.1) (ci := 10) (v := .ref (ad 28)) (C := RX12) (T := TX12) (N := 30) hx hb hts iX12 hown hK hP 0 rfl rfl 28 (by decide) (hts _ kw_767) (fun _ h9 => h9) rfl dX12_layOther_8 ?_
        refine lv_iload_n hx hb dX12_layOther_11 rfl (lv_at hl 3 rfl) ?_
        refine lv_aload_n hx hb dX12_layOther_12 rfl (lv_at hl 0 rfl) ?_
        refine va_get (D := E.1) (ci := 10) (v := .ref (ad 6)) (C := RX12) (T := TX12) (N := 30) hx hb hts iX12 hown hK hP 0 rfl rfl 6 (by decide) (hts _ kw_745) (fun _ h9 => h9) rfl dX12_layOther_13 ?_
        refine lv_iload_n hx hb dX12_layOther_16 rfl (lv_at hl 3 rfl) ?_
        refine n_iald hx hb hK hP 4 rfl (by omega) (by decide) dX12_layOther_17 ?_
        refine n_iast hx hb hK hP hD hS 18 rfl (by omega) (by decide) dX12_layOther_18 (fun H locs hP hD hS => ?_)
        have hP : va_P E.1 vwCl (mW E ad lk tr N X (va_up F 28 (va_up (netU (F 28) (F 6) k) k ((F 6) k))) G) H := hP
        have hD : va_D A (mW E ad lk tr N X (va_up F 28 (va_up (netU (F 28) (F 6) k) k ((F 6) k))) G) := hD
        refine lv_iinc (v := nI (k + 1)) (lv' := [(3, .int (nI (k + 1))), (0, .ref (ad 0)), (1, .int (nI i1)), (2, .int (nI i2))]) hx hb dX12_layOther_19 hl (k := 3) rfl (ii_1 _) (by decide) rfl (fun ls hl => ?_)
        refine lv_goto (tgt := 2) hx hb dX12_layOther_22 (by decide) ?_
        exact ih_lp_1 (k + 1) (by omega) (by omega) H locs (by rw [← netU_s]; exact hP) (by rw [← netU_s]; exact hD) hS ls (lv_sub hl [1, 2, 3, 0] rfl)
  exact lp_1 _ 0 (by omega) (Nat.lt_succ_self _) H locs (by rw [netU_0]; exact hP) (by rw [netU_0]; exact hD) hS ls (lv_sub hl [1, 2, 3, 0] rfl)

set_option maxHeartbeats 4000000 in
set_option maxRecDepth 100000 in
theorem c_m_verdictFrom (l : Launch) (E : EE) (ad : Nat → Nat) (lk : Nat) (tr : Int32) (N : Nat → Nat) (X : Nat → Nat → Int32) (F G : Nat → Nat → Nat) (sz : Nat) (hT : TB N F) (h17 : N 17 + 1 < 2 ^ 31) (n0 rl : Nat) (h4 : n0 ≤ 4) (h5 : rl < 4) : Wr l yX12_verdictFrom cX12_verdictFrom 4 (some .int) rm_X12_verdictFrom 0 0 E (mW E ad lk tr N X F G) sz [.ref (ad 0), .ref (ad 28), .int (nI n0), .int (nI rl)] (fun v w1 => v = some (.int (nI (verd (CN n0 (F 28) rl (startN n0) (1 <<< n0 - 1))))) ∧ ∃ (X2 : Nat → Nat → Int32) (F2 G2 : Nat → Nat → Nat), w1 = mW E ad (ad 28) tr (va_up (va_up (va_up N 17 (N 17 + 1)) 22 n0) 23 rl) X2 F2 G2 ∧ (∀ i, F2 12 i ≤ N 17 + 1) ∧ (∀ j, j ≠ 12 → j ≠ 15 → j ≠ 18 → j ≠ 19 → j ≠ 20 → F2 j = F j) ∧ (∀ j, j ≠ 16 → X2 j = X j) ∧ (∀ j, j ≠ 13 → j ≠ 14 → G2 j = G j)) := by
  refine mk_wr (by decide) (Nat.le_of_ble_eq_true rfl) ?_
  intro p e s m args below meth c hC hin hK A hA hP hD hS ls hl
  obtain ⟨hx, hb, hr, hts, hown, hml, hlk, hN⟩ := id hC
  have hl : lv_has ls 4 [(0, .ref (ad 0)), (1, .ref (ad 28)), (2, .int (nI n0)), (3, .int (nI rl))] := hl
  have hs0 := shl_le4 h4
  obtain ⟨H, hH⟩ : ∃ z, z = s.heap := ⟨_, rfl⟩
  have hS : va_S A s.heap H [] := by rw [hH]; exact hS
  rw [← hH] at hP
  refine W_heap hH ?_
  obtain ⟨locs, hlo⟩ : ∃ z : List Loc, z = [] := ⟨_, rfl⟩
  rw [← hlo] at hS ⊢
  refine lv_aload_n hx hb dX12_verdictFrom_0 rfl (lv_at hl 0 rfl) ?_
  refine lv_aload_n hx hb dX12_verdictFrom_1 rfl (lv_at hl 1 rfl) ?_
  refine lv_iload_n hx hb dX12_verdictFrom_2 rfl (lv_at hl 2 rfl) ?_
  refine lv_iload_n hx hb dX12_verdictFrom_3 rfl (lv_at hl 3 rfl) ?_
  refine cV_w0 (rest := []) hC (c_m_lookAt l E ad lk tr N X F G H.size (ad 28) n0 rl) kw_933 iy_X12_lookAt ⟨Nat.le_of_ble_eq_true rfl, Nat.le_of_ble_eq_true rfl⟩ ⟨rfl, rfl⟩ hK hP hD hS hA (va_recv hK hP (ci := 10) (q0 := 0) rfl rfl) rfl hl.1 rfl (Nat.le_of_ble_eq_true rfl) dX12_verdictFrom_4 ⟨Nat.le_of_ble_eq_true rfl, Nat.le_of_ble_eq_true rfl⟩ (fun v_ w_ H locs hpost hP hD hS => ?_)
  obtain ⟨rfl, rfl⟩ := hpost
  refine W.eq (g2 := F0 m 7 ls []) rfl ?_
  refine lv_aload_n hx hb dX12_verdictFrom_7 rfl (lv_at hl 0 rfl) ?_
  refine lv_aload_n hx hb dX12_verdictFrom_8 rfl (lv_at hl 0 rfl) ?_
  refine lv_aload_n hx hb dX12_verdictFrom_9 rfl (lv_at hl 0 rfl) ?_
  refine lv_iload_n hx hb dX12_verdictFrom_10 rfl (lv_at hl 2 rfl) ?_
  refine cV_r (rest := [.ref (ad 0), .ref (ad 0)]) hC (c_m_startOf l E ad (ad 28) tr (va_up (va_up (va_up N 17 ((N 17) + 1)) 22 n0) 23 rl) X F G n0 (by omega)) kw_866 iy_X12_startOf ⟨Nat.le_of_ble_eq_true rfl, Nat.le_of_ble_eq_true rfl⟩ ⟨rfl, rfl⟩ hK hP (va_recv hK hP (ci := 10) (q0 := 0) rfl rfl) rfl hl.1 rfl (Nat.le_of_ble_eq_true rfl) dX12_verdictFrom_11 ⟨Nat.le_of_ble_eq_true rfl, Nat.le_of_ble_eq_true rfl⟩ ?_
  refine W.eq (g2 := F0 m 14 ls [.int (nI (startN n0)), .ref (ad 0), .ref (ad 0)]) rfl ?_
  have f_1 := startN_lt n0
  refine lv_iconst (v := nI 1) hx hb dX12_verdictFrom_14 (by decide) ?_
  refine lv_iload_n hx hb dX12_verdictFrom_15 rfl (lv_at hl 2 rfl) ?_
  refine n_ishl hx hb (by omega) dX12_verdictFrom_16 ?_
  refine lv_iconst (v := nI 1) hx hb dX12_verdictFrom_17 (by decide) ?_
  refine n_isub hx hb (by omega) dX12_verdictFrom_18 ?_
  refine cV_w0 (rest := [.ref (ad 0)]) hC (c_m_lay28 l E ad tr (va_up (va_up (va_up N 17 ((N 17) + 1)) 22 n0) 23 rl) X F G H.size (startN n0) ((1 <<< n0) - 1) (show n0 ≤ 4 by omega) (show rl < 4 by omega) (show (N 17) + 1 < 2 ^ 31 by omega) hT.2 (VS_start h4) (by omega) (LInv_new (fun i => Nat.ne_of_lt (Nat.lt_succ_of_le (hT.1 i)))) (fun i => Nat.le_succ_of_le (hT.1 i))) kw_937 iy_X12_lay ⟨Nat.le_of_ble_eq_true rfl, Nat.le_of_ble_eq_true rfl⟩ ⟨rfl, rfl⟩ hK hP hD hS hA (va_recv hK hP (ci := 10) (q0 := 0) rfl rfl) rfl hl.1 rfl (Nat.le_of_ble_eq_true rfl) dX12_verdictFrom_19 ⟨Nat.le_of_ble_eq_true rfl, Nat.le_of_ble_eq_true rfl⟩ (fun v_ w_ H locs hpost hP hD hS => ?_)
  obtain ⟨rfl, X2, F2, G2, rfl, hI2, hs2, hle2, hf1, hf2, hf3⟩ := hpost
  refine W.eq (g2 := F0 m 22 ls [.int (nI (plc (startN n0) ((1 <<< n0) - 1))), .ref (ad 0)]) rfl ?_
  have hlt9 : 1 <<< n0 - 1 < 16 := by omega
  obtain ⟨hR2, hch2⟩ := hI2 _ _ (VS_start h4) hlt9 hs2
  have hplt := plc_lt (startN n0) (1 <<< n0 - 1)
  have hsm2 := CN_sm (n := n0) (net := F 28) (r := rl) (st := startN n0) (tok := 1 <<< n0 - 1)
  refine cV_r (rest := []) hC (c_m_verdictAt l E ad (ad 28) tr (va_up (va_up (va_up N 17 ((N 17) + 1)) 22 n0) 23 rl) X2 F2 G2 (plc (startN n0) ((1 <<< n0) - 1)) hplt (CN n0 (F 28) rl (startN n0) (1 <<< n0 - 1)) hR2 hsm2) kw_965 iy_X12_verdictAt ⟨Nat.le_of_ble_eq_true rfl, Nat.le_of_ble_eq_true rfl⟩ ⟨rfl, rfl⟩ hK hP (va_recv hK hP (ci := 10) (q0 := 0) rfl rfl) rfl hl.1 rfl (Nat.le_of_ble_eq_true rfl) dX12_verdictFrom_22 ⟨Nat.le_of_ble_eq_true rfl, Nat.le_of_ble_eq_true rfl⟩ ?_
  refine W.eq (g2 := F0 m 25 ls [.int (nI (verd (CN n0 (F 28) rl (startN n0) (1 <<< n0 - 1))))]) rfl ?_
  exact rw_i hC rfl hP hD hS (⟨rfl, X2, F2, G2, rfl, hle2, hf1, hf2, hf3⟩) dX12_verdictFrom_25 (Nat.le_of_ble_eq_true rfl) (Nat.le_of_ble_eq_true rfl)
