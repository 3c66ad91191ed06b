set_option maxHeartbeats 4000000 in
set_option maxRecDepth 100000 in
theorem k_pick1 (l : Launch) (xx : Nat) (h1 : xx < 65536) : Pz l yX11_countOrPick cX11_countOrPick 4 (some .int) rm_X11_countOrPick [.int (nI xx), .int (-1)] (some (.int (nI (bitsN xx 16)))) := by
  refine mk_pz (by decide) (Nat.le_of_ble_eq_true rfl) ?_
  intro p e s m args below meth c hC ls hl
  obtain ⟨hx, hb, hr, hts, hown, hml, hlk, hN⟩ := id hC
  have hl : lv_has ls 4 [(0, .int (nI xx)), (1, .int (-1))] := hl
  refine lv_iload_n hx hb dX11_countOrPick_0 rfl (lv_at hl 1 rfl) ?_
  refine lv_iconst (v := -1) hx hb dX11_countOrPick_1 (by decide) ?_
  refine lv_icmp_ne (tgt := 10) hx hb dX11_countOrPick_2 (by decide) (fun c_1 => ?_) (fun c_1 => ?_)
  · -- t 10
    exact absurd rfl c_1
  · -- f 5
    refine lv_iload_n hx hb dX11_countOrPick_5 rfl (lv_at hl 0 rfl) ?_
    refine cS_p (rest := []) hC (k_bits l xx (by omega)) kw_574 sy_J6_bitCount_0f7a4 ⟨Nat.le_of_ble_eq_true rfl, Nat.le_of_ble_eq_true rfl⟩ ⟨rfl, rfl⟩ rfl hl.1 rfl (Nat.le_of_ble_eq_true rfl) dX11_countOrPick_6 ⟨Nat.le_of_ble_eq_true rfl, Nat.le_of_ble_eq_true rfl⟩ ?_
    have f_2 := bitsN_le xx 16
    exact rz_iE hC (rfl) dX11_countOrPick_9

set_option maxHeartbeats 4000000 in
set_option maxRecDepth 100000 in
theorem k_pick2 (l : Launch) (xx kk : Nat) (h1 : xx < 65536) (h2 : kk < 2 ^ 31) : Pz l yX11_countOrPick cX11_countOrPick 4 (some .int) rm_X11_countOrPick [.int (nI xx), .int (nI kk)] (some (.int (pkS xx kk))) := by
  refine mk_pz (by decide) (Nat.le_of_ble_eq_true rfl) ?_
  intro p e s m args below meth c hC ls hl
  obtain ⟨hx, hb, hr, hts, hown, hml, hlk, hN⟩ := id hC
  have hl : lv_has ls 4 [(0, .int (nI xx)), (1, .int (nI kk))] := hl
  refine lv_iload_n hx hb dX11_countOrPick_0 rfl (lv_at hl 1 rfl) ?_
  refine lv_iconst (v := -1) hx hb dX11_countOrPick_1 (by decide) ?_
  refine lv_icmp_ne (tgt := 10) hx hb dX11_countOrPick_2 (by decide) (fun c_1 => ?_) (fun c_1 => ?_)
  · -- t 10
    refine lv_iconst (v := nI 0) hx hb dX11_countOrPick_10 (by decide) ?_
    refine lv_istore_n (lv' := [(2, .int (nI 0)), (0, .int (nI xx)), (1, .int (nI kk))]) hx hb dX11_countOrPick_11 rfl hl (by decide) rfl (fun ls hl => ?_)
    refine lv_iconst (v := nI 0) hx hb dX11_countOrPick_12 (by decide) ?_
    refine lv_istore_n (lv' := [(3, .int (nI 0)), (2, .int (nI 0)), (0, .int (nI xx)), (1, .int (nI kk))]) hx hb dX11_countOrPick_13 rfl hl (by decide) rfl (fun ls hl => ?_)
    have lp_2 : ∀ (n_lp_2 : Nat) (k : Nat) (hk : k ≤ 16) (hk2 : ∀ i, i < k → (xx.testBit i && decide (cntB (fun i => xx.testBit i) i = kk)) = false), 16 - k < n_lp_2 → ∀ (ls : Array Slot), lv_has ls 4 [(0, .int (nI xx)), (1, .int (nI kk)), (2, .int (nI (cntB (fun i => xx.testBit i) k))), (3, .int (nI k))] → W p l e rm_X11_countOrPick s m args below meth c s.heap [] 0 0 (MQ below (pz_Q (some (.int (pkS xx kk)))) args s 0 0 pz_F) (F0 m 14 ls []) := by
      intro n_lp_2
      induction n_lp_2 with
      | zero => intro k hk hk2; intro hm_lp_2; exact absurd hm_lp_2 (Nat.not_lt_zero _)
      | succ n_lp_2 ih_lp_2 =>
        intro k hk hk2 hm_lp_2 ls hl
        have hcl := cntB_le (fun i => xx.testBit i) k
        refine lv_iload_n hx hb dX11_countOrPick_14 rfl (lv_at hl 3 rfl) ?_
        refine lv_bipush (v := nI 16) hx hb dX11_countOrPick_15 (by decide) ?_
        refine n_icmp_ge (tgt := 58) hx hb (by omega) (by omega) dX11_countOrPick_17 (by decide) (fun c_3 => ?_) (fun c_3 => ?_)
        · -- t 58
          refine lv_bipush (v := -9) hx hb dX11_countOrPick_58 (by decide) ?_
          exact rz_iE hC (by unfold pkS; rw [fF_no (fun i hi => hk2 i (by omega)), if_neg (by decide)]) dX11_countOrPick_60
        · -- f 20
          refine lv_iload_n hx hb dX11_countOrPick_20 rfl (lv_at hl 0 rfl) ?_
          refine lv_iload_n hx hb dX11_countOrPick_21 rfl (lv_at hl 3 rfl) ?_
          refine cS_p (rest := []) hC (k_contains l xx k (by omega) (by omega)) kw_261 sy_X11_contains ⟨Nat.le_of_ble_eq_true rfl, Nat.le_of_ble_eq_true rfl⟩ ⟨rfl, rfl⟩ rfl hl.1 rfl (Nat.le_of_ble_eq_true rfl) dX11_countOrPick_22 ⟨Nat.le_of_ble_eq_true rfl, Nat.le_of_ble_eq_true rfl⟩ ?_
          refine b_if_ne (tgt := 31) hx hb dX11_countOrPick_25 (by decide) (fun c_4 => ?_) (fun c_4 => ?_)
          · -- t 31
            refine lv_iload_n hx hb dX11_countOrPick_31 rfl (lv_at hl 2 rfl) ?_
            refine lv_iload_n hx hb dX11_countOrPick_32 rfl (lv_at hl 1 rfl) ?_
            refine n_icmp_ne (tgt := 49) hx hb (by omega) (by omega) dX11_countOrPick_33 (by decide) (fun c_5 => ?_) (fun c_5 => ?_)
            · -- t 49
              refine lv_iinc (v := nI ((cntB (fun i => xx.testBit i) k) + 1)) (lv' := [(2, .int (nI ((cntB (fun i => xx.testBit i) k) + 1))), (0, .int (nI xx)), (1, .int (nI kk)), (3, .int (nI k))]) hx hb dX11_countOrPick_49 hl (k := 2) rfl (ii_1 _) (by decide) rfl (fun ls hl => ?_)
              refine lv_iinc (v := nI (k + 1)) (lv' := [(3, .int (nI (k + 1))), (2, .int (nI ((cntB (fun i => xx.testBit i) k) + 1))), (0, .int (nI xx)), (1, .int (nI kk))]) hx hb dX11_countOrPick_52 hl (k := 3) rfl (ii_1 _) (by decide) rfl (fun ls hl => ?_)
              refine lv_goto (tgt := 14) hx hb dX11_countOrPick_55 (by decide) ?_
              exact ih_lp_2 (k + 1) (by omega) (fun i hi => by rcases (by omega : i < k ∨ i = k) with h7 | h7; exact hk2 i h7; rw [h7]; simp [c_1, c_3, c_4, c_5]) (by omega) ls (by have h9 : lv_has ls 4 [(0, .int (nI xx)), (1, .int (nI kk)), (2, .int (nI ((cntB (fun i => xx.testBit i) k) + 1))), (3, .int (nI (k + 1)))] := lv_sub hl [2, 3, 1, 0] rfl; simpa [cntB, c_1, c_3, c_4, c_5] using h9)
            · -- f 36
              refine lv_bipush (v := nI 10) hx hb dX11_countOrPick_36 (by decide) ?_
              refine lv_iload_n hx hb dX11_countOrPick_38 rfl (lv_at hl 3 rfl) ?_
              refine cS_p (rest := [.int (nI 10)]) hC (k_ringerOf l k (by omega)) kw_485 sy_X11_ringerOf ⟨Nat.le_of_ble_eq_true rfl, Nat.le_of_ble_eq_true rfl⟩ ⟨rfl, rfl⟩ rfl hl.1 rfl (Nat.le_of_ble_eq_true rfl) dX11_countOrPick_39 ⟨Nat.le_of_ble_eq_true rfl, Nat.le_of_ble_eq_true rfl⟩ ?_
              have f_6 := shr_le k 2
              refine n_imul hx hb dX11_countOrPick_42 ?_
              refine lv_iload_n hx hb dX11_countOrPick_43 rfl (lv_at hl 3 rfl) ?_
              refine cS_p (rest := [.int (nI (10 * (k >>> 2)))]) hC (k_rungOf l k ) kw_488 sy_X11_rungOf ⟨Nat.le_of_ble_eq_true rfl, Nat.le_of_ble_eq_true rfl⟩ ⟨rfl, rfl⟩ rfl hl.1 rfl (Nat.le_of_ble_eq_true rfl) dX11_countOrPick_44 ⟨Nat.le_of_ble_eq_true rfl, Nat.le_of_ble_eq_true rfl⟩ ?_
              have f_7 := (Nat.and_le_right : k &&& 3 ≤ 3)
              refine n_iadd hx hb dX11_countOrPick_47 ?_
              exact rz_iE hC (by unfold pkS; rw [fF_yes (j := k) (by omega) hk2 (by simp [c_1, c_3, c_4, c_5]), if_pos (by omega)]) dX11_countOrPick_48
          · -- f 28
            refine lv_goto (tgt := 52) hx hb dX11_countOrPick_28 (by decide) ?_
            refine lv_iinc (v := nI (k + 1)) (lv' := [(3, .int (nI (k + 1))), (0, .int (nI xx)), (1, .int (nI kk)), (2, .int (nI (cntB (fun i => xx.testBit i) k)))]) hx hb dX11_countOrPick_52 hl (k := 3) rfl (ii_1 _) (by decide) rfl (fun ls hl => ?_)
            refine lv_goto (tgt := 14) hx hb dX11_countOrPick_55 (by decide) ?_
            exact ih_lp_2 (k + 1) (by omega) (fun i hi => by rcases (by omega : i < k ∨ i = k) with h7 | h7; exact hk2 i h7; rw [h7]; simp [c_1, c_3, c_4]) (by omega) ls (by have h9 : lv_has ls 4 [(0, .int (nI xx)), (1, .int (nI kk)), (2, .int (nI (cntB (fun i => xx.testBit i) k))), (3, .int (nI (k + 1)))] := lv_sub hl [1, 2, 3, 0] rfl; simpa [cntB, c_1, c_3, c_4] using h9)
    exact lp_2 _ 0 (by omega) (fun i hi => absurd hi (by omega)) (Nat.lt_succ_self _) ls (lv_sub hl [2, 3, 1, 0] rfl)
  · -- f 5
    exact absurd c_1 (nI_m1 h2)
