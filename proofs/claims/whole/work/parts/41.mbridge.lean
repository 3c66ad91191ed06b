set_option maxHeartbeats 4000000 in
set_option maxRecDepth 100000 in
theorem c_m_bridge (l : Launch) (E : EE) (ad : Nat → Nat) (lk : Nat) (tr : Int32) (N : Nat → Nat) (X : Nat → Nat → Int32) (F G : Nat → Nat → Nat) (sz : Nat) (hM : MOK N F) (hT : TB N F) (a1 : Int32) : Wr l yX12_bridge cX12_bridge 5 (some .int) rm_X12_bridge 0 0 E (mW E ad lk tr N X F G) sz [.ref (ad 0), .int a1] (fun v w1 => (if isIn a1 (-1) (nI 11) = false then v = some (.int (-1)) else if joinM (F 6) (N 5) = false then v = some (.int (-3)) else ∃ x, v = some (.int x) ∧ pickR (bridgeB (N 5) (F 6)) a1 x) ∧ QP E ad tr N X F 64 w1) := by
  refine mk_wr (by decide) (Nat.le_of_ble_eq_true rfl) ?_
  intro p e s m args below meth c hC hin hK A hA hP hD hS ls hl
  obtain ⟨hx, hb, hr, hts, hown, hml, hlk, hN⟩ := id hC
  have hl : lv_has ls 5 [(0, .ref (ad 0)), (1, .int a1)] := hl
  obtain ⟨hM5, hM9, hMp, hMq, hMn⟩ := id hM
  have hn : ∀ j, j < 4 → F 6 j < 16 := fun j _ => hMn j
  obtain ⟨H, hH⟩ : ∃ z, z = s.heap := ⟨_, rfl⟩
  have hS : va_S A s.heap H [] := by rw [hH]; exact hS
  rw [← hH] at hP
  refine W_heap hH ?_
  obtain ⟨locs, hlo⟩ : ∃ z : List Loc, z = [] := ⟨_, rfl⟩
  rw [← hlo] at hS ⊢
  refine lv_iload_n hx hb dX12_bridge_0 rfl (lv_at hl 1 rfl) ?_
  refine lv_iconst (v := -1) hx hb dX12_bridge_1 (by decide) ?_
  refine lv_bipush (v := nI 11) hx hb dX12_bridge_2 (by decide) ?_
  refine cS_p (rest := []) hC (c_isIn l a1 (-1) (nI 11)) kw_837 sy_X12_isIn ⟨Nat.le_of_ble_eq_true rfl, Nat.le_of_ble_eq_true rfl⟩ ⟨rfl, rfl⟩ rfl hl.1 rfl (Nat.le_of_ble_eq_true rfl) dX12_bridge_4 ⟨Nat.le_of_ble_eq_true rfl, Nat.le_of_ble_eq_true rfl⟩ ?_
  refine b_if_ne (tgt := 12) hx hb dX12_bridge_7 (by decide) (fun c_1 => ?_) (fun c_1 => ?_)
  · -- t 12
    rcases isIn_m1 c_1 with rfl | ⟨kk, hkk, rfl⟩
    ·
      have hl : lv_has ls 5 [(0, .ref (ad 0)), (1, .int (-1))] := hl
      refine lv_aload_n hx hb dX12_bridge_12 rfl (lv_at hl 0 rfl) ?_
      refine va_get (D := E.1) (ci := 10) (v := .ref (ad 6)) (C := RX12) (T := TX12) (N := 30) hx hb hts iX12 hown hK hP 0 rfl rfl 6 (by decide) (hts _ kw_745) (fun _ h9 => h9) rfl dX12_bridge_13 ?_
      refine lv_aload_n hx hb dX12_bridge_16 rfl (lv_at hl 0 rfl) ?_
      refine va_get (D := E.1) (ci := 10) (v := .int (nI (N 5))) (C := RX12) (T := TX12) (N := 30) hx hb hts iX12 hown hK hP 0 rfl rfl 5 (by decide) (hts _ kw_744) (fun _ h9 => h9) rfl dX12_bridge_17 ?_
      refine cS_r (rest := []) hC (c_join l E (ad 6) (F 6) (N 5) (by omega) hn) kw_1013 sy_X12_isJoined ⟨Nat.le_of_ble_eq_true rfl, Nat.le_of_ble_eq_true rfl⟩ ⟨rfl, rfl⟩ hK (hP.sub (ws' := aW E (ad 6) (F 6)) [4] rfl) rfl hl.1 rfl (Nat.le_of_ble_eq_true rfl) dX12_bridge_20 ⟨Nat.le_of_ble_eq_true rfl, Nat.le_of_ble_eq_true rfl⟩ ?_
      refine b_if_ne (tgt := 29) hx hb dX12_bridge_23 (by decide) (fun c_2 => ?_) (fun c_2 => ?_)
      · -- t 29
        refine lv_iconst (v := nI 0) hx hb dX12_bridge_29 (by decide) ?_
        refine lv_istore_n (lv' := [(2, .int (nI 0)), (0, .ref (ad 0)), (1, .int (-1))]) hx hb dX12_bridge_30 rfl hl (by decide) rfl (fun ls hl => ?_)
        refine lv_iconst (v := nI 0) hx hb dX12_bridge_31 (by decide) ?_
        refine lv_istore_n (lv' := [(3, .int (nI 0)), (2, .int (nI 0)), (0, .ref (ad 0)), (1, .int (-1))]) hx hb dX12_bridge_32 rfl hl (by decide) rfl (fun ls hl => ?_)
        have lp_3 : ∀ (n_lp_3 : Nat) (p1 : Nat) (f28 : Nat → Nat) (hp1 : p1 ≤ N 5) (h28 : ∀ j, f28 j < 16), N 5 - p1 < n_lp_3 → ∀ (H : Heap) (locs : List Loc) (hP : va_P E.1 vwCl (mW E ad lk tr N X (va_up F 28 f28) G) H) (hD : va_D A (mW E ad lk tr N X (va_up F 28 f28) G)) (hS : va_S A s.heap H locs) (ls : Array Slot), lv_has ls 5 [(0, .ref (ad 0)), (1, .int (-1)), (2, .int (nI (cntB (bridgeB (N 5) (F 6)) (4 * p1)))), (3, .int (nI p1))] → W p l e rm_X12_bridge s m args below meth c H locs 0 0 (MQ below (wr_Q E A (fun v w1 => (if isIn (-1 : Int32) (-1) (nI 11) = false then v = some (.int (-1)) else if joinM (F 6) (N 5) = false then v = some (.int (-3)) else ∃ x, v = some (.int x) ∧ pickR (bridgeB (N 5) (F 6)) (-1 : Int32) x) ∧ QP E ad tr N X F 64 w1)) args s 0 0 A) (F0 m 33 ls []) := by
          intro n_lp_3
          induction n_lp_3 with
          | zero => intro p1 f28 hp1 h28; intro hm_lp_3; exact absurd hm_lp_3 (Nat.not_lt_zero _)
          | succ n_lp_3 ih_lp_3 =>
            intro p1 f28 hp1 h28 hm_lp_3 H locs hP hD hS ls hl
            refine lv_iload_n hx hb dX12_bridge_33 rfl (lv_at hl 3 rfl) ?_
            refine lv_aload_n hx hb dX12_bridge_34 rfl (lv_at hl 0 rfl) ?_
            refine va_get (D := E.1) (ci := 10) (v := .int (nI (N 5))) (C := RX12) (T := TX12) (N := 30) hx hb hts iX12 hown hK hP 0 rfl rfl 5 (by decide) (hts _ kw_744) (fun _ h9 => h9) rfl dX12_bridge_35 ?_
            refine n_icmp_ge (tgt := 125) hx hb (by omega) (by omega) dX12_bridge_38 (by decide) (fun c_4 => ?_) (fun c_4 => ?_)
            · -- t 125
              refine lv_iload_n hx hb dX12_bridge_125 rfl (lv_at hl 1 rfl) ?_
              refine lv_iconst (v := -1) hx hb dX12_bridge_126 (by decide) ?_
              refine lv_icmp_ne (tgt := 134) hx hb dX12_bridge_127 (by decide) (fun c_5 => ?_) (fun c_5 => ?_)
              · -- t 134
                exact absurd rfl c_5
              · -- f 130
                refine lv_iload_n hx hb dX12_bridge_130 rfl (lv_at hl 2 rfl) ?_
                refine lv_goto (tgt := 136) hx hb dX12_bridge_131 (by decide) ?_
                exact rw_i hC rfl hP hD hS (⟨by rw [if_neg (by rw [c_1]; decide), if_neg (by rw [c_2]; decide)]; exact ⟨_, rfl, Or.inl ⟨rfl, by rw [(cntB_end (B := bridgeB (N 5) (F 6)) (n := N 5) hM5 (fun j hj => by unfold bridgeB; rw [decide_eq_false (p := j / 4 < N 5) (by omega)]; simp)), show p1 = N 5 by omega]⟩⟩, ⟨lk, N, X, _, G, rfl, SC.rf, ⟨hT.1, h28⟩, by omega⟩⟩) dX12_bridge_136 (Nat.le_of_ble_eq_true rfl) (Nat.le_of_ble_eq_true rfl)
            · -- f 41
              refine lv_iconst (v := nI 0) hx hb dX12_bridge_41 (by decide) ?_
              refine lv_istore (lv' := [(4, .int (nI 0)), (0, .ref (ad 0)), (1, .int (-1)), (2, .int (nI (cntB (bridgeB (N 5) (F 6)) (4 * p1)))), (3, .int (nI p1))]) hx hb dX12_bridge_42 hl (by decide) rfl (fun ls hl => ?_)
              have lp_6 : ∀ (n_lp_6 : Nat) (q1 : Nat) (f28b : Nat → Nat) (hq1 : q1 ≤ N 5) (h28b : ∀ j, f28b j < 16), N 5 - q1 < n_lp_6 → ∀ (H : Heap) (locs : List Loc) (hP : va_P E.1 vwCl (mW E ad lk tr N X (va_up F 28 f28b) G) H) (hD : va_D A (mW E ad lk tr N X (va_up F 28 f28b) G)) (hS : va_S A s.heap H locs) (ls : Array Slot), lv_has ls 5 [(0, .ref (ad 0)), (1, .int (-1)), (2, .int (nI (cntB (bridgeB (N 5) (F 6)) (4 * p1 + q1)))), (3, .int (nI p1)), (4, .int (nI q1))] → W p l e rm_X12_bridge s m args below meth c H locs 0 0 (MQ below (wr_Q E A (fun v w1 => (if isIn (-1 : Int32) (-1) (nI 11) = false then v = some (.int (-1)) else if joinM (F 6) (N 5) = false then v = some (.int (-3)) else ∃ x, v = some (.int x) ∧ pickR (bridgeB (N 5) (F 6)) (-1 : Int32) x) ∧ QP E ad tr N X F 64 w1)) args s 0 0 A) (F0 m 44 ls []) := by
                intro n_lp_6
                induction n_lp_6 with
                | zero => intro q1 f28b hq1 h28b; intro hm_lp_6; exact absurd hm_lp_6 (Nat.not_lt_zero _)
                | succ n_lp_6 ih_lp_6 =>
                  intro q1 f28b hq1 h28b hm_lp_6 H locs hP hD hS ls hl
                  have hcb := cntB_le (bridgeB (N 5) (F 6)) (4 * p1 + q1)
                  have hb0 := hMn p1
                  refine lv_iload hx hb dX12_bridge_44 (lv_at hl 4 rfl) ?_
                  refine lv_aload_n hx hb dX12_bridge_46 rfl (lv_at hl 0 rfl) ?_
                  refine va_get (D := E.1) (ci := 10) (v := .int (nI (N 5))) (C := RX12) (T := TX12) (N := 30) hx hb hts iX12 hown hK hP 0 rfl rfl 5 (by decide) (hts _ kw_744) (fun _ h9 => h9) rfl dX12_bridge_47 ?_
                  refine n_icmp_ge (tgt := 119) hx hb (by omega) (by omega) dX12_bridge_50 (by decide) (fun c_7 => ?_) (fun c_7 => ?_)
                  · -- t 119
                    refine lv_iinc (v := nI (p1 + 1)) (lv' := [(3, .int (nI (p1 + 1))), (0, .ref (ad 0)), (1, .int (-1)), (2, .int (nI (cntB (bridgeB (N 5) (F 6)) (4 * p1 + q1)))), (4, .int (nI q1))]) hx hb dX12_bridge_119 hl (k := 3) rfl (ii_1 _) (by decide) rfl (fun ls hl => ?_)
                    refine lv_goto (tgt := 33) hx hb dX12_bridge_122 (by decide) ?_
                    exact ih_lp_3 (p1 + 1) f28b (by omega) h28b (by omega) H locs hP hD hS ls (by have h9 : lv_has ls 5 [(0, .ref (ad 0)), (1, .int (-1)), (2, .int (nI (cntB (bridgeB (N 5) (F 6)) (4 * p1 + q1)))), (3, .int (nI (p1 + 1)))] := lv_sub hl [1, 2, 3, 0] rfl; rw [(cntB_row (B := bridgeB (N 5) (F 6)) (p := p1) (n := N 5) hM5 (fun q h1 h2 => by unfold bridgeB; rw [(dm4 (p := p1) (q := q) h2).1, (dm4 (p := p1) (q := q) h2).2, decide_eq_false (p := q < N 5) (by omega)]; simp))]; rw [show q1 = N 5 by omega] at h9; exact h9)
                  · -- f 53
                    refine lv_iload_n hx hb dX12_bridge_53 rfl (lv_at hl 3 rfl) ?_
                    refine lv_iload hx hb dX12_bridge_54 (lv_at hl 4 rfl) ?_
                    refine n_icmp_eq (tgt := 113) hx hb (by omega) (by omega) dX12_bridge_56 (by decide) (fun c_8 => ?_) (fun c_8 => ?_)
                    · -- t 113
                      have hB : bridgeB (N 5) (F 6) (4 * p1 + q1) = false := by
                        unfold bridgeB; rw [(dm4 (p := p1) (q := q1) (by omega)).1, (dm4 (p := p1) (q := q1) (by omega)).2]; simp [c_8]
                      refine lv_iinc (v := nI (q1 + 1)) (lv' := [(4, .int (nI (q1 + 1))), (0, .ref (ad 0)), (1, .int (-1)), (2, .int (nI (cntB (bridgeB (N 5) (F 6)) (4 * p1 + q1)))), (3, .int (nI p1))]) hx hb dX12_bridge_113 hl (k := 4) rfl (ii_1 _) (by decide) rfl (fun ls hl => ?_)
                      refine lv_goto (tgt := 44) hx hb dX12_bridge_116 (by decide) ?_
                      exact ih_lp_6 (q1 + 1) f28b (by omega) h28b (by omega) H locs hP hD hS ls (by have h9 : lv_has ls 5 [(0, .ref (ad 0)), (1, .int (-1)), (2, .int (nI (cntB (bridgeB (N 5) (F 6)) (4 * p1 + q1)))), (3, .int (nI p1)), (4, .int (nI (q1 + 1)))] := lv_sub hl [1, 2, 3, 4, 0] rfl; rw [show 4 * p1 + (q1 + 1) = 4 * p1 + q1 + 1 from rfl, cntB_f hB]; exact h9)
                    · -- f 59
                      refine lv_aload_n hx hb dX12_bridge_59 rfl (lv_at hl 0 rfl) ?_
                      refine va_get (D := E.1) (ci := 10) (v := .ref (ad 6)) (C := RX12) (T := TX12) (N := 30) hx hb hts iX12 hown hK hP 0 rfl rfl 6 (by decide) (hts _ kw_745) (fun _ h9 => h9) rfl dX12_bridge_60 ?_
                      refine lv_iload_n hx hb dX12_bridge_63 rfl (lv_at hl 3 rfl) ?_
                      refine n_iald hx hb hK hP 4 rfl (by omega) (by decide) dX12_bridge_64 ?_
                      refine lv_iload hx hb dX12_bridge_65 (lv_at hl 4 rfl) ?_
                      refine cS_p (rest := []) hC (c_m_has l ((F 6) p1) q1 (by omega) (by omega)) kw_851 sy_X12_has ⟨Nat.le_of_ble_eq_true rfl, Nat.le_of_ble_eq_true rfl⟩ ⟨rfl, rfl⟩ rfl hl.1 rfl (Nat.le_of_ble_eq_true rfl) dX12_bridge_67 ⟨Nat.le_of_ble_eq_true rfl, Nat.le_of_ble_eq_true rfl⟩ ?_
                      refine b_if_ne (tgt := 76) hx hb dX12_bridge_70 (by decide) (fun c_9 => ?_) (fun c_9 => ?_)
                      · -- t 76
                        refine lv_aload_n hx hb dX12_bridge_76 rfl (lv_at hl 0 rfl) ?_
                        refine lv_iload_n hx hb dX12_bridge_77 rfl (lv_at hl 3 rfl) ?_
                        refine lv_iload hx hb dX12_bridge_78 (lv_at hl 4 rfl) ?_
                        refine cV_w0 (rest := []) hC (c_m_layOther l E ad lk tr N X (va_up F 28 f28b) G H.size p1 q1 (by omega) (by omega)) kw_1020 iy_X12_layOther ⟨Nat.le_of_ble_eq_true rfl, Nat.le_of_ble_eq_true rfl⟩ ⟨rfl, rfl⟩ hK hP hD hS hA (va_recv hK hP (ci := 10) (q0 := 0) rfl rfl) rfl hl.1 rfl (Nat.le_of_ble_eq_true rfl) dX12_bridge_80 ⟨Nat.le_of_ble_eq_true rfl, Nat.le_of_ble_eq_true rfl⟩ (fun v_ w_ H locs hpost hP hD hS => ?_)
                        obtain ⟨rfl, rfl⟩ := hpost
                        refine W.eq (g2 := F0 m 83 ls []) rfl ?_
                        refine lv_aload_n hx hb dX12_bridge_83 rfl (lv_at hl 0 rfl) ?_
                        refine va_get (D := E.1) (ci := 10) (v := .ref (ad 28)) (C := RX12) (T := TX12) (N := 30) hx hb hts iX12 hown hK hP 0 rfl rfl 28 (by decide) (hts _ kw_767) (fun _ h9 => h9) rfl dX12_bridge_84 ?_
                        refine lv_aload_n hx hb dX12_bridge_87 rfl (lv_at hl 0 rfl) ?_
                        refine va_get (D := E.1) (ci := 10) (v := .int (nI (N 5))) (C := RX12) (T := TX12) (N := 30) hx hb hts iX12 hown hK hP 0 rfl rfl 5 (by decide) (hts _ kw_744) (fun _ h9 => h9) rfl dX12_bridge_88 ?_
                        refine cS_r (rest := []) hC (c_join l E (ad 28) (flip (F 6) p1 q1) (N 5) (by omega) (fun j _ => flip_lt hMn (by omega) j)) kw_1013 sy_X12_isJoined ⟨Nat.le_of_ble_eq_true rfl, Nat.le_of_ble_eq_true rfl⟩ ⟨rfl, rfl⟩ hK (hP.sub (ws' := aW E (ad 28) (flip (F 6) p1 q1)) [18] rfl) rfl hl.1 rfl (Nat.le_of_ble_eq_true rfl) dX12_bridge_91 ⟨Nat.le_of_ble_eq_true rfl, Nat.le_of_ble_eq_true rfl⟩ ?_
                        refine W.eq (g2 := F0 m 94 ls [.int (bI (joinM (flip (F 6) p1 q1) (N 5)))]) rfl ?_
                        refine b_if_ne (tgt := 113) hx hb dX12_bridge_94 (by decide) (fun c_10 => ?_) (fun c_10 => ?_)
                        · -- t 113
                          have hB : bridgeB (N 5) (F 6) (4 * p1 + q1) = false := by
                            unfold bridgeB; rw [(dm4 (p := p1) (q := q1) (by omega)).1, (dm4 (p := p1) (q := q1) (by omega)).2]; simp [c_10]
                          refine lv_iinc (v := nI (q1 + 1)) (lv' := [(4, .int (nI (q1 + 1))), (0, .ref (ad 0)), (1, .int (-1)), (2, .int (nI (cntB (bridgeB (N 5) (F 6)) (4 * p1 + q1)))), (3, .int (nI p1))]) hx hb dX12_bridge_113 hl (k := 4) rfl (ii_1 _) (by decide) rfl (fun ls hl => ?_)
                          refine lv_goto (tgt := 44) hx hb dX12_bridge_116 (by decide) ?_
                          exact ih_lp_6 (q1 + 1) (flip (F 6) p1 q1) (by omega) (fun j => flip_lt hMn (by omega) j) (by omega) H locs hP hD hS ls (by have h9 : lv_has ls 5 [(0, .ref (ad 0)), (1, .int (-1)), (2, .int (nI (cntB (bridgeB (N 5) (F 6)) (4 * p1 + q1)))), (3, .int (nI p1)), (4, .int (nI (q1 + 1)))] := lv_sub hl [1, 2, 3, 4, 0] rfl; rw [show 4 * p1 + (q1 + 1) = 4 * p1 + q1 + 1 from rfl, cntB_f hB]; exact h9)
                        · -- f 97
                          have hB : bridgeB (N 5) (F 6) (4 * p1 + q1) = true := by
                            unfold bridgeB; rw [(dm4 (p := p1) (q := q1) (by omega)).1, (dm4 (p := p1) (q := q1) (by omega)).2]; simp [c_10, c_9, c_8]; omega
                          refine lv_iload_n hx hb dX12_bridge_97 rfl (lv_at hl 2 rfl) ?_
                          refine lv_iload_n hx hb dX12_bridge_98 rfl (lv_at hl 1 rfl) ?_
                          refine lv_icmp_ne (tgt := 110) hx hb dX12_bridge_99 (by decide) (fun c_11 => ?_) (fun c_11 => ?_)
                          · -- t 110
                            refine lv_iinc (v := nI ((cntB (bridgeB (N 5) (F 6)) (4 * p1 + q1)) + 1)) (lv' := [(2, .int (nI ((cntB (bridgeB (N 5) (F 6)) (4 * p1 + q1)) + 1))), (0, .ref (ad 0)), (1, .int (-1)), (3, .int (nI p1)), (4, .int (nI q1))]) hx hb dX12_bridge_110 hl (k := 2) rfl (ii_1 _) (by decide) rfl (fun ls hl => ?_)
                            refine lv_iinc (v := nI (q1 + 1)) (lv' := [(4, .int (nI (q1 + 1))), (2, .int (nI ((cntB (bridgeB (N 5) (F 6)) (4 * p1 + q1)) + 1))), (0, .ref (ad 0)), (1, .int (-1)), (3, .int (nI p1))]) hx hb dX12_bridge_113 hl (k := 4) rfl (ii_1 _) (by decide) rfl (fun ls hl => ?_)
                            refine lv_goto (tgt := 44) hx hb dX12_bridge_116 (by decide) ?_
                            exact ih_lp_6 (q1 + 1) (flip (F 6) p1 q1) (by omega) (fun j => flip_lt hMn (by omega) j) (by omega) H locs hP hD hS ls (by have h9 : lv_has ls 5 [(0, .ref (ad 0)), (1, .int (-1)), (2, .int (nI ((cntB (bridgeB (N 5) (F 6)) (4 * p1 + q1)) + 1))), (3, .int (nI p1)), (4, .int (nI (q1 + 1)))] := lv_sub hl [2, 3, 1, 4, 0] rfl; rw [show 4 * p1 + (q1 + 1) = 4 * p1 + q1 + 1 from rfl, cntB_t hB]; exact h9)
                          · -- f 102
                            exact absurd c_11 (nI_m1 (by omega))
                      · -- f 73
                        have hB : bridgeB (N 5) (F 6) (4 * p1 + q1) = false := by
                          unfold bridgeB; rw [(dm4 (p := p1) (q := q1) (by omega)).1, (dm4 (p := p1) (q := q1) (by omega)).2]; simp [c_9]
                        refine lv_goto (tgt := 113) hx hb dX12_bridge_73 (by decide) ?_
                        refine lv_iinc (v := nI (q1 + 1)) (lv' := [(4, .int (nI (q1 + 1))), (0, .ref (ad 0)), (1, .int (-1)), (2, .int (nI (cntB (bridgeB (N 5) (F 6)) (4 * p1 + q1)))), (3, .int (nI p1))]) hx hb dX12_bridge_113 hl (k := 4) rfl (ii_1 _) (by decide) rfl (fun ls hl => ?_)
                        refine lv_goto (tgt := 44) hx hb dX12_bridge_116 (by decide) ?_
                        exact ih_lp_6 (q1 + 1) f28b (by omega) h28b (by omega) H locs hP hD hS ls (by have h9 : lv_has ls 5 [(0, .ref (ad 0)), (1, .int (-1)), (2, .int (nI (cntB (bridgeB (N 5) (F 6)) (4 * p1 + q1)))), (3, .int (nI p1)), (4, .int (nI (q1 + 1)))] := lv_sub hl [1, 2, 3, 4, 0] rfl; rw [show 4 * p1 + (q1 + 1) = 4 * p1 + q1 + 1 from rfl, cntB_f hB]; exact h9)
              exact lp_6 _ 0 f28 (by omega) h28 (Nat.lt_succ_self _) H locs hP hD hS ls (lv_sub hl [1, 2, 3, 4, 0] rfl)
        exact lp_3 _ 0 (F 28) (by omega) hT.2 (Nat.lt_succ_self _) H locs hP hD hS ls (lv_sub hl [2, 3, 1, 0] rfl)
      · -- f 26
        refine lv_bipush (v := -3) hx hb dX12_bridge_26 (by decide) ?_
        exact rw_i hC rfl hP hD hS (⟨by rw [if_neg (by rw [c_1]; decide), if_pos c_2], QP.rf hT⟩) dX12_bridge_28 (Nat.le_of_ble_eq_true rfl) (Nat.le_of_ble_eq_true rfl)
    ·
      have hl : lv_has ls 5 [(0, .ref (ad 0)), (1, .int (nI kk))] := hl
      refine lv_aload_n hx hb dX12_bridge_12 rfl (lv_at hl 0 rfl) ?_
      refine va_get (D := E.1) (ci := 10) (v := .ref (ad 6)) (C := RX12) (T := TX12) (N := 30) hx hb hts iX12 hown hK hP 0 rfl rfl 6 (by decide) (hts _ kw_745) (fun _ h9 => h9) rfl dX12_bridge_13 ?_
      refine lv_aload_n hx hb dX12_bridge_16 rfl (lv_at hl 0 rfl) ?_
      refine va_get (D := E.1) (ci := 10) (v := .int (nI (N 5))) (C := RX12) (T := TX12) (N := 30) hx hb hts iX12 hown hK hP 0 rfl rfl 5 (by decide) (hts _ kw_744) (fun _ h9 => h9) rfl dX12_bridge_17 ?_
      refine cS_r (rest := []) hC (c_join l E (ad 6) (F 6) (N 5) (by omega) hn) kw_1013 sy_X12_isJoined ⟨Nat.le_of_ble_eq_true rfl, Nat.le_of_ble_eq_true rfl⟩ ⟨rfl, rfl⟩ hK (hP.sub (ws' := aW E (ad 6) (F 6)) [4] rfl) rfl hl.1 rfl (Nat.le_of_ble_eq_true rfl) dX12_bridge_20 ⟨Nat.le_of_ble_eq_true rfl, Nat.le_of_ble_eq_true rfl⟩ ?_
      refine b_if_ne (tgt := 29) hx hb dX12_bridge_23 (by decide) (fun c_12 => ?_) (fun c_12 => ?_)
      · -- t 29
        refine lv_iconst (v := nI 0) hx hb dX12_bridge_29 (by decide) ?_
        refine lv_istore_n (lv' := [(2, .int (nI 0)), (0, .ref (ad 0)), (1, .int (nI kk))]) hx hb dX12_bridge_30 rfl hl (by decide) rfl (fun ls hl => ?_)
        refine lv_iconst (v := nI 0) hx hb dX12_bridge_31 (by decide) ?_
        refine lv_istore_n (lv' := [(3, .int (nI 0)), (2, .int (nI 0)), (0, .ref (ad 0)), (1, .int (nI kk))]) hx hb dX12_bridge_32 rfl hl (by decide) rfl (fun ls hl => ?_)
        have lp_13 : ∀ (n_lp_13 : Nat) (p1 : Nat) (f28 : Nat → Nat) (hp1 : p1 ≤ N 5) (h28 : ∀ j, f28 j < 16) (hno : cntB (bridgeB (N 5) (F 6)) (4 * p1) ≤ kk), N 5 - p1 < n_lp_13 → ∀ (H : Heap) (locs : List Loc) (hP : va_P E.1 vwCl (mW E ad lk tr N X (va_up F 28 f28) G) H) (hD : va_D A (mW E ad lk tr N X (va_up F 28 f28) G)) (hS : va_S A s.heap H locs) (ls : Array Slot), lv_has ls 5 [(0, .ref (ad 0)), (1, .int (nI kk)), (2, .int (nI (cntB (bridgeB (N 5) (F 6)) (4 * p1)))), (3, .int (nI p1))] → W p l e rm_X12_bridge s m args below meth c H locs 0 0 (MQ below (wr_Q E A (fun v w1 => (if isIn (nI kk) (-1) (nI 11) = false then v = some (.int (-1)) else if joinM (F 6) (N 5) = false then v = some (.int (-3)) else ∃ x, v = some (.int x) ∧ pickR (bridgeB (N 5) (F 6)) (nI kk) x) ∧ QP E ad tr N X F 64 w1)) args s 0 0 A) (F0 m 33 ls []) := by
          intro n_lp_13
          induction n_lp_13 with
          | zero => intro p1 f28 hp1 h28 hno; intro hm_lp_13; exact absurd hm_lp_13 (Nat.not_lt_zero _)
          | succ n_lp_13 ih_lp_13 =>
            intro p1 f28 hp1 h28 hno hm_lp_13 H locs hP hD hS ls hl
            refine lv_iload_n hx hb dX12_bridge_33 rfl (lv_at hl 3 rfl) ?_
            refine lv_aload_n hx hb dX12_bridge_34 rfl (lv_at hl 0 rfl) ?_
            refine va_get (D := E.1) (ci := 10) (v := .int (nI (N 5))) (C := RX12) (T := TX12) (N := 30) hx hb hts iX12 hown hK hP 0 rfl rfl 5 (by decide) (hts _ kw_744) (fun _ h9 => h9) rfl dX12_bridge_35 ?_
            refine n_icmp_ge (tgt := 125) hx hb (by omega) (by omega) dX12_bridge_38 (by decide) (fun c_14 => ?_) (fun c_14 => ?_)
            · -- t 125
              refine lv_iload_n hx hb dX12_bridge_125 rfl (lv_at hl 1 rfl) ?_
              refine lv_iconst (v := -1) hx hb dX12_bridge_126 (by decide) ?_
              refine lv_icmp_ne (tgt := 134) hx hb dX12_bridge_127 (by decide) (fun c_15 => ?_) (fun c_15 => ?_)
              · -- t 134
                refine lv_bipush (v := -9) hx hb dX12_bridge_134 (by decide) ?_
                exact rw_i hC rfl hP hD hS (⟨by rw [if_neg (by rw [c_1]; decide), if_neg (by rw [c_12]; decide)]; exact ⟨_, rfl, Or.inr ⟨kk, hkk, rfl, Or.inr ⟨by rw [(cntB_end (B := bridgeB (N 5) (F 6)) (n := N 5) hM5 (fun j hj => by unfold bridgeB; rw [decide_eq_false (p := j / 4 < N 5) (by omega)]; simp))]; rw [show p1 = N 5 by omega] at hno; exact hno, rfl⟩⟩⟩, ⟨lk, N, X, _, G, rfl, SC.rf, ⟨hT.1, h28⟩, by omega⟩⟩) dX12_bridge_136 (Nat.le_of_ble_eq_true rfl) (Nat.le_of_ble_eq_true rfl)
              · -- f 130
                exact absurd c_15 (nI_m1 (by omega))
            · -- f 41
              refine lv_iconst (v := nI 0) hx hb dX12_bridge_41 (by decide) ?_
              refine lv_istore (lv' := [(4, .int (nI 0)), (0, .ref (ad 0)), (1, .int (nI kk)), (2, .int (nI (cntB (bridgeB (N 5) (F 6)) (4 * p1)))), (3, .int (nI p1))]) hx hb dX12_bridge_42 hl (by decide) rfl (fun ls hl => ?_)
              have lp_16 : ∀ (n_lp_16 : Nat) (q1 : Nat) (f28b : Nat → Nat) (hq1 : q1 ≤ N 5) (h28b : ∀ j, f28b j < 16) (hno : cntB (bridgeB (N 5) (F 6)) (4 * p1 + q1) ≤ kk), N 5 - q1 < n_lp_16 → ∀ (H : Heap) (locs : List Loc) (hP : va_P E.1 vwCl (mW E ad lk tr N X (va_up F 28 f28b) G) H) (hD : va_D A (mW E ad lk tr N X (va_up F 28 f28b) G)) (hS : va_S A s.heap H locs) (ls : Array Slot), lv_has ls 5 [(0, .ref (ad 0)), (1, .int (nI kk)), (2, .int (nI (cntB (bridgeB (N 5) (F 6)) (4 * p1 + q1)))), (3, .int (nI p1)), (4, .int (nI q1))] → W p l e rm_X12_bridge s m args below meth c H locs 0 0 (MQ below (wr_Q E A (fun v w1 => (if isIn (nI kk) (-1) (nI 11) = false then v = some (.int (-1)) else if joinM (F 6) (N 5) = false then v = some (.int (-3)) else ∃ x, v = some (.int x) ∧ pickR (bridgeB (N 5) (F 6)) (nI kk) x) ∧ QP E ad tr N X F 64 w1)) args s 0 0 A) (F0 m 44 ls []) := by
                intro n_lp_16
                induction n_lp_16 with
                | zero => intro q1 f28b hq1 h28b hno; intro hm_lp_16; exact absurd hm_lp_16 (Nat.not_lt_zero _)
                | succ n_lp_16 ih_lp_16 =>
                  intro q1 f28b hq1 h28b hno hm_lp_16 H locs hP hD hS ls hl
                  have hcb := cntB_le (bridgeB (N 5) (F 6)) (4 * p1 + q1)
                  have hb0 := hMn p1
                  refine lv_iload hx hb dX12_bridge_44 (lv_at hl 4 rfl) ?_
                  refine lv_aload_n hx hb dX12_bridge_46 rfl (lv_at hl 0 rfl) ?_
                  refine va_get (D := E.1) (ci := 10) (v := .int (nI (N 5))) (C := RX12) (T := TX12) (N := 30) hx hb hts iX12 hown hK hP 0 rfl rfl 5 (by decide) (hts _ kw_744) (fun _ h9 => h9) rfl dX12_bridge_47 ?_
                  refine n_icmp_ge (tgt := 119) hx hb (by omega) (by omega) dX12_bridge_50 (by decide) (fun c_17 => ?_) (fun c_17 => ?_)
                  · -- t 119
                    refine lv_iinc (v := nI (p1 + 1)) (lv' := [(3, .int (nI (p1 + 1))), (0, .ref (ad 0)), (1, .int (nI kk)), (2, .int (nI (cntB (bridgeB (N 5) (F 6)) (4 * p1 + q1)))), (4, .int (nI q1))]) hx hb dX12_bridge_119 hl (k := 3) rfl (ii_1 _) (by decide) rfl (fun ls hl => ?_)
                    refine lv_goto (tgt := 33) hx hb dX12_bridge_122 (by decide) ?_
                    exact ih_lp_13 (p1 + 1) f28b (by omega) h28b (by rw [(cntB_row (B := bridgeB (N 5) (F 6)) (p := p1) (n := N 5) hM5 (fun q h1 h2 => by unfold bridgeB; rw [(dm4 (p := p1) (q := q) h2).1, (dm4 (p := p1) (q := q) h2).2, decide_eq_false (p := q < N 5) (by omega)]; simp))]; rw [show q1 = N 5 by omega] at hno; exact hno) (by omega) H locs hP hD hS ls (by have h9 : lv_has ls 5 [(0, .ref (ad 0)), (1, .int (nI kk)), (2, .int (nI (cntB (bridgeB (N 5) (F 6)) (4 * p1 + q1)))), (3, .int (nI (p1 + 1)))] := lv_sub hl [1, 2, 3, 0] rfl; rw [(cntB_row (B := bridgeB (N 5) (F 6)) (p := p1) (n := N 5) hM5 (fun q h1 h2 => by unfold bridgeB; rw [(dm4 (p := p1) (q := q) h2).1, (dm4 (p := p1) (q := q) h2).2, decide_eq_false (p := q < N 5) (by omega)]; simp))]; rw [show q1 = N 5 by omega] at h9; exact h9)
                  · -- f 53
                    refine lv_iload_n hx hb dX12_bridge_53 rfl (lv_at hl 3 rfl) ?_
                    refine lv_iload hx hb dX12_bridge_54 (lv_at hl 4 rfl) ?_
                    refine n_icmp_eq (tgt := 113) hx hb (by omega) (by omega) dX12_bridge_56 (by decide) (fun c_18 => ?_) (fun c_18 => ?_)
                    · -- t 113
                      have hB : bridgeB (N 5) (F 6) (4 * p1 + q1) = false := by
                        unfold bridgeB; rw [(dm4 (p := p1) (q := q1) (by omega)).1, (dm4 (p := p1) (q := q1) (by omega)).2]; simp [c_18]
                      refine lv_iinc (v := nI (q1 + 1)) (lv' := [(4, .int (nI (q1 + 1))), (0, .ref (ad 0)), (1, .int (nI kk)), (2, .int (nI (cntB (bridgeB (N 5) (F 6)) (4 * p1 + q1)))), (3, .int (nI p1))]) hx hb dX12_bridge_113 hl (k := 4) rfl (ii_1 _) (by decide) rfl (fun ls hl => ?_)
                      refine lv_goto (tgt := 44) hx hb dX12_bridge_116 (by decide) ?_
                      exact ih_lp_16 (q1 + 1) f28b (by omega) h28b (by rw [show 4 * p1 + (q1 + 1) = 4 * p1 + q1 + 1 from rfl, cntB_f hB]; omega) (by omega) H locs hP hD hS ls (by have h9 : lv_has ls 5 [(0, .ref (ad 0)), (1, .int (nI kk)), (2, .int (nI (cntB (bridgeB (N 5) (F 6)) (4 * p1 + q1)))), (3, .int (nI p1)), (4, .int (nI (q1 + 1)))] := lv_sub hl [1, 2, 3, 4, 0] rfl; rw [show 4 * p1 + (q1 + 1) = 4 * p1 + q1 + 1 from rfl, cntB_f hB]; exact h9)
                    · -- f 59
                      refine lv_aload_n hx hb dX12_bridge_59 rfl (lv_at hl 0 rfl) ?_
                      refine va_get (D := E.1) (ci := 10) (v := .ref (ad 6)) (C := RX12) (T := TX12) (N := 30) hx hb hts iX12 hown hK hP 0 rfl rfl 6 (by decide) (hts _ kw_745) (fun _ h9 => h9) rfl dX12_bridge_60 ?_
                      refine lv_iload_n hx hb dX12_bridge_63 rfl (lv_at hl 3 rfl) ?_
                      refine n_iald hx hb hK hP 4 rfl (by omega) (by decide) dX12_bridge_64 ?_
                      refine lv_iload hx hb dX12_bridge_65 (lv_at hl 4 rfl) ?_
                      refine cS_p (rest := []) hC (c_m_has l ((F 6) p1) q1 (by omega) (by omega)) kw_851 sy_X12_has ⟨Nat.le_of_ble_eq_true rfl, Nat.le_of_ble_eq_true rfl⟩ ⟨rfl, rfl⟩ rfl hl.1 rfl (Nat.le_of_ble_eq_true rfl) dX12_bridge_67 ⟨Nat.le_of_ble_eq_true rfl, Nat.le_of_ble_eq_true rfl⟩ ?_
                      refine b_if_ne (tgt := 76) hx hb dX12_bridge_70 (by decide) (fun c_19 => ?_) (fun c_19 => ?_)
                      · -- t 76
                        refine lv_aload_n hx hb dX12_bridge_76 rfl (lv_at hl 0 rfl) ?_
                        refine lv_iload_n hx hb dX12_bridge_77 rfl (lv_at hl 3 rfl) ?_
                        refine lv_iload hx hb dX12_bridge_78 (lv_at hl 4 rfl) ?_
                        refine cV_w0 (rest := []) hC (c_m_layOther l E ad lk tr N X (va_up F 28 f28b) G H.size p1 q1 (by omega) (by omega)) kw_1020 iy_X12_layOther ⟨Nat.le_of_ble_eq_true rfl, Nat.le_of_ble_eq_true rfl⟩ ⟨rfl, rfl⟩ hK hP hD hS hA (va_recv hK hP (ci := 10) (q0 := 0) rfl rfl) rfl hl.1 rfl (Nat.le_of_ble_eq_true rfl) dX12_bridge_80 ⟨Nat.le_of_ble_eq_true rfl, Nat.le_of_ble_eq_true rfl⟩ (fun v_ w_ H locs hpost hP hD hS => ?_)
                        obtain ⟨rfl, rfl⟩ := hpost
                        refine W.eq (g2 := F0 m 83 ls []) rfl ?_
                        refine lv_aload_n hx hb dX12_bridge_83 rfl (lv_at hl 0 rfl) ?_
                        refine va_get (D := E.1) (ci := 10) (v := .ref (ad 28)) (C := RX12) (T := TX12) (N := 30) hx hb hts iX12 hown hK hP 0 rfl rfl 28 (by decide) (hts _ kw_767) (fun _ h9 => h9) rfl dX12_bridge_84 ?_
                        refine lv_aload_n hx hb dX12_bridge_87 rfl (lv_at hl 0 rfl) ?_
                        refine va_get (D := E.1) (ci := 10) (v := .int (nI (N 5))) (C := RX12) (T := TX12) (N := 30) hx hb hts iX12 hown hK hP 0 rfl rfl 5 (by decide) (hts _ kw_744) (fun _ h9 => h9) rfl dX12_bridge_88 ?_
                        refine cS_r (rest := []) hC (c_join l E (ad 28) (flip (F 6) p1 q1) (N 5) (by omega) (fun j _ => flip_lt hMn (by omega) j)) kw_1013 sy_X12_isJoined ⟨Nat.le_of_ble_eq_true rfl, Nat.le_of_ble_eq_true rfl⟩ ⟨rfl, rfl⟩ hK (hP.sub (ws' := aW E (ad 28) (flip (F 6) p1 q1)) [18] rfl) rfl hl.1 rfl (Nat.le_of_ble_eq_true rfl) dX12_bridge_91 ⟨Nat.le_of_ble_eq_true rfl, Nat.le_of_ble_eq_true rfl⟩ ?_
                        refine W.eq (g2 := F0 m 94 ls [.int (bI (joinM (flip (F 6) p1 q1) (N 5)))]) rfl ?_
                        refine b_if_ne (tgt := 113) hx hb dX12_bridge_94 (by decide) (fun c_20 => ?_) (fun c_20 => ?_)
                        · -- t 113
                          have hB : bridgeB (N 5) (F 6) (4 * p1 + q1) = false := by
                            unfold bridgeB; rw [(dm4 (p := p1) (q := q1) (by omega)).1, (dm4 (p := p1) (q := q1) (by omega)).2]; simp [c_20]
                          refine lv_iinc (v := nI (q1 + 1)) (lv' := [(4, .int (nI (q1 + 1))), (0, .ref (ad 0)), (1, .int (nI kk)), (2, .int (nI (cntB (bridgeB (N 5) (F 6)) (4 * p1 + q1)))), (3, .int (nI p1))]) hx hb dX12_bridge_113 hl (k := 4) rfl (ii_1 _) (by decide) rfl (fun ls hl => ?_)
                          refine lv_goto (tgt := 44) hx hb dX12_bridge_116 (by decide) ?_
                          exact ih_lp_16 (q1 + 1) (flip (F 6) p1 q1) (by omega) (fun j => flip_lt hMn (by omega) j) (by rw [show 4 * p1 + (q1 + 1) = 4 * p1 + q1 + 1 from rfl, cntB_f hB]; omega) (by omega) H locs hP hD hS ls (by have h9 : lv_has ls 5 [(0, .ref (ad 0)), (1, .int (nI kk)), (2, .int (nI (cntB (bridgeB (N 5) (F 6)) (4 * p1 + q1)))), (3, .int (nI p1)), (4, .int (nI (q1 + 1)))] := lv_sub hl [1, 2, 3, 4, 0] rfl; rw [show 4 * p1 + (q1 + 1) = 4 * p1 + q1 + 1 from rfl, cntB_f hB]; exact h9)
                        · -- f 97
                          have hB : bridgeB (N 5) (F 6) (4 * p1 + q1) = true := by
                            unfold bridgeB; rw [(dm4 (p := p1) (q := q1) (by omega)).1, (dm4 (p := p1) (q := q1) (by omega)).2]; simp [c_20, c_19, c_18]; omega
                          refine lv_iload_n hx hb dX12_bridge_97 rfl (lv_at hl 2 rfl) ?_
                          refine lv_iload_n hx hb dX12_bridge_98 rfl (lv_at hl 1 rfl) ?_
                          refine n_icmp_ne (tgt := 110) hx hb (by omega) (by omega) dX12_bridge_99 (by decide) (fun c_21 => ?_) (fun c_21 => ?_)
                          · -- t 110
                            refine lv_iinc (v := nI ((cntB (bridgeB (N 5) (F 6)) (4 * p1 + q1)) + 1)) (lv' := [(2, .int (nI ((cntB (bridgeB (N 5) (F 6)) (4 * p1 + q1)) + 1))), (0, .ref (ad 0)), (1, .int (nI kk)), (3, .int (nI p1)), (4, .int (nI q1))]) hx hb dX12_bridge_110 hl (k := 2) rfl (ii_1 _) (by decide) rfl (fun ls hl => ?_)
                            refine lv_iinc (v := nI (q1 + 1)) (lv' := [(4, .int (nI (q1 + 1))), (2, .int (nI ((cntB (bridgeB (N 5) (F 6)) (4 * p1 + q1)) + 1))), (0, .ref (ad 0)), (1, .int (nI kk)), (3, .int (nI p1))]) hx hb dX12_bridge_113 hl (k := 4) rfl (ii_1 _) (by decide) rfl (fun ls hl => ?_)
                            refine lv_goto (tgt := 44) hx hb dX12_bridge_116 (by decide) ?_
                            exact ih_lp_16 (q1 + 1) (flip (F 6) p1 q1) (by omega) (fun j => flip_lt hMn (by omega) j) (by rw [show 4 * p1 + (q1 + 1) = 4 * p1 + q1 + 1 from rfl, cntB_t hB]; omega) (by omega) H locs hP hD hS ls (by have h9 : lv_has ls 5 [(0, .ref (ad 0)), (1, .int (nI kk)), (2, .int (nI ((cntB (bridgeB (N 5) (F 6)) (4 * p1 + q1)) + 1))), (3, .int (nI p1)), (4, .int (nI (q1 + 1)))] := lv_sub hl [2, 3, 1, 4, 0] rfl; rw [show 4 * p1 + (q1 + 1) = 4 * p1 + q1 + 1 from rfl, cntB_t hB]; exact h9)
                          · -- f 102
                            refine lv_bipush (v := nI 10) hx hb dX12_bridge_102 (by decide) ?_
                            refine lv_iload_n hx hb dX12_bridge_104 rfl (lv_at hl 3 rfl) ?_
                            refine n_imul hx hb dX12_bridge_105 ?_
                            refine lv_iload hx hb dX12_bridge_106 (lv_at hl 4 rfl) ?_
                            refine n_iadd hx hb dX12_bridge_108 ?_
                            exact rw_i hC rfl hP hD hS (⟨by rw [if_neg (by rw [c_1]; decide), if_neg (by rw [c_12]; decide)]; exact ⟨_, rfl, Or.inr ⟨kk, hkk, rfl, Or.inl ⟨4 * p1 + q1, by omega, hB, c_21, by rw [(dm4 (p := p1) (q := q1) (by omega)).1, (dm4 (p := p1) (q := q1) (by omega)).2]⟩⟩⟩, ⟨lk, N, X, _, G, rfl, SC.rf, ⟨hT.1, fun j => flip_lt hMn (by omega) j⟩, by omega⟩⟩) dX12_bridge_109 (Nat.le_of_ble_eq_true rfl) (Nat.le_of_ble_eq_true rfl)
                      · -- f 73
                        have hB : bridgeB (N 5) (F 6) (4 * p1 + q1) = false := by
                          unfold bridgeB; rw [(dm4 (p := p1) (q := q1) (by omega)).1, (dm4 (p := p1) (q := q1) (by omega)).2]; simp [c_19]
                        refine lv_goto (tgt := 113) hx hb dX12_bridge_73 (by decide) ?_
                        refine lv_iinc (v := nI (q1 + 1)) (lv' := [(4, .int (nI (q1 + 1))), (0, .ref (ad 0)), (1, .int (nI kk)), (2, .int (nI (cntB (bridgeB (N 5) (F 6)) (4 * p1 + q1)))), (3, .int (nI p1))]) hx hb dX12_bridge_113 hl (k := 4) rfl (ii_1 _) (by decide) rfl (fun ls hl => ?_)
                        refine lv_goto (tgt := 44) hx hb dX12_bridge_116 (by decide) ?_
                        exact ih_lp_16 (q1 + 1) f28b (by omega) h28b (by rw [show 4 * p1 + (q1 + 1) = 4 * p1 + q1 + 1 from rfl, cntB_f hB]; omega) (by omega) H locs hP hD hS ls (by have h9 : lv_has ls 5 [(0, .ref (ad 0)), (1, .int (nI kk)), (2, .int (nI (cntB (bridgeB (N 5) (F 6)) (4 * p1 + q1)))), (3, .int (nI p1)), (4, .int (nI (q1 + 1)))] := lv_sub hl [1, 2, 3, 4, 0] rfl; rw [show 4 * p1 + (q1 + 1) = 4 * p1 + q1 + 1 from rfl, cntB_f hB]; exact h9)
              exact lp_16 _ 0 f28 (by omega) h28 hno (Nat.lt_succ_self _) H locs hP hD hS ls (lv_sub hl [1, 2, 3, 4, 0] rfl)
        exact lp_13 _ 0 (F 28) (by omega) hT.2 (Nat.zero_le _) (Nat.lt_succ_self _) H locs hP hD hS ls (lv_sub hl [2, 3, 1, 0] rfl)
      · -- f 26
        refine lv_bipush (v := -3) hx hb dX12_bridge_26 (by decide) ?_
        exact rw_i hC rfl hP hD hS (⟨by rw [if_neg (by rw [c_1]; decide), if_pos c_12], QP.rf hT⟩) dX12_bridge_28 (Nat.le_of_ble_eq_true rfl) (Nat.le_of_ble_eq_true rfl)
  · -- f 10
    refine lv_iconst (v := -1) hx hb dX12_bridge_10 (by decide) ?_
    exact rw_i hC rfl hP hD hS (⟨by rw [if_pos c_1], QP.rf hT⟩) dX12_bridge_11 (Nat.le_of_ble_eq_true rfl) (Nat.le_of_ble_eq_true rfl)
