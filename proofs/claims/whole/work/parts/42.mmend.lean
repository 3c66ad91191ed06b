set_option maxHeartbeats 4000000 in
set_option maxRecDepth 100000 in
theorem c_m_mend (l : Launch) (E : EE) (ad : Nat → Nat) (lk : Nat) (tr : Int32) (N : Nat → Nat) (X : Nat → Nat → Int32) (F G : Nat → Nat → Nat) (sz : Nat) (hM : MOK N F) (hT : TB N F) (h17 : N 17 + 64 < 2 ^ 31) (a1 a2 : Int32) : Wr l yX12_mend cX12_mend 6 (some .int) rm_X12_mend 0 0 E (mW E ad lk tr N X F G) sz [.ref (ad 0), .int a1, .int a2] (fun v w1 => (if isIn a1 (nI 0) (nI 3) = false then v = some (.int (-1)) else if isIn a2 (-1) (nI 11) = false then v = some (.int (-1)) else if N 5 = 0 then v = some (.int (-3)) else ∃ x, v = some (.int x) ∧ pickR (mendB (N 5) (F 6) a1.toNatClampNeg) a2 x) ∧ QP E ad tr N X F 64 w1) := by
  refine mk_wr (by decide) (Nat.le_of_ble_eq_true rfl) ?_
  intro p e s m args below meth c hC hin hK A hA hP hD hS ls hl
  obtain ⟨hx, hb, hr, hts, hown, hml, hlk, hN⟩ := id hC
  have hl : lv_has ls 6 [(0, .ref (ad 0)), (1, .int a1), (2, .int a2)] := hl
  obtain ⟨hM5, hM9, hMp, hMq, hMn⟩ := id hM
  have hn : ∀ j, j < 4 → F 6 j < 16 := fun j _ => hMn j
  obtain ⟨H, hH⟩ : ∃ z, z = s.heap := ⟨_, rfl⟩
  have hS : va_S A s.heap H [] := by rw [hH]; exact hS
  rw [← hH] at hP
  refine W_heap hH ?_
  obtain ⟨locs, hlo⟩ : ∃ z : List Loc, z = [] := ⟨_, rfl⟩
  rw [← hlo] at hS ⊢
  refine lv_iload_n hx hb dX12_mend_0 rfl (lv_at hl 1 rfl) ?_
  refine cS_p (rest := []) hC (c_m_isRule l a1) kw_918 sy_X12_isRule ⟨Nat.le_of_ble_eq_true rfl, Nat.le_of_ble_eq_true rfl⟩ ⟨rfl, rfl⟩ rfl hl.1 rfl (Nat.le_of_ble_eq_true rfl) dX12_mend_1 ⟨Nat.le_of_ble_eq_true rfl, Nat.le_of_ble_eq_true rfl⟩ ?_
  refine b_if_eq (tgt := 17) hx hb dX12_mend_4 (by decide) (fun c_1 => ?_) (fun c_1 => ?_)
  · -- t 17
    refine lv_iconst (v := -1) hx hb dX12_mend_17 (by decide) ?_
    exact rw_i hC rfl hP hD hS (⟨by rw [if_pos c_1], QP.rf hT⟩) dX12_mend_18 (Nat.le_of_ble_eq_true rfl) (Nat.le_of_ble_eq_true rfl)
  · -- f 7
    obtain ⟨r, hr, rfl⟩ := isIn_nat (by decide) c_1
    have hcr := nI_clamp (n := r) (by omega)
    have hl : lv_has ls 6 [(0, .ref (ad 0)), (1, .int (nI r)), (2, .int a2)] := hl
    refine lv_iload_n hx hb dX12_mend_7 rfl (lv_at hl 2 rfl) ?_
    refine lv_iconst (v := -1) hx hb dX12_mend_8 (by decide) ?_
    refine lv_bipush (v := nI 11) hx hb dX12_mend_9 (by decide) ?_
    refine cS_p (rest := []) hC (c_isIn l a2 (-1) (nI 11)) kw_837 sy_X12_isIn ⟨Nat.le_of_ble_eq_true rfl, Nat.le_of_ble_eq_true rfl⟩ ⟨rfl, rfl⟩ rfl hl.1 rfl (Nat.le_of_ble_eq_true rfl) dX12_mend_11 ⟨Nat.le_of_ble_eq_true rfl, Nat.le_of_ble_eq_true rfl⟩ ?_
    refine b_if_ne (tgt := 19) hx hb dX12_mend_14 (by decide) (fun c_2 => ?_) (fun c_2 => ?_)
    · -- t 19
      rcases isIn_m1 c_2 with rfl | ⟨kk, hkk, rfl⟩
      ·
        have hl : lv_has ls 6 [(0, .ref (ad 0)), (1, .int (nI r)), (2, .int (-1))] := hl
        refine lv_aload_n hx hb dX12_mend_19 rfl (lv_at hl 0 rfl) ?_
        refine va_get (D := E.1) (ci := 10) (v := .int (nI (N 5))) (C := RX12) (T := TX12) (N := 30) hx hb hts iX12 hown hK hP 0 rfl rfl 5 (by decide) (hts _ kw_744) (fun _ h9 => h9) rfl dX12_mend_20 ?_
        refine n_if_ne (tgt := 29) hx hb (by omega) dX12_mend_23 (by decide) (fun c_3 => ?_) (fun c_3 => ?_)
        · -- t 29
          refine lv_iconst (v := nI 0) hx hb dX12_mend_29 (by decide) ?_
          refine lv_istore_n (lv' := [(3, .int (nI 0)), (0, .ref (ad 0)), (1, .int (nI r)), (2, .int (-1))]) hx hb dX12_mend_30 rfl hl (by decide) rfl (fun ls hl => ?_)
          refine lv_iconst (v := nI 0) hx hb dX12_mend_31 (by decide) ?_
          refine lv_istore (lv' := [(4, .int (nI 0)), (3, .int (nI 0)), (0, .ref (ad 0)), (1, .int (nI r)), (2, .int (-1))]) hx hb dX12_mend_32 hl (by decide) rfl (fun ls hl => ?_)
          have lp_4 : ∀ (n_lp_4 : Nat) (p1 : Nat) (lk2 : Nat) (N2 : Nat → Nat) (X2 : Nat → Nat → Int32) (F2 G2 : Nat → Nat → Nat) (hp1 : p1 ≤ N 5) (hsc2 : SC N N2 X X2 F F2) (hTB2 : TB N2 F2) (h172 : N2 17 ≤ N 17 + (4 * p1)), N 5 - p1 < n_lp_4 → ∀ (H : Heap) (locs : List Loc) (hP : va_P E.1 vwCl (mW E ad lk2 tr N2 X2 F2 G2) H) (hD : va_D A (mW E ad lk2 tr N2 X2 F2 G2)) (hS : va_S A s.heap H locs) (ls : Array Slot), lv_has ls 6 [(0, .ref (ad 0)), (1, .int (nI r)), (2, .int (-1)), (3, .int (nI (cntB (mendB (N 5) (F 6) r) (4 * p1)))), (4, .int (nI p1))] → W p l e rm_X12_mend s m args below meth c H locs 0 0 (MQ below (wr_Q E A (fun v w1 => (if isIn (nI r) (nI 0) (nI 3) = false then v = some (.int (-1)) else if isIn (-1 : Int32) (-1) (nI 11) = false then v = some (.int (-1)) else if N 5 = 0 then v = some (.int (-3)) else ∃ x, v = some (.int x) ∧ pickR (mendB (N 5) (F 6) (nI r).toNatClampNeg) (-1 : Int32) x) ∧ QP E ad tr N X F 64 w1)) args s 0 0 A) (F0 m 34 ls []) := by
            intro n_lp_4
            induction n_lp_4 with
            | zero => intro p1 lk2 N2 X2 F2 G2 hp1 hsc2 hTB2 h172; intro hm_lp_4; exact absurd hm_lp_4 (Nat.not_lt_zero _)
            | succ n_lp_4 ih_lp_4 =>
              intro p1 lk2 N2 X2 F2 G2 hp1 hsc2 hTB2 h172 hm_lp_4 H locs hP hD hS ls hl
              obtain ⟨e02, e52, e92, ex22, ex42, ef32, e62, e102, e112⟩ := id hsc2
              refine lv_iload hx hb dX12_mend_34 (lv_at hl 4 rfl) ?_
              refine lv_aload_n hx hb dX12_mend_36 rfl (lv_at hl 0 rfl) ?_
              refine va_get (D := E.1) (ci := 10) (v := .int (nI (N2 5))) (C := RX12) (T := TX12) (N := 30) hx hb hts iX12 hown hK hP 0 rfl rfl 5 (by decide) (hts _ kw_744) (fun _ h9 => h9) rfl dX12_mend_37 ?_
              refine n_icmp_ge (tgt := 134) hx hb (by omega) (by omega) dX12_mend_40 (by decide) (fun c_5 => ?_) (fun c_5 => ?_)
              · -- t 134
                refine lv_iload_n hx hb dX12_mend_134 rfl (lv_at hl 2 rfl) ?_
                refine lv_iconst (v := -1) hx hb dX12_mend_135 (by decide) ?_
                refine lv_icmp_ne (tgt := 143) hx hb dX12_mend_136 (by decide) (fun c_6 => ?_) (fun c_6 => ?_)
                · -- t 143
                  exact absurd rfl c_6
                · -- f 139
                  refine lv_iload_n hx hb dX12_mend_139 rfl (lv_at hl 3 rfl) ?_
                  refine lv_goto (tgt := 145) hx hb dX12_mend_140 (by decide) ?_
                  exact rw_i hC rfl hP hD hS (⟨by rw [if_neg (by rw [c_1]; decide), if_neg (by rw [c_2]; decide), if_neg c_3, hcr]; exact ⟨_, rfl, Or.inl ⟨rfl, by rw [(cntB_end (B := mendB (N 5) (F 6) r) (n := N 5) hM5 (fun j hj => by unfold mendB; rw [decide_eq_false (p := j / 4 < N 5) (by omega)]; simp)), show p1 = N 5 by omega]⟩⟩, ⟨_, _, _, _, _, rfl, hsc2, hTB2, by omega⟩⟩) dX12_mend_145 (Nat.le_of_ble_eq_true rfl) (Nat.le_of_ble_eq_true rfl)
              · -- f 43
                refine lv_iconst (v := nI 0) hx hb dX12_mend_43 (by decide) ?_
                refine lv_istore (lv' := [(5, .int (nI 0)), (0, .ref (ad 0)), (1, .int (nI r)), (2, .int (-1)), (3, .int (nI (cntB (mendB (N 5) (F 6) r) (4 * p1)))), (4, .int (nI p1))]) hx hb dX12_mend_44 hl (by decide) rfl (fun ls hl => ?_)
                have lp_7 : ∀ (n_lp_7 : Nat) (q1 : Nat) (lk3 : Nat) (N3 : Nat → Nat) (X3 : Nat → Nat → Int32) (F3 G3 : Nat → Nat → Nat) (hq1 : q1 ≤ N 5) (hsc3 : SC N N3 X X3 F F3) (hTB3 : TB N3 F3) (h173 : N3 17 ≤ N 17 + (4 * p1 + q1)), N 5 - q1 < n_lp_7 → ∀ (H : Heap) (locs : List Loc) (hP : va_P E.1 vwCl (mW E ad lk3 tr N3 X3 F3 G3) H) (hD : va_D A (mW E ad lk3 tr N3 X3 F3 G3)) (hS : va_S A s.heap H locs) (ls : Array Slot), lv_has ls 6 [(0, .ref (ad 0)), (1, .int (nI r)), (2, .int (-1)), (3, .int (nI (cntB (mendB (N 5) (F 6) r) (4 * p1 + q1)))), (4, .int (nI p1)), (5, .int (nI q1))] → W p l e rm_X12_mend s m args below meth c H locs 0 0 (MQ below (wr_Q E A (fun v w1 => (if isIn (nI r) (nI 0) (nI 3) = false then v = some (.int (-1)) else if isIn (-1 : Int32) (-1) (nI 11) = false then v = some (.int (-1)) else if N 5 = 0 then v = some (.int (-3)) else ∃ x, v = some (.int x) ∧ pickR (mendB (N 5) (F 6) (nI r).toNatClampNeg) (-1 : Int32) x) ∧ QP E ad tr N X F 64 w1)) args s 0 0 A) (F0 m 46 ls []) := by
                  intro n_lp_7
                  induction n_lp_7 with
                  | zero => intro q1 lk3 N3 X3 F3 G3 hq1 hsc3 hTB3 h173; intro hm_lp_7; exact absurd hm_lp_7 (Nat.not_lt_zero _)
                  | succ n_lp_7 ih_lp_7 =>
                    intro q1 lk3 N3 X3 F3 G3 hq1 hsc3 hTB3 h173 hm_lp_7 H locs hP hD hS ls hl
                    obtain ⟨e03, e53, e93, ex23, ex43, ef33, e63, e103, e113⟩ := id hsc3
                    have hcb := cntB_le (mendB (N 5) (F 6) r) (4 * p1 + q1)
                    have hb0 := hMn p1
                    rw [← e63] at hb0
                    refine lv_iload hx hb dX12_mend_46 (lv_at hl 5 rfl) ?_
                    refine lv_aload_n hx hb dX12_mend_48 rfl (lv_at hl 0 rfl) ?_
                    refine va_get (D := E.1) (ci := 10) (v := .int (nI (N3 5))) (C := RX12) (T := TX12) (N := 30) hx hb hts iX12 hown hK hP 0 rfl rfl 5 (by decide) (hts _ kw_744) (fun _ h9 => h9) rfl dX12_mend_49 ?_
                    refine n_icmp_ge (tgt := 128) hx hb (by omega) (by omega) dX12_mend_52 (by decide) (fun c_8 => ?_) (fun c_8 => ?_)
                    · -- t 128
                      refine lv_iinc (v := nI (p1 + 1)) (lv' := [(4, .int (nI (p1 + 1))), (0, .ref (ad 0)), (1, .int (nI r)), (2, .int (-1)), (3, .int (nI (cntB (mendB (N 5) (F 6) r) (4 * p1 + q1)))), (5, .int (nI q1))]) hx hb dX12_mend_128 hl (k := 4) rfl (ii_1 _) (by decide) rfl (fun ls hl => ?_)
                      refine lv_goto (tgt := 34) hx hb dX12_mend_131 (by decide) ?_
                      exact ih_lp_4 (p1 + 1) lk3 N3 X3 F3 G3 (by omega) hsc3 hTB3 (by omega) (by omega) H locs hP hD hS ls (by have h9 : lv_has ls 6 [(0, .ref (ad 0)), (1, .int (nI r)), (2, .int (-1)), (3, .int (nI (cntB (mendB (N 5) (F 6) r) (4 * p1 + q1)))), (4, .int (nI (p1 + 1)))] := lv_sub hl [1, 2, 3, 4, 0] rfl; rw [(cntB_row (B := mendB (N 5) (F 6) r) (p := p1) (n := N 5) hM5 (fun q h1 h2 => by unfold mendB; rw [(dm4 (p := p1) (q := q) h2).1, (dm4 (p := p1) (q := q) h2).2, decide_eq_false (p := q < N 5) (by omega)]; simp))]; rw [show q1 = N 5 by omega] at h9; exact h9)
                    · -- f 55
                      refine lv_iload hx hb dX12_mend_55 (lv_at hl 4 rfl) ?_
                      refine lv_iload hx hb dX12_mend_57 (lv_at hl 5 rfl) ?_
                      refine n_icmp_eq (tgt := 122) hx hb (by omega) (by omega) dX12_mend_59 (by decide) (fun c_9 => ?_) (fun c_9 => ?_)
                      · -- t 122
                        have hB : mendB (N 5) (F 6) r (4 * p1 + q1) = false := by
                          unfold mendB; rw [(dm4 (p := p1) (q := q1) (by omega)).1, (dm4 (p := p1) (q := q1) (by omega)).2]; simp [c_9]
                        refine lv_iinc (v := nI (q1 + 1)) (lv' := [(5, .int (nI (q1 + 1))), (0, .ref (ad 0)), (1, .int (nI r)), (2, .int (-1)), (3, .int (nI (cntB (mendB (N 5) (F 6) r) (4 * p1 + q1)))), (4, .int (nI p1))]) hx hb dX12_mend_122 hl (k := 5) rfl (ii_1 _) (by decide) rfl (fun ls hl => ?_)
                        refine lv_goto (tgt := 46) hx hb dX12_mend_125 (by decide) ?_
                        exact ih_lp_7 (q1 + 1) lk3 N3 X3 F3 G3 (by omega) hsc3 hTB3 (by omega) (by omega) H locs hP hD hS ls (by have h9 : lv_has ls 6 [(0, .ref (ad 0)), (1, .int (nI r)), (2, .int (-1)), (3, .int (nI (cntB (mendB (N 5) (F 6) r) (4 * p1 + q1)))), (4, .int (nI p1)), (5, .int (nI (q1 + 1)))] := lv_sub hl [1, 2, 3, 4, 5, 0] rfl; rw [show 4 * p1 + (q1 + 1) = 4 * p1 + q1 + 1 from rfl, cntB_f hB]; exact h9)
                      · -- f 62
                        refine lv_aload_n hx hb dX12_mend_62 rfl (lv_at hl 0 rfl) ?_
                        refine va_get (D := E.1) (ci := 10) (v := .ref (ad 6)) (C := RX12) (T := TX12) (N := 30) hx hb hts iX12 hown hK hP 0 rfl rfl 6 (by decide) (hts _ kw_745) (fun _ h9 => h9) rfl dX12_mend_63 ?_
                        refine lv_iload hx hb dX12_mend_66 (lv_at hl 4 rfl) ?_
                        refine n_iald hx hb hK hP 4 rfl (by omega) (by decide) dX12_mend_68 ?_
                        refine lv_iload hx hb dX12_mend_69 (lv_at hl 5 rfl) ?_
                        refine cS_p (rest := []) hC (c_m_has l ((F3 6) p1) q1 (by omega) (by omega)) kw_851 sy_X12_has ⟨Nat.le_of_ble_eq_true rfl, Nat.le_of_ble_eq_true rfl⟩ ⟨rfl, rfl⟩ rfl hl.1 rfl (Nat.le_of_ble_eq_true rfl) dX12_mend_71 ⟨Nat.le_of_ble_eq_true rfl, Nat.le_of_ble_eq_true rfl⟩ ?_
                        refine b_if_eq (tgt := 80) hx hb dX12_mend_74 (by decide) (fun c_10 => ?_) (fun c_10 => ?_)
                        · -- t 80
                          rw [e63] at c_10
                          refine lv_aload_n hx hb dX12_mend_80 rfl (lv_at hl 0 rfl) ?_
                          refine lv_iload hx hb dX12_mend_81 (lv_at hl 4 rfl) ?_
                          refine lv_iload hx hb dX12_mend_83 (lv_at hl 5 rfl) ?_
                          refine cV_w0 (rest := []) hC (c_m_layOther l E ad lk3 tr N3 X3 F3 G3 H.size p1 q1 (by omega) (by omega)) kw_1020 iy_X12_layOther ⟨Nat.le_of_ble_eq_true rfl, Nat.le_of_ble_eq_true rfl⟩ ⟨rfl, rfl⟩ hK hP hD hS hA (va_recv hK hP (ci := 10) (q0 := 0) rfl rfl) rfl hl.1 rfl (Nat.le_of_ble_eq_true rfl) dX12_mend_85 ⟨Nat.le_of_ble_eq_true rfl, Nat.le_of_ble_eq_true rfl⟩ (fun v_ w_ H locs hpost hP hD hS => ?_)
                          obtain ⟨rfl, rfl⟩ := hpost
                          refine W.eq (g2 := F0 m 88 ls []) rfl ?_
                          refine lv_aload_n hx hb dX12_mend_88 rfl (lv_at hl 0 rfl) ?_
                          refine lv_aload_n hx hb dX12_mend_89 rfl (lv_at hl 0 rfl) ?_
                          refine va_get (D := E.1) (ci := 10) (v := .ref (ad 28)) (C := RX12) (T := TX12) (N := 30) hx hb hts iX12 hown hK hP 0 rfl rfl 28 (by decide) (hts _ kw_767) (fun _ h9 => h9) rfl dX12_mend_90 ?_
                          refine lv_aload_n hx hb dX12_mend_93 rfl (lv_at hl 0 rfl) ?_
                          refine va_get (D := E.1) (ci := 10) (v := .int (nI (N3 5))) (C := RX12) (T := TX12) (N := 30) hx hb hts iX12 hown hK hP 0 rfl rfl 5 (by decide) (hts _ kw_744) (fun _ h9 => h9) rfl dX12_mend_94 ?_
                          refine lv_iload_n hx hb dX12_mend_97 rfl (lv_at hl 1 rfl) ?_
                          refine cV_w0 (rest := []) hC (c_m_verdictFrom l E ad lk3 tr N3 X3 (va_up F3 28 (flip (F3 6) p1 q1)) G3 H.size ⟨hTB3.1, fun j => flip_lt (fun i => by rw [e63]; exact hMn i) (by omega) j⟩ (by omega) (N3 5) r (by omega) (by omega)) kw_1032 iy_X12_verdictFrom ⟨Nat.le_of_ble_eq_true rfl, Nat.le_of_ble_eq_true rfl⟩ ⟨rfl, rfl⟩ hK hP hD hS hA (va_recv hK hP (ci := 10) (q0 := 0) rfl rfl) rfl hl.1 rfl (Nat.le_of_ble_eq_true rfl) dX12_mend_98 ⟨Nat.le_of_ble_eq_true rfl, Nat.le_of_ble_eq_true rfl⟩ (fun v_ w_ H locs hpost hP hD hS => ?_)
                          obtain ⟨rfl, X5, F5, G5, rfl, hle5, hf1, hf2, hf3⟩ := hpost
                          have hvl := verd_le (CN (N3 5) (flip (F3 6) p1 q1) r (startN (N3 5)) (1 <<< N3 5 - 1))
                          refine W.eq (g2 := F0 m 101 ls [.int (nI (verd (CN (N3 5) (flip (F3 6) p1 q1) r (startN (N3 5)) (1 <<< N3 5 - 1))))]) rfl ?_
                          refine lv_iconst (v := nI 2) hx hb dX12_mend_101 (by decide) ?_
                          refine n_icmp_ne (tgt := 122) hx hb (by omega) (by omega) dX12_mend_102 (by decide) (fun c_11 => ?_) (fun c_11 => ?_)
                          · -- t 122
                            rw [e53, e63] at c_11
                            have hB : mendB (N 5) (F 6) r (4 * p1 + q1) = false := by
                              unfold mendB; rw [(dm4 (p := p1) (q := q1) (by omega)).1, (dm4 (p := p1) (q := q1) (by omega)).2]; simp [c_11]
                            refine lv_iinc (v := nI (q1 + 1)) (lv' := [(5, .int (nI (q1 + 1))), (0, .ref (ad 0)), (1, .int (nI r)), (2, .int (-1)), (3, .int (nI (cntB (mendB (N 5) (F 6) r) (4 * p1 + q1)))), (4, .int (nI p1))]) hx hb dX12_mend_122 hl (k := 5) rfl (ii_1 _) (by decide) rfl (fun ls hl => ?_)
                            refine lv_goto (tgt := 46) hx hb dX12_mend_125 (by decide) ?_
                            exact ih_lp_7 (q1 + 1) (ad 28) (va_up (va_up (va_up N3 17 (N3 17 + 1)) 22 (N3 5)) 23 r) X5 F5 G5 (by omega) (hsc3.tr (SC_fr (N2 := va_up (va_up (va_up N3 17 (N3 17 + 1)) 22 (N3 5)) 23 r) (F := va_up F3 28 (flip (F3 6) p1 q1)) ⟨rfl, rfl, rfl⟩ hf1 hf2)) (⟨hle5, fun j => by rw [hf1 28 (by decide) (by decide) (by decide) (by decide) (by decide)]; exact flip_lt (fun i => by rw [e63]; exact hMn i) (by omega) j⟩) (by show N3 17 + 1 ≤ _; omega) (by omega) H locs hP hD hS ls (by have h9 : lv_has ls 6 [(0, .ref (ad 0)), (1, .int (nI r)), (2, .int (-1)), (3, .int (nI (cntB (mendB (N 5) (F 6) r) (4 * p1 + q1)))), (4, .int (nI p1)), (5, .int (nI (q1 + 1)))] := lv_sub hl [1, 2, 3, 4, 5, 0] rfl; rw [show 4 * p1 + (q1 + 1) = 4 * p1 + q1 + 1 from rfl, cntB_f hB]; exact h9)
                          · -- f 105
                            rw [e53, e63] at c_11
                            have hB : mendB (N 5) (F 6) r (4 * p1 + q1) = true := by
                              unfold mendB; rw [(dm4 (p := p1) (q := q1) (by omega)).1, (dm4 (p := p1) (q := q1) (by omega)).2]; simp [c_11, c_10, c_9]; omega
                            refine lv_iload_n hx hb dX12_mend_105 rfl (lv_at hl 3 rfl) ?_
                            refine lv_iload_n hx hb dX12_mend_106 rfl (lv_at hl 2 rfl) ?_
                            refine lv_icmp_ne (tgt := 119) hx hb dX12_mend_107 (by decide) (fun c_12 => ?_) (fun c_12 => ?_)
                            · -- t 119
                              refine lv_iinc (v := nI ((cntB (mendB (N 5) (F 6) r) (4 * p1 + q1)) + 1)) (lv' := [(3, .int (nI ((cntB (mendB (N 5) (F 6) r) (4 * p1 + q1)) + 1))), (0, .ref (ad 0)), (1, .int (nI r)), (2, .int (-1)), (4, .int (nI p1)), (5, .int (nI q1))]) hx hb dX12_mend_119 hl (k := 3) rfl (ii_1 _) (by decide) rfl (fun ls hl => ?_)
                              refine lv_iinc (v := nI (q1 + 1)) (lv' := [(5, .int (nI (q1 + 1))), (3, .int (nI ((cntB (mendB (N 5) (F 6) r) (4 * p1 + q1)) + 1))), (0, .ref (ad 0)), (1, .int (nI r)), (2, .int (-1)), (4, .int (nI p1))]) hx hb dX12_mend_122 hl (k := 5) rfl (ii_1 _) (by decide) rfl (fun ls hl => ?_)
                              refine lv_goto (tgt := 46) hx hb dX12_mend_125 (by decide) ?_
                              exact ih_lp_7 (q1 + 1) (ad 28) (va_up (va_up (va_up N3 17 (N3 17 + 1)) 22 (N3 5)) 23 r) X5 F5 G5 (by omega) (hsc3.tr (SC_fr (N2 := va_up (va_up (va_up N3 17 (N3 17 + 1)) 22 (N3 5)) 23 r) (F := va_up F3 28 (flip (F3 6) p1 q1)) ⟨rfl, rfl, rfl⟩ hf1 hf2)) (⟨hle5, fun j => by rw [hf1 28 (by decide) (by decide) (by decide) (by decide) (by decide)]; exact flip_lt (fun i => by rw [e63]; exact hMn i) (by omega) j⟩) (by show N3 17 + 1 ≤ _; omega) (by omega) H locs hP hD hS ls (by have h9 : lv_has ls 6 [(0, .ref (ad 0)), (1, .int (nI r)), (2, .int (-1)), (3, .int (nI ((cntB (mendB (N 5) (F 6) r) (4 * p1 + q1)) + 1))), (4, .int (nI p1)), (5, .int (nI (q1 + 1)))] := lv_sub hl [2, 3, 4, 1, 5, 0] rfl; rw [show 4 * p1 + (q1 + 1) = 4 * p1 + q1 + 1 from rfl, cntB_t hB]; exact h9)
                            · -- f 110
                              exact absurd c_12 (nI_m1 (by omega))
                        · -- f 77
                          rw [e63] at c_10
                          have hB : mendB (N 5) (F 6) r (4 * p1 + q1) = false := by
                            unfold mendB; rw [(dm4 (p := p1) (q := q1) (by omega)).1, (dm4 (p := p1) (q := q1) (by omega)).2]; simp [c_10]
                          refine lv_goto (tgt := 122) hx hb dX12_mend_77 (by decide) ?_
                          refine lv_iinc (v := nI (q1 + 1)) (lv' := [(5, .int (nI (q1 + 1))), (0, .ref (ad 0)), (1, .int (nI r)), (2, .int (-1)), (3, .int (nI (cntB (mendB (N 5) (F 6) r) (4 * p1 + q1)))), (4, .int (nI p1))]) hx hb dX12_mend_122 hl (k := 5) rfl (ii_1 _) (by decide) rfl (fun ls hl => ?_)
                          refine lv_goto (tgt := 46) hx hb dX12_mend_125 (by decide) ?_
                          exact ih_lp_7 (q1 + 1) lk3 N3 X3 F3 G3 (by omega) hsc3 hTB3 (by omega) (by omega) H locs hP hD hS ls (by have h9 : lv_has ls 6 [(0, .ref (ad 0)), (1, .int (nI r)), (2, .int (-1)), (3, .int (nI (cntB (mendB (N 5) (F 6) r) (4 * p1 + q1)))), (4, .int (nI p1)), (5, .int (nI (q1 + 1)))] := lv_sub hl [1, 2, 3, 4, 5, 0] rfl; rw [show 4 * p1 + (q1 + 1) = 4 * p1 + q1 + 1 from rfl, cntB_f hB]; exact h9)
                exact lp_7 _ 0 lk2 N2 X2 F2 G2 (by omega) hsc2 hTB2 (by omega) (Nat.lt_succ_self _) H locs hP hD hS ls (lv_sub hl [1, 2, 3, 4, 5, 0] rfl)
          exact lp_4 _ 0 lk N X F G (by omega) SC.rf hT (by omega) (Nat.lt_succ_self _) H locs hP hD hS ls (lv_sub hl [2, 3, 4, 1, 0] rfl)
        · -- f 26
          refine lv_bipush (v := -3) hx hb dX12_mend_26 (by decide) ?_
          exact rw_i hC rfl hP hD hS (⟨by rw [if_neg (by rw [c_1]; decide), if_neg (by rw [c_2]; decide), if_pos c_3], QP.rf hT⟩) dX12_mend_28 (Nat.le_of_ble_eq_true rfl) (Nat.le_of_ble_eq_true rfl)
      ·
        have hl : lv_has ls 6 [(0, .ref (ad 0)), (1, .int (nI r)), (2, .int (nI kk))] := hl
        refine lv_aload_n hx hb dX12_mend_19 rfl (lv_at hl 0 rfl) ?_
        refine va_get (D := E.1) (ci := 10) (v := .int (nI (N 5))) (C := RX12) (T := TX12) (N := 30) hx hb hts iX12 hown hK hP 0 rfl rfl 5 (by decide) (hts _ kw_744) (fun _ h9 => h9) rfl dX12_mend_20 ?_
        refine n_if_ne (tgt := 29) hx hb (by omega) dX12_mend_23 (by decide) (fun c_13 => ?_) (fun c_13 => ?_)
        · -- t 29
          refine lv_iconst (v := nI 0) hx hb dX12_mend_29 (by decide) ?_
          refine lv_istore_n (lv' := [(3, .int (nI 0)), (0, .ref (ad 0)), (1, .int (nI r)), (2, .int (nI kk))]) hx hb dX12_mend_30 rfl hl (by decide) rfl (fun ls hl => ?_)
          refine lv_iconst (v := nI 0) hx hb dX12_mend_31 (by decide) ?_
          refine lv_istore (lv' := [(4, .int (nI 0)), (3, .int (nI 0)), (0, .ref (ad 0)), (1, .int (nI r)), (2, .int (nI kk))]) hx hb dX12_mend_32 hl (by decide) rfl (fun ls hl => ?_)
          have lp_14 : ∀ (n_lp_14 : Nat) (p1 : Nat) (lk2 : Nat) (N2 : Nat → Nat) (X2 : Nat → Nat → Int32) (F2 G2 : Nat → Nat → Nat) (hp1 : p1 ≤ N 5) (hsc2 : SC N N2 X X2 F F2) (hTB2 : TB N2 F2) (h172 : N2 17 ≤ N 17 + (4 * p1)) (hno : cntB (mendB (N 5) (F 6) r) (4 * p1) ≤ kk), N 5 - p1 < n_lp_14 → ∀ (H : Heap) (locs : List Loc) (hP : va_P E.1 vwCl (mW E ad lk2 tr N2 X2 F2 G2) H) (hD : va_D A (mW E ad lk2 tr N2 X2 F2 G2)) (hS : va_S A s.heap H locs) (ls : Array Slot), lv_has ls 6 [(0, .ref (ad 0)), (1, .int (nI r)), (2, .int (nI kk)), (3, .int (nI (cntB (mendB (N 5) (F 6) r) (4 * p1)))), (4, .int (nI p1))] → W p l e rm_X12_mend s m args below meth c H locs 0 0 (MQ below (wr_Q E A (fun v w1 => (if isIn (nI r) (nI 0) (nI 3) = false then v = some (.int (-1)) else if isIn (nI kk) (-1) (nI 11) = false then v = some (.int (-1)) else if N 5 = 0 then v = some (.int (-3)) else ∃ x, v = some (.int x) ∧ pickR (mendB (N 5) (F 6) (nI r).toNatClampNeg) (nI kk) x) ∧ QP E ad tr N X F 64 w1)) args s 0 0 A) (F0 m 34 ls []) := by
            intro n_lp_14
            induction n_lp_14 with
            | zero => intro p1 lk2 N2 X2 F2 G2 hp1 hsc2 hTB2 h172 hno; intro hm_lp_14; exact absurd hm_lp_14 (Nat.not_lt_zero _)
            | succ n_lp_14 ih_lp_14 =>
              intro p1 lk2 N2 X2 F2 G2 hp1 hsc2 hTB2 h172 hno hm_lp_14 H locs hP hD hS ls hl
              obtain ⟨e02, e52, e92, ex22, ex42, ef32, e62, e102, e112⟩ := id hsc2
              refine lv_iload hx hb dX12_mend_34 (lv_at hl 4 rfl) ?_
              refine lv_aload_n hx hb dX12_mend_36 rfl (lv_at hl 0 rfl) ?_
              refine va_get (D := E.1) (ci := 10) (v := .int (nI (N2 5))) (C := RX12) (T := TX12) (N := 30) hx hb hts iX12 hown hK hP 0 rfl rfl 5 (by decide) (hts _ kw_744) (fun _ h9 => h9) rfl dX12_mend_37 ?_
              refine n_icmp_ge (tgt := 134) hx hb (by omega) (by omega) dX12_mend_40 (by decide) (fun c_15 => ?_) (fun c_15 => ?_)
              · -- t 134
                refine lv_iload_n hx hb dX12_mend_134 rfl (lv_at hl 2 rfl) ?_
                refine lv_iconst (v := -1) hx hb dX12_mend_135 (by decide) ?_
                refine lv_icmp_ne (tgt := 143) hx hb dX12_mend_136 (by decide) (fun c_16 => ?_) (fun c_16 => ?_)
                · -- t 143
                  refine lv_bipush (v := -9) hx hb dX12_mend_143 (by decide) ?_
                  exact rw_i hC rfl hP hD hS (⟨by rw [if_neg (by rw [c_1]; decide), if_neg (by rw [c_2]; decide), if_neg c_13, hcr]; exact ⟨_, rfl, Or.inr ⟨kk, hkk, rfl, Or.inr ⟨by rw [(cntB_end (B := mendB (N 5) (F 6) r) (n := N 5) hM5 (fun j hj => by unfold mendB; rw [decide_eq_false (p := j / 4 < N 5) (by omega)]; simp))]; rw [show p1 = N 5 by omega] at hno; exact hno, rfl⟩⟩⟩, ⟨_, _, _, _, _, rfl, hsc2, hTB2, by omega⟩⟩) dX12_mend_145 (Nat.le_of_ble_eq_true rfl) (Nat.le_of_ble_eq_true rfl)
                · -- f 139
                  exact absurd c_16 (nI_m1 (by omega))
              · -- f 43
                refine lv_iconst (v := nI 0) hx hb dX12_mend_43 (by decide) ?_
                refine lv_istore (lv' := [(5, .int (nI 0)), (0, .ref (ad 0)), (1, .int (nI r)), (2, .int (nI kk)), (3, .int (nI (cntB (mendB (N 5) (F 6) r) (4 * p1)))), (4, .int (nI p1))]) hx hb dX12_mend_44 hl (by decide) rfl (fun ls hl => ?_)
                have lp_17 : ∀ (n_lp_17 : Nat) (q1 : Nat) (lk3 : Nat) (N3 : Nat → Nat) (X3 : Nat → Nat → Int32) (F3 G3 : Nat → Nat → Nat) (hq1 : q1 ≤ N 5) (hsc3 : SC N N3 X X3 F F3) (hTB3 : TB N3 F3) (h173 : N3 17 ≤ N 17 + (4 * p1 + q1)) (hno : cntB (mendB (N 5) (F 6) r) (4 * p1 + q1) ≤ kk), N 5 - q1 < n_lp_17 → ∀ (H : Heap) (locs : List Loc) (hP : va_P E.1 vwCl (mW E ad lk3 tr N3 X3 F3 G3) H) (hD : va_D A (mW E ad lk3 tr N3 X3 F3 G3)) (hS : va_S A s.heap H locs) (ls : Array Slot), lv_has ls 6 [(0, .ref (ad 0)), (1, .int (nI r)), (2, .int (nI kk)), (3, .int (nI (cntB (mendB (N 5) (F 6) r) (4 * p1 + q1)))), (4, .int (nI p1)), (5, .int (nI q1))] → W p l e rm_X12_mend s m args below meth c H locs 0 0 (MQ below (wr_Q E A (fun v w1 => (if isIn (nI r) (nI 0) (nI 3) = false then v = some (.int (-1)) else if isIn (nI kk) (-1) (nI 11) = false then v = some (.int (-1)) else if N 5 = 0 then v = some (.int (-3)) else ∃ x, v = some (.int x) ∧ pickR (mendB (N 5) (F 6) (nI r).toNatClampNeg) (nI kk) x) ∧ QP E ad tr N X F 64 w1)) args s 0 0 A) (F0 m 46 ls []) := by
                  intro n_lp_17
                  induction n_lp_17 with
                  | zero => intro q1 lk3 N3 X3 F3 G3 hq1 hsc3 hTB3 h173 hno; intro hm_lp_17; exact absurd hm_lp_17 (Nat.not_lt_zero _)
                  | succ n_lp_17 ih_lp_17 =>
                    intro q1 lk3 N3 X3 F3 G3 hq1 hsc3 hTB3 h173 hno hm_lp_17 H locs hP hD hS ls hl
                    obtain ⟨e03, e53, e93, ex23, ex43, ef33, e63, e103, e113⟩ := id hsc3
                    have hcb := cntB_le (mendB (N 5) (F 6) r) (4 * p1 + q1)
                    have hb0 := hMn p1
                    rw [← e63] at hb0
                    refine lv_iload hx hb dX12_mend_46 (lv_at hl 5 rfl) ?_
                    refine lv_aload_n hx hb dX12_mend_48 rfl (lv_at hl 0 rfl) ?_
                    refine va_get (D := E.1) (ci := 10) (v := .int (nI (N3 5))) (C := RX12) (T := TX12) (N := 30) hx hb hts iX12 hown hK hP 0 rfl rfl 5 (by decide) (hts _ kw_744) (fun _ h9 => h9) rfl dX12_mend_49 ?_
                    refine n_icmp_ge (tgt := 128) hx hb (by omega) (by omega) dX12_mend_52 (by decide) (fun c_18 => ?_) (fun c_18 => ?_)
                    · -- t 128
                      refine lv_iinc (v := nI (p1 + 1)) (lv' := [(4, .int (nI (p1 + 1))), (0, .ref (ad 0)), (1, .int (nI r)), (2, .int (nI kk)), (3, .int (nI (cntB (mendB (N 5) (F 6) r) (4 * p1 + q1)))), (5, .int (nI q1))]) hx hb dX12_mend_128 hl (k := 4) rfl (ii_1 _) (by decide) rfl (fun ls hl => ?_)
                      refine lv_goto (tgt := 34) hx hb dX12_mend_131 (by decide) ?_
                      exact ih_lp_14 (p1 + 1) lk3 N3 X3 F3 G3 (by omega) hsc3 hTB3 (by omega) (by rw [(cntB_row (B := mendB (N 5) (F 6) r) (p := p1) (n := N 5) hM5 (fun q h1 h2 => by unfold mendB; rw [(dm4 (p := p1) (q := q) h2).1, (dm4 (p := p1) (q := q) h2).2, decide_eq_false (p := q < N 5) (by omega)]; simp))]; rw [show q1 = N 5 by omega] at hno; exact hno) (by omega) H locs hP hD hS ls (by have h9 : lv_has ls 6 [(0, .ref (ad 0)), (1, .int (nI r)), (2, .int (nI kk)), (3, .int (nI (cntB (mendB (N 5) (F 6) r) (4 * p1 + q1)))), (4, .int (nI (p1 + 1)))] := lv_sub hl [1, 2, 3, 4, 0] rfl; rw [(cntB_row (B := mendB (N 5) (F 6) r) (p := p1) (n := N 5) hM5 (fun q h1 h2 => by unfold mendB; rw [(dm4 (p := p1) (q := q) h2).1, (dm4 (p := p1) (q := q) h2).2, decide_eq_false (p := q < N 5) (by omega)]; simp))]; rw [show q1 = N 5 by omega] at h9; exact h9)
                    · -- f 55
                      refine lv_iload hx hb dX12_mend_55 (lv_at hl 4 rfl) ?_
                      refine lv_iload hx hb dX12_mend_57 (lv_at hl 5 rfl) ?_
                      refine n_icmp_eq (tgt := 122) hx hb (by omega) (by omega) dX12_mend_59 (by decide) (fun c_19 => ?_) (fun c_19 => ?_)
                      · -- t 122
                        have hB : mendB (N 5) (F 6) r (4 * p1 + q1) = false := by
                          unfold mendB; rw [(dm4 (p := p1) (q := q1) (by omega)).1, (dm4 (p := p1) (q := q1) (by omega)).2]; simp [c_19]
                        refine lv_iinc (v := nI (q1 + 1)) (lv' := [(5, .int (nI (q1 + 1))), (0, .ref (ad 0)), (1, .int (nI r)), (2, .int (nI kk)), (3, .int (nI (cntB (mendB (N 5) (F 6) r) (4 * p1 + q1)))), (4, .int (nI p1))]) hx hb dX12_mend_122 hl (k := 5) rfl (ii_1 _) (by decide) rfl (fun ls hl => ?_)
                        refine lv_goto (tgt := 46) hx hb dX12_mend_125 (by decide) ?_
                        exact ih_lp_17 (q1 + 1) lk3 N3 X3 F3 G3 (by omega) hsc3 hTB3 (by omega) (by rw [show 4 * p1 + (q1 + 1) = 4 * p1 + q1 + 1 from rfl, cntB_f hB]; omega) (by omega) H locs hP hD hS ls (by have h9 : lv_has ls 6 [(0, .ref (ad 0)), (1, .int (nI r)), (2, .int (nI kk)), (3, .int (nI (cntB (mendB (N 5) (F 6) r) (4 * p1 + q1)))), (4, .int (nI p1)), (5, .int (nI (q1 + 1)))] := lv_sub hl [1, 2, 3, 4, 5, 0] rfl; rw [show 4 * p1 + (q1 + 1) = 4 * p1 + q1 + 1 from rfl, cntB_f hB]; exact h9)
                      · -- f 62
                        refine lv_aload_n hx hb dX12_mend_62 rfl (lv_at hl 0 rfl) ?_
                        refine va_get (D := E.1) (ci := 10) (v := .ref (ad 6)) (C := RX12) (T := TX12) (N := 30) hx hb hts iX12 hown hK hP 0 rfl rfl 6 (by decide) (hts _ kw_745) (fun _ h9 => h9) rfl dX12_mend_63 ?_
                        refine lv_iload hx hb dX12_mend_66 (lv_at hl 4 rfl) ?_
                        refine n_iald hx hb hK hP 4 rfl (by omega) (by decide) dX12_mend_68 ?_
                        refine lv_iload hx hb dX12_mend_69 (lv_at hl 5 rfl) ?_
                        refine cS_p (rest := []) hC (c_m_has l ((F3 6) p1) q1 (by omega) (by omega)) kw_851 sy_X12_has ⟨Nat.le_of_ble_eq_true rfl, Nat.le_of_ble_eq_true rfl⟩ ⟨rfl, rfl⟩ rfl hl.1 rfl (Nat.le_of_ble_eq_true rfl) dX12_mend_71 ⟨Nat.le_of_ble_eq_true rfl, Nat.le_of_ble_eq_true rfl⟩ ?_
                        refine b_if_eq (tgt := 80) hx hb dX12_mend_74 (by decide) (fun c_20 => ?_) (fun c_20 => ?_)
                        · -- t 80
                          rw [e63] at c_20
                          refine lv_aload_n hx hb dX12_mend_80 rfl (lv_at hl 0 rfl) ?_
                          refine lv_iload hx hb dX12_mend_81 (lv_at hl 4 rfl) ?_
                          refine lv_iload hx hb dX12_mend_83 (lv_at hl 5 rfl) ?_
                          refine cV_w0 (rest := []) hC (c_m_layOther l E ad lk3 tr N3 X3 F3 G3 H.size p1 q1 (by omega) (by omega)) kw_1020 iy_X12_layOther ⟨Nat.le_of_ble_eq_true rfl, Nat.le_of_ble_eq_true rfl⟩ ⟨rfl, rfl⟩ hK hP hD hS hA (va_recv hK hP (ci := 10) (q0 := 0) rfl rfl) rfl hl.1 rfl (Nat.le_of_ble_eq_true rfl) dX12_mend_85 ⟨Nat.le_of_ble_eq_true rfl, Nat.le_of_ble_eq_true rfl⟩ (fun v_ w_ H locs hpost hP hD hS => ?_)
                          obtain ⟨rfl, rfl⟩ := hpost
                          refine W.eq (g2 := F0 m 88 ls []) rfl ?_
                          refine lv_aload_n hx hb dX12_mend_88 rfl (lv_at hl 0 rfl) ?_
                          refine lv_aload_n hx hb dX12_mend_89 rfl (lv_at hl 0 rfl) ?_
                          refine va_get (D := E.1) (ci := 10) (v := .ref (ad 28)) (C := RX12) (T := TX12) (N := 30) hx hb hts iX12 hown hK hP 0 rfl rfl 28 (by decide) (hts _ kw_767) (fun _ h9 => h9) rfl dX12_mend_90 ?_
                          refine lv_aload_n hx hb dX12_mend_93 rfl (lv_at hl 0 rfl) ?_
                          refine va_get (D := E.1) (ci := 10) (v := .int (nI (N3 5))) (C := RX12) (T := TX12) (N := 30) hx hb hts iX12 hown hK hP 0 rfl rfl 5 (by decide) (hts _ kw_744) (fun _ h9 => h9) rfl dX12_mend_94 ?_
                          refine lv_iload_n hx hb dX12_mend_97 rfl (lv_at hl 1 rfl) ?_
                          refine cV_w0 (rest := []) hC (c_m_verdictFrom l E ad lk3 tr N3 X3 (va_up F3 28 (flip (F3 6) p1 q1)) G3 H.size ⟨hTB3.1, fun j => flip_lt (fun i => by rw [e63]; exact hMn i) (by omega) j⟩ (by omega) (N3 5) r (by omega) (by omega)) kw_1032 iy_X12_verdictFrom ⟨Nat.le_of_ble_eq_true rfl, Nat.le_of_ble_eq_true rfl⟩ ⟨rfl, rfl⟩ hK hP hD hS hA (va_recv hK hP (ci := 10) (q0 := 0) rfl rfl) rfl hl.1 rfl (Nat.le_of_ble_eq_true rfl) dX12_mend_98 ⟨Nat.le_of_ble_eq_true rfl, Nat.le_of_ble_eq_true rfl⟩ (fun v_ w_ H locs hpost hP hD hS => ?_)
                          obtain ⟨rfl, X5, F5, G5, rfl, hle5, hf1, hf2, hf3⟩ := hpost
                          have hvl := verd_le (CN (N3 5) (flip (F3 6) p1 q1) r (startN (N3 5)) (1 <<< N3 5 - 1))
                          refine W.eq (g2 := F0 m 101 ls [.int (nI (verd (CN (N3 5) (flip (F3 6) p1 q1) r (startN (N3 5)) (1 <<< N3 5 - 1))))]) rfl ?_
                          refine lv_iconst (v := nI 2) hx hb dX12_mend_101 (by decide) ?_
                          refine n_icmp_ne (tgt := 122) hx hb (by omega) (by omega) dX12_mend_102 (by decide) (fun c_21 => ?_) (fun c_21 => ?_)
                          · -- t 122
                            rw [e53, e63] at c_21
                            have hB : mendB (N 5) (F 6) r (4 * p1 + q1) = false := by
                              unfold mendB; rw [(dm4 (p := p1) (q := q1) (by omega)).1, (dm4 (p := p1) (q := q1) (by omega)).2]; simp [c_21]
                            refine lv_iinc (v := nI (q1 + 1)) (lv' := [(5, .int (nI (q1 + 1))), (0, .ref (ad 0)), (1, .int (nI r)), (2, .int (nI kk)), (3, .int (nI (cntB (mendB (N 5) (F 6) r) (4 * p1 + q1)))), (4, .int (nI p1))]) hx hb dX12_mend_122 hl (k := 5) rfl (ii_1 _) (by decide) rfl (fun ls hl => ?_)
                            refine lv_goto (tgt := 46) hx hb dX12_mend_125 (by decide) ?_
                            exact ih_lp_17 (q1 + 1) (ad 28) (va_up (va_up (va_up N3 17 (N3 17 + 1)) 22 (N3 5)) 23 r) X5 F5 G5 (by omega) (hsc3.tr (SC_fr (N2 := va_up (va_up (va_up N3 17 (N3 17 + 1)) 22 (N3 5)) 23 r) (F := va_up F3 28 (flip (F3 6) p1 q1)) ⟨rfl, rfl, rfl⟩ hf1 hf2)) (⟨hle5, fun j => by rw [hf1 28 (by decide) (by decide) (by decide) (by decide) (by decide)]; exact flip_lt (fun i => by rw [e63]; exact hMn i) (by omega) j⟩) (by show N3 17 + 1 ≤ _; omega) (by rw [show 4 * p1 + (q1 + 1) = 4 * p1 + q1 + 1 from rfl, cntB_f hB]; omega) (by omega) H locs hP hD hS ls (by have h9 : lv_has ls 6 [(0, .ref (ad 0)), (1, .int (nI r)), (2, .int (nI kk)), (3, .int (nI (cntB (mendB (N 5) (F 6) r) (4 * p1 + q1)))), (4, .int (nI p1)), (5, .int (nI (q1 + 1)))] := lv_sub hl [1, 2, 3, 4, 5, 0] rfl; rw [show 4 * p1 + (q1 + 1) = 4 * p1 + q1 + 1 from rfl, cntB_f hB]; exact h9)
                          · -- f 105
                            rw [e53, e63] at c_21
                            have hB : mendB (N 5) (F 6) r (4 * p1 + q1) = true := by
                              unfold mendB; rw [(dm4 (p := p1) (q := q1) (by omega)).1, (dm4 (p := p1) (q := q1) (by omega)).2]; simp [c_21, c_20, c_19]; omega
                            refine lv_iload_n hx hb dX12_mend_105 rfl (lv_at hl 3 rfl) ?_
                            refine lv_iload_n hx hb dX12_mend_106 rfl (lv_at hl 2 rfl) ?_
                            refine n_icmp_ne (tgt := 119) hx hb (by omega) (by omega) dX12_mend_107 (by decide) (fun c_22 => ?_) (fun c_22 => ?_)
                            · -- t 119
                              refine lv_iinc (v := nI ((cntB (mendB (N 5) (F 6) r) (4 * p1 + q1)) + 1)) (lv' := [(3, .int (nI ((cntB (mendB (N 5) (F 6) r) (4 * p1 + q1)) + 1))), (0, .ref (ad 0)), (1, .int (nI r)), (2, .int (nI kk)), (4, .int (nI p1)), (5, .int (nI q1))]) hx hb dX12_mend_119 hl (k := 3) rfl (ii_1 _) (by decide) rfl (fun ls hl => ?_)
                              refine lv_iinc (v := nI (q1 + 1)) (lv' := [(5, .int (nI (q1 + 1))), (3, .int (nI ((cntB (mendB (N 5) (F 6) r) (4 * p1 + q1)) + 1))), (0, .ref (ad 0)), (1, .int (nI r)), (2, .int (nI kk)), (4, .int (nI p1))]) hx hb dX12_mend_122 hl (k := 5) rfl (ii_1 _) (by decide) rfl (fun ls hl => ?_)
                              refine lv_goto (tgt := 46) hx hb dX12_mend_125 (by decide) ?_
                              exact ih_lp_17 (q1 + 1) (ad 28) (va_up (va_up (va_up N3 17 (N3 17 + 1)) 22 (N3 5)) 23 r) X5 F5 G5 (by omega) (hsc3.tr (SC_fr (N2 := va_up (va_up (va_up N3 17 (N3 17 + 1)) 22 (N3 5)) 23 r) (F := va_up F3 28 (flip (F3 6) p1 q1)) ⟨rfl, rfl, rfl⟩ hf1 hf2)) (⟨hle5, fun j => by rw [hf1 28 (by decide) (by decide) (by decide) (by decide) (by decide)]; exact flip_lt (fun i => by rw [e63]; exact hMn i) (by omega) j⟩) (by show N3 17 + 1 ≤ _; omega) (by rw [show 4 * p1 + (q1 + 1) = 4 * p1 + q1 + 1 from rfl, cntB_t hB]; omega) (by omega) H locs hP hD hS ls (by have h9 : lv_has ls 6 [(0, .ref (ad 0)), (1, .int (nI r)), (2, .int (nI kk)), (3, .int (nI ((cntB (mendB (N 5) (F 6) r) (4 * p1 + q1)) + 1))), (4, .int (nI p1)), (5, .int (nI (q1 + 1)))] := lv_sub hl [2, 3, 4, 1, 5, 0] rfl; rw [show 4 * p1 + (q1 + 1) = 4 * p1 + q1 + 1 from rfl, cntB_t hB]; exact h9)
                            · -- f 110
                              refine lv_bipush (v := nI 10) hx hb dX12_mend_110 (by decide) ?_
                              refine lv_iload hx hb dX12_mend_112 (lv_at hl 4 rfl) ?_
                              refine n_imul hx hb dX12_mend_114 ?_
                              refine lv_iload hx hb dX12_mend_115 (lv_at hl 5 rfl) ?_
                              refine n_iadd hx hb dX12_mend_117 ?_
                              exact rw_i hC rfl hP hD hS (⟨by rw [if_neg (by rw [c_1]; decide), if_neg (by rw [c_2]; decide), if_neg c_13, hcr]; exact ⟨_, rfl, Or.inr ⟨kk, hkk, rfl, Or.inl ⟨4 * p1 + q1, by omega, hB, c_22, by rw [(dm4 (p := p1) (q := q1) (by omega)).1, (dm4 (p := p1) (q := q1) (by omega)).2]⟩⟩⟩, ⟨_, _, _, _, _, rfl, (hsc3.tr (SC_fr (N2 := va_up (va_up (va_up N3 17 (N3 17 + 1)) 22 (N3 5)) 23 r) (F := va_up F3 28 (flip (F3 6) p1 q1)) ⟨rfl, rfl, rfl⟩ hf1 hf2)), ⟨hle5, fun j => by rw [hf1 28 (by decide) (by decide) (by decide) (by decide) (by decide)]; exact flip_lt (fun i => by rw [e63]; exact hMn i) (by omega) j⟩, by show N3 17 + 1 ≤ _; omega⟩⟩) dX12_mend_118 (Nat.le_of_ble_eq_true rfl) (Nat.le_of_ble_eq_true rfl)
                        · -- f 77
                          rw [e63] at c_20
                          have hB : mendB (N 5) (F 6) r (4 * p1 + q1) = false := by
                            unfold mendB; rw [(dm4 (p := p1) (q := q1) (by omega)).1, (dm4 (p := p1) (q := q1) (by omega)).2]; simp [c_20]
                          refine lv_goto (tgt := 122) hx hb dX12_mend_77 (by decide) ?_
                          refine lv_iinc (v := nI (q1 + 1)) (lv' := [(5, .int (nI (q1 + 1))), (0, .ref (ad 0)), (1, .int (nI r)), (2, .int (nI kk)), (3, .int (nI (cntB (mendB (N 5) (F 6) r) (4 * p1 + q1)))), (4, .int (nI p1))]) hx hb dX12_mend_122 hl (k := 5) rfl (ii_1 _) (by decide) rfl (fun ls hl => ?_)
                          refine lv_goto (tgt := 46) hx hb dX12_mend_125 (by decide) ?_
                          exact ih_lp_17 (q1 + 1) lk3 N3 X3 F3 G3 (by omega) hsc3 hTB3 (by omega) (by rw [show 4 * p1 + (q1 + 1) = 4 * p1 + q1 + 1 from rfl, cntB_f hB]; omega) (by omega) H locs hP hD hS ls (by have h9 : lv_has ls 6 [(0, .ref (ad 0)), (1, .int (nI r)), (2, .int (nI kk)), (3, .int (nI (cntB (mendB (N 5) (F 6) r) (4 * p1 + q1)))), (4, .int (nI p1)), (5, .int (nI (q1 + 1)))] := lv_sub hl [1, 2, 3, 4, 5, 0] rfl; rw [show 4 * p1 + (q1 + 1) = 4 * p1 + q1 + 1 from rfl, cntB_f hB]; exact h9)
                exact lp_17 _ 0 lk2 N2 X2 F2 G2 (by omega) hsc2 hTB2 (by omega) hno (Nat.lt_succ_self _) H locs hP hD hS ls (lv_sub hl [1, 2, 3, 4, 5, 0] rfl)
          exact lp_14 _ 0 lk N X F G (by omega) SC.rf hT (by omega) (Nat.zero_le _) (Nat.lt_succ_self _) H locs hP hD hS ls (lv_sub hl [2, 3, 4, 1, 0] rfl)
        · -- f 26
          refine lv_bipush (v := -3) hx hb dX12_mend_26 (by decide) ?_
          exact rw_i hC rfl hP hD hS (⟨by rw [if_neg (by rw [c_1]; decide), if_neg (by rw [c_2]; decide), if_pos c_13], QP.rf hT⟩) dX12_mend_28 (Nat.le_of_ble_eq_true rfl) (Nat.le_of_ble_eq_true rfl)
    · -- f 17
      refine lv_iconst (v := -1) hx hb dX12_mend_17 (by decide) ?_
      exact rw_i hC rfl hP hD hS (⟨by rw [if_neg (by rw [c_1]; decide), if_pos c_2], QP.rf hT⟩) dX12_mend_18 (Nat.le_of_ble_eq_true rfl) (Nat.le_of_ble_eq_true rfl)
