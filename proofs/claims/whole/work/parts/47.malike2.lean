set_option maxHeartbeats 4000000 in
set_option maxRecDepth 100000 in
theorem c_m_sees (l : Launch) (E : EE) (ad : Nat → Nat) (lk : Nat) (tr : Int32) (N : Nat → Nat) (X : Nat → Nat → Int32) (F G : Nat → Nat → Nat) (hM : MOK N F) (pp x0 stx : Nat) (h1 : pp < 4) (h94 : N 9 ≤ 4) (hval : rS (N 5) (F 6) x0 (N 9) = some stx) (hrow : ∀ c, c < N 9 → F 24 c = dgR x0 c / 4 ∧ F 25 c = dgR x0 c % 4) : Rd l yX12_seesAlike cX12_seesAlike 7 (some .boolean) rm_X12_seesAlike E (mW E ad lk tr N X F G) [.ref (ad 0), .int (nI pp)] (some (.int (bI (seeA (N 5) (F 6) (F 10) (F 11) pp x0 (N 9))))) := by
  refine mk_rd (by decide) (Nat.le_of_ble_eq_true rfl) ?_
  intro p e s m args below meth c hC hK hP ls hl
  obtain ⟨hx, hb, hr, hts, hown, hml, hlk, hN⟩ := id hC
  have hl : lv_has ls 7 [(0, .ref (ad 0)), (1, .int (nI pp))] := hl
  obtain ⟨hM5, hM9, hMp, hMq, hMn⟩ := id hM
  have hn : ∀ j, j < 4 → F 6 j < 16 := fun j _ => hMn j
  refine lv_aload_n hx hb dX12_seesAlike_0 rfl (lv_at hl 0 rfl) ?_
  refine lv_aload_n hx hb dX12_seesAlike_1 rfl (lv_at hl 0 rfl) ?_
  refine va_get (D := E.1) (ci := 10) (v := .int (nI (N 5))) (C := RX12) (T := TX12) (N := 30) hx hb hts iX12 hown hK hP 0 rfl rfl 5 (by decide) (hts _ kw_744) (fun _ h9 => h9) rfl dX12_seesAlike_2 ?_
  refine cV_r (rest := []) hC (c_m_startOf l E ad lk tr N X F G (N 5) (by omega)) kw_866 iy_X12_startOf ⟨Nat.le_of_ble_eq_true rfl, Nat.le_of_ble_eq_true rfl⟩ ⟨rfl, rfl⟩ hK hP (va_recv hK hP (ci := 10) (q0 := 0) rfl rfl) rfl hl.1 rfl (Nat.le_of_ble_eq_true rfl) dX12_seesAlike_5 ⟨Nat.le_of_ble_eq_true rfl, Nat.le_of_ble_eq_true rfl⟩ ?_
  have f_1 := startN_lt (N 5)
  refine lv_istore_n (lv' := [(2, .int (nI (startN (N 5)))), (0, .ref (ad 0)), (1, .int (nI pp))]) hx hb dX12_seesAlike_8 rfl hl (by decide) rfl (fun ls hl => ?_)
  refine lv_iload_n hx hb dX12_seesAlike_9 rfl (lv_at hl 0 rfl) ?_
  refine lv_istore_n (lv' := [(3, .int (nI (startN (N 5)))), (2, .int (nI (startN (N 5)))), (0, .ref (ad 0)), (1, .int (nI pp))]) hx hb dX12_seesAlike_10 rfl hl (by decide) rfl (fun ls hl => ?_)
  refine lv_iconst (v := nI 0) hx hb dX12_seesAlike_11 (by decide) ?_
  refine lv_istore (lv' := [(4, .int (nI 0)), (3, .int (nI (startN (N 5)))), (2, .int (nI (startN (N 5)))), (0, .ref (ad 0)), (1, .int (nI pp))]) hx hb dX12_seesAlike_12 hl (by decide) rfl (fun ls hl => ?_)
  have lp_2 : ∀ (n_lp_2 : Nat) (c1 b1 : Nat) (hc1 : c1 ≤ N 9) (hb1 : rS (N 5) (F 6) x0 c1 = some b1) (hsee : ∀ c, c < c1 → seeC (N 5) (F 6) (F 10) (F 11) pp x0 c = true), N 9 - c1 < n_lp_2 → ∀ (ls : Array Slot), lv_has ls 7 [(0, .ref (ad 0)), (1, .int (nI pp)), (2, .int (nI (stS (N 5) (F 10) (F 11) c1))), (3, .int (nI b1)), (4, .int (nI c1))] → W p l e rm_X12_seesAlike s m args below meth c s.heap [] 0 0 (MQ below (pz_Q (some (.int (bI (seeA (N 5) (F 6) (F 10) (F 11) pp x0 (N 9)))))) args s 0 0 pz_F) (F0 m 14 ls []) := by
    intro n_lp_2
    induction n_lp_2 with
    | zero => intro c1 b1 hc1 hb1 hsee; intro hm_lp_2; exact absurd hm_lp_2 (Nat.not_lt_zero _)
    | succ n_lp_2 ih_lp_2 =>
      intro c1 b1 hc1 hb1 hsee hm_lp_2 ls hl
      have hst := stS_lt (n := N 5) hMp hMq c1
      have hcp := hMp c1
      have hcq := hMq c1
      have hb16 := rS_lt hb1
      refine lv_iload hx hb dX12_seesAlike_14 (lv_at hl 4 rfl) ?_
      refine lv_aload_n hx hb dX12_seesAlike_16 rfl (lv_at hl 0 rfl) ?_
      refine va_get (D := E.1) (ci := 10) (v := .int (nI (N 9))) (C := RX12) (T := TX12) (N := 30) hx hb hts iX12 hown hK hP 0 rfl rfl 9 (by decide) (hts _ kw_748) (fun _ h9 => h9) rfl dX12_seesAlike_17 ?_
      refine n_icmp_ge (tgt := 186) hx hb (by omega) (by omega) dX12_seesAlike_20 (by decide) (fun c_3 => ?_) (fun c_3 => ?_)
      · -- t 186
        refine lv_iconst (v := nI 1) hx hb dX12_seesAlike_186 (by decide) ?_
        exact rz_bE hC (by rw [seeA, decide_eq_true (fun c h => hsee c (by omega))]; rfl) dX12_seesAlike_187
      · -- f 23
        obtain ⟨s2, hs2⟩ := rS_pre hval (c1 + 1) (by omega)
        obtain ⟨s0, hs0, hlt9, hse⟩ := rS_back hs2
        have hs0b : s0 = b1 := Option.some.inj (hs0.symm.trans hb1)
        subst hs0b
        have hr4 := hrow c1 (by omega)
        have hd16 := dgR_lt x0 c1
        have hr41 := hr4.1
        have hr42 := hr4.2
        rw [← hr4.1, ← hr4.2] at hse
        refine lv_aload_n hx hb dX12_seesAlike_23 rfl (lv_at hl 0 rfl) ?_
        refine va_get (D := E.1) (ci := 10) (v := .ref (ad 10)) (C := RX12) (T := TX12) (N := 30) hx hb hts iX12 hown hK hP 0 rfl rfl 10 (by decide) (hts _ kw_749) (fun _ h9 => h9) rfl dX12_seesAlike_24 ?_
        refine lv_iload hx hb dX12_seesAlike_27 (lv_at hl 4 rfl) ?_
        refine n_iald hx hb hK hP 6 rfl (by omega) (by decide) dX12_seesAlike_29 ?_
        refine lv_iload_n hx hb dX12_seesAlike_30 rfl (lv_at hl 1 rfl) ?_
        refine n_icmp_eq (tgt := 45) hx hb (by omega) (by omega) dX12_seesAlike_31 (by decide) (fun c_4 => ?_) (fun c_4 => ?_)
        · -- t 45
          refine lv_iconst (v := nI 1) hx hb dX12_seesAlike_45 (by decide) ?_
          refine lv_goto (tgt := 50) hx hb dX12_seesAlike_46 (by decide) ?_
          refine lv_istore (lv' := [(5, .int (nI 1)), (0, .ref (ad 0)), (1, .int (nI pp)), (2, .int (nI (stS (N 5) (F 10) (F 11) c1))), (3, .int (nI s0)), (4, .int (nI c1))]) hx hb dX12_seesAlike_50 hl (by decide) rfl (fun ls hl => ?_)
          refine lv_aload_n hx hb dX12_seesAlike_52 rfl (lv_at hl 1 rfl) ?_
          refine va_get (D := E.1) (ci := 10) (v := .ref (ad 24)) (C := RX12) (T := TX12) (N := 30) hx hb hts iX12 hown hK hP 0 rfl rfl 24 (by decide) (hts _ kw_763) (fun _ h9 => h9) rfl dX12_seesAlike_53 ?_
          refine lv_iload hx hb dX12_seesAlike_56 (lv_at hl 5 rfl) ?_
          refine n_iald hx hb hK hP 16 rfl (by omega) (by decide) dX12_seesAlike_58 ?_
          refine lv_iload_n hx hb dX12_seesAlike_59 rfl (lv_at hl 2 rfl) ?_
          refine n_icmp_eq (tgt := 74) hx hb (by omega) (by omega) dX12_seesAlike_60 (by decide) (fun c_5 => ?_) (fun c_5 => ?_)
          · -- t 74
            refine lv_iconst (v := nI 1) hx hb dX12_seesAlike_74 (by decide) ?_
            refine lv_goto (tgt := 79) hx hb dX12_seesAlike_75 (by decide) ?_
            refine lv_istore (lv' := [(6, .int (nI 1)), (5, .int (nI 1)), (0, .ref (ad 0)), (1, .int (nI pp)), (2, .int (nI (stS (N 5) (F 10) (F 11) c1))), (3, .int (nI s0)), (4, .int (nI c1))]) hx hb dX12_seesAlike_79 hl (by decide) rfl (fun ls hl => ?_)
            refine lv_iload_n hx hb dX12_seesAlike_81 rfl (lv_at hl 4 rfl) ?_
            refine lv_aload_n hx hb dX12_seesAlike_82 rfl (lv_at hl 2 rfl) ?_
            refine va_get (D := E.1) (ci := 10) (v := .ref (ad 10)) (C := RX12) (T := TX12) (N := 30) hx hb hts iX12 hown hK hP 0 rfl rfl 10 (by decide) (hts _ kw_749) (fun _ h9 => h9) rfl dX12_seesAlike_83 ?_
            refine lv_iload hx hb dX12_seesAlike_86 (lv_at hl 6 rfl) ?_
            refine n_iald hx hb hK hP 6 rfl (by omega) (by decide) dX12_seesAlike_88 ?_
            refine lv_aload_n hx hb dX12_seesAlike_89 rfl (lv_at hl 2 rfl) ?_
            refine va_get (D := E.1) (ci := 10) (v := .ref (ad 11)) (C := RX12) (T := TX12) (N := 30) hx hb hts iX12 hown hK hP 0 rfl rfl 11 (by decide) (hts _ kw_750) (fun _ h9 => h9) rfl dX12_seesAlike_90 ?_
            refine lv_iload hx hb dX12_seesAlike_93 (lv_at hl 6 rfl) ?_
            refine n_iald hx hb hK hP 7 rfl (by omega) (by decide) dX12_seesAlike_95 ?_
            refine cS_p (rest := []) hC (c_aft l (stS (N 5) (F 10) (F 11) c1) ((F 10) c1) ((F 11) c1) (by omega) (by omega) (by omega)) kw_871 sy_X12_afterCall ⟨Nat.le_of_ble_eq_true rfl, Nat.le_of_ble_eq_true rfl⟩ ⟨rfl, rfl⟩ rfl hl.1 rfl (Nat.le_of_ble_eq_true rfl) dX12_seesAlike_96 ⟨Nat.le_of_ble_eq_true rfl, Nat.le_of_ble_eq_true rfl⟩ ?_
            have f_6 := aft_lt (st := stS (N 5) (F 10) (F 11) c1) (pp := (F 10) c1) (qq := (F 11) c1) (by omega) (by omega) (by omega)
            refine lv_istore_n (lv' := [(2, .int (nI (aft (stS (N 5) (F 10) (F 11) c1) ((F 10) c1) ((F 11) c1)))), (6, .int (nI 1)), (5, .int (nI 1)), (0, .ref (ad 0)), (1, .int (nI pp)), (3, .int (nI s0)), (4, .int (nI c1))]) hx hb dX12_seesAlike_99 rfl hl (by decide) rfl (fun ls hl => ?_)
            refine lv_iload_n hx hb dX12_seesAlike_100 rfl (lv_at hl 5 rfl) ?_
            refine lv_aload_n hx hb dX12_seesAlike_101 rfl (lv_at hl 3 rfl) ?_
            refine va_get (D := E.1) (ci := 10) (v := .ref (ad 24)) (C := RX12) (T := TX12) (N := 30) hx hb hts iX12 hown hK hP 0 rfl rfl 24 (by decide) (hts _ kw_763) (fun _ h9 => h9) rfl dX12_seesAlike_102 ?_
            refine lv_iload hx hb dX12_seesAlike_105 (lv_at hl 6 rfl) ?_
            refine n_iald hx hb hK hP 16 rfl (by omega) (by decide) dX12_seesAlike_107 ?_
            refine lv_aload_n hx hb dX12_seesAlike_108 rfl (lv_at hl 3 rfl) ?_
            refine va_get (D := E.1) (ci := 10) (v := .ref (ad 25)) (C := RX12) (T := TX12) (N := 30) hx hb hts iX12 hown hK hP 0 rfl rfl 25 (by decide) (hts _ kw_764) (fun _ h9 => h9) rfl dX12_seesAlike_109 ?_
            refine lv_iload hx hb dX12_seesAlike_112 (lv_at hl 6 rfl) ?_
            refine n_iald hx hb hK hP 17 rfl (by omega) (by decide) dX12_seesAlike_114 ?_
            refine cS_p (rest := []) hC (c_aft l s0 ((F 24) c1) ((F 25) c1) (by omega) (by omega) (by omega)) kw_871 sy_X12_afterCall ⟨Nat.le_of_ble_eq_true rfl, Nat.le_of_ble_eq_true rfl⟩ ⟨rfl, rfl⟩ rfl hl.1 rfl (Nat.le_of_ble_eq_true rfl) dX12_seesAlike_115 ⟨Nat.le_of_ble_eq_true rfl, Nat.le_of_ble_eq_true rfl⟩ ?_
            have f_7 := aft_lt (st := s0) (pp := (F 24) c1) (qq := (F 25) c1) (by omega) (by omega) (by omega)
            refine lv_istore_n (lv' := [(3, .int (nI (aft s0 ((F 24) c1) ((F 25) c1)))), (2, .int (nI (aft (stS (N 5) (F 10) (F 11) c1) ((F 10) c1) ((F 11) c1)))), (6, .int (nI 1)), (5, .int (nI 1)), (0, .ref (ad 0)), (1, .int (nI pp)), (4, .int (nI c1))]) hx hb dX12_seesAlike_118 rfl hl (by decide) rfl (fun ls hl => ?_)
            refine lv_iload hx hb dX12_seesAlike_119 (lv_at hl 3 rfl) ?_
            refine lv_iload hx hb dX12_seesAlike_121 (lv_at hl 2 rfl) ?_
            refine n_icmp_ne (tgt := 178) hx hb (by omega) (by omega) dX12_seesAlike_123 (by decide) (fun c_8 => absurd rfl c_8) (fun _ => ?_)
            refine lv_iload hx hb dX12_seesAlike_126 (lv_at hl 3 rfl) ?_
            refine n_if_eq (tgt := 180) hx hb (by omega) dX12_seesAlike_128 (by decide) (fun c_9 => absurd c_9 (by decide)) (fun _ => ?_)
            refine lv_aload_n hx hb dX12_seesAlike_131 rfl (lv_at hl 4 rfl) ?_
            refine va_get (D := E.1) (ci := 10) (v := .ref (ad 10)) (C := RX12) (T := TX12) (N := 30) hx hb hts iX12 hown hK hP 0 rfl rfl 10 (by decide) (hts _ kw_749) (fun _ h9 => h9) rfl dX12_seesAlike_132 ?_
            refine lv_iload hx hb dX12_seesAlike_135 (lv_at hl 6 rfl) ?_
            refine n_iald hx hb hK hP 6 rfl (by omega) (by decide) dX12_seesAlike_137 ?_
            refine lv_aload_n hx hb dX12_seesAlike_138 rfl (lv_at hl 4 rfl) ?_
            refine va_get (D := E.1) (ci := 10) (v := .ref (ad 24)) (C := RX12) (T := TX12) (N := 30) hx hb hts iX12 hown hK hP 0 rfl rfl 24 (by decide) (hts _ kw_763) (fun _ h9 => h9) rfl dX12_seesAlike_139 ?_
            refine lv_iload hx hb dX12_seesAlike_142 (lv_at hl 6 rfl) ?_
            refine n_iald hx hb hK hP 16 rfl (by omega) (by decide) dX12_seesAlike_144 ?_
            refine n_icmp_ne (tgt := 178) hx hb (by omega) (by omega) dX12_seesAlike_145 (by decide) (fun c_10 => ?_) (fun c_10 => ?_)
            · -- t 178
              refine lv_iconst (v := nI 0) hx hb dX12_seesAlike_178 (by decide) ?_
              have hsee1 : seeC (N 5) (F 6) (F 10) (F 11) pp x0 c1 = false := by
                unfold seeC inC; rw [hs2, ← hr4.1, ← hr4.2]; simp only [Option.getD_some, hse, stS, decide_eq_true c_4, decide_eq_true c_5, decide_eq_false c_10, Bool.true_or, Bool.or_true, Bool.false_or, Bool.or_false, Bool.true_and, Bool.and_true, Bool.false_and, Bool.and_false, Bool.not_true, Bool.not_false, beq_self_eq_true] <;> rfl
              exact rz_bE hC (by rw [seeA, decide_eq_false (fun h => by rw [h c1 (by omega)] at hsee1; cases hsee1)]; rfl) dX12_seesAlike_179
            · -- f 148
              refine lv_aload_n hx hb dX12_seesAlike_148 rfl (lv_at hl 4 rfl) ?_
              refine va_get (D := E.1) (ci := 10) (v := .ref (ad 11)) (C := RX12) (T := TX12) (N := 30) hx hb hts iX12 hown hK hP 0 rfl rfl 11 (by decide) (hts _ kw_750) (fun _ h9 => h9) rfl dX12_seesAlike_149 ?_
              refine lv_iload hx hb dX12_seesAlike_152 (lv_at hl 6 rfl) ?_
              refine n_iald hx hb hK hP 7 rfl (by omega) (by decide) dX12_seesAlike_154 ?_
              refine lv_aload_n hx hb dX12_seesAlike_155 rfl (lv_at hl 4 rfl) ?_
              refine va_get (D := E.1) (ci := 10) (v := .ref (ad 25)) (C := RX12) (T := TX12) (N := 30) hx hb hts iX12 hown hK hP 0 rfl rfl 25 (by decide) (hts _ kw_764) (fun _ h9 => h9) rfl dX12_seesAlike_156 ?_
              refine lv_iload hx hb dX12_seesAlike_159 (lv_at hl 6 rfl) ?_
              refine n_iald hx hb hK hP 17 rfl (by omega) (by decide) dX12_seesAlike_161 ?_
              refine n_icmp_ne (tgt := 178) hx hb (by omega) (by omega) dX12_seesAlike_162 (by decide) (fun c_11 => ?_) (fun c_11 => ?_)
              · -- t 178
                refine lv_iconst (v := nI 0) hx hb dX12_seesAlike_178 (by decide) ?_
                have hsee1 : seeC (N 5) (F 6) (F 10) (F 11) pp x0 c1 = false := by
                  unfold seeC inC; rw [hs2, ← hr4.1, ← hr4.2]; simp only [Option.getD_some, hse, stS, decide_eq_true c_4, decide_eq_true c_5, decide_eq_true c_10, decide_eq_false c_11, Bool.true_or, Bool.or_true, Bool.false_or, Bool.or_false, Bool.true_and, Bool.and_true, Bool.false_and, Bool.and_false, Bool.not_true, Bool.not_false, beq_self_eq_true] <;> rfl
                exact rz_bE hC (by rw [seeA, decide_eq_false (fun h => by rw [h c1 (by omega)] at hsee1; cases hsee1)]; rfl) dX12_seesAlike_179
              · -- f 165
                refine lv_iload_n hx hb dX12_seesAlike_165 rfl (lv_at hl 1 rfl) ?_
                refine lv_iload_n hx hb dX12_seesAlike_166 rfl (lv_at hl 5 rfl) ?_
                refine cS_p (rest := []) hC (c_of l (aft (stS (N 5) (F 10) (F 11) c1) ((F 10) c1) ((F 11) c1)) pp (by omega) (by omega)) kw_874 sy_X12_of ⟨Nat.le_of_ble_eq_true rfl, Nat.le_of_ble_eq_true rfl⟩ ⟨rfl, rfl⟩ rfl hl.1 rfl (Nat.le_of_ble_eq_true rfl) dX12_seesAlike_167 ⟨Nat.le_of_ble_eq_true rfl, Nat.le_of_ble_eq_true rfl⟩ ?_
                have f_12 := of4_lt (aft (stS (N 5) (F 10) (F 11) c1) ((F 10) c1) ((F 11) c1)) pp
                refine lv_iload_n hx hb dX12_seesAlike_170 rfl (lv_at hl 0 rfl) ?_
                refine lv_iload_n hx hb dX12_seesAlike_171 rfl (lv_at hl 5 rfl) ?_
                refine cS_p (rest := [.int (nI (of4 (aft (stS (N 5) (F 10) (F 11) c1) ((F 10) c1) ((F 11) c1)) pp))]) hC (c_of l (aft s0 ((F 24) c1) ((F 25) c1)) pp (by omega) (by omega)) kw_874 sy_X12_of ⟨Nat.le_of_ble_eq_true rfl, Nat.le_of_ble_eq_true rfl⟩ ⟨rfl, rfl⟩ rfl hl.1 rfl (Nat.le_of_ble_eq_true rfl) dX12_seesAlike_172 ⟨Nat.le_of_ble_eq_true rfl, Nat.le_of_ble_eq_true rfl⟩ ?_
                have f_13 := of4_lt (aft s0 ((F 24) c1) ((F 25) c1)) pp
                refine n_icmp_eq (tgt := 180) hx hb (by omega) (by omega) dX12_seesAlike_175 (by decide) (fun c_14 => ?_) (fun c_14 => ?_)
                · -- t 180
                  refine lv_iinc (v := nI (c1 + 1)) (lv' := [(4, .int (nI (c1 + 1))), (3, .int (nI (aft s0 ((F 24) c1) ((F 25) c1)))), (2, .int (nI (aft (stS (N 5) (F 10) (F 11) c1) ((F 10) c1) ((F 11) c1)))), (6, .int (nI 1)), (5, .int (nI 1)), (0, .ref (ad 0)), (1, .int (nI pp))]) hx hb dX12_seesAlike_180 hl (k := 6) rfl (ii_1 _) (by decide) rfl (fun ls hl => ?_)
                  refine lv_goto (tgt := 14) hx hb dX12_seesAlike_183 (by decide) ?_
                  have hsee1 : seeC (N 5) (F 6) (F 10) (F 11) pp x0 c1 = true := by
                    unfold seeC inC; rw [hs2, ← hr4.1, ← hr4.2]; simp only [Option.getD_some, hse, stS, decide_eq_true c_4, decide_eq_true c_5, decide_eq_true c_10, decide_eq_true c_11, decide_eq_true c_14, Bool.true_or, Bool.or_true, Bool.false_or, Bool.or_false, Bool.true_and, Bool.and_true, Bool.false_and, Bool.and_false, Bool.not_true, Bool.not_false, beq_self_eq_true] <;> rfl
                  exact ih_lp_2 (c1 + 1) (aft s0 (F 24 c1) (F 25 c1)) (by omega) (by rw [hs2, hse]) (fun c h => (by rcases Nat.lt_or_ge c c1 with h6 | h6; exact hsee c h6; rw [show c = c1 by omega]; exact hsee1)) (by omega) ls (lv_sub hl [5, 6, 2, 1, 0] rfl)
                · -- f 178
                  refine lv_iconst (v := nI 0) hx hb dX12_seesAlike_178 (by decide) ?_
                  have hsee1 : seeC (N 5) (F 6) (F 10) (F 11) pp x0 c1 = false := by
                    unfold seeC inC; rw [hs2, ← hr4.1, ← hr4.2]; simp only [Option.getD_some, hse, stS, decide_eq_true c_4, decide_eq_true c_5, decide_eq_true c_10, decide_eq_true c_11, decide_eq_false c_14, Bool.true_or, Bool.or_true, Bool.false_or, Bool.or_false, Bool.true_and, Bool.and_true, Bool.false_and, Bool.and_false, Bool.not_true, Bool.not_false, beq_self_eq_true] <;> rfl
                  exact rz_bE hC (by rw [seeA, decide_eq_false (fun h => by rw [h c1 (by omega)] at hsee1; cases hsee1)]; rfl) dX12_seesAlike_179
          · -- f 63
            refine lv_aload_n hx hb dX12_seesAlike_63 rfl (lv_at hl 1 rfl) ?_
            refine va_get (D := E.1) (ci := 10) (v := .ref (ad 25)) (C := RX12) (T := TX12) (N := 30) hx hb hts iX12 hown hK hP 0 rfl rfl 25 (by decide) (hts _ kw_764) (fun _ h9 => h9) rfl dX12_seesAlike_64 ?_
            refine lv_iload hx hb dX12_seesAlike_67 (lv_at hl 5 rfl) ?_
            refine n_iald hx hb hK hP 17 rfl (by omega) (by decide) dX12_seesAlike_69 ?_
            refine lv_iload_n hx hb dX12_seesAlike_70 rfl (lv_at hl 2 rfl) ?_
            refine n_icmp_ne (tgt := 78) hx hb (by omega) (by omega) dX12_seesAlike_71 (by decide) (fun c_15 => ?_) (fun c_15 => ?_)
            · -- t 78
              refine lv_iconst (v := nI 0) hx hb dX12_seesAlike_78 (by decide) ?_
              refine lv_istore (lv' := [(6, .int (nI 0)), (5, .int (nI 1)), (0, .ref (ad 0)), (1, .int (nI pp)), (2, .int (nI (stS (N 5) (F 10) (F 11) c1))), (3, .int (nI s0)), (4, .int (nI c1))]) hx hb dX12_seesAlike_79 hl (by decide) rfl (fun ls hl => ?_)
              refine lv_iload_n hx hb dX12_seesAlike_81 rfl (lv_at hl 4 rfl) ?_
              refine lv_aload_n hx hb dX12_seesAlike_82 rfl (lv_at hl 2 rfl) ?_
              refine va_get (D := E.1) (ci := 10) (v := .ref (ad 10)) (C := RX12) (T := TX12) (N := 30) hx hb hts iX12 hown hK hP 0 rfl rfl 10 (by decide) (hts _ kw_749) (fun _ h9 => h9) rfl dX12_seesAlike_83 ?_
              refine lv_iload hx hb dX12_seesAlike_86 (lv_at hl 6 rfl) ?_
              refine n_iald hx hb hK hP 6 rfl (by omega) (by decide) dX12_seesAlike_88 ?_
              refine lv_aload_n hx hb dX12_seesAlike_89 rfl (lv_at hl 2 rfl) ?_
              refine va_get (D := E.1) (ci := 10) (v := .ref (ad 11)) (C := RX12) (T := TX12) (N := 30) hx hb hts iX12 hown hK hP 0 rfl rfl 11 (by decide) (hts _ kw_750) (fun _ h9 => h9) rfl dX12_seesAlike_90 ?_
              refine lv_iload hx hb dX12_seesAlike_93 (lv_at hl 6 rfl) ?_
              refine n_iald hx hb hK hP 7 rfl (by omega) (by decide) dX12_seesAlike_95 ?_
              refine cS_p (rest := []) hC (c_aft l (stS (N 5) (F 10) (F 11) c1) ((F 10) c1) ((F 11) c1) (by omega) (by omega) (by omega)) kw_871 sy_X12_afterCall ⟨Nat.le_of_ble_eq_true rfl, Nat.le_of_ble_eq_true rfl⟩ ⟨rfl, rfl⟩ rfl hl.1 rfl (Nat.le_of_ble_eq_true rfl) dX12_seesAlike_96 ⟨Nat.le_of_ble_eq_true rfl, Nat.le_of_ble_eq_true rfl⟩ ?_
              have f_16 := aft_lt (st := stS (N 5) (F 10) (F 11) c1) (pp := (F 10) c1) (qq := (F 11) c1) (by omega) (by omega) (by omega)
              refine lv_istore_n (lv' := [(2, .int (nI (aft (stS (N 5) (F 10) (F 11) c1) ((F 10) c1) ((F 11) c1)))), (6, .int (nI 0)), (5, .int (nI 1)), (0, .ref (ad 0)), (1, .int (nI pp)), (3, .int (nI s0)), (4, .int (nI c1))]) hx hb dX12_seesAlike_99 rfl hl (by decide) rfl (fun ls hl => ?_)
              refine lv_iload_n hx hb dX12_seesAlike_100 rfl (lv_at hl 5 rfl) ?_
              refine lv_aload_n hx hb dX12_seesAlike_101 rfl (lv_at hl 3 rfl) ?_
              refine va_get (D := E.1) (ci := 10) (v := .ref (ad 24)) (C := RX12) (T := TX12) (N := 30) hx hb hts iX12 hown hK hP 0 rfl rfl 24 (by decide) (hts _ kw_763) (fun _ h9 => h9) rfl dX12_seesAlike_102 ?_
              refine lv_iload hx hb dX12_seesAlike_105 (lv_at hl 6 rfl) ?_
              refine n_iald hx hb hK hP 16 rfl (by omega) (by decide) dX12_seesAlike_107 ?_
              refine lv_aload_n hx hb dX12_seesAlike_108 rfl (lv_at hl 3 rfl) ?_
              refine va_get (D := E.1) (ci := 10) (v := .ref (ad 25)) (C := RX12) (T := TX12) (N := 30) hx hb hts iX12 hown hK hP 0 rfl rfl 25 (by decide) (hts _ kw_764) (fun _ h9 => h9) rfl dX12_seesAlike_109 ?_
              refine lv_iload hx hb dX12_seesAlike_112 (lv_at hl 6 rfl) ?_
              refine n_iald hx hb hK hP 17 rfl (by omega) (by decide) dX12_seesAlike_114 ?_
              refine cS_p (rest := []) hC (c_aft l s0 ((F 24) c1) ((F 25) c1) (by omega) (by omega) (by omega)) kw_871 sy_X12_afterCall ⟨Nat.le_of_ble_eq_true rfl, Nat.le_of_ble_eq_true rfl⟩ ⟨rfl, rfl⟩ rfl hl.1 rfl (Nat.le_of_ble_eq_true rfl) dX12_seesAlike_115 ⟨Nat.le_of_ble_eq_true rfl, Nat.le_of_ble_eq_true rfl⟩ ?_
              have f_17 := aft_lt (st := s0) (pp := (F 24) c1) (qq := (F 25) c1) (by omega) (by omega) (by omega)
              refine lv_istore_n (lv' := [(3, .int (nI (aft s0 ((F 24) c1) ((F 25) c1)))), (2, .int (nI (aft (stS (N 5) (F 10) (F 11) c1) ((F 10) c1) ((F 11) c1)))), (6, .int (nI 0)), (5, .int (nI 1)), (0, .ref (ad 0)), (1, .int (nI pp)), (4, .int (nI c1))]) hx hb dX12_seesAlike_118 rfl hl (by decide) rfl (fun ls hl => ?_)
              refine lv_iload hx hb dX12_seesAlike_119 (lv_at hl 3 rfl) ?_
              refine lv_iload hx hb dX12_seesAlike_121 (lv_at hl 2 rfl) ?_
              refine n_icmp_ne (tgt := 178) hx hb (by omega) (by omega) dX12_seesAlike_123 (by decide) (fun _ => ?_) (fun c_18 => absurd c_18 (by decide))
              refine lv_iconst (v := nI 0) hx hb dX12_seesAlike_178 (by decide) ?_
              have hsee1 : seeC (N 5) (F 6) (F 10) (F 11) pp x0 c1 = false := by
                unfold seeC inC; rw [hs2, ← hr4.1, ← hr4.2]; simp only [Option.getD_some, hse, stS, decide_eq_true c_4, decide_eq_false c_5, decide_eq_false c_15, Bool.true_or, Bool.or_true, Bool.false_or, Bool.or_false, Bool.true_and, Bool.and_true, Bool.false_and, Bool.and_false, Bool.not_true, Bool.not_false, beq_self_eq_true] <;> rfl
              exact rz_bE hC (by rw [seeA, decide_eq_false (fun h => by rw [h c1 (by omega)] at hsee1; cases hsee1)]; rfl) dX12_seesAlike_179
            · -- f 74
              refine lv_iconst (v := nI 1) hx hb dX12_seesAlike_74 (by decide) ?_
              refine lv_goto (tgt := 79) hx hb dX12_seesAlike_75 (by decide) ?_
              refine lv_istore (lv' := [(6, .int (nI 1)), (5, .int (nI 1)), (0, .ref (ad 0)), (1, .int (nI pp)), (2, .int (nI (stS (N 5) (F 10) (F 11) c1))), (3, .int (nI s0)), (4, .int (nI c1))]) hx hb dX12_seesAlike_79 hl (by decide) rfl (fun ls hl => ?_)
              refine lv_iload_n hx hb dX12_seesAlike_81 rfl (lv_at hl 4 rfl) ?_
              refine lv_aload_n hx hb dX12_seesAlike_82 rfl (lv_at hl 2 rfl) ?_
              refine va_get (D := E.1) (ci := 10) (v := .ref (ad 10)) (C := RX12) (T := TX12) (N := 30) hx hb hts iX12 hown hK hP 0 rfl rfl 10 (by decide) (hts _ kw_749) (fun _ h9 => h9) rfl dX12_seesAlike_83 ?_
              refine lv_iload hx hb dX12_seesAlike_86 (lv_at hl 6 rfl) ?_
              refine n_iald hx hb hK hP 6 rfl (by omega) (by decide) dX12_seesAlike_88 ?_
              refine lv_aload_n hx hb dX12_seesAlike_89 rfl (lv_at hl 2 rfl) ?_
              refine va_get (D := E.1) (ci := 10) (v := .ref (ad 11)) (C := RX12) (T := TX12) (N := 30) hx hb hts iX12 hown hK hP 0 rfl rfl 11 (by decide) (hts _ kw_750) (fun _ h9 => h9) rfl dX12_seesAlike_90 ?_
              refine lv_iload hx hb dX12_seesAlike_93 (lv_at hl 6 rfl) ?_
              refine n_iald hx hb hK hP 7 rfl (by omega) (by decide) dX12_seesAlike_95 ?_
              refine cS_p (rest := []) hC (c_aft l (stS (N 5) (F 10) (F 11) c1) ((F 10) c1) ((F 11) c1) (by omega) (by omega) (by omega)) kw_871 sy_X12_afterCall ⟨Nat.le_of_ble_eq_true rfl, Nat.le_of_ble_eq_true rfl⟩ ⟨rfl, rfl⟩ rfl hl.1 rfl (Nat.le_of_ble_eq_true rfl) dX12_seesAlike_96 ⟨Nat.le_of_ble_eq_true rfl, Nat.le_of_ble_eq_true rfl⟩ ?_
              have f_19 := aft_lt (st := stS (N 5) (F 10) (F 11) c1) (pp := (F 10) c1) (qq := (F 11) c1) (by omega) (by omega) (by omega)
              refine lv_istore_n (lv' := [(2, .int (nI (aft (stS (N 5) (F 10) (F 11) c1) ((F 10) c1) ((F 11) c1)))), (6, .int (nI 1)), (5, .int (nI 1)), (0, .ref (ad 0)), (1, .int (nI pp)), (3, .int (nI s0)), (4, .int (nI c1))]) hx hb dX12_seesAlike_99 rfl hl (by decide) rfl (fun ls hl => ?_)
              refine lv_iload_n hx hb dX12_seesAlike_100 rfl (lv_at hl 5 rfl) ?_
              refine lv_aload_n hx hb dX12_seesAlike_101 rfl (lv_at hl 3 rfl) ?_
              refine va_get (D := E.1) (ci := 10) (v := .ref (ad 24)) (C := RX12) (T := TX12) (N := 30) hx hb hts iX12 hown hK hP 0 rfl rfl 24 (by decide) (hts _ kw_763) (fun _ h9 => h9) rfl dX12_seesAlike_102 ?_
              refine lv_iload hx hb dX12_seesAlike_105 (lv_at hl 6 rfl) ?_
              refine n_iald hx hb hK hP 16 rfl (by omega) (by decide) dX12_seesAlike_107 ?_
              refine lv_aload_n hx hb dX12_seesAlike_108 rfl (lv_at hl 3 rfl) ?_
              refine va_get (D := E.1) (ci := 10) (v := .ref (ad 25)) (C := RX12) (T := TX12) (N := 30) hx hb hts iX12 hown hK hP 0 rfl rfl 25 (by decide) (hts _ kw_764) (fun _ h9 => h9) rfl dX12_seesAlike_109 ?_
              refine lv_iload hx hb dX12_seesAlike_112 (lv_at hl 6 rfl) ?_
              refine n_iald hx hb hK hP 17 rfl (by omega) (by decide) dX12_seesAlike_114 ?_
              refine cS_p (rest := []) hC (c_aft l s0 ((F 24) c1) ((F 25) c1) (by omega) (by omega) (by omega)) kw_871 sy_X12_afterCall ⟨Nat.le_of_ble_eq_true rfl, Nat.le_of_ble_eq_true rfl⟩ ⟨rfl, rfl⟩ rfl hl.1 rfl (Nat.le_of_ble_eq_true rfl) dX12_seesAlike_115 ⟨Nat.le_of_ble_eq_true rfl, Nat.le_of_ble_eq_true rfl⟩ ?_
              have f_20 := aft_lt (st := s0) (pp := (F 24) c1) (qq := (F 25) c1) (by omega) (by omega) (by omega)
              refine lv_istore_n (lv' := [(3, .int (nI (aft s0 ((F 24) c1) ((F 25) c1)))), (2, .int (nI (aft (stS (N 5) (F 10) (F 11) c1) ((F 10) c1) ((F 11) c1)))), (6, .int (nI 1)), (5, .int (nI 1)), (0, .ref (ad 0)), (1, .int (nI pp)), (4, .int (nI c1))]) hx hb dX12_seesAlike_118 rfl hl (by decide) rfl (fun ls hl => ?_)
              refine lv_iload hx hb dX12_seesAlike_119 (lv_at hl 3 rfl) ?_
              refine lv_iload hx hb dX12_seesAlike_121 (lv_at hl 2 rfl) ?_
              refine n_icmp_ne (tgt := 178) hx hb (by omega) (by omega) dX12_seesAlike_123 (by decide) (fun c_21 => absurd rfl c_21) (fun _ => ?_)
              refine lv_iload hx hb dX12_seesAlike_126 (lv_at hl 3 rfl) ?_
              refine n_if_eq (tgt := 180) hx hb (by omega) dX12_seesAlike_128 (by decide) (fun c_22 => absurd c_22 (by decide)) (fun _ => ?_)
              refine lv_aload_n hx hb dX12_seesAlike_131 rfl (lv_at hl 4 rfl) ?_
              refine va_get (D := E.1) (ci := 10) (v := .ref (ad 10)) (C := RX12) (T := TX12) (N := 30) hx hb hts iX12 hown hK hP 0 rfl rfl 10 (by decide) (hts _ kw_749) (fun _ h9 => h9) rfl dX12_seesAlike_132 ?_
              refine lv_iload hx hb dX12_seesAlike_135 (lv_at hl 6 rfl) ?_
              refine n_iald hx hb hK hP 6 rfl (by omega) (by decide) dX12_seesAlike_137 ?_
              refine lv_aload_n hx hb dX12_seesAlike_138 rfl (lv_at hl 4 rfl) ?_
              refine va_get (D := E.1) (ci := 10) (v := .ref (ad 24)) (C := RX12) (T := TX12) (N := 30) hx hb hts iX12 hown hK hP 0 rfl rfl 24 (by decide) (hts _ kw_763) (fun _ h9 => h9) rfl dX12_seesAlike_139 ?_
              refine lv_iload hx hb dX12_seesAlike_142 (lv_at hl 6 rfl) ?_
              refine n_iald hx hb hK hP 16 rfl (by omega) (by decide) dX12_seesAlike_144 ?_
              refine n_icmp_ne (tgt := 178) hx hb (by omega) (by omega) dX12_seesAlike_145 (by decide) (fun c_23 => ?_) (fun c_23 => ?_)
              · -- t 178
                refine lv_iconst (v := nI 0) hx hb dX12_seesAlike_178 (by decide) ?_
                have hsee1 : seeC (N 5) (F 6) (F 10) (F 11) pp x0 c1 = false := by
                  unfold seeC inC; rw [hs2, ← hr4.1, ← hr4.2]; simp only [Option.getD_some, hse, stS, decide_eq_true c_4, decide_eq_false c_5, decide_eq_true c_15, decide_eq_false c_23, Bool.true_or, Bool.or_true, Bool.false_or, Bool.or_false, Bool.true_and, Bool.and_true, Bool.false_and, Bool.and_false, Bool.not_true, Bool.not_false, beq_self_eq_true] <;> rfl
                exact rz_bE hC (by rw [seeA, decide_eq_false (fun h => by rw [h c1 (by omega)] at hsee1; cases hsee1)]; rfl) dX12_seesAlike_179
              · -- f 148
                refine lv_aload_n hx hb dX12_seesAlike_148 rfl (lv_at hl 4 rfl) ?_
                refine va_get (D := E.1) (ci := 10) (v := .ref (ad 11)) (C := RX12) (T := TX12) (N := 30) hx hb hts iX12 hown hK hP 0 rfl rfl 11 (by decide) (hts _ kw_750) (fun _ h9 => h9) rfl dX12_seesAlike_149 ?_
                refine lv_iload hx hb dX12_seesAlike_152 (lv_at hl 6 rfl) ?_
                refine n_iald hx hb hK hP 7 rfl (by omega) (by decide) dX12_seesAlike_154 ?_
                refine lv_aload_n hx hb dX12_seesAlike_155 rfl (lv_at hl 4 rfl) ?_
                refine va_get (D := E.1) (ci := 10) (v := .ref (ad 25)) (C := RX12) (T := TX12) (N := 30) hx hb hts iX12 hown hK hP 0 rfl rfl 25 (by decide) (hts _ kw_764) (fun _ h9 => h9) rfl dX12_seesAlike_156 ?_
                refine lv_iload hx hb dX12_seesAlike_159 (lv_at hl 6 rfl) ?_
                refine n_iald hx hb hK hP 17 rfl (by omega) (by decide) dX12_seesAlike_161 ?_
                refine n_icmp_ne (tgt := 178) hx hb (by omega) (by omega) dX12_seesAlike_162 (by decide) (fun c_24 => ?_) (fun c_24 => ?_)
                · -- t 178
                  refine lv_iconst (v := nI 0) hx hb dX12_seesAlike_178 (by decide) ?_
                  have hsee1 : seeC (N 5) (F 6) (F 10) (F 11) pp x0 c1 = false := by
                    unfold seeC inC; rw [hs2, ← hr4.1, ← hr4.2]; simp only [Option.getD_some, hse, stS, decide_eq_true c_4, decide_eq_false c_5, decide_eq_true c_15, decide_eq_true c_23, decide_eq_false c_24, Bool.true_or, Bool.or_true, Bool.false_or, Bool.or_false, Bool.true_and, Bool.and_true, Bool.false_and, Bool.and_false, Bool.not_true, Bool.not_false, beq_self_eq_true] <;> rfl
                  exact rz_bE hC (by rw [seeA, decide_eq_false (fun h => by rw [h c1 (by omega)] at hsee1; cases hsee1)]; rfl) dX12_seesAlike_179
                · -- f 165
                  refine lv_iload_n hx hb dX12_seesAlike_165 rfl (lv_at hl 1 rfl) ?_
                  refine lv_iload_n hx hb dX12_seesAlike_166 rfl (lv_at hl 5 rfl) ?_
                  refine cS_p (rest := []) hC (c_of l (aft (stS (N 5) (F 10) (F 11) c1) ((F 10) c1) ((F 11) c1)) pp (by omega) (by omega)) kw_874 sy_X12_of ⟨Nat.le_of_ble_eq_true rfl, Nat.le_of_ble_eq_true rfl⟩ ⟨rfl, rfl⟩ rfl hl.1 rfl (Nat.le_of_ble_eq_true rfl) dX12_seesAlike_167 ⟨Nat.le_of_ble_eq_true rfl, Nat.le_of_ble_eq_true rfl⟩ ?_
                  have f_25 := of4_lt (aft (stS (N 5) (F 10) (F 11) c1) ((F 10) c1) ((F 11) c1)) pp
                  refine lv_iload_n hx hb dX12_seesAlike_170 rfl (lv_at hl 0 rfl) ?_
                  refine lv_iload_n hx hb dX12_seesAlike_171 rfl (lv_at hl 5 rfl) ?_
                  refine cS_p (rest := [.int (nI (of4 (aft (stS (N 5) (F 10) (F 11) c1) ((F 10) c1) ((F 11) c1)) pp))]) hC (c_of l (aft s0 ((F 24) c1) ((F 25) c1)) pp (by omega) (by omega)) kw_874 sy_X12_of ⟨Nat.le_of_ble_eq_true rfl, Nat.le_of_ble_eq_true rfl⟩ ⟨rfl, rfl⟩ rfl hl.1 rfl (Nat.le_of_ble_eq_true rfl) dX12_seesAlike_172 ⟨Nat.le_of_ble_eq_true rfl, Nat.le_of_ble_eq_true rfl⟩ ?_
                  have f_26 := of4_lt (aft s0 ((F 24) c1) ((F 25) c1)) pp
                  refine n_icmp_eq (tgt := 180) hx hb (by omega) (by omega) dX12_seesAlike_175 (by decide) (fun c_27 => ?_) (fun c_27 => ?_)
                  · -- t 180
                    refine lv_iinc (v := nI (c1 + 1)) (lv' := [(4, .int (nI (c1 + 1))), (3, .int (nI (aft s0 ((F 24) c1) ((F 25) c1)))), (2, .int (nI (aft (stS (N 5) (F 10) (F 11) c1) ((F 10) c1) ((F 11) c1)))), (6, .int (nI 1)), (5, .int (nI 1)), (0, .ref (ad 0)), (1, .int (nI pp))]) hx hb dX12_seesAlike_180 hl (k := 6) rfl (ii_1 _) (by decide) rfl (fun ls hl => ?_)
                    refine lv_goto (tgt := 14) hx hb dX12_seesAlike_183 (by decide) ?_
                    have hsee1 : seeC (N 5) (F 6) (F 10) (F 11) pp x0 c1 = true := by
                      unfold seeC inC; rw [hs2, ← hr4.1, ← hr4.2]; simp only [Option.getD_some, hse, stS, decide_eq_true c_4, decide_eq_false c_5, decide_eq_true c_15, decide_eq_true c_23, decide_eq_true c_24, decide_eq_true c_27, Bool.true_or, Bool.or_true, Bool.false_or, Bool.or_false, Bool.true_and, Bool.and_true, Bool.false_and, Bool.and_false, Bool.not_true, Bool.not_false, beq_self_eq_true] <;> rfl
                    exact ih_lp_2 (c1 + 1) (aft s0 (F 24 c1) (F 25 c1)) (by omega) (by rw [hs2, hse]) (fun c h => (by rcases Nat.lt_or_ge c c1 with h6 | h6; exact hsee c h6; rw [show c = c1 by omega]; exact hsee1)) (by omega) ls (lv_sub hl [5, 6, 2, 1, 0] rfl)
                  · -- f 178
                    refine lv_iconst (v := nI 0) hx hb dX12_seesAlike_178 (by decide) ?_
                    have hsee1 : seeC (N 5) (F 6) (F 10) (F 11) pp x0 c1 = false := by
                      unfold seeC inC; rw [hs2, ← hr4.1, ← hr4.2]; simp only [Option.getD_some, hse, stS, decide_eq_true c_4, decide_eq_false c_5, decide_eq_true c_15, decide_eq_true c_23, decide_eq_true c_24, decide_eq_false c_27, Bool.true_or, Bool.or_true, Bool.false_or, Bool.or_false, Bool.true_and, Bool.and_true, Bool.false_and, Bool.and_false, Bool.not_true, Bool.not_false, beq_self_eq_true] <;> rfl
                    exact rz_bE hC (by rw [seeA, decide_eq_false (fun h => by rw [h c1 (by omega)] at hsee1; cases hsee1)]; rfl) dX12_seesAlike_179
        · -- f 34
          refine lv_aload_n hx hb dX12_seesAlike_34 rfl (lv_at hl 0 rfl) ?_
          refine va_get (D := E.1) (ci := 10) (v := .ref (ad 11)) (C := RX12) (T := TX12) (N := 30) hx hb hts iX12 hown hK hP 0 rfl rfl 11 (by decide) (hts _ kw_750) (fun _ h9 => h9) rfl dX12_seesAlike_35 ?_
          refine lv_iload hx hb dX12_seesAlike_38 (lv_at hl 4 rfl) ?_
          refine n_iald hx hb hK hP 7 rfl (by omega) (by decide) dX12_seesAlike_40 ?_
          refine lv_iload_n hx hb dX12_seesAlike_41 rfl (lv_at hl 1 rfl) ?_
          refine n_icmp_ne (tgt := 49) hx hb (by omega) (by omega) dX12_seesAlike_42 (by decide) (fun c_28 => ?_) (fun c_28 => ?_)
          · -- t 49
            refine lv_iconst (v := nI 0) hx hb dX12_seesAlike_49 (by decide) ?_
            refine lv_istore (lv' := [(5, .int (nI 0)), (0, .ref (ad 0)), (1, .int (nI pp)), (2, .int (nI (stS (N 5) (F 10) (F 11) c1))), (3, .int (nI s0)), (4, .int (nI c1))]) hx hb dX12_seesAlike_50 hl (by decide) rfl (fun ls hl => ?_)
            refine lv_aload_n hx hb dX12_seesAlike_52 rfl (lv_at hl 1 rfl) ?_
            refine va_get (D := E.1) (ci := 10) (v := .ref (ad 24)) (C := RX12) (T := TX12) (N := 30) hx hb hts iX12 hown hK hP 0 rfl rfl 24 (by decide) (hts _ kw_763) (fun _ h9 => h9) rfl dX12_seesAlike_53 ?_
            refine lv_iload hx hb dX12_seesAlike_56 (lv_at hl 5 rfl) ?_
            refine n_iald hx hb hK hP 16 rfl (by omega) (by decide) dX12_seesAlike_58 ?_
            refine lv_iload_n hx hb dX12_seesAlike_59 rfl (lv_at hl 2 rfl) ?_
            refine n_icmp_eq (tgt := 74) hx hb (by omega) (by omega) dX12_seesAlike_60 (by decide) (fun c_29 => ?_) (fun c_29 => ?_)
            · -- t 74
              refine lv_iconst (v := nI 1) hx hb dX12_seesAlike_74 (by decide) ?_
              refine lv_goto (tgt := 79) hx hb dX12_seesAlike_75 (by decide) ?_
              refine lv_istore (lv' := [(6, .int (nI 1)), (5, .int (nI 0)), (0, .ref (ad 0)), (1, .int (nI pp)), (2, .int (nI (stS (N 5) (F 10) (F 11) c1))), (3, .int (nI s0)), (4, .int (nI c1))]) hx hb dX12_seesAlike_79 hl (by decide) rfl (fun ls hl => ?_)
              refine lv_iload_n hx hb dX12_seesAlike_81 rfl (lv_at hl 4 rfl) ?_
              refine lv_aload_n hx hb dX12_seesAlike_82 rfl (lv_at hl 2 rfl) ?_
              refine va_get (D := E.1) (ci := 10) (v := .ref (ad 10)) (C := RX12) (T := TX12) (N := 30) hx hb hts iX12 hown hK hP 0 rfl rfl 10 (by decide) (hts _ kw_749) (fun _ h9 => h9) rfl dX12_seesAlike_83 ?_
              refine lv_iload hx hb dX12_seesAlike_86 (lv_at hl 6 rfl) ?_
              refine n_iald hx hb hK hP 6 rfl (by omega) (by decide) dX12_seesAlike_88 ?_
              refine lv_aload_n hx hb dX12_seesAlike_89 rfl (lv_at hl 2 rfl) ?_
              refine va_get (D := E.1) (ci := 10) (v := .ref (ad 11)) (C := RX12) (T := TX12) (N := 30) hx hb hts iX12 hown hK hP 0 rfl rfl 11 (by decide) (hts _ kw_750) (fun _ h9 => h9) rfl dX12_seesAlike_90 ?_
              refine lv_iload hx hb dX12_seesAlike_93 (lv_at hl 6 rfl) ?_
              refine n_iald hx hb hK hP 7 rfl (by omega) (by decide) dX12_seesAlike_95 ?_
              refine cS_p (rest := []) hC (c_aft l (stS (N 5) (F 10) (F 11) c1) ((F 10) c1) ((F 11) c1) (by omega) (by omega) (by omega)) kw_871 sy_X12_afterCall ⟨Nat.le_of_ble_eq_true rfl, Nat.le_of_ble_eq_true rfl⟩ ⟨rfl, rfl⟩ rfl hl.1 rfl (Nat.le_of_ble_eq_true rfl) dX12_seesAlike_96 ⟨Nat.le_of_ble_eq_true rfl, Nat.le_of_ble_eq_true rfl⟩ ?_
              have f_30 := aft_lt (st := stS (N 5) (F 10) (F 11) c1) (pp := (F 10) c1) (qq := (F 11) c1) (by omega) (by omega) (by omega)
              refine lv_istore_n (lv' := [(2, .int (nI (aft (stS (N 5) (F 10) (F 11) c1) ((F 10) c1) ((F 11) c1)))), (6, .int (nI 1)), (5, .int (nI 0)), (0, .ref (ad 0)), (1, .int (nI pp)), (3, .int (nI s0)), (4, .int (nI c1))]) hx hb dX12_seesAlike_99 rfl hl (by decide) rfl (fun ls hl => ?_)
              refine lv_iload_n hx hb dX12_seesAlike_100 rfl (lv_at hl 5 rfl) ?_
              refine lv_aload_n hx hb dX12_seesAlike_101 rfl (lv_at hl 3 rfl) ?_
              refine va_get (D := E.1) (ci := 10) (v := .ref (ad 24)) (C := RX12) (T := TX12) (N := 30) hx hb hts iX12 hown hK hP 0 rfl rfl 24 (by decide) (hts _ kw_763) (fun _ h9 => h9) rfl dX12_seesAlike_102 ?_
              refine lv_iload hx hb dX12_seesAlike_105 (lv_at hl 6 rfl) ?_
              refine n_iald hx hb hK hP 16 rfl (by omega) (by decide) dX12_seesAlike_107 ?_
              refine lv_aload_n hx hb dX12_seesAlike_108 rfl (lv_at hl 3 rfl) ?_
              refine va_get (D := E.1) (ci := 10) (v := .ref (ad 25)) (C := RX12) (T := TX12) (N := 30) hx hb hts iX12 hown hK hP 0 rfl rfl 25 (by decide) (hts _ kw_764) (fun _ h9 => h9) rfl dX12_seesAlike_109 ?_
              refine lv_iload hx hb dX12_seesAlike_112 (lv_at hl 6 rfl) ?_
              refine n_iald hx hb hK hP 17 rfl (by omega) (by decide) dX12_seesAlike_114 ?_
              refine cS_p (rest := []) hC (c_aft l s0 ((F 24) c1) ((F 25) c1) (by omega) (by omega) (by omega)) kw_871 sy_X12_afterCall ⟨Nat.le_of_ble_eq_true rfl, Nat.le_of_ble_eq_true rfl⟩ ⟨rfl, rfl⟩ rfl hl.1 rfl (Nat.le_of_ble_eq_true rfl) dX12_seesAlike_115 ⟨Nat.le_of_ble_eq_true rfl, Nat.le_of_ble_eq_true rfl⟩ ?_
              have f_31 := aft_lt (st := s0) (pp := (F 24) c1) (qq := (F 25) c1) (by omega) (by omega) (by omega)
              refine lv_istore_n (lv' := [(3, .int (nI (aft s0 ((F 24) c1) ((F 25) c1)))), (2, .int (nI (aft (stS (N 5) (F 10) (F 11) c1) ((F 10) c1) ((F 11) c1)))), (6, .int (nI 1)), (5, .int (nI 0)), (0, .ref (ad 0)), (1, .int (nI pp)), (4, .int (nI c1))]) hx hb dX12_seesAlike_118 rfl hl (by decide) rfl (fun ls hl => ?_)
              refine lv_iload hx hb dX12_seesAlike_119 (lv_at hl 3 rfl) ?_
              refine lv_iload hx hb dX12_seesAlike_121 (lv_at hl 2 rfl) ?_
              refine n_icmp_ne (tgt := 178) hx hb (by omega) (by omega) dX12_seesAlike_123 (by decide) (fun _ => ?_) (fun c_32 => absurd c_32 (by decide))
              refine lv_iconst (v := nI 0) hx hb dX12_seesAlike_178 (by decide) ?_
              have hsee1 : seeC (N 5) (F 6) (F 10) (F 11) pp x0 c1 = false := by
                unfold seeC inC; rw [hs2, ← hr4.1, ← hr4.2]; simp only [Option.getD_some, hse, stS, decide_eq_false c_4, decide_eq_false c_28, decide_eq_true c_29, Bool.true_or, Bool.or_true, Bool.false_or, Bool.or_false, Bool.true_and, Bool.and_true, Bool.false_and, Bool.and_false, Bool.not_true, Bool.not_false, beq_self_eq_true] <;> rfl
              exact rz_bE hC (by rw [seeA, decide_eq_false (fun h => by rw [h c1 (by omega)] at hsee1; cases hsee1)]; rfl) dX12_seesAlike_179
            · -- f 63
              refine lv_aload_n hx hb dX12_seesAlike_63 rfl (lv_at hl 1 rfl) ?_
              refine va_get (D := E.1) (ci := 10) (v := .ref (ad 25)) (C := RX12) (T := TX12) (N := 30) hx hb hts iX12 hown hK hP 0 rfl rfl 25 (by decide) (hts _ kw_764) (fun _ h9 => h9) rfl dX12_seesAlike_64 ?_
              refine lv_iload hx hb dX12_seesAlike_67 (lv_at hl 5 rfl) ?_
              refine n_iald hx hb hK hP 17 rfl (by omega) (by decide) dX12_seesAlike_69 ?_
              refine lv_iload_n hx hb dX12_seesAlike_70 rfl (lv_at hl 2 rfl) ?_
              refine n_icmp_ne (tgt := 78) hx hb (by omega) (by omega) dX12_seesAlike_71 (by decide) (fun c_33 => ?_) (fun c_33 => ?_)
              · -- t 78
                refine lv_iconst (v := nI 0) hx hb dX12_seesAlike_78 (by decide) ?_
                refine lv_istore (lv' := [(6, .int (nI 0)), (5, .int (nI 0)), (0, .ref (ad 0)), (1, .int (nI pp)), (2, .int (nI (stS (N 5) (F 10) (F 11) c1))), (3, .int (nI s0)), (4, .int (nI c1))]) hx hb dX12_seesAlike_79 hl (by decide) rfl (fun ls hl => ?_)
                refine lv_iload_n hx hb dX12_seesAlike_81 rfl (lv_at hl 4 rfl) ?_
                refine lv_aload_n hx hb dX12_seesAlike_82 rfl (lv_at hl 2 rfl) ?_
                refine va_get (D := E.1) (ci := 10) (v := .ref (ad 10)) (C := RX12) (T := TX12) (N := 30) hx hb hts iX12 hown hK hP 0 rfl rfl 10 (by decide) (hts _ kw_749) (fun _ h9 => h9) rfl dX12_seesAlike_83 ?_
                refine lv_iload hx hb dX12_seesAlike_86 (lv_at hl 6 rfl) ?_
                refine n_iald hx hb hK hP 6 rfl (by omega) (by decide) dX12_seesAlike_88 ?_
                refine lv_aload_n hx hb dX12_seesAlike_89 rfl (lv_at hl 2 rfl) ?_
                refine va_get (D := E.1) (ci := 10) (v := .ref (ad 11)) (C := RX12) (T := TX12) (N := 30) hx hb hts iX12 hown hK hP 0 rfl rfl 11 (by decide) (hts _ kw_750) (fun _ h9 => h9) rfl dX12_seesAlike_90 ?_
                refine lv_iload hx hb dX12_seesAlike_93 (lv_at hl 6 rfl) ?_
                refine n_iald hx hb hK hP 7 rfl (by omega) (by decide) dX12_seesAlike_95 ?_
                refine cS_p (rest := []) hC (c_aft l (stS (N 5) (F 10) (F 11) c1) ((F 10) c1) ((F 11) c1) (by omega) (by omega) (by omega)) kw_871 sy_X12_afterCall ⟨Nat.le_of_ble_eq_true rfl, Nat.le_of_ble_eq_true rfl⟩ ⟨rfl, rfl⟩ rfl hl.1 rfl (Nat.le_of_ble_eq_true rfl) dX12_seesAlike_96 ⟨Nat.le_of_ble_eq_true rfl, Nat.le_of_ble_eq_true rfl⟩ ?_
                have f_34 := aft_lt (st := stS (N 5) (F 10) (F 11) c1) (pp := (F 10) c1) (qq := (F 11) c1) (by omega) (by omega) (by omega)
                refine lv_istore_n (lv' := [(2, .int (nI (aft (stS (N 5) (F 10) (F 11) c1) ((F 10) c1) ((F 11) c1)))), (6, .int (nI 0)), (5, .int (nI 0)), (0, .ref (ad 0)), (1, .int (nI pp)), (3, .int (nI s0)), (4, .int (nI c1))]) hx hb dX12_seesAlike_99 rfl hl (by decide) rfl (fun ls hl => ?_)
                refine lv_iload_n hx hb dX12_seesAlike_100 rfl (lv_at hl 5 rfl) ?_
                refine lv_aload_n hx hb dX12_seesAlike_101 rfl (lv_at hl 3 rfl) ?_
                refine va_get (D := E.1) (ci := 10) (v := .ref (ad 24)) (C := RX12) (T := TX12) (N := 30) hx hb hts iX12 hown hK hP 0 rfl rfl 24 (by decide) (hts _ kw_763) (fun _ h9 => h9) rfl dX12_seesAlike_102 ?_
                refine lv_iload hx hb dX12_seesAlike_105 (lv_at hl 6 rfl) ?_
                refine n_iald hx hb hK hP 16 rfl (by omega) (by decide) dX12_seesAlike_107 ?_
                refine lv_aload_n hx hb dX12_seesAlike_108 rfl (lv_at hl 3 rfl) ?_
                refine va_get (D := E.1) (ci := 10) (v := .ref (ad 25)) (C := RX12) (T := TX12) (N := 30) hx hb hts iX12 hown hK hP 0 rfl rfl 25 (by decide) (hts _ kw_764) (fun _ h9 => h9) rfl dX12_seesAlike_109 ?_
                refine lv_iload hx hb dX12_seesAlike_112 (lv_at hl 6 rfl) ?_
                refine n_iald hx hb hK hP 17 rfl (by omega) (by decide) dX12_seesAlike_114 ?_
                refine cS_p (rest := []) hC (c_aft l s0 ((F 24) c1) ((F 25) c1) (by omega) (by omega) (by omega)) kw_871 sy_X12_afterCall ⟨Nat.le_of_ble_eq_true rfl, Nat.le_of_ble_eq_true rfl⟩ ⟨rfl, rfl⟩ rfl hl.1 rfl (Nat.le_of_ble_eq_true rfl) dX12_seesAlike_115 ⟨Nat.le_of_ble_eq_true rfl, Nat.le_of_ble_eq_true rfl⟩ ?_
                have f_35 := aft_lt (st := s0) (pp := (F 24) c1) (qq := (F 25) c1) (by omega) (by omega) (by omega)
                refine lv_istore_n (lv' := [(3, .int (nI (aft s0 ((F 24) c1) ((F 25) c1)))), (2, .int (nI (aft (stS (N 5) (F 10) (F 11) c1) ((F 10) c1) ((F 11) c1)))), (6, .int (nI 0)), (5, .int (nI 0)), (0, .ref (ad 0)), (1, .int (nI pp)), (4, .int (nI c1))]) hx hb dX12_seesAlike_118 rfl hl (by decide) rfl (fun ls hl => ?_)
                refine lv_iload hx hb dX12_seesAlike_119 (lv_at hl 3 rfl) ?_
                refine lv_iload hx hb dX12_seesAlike_121 (lv_at hl 2 rfl) ?_
                refine n_icmp_ne (tgt := 178) hx hb (by omega) (by omega) dX12_seesAlike_123 (by decide) (fun c_36 => absurd rfl c_36) (fun _ => ?_)
                refine lv_iload hx hb dX12_seesAlike_126 (lv_at hl 3 rfl) ?_
                refine n_if_eq (tgt := 180) hx hb (by omega) dX12_seesAlike_128 (by decide) (fun _ => ?_) (fun c_37 => absurd rfl c_37)
                refine lv_iinc (v := nI (c1 + 1)) (lv' := [(4, .int (nI (c1 + 1))), (3, .int (nI (aft s0 ((F 24) c1) ((F 25) c1)))), (2, .int (nI (aft (stS (N 5) (F 10) (F 11) c1) ((F 10) c1) ((F 11) c1)))), (6, .int (nI 0)), (5, .int (nI 0)), (0, .ref (ad 0)), (1, .int (nI pp))]) hx hb dX12_seesAlike_180 hl (k := 6) rfl (ii_1 _) (by decide) rfl (fun ls hl => ?_)
                refine lv_goto (tgt := 14) hx hb dX12_seesAlike_183 (by decide) ?_
                have hsee1 : seeC (N 5) (F 6) (F 10) (F 11) pp x0 c1 = true := by
                  unfold seeC inC; rw [hs2, ← hr4.1, ← hr4.2]; simp only [Option.getD_some, hse, stS, decide_eq_false c_4, decide_eq_false c_28, decide_eq_false c_29, decide_eq_false c_33, Bool.true_or, Bool.or_true, Bool.false_or, Bool.or_false, Bool.true_and, Bool.and_true, Bool.false_and, Bool.and_false, Bool.not_true, Bool.not_false, beq_self_eq_true] <;> rfl
                exact ih_lp_2 (c1 + 1) (aft s0 (F 24 c1) (F 25 c1)) (by omega) (by rw [hs2, hse]) (fun c h => (by rcases Nat.lt_or_ge c c1 with h6 | h6; exact hsee c h6; rw [show c = c1 by omega]; exact hsee1)) (by omega) ls (lv_sub hl [5, 6, 2, 1, 0] rfl)
              · -- f 74
                refine lv_iconst (v := nI 1) hx hb dX12_seesAlike_74 (by decide) ?_
                refine lv_goto (tgt := 79) hx hb dX12_seesAlike_75 (by decide) ?_
                refine lv_istore (lv' := [(6, .int (nI 1)), (5, .int (nI 0)), (0, .ref (ad 0)), (1, .int (nI pp)), (2, .int (nI (stS (N 5) (F 10) (F 11) c1))), (3, .int (nI s0)), (4, .int (nI c1))]) hx hb dX12_seesAlike_79 hl (by decide) rfl (fun ls hl => ?_)
                refine lv_iload_n hx hb dX12_seesAlike_81 rfl (lv_at hl 4 rfl) ?_
                refine lv_aload_n hx hb dX12_seesAlike_82 rfl (lv_at hl 2 rfl) ?_
                refine va_get (D := E.1) (ci := 10) (v := .ref (ad 10)) (C := RX12) (T := TX12) (N := 30) hx hb hts iX12 hown hK hP 0 rfl rfl 10 (by decide) (hts _ kw_749) (fun _ h9 => h9) rfl dX12_seesAlike_83 ?_
                refine lv_iload hx hb dX12_seesAlike_86 (lv_at hl 6 rfl) ?_
                refine n_iald hx hb hK hP 6 rfl (by omega) (by decide) dX12_seesAlike_88 ?_
                refine lv_aload_n hx hb dX12_seesAlike_89 rfl (lv_at hl 2 rfl) ?_
                refine va_get (D := E.1) (ci := 10) (v := .ref (ad 11)) (C := RX12) (T := TX12) (N := 30) hx hb hts iX12 hown hK hP 0 rfl rfl 11 (by decide) (hts _ kw_750) (fun _ h9 => h9) rfl dX12_seesAlike_90 ?_
                refine lv_iload hx hb dX12_seesAlike_93 (lv_at hl 6 rfl) ?_
                refine n_iald hx hb hK hP 7 rfl (by omega) (by decide) dX12_seesAlike_95 ?_
                refine cS_p (rest := []) hC (c_aft l (stS (N 5) (F 10) (F 11) c1) ((F 10) c1) ((F 11) c1) (by omega) (by omega) (by omega)) kw_871 sy_X12_afterCall ⟨Nat.le_of_ble_eq_true rfl, Nat.le_of_ble_eq_true rfl⟩ ⟨rfl, rfl⟩ rfl hl.1 rfl (Nat.le_of_ble_eq_true rfl) dX12_seesAlike_96 ⟨Nat.le_of_ble_eq_true rfl, Nat.le_of_ble_eq_true rfl⟩ ?_
                have f_38 := aft_lt (st := stS (N 5) (F 10) (F 11) c1) (pp := (F 10) c1) (qq := (F 11) c1) (by omega) (by omega) (by omega)
                refine lv_istore_n (lv' := [(2, .int (nI (aft (stS (N 5) (F 10) (F 11) c1) ((F 10) c1) ((F 11) c1)))), (6, .int (nI 1)), (5, .int (nI 0)), (0, .ref (ad 0)), (1, .int (nI pp)), (3, .int (nI s0)), (4, .int (nI c1))]) hx hb dX12_seesAlike_99 rfl hl (by decide) rfl (fun ls hl => ?_)
                refine lv_iload_n hx hb dX12_seesAlike_100 rfl (lv_at hl 5 rfl) ?_
                refine lv_aload_n hx hb dX12_seesAlike_101 rfl (lv_at hl 3 rfl) ?_
                refine va_get (D := E.1) (ci := 10) (v := .ref (ad 24)) (C := RX12) (T := TX12) (N := 30) hx hb hts iX12 hown hK hP 0 rfl rfl 24 (by decide) (hts _ kw_763) (fun _ h9 => h9) rfl dX12_seesAlike_102 ?_
                refine lv_iload hx hb dX12_seesAlike_105 (lv_at hl 6 rfl) ?_
                refine n_iald hx hb hK hP 16 rfl (by omega) (by decide) dX12_seesAlike_107 ?_
                refine lv_aload_n hx hb dX12_seesAlike_108 rfl (lv_at hl 3 rfl) ?_
                refine va_get (D := E.1) (ci := 10) (v := .ref (ad 25)) (C := RX12) (T := TX12) (N := 30) hx hb hts iX12 hown hK hP 0 rfl rfl 25 (by decide) (hts _ kw_764) (fun _ h9 => h9) rfl dX12_seesAlike_109 ?_
                refine lv_iload hx hb dX12_seesAlike_112 (lv_at hl 6 rfl) ?_
                refine n_iald hx hb hK hP 17 rfl (by omega) (by decide) dX12_seesAlike_114 ?_
                refine cS_p (rest := []) hC (c_aft l s0 ((F 24) c1) ((F 25) c1) (by omega) (by omega) (by omega)) kw_871 sy_X12_afterCall ⟨Nat.le_of_ble_eq_true rfl, Nat.le_of_ble_eq_true rfl⟩ ⟨rfl, rfl⟩ rfl hl.1 rfl (Nat.le_of_ble_eq_true rfl) dX12_seesAlike_115 ⟨Nat.le_of_ble_eq_true rfl, Nat.le_of_ble_eq_true rfl⟩ ?_
                have f_39 := aft_lt (st := s0) (pp := (F 24) c1) (qq := (F 25) c1) (by omega) (by omega) (by omega)
                refine lv_istore_n (lv' := [(3, .int (nI (aft s0 ((F 24) c1) ((F 25) c1)))), (2, .int (nI (aft (stS (N 5) (F 10) (F 11) c1) ((F 10) c1) ((F 11) c1)))), (6, .int (nI 1)), (5, .int (nI 0)), (0, .ref (ad 0)), (1, .int (nI pp)), (4, .int (nI c1))]) hx hb dX12_seesAlike_118 rfl hl (by decide) rfl (fun ls hl => ?_)
                refine lv_iload hx hb dX12_seesAlike_119 (lv_at hl 3 rfl) ?_
                refine lv_iload hx hb dX12_seesAlike_121 (lv_at hl 2 rfl) ?_
                refine n_icmp_ne (tgt := 178) hx hb (by omega) (by omega) dX12_seesAlike_123 (by decide) (fun _ => ?_) (fun c_40 => absurd c_40 (by decide))
                refine lv_iconst (v := nI 0) hx hb dX12_seesAlike_178 (by decide) ?_
                have hsee1 : seeC (N 5) (F 6) (F 10) (F 11) pp x0 c1 = false := by
                  unfold seeC inC; rw [hs2, ← hr4.1, ← hr4.2]; simp only [Option.getD_some, hse, stS, decide_eq_false c_4, decide_eq_false c_28, decide_eq_false c_29, decide_eq_true c_33, Bool.true_or, Bool.or_true, Bool.false_or, Bool.or_false, Bool.true_and, Bool.and_true, Bool.false_and, Bool.and_false, Bool.not_true, Bool.not_false, beq_self_eq_true] <;> rfl
                exact rz_bE hC (by rw [seeA, decide_eq_false (fun h => by rw [h c1 (by omega)] at hsee1; cases hsee1)]; rfl) dX12_seesAlike_179
          · -- f 45
            refine lv_iconst (v := nI 1) hx hb dX12_seesAlike_45 (by decide) ?_
            refine lv_goto (tgt := 50) hx hb dX12_seesAlike_46 (by decide) ?_
            refine lv_istore (lv' := [(5, .int (nI 1)), (0, .ref (ad 0)), (1, .int (nI pp)), (2, .int (nI (stS (N 5) (F 10) (F 11) c1))), (3, .int (nI s0)), (4, .int (nI c1))]) hx hb dX12_seesAlike_50 hl (by decide) rfl (fun ls hl => ?_)
            refine lv_aload_n hx hb dX12_seesAlike_52 rfl (lv_at hl 1 rfl) ?_
            refine va_get (D := E.1) (ci := 10) (v := .ref (ad 24)) (C := RX12) (T := TX12) (N := 30) hx hb hts iX12 hown hK hP 0 rfl rfl 24 (by decide) (hts _ kw_763) (fun _ h9 => h9) rfl dX12_seesAlike_53 ?_
            refine lv_iload hx hb dX12_seesAlike_56 (lv_at hl 5 rfl) ?_
            refine n_iald hx hb hK hP 16 rfl (by omega) (by decide) dX12_seesAlike_58 ?_
            refine lv_iload_n hx hb dX12_seesAlike_59 rfl (lv_at hl 2 rfl) ?_
            refine n_icmp_eq (tgt := 74) hx hb (by omega) (by omega) dX12_seesAlike_60 (by decide) (fun c_41 => ?_) (fun c_41 => ?_)
            · -- t 74
              refine lv_iconst (v := nI 1) hx hb dX12_seesAlike_74 (by decide) ?_
              refine lv_goto (tgt := 79) hx hb dX12_seesAlike_75 (by decide) ?_
              refine lv_istore (lv' := [(6, .int (nI 1)), (5, .int (nI 1)), (0, .ref (ad 0)), (1, .int (nI pp)), (2, .int (nI (stS (N 5) (F 10) (F 11) c1))), (3, .int (nI s0)), (4, .int (nI c1))]) hx hb dX12_seesAlike_79 hl (by decide) rfl (fun ls hl => ?_)
              refine lv_iload_n hx hb dX12_seesAlike_81 rfl (lv_at hl 4 rfl) ?_
              refine lv_aload_n hx hb dX12_seesAlike_82 rfl (lv_at hl 2 rfl) ?_
              refine va_get (D := E.1) (ci := 10) (v := .ref (ad 10)) (C := RX12) (T := TX12) (N := 30) hx hb hts iX12 hown hK hP 0 rfl rfl 10 (by decide) (hts _ kw_749) (fun _ h9 => h9) rfl dX12_seesAlike_83 ?_
              refine lv_iload hx hb dX12_seesAlike_86 (lv_at hl 6 rfl) ?_
              refine n_iald hx hb hK hP 6 rfl (by omega) (by decide) dX12_seesAlike_88 ?_
              refine lv_aload_n hx hb dX12_seesAlike_89 rfl (lv_at hl 2 rfl) ?_
              refine va_get (D := E.1) (ci := 10) (v := .ref (ad 11)) (C := RX12) (T := TX12) (N := 30) hx hb hts iX12 hown hK hP 0 rfl rfl 11 (by decide) (hts _ kw_750) (fun _ h9 => h9) rfl dX12_seesAlike_90 ?_
              refine lv_iload hx hb dX12_seesAlike_93 (lv_at hl 6 rfl) ?_
              refine n_iald hx hb hK hP 7 rfl (by omega) (by decide) dX12_seesAlike_95 ?_
              refine cS_p (rest := []) hC (c_aft l (stS (N 5) (F 10) (F 11) c1) ((F 10) c1) ((F 11) c1) (by omega) (by omega) (by omega)) kw_871 sy_X12_afterCall ⟨Nat.le_of_ble_eq_true rfl, Nat.le_of_ble_eq_true rfl⟩ ⟨rfl, rfl⟩ rfl hl.1 rfl (Nat.le_of_ble_eq_true rfl) dX12_seesAlike_96 ⟨Nat.le_of_ble_eq_true rfl, Nat.le_of_ble_eq_true rfl⟩ ?_
              have f_42 := aft_lt (st := stS (N 5) (F 10) (F 11) c1) (pp := (F 10) c1) (qq := (F 11) c1) (by omega) (by omega) (by omega)
              refine lv_istore_n (lv' := [(2, .int (nI (aft (stS (N 5) (F 10) (F 11) c1) ((F 10) c1) ((F 11) c1)))), (6, .int (nI 1)), (5, .int (nI 1)), (0, .ref (ad 0)), (1, .int (nI pp)), (3, .int (nI s0)), (4, .int (nI c1))]) hx hb dX12_seesAlike_99 rfl hl (by decide) rfl (fun ls hl => ?_)
              refine lv_iload_n hx hb dX12_seesAlike_100 rfl (lv_at hl 5 rfl) ?_
              refine lv_aload_n hx hb dX12_seesAlike_101 rfl (lv_at hl 3 rfl) ?_
              refine va_get (D := E.1) (ci := 10) (v := .ref (ad 24)) (C := RX12) (T := TX12) (N := 30) hx hb hts iX12 hown hK hP 0 rfl rfl 24 (by decide) (hts _ kw_763) (fun _ h9 => h9) rfl dX12_seesAlike_102 ?_
              refine lv_iload hx hb dX12_seesAlike_105 (lv_at hl 6 rfl) ?_
              refine n_iald hx hb hK hP 16 rfl (by omega) (by decide) dX12_seesAlike_107 ?_
              refine lv_aload_n hx hb dX12_seesAlike_108 rfl (lv_at hl 3 rfl) ?_
              refine va_get (D := E.1) (ci := 10) (v := .ref (ad 25)) (C := RX12) (T := TX12) (N := 30) hx hb hts iX12 hown hK hP 0 rfl rfl 25 (by decide) (hts _ kw_764) (fun _ h9 => h9) rfl dX12_seesAlike_109 ?_
              refine lv_iload hx hb dX12_seesAlike_112 (lv_at hl 6 rfl) ?_
              refine n_iald hx hb hK hP 17 rfl (by omega) (by decide) dX12_seesAlike_114 ?_
              refine cS_p (rest := []) hC (c_aft l s0 ((F 24) c1) ((F 25) c1) (by omega) (by omega) (by omega)) kw_871 sy_X12_afterCall ⟨Nat.le_of_ble_eq_true rfl, Nat.le_of_ble_eq_true rfl⟩ ⟨rfl, rfl⟩ rfl hl.1 rfl (Nat.le_of_ble_eq_true rfl) dX12_seesAlike_115 ⟨Nat.le_of_ble_eq_true rfl, Nat.le_of_ble_eq_true rfl⟩ ?_
              have f_43 := aft_lt (st := s0) (pp := (F 24) c1) (qq := (F 25) c1) (by omega) (by omega) (by omega)
              refine lv_istore_n (lv' := [(3, .int (nI (aft s0 ((F 24) c1) ((F 25) c1)))), (2, .int (nI (aft (stS (N 5) (F 10) (F 11) c1) ((F 10) c1) ((F 11) c1)))), (6, .int (nI 1)), (5, .int (nI 1)), (0, .ref (ad 0)), (1, .int (nI pp)), (4, .int (nI c1))]) hx hb dX12_seesAlike_118 rfl hl (by decide) rfl (fun ls hl => ?_)
              refine lv_iload hx hb dX12_seesAlike_119 (lv_at hl 3 rfl) ?_
              refine lv_iload hx hb dX12_seesAlike_121 (lv_at hl 2 rfl) ?_
              refine n_icmp_ne (tgt := 178) hx hb (by omega) (by omega) dX12_seesAlike_123 (by decide) (fun c_44 => absurd rfl c_44) (fun _ => ?_)
              refine lv_iload hx hb dX12_seesAlike_126 (lv_at hl 3 rfl) ?_
              refine n_if_eq (tgt := 180) hx hb (by omega) dX12_seesAlike_128 (by decide) (fun c_45 => absurd c_45 (by decide)) (fun _ => ?_)
              refine lv_aload_n hx hb dX12_seesAlike_131 rfl (lv_at hl 4 rfl) ?_
              refine va_get (D := E.1) (ci := 10) (v := .ref (ad 10)) (C := RX12) (T := TX12) (N := 30) hx hb hts iX12 hown hK hP 0 rfl rfl 10 (by decide) (hts _ kw_749) (fun _ h9 => h9) rfl dX12_seesAlike_132 ?_
              refine lv_iload hx hb dX12_seesAlike_135 (lv_at hl 6 rfl) ?_
              refine n_iald hx hb hK hP 6 rfl (by omega) (by decide) dX12_seesAlike_137 ?_
              refine lv_aload_n hx hb dX12_seesAlike_138 rfl (lv_at hl 4 rfl) ?_
              refine va_get (D := E.1) (ci := 10) (v := .ref (ad 24)) (C := RX12) (T := TX12) (N := 30) hx hb hts iX12 hown hK hP 0 rfl rfl 24 (by decide) (hts _ kw_763) (fun _ h9 => h9) rfl dX12_seesAlike_139 ?_
              refine lv_iload hx hb dX12_seesAlike_142 (lv_at hl 6 rfl) ?_
              refine n_iald hx hb hK hP 16 rfl (by omega) (by decide) dX12_seesAlike_144 ?_
              refine n_icmp_ne (tgt := 178) hx hb (by omega) (by omega) dX12_seesAlike_145 (by decide) (fun c_46 => ?_) (fun c_46 => ?_)
              · -- t 178
                refine lv_iconst (v := nI 0) hx hb dX12_seesAlike_178 (by decide) ?_
                have hsee1 : seeC (N 5) (F 6) (F 10) (F 11) pp x0 c1 = false := by
                  unfold seeC inC; rw [hs2, ← hr4.1, ← hr4.2]; simp only [Option.getD_some, hse, stS, decide_eq_false c_4, decide_eq_true c_28, decide_eq_true c_41, decide_eq_false c_46, Bool.true_or, Bool.or_true, Bool.false_or, Bool.or_false, Bool.true_and, Bool.and_true, Bool.false_and, Bool.and_false, Bool.not_true, Bool.not_false, beq_self_eq_true] <;> rfl
                exact rz_bE hC (by rw [seeA, decide_eq_false (fun h => by rw [h c1 (by omega)] at hsee1; cases hsee1)]; rfl) dX12_seesAlike_179
              · -- f 148
                refine lv_aload_n hx hb dX12_seesAlike_148 rfl (lv_at hl 4 rfl) ?_
                refine va_get (D := E.1) (ci := 10) (v := .ref (ad 11)) (C := RX12) (T := TX12) (N := 30) hx hb hts iX12 hown hK hP 0 rfl rfl 11 (by decide) (hts _ kw_750) (fun _ h9 => h9) rfl dX12_seesAlike_149 ?_
                refine lv_iload hx hb dX12_seesAlike_152 (lv_at hl 6 rfl) ?_
                refine n_iald hx hb hK hP 7 rfl (by omega) (by decide) dX12_seesAlike_154 ?_
                refine lv_aload_n hx hb dX12_seesAlike_155 rfl (lv_at hl 4 rfl) ?_
                refine va_get (D := E.1) (ci := 10) (v := .ref (ad 25)) (C := RX12) (T := TX12) (N := 30) hx hb hts iX12 hown hK hP 0 rfl rfl 25 (by decide) (hts _ kw_764) (fun _ h9 => h9) rfl dX12_seesAlike_156 ?_
                refine lv_iload hx hb dX12_seesAlike_159 (lv_at hl 6 rfl) ?_
                refine n_iald hx hb hK hP 17 rfl (by omega) (by decide) dX12_seesAlike_161 ?_
                refine n_icmp_ne (tgt := 178) hx hb (by omega) (by omega) dX12_seesAlike_162 (by decide) (fun c_47 => ?_) (fun c_47 => ?_)
                · -- t 178
                  refine lv_iconst (v := nI 0) hx hb dX12_seesAlike_178 (by decide) ?_
                  have hsee1 : seeC (N 5) (F 6) (F 10) (F 11) pp x0 c1 = false := by
                    unfold seeC inC; rw [hs2, ← hr4.1, ← hr4.2]; simp only [Option.getD_some, hse, stS, decide_eq_false c_4, decide_eq_true c_28, decide_eq_true c_41, decide_eq_true c_46, decide_eq_false c_47, Bool.true_or, Bool.or_true, Bool.false_or, Bool.or_false, Bool.true_and, Bool.and_true, Bool.false_and, Bool.and_false, Bool.not_true, Bool.not_false, beq_self_eq_true] <;> rfl
                  exact rz_bE hC (by rw [seeA, decide_eq_false (fun h => by rw [h c1 (by omega)] at hsee1; cases hsee1)]; rfl) dX12_seesAlike_179
                · -- f 165
                  refine lv_iload_n hx hb dX12_seesAlike_165 rfl (lv_at hl 1 rfl) ?_
                  refine lv_iload_n hx hb dX12_seesAlike_166 rfl (lv_at hl 5 rfl) ?_
                  refine cS_p (rest := []) hC (c_of l (aft (stS (N 5) (F 10) (F 11) c1) ((F 10) c1) ((F 11) c1)) pp (by omega) (by omega)) kw_874 sy_X12_of ⟨Nat.le_of_ble_eq_true rfl, Nat.le_of_ble_eq_true rfl⟩ ⟨rfl, rfl⟩ rfl hl.1 rfl (Nat.le_of_ble_eq_true rfl) dX12_seesAlike_167 ⟨Nat.le_of_ble_eq_true rfl, Nat.le_of_ble_eq_true rfl⟩ ?_
                  have f_48 := of4_lt (aft (stS (N 5) (F 10) (F 11) c1) ((F 10) c1) ((F 11) c1)) pp
                  refine lv_iload_n hx hb dX12_seesAlike_170 rfl (lv_at hl 0 rfl) ?_
                  refine lv_iload_n hx hb dX12_seesAlike_171 rfl (lv_at hl 5 rfl) ?_
                  refine cS_p (rest := [.int (nI (of4 (aft (stS (N 5) (F 10) (F 11) c1) ((F 10) c1) ((F 11) c1)) pp))]) hC (c_of l (aft s0 ((F 24) c1) ((F 25) c1)) pp (by omega) (by omega)) kw_874 sy_X12_of ⟨Nat.le_of_ble_eq_true rfl, Nat.le_of_ble_eq_true rfl⟩ ⟨rfl, rfl⟩ rfl hl.1 rfl (Nat.le_of_ble_eq_true rfl) dX12_seesAlike_172 ⟨Nat.le_of_ble_eq_true rfl, Nat.le_of_ble_eq_true rfl⟩ ?_
                  have f_49 := of4_lt (aft s0 ((F 24) c1) ((F 25) c1)) pp
                  refine n_icmp_eq (tgt := 180) hx hb (by omega) (by omega) dX12_seesAlike_175 (by decide) (fun c_50 => ?_) (fun c_50 => ?_)
                  · -- t 180
                    refine lv_iinc (v := nI (c1 + 1)) (lv' := [(4, .int (nI (c1 + 1))), (3, .int (nI (aft s0 ((F 24) c1) ((F 25) c1)))), (2, .int (nI (aft (stS (N 5) (F 10) (F 11) c1) ((F 10) c1) ((F 11) c1)))), (6, .int (nI 1)), (5, .int (nI 1)), (0, .ref (ad 0)), (1, .int (nI pp))]) hx hb dX12_seesAlike_180 hl (k := 6) rfl (ii_1 _) (by decide) rfl (fun ls hl => ?_)
                    refine lv_goto (tgt := 14) hx hb dX12_seesAlike_183 (by decide) ?_
                    have hsee1 : seeC (N 5) (F 6) (F 10) (F 11) pp x0 c1 = true := by
                      unfold seeC inC; rw [hs2, ← hr4.1, ← hr4.2]; simp only [Option.getD_some, hse, stS, decide_eq_false c_4, decide_eq_true c_28, decide_eq_true c_41, decide_eq_true c_46, decide_eq_true c_47, decide_eq_true c_50, Bool.true_or, Bool.or_true, Bool.false_or, Bool.or_false, Bool.true_and, Bool.and_true, Bool.false_and, Bool.and_false, Bool.not_true, Bool.not_false, beq_self_eq_true] <;> rfl
                    exact ih_lp_2 (c1 + 1) (aft s0 (F 24 c1) (F 25 c1)) (by omega) (by rw [hs2, hse]) (fun c h => (by rcases Nat.lt_or_ge c c1 with h6 | h6; exact hsee c h6; rw [show c = c1 by omega]; exact hsee1)) (by omega) ls (lv_sub hl [5, 6, 2, 1, 0] rfl)
                  · -- f 178
                    refine lv_iconst (v := nI 0) hx hb dX12_seesAlike_178 (by decide) ?_
                    have hsee1 : seeC (N 5) (F 6) (F 10) (F 11) pp x0 c1 = false := by
                      unfold seeC inC; rw [hs2, ← hr4.1, ← hr4.2]; simp only [Option.getD_some, hse, stS, decide_eq_false c_4, decide_eq_true c_28, decide_eq_true c_41, decide_eq_true c_46, decide_eq_true c_47, decide_eq_false c_50, Bool.true_or, Bool.or_true, Bool.false_or, Bool.or_false, Bool.true_and, Bool.and_true, Bool.false_and, Bool.and_false, Bool.not_true, Bool.not_false, beq_self_eq_true] <;> rfl
                    exact rz_bE hC (by rw [seeA, decide_eq_false (fun h => by rw [h c1 (by omega)] at hsee1; cases hsee1)]; rfl) dX12_seesAlike_179
            · -- f 63
              refine lv_aload_n hx hb dX12_seesAlike_63 rfl (lv_at hl 1 rfl) ?_
              refine va_get (D := E.1) (ci := 10) (v := .ref (ad 25)) (C := RX12) (T := TX12) (N := 30) hx hb hts iX12 hown hK hP 0 rfl rfl 25 (by decide) (hts _ kw_764) (fun _ h9 => h9) rfl dX12_seesAlike_64 ?_
              refine lv_iload hx hb dX12_seesAlike_67 (lv_at hl 5 rfl) ?_
              refine n_iald hx hb hK hP 17 rfl (by omega) (by decide) dX12_seesAlike_69 ?_
              refine lv_iload_n hx hb dX12_seesAlike_70 rfl (lv_at hl 2 rfl) ?_
              refine n_icmp_ne (tgt := 78) hx hb (by omega) (by omega) dX12_seesAlike_71 (by decide) (fun c_51 => ?_) (fun c_51 => ?_)
              · -- t 78
                refine lv_iconst (v := nI 0) hx hb dX12_seesAlike_78 (by decide) ?_
                refine lv_istore (lv' := [(6, .int (nI 0)), (5, .int (nI 1)), (0, .ref (ad 0)), (1, .int (nI pp)), (2, .int (nI (stS (N 5) (F 10) (F 11) c1))), (3, .int (nI s0)), (4, .int (nI c1))]) hx hb dX12_seesAlike_79 hl (by decide) rfl (fun ls hl => ?_)
                refine lv_iload_n hx hb dX12_seesAlike_81 rfl (lv_at hl 4 rfl) ?_
                refine lv_aload_n hx hb dX12_seesAlike_82 rfl (lv_at hl 2 rfl) ?_
                refine va_get (D := E.1) (ci := 10) (v := .ref (ad 10)) (C := RX12) (T := TX12) (N := 30) hx hb hts iX12 hown hK hP 0 rfl rfl 10 (by decide) (hts _ kw_749) (fun _ h9 => h9) rfl dX12_seesAlike_83 ?_
                refine lv_iload hx hb dX12_seesAlike_86 (lv_at hl 6 rfl) ?_
                refine n_iald hx hb hK hP 6 rfl (by omega) (by decide) dX12_seesAlike_88 ?_
                refine lv_aload_n hx hb dX12_seesAlike_89 rfl (lv_at hl 2 rfl) ?_
                refine va_get (D := E.1) (ci := 10) (v := .ref (ad 11)) (C := RX12) (T := TX12) (N := 30) hx hb hts iX12 hown hK hP 0 rfl rfl 11 (by decide) (hts _ kw_750) (fun _ h9 => h9) rfl dX12_seesAlike_90 ?_
                refine lv_iload hx hb dX12_seesAlike_93 (lv_at hl 6 rfl) ?_
                refine n_iald hx hb hK hP 7 rfl (by omega) (by decide) dX12_seesAlike_95 ?_
                refine cS_p (rest := []) hC (c_aft l (stS (N 5) (F 10) (F 11) c1) ((F 10) c1) ((F 11) c1) (by omega) (by omega) (by omega)) kw_871 sy_X12_afterCall ⟨Nat.le_of_ble_eq_true rfl, Nat.le_of_ble_eq_true rfl⟩ ⟨rfl, rfl⟩ rfl hl.1 rfl (Nat.le_of_ble_eq_true rfl) dX12_seesAlike_96 ⟨Nat.le_of_ble_eq_true rfl, Nat.le_of_ble_eq_true rfl⟩ ?_
                have f_52 := aft_lt (st := stS (N 5) (F 10) (F 11) c1) (pp := (F 10) c1) (qq := (F 11) c1) (by omega) (by omega) (by omega)
                refine lv_istore_n (lv' := [(2, .int (nI (aft (stS (N 5) (F 10) (F 11) c1) ((F 10) c1) ((F 11) c1)))), (6, .int (nI 0)), (5, .int (nI 1)), (0, .ref (ad 0)), (1, .int (nI pp)), (3, .int (nI s0)), (4, .int (nI c1))]) hx hb dX12_seesAlike_99 rfl hl (by decide) rfl (fun ls hl => ?_)
                refine lv_iload_n hx hb dX12_seesAlike_100 rfl (lv_at hl 5 rfl) ?_
                refine lv_aload_n hx hb dX12_seesAlike_101 rfl (lv_at hl 3 rfl) ?_
                refine va_get (D := E.1) (ci := 10) (v := .ref (ad 24)) (C := RX12) (T := TX12) (N := 30) hx hb hts iX12 hown hK hP 0 rfl rfl 24 (by decide) (hts _ kw_763) (fun _ h9 => h9) rfl dX12_seesAlike_102 ?_
                refine lv_iload hx hb dX12_seesAlike_105 (lv_at hl 6 rfl) ?_
                refine n_iald hx hb hK hP 16 rfl (by omega) (by decide) dX12_seesAlike_107 ?_
                refine lv_aload_n hx hb dX12_seesAlike_108 rfl (lv_at hl 3 rfl) ?_
                refine va_get (D := E.1) (ci := 10) (v := .ref (ad 25)) (C := RX12) (T := TX12) (N := 30) hx hb hts iX12 hown hK hP 0 rfl rfl 25 (by decide) (hts _ kw_764) (fun _ h9 => h9) rfl dX12_seesAlike_109 ?_
                refine lv_iload hx hb dX12_seesAlike_112 (lv_at hl 6 rfl) ?_
                refine n_iald hx hb hK hP 17 rfl (by omega) (by decide) dX12_seesAlike_114 ?_
                refine cS_p (rest := []) hC (c_aft l s0 ((F 24) c1) ((F 25) c1) (by omega) (by omega) (by omega)) kw_871 sy_X12_afterCall ⟨Nat.le_of_ble_eq_true rfl, Nat.le_of_ble_eq_true rfl⟩ ⟨rfl, rfl⟩ rfl hl.1 rfl (Nat.le_of_ble_eq_true rfl) dX12_seesAlike_115 ⟨Nat.le_of_ble_eq_true rfl, Nat.le_of_ble_eq_true rfl⟩ ?_
                have f_53 := aft_lt (st := s0) (pp := (F 24) c1) (qq := (F 25) c1) (by omega) (by omega) (by omega)
                refine lv_istore_n (lv' := [(3, .int (nI (aft s0 ((F 24) c1) ((F 25) c1)))), (2, .int (nI (aft (stS (N 5) (F 10) (F 11) c1) ((F 10) c1) ((F 11) c1)))), (6, .int (nI 0)), (5, .int (nI 1)), (0, .ref (ad 0)), (1, .int (nI pp)), (4, .int (nI c1))]) hx hb dX12_seesAlike_118 rfl hl (by decide) rfl (fun ls hl => ?_)
                refine lv_iload hx hb dX12_seesAlike_119 (lv_at hl 3 rfl) ?_
                refine lv_iload hx hb dX12_seesAlike_121 (lv_at hl 2 rfl) ?_
                refine n_icmp_ne (tgt := 178) hx hb (by omega) (by omega) dX12_seesAlike_123 (by decide) (fun _ => ?_) (fun c_54 => absurd c_54 (by decide))
                refine lv_iconst (v := nI 0) hx hb dX12_seesAlike_178 (by decide) ?_
                have hsee1 : seeC (N 5) (F 6) (F 10) (F 11) pp x0 c1 = false := by
                  unfold seeC inC; rw [hs2, ← hr4.1, ← hr4.2]; simp only [Option.getD_some, hse, stS, decide_eq_false c_4, decide_eq_true c_28, decide_eq_false c_41, decide_eq_false c_51, Bool.true_or, Bool.or_true, Bool.false_or, Bool.or_false, Bool.true_and, Bool.and_true, Bool.false_and, Bool.and_false, Bool.not_true, Bool.not_false, beq_self_eq_true] <;> rfl
                exact rz_bE hC (by rw [seeA, decide_eq_false (fun h => by rw [h c1 (by omega)] at hsee1; cases hsee1)]; rfl) dX12_seesAlike_179
              · -- f 74
                refine lv_iconst (v := nI 1) hx hb dX12_seesAlike_74 (by decide) ?_
                refine lv_goto (tgt := 79) hx hb dX12_seesAlike_75 (by decide) ?_
                refine lv_istore (lv' := [(6, .int (nI 1)), (5, .int (nI 1)), (0, .ref (ad 0)), (1, .int (nI pp)), (2, .int (nI (stS (N 5) (F 10) (F 11) c1))), (3, .int (nI s0)), (4, .int (nI c1))]) hx hb dX12_seesAlike_79 hl (by decide) rfl (fun ls hl => ?_)
                refine lv_iload_n hx hb dX12_seesAlike_81 rfl (lv_at hl 4 rfl) ?_
                refine lv_aload_n hx hb dX12_seesAlike_82 rfl (lv_at hl 2 rfl) ?_
                refine va_get (D := E.1) (ci := 10) (v := .ref (ad 10)) (C := RX12) (T := TX12) (N := 30) hx hb hts iX12 hown hK hP 0 rfl rfl 10 (by decide) (hts _ kw_749) (fun _ h9 => h9) rfl dX12_seesAlike_83 ?_
                refine lv_iload hx hb dX12_seesAlike_86 (lv_at hl 6 rfl) ?_
                refine n_iald hx hb hK hP 6 rfl (by omega) (by decide) dX12_seesAlike_88 ?_
                refine lv_aload_n hx hb dX12_seesAlike_89 rfl (lv_at hl 2 rfl) ?_
                refine va_get (D := E.1) (ci := 10) (v := .ref (ad 11)) (C := RX12) (T := TX12) (N := 30) hx hb hts iX12 hown hK hP 0 rfl rfl 11 (by decide) (hts _ kw_750) (fun _ h9 => h9) rfl dX12_seesAlike_90 ?_
                refine lv_iload hx hb dX12_seesAlike_93 (lv_at hl 6 rfl) ?_
                refine n_iald hx hb hK hP 7 rfl (by omega) (by decide) dX12_seesAlike_95 ?_
                refine cS_p (rest := []) hC (c_aft l (stS (N 5) (F 10) (F 11) c1) ((F 10) c1) ((F 11) c1) (by omega) (by omega) (by omega)) kw_871 sy_X12_afterCall ⟨Nat.le_of_ble_eq_true rfl, Nat.le_of_ble_eq_true rfl⟩ ⟨rfl, rfl⟩ rfl hl.1 rfl (Nat.le_of_ble_eq_true rfl) dX12_seesAlike_96 ⟨Nat.le_of_ble_eq_true rfl, Nat.le_of_ble_eq_true rfl⟩ ?_
                have f_55 := aft_lt (st := stS (N 5) (F 10) (F 11) c1) (pp := (F 10) c1) (qq := (F 11) c1) (by omega) (by omega) (by omega)
                refine lv_istore_n (lv' := [(2, .int (nI (aft (stS (N 5) (F 10) (F 11) c1) ((F 10) c1) ((F 11) c1)))), (6, .int (nI 1)), (5, .int (nI 1)), (0, .ref (ad 0)), (1, .int (nI pp)), (3, .int (nI s0)), (4, .int (nI c1))]) hx hb dX12_seesAlike_99 rfl hl (by decide) rfl (fun ls hl => ?_)
                refine lv_iload_n hx hb dX12_seesAlike_100 rfl (lv_at hl 5 rfl) ?_
                refine lv_aload_n hx hb dX12_seesAlike_101 rfl (lv_at hl 3 rfl) ?_
                refine va_get (D := E.1) (ci := 10) (v := .ref (ad 24)) (C := RX12) (T := TX12) (N := 30) hx hb hts iX12 hown hK hP 0 rfl rfl 24 (by decide) (hts _ kw_763) (fun _ h9 => h9) rfl dX12_seesAlike_102 ?_
                refine lv_iload hx hb dX12_seesAlike_105 (lv_at hl 6 rfl) ?_
                refine n_iald hx hb hK hP 16 rfl (by omega) (by decide) dX12_seesAlike_107 ?_
                refine lv_aload_n hx hb dX12_seesAlike_108 rfl (lv_at hl 3 rfl) ?_
                refine va_get (D := E.1) (ci := 10) (v := .ref (ad 25)) (C := RX12) (T := TX12) (N := 30) hx hb hts iX12 hown hK hP 0 rfl rfl 25 (by decide) (hts _ kw_764) (fun _ h9 => h9) rfl dX12_seesAlike_109 ?_
                refine lv_iload hx hb dX12_seesAlike_112 (lv_at hl 6 rfl) ?_
                refine n_iald hx hb hK hP 17 rfl (by omega) (by decide) dX12_seesAlike_114 ?_
                refine cS_p (rest := []) hC (c_aft l s0 ((F 24) c1) ((F 25) c1) (by omega) (by omega) (by omega)) kw_871 sy_X12_afterCall ⟨Nat.le_of_ble_eq_true rfl, Nat.le_of_ble_eq_true rfl⟩ ⟨rfl, rfl⟩ rfl hl.1 rfl (Nat.le_of_ble_eq_true rfl) dX12_seesAlike_115 ⟨Nat.le_of_ble_eq_true rfl, Nat.le_of_ble_eq_true rfl⟩ ?_
                have f_56 := aft_lt (st := s0) (pp := (F 24) c1) (qq := (F 25) c1) (by omega) (by omega) (by omega)
                refine lv_istore_n (lv' := [(3, .int (nI (aft s0 ((F 24) c1) ((F 25) c1)))), (2, .int (nI (aft (stS (N 5) (F 10) (F 11) c1) ((F 10) c1) ((F 11) c1)))), (6, .int (nI 1)), (5, .int (nI 1)), (0, .ref (ad 0)), (1, .int (nI pp)), (4, .int (nI c1))]) hx hb dX12_seesAlike_118 rfl hl (by decide) rfl (fun ls hl => ?_)
                refine lv_iload hx hb dX12_seesAlike_119 (lv_at hl 3 rfl) ?_
                refine lv_iload hx hb dX12_seesAlike_121 (lv_at hl 2 rfl) ?_
                refine n_icmp_ne (tgt := 178) hx hb (by omega) (by omega) dX12_seesAlike_123 (by decide) (fun c_57 => absurd rfl c_57) (fun _ => ?_)
                refine lv_iload hx hb dX12_seesAlike_126 (lv_at hl 3 rfl) ?_
                refine n_if_eq (tgt := 180) hx hb (by omega) dX12_seesAlike_128 (by decide) (fun c_58 => absurd c_58 (by decide)) (fun _ => ?_)
                refine lv_aload_n hx hb dX12_seesAlike_131 rfl (lv_at hl 4 rfl) ?_
                refine va_get (D := E.1) (ci := 10) (v := .ref (ad 10)) (C := RX12) (T := TX12) (N := 30) hx hb hts iX12 hown hK hP 0 rfl rfl 10 (by decide) (hts _ kw_749) (fun _ h9 => h9) rfl dX12_seesAlike_132 ?_
                refine lv_iload hx hb dX12_seesAlike_135 (lv_at hl 6 rfl) ?_
                refine n_iald hx hb hK hP 6 rfl (by omega) (by decide) dX12_seesAlike_137 ?_
                refine lv_aload_n hx hb dX12_seesAlike_138 rfl (lv_at hl 4 rfl) ?_
                refine va_get (D := E.1) (ci := 10) (v := .ref (ad 24)) (C := RX12) (T := TX12) (N := 30) hx hb hts iX12 hown hK hP 0 rfl rfl 24 (by decide) (hts _ kw_763) (fun _ h9 => h9) rfl dX12_seesAlike_139 ?_
                refine lv_iload hx hb dX12_seesAlike_142 (lv_at hl 6 rfl) ?_
                refine n_iald hx hb hK hP 16 rfl (by omega) (by decide) dX12_seesAlike_144 ?_
                refine n_icmp_ne (tgt := 178) hx hb (by omega) (by omega) dX12_seesAlike_145 (by decide) (fun c_59 => ?_) (fun c_59 => ?_)
                · -- t 178
                  refine lv_iconst (v := nI 0) hx hb dX12_seesAlike_178 (by decide) ?_
                  have hsee1 : seeC (N 5) (F 6) (F 10) (F 11) pp x0 c1 = false := by
                    unfold seeC inC; rw [hs2, ← hr4.1, ← hr4.2]; simp only [Option.getD_some, hse, stS, decide_eq_false c_4, decide_eq_true c_28, decide_eq_false c_41, decide_eq_true c_51, decide_eq_false c_59, Bool.true_or, Bool.or_true, Bool.false_or, Bool.or_false, Bool.true_and, Bool.and_true, Bool.false_and, Bool.and_false, Bool.not_true, Bool.not_false, beq_self_eq_true] <;> rfl
                  exact rz_bE hC (by rw [seeA, decide_eq_false (fun h => by rw [h c1 (by omega)] at hsee1; cases hsee1)]; rfl) dX12_seesAlike_179
                · -- f 148
                  refine lv_aload_n hx hb dX12_seesAlike_148 rfl (lv_at hl 4 rfl) ?_
                  refine va_get (D := E.1) (ci := 10) (v := .ref (ad 11)) (C := RX12) (T := TX12) (N := 30) hx hb hts iX12 hown hK hP 0 rfl rfl 11 (by decide) (hts _ kw_750) (fun _ h9 => h9) rfl dX12_seesAlike_149 ?_
                  refine lv_iload hx hb dX12_seesAlike_152 (lv_at hl 6 rfl) ?_
                  refine n_iald hx hb hK hP 7 rfl (by omega) (by decide) dX12_seesAlike_154 ?_
                  refine lv_aload_n hx hb dX12_seesAlike_155 rfl (lv_at hl 4 rfl) ?_
                  refine va_get (D := E.1) (ci := 10) (v := .ref (ad 25)) (C := RX12) (T := TX12) (N := 30) hx hb hts iX12 hown hK hP 0 rfl rfl 25 (by decide) (hts _ kw_764) (fun _ h9 => h9) rfl dX12_seesAlike_156 ?_
                  refine lv_iload hx hb dX12_seesAlike_159 (lv_at hl 6 rfl) ?_
                  refine n_iald hx hb hK hP 17 rfl (by omega) (by decide) dX12_seesAlike_161 ?_
                  refine n_icmp_ne (tgt := 178) hx hb (by omega) (by omega) dX12_seesAlike_162 (by decide) (fun c_60 => ?_) (fun c_60 => ?_)
                  · -- t 178
                    refine lv_iconst (v := nI 0) hx hb dX12_seesAlike_178 (by decide) ?_
                    have hsee1 : seeC (N 5) (F 6) (F 10) (F 11) pp x0 c1 = false := by
                      unfold seeC inC; rw [hs2, ← hr4.1, ← hr4.2]; simp only [Option.getD_some, hse, stS, decide_eq_false c_4, decide_eq_true c_28, decide_eq_false c_41, decide_eq_true c_51, decide_eq_true c_59, decide_eq_false c_60, Bool.true_or, Bool.or_true, Bool.false_or, Bool.or_false, Bool.true_and, Bool.and_true, Bool.false_and, Bool.and_false, Bool.not_true, Bool.not_false, beq_self_eq_true] <;> rfl
                    exact rz_bE hC (by rw [seeA, decide_eq_false (fun h => by rw [h c1 (by omega)] at hsee1; cases hsee1)]; rfl) dX12_seesAlike_179
                  · -- f 165
                    refine lv_iload_n hx hb dX12_seesAlike_165 rfl (lv_at hl 1 rfl) ?_
                    refine lv_iload_n hx hb dX12_seesAlike_166 rfl (lv_at hl 5 rfl) ?_
                    refine cS_p (rest := []) hC (c_of l (aft (stS (N 5) (F 10) (F 11) c1) ((F 10) c1) ((F 11) c1)) pp (by omega) (by omega)) kw_874 sy_X12_of ⟨Nat.le_of_ble_eq_true rfl, Nat.le_of_ble_eq_true rfl⟩ ⟨rfl, rfl⟩ rfl hl.1 rfl (Nat.le_of_ble_eq_true rfl) dX12_seesAlike_167 ⟨Nat.le_of_ble_eq_true rfl, Nat.le_of_ble_eq_true rfl⟩ ?_
                    have f_61 := of4_lt (aft (stS (N 5) (F 10) (F 11) c1) ((F 10) c1) ((F 11) c1)) pp
                    refine lv_iload_n hx hb dX12_seesAlike_170 rfl (lv_at hl 0 rfl) ?_
                    refine lv_iload_n hx hb dX12_seesAlike_171 rfl (lv_at hl 5 rfl) ?_
                    refine cS_p (rest := [.int (nI (of4 (aft (stS (N 5) (F 10) (F 11) c1) ((F 10) c1) ((F 11) c1)) pp))]) hC (c_of l (aft s0 ((F 24) c1) ((F 25) c1)) pp (by omega) (by omega)) kw_874 sy_X12_of ⟨Nat.le_of_ble_eq_true rfl, Nat.le_of_ble_eq_true rfl⟩ ⟨rfl, rfl⟩ rfl hl.1 rfl (Nat.le_of_ble_eq_true rfl) dX12_seesAlike_172 ⟨Nat.le_of_ble_eq_true rfl, Nat.le_of_ble_eq_true rfl⟩ ?_
                    have f_62 := of4_lt (aft s0 ((F 24) c1) ((F 25) c1)) pp
                    refine n_icmp_eq (tgt := 180) hx hb (by omega) (by omega) dX12_seesAlike_175 (by decide) (fun c_63 => ?_) (fun c_63 => ?_)
                    · -- t 180
                      refine lv_iinc (v := nI (c1 + 1)) (lv' := [(4, .int (nI (c1 + 1))), (3, .int (nI (aft s0 ((F 24) c1) ((F 25) c1)))), (2, .int (nI (aft (stS (N 5) (F 10) (F 11) c1) ((F 10) c1) ((F 11) c1)))), (6, .int (nI 1)), (5, .int (nI 1)), (0, .ref (ad 0)), (1, .int (nI pp))]) hx hb dX12_seesAlike_180 hl (k := 6) rfl (ii_1 _) (by decide) rfl (fun ls hl => ?_)
                      refine lv_goto (tgt := 14) hx hb dX12_seesAlike_183 (by decide) ?_
                      have hsee1 : seeC (N 5) (F 6) (F 10) (F 11) pp x0 c1 = true := by
                        unfold seeC inC; rw [hs2, ← hr4.1, ← hr4.2]; simp only [Option.getD_some, hse, stS, decide_eq_false c_4, decide_eq_true c_28, decide_eq_false c_41, decide_eq_true c_51, decide_eq_true c_59, decide_eq_true c_60, decide_eq_true c_63, Bool.true_or, Bool.or_true, Bool.false_or, Bool.or_false, Bool.true_and, Bool.and_true, Bool.false_and, Bool.and_false, Bool.not_true, Bool.not_false, beq_self_eq_true] <;> rfl
                      exact ih_lp_2 (c1 + 1) (aft s0 (F 24 c1) (F 25 c1)) (by omega) (by rw [hs2, hse]) (fun c h => (by rcases Nat.lt_or_ge c c1 with h6 | h6; exact hsee c h6; rw [show c = c1 by omega]; exact hsee1)) (by omega) ls (lv_sub hl [5, 6, 2, 1, 0] rfl)
                    · -- f 178
                      refine lv_iconst (v := nI 0) hx hb dX12_seesAlike_178 (by decide) ?_
                      have hsee1 : seeC (N 5) (F 6) (F 10) (F 11) pp x0 c1 = false := by
                        unfold seeC inC; rw [hs2, ← hr4.1, ← hr4.2]; simp only [Option.getD_some, hse, stS, decide_eq_false c_4, decide_eq_true c_28, decide_eq_false c_41, decide_eq_true c_51, decide_eq_true c_59, decide_eq_true c_60, decide_eq_false c_63, Bool.true_or, Bool.or_true, Bool.false_or, Bool.or_false, Bool.true_and, Bool.and_true, Bool.false_and, Bool.and_false, Bool.not_true, Bool.not_false, beq_self_eq_true] <;> rfl
                      exact rz_bE hC (by rw [seeA, decide_eq_false (fun h => by rw [h c1 (by omega)] at hsee1; cases hsee1)]; rfl) dX12_seesAlike_179
  exact lp_2 _ 0 (startN (N 5)) (by omega) rfl (fun c h => absurd h (by omega)) (Nat.lt_succ_self _) ls (lv_sub hl [3, 4, 2, 1, 0] rfl)
