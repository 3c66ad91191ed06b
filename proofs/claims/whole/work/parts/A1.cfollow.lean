set_option maxHeartbeats 4000000 in
set_option maxRecDepth 100000 in
theorem k_follow_s (l : Launch) (E : EE) (ao a1 a2 a3 nn : Nat) (net : Nat → Nat) (ww : Nat) (hn : nn ≤ 4) (hw : ww < nn) (k1 : Nat) (ih : FolS l E ao a1 a2 a3 nn net ww k1) (jj dd st t2 t3 x0 fo sc : Nat) (Rw Su Si : Nat → Nat) (sz : Nat) (hjk : jj < k1 + 1) (hdj : dd + jj = sc) (hsc4 : sc ≤ 4) (hs : Ps nn net st t2 t3 x0) (hv : VS nn st) (hSi : ∀ i, Si i < 256) : Wr l yX0_follow cX0_follow 11 none (rm_X0_follow_k (k1 + 1)) 0 0 E (alW E ao a1 a2 a3 fo sc Rw Su Si) sz [.ref ao, .int (nI ww), .long (lN x0), .int (nI dd)] (fun v1 w1 => v1 = none ∧ w1 = alW E ao a1 a2 a3 fo sc (va_up Rw ww (Rw ww + trC nn net ww Si jj dd st)) (va_up Su ww (trA nn net ww Si jj dd st (Su ww))) Si) := by
  refine mk_wr (by decide) (Nat.le_of_ble_eq_true rfl) ?_
  intro p e s m args below meth c hC hin hK A hA hP hD hS ls hl
  obtain ⟨hx, hb, hr, hts, hown, hml, hlk, hN⟩ := id hC
  have hl : lv_has ls 11 [(0, .ref ao), (1, .int (nI ww)), (2, .long (lN x0)), (4, .int (nI dd))] := hl
  have hps := hs.ps
  have hx0 := hs.lt
  obtain ⟨H, hH⟩ : ∃ z, z = s.heap := ⟨_, rfl⟩
  have hS : va_S A s.heap H [] := by rw [hH]; exact hS
  rw [← hH] at hP
  refine W_heap hH ?_
  obtain ⟨locs, hlo⟩ : ∃ z : List Loc, z = [] := ⟨_, rfl⟩
  rw [← hlo] at hS ⊢
  refine lv_iload hx hb dX0_follow_0 (lv_at hl 3 rfl) ?_
  refine lv_aload_n hx hb dX0_follow_2 rfl (lv_at hl 0 rfl) ?_
  refine va_get (D := E.1) (ci := 0) (v := .int (nI sc)) (C := RX0) (T := TX0) (N := 5) hx hb hts iX0 hown hK hP 0 rfl rfl 4 (by decide) (hts _ kw_91) (fun _ h9 => h9) rfl dX0_follow_3 ?_
  refine n_icmp_ge (tgt := 15) hx hb (by omega) (by omega) dX0_follow_6 (by decide) (fun c_1 => ?_) (fun c_1 => ?_)
  · -- t 15
    obtain rfl : jj = 0 := by omega
    refine lv_aload_n hx hb dX0_follow_15 rfl (lv_at hl 0 rfl) ?_
    refine va_get (D := E.1) (ci := 0) (v := .ref a1) (C := RX0) (T := TX0) (N := 5) hx hb hts iX0 hown hK hP 0 rfl rfl 0 (by decide) (hts _ kw_87) (fun _ h9 => h9) rfl dX0_follow_16 ?_
    refine lv_iload_n hx hb dX0_follow_19 rfl (lv_at hl 1 rfl) ?_
    refine lv_dup2_11 hx hb dX0_follow_20 rfl rfl ?_
    refine n_iald (f := fun j => nI (Rw j)) hx hb hK hP 1 rfl (by omega) (by decide) dX0_follow_21 ?_
    refine lv_iconst (v := nI 1) hx hb dX0_follow_22 (by decide) ?_
    refine n_iadd hx hb dX0_follow_23 ?_
    refine n_iast hx hb hK hP hD hS 1 rfl (by omega) (by decide) dX0_follow_24 (fun H locs hP hD hS => ?_)
    have hP : va_P E.1 vwCl (alW E ao a1 a2 a3 fo sc (va_up Rw ww ((Rw ww) + 1)) Su Si) H := hP
    have hD : va_D A (alW E ao a1 a2 a3 fo sc (va_up Rw ww ((Rw ww) + 1)) Su Si) := hD
    refine lv_aload_n hx hb dX0_follow_25 rfl (lv_at hl 0 rfl) ?_
    refine va_get (D := E.1) (ci := 0) (v := .ref a2) (C := RX0) (T := TX0) (N := 5) hx hb hts iX0 hown hK hP 0 rfl rfl 1 (by decide) (hts _ kw_88) (fun _ h9 => h9) rfl dX0_follow_26 ?_
    refine lv_iload_n hx hb dX0_follow_29 rfl (lv_at hl 1 rfl) ?_
    refine lv_dup2_11 hx hb dX0_follow_30 rfl rfl ?_
    refine n_iald (f := fun j => nI (Su j)) hx hb hK hP 2 rfl (by omega) (by decide) dX0_follow_31 ?_
    refine lv_lload_n hx hb dX0_follow_32 rfl (lv_at hl 2 rfl) ?_
    refine cS_p (rest := [.int (nI (Su ww)), .int (nI ww), .ref a2]) hC (k_allSecrets l x0 (by omega)) kw_515 sy_X5_allSecrets ⟨by dsimp only [rm_X0_follow_k, rm_X5_allSecrets, rm_X5_persons, rm_X5_numbersOf, rm_X11_contains, rm_X5_ring, rm_X0_sight]; omega, by dsimp only [rm_X0_follow_k, rm_X5_allSecrets, rm_X5_persons, rm_X5_numbersOf, rm_X11_contains, rm_X5_ring, rm_X0_sight]; omega⟩ ⟨rfl, rfl⟩ rfl hl.1 rfl (Nat.le_of_ble_eq_true rfl) dX0_follow_33 ⟨Nat.le_of_ble_eq_true rfl, Nat.le_of_ble_eq_true rfl⟩ ?_
    have f_2 := (Nat.and_le_right : x0 &&& 65535 ≤ 65535)
    refine n_iand hx hb dX0_follow_36 ?_
    refine n_iast hx hb hK hP hD hS 2 rfl (by omega) (by decide) dX0_follow_37 (fun H locs hP hD hS => ?_)
    have hP : va_P E.1 vwCl (alW E ao a1 a2 a3 fo sc (va_up Rw ww ((Rw ww) + 1)) (va_up Su ww ((Su ww) &&& (x0 &&& 65535))) Si) H := hP
    have hD : va_D A (alW E ao a1 a2 a3 fo sc (va_up Rw ww ((Rw ww) + 1)) (va_up Su ww ((Su ww) &&& (x0 &&& 65535))) Si) := hD
    exact rw_v hC hP hD hS (⟨rfl, by rw [Ps_low hs (VS_lt hn hv)]; rfl⟩) dX0_follow_38 (Nat.le_of_ble_eq_true rfl) (Nat.le_of_ble_eq_true rfl)
  · -- f 9
    refine lv_iload hx hb dX0_follow_9 (lv_at hl 3 rfl) ?_
    refine lv_iconst (v := nI 4) hx hb dX0_follow_11 (by decide) ?_
    refine n_icmp_lt (tgt := 39) hx hb (by omega) (by omega) dX0_follow_12 (by decide) (fun c_3 => ?_) (fun c_3 => ?_)
    · -- t 39
      obtain ⟨j1, rfl⟩ : ∃ j1, jj = j1 + 1 := ⟨jj - 1, by omega⟩
      refine lv_lload_n hx hb dX0_follow_39 rfl (lv_at hl 2 rfl) ?_
      refine cS_p (rest := []) hC (k_persons l x0 (by omega)) kw_516 sy_X5_persons ⟨by dsimp only [rm_X0_follow_k, rm_X5_allSecrets, rm_X5_persons, rm_X5_numbersOf, rm_X11_contains, rm_X5_ring, rm_X0_sight]; omega, by dsimp only [rm_X0_follow_k, rm_X5_allSecrets, rm_X5_persons, rm_X5_numbersOf, rm_X11_contains, rm_X5_ring, rm_X0_sight]; omega⟩ ⟨rfl, rfl⟩ rfl hl.1 rfl (Nat.le_of_ble_eq_true rfl) dX0_follow_40 ⟨Nat.le_of_ble_eq_true rfl, Nat.le_of_ble_eq_true rfl⟩ ?_
      refine top_i (congrArg nI hps) ?_
      refine lv_istore (lv' := [(5, .int (nI nn)), (0, .ref ao), (1, .int (nI ww)), (2, .long (lN x0)), (4, .int (nI dd))]) hx hb dX0_follow_43 hl (by decide) rfl (fun ls hl => ?_)
      refine lv_iconst (v := nI 0) hx hb dX0_follow_45 (by decide) ?_
      refine lv_istore (lv' := [(6, .int (nI 0)), (5, .int (nI nn)), (0, .ref ao), (1, .int (nI ww)), (2, .long (lN x0)), (4, .int (nI dd))]) hx hb dX0_follow_46 hl (by decide) rfl (fun ls hl => ?_)
      have lp_4 : ∀ (n_lp_4 : Nat) (p1 : Nat) (hp1 : p1 ≤ nn), nn - p1 < n_lp_4 → ∀ (H : Heap) (locs : List Loc) (hP : va_P E.1 vwCl (alW E ao a1 a2 a3 fo sc (va_up Rw ww (Rw ww + smK (fC nn net ww Si j1 dd st) (4 * p1))) (va_up Su ww (foK (fA nn net ww Si j1 dd st) (4 * p1) (Su ww))) Si) H) (hD : va_D A (alW E ao a1 a2 a3 fo sc (va_up Rw ww (Rw ww + smK (fC nn net ww Si j1 dd st) (4 * p1))) (va_up Su ww (foK (fA nn net ww Si j1 dd st) (4 * p1) (Su ww))) Si)) (hS : va_S A s.heap H locs) (ls : Array Slot), lv_has ls 11 [(0, .ref ao), (1, .int (nI ww)), (2, .long (lN x0)), (4, .int (nI dd)), (5, .int (nI nn)), (6, .int (nI p1))] → W p l e (rm_X0_follow_k (k1 + 1)) s m args below meth c H locs 0 0 (MQ below (wr_Q E A (fun v1 w1 => v1 = none ∧ w1 = alW E ao a1 a2 a3 fo sc (va_up Rw ww (Rw ww + trC nn net ww Si (j1 + 1) dd st)) (va_up Su ww (trA nn net ww Si (j1 + 1) dd st (Su ww))) Si)) args s 0 0 A) (F0 m 48 ls []) := by
        intro n_lp_4
        induction n_lp_4 with
        | zero => intro p1 hp1; intro hm_lp_4; exact absurd hm_lp_4 (Nat.not_lt_zero _)
        | succ n_lp_4 ih_lp_4 =>
          intro p1 hp1 hm_lp_4 H locs hP hD hS ls hl
          refine lv_iload hx hb dX0_follow_48 (lv_at hl 5 rfl) ?_
          refine lv_iload hx hb dX0_follow_50 (lv_at hl 4 rfl) ?_
          refine n_icmp_ge (tgt := 146) hx hb (by omega) (by omega) dX0_follow_52 (by decide) (fun c_5 => ?_) (fun c_5 => ?_)
          · -- t 146
            exact rw_v hC hP hD hS (⟨rfl, by rw [show p1 = nn by omega, fC_end hn, fA_end hn]⟩) dX0_follow_146 (Nat.le_of_ble_eq_true rfl) (Nat.le_of_ble_eq_true rfl)
          · -- f 55
            refine lv_lload_n hx hb dX0_follow_55 rfl (lv_at hl 2 rfl) ?_
            refine lv_iload hx hb dX0_follow_56 (lv_at hl 5 rfl) ?_
            refine cS_p (rest := []) hC (k_numbersOf l x0 p1 (by omega) (by omega)) kw_517 sy_X5_numbersOf ⟨by dsimp only [rm_X0_follow_k, rm_X5_allSecrets, rm_X5_persons, rm_X5_numbersOf, rm_X11_contains, rm_X5_ring, rm_X0_sight]; omega, by dsimp only [rm_X0_follow_k, rm_X5_allSecrets, rm_X5_persons, rm_X5_numbersOf, rm_X11_contains, rm_X5_ring, rm_X0_sight]; omega⟩ ⟨rfl, rfl⟩ rfl hl.1 rfl (Nat.le_of_ble_eq_true rfl) dX0_follow_58 ⟨Nat.le_of_ble_eq_true rfl, Nat.le_of_ble_eq_true rfl⟩ ?_
            have f_6 := nO_lt x0 p1
            refine lv_iconst (v := nI 1) hx hb dX0_follow_61 (by decide) ?_
            refine lv_iload hx hb dX0_follow_62 (lv_at hl 5 rfl) ?_
            refine n_ishl hx hb (by omega) dX0_follow_64 ?_
            refine lv_iconst (v := -1) hx hb dX0_follow_65 (by decide) ?_
            refine n_ixor (y := 4294967295) hx hb dX0_follow_66 ?_
            refine n_iand hx hb dX0_follow_67 ?_
            have hot : nO x0 p1 &&& (1 <<< p1 ^^^ 4294967295) ≤ nO x0 p1 := Nat.and_le_left
            refine lv_istore (lv' := [(7, .int (nI ((nO x0 p1) &&& ((1 <<< p1) ^^^ 4294967295)))), (0, .ref ao), (1, .int (nI ww)), (2, .long (lN x0)), (4, .int (nI dd)), (5, .int (nI nn)), (6, .int (nI p1))]) hx hb dX0_follow_68 hl (by decide) rfl (fun ls hl => ?_)
            refine lv_iconst (v := nI 0) hx hb dX0_follow_70 (by decide) ?_
            refine lv_istore (lv' := [(8, .int (nI 0)), (7, .int (nI ((nO x0 p1) &&& ((1 <<< p1) ^^^ 4294967295)))), (0, .ref ao), (1, .int (nI ww)), (2, .long (lN x0)), (4, .int (nI dd)), (5, .int (nI nn)), (6, .int (nI p1))]) hx hb dX0_follow_71 hl (by decide) rfl (fun ls hl => ?_)
            have lp_7 : ∀ (n_lp_7 : Nat) (q1 : Nat) (hq1 : q1 ≤ nn), nn - q1 < n_lp_7 → ∀ (H : Heap) (locs : List Loc) (hP : va_P E.1 vwCl (alW E ao a1 a2 a3 fo sc (va_up Rw ww (Rw ww + smK (fC nn net ww Si j1 dd st) (4 * p1 + q1))) (va_up Su ww (foK (fA nn net ww Si j1 dd st) (4 * p1 + q1) (Su ww))) Si) H) (hD : va_D A (alW E ao a1 a2 a3 fo sc (va_up Rw ww (Rw ww + smK (fC nn net ww Si j1 dd st) (4 * p1 + q1))) (va_up Su ww (foK (fA nn net ww Si j1 dd st) (4 * p1 + q1) (Su ww))) Si)) (hS : va_S A s.heap H locs) (ls : Array Slot), lv_has ls 11 [(0, .ref ao), (1, .int (nI ww)), (2, .long (lN x0)), (4, .int (nI dd)), (5, .int (nI nn)), (6, .int (nI p1)), (7, .int (nI (nO x0 p1 &&& (1 <<< p1 ^^^ 4294967295)))), (8, .int (nI q1))] → W p l e (rm_X0_follow_k (k1 + 1)) s m args below meth c H locs 0 0 (MQ below (wr_Q E A (fun v1 w1 => v1 = none ∧ w1 = alW E ao a1 a2 a3 fo sc (va_up Rw ww (Rw ww + trC nn net ww Si (j1 + 1) dd st)) (va_up Su ww (trA nn net ww Si (j1 + 1) dd st (Su ww))) Si)) args s 0 0 A) (F0 m 73 ls []) := by
              intro n_lp_7
              induction n_lp_7 with
              | zero => intro q1 hq1; intro hm_lp_7; exact absurd hm_lp_7 (Nat.not_lt_zero _)
              | succ n_lp_7 ih_lp_7 =>
                intro q1 hq1 hm_lp_7 H locs hP hD hS ls hl
                refine lv_iload hx hb dX0_follow_73 (lv_at hl 7 rfl) ?_
                refine lv_iload hx hb dX0_follow_75 (lv_at hl 4 rfl) ?_
                refine n_icmp_ge (tgt := 140) hx hb (by omega) (by omega) dX0_follow_77 (by decide) (fun c_8 => ?_) (fun c_8 => ?_)
                · -- t 140
                  refine lv_iinc (v := nI (p1 + 1)) (lv' := [(6, .int (nI (p1 + 1))), (0, .ref ao), (1, .int (nI ww)), (2, .long (lN x0)), (4, .int (nI dd)), (5, .int (nI nn)), (7, .int (nI (nO x0 p1 &&& (1 <<< p1 ^^^ 4294967295)))), (8, .int (nI q1))]) hx hb dX0_follow_140 hl (k := 5) rfl (ii_1 _) (by decide) rfl (fun ls hl => ?_)
                  refine lv_goto (tgt := 48) hx hb dX0_follow_143 (by decide) ?_
                  exact ih_lp_4 (p1 + 1) (by omega) (by omega) H locs (by rw [show q1 = nn by omega] at hP; rw [← fC_row hn, ← fA_row hn]; exact hP) (by rw [show q1 = nn by omega] at hD; rw [← fC_row hn, ← fA_row hn]; exact hD) hS ls (lv_sub hl [1, 2, 3, 4, 5, 0] rfl)
                · -- f 80
                  refine lv_iload hx hb dX0_follow_80 (lv_at hl 6 rfl) ?_
                  refine lv_iload hx hb dX0_follow_82 (lv_at hl 7 rfl) ?_
                  refine cN_p (rest := []) hC (k_contains l (nO x0 p1 &&& (1 <<< p1 ^^^ 4294967295)) q1 (by omega) (by omega)) hN.2.2.2.2.2.2.1 sy_X11_contains ⟨by dsimp only [rm_X0_follow_k, rm_X5_allSecrets, rm_X5_persons, rm_X5_numbersOf, rm_X11_contains, rm_X5_ring, rm_X0_sight]; omega, by dsimp only [rm_X0_follow_k, rm_X5_allSecrets, rm_X5_persons, rm_X5_numbersOf, rm_X11_contains, rm_X5_ring, rm_X0_sight]; omega⟩ ⟨rfl, rfl⟩ rfl hl.1 rfl (Nat.le_of_ble_eq_true rfl) dX0_follow_84 ⟨Nat.le_of_ble_eq_true rfl, Nat.le_of_ble_eq_true rfl⟩ ?_
                  refine b_if_ne (tgt := 93) hx hb dX0_follow_87 (by decide) (fun c_9 => ?_) (fun c_9 => ?_)
                  · -- t 93
                    have hok := (fol_ok hn hs (by omega : p1 < nn) (by omega : q1 < nn)).symm.trans c_9
                    have hpq := okD_pq (by omega) hok
                    have hsn := Ps_ring hn hv hs (by omega : p1 < nn) (by omega : q1 < nn) hpq
                    have hvn := VS_aft hn (by omega : p1 < nn) (by omega : q1 < nn) hv
                    have hx9 := hsn.lt
                    have hsd := hSi dd
                    refine lv_lload_n hx hb dX0_follow_93 rfl (lv_at hl 2 rfl) ?_
                    refine lv_iload hx hb dX0_follow_94 (lv_at hl 5 rfl) ?_
                    refine lv_iload hx hb dX0_follow_96 (lv_at hl 7 rfl) ?_
                    refine cS_p (rest := []) hC (k_ring l x0 p1 q1 (by omega) (by omega) (by omega)) kw_518 sy_X5_ring ⟨by dsimp only [rm_X0_follow_k, rm_X5_allSecrets, rm_X5_persons, rm_X5_numbersOf, rm_X11_contains, rm_X5_ring, rm_X0_sight]; omega, by dsimp only [rm_X0_follow_k, rm_X5_allSecrets, rm_X5_persons, rm_X5_numbersOf, rm_X11_contains, rm_X5_ring, rm_X0_sight]; omega⟩ ⟨rfl, rfl⟩ rfl hl.1 rfl (Nat.le_of_ble_eq_true rfl) dX0_follow_98 ⟨Nat.le_of_ble_eq_true rfl, Nat.le_of_ble_eq_true rfl⟩ ?_
                    refine lv_lstore (lv' := [(9, .long (lN (rng x0 p1 q1))), (0, .ref ao), (1, .int (nI ww)), (2, .long (lN x0)), (4, .int (nI dd)), (5, .int (nI nn)), (6, .int (nI p1)), (7, .int (nI (nO x0 p1 &&& (1 <<< p1 ^^^ 4294967295)))), (8, .int (nI q1))]) hx hb dX0_follow_101 hl (by decide) rfl (fun ls hl => ?_)
                    refine lv_iload_n hx hb dX0_follow_103 rfl (lv_at hl 2 rfl) ?_
                    refine lv_iload hx hb dX0_follow_104 (lv_at hl 6 rfl) ?_
                    refine lv_iload hx hb dX0_follow_106 (lv_at hl 8 rfl) ?_
                    refine lv_lload hx hb dX0_follow_108 (lv_at hl 0 rfl) ?_
                    refine cS_p (rest := []) hC (k_sight l ww p1 q1 (rng x0 p1 q1) (by omega) (by omega) (by omega) (by omega)) kw_505 sy_X0_sight ⟨by dsimp only [rm_X0_follow_k, rm_X5_allSecrets, rm_X5_persons, rm_X5_numbersOf, rm_X11_contains, rm_X5_ring, rm_X0_sight]; omega, by dsimp only [rm_X0_follow_k, rm_X5_allSecrets, rm_X5_persons, rm_X5_numbersOf, rm_X11_contains, rm_X5_ring, rm_X0_sight]; omega⟩ ⟨rfl, rfl⟩ rfl hl.1 rfl (Nat.le_of_ble_eq_true rfl) dX0_follow_110 ⟨Nat.le_of_ble_eq_true rfl, Nat.le_of_ble_eq_true rfl⟩ ?_
                    have f_10 := sgt_lt (by omega : p1 < 4) (by omega : q1 < 4) ww (rng x0 p1 q1)
                    refine lv_aload_n hx hb dX0_follow_113 rfl (lv_at hl 1 rfl) ?_
                    refine va_get (D := E.1) (ci := 0) (v := .ref a3) (C := RX0) (T := TX0) (N := 5) hx hb hts iX0 hown hK hP 0 rfl rfl 3 (by decide) (hts _ kw_90) (fun _ h9 => h9) rfl dX0_follow_114 ?_
                    refine lv_iload hx hb dX0_follow_117 (lv_at hl 4 rfl) ?_
                    refine n_iald (f := fun j => nI (Si j)) hx hb hK hP 3 rfl (by omega) (by decide) dX0_follow_119 ?_
                    refine n_icmp_ne (tgt := 134) hx hb (by omega) (by omega) dX0_follow_120 (by decide) (fun c_11 => ?_) (fun c_11 => ?_)
                    · -- t 134
                      have hgd : gdD nn net ww Si dd st (4 * p1 + q1) = false := by rw [gd_mk (by omega), ← fol_sg hsn (by omega), decide_eq_false c_11, Bool.and_false]
                      refine lv_iinc (v := nI (q1 + 1)) (lv' := [(8, .int (nI (q1 + 1))), (9, .long (lN (rng x0 p1 q1))), (0, .ref ao), (1, .int (nI ww)), (2, .long (lN x0)), (4, .int (nI dd)), (5, .int (nI nn)), (6, .int (nI p1)), (7, .int (nI (nO x0 p1 &&& (1 <<< p1 ^^^ 4294967295))))]) hx hb dX0_follow_134 hl (k := 8) rfl (ii_1 _) (by decide) rfl (fun ls hl => ?_)
                      refine lv_goto (tgt := 73) hx hb dX0_follow_137 (by decide) ?_
                      exact ih_lp_7 (q1 + 1) (by omega) (by omega) H locs (by rw [fC_f hgd, fA_f hgd]; exact hP) (by rw [fC_f hgd, fA_f hgd]; exact hD) hS ls (lv_sub hl [2, 3, 4, 5, 6, 7, 8, 0] rfl)
                    · -- f 123
                      have hgd : gdD nn net ww Si dd st (4 * p1 + q1) = true := by rw [gd_mk (by omega), ← fol_sg hsn (by omega), decide_eq_true c_11, hok]; rfl
                      refine lv_aload_n hx hb dX0_follow_123 rfl (lv_at hl 1 rfl) ?_
                      refine lv_iload_n hx hb dX0_follow_124 rfl (lv_at hl 2 rfl) ?_
                      refine lv_lload hx hb dX0_follow_125 (lv_at hl 0 rfl) ?_
                      refine lv_iload hx hb dX0_follow_127 (lv_at hl 4 rfl) ?_
                      refine lv_iconst (v := nI 1) hx hb dX0_follow_129 (by decide) ?_
                      refine n_iadd hx hb dX0_follow_130 ?_
                      refine cV_w0 (rest := []) hC (ih j1 (dd + 1) (aft st p1 q1) (tokA t2 2 p1 q1) (tokA t3 3 p1 q1) (rng x0 p1 q1) fo sc (va_up Rw ww (Rw ww + smK (fC nn net ww Si j1 dd st) (4 * p1 + q1))) (va_up Su ww (foK (fA nn net ww Si j1 dd st) (4 * p1 + q1) (Su ww))) Si _ (by omega) (by omega) hsc4 hsn hvn hSi) kw_511 iy_X0_follow ⟨by dsimp only [rm_X0_follow_k, rm_X5_allSecrets, rm_X5_persons, rm_X5_numbersOf, rm_X11_contains, rm_X5_ring, rm_X0_sight]; omega, by dsimp only [rm_X0_follow_k, rm_X5_allSecrets, rm_X5_persons, rm_X5_numbersOf, rm_X11_contains, rm_X5_ring, rm_X0_sight]; omega⟩ ⟨rfl, rfl⟩ hK hP hD hS hA (va_recv hK hP (ci := 0) (q0 := 0) rfl rfl) rfl hl.1 rfl (Nat.le_of_ble_eq_true rfl) dX0_follow_131 ⟨Nat.le_of_ble_eq_true rfl, Nat.le_of_ble_eq_true rfl⟩ (fun v_ w_ H locs hpost hP hD hS => ?_)
                      obtain ⟨rfl, hw_⟩ := hpost
                      simp only [vu_s, vu_vu] at hw_
                      rw [Nat.add_assoc, ← fC_t (by omega) hgd, ← fA_t (by omega) hgd] at hw_
                      subst hw_
                      refine W.eq (g2 := F0 m 134 ls []) rfl ?_
                      refine lv_iinc (v := nI (q1 + 1)) (lv' := [(8, .int (nI (q1 + 1))), (9, .long (lN (rng x0 p1 q1))), (0, .ref ao), (1, .int (nI ww)), (2, .long (lN x0)), (4, .int (nI dd)), (5, .int (nI nn)), (6, .int (nI p1)), (7, .int (nI (nO x0 p1 &&& (1 <<< p1 ^^^ 4294967295))))]) hx hb dX0_follow_134 hl (k := 8) rfl (ii_1 _) (by decide) rfl (fun ls hl => ?_)
                      refine lv_goto (tgt := 73) hx hb dX0_follow_137 (by decide) ?_
                      exact ih_lp_7 (q1 + 1) (by omega) (by omega) H locs hP hD hS ls (lv_sub hl [2, 3, 4, 5, 6, 7, 8, 0] rfl)
                  · -- f 90
                    have hgd : gdD nn net ww Si dd st (4 * p1 + q1) = false := by rw [gd_mk (by omega), (fol_ok hn hs (by omega : p1 < nn) (by omega : q1 < nn)).symm.trans c_9]; rfl
                    refine lv_goto (tgt := 134) hx hb dX0_follow_90 (by decide) ?_
                    refine lv_iinc (v := nI (q1 + 1)) (lv' := [(8, .int (nI (q1 + 1))), (0, .ref ao), (1, .int (nI ww)), (2, .long (lN x0)), (4, .int (nI dd)), (5, .int (nI nn)), (6, .int (nI p1)), (7, .int (nI (nO x0 p1 &&& (1 <<< p1 ^^^ 4294967295))))]) hx hb dX0_follow_134 hl (k := 7) rfl (ii_1 _) (by decide) rfl (fun ls hl => ?_)
                    refine lv_goto (tgt := 73) hx hb dX0_follow_137 (by decide) ?_
                    exact ih_lp_7 (q1 + 1) (by omega) (by omega) H locs (by rw [fC_f hgd, fA_f hgd]; exact hP) (by rw [fC_f hgd, fA_f hgd]; exact hD) hS ls (lv_sub hl [1, 2, 3, 4, 5, 6, 7, 0] rfl)
            exact lp_7 _ 0 (Nat.zero_le _) (Nat.lt_succ_self _) H locs hP hD hS ls (lv_sub hl [2, 3, 4, 5, 6, 7, 1, 0] rfl)
      exact lp_4 _ 0 (Nat.zero_le _) (Nat.lt_succ_self _) H locs (by rw [show va_up Rw ww (Rw ww + smK (fC nn net ww Si j1 dd st) (4 * 0)) = Rw from vu_id Rw ww, show va_up Su ww (foK (fA nn net ww Si j1 dd st) (4 * 0) (Su ww)) = Su from vu_id Su ww]; exact hP) (by rw [show va_up Rw ww (Rw ww + smK (fC nn net ww Si j1 dd st) (4 * 0)) = Rw from vu_id Rw ww, show va_up Su ww (foK (fA nn net ww Si j1 dd st) (4 * 0) (Su ww)) = Su from vu_id Su ww]; exact hD) hS ls (lv_sub hl [2, 3, 4, 5, 1, 0] rfl)
    · -- f 15
      exact absurd c_3 (by omega)

theorem k_follow_k (l : Launch) (E : EE) (ao a1 a2 a3 nn : Nat) (net : Nat → Nat) (ww : Nat) (hn : nn ≤ 4) (hw : ww < nn) : ∀ k, FolS l E ao a1 a2 a3 nn net ww k
  | 0 => fun jj dd st t2 t3 x0 fo sc Rw Su Si sz h => absurd h (by omega)
  | k + 1 => fun jj dd st t2 t3 x0 fo sc Rw Su Si sz h1 h2 h3 h4 h5 h6 => k_follow_s l E ao a1 a2 a3 nn net ww hn hw k (k_follow_k l E ao a1 a2 a3 nn net ww hn hw k) jj dd st t2 t3 x0 fo sc Rw Su Si sz h1 h2 h3 h4 h5 h6
