set_option maxHeartbeats 4000000 in
set_option maxRecDepth 100000 in
theorem c_m_layAlike (l : Launch) (E : EE) (ad : Nat → Nat) (lk : Nat) (tr : Int32) (N : Nat → Nat) (X : Nat → Nat → Int32) (F G : Nat → Nat → Nat) (sz : Nat) (hM : MOK N F) (pp : Nat) (h1 : pp < 4) (h94 : N 9 ≤ 4) : Wr l yX12_layAlike cX12_layAlike 5 none rm_X12_layAlike 0 0 E (mW E ad lk tr N X F G) sz [.ref (ad 0), .int (nI pp)] (fun v w1 => v = none ∧ ∃ (f24 f25 : Nat → Nat), w1 = mW E ad lk tr (va_up (va_up N 26 (alC (ALf (N 5) (N 9) (F 6) (F 10) (F 11) pp) (16 ^ N 9))) 27 (alA (ALf (N 5) (N 9) (F 6) (F 10) (F 11) pp) (16 ^ N 9))) X (va_up (va_up F 24 f24) 25 f25) G) := by
  refine mk_wr (by decide) (Nat.le_of_ble_eq_true rfl) ?_
  intro p e s m args below meth c hC hin hK A hA hP hD hS ls hl
  obtain ⟨hx, hb, hr, hts, hown, hml, hlk, hN⟩ := id hC
  have hl : lv_has ls 5 [(0, .ref (ad 0)), (1, .int (nI pp))] := hl
  obtain ⟨hM5, hM9, hMp, hMq, hMn⟩ := id hM
  have hn : ∀ j, j < 4 → F 6 j < 16 := fun j _ => hMn j
  obtain ⟨hp1, hp2⟩ := pw16 h94
  obtain ⟨H, hH⟩ : ∃ z, z = s.heap := ⟨_, rfl⟩
  have hS : va_S A s.heap H [] := by rw [hH]; exact hS
  rw [← hH] at hP
  refine W_heap hH ?_
  obtain ⟨locs, hlo⟩ : ∃ z : List Loc, z = [] := ⟨_, rfl⟩
  rw [← hlo] at hS ⊢
  refine lv_aload_n hx hb dX12_layAlike_0 rfl (lv_at hl 0 rfl) ?_
  refine lv_iconst (v := nI 0) hx hb dX12_layAlike_1 (by decide) ?_
  refine va_put (D := E.1) (ci := 10) (v := .int (nI 0)) (ty := .int) (C := RX12) (T := TX12) (N := 30) hx hb hts iX12 tyX12 tyX12_ok nmX12 hown hK hP hD hS 0 rfl rfl 26 (by decide) (hts _ kw_765) (fun _ h9 => h9) rfl (by decide +kernel) rfl rfl (Nat.le_of_ble_eq_true rfl) dX12_layAlike_2 (fun H locs hP hD hS => ?_)
  have hP : va_P E.1 vwCl (mW E ad lk tr (va_up N 26 0) X F G) H := hP
  have hD : va_D A (mW E ad lk tr (va_up N 26 0) X F G) := hD
  refine lv_aload_n hx hb dX12_layAlike_5 rfl (lv_at hl 0 rfl) ?_
  refine lv_ldc (v := nI 65535) hx hb hown (hts _ kw_944) dX12_layAlike_6 ?_
  refine va_put (D := E.1) (ci := 10) (v := .int (nI 65535)) (ty := .int) (C := RX12) (T := TX12) (N := 30) hx hb hts iX12 tyX12 tyX12_ok nmX12 hown hK hP hD hS 0 rfl rfl 27 (by decide) (hts _ kw_766) (fun _ h9 => h9) rfl (by decide +kernel) rfl rfl (Nat.le_of_ble_eq_true rfl) dX12_layAlike_8 (fun H locs hP hD hS => ?_)
  have hP : va_P E.1 vwCl (mW E ad lk tr (va_up (va_up N 26 0) 27 65535) X F G) H := hP
  have hD : va_D A (mW E ad lk tr (va_up (va_up N 26 0) 27 65535) X F G) := hD
  refine lv_iconst (v := nI 1) hx hb dX12_layAlike_11 (by decide) ?_
  refine lv_iconst (v := nI 4) hx hb dX12_layAlike_12 (by decide) ?_
  refine lv_aload_n hx hb dX12_layAlike_13 rfl (lv_at hl 0 rfl) ?_
  refine va_get (D := E.1) (ci := 10) (v := .int (nI (N 9))) (C := RX12) (T := TX12) (N := 30) hx hb hts iX12 hown hK hP 0 rfl rfl 9 (by decide) (hts _ kw_748) (fun _ h9 => h9) rfl dX12_layAlike_14 ?_
  refine n_imul hx hb dX12_layAlike_17 ?_
  refine n_ishl hx hb (by omega) dX12_layAlike_18 ?_
  refine lv_istore_n (lv' := [(2, .int (nI (1 <<< (4 * (N 9))))), (0, .ref (ad 0)), (1, .int (nI pp))]) hx hb dX12_layAlike_19 rfl hl (by decide) rfl (fun ls hl => ?_)
  refine lv_iconst (v := nI 0) hx hb dX12_layAlike_20 (by decide) ?_
  refine lv_istore_n (lv' := [(3, .int (nI 0)), (2, .int (nI (1 <<< (4 * (N 9))))), (0, .ref (ad 0)), (1, .int (nI pp))]) hx hb dX12_layAlike_21 rfl hl (by decide) rfl (fun ls hl => ?_)
  have lp_1 : ∀ (n_lp_1 : Nat) (x1 : Nat) (f24 f25 : Nat → Nat) (hx1 : x1 ≤ 16 ^ N 9), 16 ^ N 9 - x1 < n_lp_1 → ∀ (H : Heap) (locs : List Loc) (hP : va_P E.1 vwCl (mW E ad lk tr (va_up (va_up N 26 (alC (ALf (N 5) (N 9) (F 6) (F 10) (F 11) pp) x1)) 27 (alA (ALf (N 5) (N 9) (F 6) (F 10) (F 11) pp) x1)) X (va_up (va_up F 24 f24) 25 f25) G) H) (hD : va_D A (mW E ad lk tr (va_up (va_up N 26 (alC (ALf (N 5) (N 9) (F 6) (F 10) (F 11) pp) x1)) 27 (alA (ALf (N 5) (N 9) (F 6) (F 10) (F 11) pp) x1)) X (va_up (va_up F 24 f24) 25 f25) G)) (hS : va_S A s.heap H locs) (ls : Array Slot), lv_has ls 5 [(0, .ref (ad 0)), (1, .int (nI pp)), (2, .int (nI (16 ^ N 9))), (3, .int (nI x1))] → W p l e rm_X12_layAlike s m args below meth c H locs 0 0 (MQ below (wr_Q E A (fun v w1 => v = none ∧ ∃ (f24 f25 : Nat → Nat), w1 = mW E ad lk tr (va_up (va_up N 26 (alC (ALf (N 5) (N 9) (F 6) (F 10) (F 11) pp) (16 ^ N 9))) 27 (alA (ALf (N 5) (N 9) (F 6) (F 10) (F 11) pp) (16 ^ N 9))) X (va_up (va_up F 24 f24) 25 f25) G)) args s 0 0 A) (F0 m 22 ls []) := by
    intro n_lp_1
    induction n_lp_1 with
    | zero => intro x1 f24 f25 hx1; intro hm_lp_1; exact absurd hm_lp_1 (Nat.not_lt_zero _)
    | succ n_lp_1 ih_lp_1 =>
      intro x1 f24 f25 hx1 hm_lp_1 H locs hP hD hS ls hl
      have hc1 := alC_le (ALf (N 5) (N 9) (F 6) (F 10) (F 11) pp) x1
      refine lv_iload_n hx hb dX12_layAlike_22 rfl (lv_at hl 3 rfl) ?_
      refine lv_iload_n hx hb dX12_layAlike_23 rfl (lv_at hl 2 rfl) ?_
      refine n_icmp_ge (tgt := 74) hx hb (by omega) (by omega) dX12_layAlike_24 (by decide) (fun c_2 => ?_) (fun c_2 => ?_)
      · -- t 74
        exact rw_v hC hP hD hS (⟨rfl, f24, f25, by rw [show x1 = 16 ^ N 9 by omega]⟩) dX12_layAlike_74 (Nat.le_of_ble_eq_true rfl) (Nat.le_of_ble_eq_true rfl)
      · -- f 27
        refine lv_aload_n hx hb dX12_layAlike_27 rfl (lv_at hl 0 rfl) ?_
        refine lv_iload_n hx hb dX12_layAlike_28 rfl (lv_at hl 3 rfl) ?_
        refine cV_w0 (rest := []) hC (c_m_layRow l E ad lk tr (va_up (va_up N 26 (alC (ALf (N 5) (N 9) (F 6) (F 10) (F 11) pp) x1)) 27 (alA (ALf (N 5) (N 9) (F 6) (F 10) (F 11) pp) x1)) X (va_up (va_up F 24 f24) 25 f25) G H.size hM x1 (by omega) h94) kw_989 iy_X12_layRow ⟨Nat.le_of_ble_eq_true rfl, Nat.le_of_ble_eq_true rfl⟩ ⟨rfl, rfl⟩ hK hP hD hS hA (va_recv hK hP (ci := 10) (q0 := 0) rfl rfl) rfl hl.1 rfl (Nat.le_of_ble_eq_true rfl) dX12_layAlike_29 ⟨Nat.le_of_ble_eq_true rfl, Nat.le_of_ble_eq_true rfl⟩ (fun v_ w_ H locs hpost hP hD hS => ?_)
        obtain ⟨g24, g25, rfl, hra⟩ := hpost
        have hP : va_P E.1 vwCl (mW E ad lk tr (va_up (va_up N 26 (alC (ALf (N 5) (N 9) (F 6) (F 10) (F 11) pp) x1)) 27 (alA (ALf (N 5) (N 9) (F 6) (F 10) (F 11) pp) x1)) X (va_up (va_up F 24 g24) 25 g25) G) H := hP
        have hD : va_D A (mW E ad lk tr (va_up (va_up N 26 (alC (ALf (N 5) (N 9) (F 6) (F 10) (F 11) pp) x1)) 27 (alA (ALf (N 5) (N 9) (F 6) (F 10) (F 11) pp) x1)) X (va_up (va_up F 24 g24) 25 g25) G) := hD
        rcases hra with ⟨stx, rfl, hval, hrow⟩ | ⟨rfl, hnv⟩
        ·
          refine W.eq (g2 := F0 m 32 ls [.int (nI stx)]) rfl ?_
          have hval : rS (N 5) (F 6) x1 (N 9) = some stx := hval
          have hsx := rS_lt hval
          refine lv_istore (lv' := [(4, .int (nI stx)), (0, .ref (ad 0)), (1, .int (nI pp)), (2, .int (nI (16 ^ N 9))), (3, .int (nI x1))]) hx hb dX12_layAlike_32 hl (by decide) rfl (fun ls hl => ?_)
          refine lv_iload hx hb dX12_layAlike_34 (lv_at hl 0 rfl) ?_
          refine n_if_lt (tgt := 68) hx hb (by omega) dX12_layAlike_36 (by decide) ?_
          refine lv_aload_n hx hb dX12_layAlike_39 rfl (lv_at hl 1 rfl) ?_
          refine lv_iload_n hx hb dX12_layAlike_40 rfl (lv_at hl 2 rfl) ?_
          refine cV_r (rest := []) hC (c_m_sees l E ad lk tr (va_up (va_up N 26 (alC (ALf (N 5) (N 9) (F 6) (F 10) (F 11) pp) x1)) 27 (alA (ALf (N 5) (N 9) (F 6) (F 10) (F 11) pp) x1)) X (va_up (va_up F 24 g24) 25 g25) G hM pp x1 stx (by omega) h94 hval hrow) kw_993 iy_X12_seesAlike ⟨Nat.le_of_ble_eq_true rfl, Nat.le_of_ble_eq_true rfl⟩ ⟨rfl, rfl⟩ hK hP (va_recv hK hP (ci := 10) (q0 := 0) rfl rfl) rfl hl.1 rfl (Nat.le_of_ble_eq_true rfl) dX12_layAlike_41 ⟨Nat.le_of_ble_eq_true rfl, Nat.le_of_ble_eq_true rfl⟩ ?_
          refine W.eq (g2 := F0 m 44 ls [.int (bI (seeA (N 5) (F 6) (F 10) (F 11) pp x1 (N 9)))]) rfl ?_
          refine b_if_eq (tgt := 68) hx hb dX12_layAlike_44 (by decide) (fun c_3 => ?_) (fun c_3 => ?_)
          · -- t 68
            have hrt : (ALf (N 5) (N 9) (F 6) (F 10) (F 11) pp) x1 = none := by show (if _ then _ else _) = none; rw [if_neg (by rw [c_3]; decide)]
            refine lv_iinc (v := nI (x1 + 1)) (lv' := [(3, .int (nI (x1 + 1))), (4, .int (nI stx)), (0, .ref (ad 0)), (1, .int (nI pp)), (2, .int (nI (16 ^ N 9)))]) hx hb dX12_layAlike_68 hl (k := 4) rfl (ii_1 _) (by decide) rfl (fun ls hl => ?_)
            refine lv_goto (tgt := 22) hx hb dX12_layAlike_71 (by decide) ?_
            exact ih_lp_1 (x1 + 1) g24 g25 (by omega) (by omega) H locs (by rw [alC_none hrt, alA_none hrt]; exact hP) (by rw [alC_none hrt, alA_none hrt]; exact hD) hS ls (lv_sub hl [2, 3, 4, 0] rfl)
          · -- f 47
            have hrt : (ALf (N 5) (N 9) (F 6) (F 10) (F 11) pp) x1 = some stx := by show (if _ then _ else _) = some stx; rw [if_pos c_3]; exact hval
            refine lv_aload_n hx hb dX12_layAlike_47 rfl (lv_at hl 1 rfl) ?_
            refine lv_dup hx hb dX12_layAlike_48 rfl ?_
            refine va_get (D := E.1) (ci := 10) (v := .int (nI (alC (ALf (N 5) (N 9) (F 6) (F 10) (F 11) pp) x1))) (C := RX12) (T := TX12) (N := 30) hx hb hts iX12 hown hK hP 0 rfl rfl 26 (by decide) (hts _ kw_765) (fun _ h9 => h9) rfl dX12_layAlike_49 ?_
            refine lv_iconst (v := nI 1) hx hb dX12_layAlike_52 (by decide) ?_
            refine n_iadd hx hb dX12_layAlike_53 ?_
            refine va_put (D := E.1) (ci := 10) (v := .int (nI ((alC (ALf (N 5) (N 9) (F 6) (F 10) (F 11) pp) x1) + 1))) (ty := .int) (C := RX12) (T := TX12) (N := 30) hx hb hts iX12 tyX12 tyX12_ok nmX12 hown hK hP hD hS 0 rfl rfl 26 (by decide) (hts _ kw_765) (fun _ h9 => h9) rfl (by decide +kernel) rfl rfl (Nat.le_of_ble_eq_true rfl) dX12_layAlike_54 (fun H locs hP hD hS => ?_)
            have hP : va_P E.1 vwCl (mW E ad lk tr (va_up (va_up N 27 (alA (ALf (N 5) (N 9) (F 6) (F 10) (F 11) pp) x1)) 26 ((alC (ALf (N 5) (N 9) (F 6) (F 10) (F 11) pp) x1) + 1)) X (va_up (va_up F 24 g24) 25 g25) G) H := hP
            have hD : va_D A (mW E ad lk tr (va_up (va_up N 27 (alA (ALf (N 5) (N 9) (F 6) (F 10) (F 11) pp) x1)) 26 ((alC (ALf (N 5) (N 9) (F 6) (F 10) (F 11) pp) x1) + 1)) X (va_up (va_up F 24 g24) 25 g25) G) := hD
            refine lv_aload_n hx hb dX12_layAlike_57 rfl (lv_at hl 1 rfl) ?_
            refine lv_dup hx hb dX12_layAlike_58 rfl ?_
            refine va_get (D := E.1) (ci := 10) (v := .int (nI (alA (ALf (N 5) (N 9) (F 6) (F 10) (F 11) pp) x1))) (C := RX12) (T := TX12) (N := 30) hx hb hts iX12 hown hK hP 0 rfl rfl 27 (by decide) (hts _ kw_766) (fun _ h9 => h9) rfl dX12_layAlike_59 ?_
            refine lv_iload hx hb dX12_layAlike_62 (lv_at hl 0 rfl) ?_
            refine n_iand hx hb dX12_layAlike_64 ?_
            refine va_put (D := E.1) (ci := 10) (v := .int (nI ((alA (ALf (N 5) (N 9) (F 6) (F 10) (F 11) pp) x1) &&& stx))) (ty := .int) (C := RX12) (T := TX12) (N := 30) hx hb hts iX12 tyX12 tyX12_ok nmX12 hown hK hP hD hS 0 rfl rfl 27 (by decide) (hts _ kw_766) (fun _ h9 => h9) rfl (by decide +kernel) rfl rfl (Nat.le_of_ble_eq_true rfl) dX12_layAlike_65 (fun H locs hP hD hS => ?_)
            have hP : va_P E.1 vwCl (mW E ad lk tr (va_up (va_up N 26 ((alC (ALf (N 5) (N 9) (F 6) (F 10) (F 11) pp) x1) + 1)) 27 ((alA (ALf (N 5) (N 9) (F 6) (F 10) (F 11) pp) x1) &&& stx)) X (va_up (va_up F 24 g24) 25 g25) G) H := hP
            have hD : va_D A (mW E ad lk tr (va_up (va_up N 26 ((alC (ALf (N 5) (N 9) (F 6) (F 10) (F 11) pp) x1) + 1)) 27 ((alA (ALf (N 5) (N 9) (F 6) (F 10) (F 11) pp) x1) &&& stx)) X (va_up (va_up F 24 g24) 25 g25) G) := hD
            refine lv_iinc (v := nI (x1 + 1)) (lv' := [(3, .int (nI (x1 + 1))), (4, .int (nI stx)), (0, .ref (ad 0)), (1, .int (nI pp)), (2, .int (nI (16 ^ N 9)))]) hx hb dX12_layAlike_68 hl (k := 4) rfl (ii_1 _) (by decide) rfl (fun ls hl => ?_)
            refine lv_goto (tgt := 22) hx hb dX12_layAlike_71 (by decide) ?_
            exact ih_lp_1 (x1 + 1) g24 g25 (by omega) (by omega) H locs (by rw [alC_some hrt, alA_some hrt]; exact hP) (by rw [alC_some hrt, alA_some hrt]; exact hD) hS ls (lv_sub hl [2, 3, 4, 0] rfl)
        ·
          refine W.eq (g2 := F0 m 32 ls [.int (-1)]) rfl ?_
          have hnv : rS (N 5) (F 6) x1 (N 9) = none := hnv
          have hrt : (ALf (N 5) (N 9) (F 6) (F 10) (F 11) pp) x1 = none := by show (if _ then _ else _) = none; rw [hnv]; simp
          refine lv_istore (lv' := [(4, .int (-1)), (0, .ref (ad 0)), (1, .int (nI pp)), (2, .int (nI (16 ^ N 9))), (3, .int (nI x1))]) hx hb dX12_layAlike_32 hl (by decide) rfl (fun ls hl => ?_)
          refine lv_iload hx hb dX12_layAlike_34 (lv_at hl 0 rfl) ?_
          refine lv_if_lt (tgt := 68) hx hb dX12_layAlike_36 (by decide) (fun c_4 => ?_) (fun c_4 => ?_)
          · -- t 68
            refine lv_iinc (v := nI (x1 + 1)) (lv' := [(3, .int (nI (x1 + 1))), (4, .int (-1)), (0, .ref (ad 0)), (1, .int (nI pp)), (2, .int (nI (16 ^ N 9)))]) hx hb dX12_layAlike_68 hl (k := 4) rfl (ii_1 _) (by decide) rfl (fun ls hl => ?_)
            refine lv_goto (tgt := 22) hx hb dX12_layAlike_71 (by decide) ?_
            exact ih_lp_1 (x1 + 1) g24 g25 (by omega) (by omega) H locs (by rw [alC_none hrt, alA_none hrt]; exact hP) (by rw [alC_none hrt, alA_none hrt]; exact hD) hS ls (lv_sub hl [2, 3, 4, 0] rfl)
          · -- f 39
            exact absurd (by decide) c_4
  exact lp_1 _ 0 (F 24) (F 25) (Nat.zero_le _) (Nat.lt_succ_self _) H locs hP hD hS ls (by have h9 : lv_has ls 5 [(0, .ref (ad 0)), (1, .int (nI pp)), (2, .int (nI (1 <<< (4 * (N 9))))), (3, .int (nI 0))] := lv_sub hl [2, 3, 1, 0] rfl; rw [hp1] at h9; exact h9)

set_option maxHeartbeats 4000000 in
set_option maxRecDepth 100000 in
theorem c_m_alike (l : Launch) (E : EE) (ad : Nat → Nat) (lk : Nat) (tr : Int32) (N : Nat → Nat) (X : Nat → Nat → Int32) (F G : Nat → Nat → Nat) (sz : Nat) (hM : MOK N F) (hT : TB N F) (a1 : Int32) : Wr l yX12_alike cX12_alike 2 (some .int) rm_X12_alike 0 0 E (mW E ad lk tr N X F G) sz [.ref (ad 0), .int a1] (fun v w1 => v = some (.int (s_alike (N 5) (N 9) (F 6) (F 10) (F 11) a1)) ∧ QP E ad tr N X F 64 w1) := by
  refine mk_wr (by decide) (Nat.le_of_ble_eq_true rfl) ?_
  intro p e s m args below meth c hC hin hK A hA hP hD hS ls hl
  obtain ⟨hx, hb, hr, hts, hown, hml, hlk, hN⟩ := id hC
  have hl : lv_has ls 2 [(0, .ref (ad 0)), (1, .int a1)] := hl
  obtain ⟨hM5, hM9, hMp, hMq, hMn⟩ := id hM
  have hn : ∀ j, j < 4 → F 6 j < 16 := fun j _ => hMn j
  obtain ⟨H, hH⟩ : ∃ z, z = s.heap := ⟨_, rfl⟩
  have hS : va_S A s.heap H [] := by rw [hH]; exact hS
  rw [← hH] at hP
  refine W_heap hH ?_
  obtain ⟨locs, hlo⟩ : ∃ z : List Loc, z = [] := ⟨_, rfl⟩
  rw [← hlo] at hS ⊢
  refine lv_aload_n hx hb dX12_alike_0 rfl (lv_at hl 0 rfl) ?_
  refine lv_iload_n hx hb dX12_alike_1 rfl (lv_at hl 1 rfl) ?_
  refine cV_r (rest := []) hC (c_m_isPerson l E ad lk tr N X F G a1) kw_858 iy_X12_isPerson ⟨Nat.le_of_ble_eq_true rfl, Nat.le_of_ble_eq_true rfl⟩ ⟨rfl, rfl⟩ hK hP (va_recv hK hP (ci := 10) (q0 := 0) rfl rfl) rfl hl.1 rfl (Nat.le_of_ble_eq_true rfl) dX12_alike_2 ⟨Nat.le_of_ble_eq_true rfl, Nat.le_of_ble_eq_true rfl⟩ ?_
  refine b_if_ne (tgt := 10) hx hb dX12_alike_5 (by decide) (fun c_1 => ?_) (fun c_1 => ?_)
  · -- t 10
    obtain ⟨i, hi, rfl⟩ := isP_nat (by omega) c_1
    have hci := nI_clamp (n := i) (by omega)
    have hl : lv_has ls 2 [(0, .ref (ad 0)), (1, .int (nI i))] := hl
    refine lv_aload_n hx hb dX12_alike_10 rfl (lv_at hl 0 rfl) ?_
    refine va_get (D := E.1) (ci := 10) (v := .int (nI (N 9))) (C := RX12) (T := TX12) (N := 30) hx hb hts iX12 hown hK hP 0 rfl rfl 9 (by decide) (hts _ kw_748) (fun _ h9 => h9) rfl dX12_alike_11 ?_
    refine lv_iconst (v := nI 4) hx hb dX12_alike_14 (by decide) ?_
    refine n_icmp_le (tgt := 21) hx hb (by omega) (by omega) dX12_alike_15 (by decide) (fun c_2 => ?_) (fun c_2 => ?_)
    · -- t 21
      refine lv_aload_n hx hb dX12_alike_21 rfl (lv_at hl 0 rfl) ?_
      refine lv_iload_n hx hb dX12_alike_22 rfl (lv_at hl 1 rfl) ?_
      refine cV_w0 (rest := []) hC (c_m_layAlike l E ad lk tr N X F G H.size hM i (by omega) (by omega)) kw_985 iy_X12_layAlike ⟨Nat.le_of_ble_eq_true rfl, Nat.le_of_ble_eq_true rfl⟩ ⟨rfl, rfl⟩ hK hP hD hS hA (va_recv hK hP (ci := 10) (q0 := 0) rfl rfl) rfl hl.1 rfl (Nat.le_of_ble_eq_true rfl) dX12_alike_23 ⟨Nat.le_of_ble_eq_true rfl, Nat.le_of_ble_eq_true rfl⟩ (fun v_ w_ H locs hpost hP hD hS => ?_)
      obtain ⟨rfl, f24, f25, rfl⟩ := hpost
      have hla := alA_le (ALf (N 5) (N 9) (F 6) (F 10) (F 11) i) (16 ^ N 9)
      refine W.eq (g2 := F0 m 26 ls []) rfl ?_
      refine lv_aload_n hx hb dX12_alike_26 rfl (lv_at hl 0 rfl) ?_
      refine va_get (D := E.1) (ci := 10) (v := .int (nI (alC (ALf (N 5) (N 9) (F 6) (F 10) (F 11) i) (16 ^ N 9)))) (C := RX12) (T := TX12) (N := 30) hx hb hts iX12 hown hK hP 0 rfl rfl 26 (by decide) (hts _ kw_765) (fun _ h9 => h9) rfl dX12_alike_27 ?_
      exact rw_i hC rfl hP hD hS (⟨by rw [s_alike, if_neg (by rw [c_1]; decide), if_neg (Nat.not_lt.mpr c_2), hci], ⟨lk, _, X, _, G, rfl, ⟨rfl, rfl, rfl, rfl, rfl, rfl, rfl, rfl, rfl⟩, hT, by show N 17 ≤ _; omega⟩⟩) dX12_alike_30 (Nat.le_of_ble_eq_true rfl) (Nat.le_of_ble_eq_true rfl)
    · -- f 18
      refine lv_bipush (v := -3) hx hb dX12_alike_18 (by decide) ?_
      exact rw_i hC rfl hP hD hS (⟨by rw [s_alike, if_neg (by rw [c_1]; decide), if_pos c_2], QP.rf hT⟩) dX12_alike_20 (Nat.le_of_ble_eq_true rfl) (Nat.le_of_ble_eq_true rfl)
  · -- f 8
    refine lv_iconst (v := -1) hx hb dX12_alike_8 (by decide) ?_
    exact rw_i hC rfl hP hD hS (⟨by rw [s_alike, if_pos c_1], QP.rf hT⟩) dX12_alike_9 (Nat.le_of_ble_eq_true rfl) (Nat.le_of_ble_eq_true rfl)

set_option maxHeartbeats 4000000 in
set_option maxRecDepth 100000 in
theorem c_m_sure (l : Launch) (E : EE) (ad : Nat → Nat) (lk : Nat) (tr : Int32) (N : Nat → Nat) (X : Nat → Nat → Int32) (F G : Nat → Nat → Nat) (sz : Nat) (hM : MOK N F) (hT : TB N F) (a1 a2 a3 : Int32) : Wr l yX12_sure cX12_sure 4 (some .int) rm_X12_sure 0 0 E (mW E ad lk tr N X F G) sz [.ref (ad 0), .int a1, .int a2, .int a3] (fun v w1 => v = some (.int (s_sure (N 5) (N 9) (F 6) (F 10) (F 11) a1 a2 a3)) ∧ QP E ad tr N X F 64 w1) := by
  refine mk_wr (by decide) (Nat.le_of_ble_eq_true rfl) ?_
  intro p e s m args below meth c hC hin hK A hA hP hD hS ls hl
  obtain ⟨hx, hb, hr, hts, hown, hml, hlk, hN⟩ := id hC
  have hl : lv_has ls 4 [(0, .ref (ad 0)), (1, .int a1), (2, .int a2), (3, .int a3)] := hl
  obtain ⟨hM5, hM9, hMp, hMq, hMn⟩ := id hM
  have hn : ∀ j, j < 4 → F 6 j < 16 := fun j _ => hMn j
  obtain ⟨H, hH⟩ : ∃ z, z = s.heap := ⟨_, rfl⟩
  have hS : va_S A s.heap H [] := by rw [hH]; exact hS
  rw [← hH] at hP
  refine W_heap hH ?_
  obtain ⟨locs, hlo⟩ : ∃ z : List Loc, z = [] := ⟨_, rfl⟩
  rw [← hlo] at hS ⊢
  refine lv_aload_n hx hb dX12_sure_0 rfl (lv_at hl 0 rfl) ?_
  refine lv_iload_n hx hb dX12_sure_1 rfl (lv_at hl 1 rfl) ?_
  refine cV_r (rest := []) hC (c_m_isPerson l E ad lk tr N X F G a1) kw_858 iy_X12_isPerson ⟨Nat.le_of_ble_eq_true rfl, Nat.le_of_ble_eq_true rfl⟩ ⟨rfl, rfl⟩ hK hP (va_recv hK hP (ci := 10) (q0 := 0) rfl rfl) rfl hl.1 rfl (Nat.le_of_ble_eq_true rfl) dX12_sure_2 ⟨Nat.le_of_ble_eq_true rfl, Nat.le_of_ble_eq_true rfl⟩ ?_
  refine b_if_eq (tgt := 24) hx hb dX12_sure_5 (by decide) (fun c_1 => ?_) (fun c_1 => ?_)
  · -- t 24
    refine lv_iconst (v := -1) hx hb dX12_sure_24 (by decide) ?_
    exact rw_i hC rfl hP hD hS (⟨by rw [s_sure, if_pos c_1], QP.rf hT⟩) dX12_sure_25 (Nat.le_of_ble_eq_true rfl) (Nat.le_of_ble_eq_true rfl)
  · -- f 8
    obtain ⟨i, hi, rfl⟩ := isP_nat (by omega) c_1
    have hci := nI_clamp (n := i) (by omega)
    have hl : lv_has ls 4 [(0, .ref (ad 0)), (1, .int (nI i)), (2, .int a2), (3, .int a3)] := hl
    refine lv_aload_n hx hb dX12_sure_8 rfl (lv_at hl 0 rfl) ?_
    refine lv_iload_n hx hb dX12_sure_9 rfl (lv_at hl 2 rfl) ?_
    refine cV_r (rest := []) hC (c_m_isPerson l E ad lk tr N X F G a2) kw_858 iy_X12_isPerson ⟨Nat.le_of_ble_eq_true rfl, Nat.le_of_ble_eq_true rfl⟩ ⟨rfl, rfl⟩ hK hP (va_recv hK hP (ci := 10) (q0 := 0) rfl rfl) rfl hl.1 rfl (Nat.le_of_ble_eq_true rfl) dX12_sure_10 ⟨Nat.le_of_ble_eq_true rfl, Nat.le_of_ble_eq_true rfl⟩ ?_
    refine b_if_eq (tgt := 24) hx hb dX12_sure_13 (by decide) (fun c_2 => ?_) (fun c_2 => ?_)
    · -- t 24
      refine lv_iconst (v := -1) hx hb dX12_sure_24 (by decide) ?_
      exact rw_i hC rfl hP hD hS (⟨by rw [s_sure, if_neg (by rw [c_1]; decide), if_pos c_2], QP.rf hT⟩) dX12_sure_25 (Nat.le_of_ble_eq_true rfl) (Nat.le_of_ble_eq_true rfl)
    · -- f 16
      obtain ⟨j, hj, rfl⟩ := isP_nat (by omega) c_2
      have hcj := nI_clamp (n := j) (by omega)
      have hl : lv_has ls 4 [(0, .ref (ad 0)), (1, .int (nI i)), (2, .int (nI j)), (3, .int a3)] := hl
      refine lv_aload_n hx hb dX12_sure_16 rfl (lv_at hl 0 rfl) ?_
      refine lv_iload_n hx hb dX12_sure_17 rfl (lv_at hl 3 rfl) ?_
      refine cV_r (rest := []) hC (c_m_isPerson l E ad lk tr N X F G a3) kw_858 iy_X12_isPerson ⟨Nat.le_of_ble_eq_true rfl, Nat.le_of_ble_eq_true rfl⟩ ⟨rfl, rfl⟩ hK hP (va_recv hK hP (ci := 10) (q0 := 0) rfl rfl) rfl hl.1 rfl (Nat.le_of_ble_eq_true rfl) dX12_sure_18 ⟨Nat.le_of_ble_eq_true rfl, Nat.le_of_ble_eq_true rfl⟩ ?_
      refine b_if_ne (tgt := 26) hx hb dX12_sure_21 (by decide) (fun c_3 => ?_) (fun c_3 => ?_)
      · -- t 26
        obtain ⟨k, hk, rfl⟩ := isP_nat (by omega) c_3
        have hck := nI_clamp (n := k) (by omega)
        have hl : lv_has ls 4 [(0, .ref (ad 0)), (1, .int (nI i)), (2, .int (nI j)), (3, .int (nI k))] := hl
        refine lv_aload_n hx hb dX12_sure_26 rfl (lv_at hl 0 rfl) ?_
        refine va_get (D := E.1) (ci := 10) (v := .int (nI (N 9))) (C := RX12) (T := TX12) (N := 30) hx hb hts iX12 hown hK hP 0 rfl rfl 9 (by decide) (hts _ kw_748) (fun _ h9 => h9) rfl dX12_sure_27 ?_
        refine lv_iconst (v := nI 4) hx hb dX12_sure_30 (by decide) ?_
        refine n_icmp_le (tgt := 37) hx hb (by omega) (by omega) dX12_sure_31 (by decide) (fun c_4 => ?_) (fun c_4 => ?_)
        · -- t 37
          refine lv_aload_n hx hb dX12_sure_37 rfl (lv_at hl 0 rfl) ?_
          refine lv_iload_n hx hb dX12_sure_38 rfl (lv_at hl 1 rfl) ?_
          refine cV_w0 (rest := []) hC (c_m_layAlike l E ad lk tr N X F G H.size hM i (by omega) (by omega)) kw_985 iy_X12_layAlike ⟨Nat.le_of_ble_eq_true rfl, Nat.le_of_ble_eq_true rfl⟩ ⟨rfl, rfl⟩ hK hP hD hS hA (va_recv hK hP (ci := 10) (q0 := 0) rfl rfl) rfl hl.1 rfl (Nat.le_of_ble_eq_true rfl) dX12_sure_39 ⟨Nat.le_of_ble_eq_true rfl, Nat.le_of_ble_eq_true rfl⟩ (fun v_ w_ H locs hpost hP hD hS => ?_)
          obtain ⟨rfl, f24, f25, rfl⟩ := hpost
          have hla := alA_le (ALf (N 5) (N 9) (F 6) (F 10) (F 11) i) (16 ^ N 9)
          refine W.eq (g2 := F0 m 42 ls []) rfl ?_
          refine lv_aload_n hx hb dX12_sure_42 rfl (lv_at hl 0 rfl) ?_
          refine va_get (D := E.1) (ci := 10) (v := .int (nI (alA (ALf (N 5) (N 9) (F 6) (F 10) (F 11) i) (16 ^ N 9)))) (C := RX12) (T := TX12) (N := 30) hx hb hts iX12 hown hK hP 0 rfl rfl 27 (by decide) (hts _ kw_766) (fun _ h9 => h9) rfl dX12_sure_43 ?_
          refine lv_iload_n hx hb dX12_sure_46 rfl (lv_at hl 2 rfl) ?_
          refine cS_p (rest := []) hC (c_of l (alA (ALf (N 5) (N 9) (F 6) (F 10) (F 11) i) (16 ^ N 9)) j (by omega) (by omega)) kw_874 sy_X12_of ⟨Nat.le_of_ble_eq_true rfl, Nat.le_of_ble_eq_true rfl⟩ ⟨rfl, rfl⟩ rfl hl.1 rfl (Nat.le_of_ble_eq_true rfl) dX12_sure_47 ⟨Nat.le_of_ble_eq_true rfl, Nat.le_of_ble_eq_true rfl⟩ ?_
          have f_5 := of4_lt (alA (ALf (N 5) (N 9) (F 6) (F 10) (F 11) i) (16 ^ N 9)) j
          refine lv_iload_n hx hb dX12_sure_50 rfl (lv_at hl 3 rfl) ?_
          refine n_ishr hx hb (by omega) (by omega) dX12_sure_51 ?_
          have f_6 := shr_le (of4 (alA (ALf (N 5) (N 9) (F 6) (F 10) (F 11) i) (16 ^ N 9)) j) k
          refine lv_iconst (v := nI 1) hx hb dX12_sure_52 (by decide) ?_
          refine n_iand hx hb dX12_sure_53 ?_
          have f_7 : ((of4 (alA (ALf (N 5) (N 9) (F 6) (F 10) (F 11) i) (16 ^ N 9)) j) >>> k) &&& 1 ≤ 1 := Nat.and_le_right
          exact rw_i hC rfl hP hD hS (⟨by rw [s_sure, if_neg (by rw [c_1]; decide), if_neg (by rw [c_2]; decide), if_neg (by rw [c_3]; decide), if_neg (Nat.not_lt.mpr c_4), hci, hcj, hck], ⟨lk, _, X, _, G, rfl, ⟨rfl, rfl, rfl, rfl, rfl, rfl, rfl, rfl, rfl⟩, hT, by show N 17 ≤ _; omega⟩⟩) dX12_sure_54 (Nat.le_of_ble_eq_true rfl) (Nat.le_of_ble_eq_true rfl)
        · -- f 34
          refine lv_bipush (v := -3) hx hb dX12_sure_34 (by decide) ?_
          exact rw_i hC rfl hP hD hS (⟨by rw [s_sure, if_neg (by rw [c_1]; decide), if_neg (by rw [c_2]; decide), if_neg (by rw [c_3]; decide), if_pos c_4], QP.rf hT⟩) dX12_sure_36 (Nat.le_of_ble_eq_true rfl) (Nat.le_of_ble_eq_true rfl)
      · -- f 24
        refine lv_iconst (v := -1) hx hb dX12_sure_24 (by decide) ?_
        exact rw_i hC rfl hP hD hS (⟨by rw [s_sure, if_neg (by rw [c_1]; decide), if_neg (by rw [c_2]; decide), if_pos c_3], QP.rf hT⟩) dX12_sure_25 (Nat.le_of_ble_eq_true rfl) (Nat.le_of_ble_eq_true rfl)

set_option maxHeartbeats 4000000 in
set_option maxRecDepth 100000 in
theorem c_m_known (l : Launch) (E : EE) (ad : Nat → Nat) (lk : Nat) (tr : Int32) (N : Nat → Nat) (X : Nat → Nat → Int32) (F G : Nat → Nat → Nat) (sz : Nat) (hM : MOK N F) (hT : TB N F) (a1 a2 : Int32) : Wr l yX12_known cX12_known 3 (some .int) rm_X12_known 0 0 E (mW E ad lk tr N X F G) sz [.ref (ad 0), .int a1, .int a2] (fun v w1 => v = some (.int (s_known (N 5) (N 9) (F 6) (F 10) (F 11) a1 a2)) ∧ QP E ad tr N X F 64 w1) := by
  refine mk_wr (by decide) (Nat.le_of_ble_eq_true rfl) ?_
  intro p e s m args below meth c hC hin hK A hA hP hD hS ls hl
  obtain ⟨hx, hb, hr, hts, hown, hml, hlk, hN⟩ := id hC
  have hl : lv_has ls 3 [(0, .ref (ad 0)), (1, .int a1), (2, .int a2)] := hl
  obtain ⟨hM5, hM9, hMp, hMq, hMn⟩ := id hM
  have hn : ∀ j, j < 4 → F 6 j < 16 := fun j _ => hMn j
  obtain ⟨H, hH⟩ : ∃ z, z = s.heap := ⟨_, rfl⟩
  have hS : va_S A s.heap H [] := by rw [hH]; exact hS
  rw [← hH] at hP
  refine W_heap hH ?_
  obtain ⟨locs, hlo⟩ : ∃ z : List Loc, z = [] := ⟨_, rfl⟩
  rw [← hlo] at hS ⊢
  refine lv_aload_n hx hb dX12_known_0 rfl (lv_at hl 0 rfl) ?_
  refine lv_iload_n hx hb dX12_known_1 rfl (lv_at hl 1 rfl) ?_
  refine cV_r (rest := []) hC (c_m_isPerson l E ad lk tr N X F G a1) kw_858 iy_X12_isPerson ⟨Nat.le_of_ble_eq_true rfl, Nat.le_of_ble_eq_true rfl⟩ ⟨rfl, rfl⟩ hK hP (va_recv hK hP (ci := 10) (q0 := 0) rfl rfl) rfl hl.1 rfl (Nat.le_of_ble_eq_true rfl) dX12_known_2 ⟨Nat.le_of_ble_eq_true rfl, Nat.le_of_ble_eq_true rfl⟩ ?_
  refine b_if_eq (tgt := 16) hx hb dX12_known_5 (by decide) (fun c_1 => ?_) (fun c_1 => ?_)
  · -- t 16
    refine lv_iconst (v := -1) hx hb dX12_known_16 (by decide) ?_
    exact rw_i hC rfl hP hD hS (⟨by rw [s_known, if_pos c_1], QP.rf hT⟩) dX12_known_17 (Nat.le_of_ble_eq_true rfl) (Nat.le_of_ble_eq_true rfl)
  · -- f 8
    obtain ⟨i, hi, rfl⟩ := isP_nat (by omega) c_1
    have hci := nI_clamp (n := i) (by omega)
    have hl : lv_has ls 3 [(0, .ref (ad 0)), (1, .int (nI i)), (2, .int a2)] := hl
    refine lv_aload_n hx hb dX12_known_8 rfl (lv_at hl 0 rfl) ?_
    refine lv_iload_n hx hb dX12_known_9 rfl (lv_at hl 2 rfl) ?_
    refine cV_r (rest := []) hC (c_m_isPerson l E ad lk tr N X F G a2) kw_858 iy_X12_isPerson ⟨Nat.le_of_ble_eq_true rfl, Nat.le_of_ble_eq_true rfl⟩ ⟨rfl, rfl⟩ hK hP (va_recv hK hP (ci := 10) (q0 := 0) rfl rfl) rfl hl.1 rfl (Nat.le_of_ble_eq_true rfl) dX12_known_10 ⟨Nat.le_of_ble_eq_true rfl, Nat.le_of_ble_eq_true rfl⟩ ?_
    refine b_if_ne (tgt := 18) hx hb dX12_known_13 (by decide) (fun c_2 => ?_) (fun c_2 => ?_)
    · -- t 18
      obtain ⟨j, hj, rfl⟩ := isP_nat (by omega) c_2
      have hcj := nI_clamp (n := j) (by omega)
      have hl : lv_has ls 3 [(0, .ref (ad 0)), (1, .int (nI i)), (2, .int (nI j))] := hl
      refine lv_aload_n hx hb dX12_known_18 rfl (lv_at hl 0 rfl) ?_
      refine va_get (D := E.1) (ci := 10) (v := .int (nI (N 9))) (C := RX12) (T := TX12) (N := 30) hx hb hts iX12 hown hK hP 0 rfl rfl 9 (by decide) (hts _ kw_748) (fun _ h9 => h9) rfl dX12_known_19 ?_
      refine lv_iconst (v := nI 4) hx hb dX12_known_22 (by decide) ?_
      refine n_icmp_le (tgt := 29) hx hb (by omega) (by omega) dX12_known_23 (by decide) (fun c_3 => ?_) (fun c_3 => ?_)
      · -- t 29
        refine lv_aload_n hx hb dX12_known_29 rfl (lv_at hl 0 rfl) ?_
        refine lv_iload_n hx hb dX12_known_30 rfl (lv_at hl 1 rfl) ?_
        refine cV_w0 (rest := []) hC (c_m_layAlike l E ad lk tr N X F G H.size hM i (by omega) (by omega)) kw_985 iy_X12_layAlike ⟨Nat.le_of_ble_eq_true rfl, Nat.le_of_ble_eq_true rfl⟩ ⟨rfl, rfl⟩ hK hP hD hS hA (va_recv hK hP (ci := 10) (q0 := 0) rfl rfl) rfl hl.1 rfl (Nat.le_of_ble_eq_true rfl) dX12_known_31 ⟨Nat.le_of_ble_eq_true rfl, Nat.le_of_ble_eq_true rfl⟩ (fun v_ w_ H locs hpost hP hD hS => ?_)
        obtain ⟨rfl, f24, f25, rfl⟩ := hpost
        have hla := alA_le (ALf (N 5) (N 9) (F 6) (F 10) (F 11) i) (16 ^ N 9)
        refine W.eq (g2 := F0 m 34 ls []) rfl ?_
        refine lv_aload_n hx hb dX12_known_34 rfl (lv_at hl 0 rfl) ?_
        refine va_get (D := E.1) (ci := 10) (v := .int (nI (alA (ALf (N 5) (N 9) (F 6) (F 10) (F 11) i) (16 ^ N 9)))) (C := RX12) (T := TX12) (N := 30) hx hb hts iX12 hown hK hP 0 rfl rfl 27 (by decide) (hts _ kw_766) (fun _ h9 => h9) rfl dX12_known_35 ?_
        refine lv_iload_n hx hb dX12_known_38 rfl (lv_at hl 2 rfl) ?_
        refine cS_p (rest := []) hC (c_of l (alA (ALf (N 5) (N 9) (F 6) (F 10) (F 11) i) (16 ^ N 9)) j (by omega) (by omega)) kw_874 sy_X12_of ⟨Nat.le_of_ble_eq_true rfl, Nat.le_of_ble_eq_true rfl⟩ ⟨rfl, rfl⟩ rfl hl.1 rfl (Nat.le_of_ble_eq_true rfl) dX12_known_39 ⟨Nat.le_of_ble_eq_true rfl, Nat.le_of_ble_eq_true rfl⟩ ?_
        have f_4 := of4_lt (alA (ALf (N 5) (N 9) (F 6) (F 10) (F 11) i) (16 ^ N 9)) j
        exact rw_i hC rfl hP hD hS (⟨by rw [s_known, if_neg (by rw [c_1]; decide), if_neg (by rw [c_2]; decide), if_neg (Nat.not_lt.mpr c_3), hci, hcj], ⟨lk, _, X, _, G, rfl, ⟨rfl, rfl, rfl, rfl, rfl, rfl, rfl, rfl, rfl⟩, hT, by show N 17 ≤ _; omega⟩⟩) dX12_known_42 (Nat.le_of_ble_eq_true rfl) (Nat.le_of_ble_eq_true rfl)
      · -- f 26
        refine lv_bipush (v := -3) hx hb dX12_known_26 (by decide) ?_
        exact rw_i hC rfl hP hD hS (⟨by rw [s_known, if_neg (by rw [c_1]; decide), if_neg (by rw [c_2]; decide), if_pos c_3], QP.rf hT⟩) dX12_known_28 (Nat.le_of_ble_eq_true rfl) (Nat.le_of_ble_eq_true rfl)
    · -- f 16
      refine lv_iconst (v := -1) hx hb dX12_known_16 (by decide) ?_
      exact rw_i hC rfl hP hD hS (⟨by rw [s_known, if_neg (by rw [c_1]; decide), if_pos c_2], QP.rf hT⟩) dX12_known_17 (Nat.le_of_ble_eq_true rfl) (Nat.le_of_ble_eq_true rfl)

set_option maxHeartbeats 4000000 in
set_option maxRecDepth 100000 in
theorem c_m_end (l : Launch) (E : EE) (ad : Nat → Nat) (lk : Nat) (tr : Int32) (N : Nat → Nat) (X : Nat → Nat → Int32) (F G : Nat → Nat → Nat) (sz : Nat) (hM : MOK N F) (hT : TB N F) (a1 : Int32) : Wr l yX12_end cX12_end 2 (some .int) rm_X12_end 0 0 E (mW E ad lk tr N X F G) sz [.ref (ad 0), .int a1] (fun v w1 => v = some (.int (s_end (N 5) (N 9) (F 6) (F 10) (F 11) a1)) ∧ QP E ad tr N X F 64 w1) := by
  refine mk_wr (by decide) (Nat.le_of_ble_eq_true rfl) ?_
  intro p e s m args below meth c hC hin hK A hA hP hD hS ls hl
  obtain ⟨hx, hb, hr, hts, hown, hml, hlk, hN⟩ := id hC
  have hl : lv_has ls 2 [(0, .ref (ad 0)), (1, .int a1)] := hl
  obtain ⟨hM5, hM9, hMp, hMq, hMn⟩ := id hM
  have hn : ∀ j, j < 4 → F 6 j < 16 := fun j _ => hMn j
  obtain ⟨H, hH⟩ : ∃ z, z = s.heap := ⟨_, rfl⟩
  have hS : va_S A s.heap H [] := by rw [hH]; exact hS
  rw [← hH] at hP
  refine W_heap hH ?_
  obtain ⟨locs, hlo⟩ : ∃ z : List Loc, z = [] := ⟨_, rfl⟩
  rw [← hlo] at hS ⊢
  refine lv_aload_n hx hb dX12_end_0 rfl (lv_at hl 0 rfl) ?_
  refine lv_iload_n hx hb dX12_end_1 rfl (lv_at hl 1 rfl) ?_
  refine cV_r (rest := []) hC (c_m_isPerson l E ad lk tr N X F G a1) kw_858 iy_X12_isPerson ⟨Nat.le_of_ble_eq_true rfl, Nat.le_of_ble_eq_true rfl⟩ ⟨rfl, rfl⟩ hK hP (va_recv hK hP (ci := 10) (q0 := 0) rfl rfl) rfl hl.1 rfl (Nat.le_of_ble_eq_true rfl) dX12_end_2 ⟨Nat.le_of_ble_eq_true rfl, Nat.le_of_ble_eq_true rfl⟩ ?_
  refine b_if_ne (tgt := 10) hx hb dX12_end_5 (by decide) (fun c_1 => ?_) (fun c_1 => ?_)
  · -- t 10
    obtain ⟨i, hi, rfl⟩ := isP_nat (by omega) c_1
    have hci := nI_clamp (n := i) (by omega)
    have hl : lv_has ls 2 [(0, .ref (ad 0)), (1, .int (nI i))] := hl
    refine lv_aload_n hx hb dX12_end_10 rfl (lv_at hl 0 rfl) ?_
    refine va_get (D := E.1) (ci := 10) (v := .int (nI (N 9))) (C := RX12) (T := TX12) (N := 30) hx hb hts iX12 hown hK hP 0 rfl rfl 9 (by decide) (hts _ kw_748) (fun _ h9 => h9) rfl dX12_end_11 ?_
    refine lv_iconst (v := nI 4) hx hb dX12_end_14 (by decide) ?_
    refine n_icmp_le (tgt := 21) hx hb (by omega) (by omega) dX12_end_15 (by decide) (fun c_2 => ?_) (fun c_2 => ?_)
    · -- t 21
      refine lv_aload_n hx hb dX12_end_21 rfl (lv_at hl 0 rfl) ?_
      refine lv_iload_n hx hb dX12_end_22 rfl (lv_at hl 1 rfl) ?_
      refine cV_w0 (rest := []) hC (c_m_layAlike l E ad lk tr N X F G H.size hM i (by omega) (by omega)) kw_985 iy_X12_layAlike ⟨Nat.le_of_ble_eq_true rfl, Nat.le_of_ble_eq_true rfl⟩ ⟨rfl, rfl⟩ hK hP hD hS hA (va_recv hK hP (ci := 10) (q0 := 0) rfl rfl) rfl hl.1 rfl (Nat.le_of_ble_eq_true rfl) dX12_end_23 ⟨Nat.le_of_ble_eq_true rfl, Nat.le_of_ble_eq_true rfl⟩ (fun v_ w_ H locs hpost hP hD hS => ?_)
      obtain ⟨rfl, f24, f25, rfl⟩ := hpost
      have hla := alA_le (ALf (N 5) (N 9) (F 6) (F 10) (F 11) i) (16 ^ N 9)
      refine W.eq (g2 := F0 m 26 ls []) rfl ?_
      refine lv_aload_n hx hb dX12_end_26 rfl (lv_at hl 0 rfl) ?_
      refine lv_aload_n hx hb dX12_end_27 rfl (lv_at hl 0 rfl) ?_
      refine va_get (D := E.1) (ci := 10) (v := .int (nI (alA (ALf (N 5) (N 9) (F 6) (F 10) (F 11) i) (16 ^ N 9)))) (C := RX12) (T := TX12) (N := 30) hx hb hts iX12 hown hK hP 0 rfl rfl 27 (by decide) (hts _ kw_766) (fun _ h9 => h9) rfl dX12_end_28 ?_
      refine lv_aload_n hx hb dX12_end_31 rfl (lv_at hl 0 rfl) ?_
      refine va_get (D := E.1) (ci := 10) (v := .int (nI (N 5))) (C := RX12) (T := TX12) (N := 30) hx hb hts iX12 hown hK hP 0 rfl rfl 5 (by decide) (hts _ kw_744) (fun _ h9 => h9) rfl dX12_end_32 ?_
      refine cV_r (rest := []) hC (c_m_areExperts l E ad lk tr (va_up (va_up N 26 (alC (ALf (N 5) (N 9) (F 6) (F 10) (F 11) i) (16 ^ N 9))) 27 (alA (ALf (N 5) (N 9) (F 6) (F 10) (F 11) i) (16 ^ N 9))) X (va_up (va_up F 24 f24) 25 f25) G (alA (ALf (N 5) (N 9) (F 6) (F 10) (F 11) i) (16 ^ N 9)) (N 5) (by omega) (by omega)) kw_953 iy_X12_areExperts ⟨Nat.le_of_ble_eq_true rfl, Nat.le_of_ble_eq_true rfl⟩ ⟨rfl, rfl⟩ hK hP (va_recv hK hP (ci := 10) (q0 := 0) rfl rfl) rfl hl.1 rfl (Nat.le_of_ble_eq_true rfl) dX12_end_35 ⟨Nat.le_of_ble_eq_true rfl, Nat.le_of_ble_eq_true rfl⟩ ?_
      refine W.eq (g2 := F0 m 38 ls [.int (bI (expM (alA (ALf (N 5) (N 9) (F 6) (F 10) (F 11) i) (16 ^ N 9)) (N 5)))]) rfl ?_
      refine b_if_eq (tgt := 45) hx hb dX12_end_38 (by decide) (fun c_3 => ?_) (fun c_3 => ?_)
      · -- t 45
        refine lv_iconst (v := nI 0) hx hb dX12_end_45 (by decide) ?_
        exact rw_i hC rfl hP hD hS (⟨by rw [s_end, if_neg (by rw [c_1]; decide), if_neg (Nat.not_lt.mpr c_2), hci, c_3]; rfl, ⟨lk, _, X, _, G, rfl, ⟨rfl, rfl, rfl, rfl, rfl, rfl, rfl, rfl, rfl⟩, hT, by show N 17 ≤ _; omega⟩⟩) dX12_end_46 (Nat.le_of_ble_eq_true rfl) (Nat.le_of_ble_eq_true rfl)
      · -- f 41
        refine lv_iconst (v := nI 1) hx hb dX12_end_41 (by decide) ?_
        refine lv_goto (tgt := 46) hx hb dX12_end_42 (by decide) ?_
        exact rw_i hC rfl hP hD hS (⟨by rw [s_end, if_neg (by rw [c_1]; decide), if_neg (Nat.not_lt.mpr c_2), hci, c_3]; rfl, ⟨lk, _, X, _, G, rfl, ⟨rfl, rfl, rfl, rfl, rfl, rfl, rfl, rfl, rfl⟩, hT, by show N 17 ≤ _; omega⟩⟩) dX12_end_46 (Nat.le_of_ble_eq_true rfl) (Nat.le_of_ble_eq_true rfl)
    · -- f 18
      refine lv_bipush (v := -3) hx hb dX12_end_18 (by decide) ?_
      exact rw_i hC rfl hP hD hS (⟨by rw [s_end, if_neg (by rw [c_1]; decide), if_pos c_2], QP.rf hT⟩) dX12_end_20 (Nat.le_of_ble_eq_true rfl) (Nat.le_of_ble_eq_true rfl)
  · -- f 8
    refine lv_iconst (v := -1) hx hb dX12_end_8 (by decide) ?_
    exact rw_i hC rfl hP hD hS (⟨by rw [s_end, if_pos c_1], QP.rf hT⟩) dX12_end_9 (Nat.le_of_ble_eq_true rfl) (Nat.le_of_ble_eq_true rfl)
