set_option maxHeartbeats 4000000 in
set_option maxRecDepth 100000 in
theorem k_firstBroken (l : Launch) (E : EE) (to so sa : Nat) (ln : Int32) (L : Nat) (C : Nat → Int32) (f1 n1 : Nat) (hL : L ≤ 60) (hfn : f1 + n1 ≤ L) (sz : Nat) : Wr l yX3_firstBroken cX3_firstBroken 7 (some .int) rm_X3_firstBroken 0 0 E (rdW E to 0 0 so sa ln L C) sz [.ref to, .ref so, .int (nI f1), .int (nI n1)] (fun v1 w1 => ∃ pe nu, w1 = rdW E to pe nu so sa ln L C ∧ ((∃ r1, v1 = some (.int (nI r1)) ∧ ((r1 < n1 ∧ (∃ s1, parse (fun j => C (f1 + j)) r1 = some s1) ∧ parse (fun j => C (f1 + j)) (r1 + 1) = none) ∨ (r1 = n1 ∧ ∃ per num, parse (fun j => C (f1 + j)) n1 = some (true, per, num)))) ∨ (v1 = some (.int (-1)) ∧ ∃ num, parse (fun j => C (f1 + j)) n1 = some (false, pe, num) ∧ NX pe num nu))) := by
  refine mk_wr (by decide) (Nat.le_of_ble_eq_true rfl) ?_
  intro p e s m args below meth c hC hin hK A hA hP hD hS ls hl
  obtain ⟨hx, hb, hr, hts, hown, hml, hlk, hN⟩ := id hC
  have hl : lv_has ls 7 [(0, .ref to), (1, .ref so), (2, .int (nI f1)), (3, .int (nI n1))] := hl
  obtain ⟨H, hH⟩ : ∃ z, z = s.heap := ⟨_, rfl⟩
  have hS : va_S A s.heap H [] := by rw [hH]; exact hS
  rw [← hH] at hP
  refine W_heap hH ?_
  obtain ⟨locs, hlo⟩ : ∃ z : List Loc, z = [] := ⟨_, rfl⟩
  rw [← hlo] at hS ⊢
  refine lv_iconst (v := nI 1) hx hb dX3_firstBroken_0 (by decide) ?_
  refine lv_istore (lv' := [(4, .int (nI 1)), (0, .ref to), (1, .ref so), (2, .int (nI f1)), (3, .int (nI n1))]) hx hb dX3_firstBroken_1 hl (by decide) rfl (fun ls hl => ?_)
  refine lv_iconst (v := nI 0) hx hb dX3_firstBroken_3 (by decide) ?_
  refine lv_istore (lv' := [(5, .int (nI 0)), (4, .int (nI 1)), (0, .ref to), (1, .ref so), (2, .int (nI f1)), (3, .int (nI n1))]) hx hb dX3_firstBroken_4 hl (by decide) rfl (fun ls hl => ?_)
  have lp_1 : ∀ (n_lp_1 : Nat) (k pe nu : Nat) (d1 : Bool) (num : Nat → Nat) (hk : k ≤ n1) (hpa : parse (fun j => C (f1 + j)) k = some (d1, pe, num)) (hx1 : NX pe num nu), n1 - k < n_lp_1 → ∀ (H : Heap) (locs : List Loc) (hP : va_P E.1 vwCl (rdW E to pe nu so sa ln L C) H) (hD : va_D A (rdW E to pe nu so sa ln L C)) (hS : va_S A s.heap H locs) (ls : Array Slot), lv_has ls 7 [(0, .ref to), (1, .ref so), (2, .int (nI f1)), (3, .int (nI n1)), (4, .int (bI d1)), (5, .int (nI k))] → W p l e rm_X3_firstBroken s m args below meth c H locs 0 0 (MQ below (wr_Q E A (fun v1 w1 => ∃ pe nu, w1 = rdW E to pe nu so sa ln L C ∧ ((∃ r1, v1 = some (.int (nI r1)) ∧ ((r1 < n1 ∧ (∃ s1, parse (fun j => C (f1 + j)) r1 = some s1) ∧ parse (fun j => C (f1 + j)) (r1 + 1) = none) ∨ (r1 = n1 ∧ ∃ per num, parse (fun j => C (f1 + j)) n1 = some (true, per, num)))) ∨ (v1 = some (.int (-1)) ∧ ∃ num, parse (fun j => C (f1 + j)) n1 = some (false, pe, num) ∧ NX pe num nu)))) args s 0 0 A) (F0 m 6 ls []) := by
    intro n_lp_1
    induction n_lp_1 with
    | zero => intro k pe nu d1 num hk hpa hx1; intro hm_lp_1; exact absurd hm_lp_1 (Nat.not_lt_zero _)
    | succ n_lp_1 ih_lp_1 =>
      intro k pe nu d1 num hk hpa hx1 hm_lp_1 H locs hP hD hS ls hl
      have hok := parse_ok hpa
      refine lv_iload hx hb dX3_firstBroken_6 (lv_at hl 5 rfl) ?_
      refine lv_iload_n hx hb dX3_firstBroken_8 rfl (lv_at hl 3 rfl) ?_
      refine n_icmp_ge (tgt := 89) hx hb (by omega) (by omega) dX3_firstBroken_9 (by decide) (fun c_2 => ?_) (fun c_2 => ?_)
      · -- t 89
        refine lv_iload hx hb dX3_firstBroken_89 (lv_at hl 4 rfl) ?_
        refine b_if_eq (tgt := 98) hx hb dX3_firstBroken_91 (by decide) (fun c_3 => ?_) (fun c_3 => ?_)
        · -- t 98
          refine lv_iconst (v := -1) hx hb dX3_firstBroken_98 (by decide) ?_
          exact rw_i hC rfl hP hD hS (⟨pe, nu, rfl, Or.inr ⟨rfl, num, by rw [← (by omega : k = n1), hpa, c_3], hx1⟩⟩) dX3_firstBroken_99 (Nat.le_of_ble_eq_true rfl) (Nat.le_of_ble_eq_true rfl)
        · -- f 94
          refine lv_iload_n hx hb dX3_firstBroken_94 rfl (lv_at hl 3 rfl) ?_
          refine lv_goto (tgt := 99) hx hb dX3_firstBroken_95 (by decide) ?_
          exact rw_i hC rfl hP hD hS (⟨pe, nu, rfl, Or.inl ⟨n1, rfl, Or.inr ⟨rfl, pe, num, by rw [← (by omega : k = n1), hpa, c_3]⟩⟩⟩) dX3_firstBroken_99 (Nat.le_of_ble_eq_true rfl) (Nat.le_of_ble_eq_true rfl)
      · -- f 12
        refine lv_aload_n hx hb dX3_firstBroken_12 rfl (lv_at hl 1 rfl) ?_
        refine lv_iload_n hx hb dX3_firstBroken_13 rfl (lv_at hl 2 rfl) ?_
        refine lv_iload hx hb dX3_firstBroken_14 (lv_at hl 5 rfl) ?_
        refine n_iadd hx hb dX3_firstBroken_16 ?_
        have hat : atS C L (nI (f1 + k)) = C (f1 + k) := (by unfold atS; rw [hasR_n (by omega) (by decide), if_pos (decide_eq_true (by omega)), nI_clamp (by omega)])
        refine cV_r (rest := []) hC (hat ▸ k_at l E so sa ln L C hL (nI (f1 + k))) kw_187 iy_X7_at ⟨Nat.le_of_ble_eq_true rfl, Nat.le_of_ble_eq_true rfl⟩ ⟨rfl, rfl⟩ hK (va_P_r (X := ntW E to pe nu) (Y := (shW E so sa ln L C)) hP) (va_recv hK hP (ci := 5) (q0 := 1) rfl rfl) rfl hl.1 rfl (Nat.le_of_ble_eq_true rfl) dX3_firstBroken_17 ⟨Nat.le_of_ble_eq_true rfl, Nat.le_of_ble_eq_true rfl⟩ ?_
        refine lv_istore (lv' := [(6, .int (C (f1 + k))), (0, .ref to), (1, .ref so), (2, .int (nI f1)), (3, .int (nI n1)), (4, .int (bI d1)), (5, .int (nI k))]) hx hb dX3_firstBroken_20 hl (by decide) rfl (fun ls hl => ?_)
        refine lv_iload hx hb dX3_firstBroken_22 (lv_at hl 5 rfl) ?_
        refine b_if_eq (tgt := 47) hx hb dX3_firstBroken_24 (by decide) (fun c_4 => ?_) (fun c_4 => ?_)
        · -- t 47
          have hpe := hok.2.2.1 c_4
          have hpe4 := hok.1
          refine lv_iload hx hb dX3_firstBroken_47 (lv_at hl 0 rfl) ?_
          refine lv_bipush (v := nI 59) hx hb dX3_firstBroken_49 (by decide) ?_
          refine lv_icmp_ne (tgt := 71) hx hb dX3_firstBroken_51 (by decide) (fun c_5 => ?_) (fun c_5 => ?_)
          · -- t 71
            have hsm := c_5
            refine lv_aload_n hx hb dX3_firstBroken_71 rfl (lv_at hl 1 rfl) ?_
            refine lv_iload hx hb dX3_firstBroken_72 (lv_at hl 0 rfl) ?_
            refine cV_wr (X := []) (Y := (shW E so sa ln L C)) (rest := []) hC (k_takesNumber l E to pe nu (by omega) (by omega) hx1.1 (C (f1 + k)) _) kw_199 iy_X3_takesNumber ⟨Nat.le_of_ble_eq_true rfl, Nat.le_of_ble_eq_true rfl⟩ ⟨rfl, rfl⟩ hK hP hD hS hA rfl (va_recv hK hP (ci := 2) (q0 := 0) rfl rfl) rfl hl.1 rfl (Nat.le_of_ble_eq_true rfl) dX3_firstBroken_74 ⟨Nat.le_of_ble_eq_true rfl, Nat.le_of_ble_eq_true rfl⟩ (fun v_ w_ H locs hpost hP hD hS => ?_)
            obtain ⟨rfl, rfl⟩ := hpost
            have hP : va_P E.1 vwCl (rdW E to pe (dgN pe nu (C (f1 + k))) so sa ln L C) H := hP
            have hD : va_D A (rdW E to pe (dgN pe nu (C (f1 + k))) so sa ln L C) := hD
            refine W.eq (g2 := F0 m 77 ls [.int (bI (dgB pe nu (C (f1 + k))))]) rfl ?_
            refine b_if_ne (tgt := 83) hx hb dX3_firstBroken_77 (by decide) (fun c_6 => ?_) (fun c_6 => ?_)
            · -- t 83
              obtain ⟨num2, hps2, hnx2⟩ : ∃ num2, pstep (false, pe, num) (C (f1 + k)) = some (false, pe, num2) ∧ NX pe num2 (dgN pe nu (C (f1 + k))) := (by obtain ⟨z, rfl⟩ : ∃ z, pe = z + 1 := ⟨pe - 1, by omega⟩; exact dg_yes (by omega) hx1 hsm c_6)
              refine lv_iinc (v := nI (k + 1)) (lv' := [(5, .int (nI (k + 1))), (6, .int (C (f1 + k))), (0, .ref to), (1, .ref so), (2, .int (nI f1)), (3, .int (nI n1)), (4, .int (bI d1))]) hx hb dX3_firstBroken_83 hl (k := 6) rfl (ii_1 _) (by decide) rfl (fun ls hl => ?_)
              refine lv_goto (tgt := 6) hx hb dX3_firstBroken_86 (by decide) ?_
              exact ih_lp_1 (k + 1) pe (dgN pe nu (C (f1 + k))) d1 num2 (by omega) (by rw [parse_s hpa, c_4]; exact hps2) hnx2 (by omega) H locs hP hD hS ls (lv_sub hl [2, 3, 4, 5, 6, 0] rfl)
            · -- f 80
              refine lv_iload hx hb dX3_firstBroken_80 (lv_at hl 6 rfl) ?_
              exact rw_i hC rfl hP hD hS (⟨pe, (dgN pe nu (C (f1 + k))), rfl, Or.inl ⟨k, rfl, Or.inl ⟨by omega, ⟨_, hpa⟩, by rw [parse_s hpa, c_4]; exact (by obtain ⟨z, rfl⟩ : ∃ z, pe = z + 1 := ⟨pe - 1, by omega⟩; exact dg_no (by omega) hx1 hsm c_6)⟩⟩⟩) dX3_firstBroken_82 (Nat.le_of_ble_eq_true rfl) (Nat.le_of_ble_eq_true rfl)
          · -- f 54
            have hsm := c_5
            refine lv_aload_n hx hb dX3_firstBroken_54 rfl (lv_at hl 1 rfl) ?_
            refine va_get (D := E.1) (ci := 2) (v := .int (nI pe)) (C := RX3) (T := TX3) (N := 2) hx hb hts iX3 hown hK hP 0 rfl rfl 0 (by decide) (hts _ kw_171) (fun _ h9 => h9) rfl dX3_firstBroken_55 ?_
            refine lv_iconst (v := nI 4) hx hb dX3_firstBroken_58 (by decide) ?_
            refine n_icmp_ne (tgt := 65) hx hb (by omega) (by omega) dX3_firstBroken_59 (by decide) (fun c_7 => ?_) (fun c_7 => ?_)
            · -- t 65
              refine lv_iconst (v := nI 1) hx hb dX3_firstBroken_65 (by decide) ?_
              refine lv_istore (lv' := [(4, .int (nI 1)), (6, .int (C (f1 + k))), (0, .ref to), (1, .ref so), (2, .int (nI f1)), (3, .int (nI n1)), (5, .int (nI k))]) hx hb dX3_firstBroken_66 hl (by decide) rfl (fun ls hl => ?_)
              refine lv_goto (tgt := 83) hx hb dX3_firstBroken_68 (by decide) ?_
              refine lv_iinc (v := nI (k + 1)) (lv' := [(5, .int (nI (k + 1))), (4, .int (nI 1)), (6, .int (C (f1 + k))), (0, .ref to), (1, .ref so), (2, .int (nI f1)), (3, .int (nI n1))]) hx hb dX3_firstBroken_83 hl (k := 6) rfl (ii_1 _) (by decide) rfl (fun ls hl => ?_)
              refine lv_goto (tgt := 6) hx hb dX3_firstBroken_86 (by decide) ?_
              exact ih_lp_1 (k + 1) pe nu true num (by omega) (by rw [parse_s hpa, c_4]; exact pstep_semi hsm c_7) hx1 (by omega) H locs hP hD hS ls (lv_sub hl [3, 4, 5, 6, 1, 0] rfl)
            · -- f 62
              refine lv_iload hx hb dX3_firstBroken_62 (lv_at hl 6 rfl) ?_
              exact rw_i hC rfl hP hD hS (⟨pe, nu, rfl, Or.inl ⟨k, rfl, Or.inl ⟨by omega, ⟨_, hpa⟩, by rw [parse_s hpa, c_4]; exact pstep_semi4 hsm c_7⟩⟩⟩) dX3_firstBroken_64 (Nat.le_of_ble_eq_true rfl) (Nat.le_of_ble_eq_true rfl)
        · -- f 27
          have hpe := hok.2.1 c_4
          have hpe4 := hok.1
          refine lv_iload hx hb dX3_firstBroken_27 (lv_at hl 0 rfl) ?_
          refine lv_bipush (v := nI 112) hx hb dX3_firstBroken_29 (by decide) ?_
          refine lv_icmp_eq (tgt := 37) hx hb dX3_firstBroken_31 (by decide) (fun c_8 => ?_) (fun c_8 => ?_)
          · -- t 37
            refine lv_aload_n hx hb dX3_firstBroken_37 rfl (lv_at hl 1 rfl) ?_
            refine cV_wr (X := []) (Y := (shW E so sa ln L C)) (rest := []) hC (k_beginItem l E to pe nu (by omega) _) kw_192 iy_X3_beginItem ⟨Nat.le_of_ble_eq_true rfl, Nat.le_of_ble_eq_true rfl⟩ ⟨rfl, rfl⟩ hK hP hD hS hA rfl (va_recv hK hP (ci := 2) (q0 := 0) rfl rfl) rfl hl.1 rfl (Nat.le_of_ble_eq_true rfl) dX3_firstBroken_38 ⟨Nat.le_of_ble_eq_true rfl, Nat.le_of_ble_eq_true rfl⟩ (fun v_ w_ H locs hpost hP hD hS => ?_)
            obtain ⟨rfl, rfl⟩ := hpost
            have hP : va_P E.1 vwCl (rdW E to (pe + 1) (nu ||| 1 <<< (4 * pe + pe)) so sa ln L C) H := hP
            have hD : va_D A (rdW E to (pe + 1) (nu ||| 1 <<< (4 * pe + pe)) so sa ln L C) := hD
            refine W.eq (g2 := F0 m 41 ls []) rfl ?_
            refine lv_iconst (v := nI 0) hx hb dX3_firstBroken_41 (by decide) ?_
            refine lv_istore (lv' := [(4, .int (nI 0)), (6, .int (C (f1 + k))), (0, .ref to), (1, .ref so), (2, .int (nI f1)), (3, .int (nI n1)), (5, .int (nI k))]) hx hb dX3_firstBroken_42 hl (by decide) rfl (fun ls hl => ?_)
            refine lv_goto (tgt := 83) hx hb dX3_firstBroken_44 (by decide) ?_
            refine lv_iinc (v := nI (k + 1)) (lv' := [(5, .int (nI (k + 1))), (4, .int (nI 0)), (6, .int (C (f1 + k))), (0, .ref to), (1, .ref so), (2, .int (nI f1)), (3, .int (nI n1))]) hx hb dX3_firstBroken_83 hl (k := 6) rfl (ii_1 _) (by decide) rfl (fun ls hl => ?_)
            refine lv_goto (tgt := 6) hx hb dX3_firstBroken_86 (by decide) ?_
            exact ih_lp_1 (k + 1) (pe + 1) (nu ||| 1 <<< (4 * pe + pe)) false (va_up num pe 0) (by omega) (by rw [parse_s hpa, c_4]; exact pstep_p c_8) (NX_item (by omega) hx1) (by omega) H locs hP hD hS ls (lv_sub hl [3, 4, 5, 6, 1, 0] rfl)
          · -- f 34
            refine lv_iload hx hb dX3_firstBroken_34 (lv_at hl 6 rfl) ?_
            exact rw_i hC rfl hP hD hS (⟨pe, nu, rfl, Or.inl ⟨k, rfl, Or.inl ⟨by omega, ⟨_, hpa⟩, by rw [parse_s hpa, c_4]; exact pstep_np c_8⟩⟩⟩) dX3_firstBroken_36 (Nat.le_of_ble_eq_true rfl) (Nat.le_of_ble_eq_true rfl)
  exact lp_1 _ 0 0 0 true (fun _ => 0) (Nat.zero_le _) rfl (NX_0 _) (Nat.lt_succ_self _) H locs hP hD hS ls (lv_sub hl [2, 3, 4, 5, 1, 0] rfl)
