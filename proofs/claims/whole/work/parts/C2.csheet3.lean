set_option maxHeartbeats 4000000 in
set_option maxRecDepth 100000 in
theorem k_sheet (l : Launch) (E : EE) (ca ra : Nat → Nat) (ao : Nat) (C : Nat → Nat) (sh : Nat → Option Nat) (a1 a2 a3 : Int32) (sz : Nat) : Wr l yX11_sheet cX11_sheet 4 (some .int) rm_X11_sheet 2 62 E (osW E ca ra ao C sh) sz [.ref (ca 0), .int a1, .int a2, .int a3] (fun v1 w1 => if isIn a1 (nI 0) (nI 3) = false then v1 = some (.int (-1)) ∧ w1 = osW E ca ra ao (va_up C 5 0) sh else if isIn a2 (nI 0) (nI 2) = false then v1 = some (.int (-2)) ∧ w1 = osW E ca ra ao (va_up C 5 0) sh else if nI 60 < a3 then v1 = some (.int (-2)) ∧ w1 = osW E ca ra ao (va_up C 5 0) sh else if a3 < 0 then v1 = some (.int ((-10) - nI 4)) ∧ w1 = osW E ca ra ao (va_up C 5 4) sh else v1 = some (.int (nI 1)) ∧ ∃ so sa, w1 = o1W E ca ra ao (va_up C 5 0) (va_up sh a1.toNatClampNeg (some so)) so sa a2 a3.toNatClampNeg (fun _ => nI 0)) := by
  refine mk_wr (by decide) (Nat.le_of_ble_eq_true rfl) ?_
  intro p e s m args below meth c hC hin hK A hA hP hD hS ls hl
  obtain ⟨hx, hb, hr, hts, hown, hml, hlk, hN⟩ := id hC
  have hl : lv_has ls 4 [(0, .ref (ca 0)), (1, .int a1), (2, .int a2), (3, .int a3)] := hl
  obtain ⟨H, hH⟩ : ∃ z, z = s.heap := ⟨_, rfl⟩
  have hS : va_S A s.heap H [] := by rw [hH]; exact hS
  rw [← hH] at hP
  refine W_heap hH ?_
  obtain ⟨locs, hlo⟩ : ∃ z : List Loc, z = [] := ⟨_, rfl⟩
  rw [← hlo] at hS ⊢
  refine lv_aload_n hx hb dX11_sheet_0 rfl (lv_at hl 0 rfl) ?_
  refine lv_iconst (v := nI 0) hx hb dX11_sheet_1 (by decide) ?_
  refine va_put (D := E.1) (ci := 9) (v := .int (nI 0)) (ty := .int) (C := RX11) (T := TX11) (N := 13) hx hb hts iX11 tyX11 tyX11_ok nmX11 hown hK hP hD hS 0 rfl rfl 5 (by decide) (hts _ kw_109) (fun _ h9 => h9) rfl (by decide +kernel) rfl rfl (Nat.le_of_ble_eq_true rfl) dX11_sheet_2 (fun H locs hP hD hS => ?_)
  have hP : va_P E.1 vwCl (osW E ca ra ao (va_up C 5 0) sh) H := hP
  have hD : va_D A (osW E ca ra ao (va_up C 5 0) sh) := hD
  refine lv_aload_n hx hb dX11_sheet_5 rfl (lv_at hl 0 rfl) ?_
  refine lv_iload_n hx hb dX11_sheet_6 rfl (lv_at hl 1 rfl) ?_
  refine cV_r (rest := []) hC (k_isSheet l E ca ra ao (va_up C 5 0) a1) kw_148 iy_X11_isSheet ⟨Nat.le_of_ble_eq_true rfl, Nat.le_of_ble_eq_true rfl⟩ ⟨rfl, rfl⟩ hK (show va_P E.1 vwCl (oW ca ra ao (va_up C 5 0)) H from va_P_mem.mpr fun q9 h9 => va_P_mem.mp hP q9 (by rw [List.mem_singleton.mp h9]; exact List.mem_cons_self)) (va_recv hK hP (ci := 9) (q0 := 0) rfl rfl) rfl hl.1 rfl (Nat.le_of_ble_eq_true rfl) dX11_sheet_7 ⟨Nat.le_of_ble_eq_true rfl, Nat.le_of_ble_eq_true rfl⟩ ?_
  refine W.eq (g2 := F0 m 10 ls [.int (bI (isIn a1 (nI 0) (nI 3)))]) rfl ?_
  refine b_if_ne (tgt := 15) hx hb dX11_sheet_10 (by decide) (fun c_1 => ?_) (fun c_1 => ?_)
  · -- t 15
    obtain ⟨k1, hk1, rfl⟩ := isIn_nat (by decide) c_1
    have hl : lv_has ls 4 [(0, .ref (ca 0)), (1, .int (nI k1)), (2, .int a2), (3, .int a3)] := hl
    refine lv_aload_n hx hb dX11_sheet_15 rfl (lv_at hl 0 rfl) ?_
    refine lv_iload_n hx hb dX11_sheet_16 rfl (lv_at hl 2 rfl) ?_
    refine cV_r (rest := []) hC (k_isLane l E ca ra ao (va_up C 5 0) a2) kw_152 iy_X11_isLane ⟨Nat.le_of_ble_eq_true rfl, Nat.le_of_ble_eq_true rfl⟩ ⟨rfl, rfl⟩ hK (show va_P E.1 vwCl (oW ca ra ao (va_up C 5 0)) H from va_P_mem.mpr fun q9 h9 => va_P_mem.mp hP q9 (by rw [List.mem_singleton.mp h9]; exact List.mem_cons_self)) (va_recv hK hP (ci := 9) (q0 := 0) rfl rfl) rfl hl.1 rfl (Nat.le_of_ble_eq_true rfl) dX11_sheet_17 ⟨Nat.le_of_ble_eq_true rfl, Nat.le_of_ble_eq_true rfl⟩ ?_
    refine W.eq (g2 := F0 m 20 ls [.int (bI (isIn a2 (nI 0) (nI 2)))]) rfl ?_
    refine b_if_eq (tgt := 29) hx hb dX11_sheet_20 (by decide) (fun c_2 => ?_) (fun c_2 => ?_)
    · -- t 29
      refine lv_bipush (v := -2) hx hb dX11_sheet_29 (by decide) ?_
      exact rw_i hC rfl hP hD hS (by rw [if_neg (by rw [nat_isIn (by decide) hk1]; decide), if_pos c_2]; exact ⟨rfl, rfl⟩) dX11_sheet_31 (Nat.le_of_ble_eq_true rfl) (Nat.le_of_ble_eq_true rfl)
    · -- f 23
      obtain ⟨l1, hl1, rfl⟩ := isIn_nat (by decide) c_2
      have hl : lv_has ls 4 [(0, .ref (ca 0)), (1, .int (nI k1)), (2, .int (nI l1)), (3, .int a3)] := hl
      refine lv_iload_n hx hb dX11_sheet_23 rfl (lv_at hl 3 rfl) ?_
      refine lv_bipush (v := nI 60) hx hb dX11_sheet_24 (by decide) ?_
      refine lv_icmp_le (tgt := 32) hx hb dX11_sheet_26 (by decide) (fun c_3 => ?_) (fun c_3 => ?_)
      · -- t 32
        refine lv_iload_n hx hb dX11_sheet_32 rfl (lv_at hl 3 rfl) ?_
        refine lv_if_ge (tgt := 42) hx hb dX11_sheet_33 (by decide) (fun c_4 => ?_) (fun c_4 => ?_)
        · -- t 42
          obtain ⟨n1, hn1, rfl⟩ := gt60_nat (Int32.not_lt.mpr c_4) c_3
          have hl : lv_has ls 4 [(0, .ref (ca 0)), (1, .int (nI k1)), (2, .int (nI l1)), (3, .int (nI n1))] := hl
          refine lv_aload_n hx hb dX11_sheet_42 rfl (lv_at hl 0 rfl) ?_
          refine va_get (D := E.1) (ci := 9) (v := .ref (ca 1)) (C := RX11) (T := TX11) (N := 13) hx hb hts iX11 hown hK hP 0 rfl rfl 0 (by decide) (hts _ kw_104) (fun _ h9 => h9) rfl dX11_sheet_43 ?_
          refine lv_iload_n hx hb dX11_sheet_46 rfl (lv_at hl 1 rfl) ?_
          refine va_new (ci := 5) (fs := [.int (nI 0), .null]) (C := RX7) (T := TX7) (N := 2) hx hb hts iX7 tyX7 tyX7_ok hown (hts _ kw_26) (hts _ kw_618) (hts _ kw_16) hK hP hD hS hA rfl (fun j hj => by rcases (show j = 0 ∨ j = 1 by omega) with rfl | rfl <;> rfl) (Nat.le_of_ble_eq_true rfl) (Nat.le_of_ble_eq_true rfl) dX11_sheet_47 (fun q_5 H hP hD hS => ?_)
          have hP : va_P E.1 vwCl ((osW E ca ra ao (va_up C 5 0) sh) ++ [(q_5, .inr (5, [.int (nI 0), .null]))]) H := hP
          have hD : va_D A ((osW E ca ra ao (va_up C 5 0) sh) ++ [(q_5, .inr (5, [.int (nI 0), .null]))]) := hD
          refine W.widen (k := 1) (n := 2) (Nat.le_of_ble_eq_true rfl) (Nat.le_of_ble_eq_true rfl) ?_
          refine lv_dup hx hb dX11_sheet_50 rfl ?_
          refine lv_iload_n hx hb dX11_sheet_51 rfl (lv_at hl 2 rfl) ?_
          refine lv_iload_n hx hb dX11_sheet_52 rfl (lv_at hl 3 rfl) ?_
          refine cI_wr (X := (osW E ca ra ao (va_up C 5 0) sh)) (Y := []) (rest := [.ref q_5, .int (nI k1), .ref (ca 1)]) hC (k_s_init l E q_5 _ l1 n1 (by omega)) kw_619 ny_X7_init ⟨Nat.le_of_ble_eq_true rfl, Nat.le_of_ble_eq_true rfl⟩ ⟨rfl, rfl⟩ hK hP hD hS hA rfl rfl hl.1 rfl (Nat.le_of_ble_eq_true rfl) dX11_sheet_53 ⟨Nat.le_of_ble_eq_true rfl, Nat.le_of_ble_eq_true rfl⟩ (fun v_ w_ H locs hpost hP hD hS => ?_)
          obtain ⟨rfl, sa_6, rfl⟩ := hpost
          have hP : va_P E.1 vwCl ((osW E ca ra ao (va_up C 5 0) sh) ++ [(q_5, .inr (5, [.int (nI l1), .ref sa_6])), (sa_6, .inl (E.2 1, n1, .inl (fun _ => nI 0)))]) H := hP
          have hD : va_D A ((osW E ca ra ao (va_up C 5 0) sh) ++ [(q_5, .inr (5, [.int (nI l1), .ref sa_6])), (sa_6, .inl (E.2 1, n1, .inl (fun _ => nI 0)))]) := hD
          refine W.widen (k := 2) (n := 62) (Nat.le_of_ble_eq_true rfl) (Nat.le_of_ble_eq_true rfl) ?_
          refine W.eq (g2 := F0 m 56 ls [.ref q_5, .int (nI k1), .ref (ca 1)]) rfl ?_
          refine va_astq hx hb hK hP hD hS 1 3 2 5 rfl rfl rfl rfl (vp_in_nI (by omega) (by decide)) dX11_sheet_56 (fun H locs hP hD hS => ?_)
          rw [nI_clamp (by omega)] at hP hD
          have hP : va_P E.1 vwCl ((osW E ca ra ao (va_up C 5 0) (va_up sh k1 (some q_5))) ++ [(q_5, .inr (5, [.int (nI l1), .ref sa_6])), (sa_6, .inl (E.2 1, n1, .inl (fun _ => nI 0)))]) H := hP
          have hD : va_D A ((osW E ca ra ao (va_up C 5 0) (va_up sh k1 (some q_5))) ++ [(q_5, .inr (5, [.int (nI l1), .ref sa_6])), (sa_6, .inl (E.2 1, n1, .inl (fun _ => nI 0)))]) := hD
          refine lv_iconst (v := nI 1) hx hb dX11_sheet_57 (by decide) ?_
          exact rw_i hC rfl hP hD hS (by rw [if_neg (by rw [nat_isIn (by decide) hk1]; decide), if_neg (by rw [nat_isIn (by decide) hl1]; decide), if_neg (fun h9 => absurd ((nI_ltI (by decide) (by omega)).mp h9) (by omega)), if_neg (nI_pos (by omega))]; exact ⟨rfl, q_5, sa_6, by rw [nI_clamp (by omega), nI_clamp (by omega)]; rfl⟩) dX11_sheet_58 (Nat.le_of_ble_eq_true rfl) (Nat.le_of_ble_eq_true rfl)
        · -- f 36
          refine lv_aload_n hx hb dX11_sheet_36 rfl (lv_at hl 0 rfl) ?_
          refine lv_iconst (v := nI 4) hx hb dX11_sheet_37 (by decide) ?_
          refine cV_wr (X := []) (Y := [osC E (ca 1) sh]) (rest := []) hC (k_faulted l E ca ra ao (va_up C 5 0) 4 _) kw_156 iy_X11_faulted ⟨Nat.le_of_ble_eq_true rfl, Nat.le_of_ble_eq_true rfl⟩ ⟨rfl, rfl⟩ hK hP hD hS hA rfl (va_recv hK hP (ci := 9) (q0 := 0) rfl rfl) rfl hl.1 rfl (Nat.le_of_ble_eq_true rfl) dX11_sheet_38 ⟨Nat.le_of_ble_eq_true rfl, Nat.le_of_ble_eq_true rfl⟩ (fun v_ w_ H locs hpost hP hD hS => ?_)
          obtain ⟨rfl, rfl⟩ := hpost
          have hP : va_P E.1 vwCl (osW E ca ra ao (va_up C 5 4) sh) H := hP
          have hD : va_D A (osW E ca ra ao (va_up C 5 4) sh) := hD
          refine W.eq (g2 := F0 m 41 ls [.int ((-10) - nI 4)]) rfl ?_
          exact rw_i hC rfl hP hD hS (by rw [if_neg (by rw [nat_isIn (by decide) hk1]; decide), if_neg (by rw [nat_isIn (by decide) hl1]; decide), if_neg (Int32.not_lt.mpr c_3), if_pos (Int32.not_le.mp c_4)]; exact ⟨rfl, rfl⟩) dX11_sheet_41 (Nat.le_of_ble_eq_true rfl) (Nat.le_of_ble_eq_true rfl)
      · -- f 29
        refine lv_bipush (v := -2) hx hb dX11_sheet_29 (by decide) ?_
        exact rw_i hC rfl hP hD hS (by rw [if_neg (by rw [nat_isIn (by decide) hk1]; decide), if_neg (by rw [nat_isIn (by decide) hl1]; decide), if_pos (Int32.not_le.mp c_3)]; exact ⟨rfl, rfl⟩) dX11_sheet_31 (Nat.le_of_ble_eq_true rfl) (Nat.le_of_ble_eq_true rfl)
  · -- f 13
    refine lv_iconst (v := -1) hx hb dX11_sheet_13 (by decide) ?_
    exact rw_i hC rfl hP hD hS (by rw [if_pos c_1]; exact ⟨rfl, rfl⟩) dX11_sheet_14 (Nat.le_of_ble_eq_true rfl) (Nat.le_of_ble_eq_true rfl)

set_option maxHeartbeats 4000000 in
set_option maxRecDepth 100000 in
theorem k_lose (l : Launch) (E : EE) (ca ra : Nat → Nat) (ao : Nat) (C : Nat → Nat) (sh : Nat → Option Nat) (a1 : Int32) (sz : Nat) : Wr l yX11_lose cX11_lose 2 (some .int) rm_X11_lose 0 0 E (osW E ca ra ao C sh) sz [.ref (ca 0), .int a1] (fun v1 w1 => if isIn a1 (nI 0) (nI 3) = false then v1 = some (.int (-1)) ∧ w1 = osW E ca ra ao C sh else if sh a1.toNatClampNeg = none then v1 = some (.int (nI 0)) ∧ w1 = osW E ca ra ao C sh else v1 = some (.int (nI 1)) ∧ w1 = osW E ca ra ao C (va_up sh a1.toNatClampNeg none)) := by
  refine mk_wr (by decide) (Nat.le_of_ble_eq_true rfl) ?_
  intro p e s m args below meth c hC hin hK A hA hP hD hS ls hl
  obtain ⟨hx, hb, hr, hts, hown, hml, hlk, hN⟩ := id hC
  have hl : lv_has ls 2 [(0, .ref (ca 0)), (1, .int a1)] := hl
  obtain ⟨H, hH⟩ : ∃ z, z = s.heap := ⟨_, rfl⟩
  have hS : va_S A s.heap H [] := by rw [hH]; exact hS
  rw [← hH] at hP
  refine W_heap hH ?_
  obtain ⟨locs, hlo⟩ : ∃ z : List Loc, z = [] := ⟨_, rfl⟩
  rw [← hlo] at hS ⊢
  refine lv_aload_n hx hb dX11_lose_0 rfl (lv_at hl 0 rfl) ?_
  refine lv_iload_n hx hb dX11_lose_1 rfl (lv_at hl 1 rfl) ?_
  refine cV_r (rest := []) hC (k_isSheet l E ca ra ao C a1) kw_148 iy_X11_isSheet ⟨Nat.le_of_ble_eq_true rfl, Nat.le_of_ble_eq_true rfl⟩ ⟨rfl, rfl⟩ hK (show va_P E.1 vwCl (oW ca ra ao C) H from va_P_mem.mpr fun q9 h9 => va_P_mem.mp hP q9 (by rw [List.mem_singleton.mp h9]; exact List.mem_cons_self)) (va_recv hK hP (ci := 9) (q0 := 0) rfl rfl) rfl hl.1 rfl (Nat.le_of_ble_eq_true rfl) dX11_lose_2 ⟨Nat.le_of_ble_eq_true rfl, Nat.le_of_ble_eq_true rfl⟩ ?_
  refine b_if_ne (tgt := 10) hx hb dX11_lose_5 (by decide) (fun c_1 => ?_) (fun c_1 => ?_)
  · -- t 10
    obtain ⟨k1, hk1, rfl⟩ := isIn_nat (by decide) c_1
    have hl : lv_has ls 2 [(0, .ref (ca 0)), (1, .int (nI k1))] := hl
    refine lv_aload_n hx hb dX11_lose_10 rfl (lv_at hl 0 rfl) ?_
    refine va_get (D := E.1) (ci := 9) (v := .ref (ca 1)) (C := RX11) (T := TX11) (N := 13) hx hb hts iX11 hown hK hP 0 rfl rfl 0 (by decide) (hts _ kw_104) (fun _ h9 => h9) rfl dX11_lose_11 ?_
    refine lv_iload_n hx hb dX11_lose_14 rfl (lv_at hl 1 rfl) ?_
    refine va_aldq hx hb hK hP 1 3 rfl rfl (vp_in_nI (by omega) (by decide)) dX11_lose_15 ?_
    rw [nI_clamp (by omega)]
    rcases opt_or (sh k1) with hs_2 | ⟨z_3, hs_2⟩
    ·
      refine W.eq (g2 := F0 m 16 ls [.null]) (by rw [hs_2]; rfl) ?_
      refine lv_ifnonnullN hx hb dX11_lose_16 ?_
      refine lv_iconst (v := nI 0) hx hb dX11_lose_19 (by decide) ?_
      exact rw_i hC rfl hP hD hS (by rw [if_neg (by rw [nat_isIn (by decide) hk1]; decide), if_pos hs_2]; exact ⟨rfl, rfl⟩) dX11_lose_20 (Nat.le_of_ble_eq_true rfl) (Nat.le_of_ble_eq_true rfl)
    ·
      refine W.eq (g2 := F0 m 16 ls [.ref z_3]) (by rw [hs_2]; rfl) ?_
      refine lv_ifnonnull (tgt := 21) hx hb dX11_lose_16 (by decide) ?_
      refine lv_aload_n hx hb dX11_lose_21 rfl (lv_at hl 0 rfl) ?_
      refine va_get (D := E.1) (ci := 9) (v := .ref (ca 1)) (C := RX11) (T := TX11) (N := 13) hx hb hts iX11 hown hK hP 0 rfl rfl 0 (by decide) (hts _ kw_104) (fun _ h9 => h9) rfl dX11_lose_22 ?_
      refine lv_iload_n hx hb dX11_lose_25 rfl (lv_at hl 1 rfl) ?_
      refine lv_null hx hb dX11_lose_26 ?_
      refine va_astqN hx hb hK hP hD hS 1 3 rfl rfl (vp_in_nI (by omega) (by decide)) dX11_lose_27 (fun H locs hP hD hS => ?_)
      rw [nI_clamp (by omega)] at hP hD
      have hP : va_P E.1 vwCl (osW E ca ra ao C (va_up sh k1 none)) H := hP
      have hD : va_D A (osW E ca ra ao C (va_up sh k1 none)) := hD
      refine lv_iconst (v := nI 1) hx hb dX11_lose_28 (by decide) ?_
      exact rw_i hC rfl hP hD hS (by rw [if_neg (by rw [nat_isIn (by decide) hk1]; decide), if_neg (by rw [hs_2]; exact fun h9 => by cases h9)]; exact ⟨rfl, rfl⟩) dX11_lose_29 (Nat.le_of_ble_eq_true rfl) (Nat.le_of_ble_eq_true rfl)
  · -- f 8
    refine lv_iconst (v := -1) hx hb dX11_lose_8 (by decide) ?_
    exact rw_i hC rfl hP hD hS (by rw [if_pos c_1]; exact ⟨rfl, rfl⟩) dX11_lose_9 (Nat.le_of_ble_eq_true rfl) (Nat.le_of_ble_eq_true rfl)

set_option maxHeartbeats 4000000 in
set_option maxRecDepth 100000 in
theorem k_put_n (l : Launch) (E : EE) (ca ra : Nat → Nat) (ao : Nat) (C : Nat → Nat) (sh : Nat → Option Nat) (a1 a2 a3 : Int32) (hno : ∀ k1, k1 ≤ 3 → a1 = nI k1 → sh k1 = none) (sz : Nat) : Wr l yX11_put cX11_put 5 (some .int) rm_X11_put 0 0 E (osW E ca ra ao C sh) sz [.ref (ca 0), .int a1, .int a2, .int a3] (fun v1 w1 => if isIn a1 (nI 0) (nI 3) = false then v1 = some (.int (-1)) ∧ w1 = osW E ca ra ao (va_up C 5 0) sh else v1 = some (.int ((-10) - nI 1)) ∧ w1 = osW E ca ra ao (va_up C 5 1) sh) := by
  refine mk_wr (by decide) (Nat.le_of_ble_eq_true rfl) ?_
  intro p e s m args below meth c hC hin hK A hA hP hD hS ls hl
  obtain ⟨hx, hb, hr, hts, hown, hml, hlk, hN⟩ := id hC
  have hl : lv_has ls 5 [(0, .ref (ca 0)), (1, .int a1), (2, .int a2), (3, .int a3)] := hl
  obtain ⟨H, hH⟩ : ∃ z, z = s.heap := ⟨_, rfl⟩
  have hS : va_S A s.heap H [] := by rw [hH]; exact hS
  rw [← hH] at hP
  refine W_heap hH ?_
  obtain ⟨locs, hlo⟩ : ∃ z : List Loc, z = [] := ⟨_, rfl⟩
  rw [← hlo] at hS ⊢
  refine lv_aload_n hx hb dX11_put_0 rfl (lv_at hl 0 rfl) ?_
  refine lv_iconst (v := nI 0) hx hb dX11_put_1 (by decide) ?_
  refine va_put (D := E.1) (ci := 9) (v := .int (nI 0)) (ty := .int) (C := RX11) (T := TX11) (N := 13) hx hb hts iX11 tyX11 tyX11_ok nmX11 hown hK hP hD hS 0 rfl rfl 5 (by decide) (hts _ kw_109) (fun _ h9 => h9) rfl (by decide +kernel) rfl rfl (Nat.le_of_ble_eq_true rfl) dX11_put_2 (fun H locs hP hD hS => ?_)
  have hP : va_P E.1 vwCl (osW E ca ra ao (va_up C 5 0) sh) H := hP
  have hD : va_D A (osW E ca ra ao (va_up C 5 0) sh) := hD
  refine lv_aload_n hx hb dX11_put_5 rfl (lv_at hl 0 rfl) ?_
  refine lv_iload_n hx hb dX11_put_6 rfl (lv_at hl 1 rfl) ?_
  refine cV_r (rest := []) hC (k_isSheet l E ca ra ao (va_up C 5 0) a1) kw_148 iy_X11_isSheet ⟨Nat.le_of_ble_eq_true rfl, Nat.le_of_ble_eq_true rfl⟩ ⟨rfl, rfl⟩ hK (show va_P E.1 vwCl (oW ca ra ao (va_up C 5 0)) H from va_P_mem.mpr fun q9 h9 => va_P_mem.mp hP q9 (by rw [List.mem_singleton.mp h9]; exact List.mem_cons_self)) (va_recv hK hP (ci := 9) (q0 := 0) rfl rfl) rfl hl.1 rfl (Nat.le_of_ble_eq_true rfl) dX11_put_7 ⟨Nat.le_of_ble_eq_true rfl, Nat.le_of_ble_eq_true rfl⟩ ?_
  refine W.eq (g2 := F0 m 10 ls [.int (bI (isIn a1 (nI 0) (nI 3)))]) rfl ?_
  refine b_if_ne (tgt := 15) hx hb dX11_put_10 (by decide) (fun c_1 => ?_) (fun c_1 => ?_)
  · -- t 15
    obtain ⟨k1, hk1, rfl⟩ := isIn_nat (by decide) c_1
    have hl : lv_has ls 5 [(0, .ref (ca 0)), (1, .int (nI k1)), (2, .int a2), (3, .int a3)] := hl
    refine lv_aload_n hx hb dX11_put_15 rfl (lv_at hl 0 rfl) ?_
    refine va_get (D := E.1) (ci := 9) (v := .ref (ca 1)) (C := RX11) (T := TX11) (N := 13) hx hb hts iX11 hown hK hP 0 rfl rfl 0 (by decide) (hts _ kw_104) (fun _ h9 => h9) rfl dX11_put_16 ?_
    refine lv_iload_n hx hb dX11_put_19 rfl (lv_at hl 1 rfl) ?_
    refine va_aldq hx hb hK hP 1 3 rfl rfl (vp_in_nI (by omega) (by decide)) dX11_put_20 ?_
    rw [nI_clamp (by omega)]
    refine W.eq (g2 := F0 m 21 ls [.null]) (by rw [hno k1 hk1 rfl]; rfl) ?_
    refine lv_astoreN (lv' := [(4, .null), (0, .ref (ca 0)), (1, .int (nI k1)), (2, .int a2), (3, .int a3)]) hx hb dX11_put_21 hl (by decide) rfl (fun ls hl => ?_)
    refine lv_aloadN hx hb dX11_put_23 (lv_at hl 0 rfl) ?_
    refine lv_ifnonnullN hx hb dX11_put_25 ?_
    refine lv_aload_n hx hb dX11_put_28 rfl (lv_at hl 1 rfl) ?_
    refine lv_iconst (v := nI 1) hx hb dX11_put_29 (by decide) ?_
    refine cV_wr (X := []) (Y := [osC E (ca 1) sh]) (rest := []) hC (k_faulted l E ca ra ao (va_up C 5 0) 1 _) kw_156 iy_X11_faulted ⟨Nat.le_of_ble_eq_true rfl, Nat.le_of_ble_eq_true rfl⟩ ⟨rfl, rfl⟩ hK hP hD hS hA rfl (va_recv hK hP (ci := 9) (q0 := 0) rfl rfl) rfl hl.1 rfl (Nat.le_of_ble_eq_true rfl) dX11_put_30 ⟨Nat.le_of_ble_eq_true rfl, Nat.le_of_ble_eq_true rfl⟩ (fun v_ w_ H locs hpost hP hD hS => ?_)
    obtain ⟨rfl, rfl⟩ := hpost
    have hP : va_P E.1 vwCl (osW E ca ra ao (va_up C 5 1) sh) H := hP
    have hD : va_D A (osW E ca ra ao (va_up C 5 1) sh) := hD
    refine W.eq (g2 := F0 m 33 ls [.int ((-10) - nI 1)]) rfl ?_
    exact rw_i hC rfl hP hD hS (by rw [if_neg (by rw [nat_isIn (by decide) hk1]; decide)]; exact ⟨rfl, rfl⟩) dX11_put_33 (Nat.le_of_ble_eq_true rfl) (Nat.le_of_ble_eq_true rfl)
  · -- f 13
    refine lv_iconst (v := -1) hx hb dX11_put_13 (by decide) ?_
    exact rw_i hC rfl hP hD hS (by rw [if_pos c_1]; exact ⟨rfl, rfl⟩) dX11_put_14 (Nat.le_of_ble_eq_true rfl) (Nat.le_of_ble_eq_true rfl)

set_option maxHeartbeats 4000000 in
set_option maxRecDepth 100000 in
theorem k_cell_n (l : Launch) (E : EE) (ca ra : Nat → Nat) (ao : Nat) (C : Nat → Nat) (sh : Nat → Option Nat) (a1 a2 a3 : Int32) (hno : ∀ k1, k1 ≤ 3 → a1 = nI k1 → sh k1 = none) (sz : Nat) : Wr l yX11_cell cX11_cell 5 (some .long) rm_X11_cell 0 0 E (osW E ca ra ao C sh) sz [.ref (ca 0), .int a1, .int a2, .int a3] (fun v1 w1 => if isIn a1 (nI 0) (nI 3) = false ∨ isIn a3 (nI 0) (nI 2) = false then v1 = some (.long (lN 9223372036854775808)) ∧ w1 = osW E ca ra ao (va_up C 5 0) sh else v1 = some (.long (lN 9223372036854775808)) ∧ w1 = osW E ca ra ao (va_up C 5 1) sh) := by
  refine mk_wr (by decide) (Nat.le_of_ble_eq_true rfl) ?_
  intro p e s m args below meth c hC hin hK A hA hP hD hS ls hl
  obtain ⟨hx, hb, hr, hts, hown, hml, hlk, hN⟩ := id hC
  have hl : lv_has ls 5 [(0, .ref (ca 0)), (1, .int a1), (2, .int a2), (3, .int a3)] := hl
  obtain ⟨H, hH⟩ : ∃ z, z = s.heap := ⟨_, rfl⟩
  have hS : va_S A s.heap H [] := by rw [hH]; exact hS
  rw [← hH] at hP
  refine W_heap hH ?_
  obtain ⟨locs, hlo⟩ : ∃ z : List Loc, z = [] := ⟨_, rfl⟩
  rw [← hlo] at hS ⊢
  refine lv_aload_n hx hb dX11_cell_0 rfl (lv_at hl 0 rfl) ?_
  refine lv_iconst (v := nI 0) hx hb dX11_cell_1 (by decide) ?_
  refine va_put (D := E.1) (ci := 9) (v := .int (nI 0)) (ty := .int) (C := RX11) (T := TX11) (N := 13) hx hb hts iX11 tyX11 tyX11_ok nmX11 hown hK hP hD hS 0 rfl rfl 5 (by decide) (hts _ kw_109) (fun _ h9 => h9) rfl (by decide +kernel) rfl rfl (Nat.le_of_ble_eq_true rfl) dX11_cell_2 (fun H locs hP hD hS => ?_)
  have hP : va_P E.1 vwCl (osW E ca ra ao (va_up C 5 0) sh) H := hP
  have hD : va_D A (osW E ca ra ao (va_up C 5 0) sh) := hD
  refine lv_aload_n hx hb dX11_cell_5 rfl (lv_at hl 0 rfl) ?_
  refine lv_iload_n hx hb dX11_cell_6 rfl (lv_at hl 1 rfl) ?_
  refine cV_r (rest := []) hC (k_isSheet l E ca ra ao (va_up C 5 0) a1) kw_148 iy_X11_isSheet ⟨Nat.le_of_ble_eq_true rfl, Nat.le_of_ble_eq_true rfl⟩ ⟨rfl, rfl⟩ hK (show va_P E.1 vwCl (oW ca ra ao (va_up C 5 0)) H from va_P_mem.mpr fun q9 h9 => va_P_mem.mp hP q9 (by rw [List.mem_singleton.mp h9]; exact List.mem_cons_self)) (va_recv hK hP (ci := 9) (q0 := 0) rfl rfl) rfl hl.1 rfl (Nat.le_of_ble_eq_true rfl) dX11_cell_7 ⟨Nat.le_of_ble_eq_true rfl, Nat.le_of_ble_eq_true rfl⟩ ?_
  refine W.eq (g2 := F0 m 10 ls [.int (bI (isIn a1 (nI 0) (nI 3)))]) rfl ?_
  refine b_if_eq (tgt := 21) hx hb dX11_cell_10 (by decide) (fun c_1 => ?_) (fun c_1 => ?_)
  · -- t 21
    refine lv_ldc2 (v := lN 9223372036854775808) hx hb hown (hts _ kw_385) dX11_cell_21 ?_
    exact rw_l hC hP hD hS (by rw [if_pos (Or.inl c_1)]; exact ⟨rfl, rfl⟩) dX11_cell_24 (Nat.le_of_ble_eq_true rfl) (Nat.le_of_ble_eq_true rfl)
  · -- f 13
    obtain ⟨k1, hk1, rfl⟩ := isIn_nat (by decide) c_1
    have hl : lv_has ls 5 [(0, .ref (ca 0)), (1, .int (nI k1)), (2, .int a2), (3, .int a3)] := hl
    refine lv_aload_n hx hb dX11_cell_13 rfl (lv_at hl 0 rfl) ?_
    refine lv_iload_n hx hb dX11_cell_14 rfl (lv_at hl 3 rfl) ?_
    refine cV_r (rest := []) hC (k_isLane l E ca ra ao (va_up C 5 0) a3) kw_152 iy_X11_isLane ⟨Nat.le_of_ble_eq_true rfl, Nat.le_of_ble_eq_true rfl⟩ ⟨rfl, rfl⟩ hK (show va_P E.1 vwCl (oW ca ra ao (va_up C 5 0)) H from va_P_mem.mpr fun q9 h9 => va_P_mem.mp hP q9 (by rw [List.mem_singleton.mp h9]; exact List.mem_cons_self)) (va_recv hK hP (ci := 9) (q0 := 0) rfl rfl) rfl hl.1 rfl (Nat.le_of_ble_eq_true rfl) dX11_cell_15 ⟨Nat.le_of_ble_eq_true rfl, Nat.le_of_ble_eq_true rfl⟩ ?_
    refine W.eq (g2 := F0 m 18 ls [.int (bI (isIn a3 (nI 0) (nI 2)))]) rfl ?_
    refine b_if_ne (tgt := 25) hx hb dX11_cell_18 (by decide) (fun c_2 => ?_) (fun c_2 => ?_)
    · -- t 25
      refine lv_aload_n hx hb dX11_cell_25 rfl (lv_at hl 0 rfl) ?_
      refine va_get (D := E.1) (ci := 9) (v := .ref (ca 1)) (C := RX11) (T := TX11) (N := 13) hx hb hts iX11 hown hK hP 0 rfl rfl 0 (by decide) (hts _ kw_104) (fun _ h9 => h9) rfl dX11_cell_26 ?_
      refine lv_iload_n hx hb dX11_cell_29 rfl (lv_at hl 1 rfl) ?_
      refine va_aldq hx hb hK hP 1 3 rfl rfl (vp_in_nI (by omega) (by decide)) dX11_cell_30 ?_
      rw [nI_clamp (by omega)]
      refine W.eq (g2 := F0 m 31 ls [.null]) (by rw [hno k1 hk1 rfl]; rfl) ?_
      refine lv_astoreN (lv' := [(4, .null), (0, .ref (ca 0)), (1, .int (nI k1)), (2, .int a2), (3, .int a3)]) hx hb dX11_cell_31 hl (by decide) rfl (fun ls hl => ?_)
      refine lv_aload_n hx hb dX11_cell_33 rfl (lv_at hl 1 rfl) ?_
      refine lv_aloadN hx hb dX11_cell_34 (lv_at hl 0 rfl) ?_
      refine lv_ifnonnullN hx hb dX11_cell_36 ?_
      refine lv_iconst (v := nI 1) hx hb dX11_cell_39 (by decide) ?_
      refine lv_goto (tgt := 71) hx hb dX11_cell_40 (by decide) ?_
      refine va_put (D := E.1) (ci := 9) (v := .int (nI 1)) (ty := .int) (C := RX11) (T := TX11) (N := 13) hx hb hts iX11 tyX11 tyX11_ok nmX11 hown hK hP hD hS 0 rfl rfl 5 (by decide) (hts _ kw_109) (fun _ h9 => h9) rfl (by decide +kernel) rfl rfl (Nat.le_of_ble_eq_true rfl) dX11_cell_71 (fun H locs hP hD hS => ?_)
      have hP : va_P E.1 vwCl (osW E ca ra ao (va_up C 5 1) sh) H := hP
      have hD : va_D A (osW E ca ra ao (va_up C 5 1) sh) := hD
      refine lv_aloadN hx hb dX11_cell_74 (lv_at hl 0 rfl) ?_
      refine lv_ifnullN (tgt := 86) hx hb dX11_cell_76 (by decide) ?_
      refine lv_ldc2 (v := lN 9223372036854775808) hx hb hown (hts _ kw_385) dX11_cell_86 ?_
      refine lv_goto (tgt := 99) hx hb dX11_cell_89 (by decide) ?_
      exact rw_l hC hP hD hS (by rw [if_neg (fun h9 => by rcases h9 with h9 | h9; rw [nat_isIn (by decide) hk1] at h9; cases h9; rw [c_2] at h9; cases h9)]; exact ⟨rfl, by rw [← vu_vu C 5 0 1]⟩) dX11_cell_99 (Nat.le_of_ble_eq_true rfl) (Nat.le_of_ble_eq_true rfl)
    · -- f 21
      refine lv_ldc2 (v := lN 9223372036854775808) hx hb hown (hts _ kw_385) dX11_cell_21 ?_
      exact rw_l hC hP hD hS (by rw [if_pos (Or.inr c_2)]; exact ⟨rfl, rfl⟩) dX11_cell_24 (Nat.le_of_ble_eq_true rfl) (Nat.le_of_ble_eq_true rfl)

set_option maxHeartbeats 4000000 in
set_option maxRecDepth 100000 in
theorem k_copy_n (l : Launch) (E : EE) (ca ra : Nat → Nat) (ao : Nat) (C : Nat → Nat) (sh : Nat → Option Nat) (a1 a2 a3 a4 a5 : Int32) (hno : ∀ k1 o1, k1 ≤ 3 → o1 ≤ 3 → a1 = nI k1 → a3 = nI o1 → sh k1 = none ∨ sh o1 = none) (sz : Nat) : Wr l yX11_copy cX11_copy 8 (some .int) rm_X11_copy 0 0 E (osW E ca ra ao C sh) sz [.ref (ca 0), .int a1, .int a2, .int a3, .int a4, .int a5] (fun v1 w1 => if isIn a1 (nI 0) (nI 3) = false ∨ isIn a3 (nI 0) (nI 3) = false then v1 = some (.int (-1)) ∧ w1 = osW E ca ra ao (va_up C 5 0) sh else v1 = some (.int ((-10) - nI 1)) ∧ w1 = osW E ca ra ao (va_up C 5 1) sh) := by
  refine mk_wr (by decide) (Nat.le_of_ble_eq_true rfl) ?_
  intro p e s m args below meth c hC hin hK A hA hP hD hS ls hl
  obtain ⟨hx, hb, hr, hts, hown, hml, hlk, hN⟩ := id hC
  have hl : lv_has ls 8 [(0, .ref (ca 0)), (1, .int a1), (2, .int a2), (3, .int a3), (4, .int a4), (5, .int a5)] := hl
  obtain ⟨H, hH⟩ : ∃ z, z = s.heap := ⟨_, rfl⟩
  have hS : va_S A s.heap H [] := by rw [hH]; exact hS
  rw [← hH] at hP
  refine W_heap hH ?_
  obtain ⟨locs, hlo⟩ : ∃ z : List Loc, z = [] := ⟨_, rfl⟩
  rw [← hlo] at hS ⊢
  refine lv_aload_n hx hb dX11_copy_0 rfl (lv_at hl 0 rfl) ?_
  refine lv_iconst (v := nI 0) hx hb dX11_copy_1 (by decide) ?_
  refine va_put (D := E.1) (ci := 9) (v := .int (nI 0)) (ty := .int) (C := RX11) (T := TX11) (N := 13) hx hb hts iX11 tyX11 tyX11_ok nmX11 hown hK hP hD hS 0 rfl rfl 5 (by decide) (hts _ kw_109) (fun _ h9 => h9) rfl (by decide +kernel) rfl rfl (Nat.le_of_ble_eq_true rfl) dX11_copy_2 (fun H locs hP hD hS => ?_)
  have hP : va_P E.1 vwCl (osW E ca ra ao (va_up C 5 0) sh) H := hP
  have hD : va_D A (osW E ca ra ao (va_up C 5 0) sh) := hD
  refine lv_aload_n hx hb dX11_copy_5 rfl (lv_at hl 0 rfl) ?_
  refine lv_iload_n hx hb dX11_copy_6 rfl (lv_at hl 1 rfl) ?_
  refine cV_r (rest := []) hC (k_isSheet l E ca ra ao (va_up C 5 0) a1) kw_148 iy_X11_isSheet ⟨Nat.le_of_ble_eq_true rfl, Nat.le_of_ble_eq_true rfl⟩ ⟨rfl, rfl⟩ hK (show va_P E.1 vwCl (oW ca ra ao (va_up C 5 0)) H from va_P_mem.mpr fun q9 h9 => va_P_mem.mp hP q9 (by rw [List.mem_singleton.mp h9]; exact List.mem_cons_self)) (va_recv hK hP (ci := 9) (q0 := 0) rfl rfl) rfl hl.1 rfl (Nat.le_of_ble_eq_true rfl) dX11_copy_7 ⟨Nat.le_of_ble_eq_true rfl, Nat.le_of_ble_eq_true rfl⟩ ?_
  refine W.eq (g2 := F0 m 10 ls [.int (bI (isIn a1 (nI 0) (nI 3)))]) rfl ?_
  refine b_if_eq (tgt := 21) hx hb dX11_copy_10 (by decide) (fun c_1 => ?_) (fun c_1 => ?_)
  · -- t 21
    refine lv_iconst (v := -1) hx hb dX11_copy_21 (by decide) ?_
    exact rw_i hC rfl hP hD hS (by rw [if_pos (Or.inl c_1)]; exact ⟨rfl, rfl⟩) dX11_copy_22 (Nat.le_of_ble_eq_true rfl) (Nat.le_of_ble_eq_true rfl)
  · -- f 13
    obtain ⟨k1, hk1, rfl⟩ := isIn_nat (by decide) c_1
    have hl : lv_has ls 8 [(0, .ref (ca 0)), (1, .int (nI k1)), (2, .int a2), (3, .int a3), (4, .int a4), (5, .int a5)] := hl
    refine lv_aload_n hx hb dX11_copy_13 rfl (lv_at hl 0 rfl) ?_
    refine lv_iload_n hx hb dX11_copy_14 rfl (lv_at hl 3 rfl) ?_
    refine cV_r (rest := []) hC (k_isSheet l E ca ra ao (va_up C 5 0) a3) kw_148 iy_X11_isSheet ⟨Nat.le_of_ble_eq_true rfl, Nat.le_of_ble_eq_true rfl⟩ ⟨rfl, rfl⟩ hK (show va_P E.1 vwCl (oW ca ra ao (va_up C 5 0)) H from va_P_mem.mpr fun q9 h9 => va_P_mem.mp hP q9 (by rw [List.mem_singleton.mp h9]; exact List.mem_cons_self)) (va_recv hK hP (ci := 9) (q0 := 0) rfl rfl) rfl hl.1 rfl (Nat.le_of_ble_eq_true rfl) dX11_copy_15 ⟨Nat.le_of_ble_eq_true rfl, Nat.le_of_ble_eq_true rfl⟩ ?_
    refine W.eq (g2 := F0 m 18 ls [.int (bI (isIn a3 (nI 0) (nI 3)))]) rfl ?_
    refine b_if_ne (tgt := 23) hx hb dX11_copy_18 (by decide) (fun c_2 => ?_) (fun c_2 => ?_)
    · -- t 23
      obtain ⟨o1, ho1, rfl⟩ := isIn_nat (by decide) c_2
      have hl : lv_has ls 8 [(0, .ref (ca 0)), (1, .int (nI k1)), (2, .int a2), (3, .int (nI o1)), (4, .int a4), (5, .int a5)] := hl
      refine lv_aload_n hx hb dX11_copy_23 rfl (lv_at hl 0 rfl) ?_
      refine va_get (D := E.1) (ci := 9) (v := .ref (ca 1)) (C := RX11) (T := TX11) (N := 13) hx hb hts iX11 hown hK hP 0 rfl rfl 0 (by decide) (hts _ kw_104) (fun _ h9 => h9) rfl dX11_copy_24 ?_
      refine lv_iload_n hx hb dX11_copy_27 rfl (lv_at hl 1 rfl) ?_
      refine va_aldq hx hb hK hP 1 3 rfl rfl (vp_in_nI (by omega) (by decide)) dX11_copy_28 ?_
      rw [nI_clamp (by omega)]
      rcases opt_or (sh k1) with hs_3 | ⟨z_4, hs_3⟩
      ·
        refine W.eq (g2 := F0 m 29 ls [.null]) (by rw [hs_3]; rfl) ?_
        refine lv_astoreN (lv' := [(6, .null), (0, .ref (ca 0)), (1, .int (nI k1)), (2, .int a2), (3, .int (nI o1)), (4, .int a4), (5, .int a5)]) hx hb dX11_copy_29 hl (by decide) rfl (fun ls hl => ?_)
        refine lv_aload_n hx hb dX11_copy_31 rfl (lv_at hl 1 rfl) ?_
        refine va_get (D := E.1) (ci := 9) (v := .ref (ca 1)) (C := RX11) (T := TX11) (N := 13) hx hb hts iX11 hown hK hP 0 rfl rfl 0 (by decide) (hts _ kw_104) (fun _ h9 => h9) rfl dX11_copy_32 ?_
        refine lv_iload_n hx hb dX11_copy_35 rfl (lv_at hl 4 rfl) ?_
        refine va_aldq hx hb hK hP 1 3 rfl rfl (vp_in_nI (by omega) (by decide)) dX11_copy_36 ?_
        rw [nI_clamp (by omega)]
        rcases opt_or (sh o1) with hs_5 | ⟨z_6, hs_5⟩
        ·
          refine W.eq (g2 := F0 m 37 ls [.null]) (by rw [hs_5]; rfl) ?_
          refine lv_astoreN (lv' := [(7, .null), (6, .null), (0, .ref (ca 0)), (1, .int (nI k1)), (2, .int a2), (3, .int (nI o1)), (4, .int a4), (5, .int a5)]) hx hb dX11_copy_37 hl (by decide) rfl (fun ls hl => ?_)
          refine lv_aloadN hx hb dX11_copy_39 (lv_at hl 1 rfl) ?_
          refine lv_ifnullN (tgt := 49) hx hb dX11_copy_41 (by decide) ?_
          refine lv_aload_n hx hb dX11_copy_49 rfl (lv_at hl 2 rfl) ?_
          refine lv_iconst (v := nI 1) hx hb dX11_copy_50 (by decide) ?_
          refine cV_wr (X := []) (Y := [osC E (ca 1) sh]) (rest := []) hC (k_faulted l E ca ra ao (va_up C 5 0) 1 _) kw_156 iy_X11_faulted ⟨Nat.le_of_ble_eq_true rfl, Nat.le_of_ble_eq_true rfl⟩ ⟨rfl, rfl⟩ hK hP hD hS hA rfl (va_recv hK hP (ci := 9) (q0 := 0) rfl rfl) rfl hl.1 rfl (Nat.le_of_ble_eq_true rfl) dX11_copy_51 ⟨Nat.le_of_ble_eq_true rfl, Nat.le_of_ble_eq_true rfl⟩ (fun v_ w_ H locs hpost hP hD hS => ?_)
          obtain ⟨rfl, rfl⟩ := hpost
          have hP : va_P E.1 vwCl (osW E ca ra ao (va_up C 5 1) sh) H := hP
          have hD : va_D A (osW E ca ra ao (va_up C 5 1) sh) := hD
          refine W.eq (g2 := F0 m 54 ls [.int ((-10) - nI 1)]) rfl ?_
          exact rw_i hC rfl hP hD hS (by rw [if_neg (fun h9 => by rcases h9 with h9 | h9; rw [nat_isIn (by decide) hk1] at h9; cases h9; rw [nat_isIn (by decide) ho1] at h9; cases h9)]; exact ⟨rfl, rfl⟩) dX11_copy_54 (Nat.le_of_ble_eq_true rfl) (Nat.le_of_ble_eq_true rfl)
        ·
          refine W.eq (g2 := F0 m 37 ls [.ref z_6]) (by rw [hs_5]; rfl) ?_
          refine lv_astore (lv' := [(7, .ref z_6), (6, .null), (0, .ref (ca 0)), (1, .int (nI k1)), (2, .int a2), (3, .int (nI o1)), (4, .int a4), (5, .int a5)]) hx hb dX11_copy_37 hl (by decide) rfl (fun ls hl => ?_)
          refine lv_aloadN hx hb dX11_copy_39 (lv_at hl 1 rfl) ?_
          refine lv_ifnullN (tgt := 49) hx hb dX11_copy_41 (by decide) ?_
          refine lv_aload_n hx hb dX11_copy_49 rfl (lv_at hl 2 rfl) ?_
          refine lv_iconst (v := nI 1) hx hb dX11_copy_50 (by decide) ?_
          refine cV_wr (X := []) (Y := [osC E (ca 1) sh]) (rest := []) hC (k_faulted l E ca ra ao (va_up C 5 0) 1 _) kw_156 iy_X11_faulted ⟨Nat.le_of_ble_eq_true rfl, Nat.le_of_ble_eq_true rfl⟩ ⟨rfl, rfl⟩ hK hP hD hS hA rfl (va_recv hK hP (ci := 9) (q0 := 0) rfl rfl) rfl hl.1 rfl (Nat.le_of_ble_eq_true rfl) dX11_copy_51 ⟨Nat.le_of_ble_eq_true rfl, Nat.le_of_ble_eq_true rfl⟩ (fun v_ w_ H locs hpost hP hD hS => ?_)
          obtain ⟨rfl, rfl⟩ := hpost
          have hP : va_P E.1 vwCl (osW E ca ra ao (va_up C 5 1) sh) H := hP
          have hD : va_D A (osW E ca ra ao (va_up C 5 1) sh) := hD
          refine W.eq (g2 := F0 m 54 ls [.int ((-10) - nI 1)]) rfl ?_
          exact rw_i hC rfl hP hD hS (by rw [if_neg (fun h9 => by rcases h9 with h9 | h9; rw [nat_isIn (by decide) hk1] at h9; cases h9; rw [nat_isIn (by decide) ho1] at h9; cases h9)]; exact ⟨rfl, rfl⟩) dX11_copy_54 (Nat.le_of_ble_eq_true rfl) (Nat.le_of_ble_eq_true rfl)
      ·
        refine W.eq (g2 := F0 m 29 ls [.ref z_4]) (by rw [hs_3]; rfl) ?_
        refine lv_astore (lv' := [(6, .ref z_4), (0, .ref (ca 0)), (1, .int (nI k1)), (2, .int a2), (3, .int (nI o1)), (4, .int a4), (5, .int a5)]) hx hb dX11_copy_29 hl (by decide) rfl (fun ls hl => ?_)
        refine lv_aload_n hx hb dX11_copy_31 rfl (lv_at hl 1 rfl) ?_
        refine va_get (D := E.1) (ci := 9) (v := .ref (ca 1)) (C := RX11) (T := TX11) (N := 13) hx hb hts iX11 hown hK hP 0 rfl rfl 0 (by decide) (hts _ kw_104) (fun _ h9 => h9) rfl dX11_copy_32 ?_
        refine lv_iload_n hx hb dX11_copy_35 rfl (lv_at hl 4 rfl) ?_
        refine va_aldq hx hb hK hP 1 3 rfl rfl (vp_in_nI (by omega) (by decide)) dX11_copy_36 ?_
        rw [nI_clamp (by omega)]
        rcases opt_or (sh o1) with hs_7 | ⟨z_8, hs_7⟩
        ·
          refine W.eq (g2 := F0 m 37 ls [.null]) (by rw [hs_7]; rfl) ?_
          refine lv_astoreN (lv' := [(7, .null), (6, .ref z_4), (0, .ref (ca 0)), (1, .int (nI k1)), (2, .int a2), (3, .int (nI o1)), (4, .int a4), (5, .int a5)]) hx hb dX11_copy_37 hl (by decide) rfl (fun ls hl => ?_)
          refine lv_aload hx hb dX11_copy_39 (lv_at hl 1 rfl) ?_
          refine lv_ifnull hx hb dX11_copy_41 ?_
          refine lv_aloadN hx hb dX11_copy_44 (lv_at hl 0 rfl) ?_
          refine lv_ifnonnullN hx hb dX11_copy_46 ?_
          refine lv_aload_n hx hb dX11_copy_49 rfl (lv_at hl 2 rfl) ?_
          refine lv_iconst (v := nI 1) hx hb dX11_copy_50 (by decide) ?_
          refine cV_wr (X := []) (Y := [osC E (ca 1) sh]) (rest := []) hC (k_faulted l E ca ra ao (va_up C 5 0) 1 _) kw_156 iy_X11_faulted ⟨Nat.le_of_ble_eq_true rfl, Nat.le_of_ble_eq_true rfl⟩ ⟨rfl, rfl⟩ hK hP hD hS hA rfl (va_recv hK hP (ci := 9) (q0 := 0) rfl rfl) rfl hl.1 rfl (Nat.le_of_ble_eq_true rfl) dX11_copy_51 ⟨Nat.le_of_ble_eq_true rfl, Nat.le_of_ble_eq_true rfl⟩ (fun v_ w_ H locs hpost hP hD hS => ?_)
          obtain ⟨rfl, rfl⟩ := hpost
          have hP : va_P E.1 vwCl (osW E ca ra ao (va_up C 5 1) sh) H := hP
          have hD : va_D A (osW E ca ra ao (va_up C 5 1) sh) := hD
          refine W.eq (g2 := F0 m 54 ls [.int ((-10) - nI 1)]) rfl ?_
          exact rw_i hC rfl hP hD hS (by rw [if_neg (fun h9 => by rcases h9 with h9 | h9; rw [nat_isIn (by decide) hk1] at h9; cases h9; rw [nat_isIn (by decide) ho1] at h9; cases h9)]; exact ⟨rfl, rfl⟩) dX11_copy_54 (Nat.le_of_ble_eq_true rfl) (Nat.le_of_ble_eq_true rfl)
        ·
          refine W.eq (g2 := F0 m 37 ls [.ref z_8]) (by rw [hs_7]; rfl) ?_
          rcases hno k1 o1 hk1 ho1 rfl rfl with h9 | h9
          · rw [hs_3] at h9; cases h9
          · rw [hs_7] at h9; cases h9
    · -- f 21
      refine lv_iconst (v := -1) hx hb dX11_copy_21 (by decide) ?_
      exact rw_i hC rfl hP hD hS (by rw [if_pos (Or.inr c_2)]; exact ⟨rfl, rfl⟩) dX11_copy_22 (Nat.le_of_ble_eq_true rfl) (Nat.le_of_ble_eq_true rfl)

set_option maxHeartbeats 4000000 in
set_option maxRecDepth 100000 in
theorem k_put (l : Launch) (E : EE) (ca ra : Nat → Nat) (ao : Nat) (C : Nat → Nat) (sh : Nat → Option Nat) (so sa : Nat) (ln : Int32) (L : Nat) (Cc : Nat → Int32) (hL : L ≤ 60) (k1 : Nat) (hk1 : k1 ≤ 3) (hso : sh k1 = some so) (a2 a3 : Int32) (sz : Nat) : Wr l yX11_put cX11_put 5 (some .int) rm_X11_put 0 0 E (o1W E ca ra ao C sh so sa ln L Cc) sz [.ref (ca 0), .int (nI k1), .int a2, .int a3] (fun v1 w1 => if hasR a2 (nI 1) L = false then v1 = some (.int ((-10) - nI 3)) ∧ w1 = o1W E ca ra ao (va_up C 5 3) sh so sa ln L Cc else v1 = some (.int (nI 1)) ∧ w1 = o1W E ca ra ao (va_up C 5 0) sh so sa ln L (upd Cc a2.toNatClampNeg (cutL ln a3))) := by
  refine mk_wr (by decide) (Nat.le_of_ble_eq_true rfl) ?_
  intro p e s m args below meth c hC hin hK A hA hP hD hS ls hl
  obtain ⟨hx, hb, hr, hts, hown, hml, hlk, hN⟩ := id hC
  have hl : lv_has ls 5 [(0, .ref (ca 0)), (1, .int (nI k1)), (2, .int a2), (3, .int a3)] := hl
  have hik : isIn (nI k1) (nI 0) (nI 3) = true := nat_isIn (by decide) hk1
  obtain ⟨H, hH⟩ : ∃ z, z = s.heap := ⟨_, rfl⟩
  have hS : va_S A s.heap H [] := by rw [hH]; exact hS
  rw [← hH] at hP
  refine W_heap hH ?_
  obtain ⟨locs, hlo⟩ : ∃ z : List Loc, z = [] := ⟨_, rfl⟩
  rw [← hlo] at hS ⊢
  refine lv_aload_n hx hb dX11_put_0 rfl (lv_at hl 0 rfl) ?_
  refine lv_iconst (v := nI 0) hx hb dX11_put_1 (by decide) ?_
  refine va_put (D := E.1) (ci := 9) (v := .int (nI 0)) (ty := .int) (C := RX11) (T := TX11) (N := 13) hx hb hts iX11 tyX11 tyX11_ok nmX11 hown hK hP hD hS 0 rfl rfl 5 (by decide) (hts _ kw_109) (fun _ h9 => h9) rfl (by decide +kernel) rfl rfl (Nat.le_of_ble_eq_true rfl) dX11_put_2 (fun H locs hP hD hS => ?_)
  have hP : va_P E.1 vwCl (o1W E ca ra ao (va_up C 5 0) sh so sa ln L Cc) H := hP
  have hD : va_D A (o1W E ca ra ao (va_up C 5 0) sh so sa ln L Cc) := hD
  refine lv_aload_n hx hb dX11_put_5 rfl (lv_at hl 0 rfl) ?_
  refine lv_iload_n hx hb dX11_put_6 rfl (lv_at hl 1 rfl) ?_
  refine cV_r (rest := []) hC (k_isSheet l E ca ra ao (va_up C 5 0) (nI k1)) kw_148 iy_X11_isSheet ⟨Nat.le_of_ble_eq_true rfl, Nat.le_of_ble_eq_true rfl⟩ ⟨rfl, rfl⟩ hK (show va_P E.1 vwCl (oW ca ra ao (va_up C 5 0)) H from va_P_mem.mpr fun q9 h9 => va_P_mem.mp hP q9 (by rw [List.mem_singleton.mp h9]; exact List.mem_cons_self)) (va_recv hK hP (ci := 9) (q0 := 0) rfl rfl) rfl hl.1 rfl (Nat.le_of_ble_eq_true rfl) dX11_put_7 ⟨Nat.le_of_ble_eq_true rfl, Nat.le_of_ble_eq_true rfl⟩ ?_
  refine W.eq (g2 := F0 m 10 ls [.int (bI (isIn (nI k1) (nI 0) (nI 3)))]) rfl ?_
  refine b_if_ne (tgt := 15) hx hb dX11_put_10 (by decide) (fun c_1 => ?_) (fun c_1 => ?_)
  · -- t 15
    refine lv_aload_n hx hb dX11_put_15 rfl (lv_at hl 0 rfl) ?_
    refine va_get (D := E.1) (ci := 9) (v := .ref (ca 1)) (C := RX11) (T := TX11) (N := 13) hx hb hts iX11 hown hK hP 0 rfl rfl 0 (by decide) (hts _ kw_104) (fun _ h9 => h9) rfl dX11_put_16 ?_
    refine lv_iload_n hx hb dX11_put_19 rfl (lv_at hl 1 rfl) ?_
    refine va_aldq hx hb hK hP 1 3 rfl rfl (vp_in_nI (by omega) (by decide)) dX11_put_20 ?_
    rw [nI_clamp (by omega)]
    refine W.eq (g2 := F0 m 21 ls [.ref so]) (by rw [hso]; rfl) ?_
    refine lv_astore (lv' := [(4, .ref so), (0, .ref (ca 0)), (1, .int (nI k1)), (2, .int a2), (3, .int a3)]) hx hb dX11_put_21 hl (by decide) rfl (fun ls hl => ?_)
    refine lv_aload hx hb dX11_put_23 (lv_at hl 0 rfl) ?_
    refine lv_ifnonnull (tgt := 34) hx hb dX11_put_25 (by decide) ?_
    refine lv_aload hx hb dX11_put_34 (lv_at hl 0 rfl) ?_
    refine lv_iload_n hx hb dX11_put_36 rfl (lv_at hl 3 rfl) ?_
    refine lv_iconst (v := nI 1) hx hb dX11_put_37 (by decide) ?_
    refine cV_r (rest := []) hC (k_has l E so sa ln L Cc hL a2 (nI 1)) kw_160 iy_X7_has ⟨Nat.le_of_ble_eq_true rfl, Nat.le_of_ble_eq_true rfl⟩ ⟨rfl, rfl⟩ hK (va_P_r (X := osW E ca ra ao (va_up C 5 0) sh) hP) (va_recv hK hP (ci := 5) (q0 := 2) rfl rfl) rfl hl.1 rfl (Nat.le_of_ble_eq_true rfl) dX11_put_38 ⟨Nat.le_of_ble_eq_true rfl, Nat.le_of_ble_eq_true rfl⟩ ?_
    refine W.eq (g2 := F0 m 41 ls [.int (bI (hasR a2 (nI 1) L))]) rfl ?_
    refine b_if_ne (tgt := 50) hx hb dX11_put_41 (by decide) (fun c_2 => ?_) (fun c_2 => ?_)
    · -- t 50
      refine lv_aload hx hb dX11_put_50 (lv_at hl 0 rfl) ?_
      refine lv_iload_n hx hb dX11_put_52 rfl (lv_at hl 3 rfl) ?_
      refine lv_iload_n hx hb dX11_put_53 rfl (lv_at hl 4 rfl) ?_
      refine cV_wr (X := osW E ca ra ao (va_up C 5 0) sh) (Y := []) (rest := []) hC (k_set l E so sa ln L Cc hL a2 a3 _) kw_640 iy_X7_set ⟨Nat.le_of_ble_eq_true rfl, Nat.le_of_ble_eq_true rfl⟩ ⟨rfl, rfl⟩ hK hP hD hS hA rfl (va_recv hK hP (ci := 5) (q0 := 2) rfl rfl) rfl hl.1 rfl (Nat.le_of_ble_eq_true rfl) dX11_put_54 ⟨Nat.le_of_ble_eq_true rfl, Nat.le_of_ble_eq_true rfl⟩ (fun v_ w_ H locs hpost hP hD hS => ?_)
      obtain ⟨rfl, rfl⟩ := hpost
      have hP : va_P E.1 vwCl (o1W E ca ra ao (va_up C 5 0) sh so sa ln L (if hasR a2 (nI 1) L = true then upd Cc a2.toNatClampNeg (cutL ln a3) else Cc)) H := hP
      have hD : va_D A (o1W E ca ra ao (va_up C 5 0) sh so sa ln L (if hasR a2 (nI 1) L = true then upd Cc a2.toNatClampNeg (cutL ln a3) else Cc)) := hD
      refine W.eq (g2 := F0 m 57 ls []) rfl ?_
      refine lv_iconst (v := nI 1) hx hb dX11_put_57 (by decide) ?_
      exact rw_i hC rfl hP hD hS (by rw [if_neg (by rw [c_2]; decide)]; exact ⟨rfl, by rw [if_pos c_2]⟩) dX11_put_58 (Nat.le_of_ble_eq_true rfl) (Nat.le_of_ble_eq_true rfl)
    · -- f 44
      refine lv_aload_n hx hb dX11_put_44 rfl (lv_at hl 1 rfl) ?_
      refine lv_iconst (v := nI 3) hx hb dX11_put_45 (by decide) ?_
      refine cV_wr (X := []) (Y := osC E (ca 1) sh :: shW E so sa ln L Cc) (rest := []) hC (k_faulted l E ca ra ao (va_up C 5 0) 3 _) kw_156 iy_X11_faulted ⟨Nat.le_of_ble_eq_true rfl, Nat.le_of_ble_eq_true rfl⟩ ⟨rfl, rfl⟩ hK hP hD hS hA rfl (va_recv hK hP (ci := 9) (q0 := 0) rfl rfl) rfl hl.1 rfl (Nat.le_of_ble_eq_true rfl) dX11_put_46 ⟨Nat.le_of_ble_eq_true rfl, Nat.le_of_ble_eq_true rfl⟩ (fun v_ w_ H locs hpost hP hD hS => ?_)
      obtain ⟨rfl, rfl⟩ := hpost
      have hP : va_P E.1 vwCl (o1W E ca ra ao (va_up C 5 3) sh so sa ln L Cc) H := hP
      have hD : va_D A (o1W E ca ra ao (va_up C 5 3) sh so sa ln L Cc) := hD
      refine W.eq (g2 := F0 m 49 ls [.int ((-10) - nI 3)]) rfl ?_
      exact rw_i hC rfl hP hD hS (by rw [if_pos c_2]; exact ⟨rfl, rfl⟩) dX11_put_49 (Nat.le_of_ble_eq_true rfl) (Nat.le_of_ble_eq_true rfl)
  · -- f 13
    rw [hik] at c_1; cases c_1

set_option maxHeartbeats 4000000 in
set_option maxRecDepth 100000 in
theorem k_cell (l : Launch) (E : EE) (ca ra : Nat → Nat) (ao : Nat) (C : Nat → Nat) (sh : Nat → Option Nat) (so sa : Nat) (ln : Int32) (L : Nat) (Cc : Nat → Int32) (hL : L ≤ 60) (k1 : Nat) (hk1 : k1 ≤ 3) (hso : sh k1 = some so) (a2 a3 : Int32) (sz : Nat) : Wr l yX11_cell cX11_cell 5 (some .long) rm_X11_cell 0 0 E (o1W E ca ra ao C sh so sa ln L Cc) sz [.ref (ca 0), .int (nI k1), .int a2, .int a3] (fun v1 w1 => if isIn a3 (nI 0) (nI 2) = false then v1 = some (.long (lN 9223372036854775808)) ∧ w1 = o1W E ca ra ao (va_up C 5 0) sh so sa ln L Cc else if ¬ ln = a3 then v1 = some (.long (lN 9223372036854775808)) ∧ w1 = o1W E ca ra ao (va_up C 5 2) sh so sa ln L Cc else if hasR a2 (nI 1) L = false then v1 = some (.long (lN 9223372036854775808)) ∧ w1 = o1W E ca ra ao (va_up C 5 3) sh so sa ln L Cc else v1 = some (.long (Cc a2.toNatClampNeg).toInt64) ∧ w1 = o1W E ca ra ao (va_up C 5 0) sh so sa ln L Cc) := by
  refine mk_wr (by decide) (Nat.le_of_ble_eq_true rfl) ?_
  intro p e s m args below meth c hC hin hK A hA hP hD hS ls hl
  obtain ⟨hx, hb, hr, hts, hown, hml, hlk, hN⟩ := id hC
  have hl : lv_has ls 5 [(0, .ref (ca 0)), (1, .int (nI k1)), (2, .int a2), (3, .int a3)] := hl
  have hik : isIn (nI k1) (nI 0) (nI 3) = true := nat_isIn (by decide) hk1
  obtain ⟨H, hH⟩ : ∃ z, z = s.heap := ⟨_, rfl⟩
  have hS : va_S A s.heap H [] := by rw [hH]; exact hS
  rw [← hH] at hP
  refine W_heap hH ?_
  obtain ⟨locs, hlo⟩ : ∃ z : List Loc, z = [] := ⟨_, rfl⟩
  rw [← hlo] at hS ⊢
  refine lv_aload_n hx hb dX11_cell_0 rfl (lv_at hl 0 rfl) ?_
  refine lv_iconst (v := nI 0) hx hb dX11_cell_1 (by decide) ?_
  refine va_put (D := E.1) (ci := 9) (v := .int (nI 0)) (ty := .int) (C := RX11) (T := TX11) (N := 13) hx hb hts iX11 tyX11 tyX11_ok nmX11 hown hK hP hD hS 0 rfl rfl 5 (by decide) (hts _ kw_109) (fun _ h9 => h9) rfl (by decide +kernel) rfl rfl (Nat.le_of_ble_eq_true rfl) dX11_cell_2 (fun H locs hP hD hS => ?_)
  have hP : va_P E.1 vwCl (o1W E ca ra ao (va_up C 5 0) sh so sa ln L Cc) H := hP
  have hD : va_D A (o1W E ca ra ao (va_up C 5 0) sh so sa ln L Cc) := hD
  refine lv_aload_n hx hb dX11_cell_5 rfl (lv_at hl 0 rfl) ?_
  refine lv_iload_n hx hb dX11_cell_6 rfl (lv_at hl 1 rfl) ?_
  refine cV_r (rest := []) hC (k_isSheet l E ca ra ao (va_up C 5 0) (nI k1)) kw_148 iy_X11_isSheet ⟨Nat.le_of_ble_eq_true rfl, Nat.le_of_ble_eq_true rfl⟩ ⟨rfl, rfl⟩ hK (show va_P E.1 vwCl (oW ca ra ao (va_up C 5 0)) H from va_P_mem.mpr fun q9 h9 => va_P_mem.mp hP q9 (by rw [List.mem_singleton.mp h9]; exact List.mem_cons_self)) (va_recv hK hP (ci := 9) (q0 := 0) rfl rfl) rfl hl.1 rfl (Nat.le_of_ble_eq_true rfl) dX11_cell_7 ⟨Nat.le_of_ble_eq_true rfl, Nat.le_of_ble_eq_true rfl⟩ ?_
  refine W.eq (g2 := F0 m 10 ls [.int (bI (isIn (nI k1) (nI 0) (nI 3)))]) rfl ?_
  refine b_if_eq (tgt := 21) hx hb dX11_cell_10 (by decide) (fun c_1 => ?_) (fun c_1 => ?_)
  · -- t 21
    rw [hik] at c_1; cases c_1
  · -- f 13
    refine lv_aload_n hx hb dX11_cell_13 rfl (lv_at hl 0 rfl) ?_
    refine lv_iload_n hx hb dX11_cell_14 rfl (lv_at hl 3 rfl) ?_
    refine cV_r (rest := []) hC (k_isLane l E ca ra ao (va_up C 5 0) a3) kw_152 iy_X11_isLane ⟨Nat.le_of_ble_eq_true rfl, Nat.le_of_ble_eq_true rfl⟩ ⟨rfl, rfl⟩ hK (show va_P E.1 vwCl (oW ca ra ao (va_up C 5 0)) H from va_P_mem.mpr fun q9 h9 => va_P_mem.mp hP q9 (by rw [List.mem_singleton.mp h9]; exact List.mem_cons_self)) (va_recv hK hP (ci := 9) (q0 := 0) rfl rfl) rfl hl.1 rfl (Nat.le_of_ble_eq_true rfl) dX11_cell_15 ⟨Nat.le_of_ble_eq_true rfl, Nat.le_of_ble_eq_true rfl⟩ ?_
    refine W.eq (g2 := F0 m 18 ls [.int (bI (isIn a3 (nI 0) (nI 2)))]) rfl ?_
    refine b_if_ne (tgt := 25) hx hb dX11_cell_18 (by decide) (fun c_2 => ?_) (fun c_2 => ?_)
    · -- t 25
      refine lv_aload_n hx hb dX11_cell_25 rfl (lv_at hl 0 rfl) ?_
      refine va_get (D := E.1) (ci := 9) (v := .ref (ca 1)) (C := RX11) (T := TX11) (N := 13) hx hb hts iX11 hown hK hP 0 rfl rfl 0 (by decide) (hts _ kw_104) (fun _ h9 => h9) rfl dX11_cell_26 ?_
      refine lv_iload_n hx hb dX11_cell_29 rfl (lv_at hl 1 rfl) ?_
      refine va_aldq hx hb hK hP 1 3 rfl rfl (vp_in_nI (by omega) (by decide)) dX11_cell_30 ?_
      rw [nI_clamp (by omega)]
      refine W.eq (g2 := F0 m 31 ls [.ref so]) (by rw [hso]; rfl) ?_
      refine lv_astore (lv' := [(4, .ref so), (0, .ref (ca 0)), (1, .int (nI k1)), (2, .int a2), (3, .int a3)]) hx hb dX11_cell_31 hl (by decide) rfl (fun ls hl => ?_)
      refine lv_aload_n hx hb dX11_cell_33 rfl (lv_at hl 1 rfl) ?_
      refine lv_aload hx hb dX11_cell_34 (lv_at hl 0 rfl) ?_
      refine lv_ifnonnull (tgt := 43) hx hb dX11_cell_36 (by decide) ?_
      refine lv_aload hx hb dX11_cell_43 (lv_at hl 0 rfl) ?_
      refine va_get (D := E.1) (ci := 5) (v := .int ln) (C := RX7) (T := TX7) (N := 2) hx hb hts iX7 hown hK hP 2 rfl rfl 0 (by decide) (hts _ kw_624) (fun _ h9 => h9) rfl dX11_cell_45 ?_
      refine lv_iload_n hx hb dX11_cell_48 rfl (lv_at hl 4 rfl) ?_
      refine lv_icmp_eq (tgt := 56) hx hb dX11_cell_49 (by decide) (fun c_3 => ?_) (fun c_3 => ?_)
      · -- t 56
        refine lv_aload hx hb dX11_cell_56 (lv_at hl 0 rfl) ?_
        refine lv_iload_n hx hb dX11_cell_58 rfl (lv_at hl 3 rfl) ?_
        refine lv_iconst (v := nI 1) hx hb dX11_cell_59 (by decide) ?_
        refine cV_r (rest := [.ref (ca 0)]) hC (k_has l E so sa ln L Cc hL a2 (nI 1)) kw_160 iy_X7_has ⟨Nat.le_of_ble_eq_true rfl, Nat.le_of_ble_eq_true rfl⟩ ⟨rfl, rfl⟩ hK (va_P_r (X := osW E ca ra ao (va_up C 5 0) sh) hP) (va_recv hK hP (ci := 5) (q0 := 2) rfl rfl) rfl hl.1 rfl (Nat.le_of_ble_eq_true rfl) dX11_cell_60 ⟨Nat.le_of_ble_eq_true rfl, Nat.le_of_ble_eq_true rfl⟩ ?_
        refine W.eq (g2 := F0 m 63 ls [.int (bI (hasR a2 (nI 1) L)), .ref (ca 0)]) rfl ?_
        refine b_if_ne (tgt := 70) hx hb dX11_cell_63 (by decide) (fun c_4 => ?_) (fun c_4 => ?_)
        · -- t 70
          refine lv_iconst (v := nI 0) hx hb dX11_cell_70 (by decide) ?_
          refine va_put (D := E.1) (ci := 9) (v := .int (nI 0)) (ty := .int) (C := RX11) (T := TX11) (N := 13) hx hb hts iX11 tyX11 tyX11_ok nmX11 hown hK hP hD hS 0 rfl rfl 5 (by decide) (hts _ kw_109) (fun _ h9 => h9) rfl (by decide +kernel) rfl rfl (Nat.le_of_ble_eq_true rfl) dX11_cell_71 (fun H locs hP hD hS => ?_)
          have hP : va_P E.1 vwCl (o1W E ca ra ao (va_up C 5 0) sh so sa ln L Cc) H := hP
          have hD : va_D A (o1W E ca ra ao (va_up C 5 0) sh so sa ln L Cc) := hD
          refine lv_aload hx hb dX11_cell_74 (lv_at hl 0 rfl) ?_
          refine lv_ifnull hx hb dX11_cell_76 ?_
          refine lv_aload_n hx hb dX11_cell_79 rfl (lv_at hl 1 rfl) ?_
          refine va_get (D := E.1) (ci := 9) (v := .int (nI 0)) (C := RX11) (T := TX11) (N := 13) hx hb hts iX11 hown hK hP 0 rfl rfl 5 (by decide) (hts _ kw_109) (fun _ h9 => h9) rfl dX11_cell_80 ?_
          refine n_if_eq (tgt := 92) hx hb (by omega) dX11_cell_83 (by decide) (fun _ => ?_) (fun c_5 => absurd rfl c_5)
          refine lv_aload hx hb dX11_cell_92 (lv_at hl 0 rfl) ?_
          refine lv_iload_n hx hb dX11_cell_94 rfl (lv_at hl 3 rfl) ?_
          refine cV_r (rest := []) hC (k_at l E so sa ln L Cc hL a2) kw_652 iy_X7_at ⟨Nat.le_of_ble_eq_true rfl, Nat.le_of_ble_eq_true rfl⟩ ⟨rfl, rfl⟩ hK (va_P_r (X := osW E ca ra ao (va_up C 5 0) sh) hP) (va_recv hK hP (ci := 5) (q0 := 2) rfl rfl) rfl hl.1 rfl (Nat.le_of_ble_eq_true rfl) dX11_cell_95 ⟨Nat.le_of_ble_eq_true rfl, Nat.le_of_ble_eq_true rfl⟩ ?_
          refine W.eq (g2 := F0 m 98 ls [.int (atS Cc L a2)]) rfl ?_
          refine lv_i2l hx hb dX11_cell_98 rfl ?_
          exact rw_l hC hP hD hS (by rw [if_neg (by rw [c_2]; decide), if_neg (fun h9 => h9 (by assumption)), if_neg (by rw [c_4]; decide)]; exact ⟨by rw [show atS Cc L a2 = Cc a2.toNatClampNeg from by unfold atS; rw [if_pos c_4]], by rw [← vu_vu C 5 0 0]⟩) dX11_cell_99 (Nat.le_of_ble_eq_true rfl) (Nat.le_of_ble_eq_true rfl)
        · -- f 66
          refine lv_iconst (v := nI 3) hx hb dX11_cell_66 (by decide) ?_
          refine lv_goto (tgt := 71) hx hb dX11_cell_67 (by decide) ?_
          refine va_put (D := E.1) (ci := 9) (v := .int (nI 3)) (ty := .int) (C := RX11) (T := TX11) (N := 13) hx hb hts iX11 tyX11 tyX11_ok nmX11 hown hK hP hD hS 0 rfl rfl 5 (by decide) (hts _ kw_109) (fun _ h9 => h9) rfl (by decide +kernel) rfl rfl (Nat.le_of_ble_eq_true rfl) dX11_cell_71 (fun H locs hP hD hS => ?_)
          have hP : va_P E.1 vwCl (o1W E ca ra ao (va_up C 5 3) sh so sa ln L Cc) H := hP
          have hD : va_D A (o1W E ca ra ao (va_up C 5 3) sh so sa ln L Cc) := hD
          refine lv_aload hx hb dX11_cell_74 (lv_at hl 0 rfl) ?_
          refine lv_ifnull hx hb dX11_cell_76 ?_
          refine lv_aload_n hx hb dX11_cell_79 rfl (lv_at hl 1 rfl) ?_
          refine va_get (D := E.1) (ci := 9) (v := .int (nI 3)) (C := RX11) (T := TX11) (N := 13) hx hb hts iX11 hown hK hP 0 rfl rfl 5 (by decide) (hts _ kw_109) (fun _ h9 => h9) rfl dX11_cell_80 ?_
          refine n_if_eq (tgt := 92) hx hb (by omega) dX11_cell_83 (by decide) (fun c_6 => absurd c_6 (by decide)) (fun _ => ?_)
          refine lv_ldc2 (v := lN 9223372036854775808) hx hb hown (hts _ kw_385) dX11_cell_86 ?_
          refine lv_goto (tgt := 99) hx hb dX11_cell_89 (by decide) ?_
          exact rw_l hC hP hD hS (by rw [if_neg (by rw [c_2]; decide), if_neg (fun h9 => h9 (by assumption)), if_pos c_4]; exact ⟨rfl, by rw [← vu_vu C 5 0 3]⟩) dX11_cell_99 (Nat.le_of_ble_eq_true rfl) (Nat.le_of_ble_eq_true rfl)
      · -- f 52
        refine lv_iconst (v := nI 2) hx hb dX11_cell_52 (by decide) ?_
        refine lv_goto (tgt := 71) hx hb dX11_cell_53 (by decide) ?_
        refine va_put (D := E.1) (ci := 9) (v := .int (nI 2)) (ty := .int) (C := RX11) (T := TX11) (N := 13) hx hb hts iX11 tyX11 tyX11_ok nmX11 hown hK hP hD hS 0 rfl rfl 5 (by decide) (hts _ kw_109) (fun _ h9 => h9) rfl (by decide +kernel) rfl rfl (Nat.le_of_ble_eq_true rfl) dX11_cell_71 (fun H locs hP hD hS => ?_)
        have hP : va_P E.1 vwCl (o1W E ca ra ao (va_up C 5 2) sh so sa ln L Cc) H := hP
        have hD : va_D A (o1W E ca ra ao (va_up C 5 2) sh so sa ln L Cc) := hD
        refine lv_aload hx hb dX11_cell_74 (lv_at hl 0 rfl) ?_
        refine lv_ifnull hx hb dX11_cell_76 ?_
        refine lv_aload_n hx hb dX11_cell_79 rfl (lv_at hl 1 rfl) ?_
        refine va_get (D := E.1) (ci := 9) (v := .int (nI 2)) (C := RX11) (T := TX11) (N := 13) hx hb hts iX11 hown hK hP 0 rfl rfl 5 (by decide) (hts _ kw_109) (fun _ h9 => h9) rfl dX11_cell_80 ?_
        refine n_if_eq (tgt := 92) hx hb (by omega) dX11_cell_83 (by decide) (fun c_7 => absurd c_7 (by decide)) (fun _ => ?_)
        refine lv_ldc2 (v := lN 9223372036854775808) hx hb hown (hts _ kw_385) dX11_cell_86 ?_
        refine lv_goto (tgt := 99) hx hb dX11_cell_89 (by decide) ?_
        exact rw_l hC hP hD hS (by rw [if_neg (by rw [c_2]; decide), if_pos (by assumption)]; exact ⟨rfl, by rw [← vu_vu C 5 0 2]⟩) dX11_cell_99 (Nat.le_of_ble_eq_true rfl) (Nat.le_of_ble_eq_true rfl)
    · -- f 21
      refine lv_ldc2 (v := lN 9223372036854775808) hx hb hown (hts _ kw_385) dX11_cell_21 ?_
      exact rw_l hC hP hD hS (by rw [if_pos c_2]; exact ⟨rfl, rfl⟩) dX11_cell_24 (Nat.le_of_ble_eq_true rfl) (Nat.le_of_ble_eq_true rfl)

set_option maxHeartbeats 4000000 in
set_option maxRecDepth 100000 in
theorem k_copy2 (l : Launch) (E : EE) (ca ra : Nat → Nat) (ao : Nat) (C : Nat → Nat) (sh : Nat → Option Nat) (so sa : Nat) (ln : Int32) (L : Nat) (Cc : Nat → Int32) (hL : L ≤ 60) (so2 sa2 : Nat) (ln2 : Int32) (L2 : Nat) (Cc2 : Nat → Int32) (hL2 : L2 ≤ 60) (k1 o1 : Nat) (hk1 : k1 ≤ 3) (ho1 : o1 ≤ 3) (hso : sh k1 = some so) (hso2 : sh o1 = some so2) (a2 a4 a5 : Int32) (sz : Nat) : Wr l yX11_copy cX11_copy 8 (some .int) rm_X11_copy 0 0 E (o2W E ca ra ao C sh so sa ln L Cc so2 sa2 ln2 L2 Cc2) sz [.ref (ca 0), .int (nI k1), .int a2, .int (nI o1), .int a4, .int a5] (fun v1 w1 => if ¬ ln = ln2 then v1 = some (.int ((-10) - nI 2)) ∧ w1 = o2W E ca ra ao (va_up C 5 2) sh so sa ln L Cc so2 sa2 ln2 L2 Cc2 else if (hasR a2 a5 L && hasR a4 a5 L2) = false then v1 = some (.int ((-10) - nI 3)) ∧ w1 = o2W E ca ra ao (va_up C 5 3) sh so sa ln L Cc so2 sa2 ln2 L2 Cc2 else v1 = some (.int a5) ∧ w1 = o2W E ca ra ao (va_up C 5 0) sh so sa ln L Cc so2 sa2 ln2 L2 (va_cpy Cc Cc2 a2.toNatClampNeg a4.toNatClampNeg a5.toNatClampNeg)) := by
  refine mk_wr (by decide) (Nat.le_of_ble_eq_true rfl) ?_
  intro p e s m args below meth c hC hin hK A hA hP hD hS ls hl
  obtain ⟨hx, hb, hr, hts, hown, hml, hlk, hN⟩ := id hC
  have hl : lv_has ls 8 [(0, .ref (ca 0)), (1, .int (nI k1)), (2, .int a2), (3, .int (nI o1)), (4, .int a4), (5, .int a5)] := hl
  have hik : isIn (nI k1) (nI 0) (nI 3) = true := nat_isIn (by decide) hk1
  have hio : isIn (nI o1) (nI 0) (nI 3) = true := nat_isIn (by decide) ho1
  obtain ⟨H, hH⟩ : ∃ z, z = s.heap := ⟨_, rfl⟩
  have hS : va_S A s.heap H [] := by rw [hH]; exact hS
  rw [← hH] at hP
  refine W_heap hH ?_
  obtain ⟨locs, hlo⟩ : ∃ z : List Loc, z = [] := ⟨_, rfl⟩
  rw [← hlo] at hS ⊢
  refine lv_aload_n hx hb dX11_copy_0 rfl (lv_at hl 0 rfl) ?_
  refine lv_iconst (v := nI 0) hx hb dX11_copy_1 (by decide) ?_
  refine va_put (D := E.1) (ci := 9) (v := .int (nI 0)) (ty := .int) (C := RX11) (T := TX11) (N := 13) hx hb hts iX11 tyX11 tyX11_ok nmX11 hown hK hP hD hS 0 rfl rfl 5 (by decide) (hts _ kw_109) (fun _ h9 => h9) rfl (by decide +kernel) rfl rfl (Nat.le_of_ble_eq_true rfl) dX11_copy_2 (fun H locs hP hD hS => ?_)
  have hP : va_P E.1 vwCl (o2W E ca ra ao (va_up C 5 0) sh so sa ln L Cc so2 sa2 ln2 L2 Cc2) H := hP
  have hD : va_D A (o2W E ca ra ao (va_up C 5 0) sh so sa ln L Cc so2 sa2 ln2 L2 Cc2) := hD
  refine lv_aload_n hx hb dX11_copy_5 rfl (lv_at hl 0 rfl) ?_
  refine lv_iload_n hx hb dX11_copy_6 rfl (lv_at hl 1 rfl) ?_
  refine cV_r (rest := []) hC (k_isSheet l E ca ra ao (va_up C 5 0) (nI k1)) kw_148 iy_X11_isSheet ⟨Nat.le_of_ble_eq_true rfl, Nat.le_of_ble_eq_true rfl⟩ ⟨rfl, rfl⟩ hK (show va_P E.1 vwCl (oW ca ra ao (va_up C 5 0)) H from va_P_mem.mpr fun q9 h9 => va_P_mem.mp hP q9 (by rw [List.mem_singleton.mp h9]; exact List.mem_cons_self)) (va_recv hK hP (ci := 9) (q0 := 0) rfl rfl) rfl hl.1 rfl (Nat.le_of_ble_eq_true rfl) dX11_copy_7 ⟨Nat.le_of_ble_eq_true rfl, Nat.le_of_ble_eq_true rfl⟩ ?_
  refine W.eq (g2 := F0 m 10 ls [.int (bI (isIn (nI k1) (nI 0) (nI 3)))]) rfl ?_
  refine b_if_eq (tgt := 21) hx hb dX11_copy_10 (by decide) (fun c_1 => ?_) (fun c_1 => ?_)
  · -- t 21
    rw [hik] at c_1; cases c_1
  · -- f 13
    refine lv_aload_n hx hb dX11_copy_13 rfl (lv_at hl 0 rfl) ?_
    refine lv_iload_n hx hb dX11_copy_14 rfl (lv_at hl 3 rfl) ?_
    refine cV_r (rest := []) hC (k_isSheet l E ca ra ao (va_up C 5 0) (nI o1)) kw_148 iy_X11_isSheet ⟨Nat.le_of_ble_eq_true rfl, Nat.le_of_ble_eq_true rfl⟩ ⟨rfl, rfl⟩ hK (show va_P E.1 vwCl (oW ca ra ao (va_up C 5 0)) H from va_P_mem.mpr fun q9 h9 => va_P_mem.mp hP q9 (by rw [List.mem_singleton.mp h9]; exact List.mem_cons_self)) (va_recv hK hP (ci := 9) (q0 := 0) rfl rfl) rfl hl.1 rfl (Nat.le_of_ble_eq_true rfl) dX11_copy_15 ⟨Nat.le_of_ble_eq_true rfl, Nat.le_of_ble_eq_true rfl⟩ ?_
    refine W.eq (g2 := F0 m 18 ls [.int (bI (isIn (nI o1) (nI 0) (nI 3)))]) rfl ?_
    refine b_if_ne (tgt := 23) hx hb dX11_copy_18 (by decide) (fun c_2 => ?_) (fun c_2 => ?_)
    · -- t 23
      refine lv_aload_n hx hb dX11_copy_23 rfl (lv_at hl 0 rfl) ?_
      refine va_get (D := E.1) (ci := 9) (v := .ref (ca 1)) (C := RX11) (T := TX11) (N := 13) hx hb hts iX11 hown hK hP 0 rfl rfl 0 (by decide) (hts _ kw_104) (fun _ h9 => h9) rfl dX11_copy_24 ?_
      refine lv_iload_n hx hb dX11_copy_27 rfl (lv_at hl 1 rfl) ?_
      refine va_aldq hx hb hK hP 1 3 rfl rfl (vp_in_nI (by omega) (by decide)) dX11_copy_28 ?_
      rw [nI_clamp (by omega)]
      refine W.eq (g2 := F0 m 29 ls [.ref so]) (by rw [hso]; rfl) ?_
      refine lv_astore (lv' := [(6, .ref so), (0, .ref (ca 0)), (1, .int (nI k1)), (2, .int a2), (3, .int (nI o1)), (4, .int a4), (5, .int a5)]) hx hb dX11_copy_29 hl (by decide) rfl (fun ls hl => ?_)
      refine lv_aload_n hx hb dX11_copy_31 rfl (lv_at hl 1 rfl) ?_
      refine va_get (D := E.1) (ci := 9) (v := .ref (ca 1)) (C := RX11) (T := TX11) (N := 13) hx hb hts iX11 hown hK hP 0 rfl rfl 0 (by decide) (hts _ kw_104) (fun _ h9 => h9) rfl dX11_copy_32 ?_
      refine lv_iload_n hx hb dX11_copy_35 rfl (lv_at hl 4 rfl) ?_
      refine va_aldq hx hb hK hP 1 3 rfl rfl (vp_in_nI (by omega) (by decide)) dX11_copy_36 ?_
      rw [nI_clamp (by omega)]
      refine W.eq (g2 := F0 m 37 ls [.ref so2]) (by rw [hso2]; rfl) ?_
      refine lv_astore (lv' := [(7, .ref so2), (6, .ref so), (0, .ref (ca 0)), (1, .int (nI k1)), (2, .int a2), (3, .int (nI o1)), (4, .int a4), (5, .int a5)]) hx hb dX11_copy_37 hl (by decide) rfl (fun ls hl => ?_)
      refine lv_aload hx hb dX11_copy_39 (lv_at hl 1 rfl) ?_
      refine lv_ifnull hx hb dX11_copy_41 ?_
      refine lv_aload hx hb dX11_copy_44 (lv_at hl 0 rfl) ?_
      refine lv_ifnonnull (tgt := 55) hx hb dX11_copy_46 (by decide) ?_
      refine lv_aload hx hb dX11_copy_55 (lv_at hl 1 rfl) ?_
      refine va_get (D := E.1) (ci := 5) (v := .int ln) (C := RX7) (T := TX7) (N := 2) hx hb hts iX7 hown hK hP 2 rfl rfl 0 (by decide) (hts _ kw_624) (fun _ h9 => h9) rfl dX11_copy_57 ?_
      refine lv_aload hx hb dX11_copy_60 (lv_at hl 0 rfl) ?_
      refine va_get (D := E.1) (ci := 5) (v := .int ln2) (C := RX7) (T := TX7) (N := 2) hx hb hts iX7 hown hK hP 4 rfl rfl 0 (by decide) (hts _ kw_624) (fun _ h9 => h9) rfl dX11_copy_62 ?_
      refine lv_icmp_eq (tgt := 74) hx hb dX11_copy_65 (by decide) (fun c_3 => ?_) (fun c_3 => ?_)
      · -- t 74
        refine lv_aload hx hb dX11_copy_74 (lv_at hl 1 rfl) ?_
        refine lv_iload_n hx hb dX11_copy_76 rfl (lv_at hl 4 rfl) ?_
        refine lv_iload hx hb dX11_copy_77 (lv_at hl 7 rfl) ?_
        refine cV_r (rest := []) hC (k_has l E so sa ln L Cc hL a2 a5) kw_160 iy_X7_has ⟨Nat.le_of_ble_eq_true rfl, Nat.le_of_ble_eq_true rfl⟩ ⟨rfl, rfl⟩ hK (va_P_l (X := shW E so sa ln L Cc) (Y := shW E so2 sa2 ln2 L2 Cc2) (va_P_r (X := osW E ca ra ao (va_up C 5 0) sh) hP)) (va_recv hK hP (ci := 5) (q0 := 2) rfl rfl) rfl hl.1 rfl (Nat.le_of_ble_eq_true rfl) dX11_copy_79 ⟨Nat.le_of_ble_eq_true rfl, Nat.le_of_ble_eq_true rfl⟩ ?_
        refine W.eq (g2 := F0 m 82 ls [.int (bI (hasR a2 a5 L))]) rfl ?_
        refine b_if_eq (tgt := 97) hx hb dX11_copy_82 (by decide) (fun c_4 => ?_) (fun c_4 => ?_)
        · -- t 97
          refine lv_aload_n hx hb dX11_copy_97 rfl (lv_at hl 2 rfl) ?_
          refine lv_iconst (v := nI 3) hx hb dX11_copy_98 (by decide) ?_
          refine cV_wr (X := []) (Y := osC E (ca 1) sh :: (shW E so sa ln L Cc ++ shW E so2 sa2 ln2 L2 Cc2)) (rest := []) hC (k_faulted l E ca ra ao (va_up C 5 0) 3 _) kw_156 iy_X11_faulted ⟨Nat.le_of_ble_eq_true rfl, Nat.le_of_ble_eq_true rfl⟩ ⟨rfl, rfl⟩ hK hP hD hS hA rfl (va_recv hK hP (ci := 9) (q0 := 0) rfl rfl) rfl hl.1 rfl (Nat.le_of_ble_eq_true rfl) dX11_copy_99 ⟨Nat.le_of_ble_eq_true rfl, Nat.le_of_ble_eq_true rfl⟩ (fun v_ w_ H locs hpost hP hD hS => ?_)
          obtain ⟨rfl, rfl⟩ := hpost
          have hP : va_P E.1 vwCl (o2W E ca ra ao (va_up C 5 3) sh so sa ln L Cc so2 sa2 ln2 L2 Cc2) H := hP
          have hD : va_D A (o2W E ca ra ao (va_up C 5 3) sh so sa ln L Cc so2 sa2 ln2 L2 Cc2) := hD
          refine W.eq (g2 := F0 m 102 ls [.int ((-10) - nI 3)]) rfl ?_
          exact rw_i hC rfl hP hD hS (by rw [if_neg (fun h9 => h9 c_3), if_pos (by rw [c_4]; rfl)]; exact ⟨rfl, rfl⟩) dX11_copy_102 (Nat.le_of_ble_eq_true rfl) (Nat.le_of_ble_eq_true rfl)
        · -- f 85
          have hh1 := c_4
          refine lv_aload hx hb dX11_copy_85 (lv_at hl 0 rfl) ?_
          refine lv_iload hx hb dX11_copy_87 (lv_at hl 6 rfl) ?_
          refine lv_iload hx hb dX11_copy_89 (lv_at hl 7 rfl) ?_
          refine cV_r (rest := []) hC (k_has l E so2 sa2 ln2 L2 Cc2 hL2 a4 a5) kw_160 iy_X7_has ⟨Nat.le_of_ble_eq_true rfl, Nat.le_of_ble_eq_true rfl⟩ ⟨rfl, rfl⟩ hK (va_P_r (X := shW E so sa ln L Cc) (Y := shW E so2 sa2 ln2 L2 Cc2) (va_P_r (X := osW E ca ra ao (va_up C 5 0) sh) hP)) (va_recv hK hP (ci := 5) (q0 := 4) rfl rfl) rfl hl.1 rfl (Nat.le_of_ble_eq_true rfl) dX11_copy_91 ⟨Nat.le_of_ble_eq_true rfl, Nat.le_of_ble_eq_true rfl⟩ ?_
          refine W.eq (g2 := F0 m 94 ls [.int (bI (hasR a4 a5 L2))]) rfl ?_
          refine b_if_ne (tgt := 103) hx hb dX11_copy_94 (by decide) (fun c_5 => ?_) (fun c_5 => ?_)
          · -- t 103
            have hh2 := c_5
            refine lv_aload hx hb dX11_copy_103 (lv_at hl 1 rfl) ?_
            refine va_get (D := E.1) (ci := 5) (v := .ref sa) (C := RX7) (T := TX7) (N := 2) hx hb hts iX7 hown hK hP 2 rfl rfl 1 (by decide) (hts _ kw_626) (fun _ h9 => h9) rfl dX11_copy_105 ?_
            refine lv_iload_n hx hb dX11_copy_108 rfl (lv_at hl 4 rfl) ?_
            refine lv_aload hx hb dX11_copy_109 (lv_at hl 0 rfl) ?_
            refine va_get (D := E.1) (ci := 5) (v := .ref sa2) (C := RX7) (T := TX7) (N := 2) hx hb hts iX7 hown hK hP 4 rfl rfl 1 (by decide) (hts _ kw_626) (fun _ h9 => h9) rfl dX11_copy_111 ?_
            refine lv_iload hx hb dX11_copy_114 (lv_at hl 6 rfl) ?_
            refine lv_iload hx hb dX11_copy_116 (lv_at hl 7 rfl) ?_
            obtain ⟨hz1, hz2, hz3⟩ := of_decide_eq_true hh1
            obtain ⟨hy1, hy2, hy3⟩ := of_decide_eq_true hh2
            refine va_copyi hx hb (by rw [hml, hl.1]) hown (hts _ kw_657) (hts _ kw_659) (hts _ kw_658) (hts _ kw_17) hK hP hD hS 3 5 1 1 (f := Cc) (g := Cc2) rfl rfl rfl rfl rfl hz1 hy1 hz2 hz3 hy3 (fun _ _ => rfl) (Nat.le_of_ble_eq_true rfl) (show 0 + _ ≤ _ from Nat.le_of_ble_eq_true rfl) dX11_copy_118 (fun H locs hP hD hS => ?_)
            have hP : va_P E.1 vwCl (o2W E ca ra ao (va_up C 5 0) sh so sa ln L Cc so2 sa2 ln2 L2 (va_cpy Cc Cc2 a2.toNatClampNeg a4.toNatClampNeg a5.toNatClampNeg)) H := hP
            have hD : va_D A (o2W E ca ra ao (va_up C 5 0) sh so sa ln L Cc so2 sa2 ln2 L2 (va_cpy Cc Cc2 a2.toNatClampNeg a4.toNatClampNeg a5.toNatClampNeg)) := hD
            refine lv_iload hx hb dX11_copy_121 (lv_at hl 7 rfl) ?_
            exact rw_i hC rfl hP hD hS (by rw [if_neg (fun h9 => h9 c_3), if_neg (by rw [hh1, hh2]; decide)]; exact ⟨rfl, rfl⟩) dX11_copy_123 (Nat.le_of_ble_eq_true rfl) (Nat.le_of_ble_eq_true rfl)
          · -- f 97
            refine lv_aload_n hx hb dX11_copy_97 rfl (lv_at hl 2 rfl) ?_
            refine lv_iconst (v := nI 3) hx hb dX11_copy_98 (by decide) ?_
            refine cV_wr (X := []) (Y := osC E (ca 1) sh :: (shW E so sa ln L Cc ++ shW E so2 sa2 ln2 L2 Cc2)) (rest := []) hC (k_faulted l E ca ra ao (va_up C 5 0) 3 _) kw_156 iy_X11_faulted ⟨Nat.le_of_ble_eq_true rfl, Nat.le_of_ble_eq_true rfl⟩ ⟨rfl, rfl⟩ hK hP hD hS hA rfl (va_recv hK hP (ci := 9) (q0 := 0) rfl rfl) rfl hl.1 rfl (Nat.le_of_ble_eq_true rfl) dX11_copy_99 ⟨Nat.le_of_ble_eq_true rfl, Nat.le_of_ble_eq_true rfl⟩ (fun v_ w_ H locs hpost hP hD hS => ?_)
            obtain ⟨rfl, rfl⟩ := hpost
            have hP : va_P E.1 vwCl (o2W E ca ra ao (va_up C 5 3) sh so sa ln L Cc so2 sa2 ln2 L2 Cc2) H := hP
            have hD : va_D A (o2W E ca ra ao (va_up C 5 3) sh so sa ln L Cc so2 sa2 ln2 L2 Cc2) := hD
            refine W.eq (g2 := F0 m 102 ls [.int ((-10) - nI 3)]) rfl ?_
            exact rw_i hC rfl hP hD hS (by rw [if_neg (fun h9 => h9 c_3), if_pos (by rw [c_5, Bool.and_false])]; exact ⟨rfl, rfl⟩) dX11_copy_102 (Nat.le_of_ble_eq_true rfl) (Nat.le_of_ble_eq_true rfl)
      · -- f 68
        refine lv_aload_n hx hb dX11_copy_68 rfl (lv_at hl 2 rfl) ?_
        refine lv_iconst (v := nI 2) hx hb dX11_copy_69 (by decide) ?_
        refine cV_wr (X := []) (Y := osC E (ca 1) sh :: (shW E so sa ln L Cc ++ shW E so2 sa2 ln2 L2 Cc2)) (rest := []) hC (k_faulted l E ca ra ao (va_up C 5 0) 2 _) kw_156 iy_X11_faulted ⟨Nat.le_of_ble_eq_true rfl, Nat.le_of_ble_eq_true rfl⟩ ⟨rfl, rfl⟩ hK hP hD hS hA rfl (va_recv hK hP (ci := 9) (q0 := 0) rfl rfl) rfl hl.1 rfl (Nat.le_of_ble_eq_true rfl) dX11_copy_70 ⟨Nat.le_of_ble_eq_true rfl, Nat.le_of_ble_eq_true rfl⟩ (fun v_ w_ H locs hpost hP hD hS => ?_)
        obtain ⟨rfl, rfl⟩ := hpost
        have hP : va_P E.1 vwCl (o2W E ca ra ao (va_up C 5 2) sh so sa ln L Cc so2 sa2 ln2 L2 Cc2) H := hP
        have hD : va_D A (o2W E ca ra ao (va_up C 5 2) sh so sa ln L Cc so2 sa2 ln2 L2 Cc2) := hD
        refine W.eq (g2 := F0 m 73 ls [.int ((-10) - nI 2)]) rfl ?_
        exact rw_i hC rfl hP hD hS (by rw [if_pos c_3]; exact ⟨rfl, rfl⟩) dX11_copy_73 (Nat.le_of_ble_eq_true rfl) (Nat.le_of_ble_eq_true rfl)
    · -- f 21
      rw [hio] at c_2; cases c_2

set_option maxHeartbeats 4000000 in
set_option maxRecDepth 100000 in
theorem k_copy1 (l : Launch) (E : EE) (ca ra : Nat → Nat) (ao : Nat) (C : Nat → Nat) (sh : Nat → Option Nat) (so sa : Nat) (ln : Int32) (L : Nat) (Cc : Nat → Int32) (hL : L ≤ 60) (k1 : Nat) (hk1 : k1 ≤ 3) (hso : sh k1 = some so) (a2 a4 a5 : Int32) (sz : Nat) : Wr l yX11_copy cX11_copy 8 (some .int) rm_X11_copy 0 0 E (o1W E ca ra ao C sh so sa ln L Cc) sz [.ref (ca 0), .int (nI k1), .int a2, .int (nI k1), .int a4, .int a5] (fun v1 w1 => if (hasR a2 a5 L && hasR a4 a5 L) = false then v1 = some (.int ((-10) - nI 3)) ∧ w1 = o1W E ca ra ao (va_up C 5 3) sh so sa ln L Cc else v1 = some (.int a5) ∧ w1 = o1W E ca ra ao (va_up C 5 0) sh so sa ln L (va_cpy Cc Cc a2.toNatClampNeg a4.toNatClampNeg a5.toNatClampNeg)) := by
  refine mk_wr (by decide) (Nat.le_of_ble_eq_true rfl) ?_
  intro p e s m args below meth c hC hin hK A hA hP hD hS ls hl
  obtain ⟨hx, hb, hr, hts, hown, hml, hlk, hN⟩ := id hC
  have hl : lv_has ls 8 [(0, .ref (ca 0)), (1, .int (nI k1)), (2, .int a2), (3, .int (nI k1)), (4, .int a4), (5, .int a5)] := hl
  have hik : isIn (nI k1) (nI 0) (nI 3) = true := nat_isIn (by decide) hk1
  obtain ⟨H, hH⟩ : ∃ z, z = s.heap := ⟨_, rfl⟩
  have hS : va_S A s.heap H [] := by rw [hH]; exact hS
  rw [← hH] at hP
  refine W_heap hH ?_
  obtain ⟨locs, hlo⟩ : ∃ z : List Loc, z = [] := ⟨_, rfl⟩
  rw [← hlo] at hS ⊢
  refine lv_aload_n hx hb dX11_copy_0 rfl (lv_at hl 0 rfl) ?_
  refine lv_iconst (v := nI 0) hx hb dX11_copy_1 (by decide) ?_
  refine va_put (D := E.1) (ci := 9) (v := .int (nI 0)) (ty := .int) (C := RX11) (T := TX11) (N := 13) hx hb hts iX11 tyX11 tyX11_ok nmX11 hown hK hP hD hS 0 rfl rfl 5 (by decide) (hts _ kw_109) (fun _ h9 => h9) rfl (by decide +kernel) rfl rfl (Nat.le_of_ble_eq_true rfl) dX11_copy_2 (fun H locs hP hD hS => ?_)
  have hP : va_P E.1 vwCl (o1W E ca ra ao (va_up C 5 0) sh so sa ln L Cc) H := hP
  have hD : va_D A (o1W E ca ra ao (va_up C 5 0) sh so sa ln L Cc) := hD
  refine lv_aload_n hx hb dX11_copy_5 rfl (lv_at hl 0 rfl) ?_
  refine lv_iload_n hx hb dX11_copy_6 rfl (lv_at hl 1 rfl) ?_
  refine cV_r (rest := []) hC (k_isSheet l E ca ra ao (va_up C 5 0) (nI k1)) kw_148 iy_X11_isSheet ⟨Nat.le_of_ble_eq_true rfl, Nat.le_of_ble_eq_true rfl⟩ ⟨rfl, rfl⟩ hK (show va_P E.1 vwCl (oW ca ra ao (va_up C 5 0)) H from va_P_mem.mpr fun q9 h9 => va_P_mem.mp hP q9 (by rw [List.mem_singleton.mp h9]; exact List.mem_cons_self)) (va_recv hK hP (ci := 9) (q0 := 0) rfl rfl) rfl hl.1 rfl (Nat.le_of_ble_eq_true rfl) dX11_copy_7 ⟨Nat.le_of_ble_eq_true rfl, Nat.le_of_ble_eq_true rfl⟩ ?_
  refine W.eq (g2 := F0 m 10 ls [.int (bI (isIn (nI k1) (nI 0) (nI 3)))]) rfl ?_
  refine b_if_eq (tgt := 21) hx hb dX11_copy_10 (by decide) (fun c_1 => ?_) (fun c_1 => ?_)
  · -- t 21
    rw [hik] at c_1; cases c_1
  · -- f 13
    refine lv_aload_n hx hb dX11_copy_13 rfl (lv_at hl 0 rfl) ?_
    refine lv_iload_n hx hb dX11_copy_14 rfl (lv_at hl 3 rfl) ?_
    refine cV_r (rest := []) hC (k_isSheet l E ca ra ao (va_up C 5 0) (nI k1)) kw_148 iy_X11_isSheet ⟨Nat.le_of_ble_eq_true rfl, Nat.le_of_ble_eq_true rfl⟩ ⟨rfl, rfl⟩ hK (show va_P E.1 vwCl (oW ca ra ao (va_up C 5 0)) H from va_P_mem.mpr fun q9 h9 => va_P_mem.mp hP q9 (by rw [List.mem_singleton.mp h9]; exact List.mem_cons_self)) (va_recv hK hP (ci := 9) (q0 := 0) rfl rfl) rfl hl.1 rfl (Nat.le_of_ble_eq_true rfl) dX11_copy_15 ⟨Nat.le_of_ble_eq_true rfl, Nat.le_of_ble_eq_true rfl⟩ ?_
    refine W.eq (g2 := F0 m 18 ls [.int (bI (isIn (nI k1) (nI 0) (nI 3)))]) rfl ?_
    refine b_if_ne (tgt := 23) hx hb dX11_copy_18 (by decide) (fun c_2 => ?_) (fun c_2 => ?_)
    · -- t 23
      refine lv_aload_n hx hb dX11_copy_23 rfl (lv_at hl 0 rfl) ?_
      refine va_get (D := E.1) (ci := 9) (v := .ref (ca 1)) (C := RX11) (T := TX11) (N := 13) hx hb hts iX11 hown hK hP 0 rfl rfl 0 (by decide) (hts _ kw_104) (fun _ h9 => h9) rfl dX11_copy_24 ?_
      refine lv_iload_n hx hb dX11_copy_27 rfl (lv_at hl 1 rfl) ?_
      refine va_aldq hx hb hK hP 1 3 rfl rfl (vp_in_nI (by omega) (by decide)) dX11_copy_28 ?_
      rw [nI_clamp (by omega)]
      refine W.eq (g2 := F0 m 29 ls [.ref so]) (by rw [hso]; rfl) ?_
      refine lv_astore (lv' := [(6, .ref so), (0, .ref (ca 0)), (1, .int (nI k1)), (2, .int a2), (3, .int (nI k1)), (4, .int a4), (5, .int a5)]) hx hb dX11_copy_29 hl (by decide) rfl (fun ls hl => ?_)
      refine lv_aload_n hx hb dX11_copy_31 rfl (lv_at hl 1 rfl) ?_
      refine va_get (D := E.1) (ci := 9) (v := .ref (ca 1)) (C := RX11) (T := TX11) (N := 13) hx hb hts iX11 hown hK hP 0 rfl rfl 0 (by decide) (hts _ kw_104) (fun _ h9 => h9) rfl dX11_copy_32 ?_
      refine lv_iload_n hx hb dX11_copy_35 rfl (lv_at hl 4 rfl) ?_
      refine va_aldq hx hb hK hP 1 3 rfl rfl (vp_in_nI (by omega) (by decide)) dX11_copy_36 ?_
      rw [nI_clamp (by omega)]
      refine W.eq (g2 := F0 m 37 ls [.ref so]) (by rw [hso]; rfl) ?_
      refine lv_astore (lv' := [(7, .ref so), (6, .ref so), (0, .ref (ca 0)), (1, .int (nI k1)), (2, .int a2), (3, .int (nI k1)), (4, .int a4), (5, .int a5)]) hx hb dX11_copy_37 hl (by decide) rfl (fun ls hl => ?_)
      refine lv_aload hx hb dX11_copy_39 (lv_at hl 1 rfl) ?_
      refine lv_ifnull hx hb dX11_copy_41 ?_
      refine lv_aload hx hb dX11_copy_44 (lv_at hl 0 rfl) ?_
      refine lv_ifnonnull (tgt := 55) hx hb dX11_copy_46 (by decide) ?_
      refine lv_aload hx hb dX11_copy_55 (lv_at hl 1 rfl) ?_
      refine va_get (D := E.1) (ci := 5) (v := .int ln) (C := RX7) (T := TX7) (N := 2) hx hb hts iX7 hown hK hP 2 rfl rfl 0 (by decide) (hts _ kw_624) (fun _ h9 => h9) rfl dX11_copy_57 ?_
      refine lv_aload hx hb dX11_copy_60 (lv_at hl 0 rfl) ?_
      refine va_get (D := E.1) (ci := 5) (v := .int ln) (C := RX7) (T := TX7) (N := 2) hx hb hts iX7 hown hK hP 2 rfl rfl 0 (by decide) (hts _ kw_624) (fun _ h9 => h9) rfl dX11_copy_62 ?_
      refine lv_icmp_eq (tgt := 74) hx hb dX11_copy_65 (by decide) (fun c_3 => ?_) (fun c_3 => ?_)
      · -- t 74
        refine lv_aload hx hb dX11_copy_74 (lv_at hl 1 rfl) ?_
        refine lv_iload_n hx hb dX11_copy_76 rfl (lv_at hl 4 rfl) ?_
        refine lv_iload hx hb dX11_copy_77 (lv_at hl 7 rfl) ?_
        refine cV_r (rest := []) hC (k_has l E so sa ln L Cc hL a2 a5) kw_160 iy_X7_has ⟨Nat.le_of_ble_eq_true rfl, Nat.le_of_ble_eq_true rfl⟩ ⟨rfl, rfl⟩ hK (va_P_r (X := osW E ca ra ao (va_up C 5 0) sh) hP) (va_recv hK hP (ci := 5) (q0 := 2) rfl rfl) rfl hl.1 rfl (Nat.le_of_ble_eq_true rfl) dX11_copy_79 ⟨Nat.le_of_ble_eq_true rfl, Nat.le_of_ble_eq_true rfl⟩ ?_
        refine W.eq (g2 := F0 m 82 ls [.int (bI (hasR a2 a5 L))]) rfl ?_
        refine b_if_eq (tgt := 97) hx hb dX11_copy_82 (by decide) (fun c_4 => ?_) (fun c_4 => ?_)
        · -- t 97
          refine lv_aload_n hx hb dX11_copy_97 rfl (lv_at hl 2 rfl) ?_
          refine lv_iconst (v := nI 3) hx hb dX11_copy_98 (by decide) ?_
          refine cV_wr (X := []) (Y := osC E (ca 1) sh :: shW E so sa ln L Cc) (rest := []) hC (k_faulted l E ca ra ao (va_up C 5 0) 3 _) kw_156 iy_X11_faulted ⟨Nat.le_of_ble_eq_true rfl, Nat.le_of_ble_eq_true rfl⟩ ⟨rfl, rfl⟩ hK hP hD hS hA rfl (va_recv hK hP (ci := 9) (q0 := 0) rfl rfl) rfl hl.1 rfl (Nat.le_of_ble_eq_true rfl) dX11_copy_99 ⟨Nat.le_of_ble_eq_true rfl, Nat.le_of_ble_eq_true rfl⟩ (fun v_ w_ H locs hpost hP hD hS => ?_)
          obtain ⟨rfl, rfl⟩ := hpost
          have hP : va_P E.1 vwCl (o1W E ca ra ao (va_up C 5 3) sh so sa ln L Cc) H := hP
          have hD : va_D A (o1W E ca ra ao (va_up C 5 3) sh so sa ln L Cc) := hD
          refine W.eq (g2 := F0 m 102 ls [.int ((-10) - nI 3)]) rfl ?_
          exact rw_i hC rfl hP hD hS (by rw [if_pos (by rw [c_4]; rfl)]; exact ⟨rfl, rfl⟩) dX11_copy_102 (Nat.le_of_ble_eq_true rfl) (Nat.le_of_ble_eq_true rfl)
        · -- f 85
          have hh1 := c_4
          refine lv_aload hx hb dX11_copy_85 (lv_at hl 0 rfl) ?_
          refine lv_iload hx hb dX11_copy_87 (lv_at hl 6 rfl) ?_
          refine lv_iload hx hb dX11_copy_89 (lv_at hl 7 rfl) ?_
          refine cV_r (rest := []) hC (k_has l E so sa ln L Cc hL a4 a5) kw_160 iy_X7_has ⟨Nat.le_of_ble_eq_true rfl, Nat.le_of_ble_eq_true rfl⟩ ⟨rfl, rfl⟩ hK (va_P_r (X := osW E ca ra ao (va_up C 5 0) sh) hP) (va_recv hK hP (ci := 5) (q0 := 2) rfl rfl) rfl hl.1 rfl (Nat.le_of_ble_eq_true rfl) dX11_copy_91 ⟨Nat.le_of_ble_eq_true rfl, Nat.le_of_ble_eq_true rfl⟩ ?_
          refine W.eq (g2 := F0 m 94 ls [.int (bI (hasR a4 a5 L))]) rfl ?_
          refine b_if_ne (tgt := 103) hx hb dX11_copy_94 (by decide) (fun c_5 => ?_) (fun c_5 => ?_)
          · -- t 103
            have hh2 := c_5
            refine lv_aload hx hb dX11_copy_103 (lv_at hl 1 rfl) ?_
            refine va_get (D := E.1) (ci := 5) (v := .ref sa) (C := RX7) (T := TX7) (N := 2) hx hb hts iX7 hown hK hP 2 rfl rfl 1 (by decide) (hts _ kw_626) (fun _ h9 => h9) rfl dX11_copy_105 ?_
            refine lv_iload_n hx hb dX11_copy_108 rfl (lv_at hl 4 rfl) ?_
            refine lv_aload hx hb dX11_copy_109 (lv_at hl 0 rfl) ?_
            refine va_get (D := E.1) (ci := 5) (v := .ref sa) (C := RX7) (T := TX7) (N := 2) hx hb hts iX7 hown hK hP 2 rfl rfl 1 (by decide) (hts _ kw_626) (fun _ h9 => h9) rfl dX11_copy_111 ?_
            refine lv_iload hx hb dX11_copy_114 (lv_at hl 6 rfl) ?_
            refine lv_iload hx hb dX11_copy_116 (lv_at hl 7 rfl) ?_
            obtain ⟨hz1, hz2, hz3⟩ := of_decide_eq_true hh1
            obtain ⟨hy1, hy2, hy3⟩ := of_decide_eq_true hh2
            refine va_copyi hx hb (by rw [hml, hl.1]) hown (hts _ kw_657) (hts _ kw_659) (hts _ kw_658) (hts _ kw_17) hK hP hD hS 3 3 1 1 (f := Cc) (g := Cc) rfl rfl rfl rfl rfl hz1 hy1 hz2 hz3 hy3 (fun _ _ => rfl) (Nat.le_of_ble_eq_true rfl) (show 0 + _ ≤ _ from Nat.le_of_ble_eq_true rfl) dX11_copy_118 (fun H locs hP hD hS => ?_)
            have hP : va_P E.1 vwCl (o1W E ca ra ao (va_up C 5 0) sh so sa ln L (va_cpy Cc Cc a2.toNatClampNeg a4.toNatClampNeg a5.toNatClampNeg)) H := hP
            have hD : va_D A (o1W E ca ra ao (va_up C 5 0) sh so sa ln L (va_cpy Cc Cc a2.toNatClampNeg a4.toNatClampNeg a5.toNatClampNeg)) := hD
            refine lv_iload hx hb dX11_copy_121 (lv_at hl 7 rfl) ?_
            exact rw_i hC rfl hP hD hS (by rw [if_neg (by rw [hh1, hh2]; decide)]; exact ⟨rfl, rfl⟩) dX11_copy_123 (Nat.le_of_ble_eq_true rfl) (Nat.le_of_ble_eq_true rfl)
          · -- f 97
            refine lv_aload_n hx hb dX11_copy_97 rfl (lv_at hl 2 rfl) ?_
            refine lv_iconst (v := nI 3) hx hb dX11_copy_98 (by decide) ?_
            refine cV_wr (X := []) (Y := osC E (ca 1) sh :: shW E so sa ln L Cc) (rest := []) hC (k_faulted l E ca ra ao (va_up C 5 0) 3 _) kw_156 iy_X11_faulted ⟨Nat.le_of_ble_eq_true rfl, Nat.le_of_ble_eq_true rfl⟩ ⟨rfl, rfl⟩ hK hP hD hS hA rfl (va_recv hK hP (ci := 9) (q0 := 0) rfl rfl) rfl hl.1 rfl (Nat.le_of_ble_eq_true rfl) dX11_copy_99 ⟨Nat.le_of_ble_eq_true rfl, Nat.le_of_ble_eq_true rfl⟩ (fun v_ w_ H locs hpost hP hD hS => ?_)
            obtain ⟨rfl, rfl⟩ := hpost
            have hP : va_P E.1 vwCl (o1W E ca ra ao (va_up C 5 3) sh so sa ln L Cc) H := hP
            have hD : va_D A (o1W E ca ra ao (va_up C 5 3) sh so sa ln L Cc) := hD
            refine W.eq (g2 := F0 m 102 ls [.int ((-10) - nI 3)]) rfl ?_
            exact rw_i hC rfl hP hD hS (by rw [if_pos (by rw [c_5, Bool.and_false])]; exact ⟨rfl, rfl⟩) dX11_copy_102 (Nat.le_of_ble_eq_true rfl) (Nat.le_of_ble_eq_true rfl)
      · -- f 68
        exact absurd rfl c_3
    · -- f 21
      rw [hik] at c_2; cases c_2
