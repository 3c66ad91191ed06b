set_option maxHeartbeats 4000000 in
set_option maxRecDepth 100000 in
theorem c_m_copy (l : Launch) (E : EE) (ad : Nat → Nat) (lk : Nat) (tr : Int32) (N : Nat → Nat) (X : Nat → Nat → Int32) (F G : Nat → Nat → Nat) (sz : Nat) (h60 : ∀ j, F 3 j ≤ 60) (a1 a2 a3 a4 a5 : Int32) : Wr l yX12_copy cX12_copy 10 (some .int) rm_X12_copy 0 0 E (mW E ad lk tr N X F G) sz [.ref (ad 0), .int a1, .int a2, .int a3, .int a4, .int a5] (fun v w1 => if isIn a1 (nI 0) (nI 3) = false then v = some (.int (-1)) ∧ w1 = mW E ad lk tr (va_up N 0 0) X F G else if isIn a3 (nI 0) (nI 3) = false then v = some (.int (-1)) ∧ w1 = mW E ad lk tr (va_up N 0 0) X F G else if X 2 a1.toNatClampNeg = -9 then v = some (.int ((-10) - nI 1)) ∧ w1 = mW E ad lk tr (va_up N 0 1) X F G else if X 2 a3.toNatClampNeg = -9 then v = some (.int ((-10) - nI 1)) ∧ w1 = mW E ad lk tr (va_up N 0 1) X F G else if ¬ X 2 a1.toNatClampNeg = X 2 a3.toNatClampNeg then v = some (.int ((-10) - nI 2)) ∧ w1 = mW E ad lk tr (va_up N 0 2) X F G else if (hasR a2 a5 (F 3 a1.toNatClampNeg) && hasR a4 a5 (F 3 a3.toNatClampNeg)) = false then v = some (.int ((-10) - nI 3)) ∧ w1 = mW E ad lk tr (va_up N 0 3) X F G else v = some (.int a5) ∧ w1 = mW E ad lk tr (va_up N 0 0) (va_up X 4 (cpyC (X 4) (60 * a1.toNatClampNeg + a2.toNatClampNeg) (60 * a3.toNatClampNeg + a4.toNatClampNeg) a5.toNatClampNeg)) F G) := by
  refine mk_wr (by decide) (Nat.le_of_ble_eq_true rfl) ?_
  intro p e s m args below meth c hC hin hK A hA hP hD hS ls hl
  obtain ⟨hx, hb, hr, hts, hown, hml, hlk, hN⟩ := id hC
  have hl : lv_has ls 10 [(0, .ref (ad 0)), (1, .int a1), (2, .int a2), (3, .int a3), (4, .int a4), (5, .int a5)] := hl
  obtain ⟨H, hH⟩ : ∃ z, z = s.heap := ⟨_, rfl⟩
  have hS : va_S A s.heap H [] := by rw [hH]; exact hS
  rw [← hH] at hP
  refine W_heap hH ?_
  obtain ⟨locs, hlo⟩ : ∃ z : List Loc, z = [] := ⟨_, rfl⟩
  rw [← hlo] at hS ⊢
  refine lv_aload_n hx hb dX12_copy_0 rfl (lv_at hl 0 rfl) ?_
  refine lv_iconst (v := nI 0) hx hb dX12_copy_1 (by decide) ?_
  refine va_put (D := E.1) (ci := 10) (v := .int (nI 0)) (ty := .int) (C := RX12) (T := TX12) (N := 30) hx hb hts iX12 tyX12 tyX12_ok nmX12 hown hK hP hD hS 0 rfl rfl 0 (by decide) (hts _ kw_739) (fun _ h9 => h9) rfl (by decide +kernel) rfl rfl (Nat.le_of_ble_eq_true rfl) dX12_copy_2 (fun H locs hP hD hS => ?_)
  have hP : va_P E.1 vwCl (mW E ad lk tr (va_up N 0 0) X F G) H := hP
  have hD : va_D A (mW E ad lk tr (va_up N 0 0) X F G) := hD
  refine lv_iload_n hx hb dX12_copy_5 rfl (lv_at hl 1 rfl) ?_
  refine cS_p (rest := []) hC (c_m_isSheet l a1) kw_834 sy_X12_isSheet ⟨Nat.le_of_ble_eq_true rfl, Nat.le_of_ble_eq_true rfl⟩ ⟨rfl, rfl⟩ rfl hl.1 rfl (Nat.le_of_ble_eq_true rfl) dX12_copy_6 ⟨Nat.le_of_ble_eq_true rfl, Nat.le_of_ble_eq_true rfl⟩ ?_
  refine b_if_eq (tgt := 19) hx hb dX12_copy_9 (by decide) (fun c_1 => ?_) (fun c_1 => ?_)
  · -- t 19
    refine lv_iconst (v := -1) hx hb dX12_copy_19 (by decide) ?_
    exact rw_i hC rfl hP hD hS (by rw [if_pos c_1]; exact ⟨rfl, rfl⟩) dX12_copy_20 (Nat.le_of_ble_eq_true rfl) (Nat.le_of_ble_eq_true rfl)
  · -- f 12
    obtain ⟨k, hk, rfl⟩ := isIn_nat (by decide) c_1
    have hck := nI_clamp (n := k) (by omega)
    have hl : lv_has ls 10 [(0, .ref (ad 0)), (1, .int (nI k)), (2, .int a2), (3, .int a3), (4, .int a4), (5, .int a5)] := hl
    have hLk := h60 k
    refine lv_iload_n hx hb dX12_copy_12 rfl (lv_at hl 3 rfl) ?_
    refine cS_p (rest := []) hC (c_m_isSheet l a3) kw_834 sy_X12_isSheet ⟨Nat.le_of_ble_eq_true rfl, Nat.le_of_ble_eq_true rfl⟩ ⟨rfl, rfl⟩ rfl hl.1 rfl (Nat.le_of_ble_eq_true rfl) dX12_copy_13 ⟨Nat.le_of_ble_eq_true rfl, Nat.le_of_ble_eq_true rfl⟩ ?_
    refine b_if_ne (tgt := 21) hx hb dX12_copy_16 (by decide) (fun c_2 => ?_) (fun c_2 => ?_)
    · -- t 21
      obtain ⟨o, ho, rfl⟩ := isIn_nat (by decide) c_2
      have hco := nI_clamp (n := o) (by omega)
      have hl : lv_has ls 10 [(0, .ref (ad 0)), (1, .int (nI k)), (2, .int a2), (3, .int (nI o)), (4, .int a4), (5, .int a5)] := hl
      have hLo := h60 o
      refine lv_aload_n hx hb dX12_copy_21 rfl (lv_at hl 0 rfl) ?_
      refine va_get (D := E.1) (ci := 10) (v := .ref (ad 2)) (C := RX12) (T := TX12) (N := 30) hx hb hts iX12 hown hK hP 0 rfl rfl 2 (by decide) (hts _ kw_741) (fun _ h9 => h9) rfl dX12_copy_22 ?_
      refine lv_iload_n hx hb dX12_copy_25 rfl (lv_at hl 1 rfl) ?_
      refine n_iald hx hb hK hP 1 rfl (by omega) (by decide) dX12_copy_26 ?_
      refine lv_bipush (v := -9) hx hb dX12_copy_27 (by decide) ?_
      refine lv_icmp_eq (tgt := 43) hx hb dX12_copy_29 (by decide) (fun c_3 => ?_) (fun c_3 => ?_)
      · -- t 43
        refine lv_aload_n hx hb dX12_copy_43 rfl (lv_at hl 0 rfl) ?_
        refine lv_iconst (v := nI 1) hx hb dX12_copy_44 (by decide) ?_
        refine cV_w0 (rest := []) hC (c_m_fails l E ad lk tr (va_up N 0 0) X F G H.size 1) kw_843 iy_X12_fails ⟨Nat.le_of_ble_eq_true rfl, Nat.le_of_ble_eq_true rfl⟩ ⟨rfl, rfl⟩ hK hP hD hS hA (va_recv hK hP (ci := 10) (q0 := 0) rfl rfl) rfl hl.1 rfl (Nat.le_of_ble_eq_true rfl) dX12_copy_45 ⟨Nat.le_of_ble_eq_true rfl, Nat.le_of_ble_eq_true rfl⟩ (fun v_ w_ H locs hpost hP hD hS => ?_)
        obtain ⟨rfl, rfl⟩ := hpost
        refine W.eq (g2 := F0 m 48 ls [.int ((-10) - nI 1)]) rfl ?_
        exact rw_i hC rfl hP hD hS (by rw [if_neg (by rw [c_1]; decide), if_neg (by rw [c_2]; decide), hck, hco, if_pos c_3]; exact ⟨rfl, rfl⟩) dX12_copy_48 (Nat.le_of_ble_eq_true rfl) (Nat.le_of_ble_eq_true rfl)
      · -- f 32
        refine lv_aload_n hx hb dX12_copy_32 rfl (lv_at hl 0 rfl) ?_
        refine va_get (D := E.1) (ci := 10) (v := .ref (ad 2)) (C := RX12) (T := TX12) (N := 30) hx hb hts iX12 hown hK hP 0 rfl rfl 2 (by decide) (hts _ kw_741) (fun _ h9 => h9) rfl dX12_copy_33 ?_
        refine lv_iload_n hx hb dX12_copy_36 rfl (lv_at hl 3 rfl) ?_
        refine n_iald hx hb hK hP 1 rfl (by omega) (by decide) dX12_copy_37 ?_
        refine lv_bipush (v := -9) hx hb dX12_copy_38 (by decide) ?_
        refine lv_icmp_ne (tgt := 49) hx hb dX12_copy_40 (by decide) (fun c_4 => ?_) (fun c_4 => ?_)
        · -- t 49
          refine lv_aload_n hx hb dX12_copy_49 rfl (lv_at hl 0 rfl) ?_
          refine va_get (D := E.1) (ci := 10) (v := .ref (ad 2)) (C := RX12) (T := TX12) (N := 30) hx hb hts iX12 hown hK hP 0 rfl rfl 2 (by decide) (hts _ kw_741) (fun _ h9 => h9) rfl dX12_copy_50 ?_
          refine lv_iload_n hx hb dX12_copy_53 rfl (lv_at hl 1 rfl) ?_
          refine n_iald hx hb hK hP 1 rfl (by omega) (by decide) dX12_copy_54 ?_
          refine lv_aload_n hx hb dX12_copy_55 rfl (lv_at hl 0 rfl) ?_
          refine va_get (D := E.1) (ci := 10) (v := .ref (ad 2)) (C := RX12) (T := TX12) (N := 30) hx hb hts iX12 hown hK hP 0 rfl rfl 2 (by decide) (hts _ kw_741) (fun _ h9 => h9) rfl dX12_copy_56 ?_
          refine lv_iload_n hx hb dX12_copy_59 rfl (lv_at hl 3 rfl) ?_
          refine n_iald hx hb hK hP 1 rfl (by omega) (by decide) dX12_copy_60 ?_
          refine lv_icmp_eq (tgt := 70) hx hb dX12_copy_61 (by decide) (fun c_5 => ?_) (fun c_5 => ?_)
          · -- t 70
            refine lv_iload_n hx hb dX12_copy_70 rfl (lv_at hl 2 rfl) ?_
            refine lv_if_lt (tgt := 109) hx hb dX12_copy_71 (by decide) (fun c_6 => ?_) (fun c_6 => ?_)
            · -- t 109
              refine lv_iconst (v := nI 0) hx hb dX12_copy_109 (by decide) ?_
              refine lv_istore (lv' := [(6, .int (nI 0)), (0, .ref (ad 0)), (1, .int (nI k)), (2, .int a2), (3, .int (nI o)), (4, .int a4), (5, .int a5)]) hx hb dX12_copy_110 hl (by decide) rfl (fun ls hl => ?_)
              refine lv_iload hx hb dX12_copy_112 (lv_at hl 0 rfl) ?_
              refine n_if_eq (tgt := 144) hx hb (by omega) dX12_copy_114 (by decide) (fun _ => ?_) (fun c_7 => absurd rfl c_7)
              refine lv_aload_n hx hb dX12_copy_144 rfl (lv_at hl 1 rfl) ?_
              refine lv_iconst (v := nI 3) hx hb dX12_copy_145 (by decide) ?_
              refine cV_w0 (rest := []) hC (c_m_fails l E ad lk tr (va_up N 0 0) X F G H.size 3) kw_843 iy_X12_fails ⟨Nat.le_of_ble_eq_true rfl, Nat.le_of_ble_eq_true rfl⟩ ⟨rfl, rfl⟩ hK hP hD hS hA (va_recv hK hP (ci := 10) (q0 := 0) rfl rfl) rfl hl.1 rfl (Nat.le_of_ble_eq_true rfl) dX12_copy_146 ⟨Nat.le_of_ble_eq_true rfl, Nat.le_of_ble_eq_true rfl⟩ (fun v_ w_ H locs hpost hP hD hS => ?_)
              obtain ⟨rfl, rfl⟩ := hpost
              refine W.eq (g2 := F0 m 149 ls [.int ((-10) - nI 3)]) rfl ?_
              exact rw_i hC rfl hP hD hS (by rw [if_neg (by rw [c_1]; decide), if_neg (by rw [c_2]; decide), hck, hco, if_neg c_3, if_neg c_4, if_neg (fun h => h c_5), if_pos (by rw [hasR_f1 c_6]; rfl)]; exact ⟨rfl, rfl⟩) dX12_copy_149 (Nat.le_of_ble_eq_true rfl) (Nat.le_of_ble_eq_true rfl)
            · -- f 74
              obtain ⟨i, hi, rfl⟩ := nI_of c_6
              have hci := nI_clamp (n := i) (by omega)
              have hl : lv_has ls 10 [(0, .ref (ad 0)), (1, .int (nI k)), (2, .int (nI i)), (3, .int (nI o)), (4, .int a4), (5, .int a5)] := hl
              refine lv_iload hx hb dX12_copy_74 (lv_at hl 4 rfl) ?_
              refine lv_if_lt (tgt := 109) hx hb dX12_copy_76 (by decide) (fun c_8 => ?_) (fun c_8 => ?_)
              · -- t 109
                refine lv_iconst (v := nI 0) hx hb dX12_copy_109 (by decide) ?_
                refine lv_istore (lv' := [(6, .int (nI 0)), (0, .ref (ad 0)), (1, .int (nI k)), (2, .int (nI i)), (3, .int (nI o)), (4, .int a4), (5, .int a5)]) hx hb dX12_copy_110 hl (by decide) rfl (fun ls hl => ?_)
                refine lv_iload hx hb dX12_copy_112 (lv_at hl 0 rfl) ?_
                refine n_if_eq (tgt := 144) hx hb (by omega) dX12_copy_114 (by decide) (fun _ => ?_) (fun c_9 => absurd rfl c_9)
                refine lv_aload_n hx hb dX12_copy_144 rfl (lv_at hl 1 rfl) ?_
                refine lv_iconst (v := nI 3) hx hb dX12_copy_145 (by decide) ?_
                refine cV_w0 (rest := []) hC (c_m_fails l E ad lk tr (va_up N 0 0) X F G H.size 3) kw_843 iy_X12_fails ⟨Nat.le_of_ble_eq_true rfl, Nat.le_of_ble_eq_true rfl⟩ ⟨rfl, rfl⟩ hK hP hD hS hA (va_recv hK hP (ci := 10) (q0 := 0) rfl rfl) rfl hl.1 rfl (Nat.le_of_ble_eq_true rfl) dX12_copy_146 ⟨Nat.le_of_ble_eq_true rfl, Nat.le_of_ble_eq_true rfl⟩ (fun v_ w_ H locs hpost hP hD hS => ?_)
                obtain ⟨rfl, rfl⟩ := hpost
                refine W.eq (g2 := F0 m 149 ls [.int ((-10) - nI 3)]) rfl ?_
                exact rw_i hC rfl hP hD hS (by rw [if_neg (by rw [c_1]; decide), if_neg (by rw [c_2]; decide), hck, hco, if_neg c_3, if_neg c_4, if_neg (fun h => h c_5), if_pos (by rw [hasR_f1 (i := a4) c_8]; simp)]; exact ⟨rfl, rfl⟩) dX12_copy_149 (Nat.le_of_ble_eq_true rfl) (Nat.le_of_ble_eq_true rfl)
              · -- f 79
                obtain ⟨j, hj, rfl⟩ := nI_of c_8
                have hcj := nI_clamp (n := j) (by omega)
                have hl : lv_has ls 10 [(0, .ref (ad 0)), (1, .int (nI k)), (2, .int (nI i)), (3, .int (nI o)), (4, .int (nI j)), (5, .int a5)] := hl
                refine lv_iload hx hb dX12_copy_79 (lv_at hl 5 rfl) ?_
                refine lv_if_lt (tgt := 109) hx hb dX12_copy_81 (by decide) (fun c_10 => ?_) (fun c_10 => ?_)
                · -- t 109
                  refine lv_iconst (v := nI 0) hx hb dX12_copy_109 (by decide) ?_
                  refine lv_istore (lv' := [(6, .int (nI 0)), (0, .ref (ad 0)), (1, .int (nI k)), (2, .int (nI i)), (3, .int (nI o)), (4, .int (nI j)), (5, .int a5)]) hx hb dX12_copy_110 hl (by decide) rfl (fun ls hl => ?_)
                  refine lv_iload hx hb dX12_copy_112 (lv_at hl 0 rfl) ?_
                  refine n_if_eq (tgt := 144) hx hb (by omega) dX12_copy_114 (by decide) (fun _ => ?_) (fun c_11 => absurd rfl c_11)
                  refine lv_aload_n hx hb dX12_copy_144 rfl (lv_at hl 1 rfl) ?_
                  refine lv_iconst (v := nI 3) hx hb dX12_copy_145 (by decide) ?_
                  refine cV_w0 (rest := []) hC (c_m_fails l E ad lk tr (va_up N 0 0) X F G H.size 3) kw_843 iy_X12_fails ⟨Nat.le_of_ble_eq_true rfl, Nat.le_of_ble_eq_true rfl⟩ ⟨rfl, rfl⟩ hK hP hD hS hA (va_recv hK hP (ci := 10) (q0 := 0) rfl rfl) rfl hl.1 rfl (Nat.le_of_ble_eq_true rfl) dX12_copy_146 ⟨Nat.le_of_ble_eq_true rfl, Nat.le_of_ble_eq_true rfl⟩ (fun v_ w_ H locs hpost hP hD hS => ?_)
                  obtain ⟨rfl, rfl⟩ := hpost
                  refine W.eq (g2 := F0 m 149 ls [.int ((-10) - nI 3)]) rfl ?_
                  exact rw_i hC rfl hP hD hS (by rw [if_neg (by rw [c_1]; decide), if_neg (by rw [c_2]; decide), hck, hco, if_neg c_3, if_neg c_4, if_neg (fun h => h c_5), if_pos (by rw [hasR_f2 c_10]; rfl)]; exact ⟨rfl, rfl⟩) dX12_copy_149 (Nat.le_of_ble_eq_true rfl) (Nat.le_of_ble_eq_true rfl)
                · -- f 84
                  obtain ⟨n5, hn5, rfl⟩ := nI_of c_10
                  have hcn5 := nI_clamp (n := n5) (by omega)
                  have hl : lv_has ls 10 [(0, .ref (ad 0)), (1, .int (nI k)), (2, .int (nI i)), (3, .int (nI o)), (4, .int (nI j)), (5, .int (nI n5))] := hl
                  refine lv_iload_n hx hb dX12_copy_84 rfl (lv_at hl 2 rfl) ?_
                  refine lv_aload_n hx hb dX12_copy_85 rfl (lv_at hl 0 rfl) ?_
                  refine va_get (D := E.1) (ci := 10) (v := .ref (ad 3)) (C := RX12) (T := TX12) (N := 30) hx hb hts iX12 hown hK hP 0 rfl rfl 3 (by decide) (hts _ kw_742) (fun _ h9 => h9) rfl dX12_copy_86 ?_
                  refine lv_iload_n hx hb dX12_copy_89 rfl (lv_at hl 1 rfl) ?_
                  refine n_iald hx hb hK hP 2 rfl (by omega) (by decide) dX12_copy_90 ?_
                  refine n_icmp_gt (tgt := 109) hx hb (by omega) (by omega) dX12_copy_91 (by decide) (fun c_12 => ?_) (fun c_12 => ?_)
                  · -- t 109
                    refine lv_iconst (v := nI 0) hx hb dX12_copy_109 (by decide) ?_
                    refine lv_istore (lv' := [(6, .int (nI 0)), (0, .ref (ad 0)), (1, .int (nI k)), (2, .int (nI i)), (3, .int (nI o)), (4, .int (nI j)), (5, .int (nI n5))]) hx hb dX12_copy_110 hl (by decide) rfl (fun ls hl => ?_)
                    refine lv_iload hx hb dX12_copy_112 (lv_at hl 0 rfl) ?_
                    refine n_if_eq (tgt := 144) hx hb (by omega) dX12_copy_114 (by decide) (fun _ => ?_) (fun c_13 => absurd rfl c_13)
                    refine lv_aload_n hx hb dX12_copy_144 rfl (lv_at hl 1 rfl) ?_
                    refine lv_iconst (v := nI 3) hx hb dX12_copy_145 (by decide) ?_
                    refine cV_w0 (rest := []) hC (c_m_fails l E ad lk tr (va_up N 0 0) X F G H.size 3) kw_843 iy_X12_fails ⟨Nat.le_of_ble_eq_true rfl, Nat.le_of_ble_eq_true rfl⟩ ⟨rfl, rfl⟩ hK hP hD hS hA (va_recv hK hP (ci := 10) (q0 := 0) rfl rfl) rfl hl.1 rfl (Nat.le_of_ble_eq_true rfl) dX12_copy_146 ⟨Nat.le_of_ble_eq_true rfl, Nat.le_of_ble_eq_true rfl⟩ (fun v_ w_ H locs hpost hP hD hS => ?_)
                    obtain ⟨rfl, rfl⟩ := hpost
                    refine W.eq (g2 := F0 m 149 ls [.int ((-10) - nI 3)]) rfl ?_
                    exact rw_i hC rfl hP hD hS (by rw [if_neg (by rw [c_1]; decide), if_neg (by rw [c_2]; decide), hck, hco, if_neg c_3, if_neg c_4, if_neg (fun h => h c_5), if_pos (by rw [hasR_n hi hn5, hasR_n hj hn5]; simp; omega)]; exact ⟨rfl, rfl⟩) dX12_copy_149 (Nat.le_of_ble_eq_true rfl) (Nat.le_of_ble_eq_true rfl)
                  · -- f 94
                    refine lv_iload hx hb dX12_copy_94 (lv_at hl 4 rfl) ?_
                    refine lv_aload_n hx hb dX12_copy_96 rfl (lv_at hl 0 rfl) ?_
                    refine va_get (D := E.1) (ci := 10) (v := .ref (ad 3)) (C := RX12) (T := TX12) (N := 30) hx hb hts iX12 hown hK hP 0 rfl rfl 3 (by decide) (hts _ kw_742) (fun _ h9 => h9) rfl dX12_copy_97 ?_
                    refine lv_iload_n hx hb dX12_copy_100 rfl (lv_at hl 3 rfl) ?_
                    refine n_iald hx hb hK hP 2 rfl (by omega) (by decide) dX12_copy_101 ?_
                    refine n_icmp_gt (tgt := 109) hx hb (by omega) (by omega) dX12_copy_102 (by decide) (fun c_14 => ?_) (fun c_14 => ?_)
                    · -- t 109
                      refine lv_iconst (v := nI 0) hx hb dX12_copy_109 (by decide) ?_
                      refine lv_istore (lv' := [(6, .int (nI 0)), (0, .ref (ad 0)), (1, .int (nI k)), (2, .int (nI i)), (3, .int (nI o)), (4, .int (nI j)), (5, .int (nI n5))]) hx hb dX12_copy_110 hl (by decide) rfl (fun ls hl => ?_)
                      refine lv_iload hx hb dX12_copy_112 (lv_at hl 0 rfl) ?_
                      refine n_if_eq (tgt := 144) hx hb (by omega) dX12_copy_114 (by decide) (fun _ => ?_) (fun c_15 => absurd rfl c_15)
                      refine lv_aload_n hx hb dX12_copy_144 rfl (lv_at hl 1 rfl) ?_
                      refine lv_iconst (v := nI 3) hx hb dX12_copy_145 (by decide) ?_
                      refine cV_w0 (rest := []) hC (c_m_fails l E ad lk tr (va_up N 0 0) X F G H.size 3) kw_843 iy_X12_fails ⟨Nat.le_of_ble_eq_true rfl, Nat.le_of_ble_eq_true rfl⟩ ⟨rfl, rfl⟩ hK hP hD hS hA (va_recv hK hP (ci := 10) (q0 := 0) rfl rfl) rfl hl.1 rfl (Nat.le_of_ble_eq_true rfl) dX12_copy_146 ⟨Nat.le_of_ble_eq_true rfl, Nat.le_of_ble_eq_true rfl⟩ (fun v_ w_ H locs hpost hP hD hS => ?_)
                      obtain ⟨rfl, rfl⟩ := hpost
                      refine W.eq (g2 := F0 m 149 ls [.int ((-10) - nI 3)]) rfl ?_
                      exact rw_i hC rfl hP hD hS (by rw [if_neg (by rw [c_1]; decide), if_neg (by rw [c_2]; decide), hck, hco, if_neg c_3, if_neg c_4, if_neg (fun h => h c_5), if_pos (by rw [hasR_n hi hn5, hasR_n hj hn5]; simp; omega)]; exact ⟨rfl, rfl⟩) dX12_copy_149 (Nat.le_of_ble_eq_true rfl) (Nat.le_of_ble_eq_true rfl)
                    · -- f 105
                      refine lv_iconst (v := nI 1) hx hb dX12_copy_105 (by decide) ?_
                      refine lv_goto (tgt := 110) hx hb dX12_copy_106 (by decide) ?_
                      refine lv_istore (lv' := [(6, .int (nI 1)), (0, .ref (ad 0)), (1, .int (nI k)), (2, .int (nI i)), (3, .int (nI o)), (4, .int (nI j)), (5, .int (nI n5))]) hx hb dX12_copy_110 hl (by decide) rfl (fun ls hl => ?_)
                      refine lv_iload hx hb dX12_copy_112 (lv_at hl 0 rfl) ?_
                      refine n_if_eq (tgt := 144) hx hb (by omega) dX12_copy_114 (by decide) (fun c_16 => absurd c_16 (by decide)) (fun _ => ?_)
                      refine lv_iload hx hb dX12_copy_117 (lv_at hl 6 rfl) ?_
                      refine lv_aload_n hx hb dX12_copy_119 rfl (lv_at hl 1 rfl) ?_
                      refine va_get (D := E.1) (ci := 10) (v := .ref (ad 3)) (C := RX12) (T := TX12) (N := 30) hx hb hts iX12 hown hK hP 0 rfl rfl 3 (by decide) (hts _ kw_742) (fun _ h9 => h9) rfl dX12_copy_120 ?_
                      refine lv_iload_n hx hb dX12_copy_123 rfl (lv_at hl 2 rfl) ?_
                      refine n_iald hx hb hK hP 2 rfl (by omega) (by decide) dX12_copy_124 ?_
                      refine lv_iload_n hx hb dX12_copy_125 rfl (lv_at hl 3 rfl) ?_
                      refine n_isub hx hb (by omega) dX12_copy_126 ?_
                      refine n_icmp_gt (tgt := 144) hx hb (by omega) (by omega) dX12_copy_127 (by decide) (fun c_17 => ?_) (fun c_17 => ?_)
                      · -- t 144
                        refine lv_aload_n hx hb dX12_copy_144 rfl (lv_at hl 1 rfl) ?_
                        refine lv_iconst (v := nI 3) hx hb dX12_copy_145 (by decide) ?_
                        refine cV_w0 (rest := []) hC (c_m_fails l E ad lk tr (va_up N 0 0) X F G H.size 3) kw_843 iy_X12_fails ⟨Nat.le_of_ble_eq_true rfl, Nat.le_of_ble_eq_true rfl⟩ ⟨rfl, rfl⟩ hK hP hD hS hA (va_recv hK hP (ci := 10) (q0 := 0) rfl rfl) rfl hl.1 rfl (Nat.le_of_ble_eq_true rfl) dX12_copy_146 ⟨Nat.le_of_ble_eq_true rfl, Nat.le_of_ble_eq_true rfl⟩ (fun v_ w_ H locs hpost hP hD hS => ?_)
                        obtain ⟨rfl, rfl⟩ := hpost
                        refine W.eq (g2 := F0 m 149 ls [.int ((-10) - nI 3)]) rfl ?_
                        exact rw_i hC rfl hP hD hS (by rw [if_neg (by rw [c_1]; decide), if_neg (by rw [c_2]; decide), hck, hco, if_neg c_3, if_neg c_4, if_neg (fun h => h c_5), if_pos (by rw [hasR_n hi hn5, hasR_n hj hn5]; simp; omega)]; exact ⟨rfl, rfl⟩) dX12_copy_149 (Nat.le_of_ble_eq_true rfl) (Nat.le_of_ble_eq_true rfl)
                      · -- f 130
                        refine lv_iload hx hb dX12_copy_130 (lv_at hl 6 rfl) ?_
                        refine lv_aload_n hx hb dX12_copy_132 rfl (lv_at hl 1 rfl) ?_
                        refine va_get (D := E.1) (ci := 10) (v := .ref (ad 3)) (C := RX12) (T := TX12) (N := 30) hx hb hts iX12 hown hK hP 0 rfl rfl 3 (by decide) (hts _ kw_742) (fun _ h9 => h9) rfl dX12_copy_133 ?_
                        refine lv_iload_n hx hb dX12_copy_136 rfl (lv_at hl 4 rfl) ?_
                        refine n_iald hx hb hK hP 2 rfl (by omega) (by decide) dX12_copy_137 ?_
                        refine lv_iload hx hb dX12_copy_138 (lv_at hl 5 rfl) ?_
                        refine n_isub hx hb (by omega) dX12_copy_140 ?_
                        refine n_icmp_le (tgt := 150) hx hb (by omega) (by omega) dX12_copy_141 (by decide) (fun c_18 => ?_) (fun c_18 => ?_)
                        · -- t 150
                          refine lv_iload_n hx hb dX12_copy_150 rfl (lv_at hl 3 rfl) ?_
                          refine lv_iload hx hb dX12_copy_151 (lv_at hl 5 rfl) ?_
                          refine n_icmp_ge (tgt := 160) hx hb (by omega) (by omega) dX12_copy_153 (by decide) (fun c_19 => ?_) (fun c_19 => ?_)
                          · -- t 160
                            refine lv_iconst (v := nI 0) hx hb dX12_copy_160 (by decide) ?_
                            refine lv_istore (lv' := [(7, .int (nI 0)), (6, .int (nI 1)), (0, .ref (ad 0)), (1, .int (nI k)), (2, .int (nI i)), (3, .int (nI o)), (4, .int (nI j)), (5, .int (nI n5))]) hx hb dX12_copy_161 hl (by decide) rfl (fun ls hl => ?_)
                            refine lv_iconst (v := nI 0) hx hb dX12_copy_163 (by decide) ?_
                            refine lv_istore (lv' := [(8, .int (nI 0)), (7, .int (nI 0)), (6, .int (nI 1)), (0, .ref (ad 0)), (1, .int (nI k)), (2, .int (nI i)), (3, .int (nI o)), (4, .int (nI j)), (5, .int (nI n5))]) hx hb dX12_copy_164 hl (by decide) rfl (fun ls hl => ?_)
                            have lp_20 : ∀ (n_lp_20 : Nat) (q : Nat) (hq : q ≤ n5), n5 - q < n_lp_20 → ∀ (H : Heap) (locs : List Loc) (hP : va_P E.1 vwCl (mW E ad lk tr (va_up N 0 0) (va_up X 4 (cpyC (X 4) (60 * k + i) (60 * o + j) q)) F G) H) (hD : va_D A (mW E ad lk tr (va_up N 0 0) (va_up X 4 (cpyC (X 4) (60 * k + i) (60 * o + j) q)) F G)) (hS : va_S A s.heap H locs) (ls : Array Slot), lv_has ls 10 [(0, .ref (ad 0)), (1, .int (nI k)), (2, .int (nI i)), (3, .int (nI o)), (4, .int (nI j)), (5, .int (nI n5)), (7, .int (nI 0)), (8, .int (nI q))] → W p l e rm_X12_copy s m args below meth c H locs 0 0 (MQ below (wr_Q E A (fun v w1 => if isIn (nI k) (nI 0) (nI 3) = false then v = some (.int (-1)) ∧ w1 = mW E ad lk tr (va_up N 0 0) X F G else if isIn (nI o) (nI 0) (nI 3) = false then v = some (.int (-1)) ∧ w1 = mW E ad lk tr (va_up N 0 0) X F G else if X 2 (nI k).toNatClampNeg = -9 then v = some (.int ((-10) - nI 1)) ∧ w1 = mW E ad lk tr (va_up N 0 1) X F G else if X 2 (nI o).toNatClampNeg = -9 then v = some (.int ((-10) - nI 1)) ∧ w1 = mW E ad lk tr (va_up N 0 1) X F G else if ¬ X 2 (nI k).toNatClampNeg = X 2 (nI o).toNatClampNeg then v = some (.int ((-10) - nI 2)) ∧ w1 = mW E ad lk tr (va_up N 0 2) X F G else if (hasR (nI i) (nI n5) (F 3 (nI k).toNatClampNeg) && hasR (nI j) (nI n5) (F 3 (nI o).toNatClampNeg)) = false then v = some (.int ((-10) - nI 3)) ∧ w1 = mW E ad lk tr (va_up N 0 3) X F G else v = some (.int (nI n5)) ∧ w1 = mW E ad lk tr (va_up N 0 0) (va_up X 4 (cpyC (X 4) (60 * (nI k).toNatClampNeg + (nI i).toNatClampNeg) (60 * (nI o).toNatClampNeg + (nI j).toNatClampNeg) (nI n5).toNatClampNeg)) F G)) args s 0 0 A) (F0 m 166 ls []) := by
                              intro n_lp_20
                              induction n_lp_20 with
                              | zero => intro q hq; intro hm_lp_20; exact absurd hm_lp_20 (Nat.not_lt_zero _)
                              | succ n_lp_20 ih_lp_20 =>
                                intro q hq hm_lp_20 H locs hP hD hS ls hl
                                refine lv_iload hx hb dX12_copy_166 (lv_at hl 7 rfl) ?_
                                refine lv_iload hx hb dX12_copy_168 (lv_at hl 5 rfl) ?_
                                refine n_icmp_ge (tgt := 227) hx hb (by omega) (by omega) dX12_copy_170 (by decide) (fun c_21 => ?_) (fun c_21 => ?_)
                                · -- t 227
                                  have hq5 : q = n5 := by omega
                                  rw [hq5] at hP hD
                                  refine lv_iload hx hb dX12_copy_227 (lv_at hl 5 rfl) ?_
                                  exact rw_i hC rfl hP hD hS (by rw [if_neg (by rw [c_1]; decide), if_neg (by rw [c_2]; decide), hck, hco, if_neg c_3, if_neg c_4, if_neg (fun h => h c_5), if_neg (by rw [hasR_n hi hn5, hasR_n hj hn5]; simp; omega), hci, hcj, hcn5]; exact ⟨rfl, rfl⟩) dX12_copy_229 (Nat.le_of_ble_eq_true rfl) (Nat.le_of_ble_eq_true rfl)
                                · -- f 173
                                  refine lv_iload hx hb dX12_copy_173 (lv_at hl 6 rfl) ?_
                                  refine n_if_eq (tgt := 188) hx hb (by omega) dX12_copy_175 (by decide) (fun _ => ?_) (fun c_22 => absurd rfl c_22)
                                  refine lv_iload hx hb dX12_copy_188 (lv_at hl 7 rfl) ?_
                                  refine lv_istore (lv' := [(9, .int (nI q)), (0, .ref (ad 0)), (1, .int (nI k)), (2, .int (nI i)), (3, .int (nI o)), (4, .int (nI j)), (5, .int (nI n5)), (7, .int (nI 0)), (8, .int (nI q))]) hx hb dX12_copy_190 hl (by decide) rfl (fun ls hl => ?_)
                                  refine lv_aload_n hx hb dX12_copy_192 rfl (lv_at hl 1 rfl) ?_
                                  refine va_get (D := E.1) (ci := 10) (v := .ref (ad 4)) (C := RX12) (T := TX12) (N := 30) hx hb hts iX12 hown hK hP 0 rfl rfl 4 (by decide) (hts _ kw_743) (fun _ h9 => h9) rfl dX12_copy_193 ?_
                                  refine lv_bipush (v := nI 60) hx hb dX12_copy_196 (by decide) ?_
                                  refine lv_iload_n hx hb dX12_copy_198 rfl (lv_at hl 4 rfl) ?_
                                  refine n_imul hx hb dX12_copy_199 ?_
                                  refine lv_iload hx hb dX12_copy_200 (lv_at hl 5 rfl) ?_
                                  refine n_iadd hx hb dX12_copy_202 ?_
                                  refine lv_iload hx hb dX12_copy_203 (lv_at hl 0 rfl) ?_
                                  refine n_iadd hx hb dX12_copy_205 ?_
                                  refine lv_aload_n hx hb dX12_copy_206 rfl (lv_at hl 1 rfl) ?_
                                  refine va_get (D := E.1) (ci := 10) (v := .ref (ad 4)) (C := RX12) (T := TX12) (N := 30) hx hb hts iX12 hown hK hP 0 rfl rfl 4 (by decide) (hts _ kw_743) (fun _ h9 => h9) rfl dX12_copy_207 ?_
                                  refine lv_bipush (v := nI 60) hx hb dX12_copy_210 (by decide) ?_
                                  refine lv_iload_n hx hb dX12_copy_212 rfl (lv_at hl 2 rfl) ?_
                                  refine n_imul hx hb dX12_copy_213 ?_
                                  refine lv_iload_n hx hb dX12_copy_214 rfl (lv_at hl 3 rfl) ?_
                                  refine n_iadd hx hb dX12_copy_215 ?_
                                  refine lv_iload hx hb dX12_copy_216 (lv_at hl 0 rfl) ?_
                                  refine n_iadd hx hb dX12_copy_218 ?_
                                  refine n_iald hx hb hK hP 3 rfl (by omega) (by decide) dX12_copy_219 ?_
                                  refine n_iastR hx hb hK hP hD hS 3 rfl (by omega) (by decide) dX12_copy_220 (fun H locs hP hD hS => ?_)
                                  have hP : va_P E.1 vwCl (mW E ad lk tr (va_up N 0 0) (va_up X 4 (upd (cpyC (X 4) (60 * k + i) (60 * o + j) q) (((60 * o) + j) + q) ((cpyC (X 4) (60 * k + i) (60 * o + j) q) (((60 * k) + i) + q)))) F G) H := hP
                                  have hD : va_D A (mW E ad lk tr (va_up N 0 0) (va_up X 4 (upd (cpyC (X 4) (60 * k + i) (60 * o + j) q) (((60 * o) + j) + q) ((cpyC (X 4) (60 * k + i) (60 * o + j) q) (((60 * k) + i) + q)))) F G) := hD
                                  refine lv_iinc (v := nI (q + 1)) (lv' := [(8, .int (nI (q + 1))), (9, .int (nI q)), (0, .ref (ad 0)), (1, .int (nI k)), (2, .int (nI i)), (3, .int (nI o)), (4, .int (nI j)), (5, .int (nI n5)), (7, .int (nI 0))]) hx hb dX12_copy_221 hl (k := 8) rfl (ii_1 _) (by decide) rfl (fun ls hl => ?_)
                                  refine lv_goto (tgt := 166) hx hb dX12_copy_224 (by decide) ?_
                                  exact ih_lp_20 (q + 1) (by omega) (by omega) H locs (by rw [← cpD_s (X 4) (n := n5) (q := q) (by omega) (by omega)]; exact hP) (by rw [← cpD_s (X 4) (n := n5) (q := q) (by omega) (by omega)]; exact hD) hS ls (lv_sub hl [2, 3, 4, 5, 6, 7, 8, 0] rfl)
                            exact lp_20 _ 0 (by omega) (Nat.lt_succ_self _) H locs (by rw [cpD_0]; exact hP) (by rw [cpD_0]; exact hD) hS ls (lv_sub hl [3, 4, 5, 6, 7, 8, 1, 0] rfl)
                          · -- f 156
                            refine lv_iconst (v := nI 1) hx hb dX12_copy_156 (by decide) ?_
                            refine lv_goto (tgt := 161) hx hb dX12_copy_157 (by decide) ?_
                            refine lv_istore (lv' := [(7, .int (nI 1)), (6, .int (nI 1)), (0, .ref (ad 0)), (1, .int (nI k)), (2, .int (nI i)), (3, .int (nI o)), (4, .int (nI j)), (5, .int (nI n5))]) hx hb dX12_copy_161 hl (by decide) rfl (fun ls hl => ?_)
                            refine lv_iconst (v := nI 0) hx hb dX12_copy_163 (by decide) ?_
                            refine lv_istore (lv' := [(8, .int (nI 0)), (7, .int (nI 1)), (6, .int (nI 1)), (0, .ref (ad 0)), (1, .int (nI k)), (2, .int (nI i)), (3, .int (nI o)), (4, .int (nI j)), (5, .int (nI n5))]) hx hb dX12_copy_164 hl (by decide) rfl (fun ls hl => ?_)
                            have lp_23 : ∀ (n_lp_23 : Nat) (q : Nat) (hq : q ≤ n5), n5 - q < n_lp_23 → ∀ (H : Heap) (locs : List Loc) (hP : va_P E.1 vwCl (mW E ad lk tr (va_up N 0 0) (va_up X 4 (cpU (X 4) (60 * k + i) (60 * o + j) n5 q)) F G) H) (hD : va_D A (mW E ad lk tr (va_up N 0 0) (va_up X 4 (cpU (X 4) (60 * k + i) (60 * o + j) n5 q)) F G)) (hS : va_S A s.heap H locs) (ls : Array Slot), lv_has ls 10 [(0, .ref (ad 0)), (1, .int (nI k)), (2, .int (nI i)), (3, .int (nI o)), (4, .int (nI j)), (5, .int (nI n5)), (7, .int (nI 1)), (8, .int (nI q))] → W p l e rm_X12_copy s m args below meth c H locs 0 0 (MQ below (wr_Q E A (fun v w1 => if isIn (nI k) (nI 0) (nI 3) = false then v = some (.int (-1)) ∧ w1 = mW E ad lk tr (va_up N 0 0) X F G else if isIn (nI o) (nI 0) (nI 3) = false then v = some (.int (-1)) ∧ w1 = mW E ad lk tr (va_up N 0 0) X F G else if X 2 (nI k).toNatClampNeg = -9 then v = some (.int ((-10) - nI 1)) ∧ w1 = mW E ad lk tr (va_up N 0 1) X F G else if X 2 (nI o).toNatClampNeg = -9 then v = some (.int ((-10) - nI 1)) ∧ w1 = mW E ad lk tr (va_up N 0 1) X F G else if ¬ X 2 (nI k).toNatClampNeg = X 2 (nI o).toNatClampNeg then v = some (.int ((-10) - nI 2)) ∧ w1 = mW E ad lk tr (va_up N 0 2) X F G else if (hasR (nI i) (nI n5) (F 3 (nI k).toNatClampNeg) && hasR (nI j) (nI n5) (F 3 (nI o).toNatClampNeg)) = false then v = some (.int ((-10) - nI 3)) ∧ w1 = mW E ad lk tr (va_up N 0 3) X F G else v = some (.int (nI n5)) ∧ w1 = mW E ad lk tr (va_up N 0 0) (va_up X 4 (cpyC (X 4) (60 * (nI k).toNatClampNeg + (nI i).toNatClampNeg) (60 * (nI o).toNatClampNeg + (nI j).toNatClampNeg) (nI n5).toNatClampNeg)) F G)) args s 0 0 A) (F0 m 166 ls []) := by
                              intro n_lp_23
                              induction n_lp_23 with
                              | zero => intro q hq; intro hm_lp_23; exact absurd hm_lp_23 (Nat.not_lt_zero _)
                              | succ n_lp_23 ih_lp_23 =>
                                intro q hq hm_lp_23 H locs hP hD hS ls hl
                                refine lv_iload hx hb dX12_copy_166 (lv_at hl 7 rfl) ?_
                                refine lv_iload hx hb dX12_copy_168 (lv_at hl 5 rfl) ?_
                                refine n_icmp_ge (tgt := 227) hx hb (by omega) (by omega) dX12_copy_170 (by decide) (fun c_24 => ?_) (fun c_24 => ?_)
                                · -- t 227
                                  have hq5 : q = n5 := by omega
                                  rw [hq5, cpU_n] at hP hD
                                  refine lv_iload hx hb dX12_copy_227 (lv_at hl 5 rfl) ?_
                                  exact rw_i hC rfl hP hD hS (by rw [if_neg (by rw [c_1]; decide), if_neg (by rw [c_2]; decide), hck, hco, if_neg c_3, if_neg c_4, if_neg (fun h => h c_5), if_neg (by rw [hasR_n hi hn5, hasR_n hj hn5]; simp; omega), hci, hcj, hcn5]; exact ⟨rfl, rfl⟩) dX12_copy_229 (Nat.le_of_ble_eq_true rfl) (Nat.le_of_ble_eq_true rfl)
                                · -- f 173
                                  refine lv_iload hx hb dX12_copy_173 (lv_at hl 6 rfl) ?_
                                  refine n_if_eq (tgt := 188) hx hb (by omega) dX12_copy_175 (by decide) (fun c_25 => absurd c_25 (by decide)) (fun _ => ?_)
                                  refine lv_iload hx hb dX12_copy_178 (lv_at hl 5 rfl) ?_
                                  refine lv_iconst (v := nI 1) hx hb dX12_copy_180 (by decide) ?_
                                  refine n_isub hx hb (by omega) dX12_copy_181 ?_
                                  refine lv_iload hx hb dX12_copy_182 (lv_at hl 7 rfl) ?_
                                  refine n_isub hx hb (by omega) dX12_copy_184 ?_
                                  refine lv_goto (tgt := 190) hx hb dX12_copy_185 (by decide) ?_
                                  refine lv_istore (lv' := [(9, .int (nI ((n5 - 1) - q))), (0, .ref (ad 0)), (1, .int (nI k)), (2, .int (nI i)), (3, .int (nI o)), (4, .int (nI j)), (5, .int (nI n5)), (7, .int (nI 1)), (8, .int (nI q))]) hx hb dX12_copy_190 hl (by decide) rfl (fun ls hl => ?_)
                                  refine lv_aload_n hx hb dX12_copy_192 rfl (lv_at hl 1 rfl) ?_
                                  refine va_get (D := E.1) (ci := 10) (v := .ref (ad 4)) (C := RX12) (T := TX12) (N := 30) hx hb hts iX12 hown hK hP 0 rfl rfl 4 (by decide) (hts _ kw_743) (fun _ h9 => h9) rfl dX12_copy_193 ?_
                                  refine lv_bipush (v := nI 60) hx hb dX12_copy_196 (by decide) ?_
                                  refine lv_iload_n hx hb dX12_copy_198 rfl (lv_at hl 4 rfl) ?_
                                  refine n_imul hx hb dX12_copy_199 ?_
                                  refine lv_iload hx hb dX12_copy_200 (lv_at hl 5 rfl) ?_
                                  refine n_iadd hx hb dX12_copy_202 ?_
                                  refine lv_iload hx hb dX12_copy_203 (lv_at hl 0 rfl) ?_
                                  refine n_iadd hx hb dX12_copy_205 ?_
                                  refine lv_aload_n hx hb dX12_copy_206 rfl (lv_at hl 1 rfl) ?_
                                  refine va_get (D := E.1) (ci := 10) (v := .ref (ad 4)) (C := RX12) (T := TX12) (N := 30) hx hb hts iX12 hown hK hP 0 rfl rfl 4 (by decide) (hts _ kw_743) (fun _ h9 => h9) rfl dX12_copy_207 ?_
                                  refine lv_bipush (v := nI 60) hx hb dX12_copy_210 (by decide) ?_
                                  refine lv_iload_n hx hb dX12_copy_212 rfl (lv_at hl 2 rfl) ?_
                                  refine n_imul hx hb dX12_copy_213 ?_
                                  refine lv_iload_n hx hb dX12_copy_214 rfl (lv_at hl 3 rfl) ?_
                                  refine n_iadd hx hb dX12_copy_215 ?_
                                  refine lv_iload hx hb dX12_copy_216 (lv_at hl 0 rfl) ?_
                                  refine n_iadd hx hb dX12_copy_218 ?_
                                  refine n_iald hx hb hK hP 3 rfl (by omega) (by decide) dX12_copy_219 ?_
                                  refine n_iastR hx hb hK hP hD hS 3 rfl (by omega) (by decide) dX12_copy_220 (fun H locs hP hD hS => ?_)
                                  have hP : va_P E.1 vwCl (mW E ad lk tr (va_up N 0 0) (va_up X 4 (upd (cpU (X 4) (60 * k + i) (60 * o + j) n5 q) (((60 * o) + j) + ((n5 - 1) - q)) ((cpU (X 4) (60 * k + i) (60 * o + j) n5 q) (((60 * k) + i) + ((n5 - 1) - q))))) F G) H := hP
                                  have hD : va_D A (mW E ad lk tr (va_up N 0 0) (va_up X 4 (upd (cpU (X 4) (60 * k + i) (60 * o + j) n5 q) (((60 * o) + j) + ((n5 - 1) - q)) ((cpU (X 4) (60 * k + i) (60 * o + j) n5 q) (((60 * k) + i) + ((n5 - 1) - q))))) F G) := hD
                                  refine lv_iinc (v := nI (q + 1)) (lv' := [(8, .int (nI (q + 1))), (9, .int (nI ((n5 - 1) - q))), (0, .ref (ad 0)), (1, .int (nI k)), (2, .int (nI i)), (3, .int (nI o)), (4, .int (nI j)), (5, .int (nI n5)), (7, .int (nI 1))]) hx hb dX12_copy_221 hl (k := 8) rfl (ii_1 _) (by decide) rfl (fun ls hl => ?_)
                                  refine lv_goto (tgt := 166) hx hb dX12_copy_224 (by decide) ?_
                                  exact ih_lp_23 (q + 1) (by omega) (by omega) H locs (by rw [← cpU_s (X 4) (q := q) (by omega) (by omega)]; exact hP) (by rw [← cpU_s (X 4) (q := q) (by omega) (by omega)]; exact hD) hS ls (lv_sub hl [2, 3, 4, 5, 6, 7, 8, 0] rfl)
                            exact lp_23 _ 0 (by omega) (Nat.lt_succ_self _) H locs (by rw [cpU_0]; exact hP) (by rw [cpU_0]; exact hD) hS ls (lv_sub hl [3, 4, 5, 6, 7, 8, 1, 0] rfl)
                        · -- f 144
                          refine lv_aload_n hx hb dX12_copy_144 rfl (lv_at hl 1 rfl) ?_
                          refine lv_iconst (v := nI 3) hx hb dX12_copy_145 (by decide) ?_
                          refine cV_w0 (rest := []) hC (c_m_fails l E ad lk tr (va_up N 0 0) X F G H.size 3) kw_843 iy_X12_fails ⟨Nat.le_of_ble_eq_true rfl, Nat.le_of_ble_eq_true rfl⟩ ⟨rfl, rfl⟩ hK hP hD hS hA (va_recv hK hP (ci := 10) (q0 := 0) rfl rfl) rfl hl.1 rfl (Nat.le_of_ble_eq_true rfl) dX12_copy_146 ⟨Nat.le_of_ble_eq_true rfl, Nat.le_of_ble_eq_true rfl⟩ (fun v_ w_ H locs hpost hP hD hS => ?_)
                          obtain ⟨rfl, rfl⟩ := hpost
                          refine W.eq (g2 := F0 m 149 ls [.int ((-10) - nI 3)]) rfl ?_
                          exact rw_i hC rfl hP hD hS (by rw [if_neg (by rw [c_1]; decide), if_neg (by rw [c_2]; decide), hck, hco, if_neg c_3, if_neg c_4, if_neg (fun h => h c_5), if_pos (by rw [hasR_n hi hn5, hasR_n hj hn5]; simp; omega)]; exact ⟨rfl, rfl⟩) dX12_copy_149 (Nat.le_of_ble_eq_true rfl) (Nat.le_of_ble_eq_true rfl)
          · -- f 64
            refine lv_aload_n hx hb dX12_copy_64 rfl (lv_at hl 0 rfl) ?_
            refine lv_iconst (v := nI 2) hx hb dX12_copy_65 (by decide) ?_
            refine cV_w0 (rest := []) hC (c_m_fails l E ad lk tr (va_up N 0 0) X F G H.size 2) kw_843 iy_X12_fails ⟨Nat.le_of_ble_eq_true rfl, Nat.le_of_ble_eq_true rfl⟩ ⟨rfl, rfl⟩ hK hP hD hS hA (va_recv hK hP (ci := 10) (q0 := 0) rfl rfl) rfl hl.1 rfl (Nat.le_of_ble_eq_true rfl) dX12_copy_66 ⟨Nat.le_of_ble_eq_true rfl, Nat.le_of_ble_eq_true rfl⟩ (fun v_ w_ H locs hpost hP hD hS => ?_)
            obtain ⟨rfl, rfl⟩ := hpost
            refine W.eq (g2 := F0 m 69 ls [.int ((-10) - nI 2)]) rfl ?_
            exact rw_i hC rfl hP hD hS (by rw [if_neg (by rw [c_1]; decide), if_neg (by rw [c_2]; decide), hck, hco, if_neg c_3, if_neg c_4, if_pos c_5]; exact ⟨rfl, rfl⟩) dX12_copy_69 (Nat.le_of_ble_eq_true rfl) (Nat.le_of_ble_eq_true rfl)
        · -- f 43
          refine lv_aload_n hx hb dX12_copy_43 rfl (lv_at hl 0 rfl) ?_
          refine lv_iconst (v := nI 1) hx hb dX12_copy_44 (by decide) ?_
          refine cV_w0 (rest := []) hC (c_m_fails l E ad lk tr (va_up N 0 0) X F G H.size 1) kw_843 iy_X12_fails ⟨Nat.le_of_ble_eq_true rfl, Nat.le_of_ble_eq_true rfl⟩ ⟨rfl, rfl⟩ hK hP hD hS hA (va_recv hK hP (ci := 10) (q0 := 0) rfl rfl) rfl hl.1 rfl (Nat.le_of_ble_eq_true rfl) dX12_copy_45 ⟨Nat.le_of_ble_eq_true rfl, Nat.le_of_ble_eq_true rfl⟩ (fun v_ w_ H locs hpost hP hD hS => ?_)
          obtain ⟨rfl, rfl⟩ := hpost
          refine W.eq (g2 := F0 m 48 ls [.int ((-10) - nI 1)]) rfl ?_
          exact rw_i hC rfl hP hD hS (by rw [if_neg (by rw [c_1]; decide), if_neg (by rw [c_2]; decide), hck, hco, if_neg c_3, if_pos c_4]; exact ⟨rfl, rfl⟩) dX12_copy_48 (Nat.le_of_ble_eq_true rfl) (Nat.le_of_ble_eq_true rfl)
    · -- f 19
      refine lv_iconst (v := -1) hx hb dX12_copy_19 (by decide) ?_
      exact rw_i hC rfl hP hD hS (by rw [if_neg (by rw [c_1]; decide), if_pos c_2]; exact ⟨rfl, rfl⟩) dX12_copy_20 (Nat.le_of_ble_eq_true rfl) (Nat.le_of_ble_eq_true rfl)
