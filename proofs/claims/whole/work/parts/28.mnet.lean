set_option maxHeartbeats 4000000 in
set_option maxRecDepth 100000 in
theorem c_m_net (l : Launch) (E : EE) (ad : Nat → Nat) (lk : Nat) (tr : Int32) (N : Nat → Nat) (X : Nat → Nat → Int32) (F G : Nat → Nat → Nat) (sz : Nat) (h60 : ∀ j, F 3 j ≤ 60) (a1 a2 a3 a4 : Int32) : Wr l yX12_net cX12_net 8 (some .int) rm_X12_net 0 0 E (mW E ad lk tr N X F G) sz [.ref (ad 0), .int a1, .int a2, .int a3, .int a4] (fun v w1 => if isIn a1 (nI 0) (nI 3) = false then v = some (.int (-1)) ∧ w1 = mW E ad lk tr (va_up N 0 0) X F G else if isIn a2 (nI 0) (nI 2) = false then v = some (.int (-2)) ∧ w1 = mW E ad lk tr (va_up N 0 0) X F G else if X 2 a1.toNatClampNeg = -9 then v = some (.int ((-10) - nI 1)) ∧ w1 = mW E ad lk tr (va_up N 0 1) X F G else if ¬ X 2 a1.toNatClampNeg = a2 then v = some (.int ((-10) - nI 2)) ∧ w1 = mW E ad lk tr (va_up N 0 2) X F G else if a4 < 0 then v = some (.int ((-10) - nI 4)) ∧ w1 = mW E ad lk tr (va_up N 0 4) X F G else if hasR a3 a4 (F 3 a1.toNatClampNeg) = false then v = some (.int ((-10) - nI 3)) ∧ w1 = mW E ad lk tr (va_up N 0 3) X F G else ∃ (rd : Nat) (f7 : Nat → Nat), (∃ r, v = some (.int ((-100) - nI r)) ∧ faultAt (fun z => X 4 (60 * a1.toNatClampNeg + a3.toNatClampNeg + z)) a4.toNatClampNeg r ∧ w1 = mW E ad lk tr (va_up (va_up N 0 0) 8 rd) X (va_up F 7 f7) G) ∨ (∃ num, v = some (.int (nI rd)) ∧ noFault (fun z => X 4 (60 * a1.toNatClampNeg + a3.toNatClampNeg + z)) a4.toNatClampNeg rd num ∧ w1 = mW E ad lk tr (va_up (va_up (va_up (va_up N 0 0) 8 rd) 5 rd) 9 0) X (va_up (va_up F 7 f7) 6 (netU (F 6) num rd)) G)) := by
  refine mk_wr (by decide) (Nat.le_of_ble_eq_true rfl) ?_
  intro p e s m args below meth c hC hin hK A hA hP hD hS ls hl
  obtain ⟨hx, hb, hr, hts, hown, hml, hlk, hN⟩ := id hC
  have hl : lv_has ls 8 [(0, .ref (ad 0)), (1, .int a1), (2, .int a2), (3, .int a3), (4, .int a4)] := hl
  obtain ⟨H, hH⟩ : ∃ z, z = s.heap := ⟨_, rfl⟩
  have hS : va_S A s.heap H [] := by rw [hH]; exact hS
  rw [← hH] at hP
  refine W_heap hH ?_
  obtain ⟨locs, hlo⟩ : ∃ z : List Loc, z = [] := ⟨_, rfl⟩
  rw [← hlo] at hS ⊢
  refine lv_aload_n hx hb dX12_net_0 rfl (lv_at hl 0 rfl) ?_
  refine lv_iconst (v := nI 0) hx hb dX12_net_1 (by decide) ?_
  refine va_put (D := E.1) (ci := 10) (v := .int (nI 0)) (ty := .int) (C := RX12) (T := TX12) (N := 30) hx hb hts iX12 tyX12 tyX12_ok nmX12 hown hK hP hD hS 0 rfl rfl 0 (by decide) (hts _ kw_739) (fun _ h9 => h9) rfl (by decide +kernel) rfl rfl (Nat.le_of_ble_eq_true rfl) dX12_net_2 (fun H locs hP hD hS => ?_)
  have hP : va_P E.1 vwCl (mW E ad lk tr (va_up N 0 0) X F G) H := hP
  have hD : va_D A (mW E ad lk tr (va_up N 0 0) X F G) := hD
  refine lv_iload_n hx hb dX12_net_5 rfl (lv_at hl 1 rfl) ?_
  refine cS_p (rest := []) hC (c_m_isSheet l a1) kw_834 sy_X12_isSheet ⟨Nat.le_of_ble_eq_true rfl, Nat.le_of_ble_eq_true rfl⟩ ⟨rfl, rfl⟩ rfl hl.1 rfl (Nat.le_of_ble_eq_true rfl) dX12_net_6 ⟨Nat.le_of_ble_eq_true rfl, Nat.le_of_ble_eq_true rfl⟩ ?_
  refine b_if_ne (tgt := 14) hx hb dX12_net_9 (by decide) (fun c_1 => ?_) (fun c_1 => ?_)
  · -- t 14
    obtain ⟨k, hk, rfl⟩ := isIn_nat (by decide) c_1
    have hck := nI_clamp (n := k) (by omega)
    have hl : lv_has ls 8 [(0, .ref (ad 0)), (1, .int (nI k)), (2, .int a2), (3, .int a3), (4, .int a4)] := hl
    have hLk := h60 k
    refine lv_iload_n hx hb dX12_net_14 rfl (lv_at hl 2 rfl) ?_
    refine cS_p (rest := []) hC (c_m_isLane l a2) kw_840 sy_X12_isLane ⟨Nat.le_of_ble_eq_true rfl, Nat.le_of_ble_eq_true rfl⟩ ⟨rfl, rfl⟩ rfl hl.1 rfl (Nat.le_of_ble_eq_true rfl) dX12_net_15 ⟨Nat.le_of_ble_eq_true rfl, Nat.le_of_ble_eq_true rfl⟩ ?_
    refine b_if_ne (tgt := 24) hx hb dX12_net_18 (by decide) (fun c_2 => ?_) (fun c_2 => ?_)
    · -- t 24
      refine lv_aload_n hx hb dX12_net_24 rfl (lv_at hl 0 rfl) ?_
      refine va_get (D := E.1) (ci := 10) (v := .ref (ad 2)) (C := RX12) (T := TX12) (N := 30) hx hb hts iX12 hown hK hP 0 rfl rfl 2 (by decide) (hts _ kw_741) (fun _ h9 => h9) rfl dX12_net_25 ?_
      refine lv_iload_n hx hb dX12_net_28 rfl (lv_at hl 1 rfl) ?_
      refine n_iald hx hb hK hP 1 rfl (by omega) (by decide) dX12_net_29 ?_
      refine lv_bipush (v := -9) hx hb dX12_net_30 (by decide) ?_
      refine lv_icmp_eq (tgt := 51) hx hb dX12_net_32 (by decide) (fun c_3 => ?_) (fun c_3 => ?_)
      · -- t 51
        refine lv_aload_n hx hb dX12_net_51 rfl (lv_at hl 0 rfl) ?_
        refine va_get (D := E.1) (ci := 10) (v := .ref (ad 2)) (C := RX12) (T := TX12) (N := 30) hx hb hts iX12 hown hK hP 0 rfl rfl 2 (by decide) (hts _ kw_741) (fun _ h9 => h9) rfl dX12_net_52 ?_
        refine lv_iload_n hx hb dX12_net_55 rfl (lv_at hl 1 rfl) ?_
        refine n_iald hx hb hK hP 1 rfl (by omega) (by decide) dX12_net_56 ?_
        refine lv_bipush (v := -9) hx hb dX12_net_57 (by decide) ?_
        refine lv_icmp_ne (tgt := 68) hx hb dX12_net_59 (by decide) (fun c_4 => ?_) (fun c_4 => ?_)
        · -- t 68
          exact absurd c_3 c_4
        · -- f 62
          refine lv_aload_n hx hb dX12_net_62 rfl (lv_at hl 0 rfl) ?_
          refine lv_iconst (v := nI 1) hx hb dX12_net_63 (by decide) ?_
          refine cV_w0 (rest := []) hC (c_m_fails l E ad lk tr (va_up N 0 0) X F G H.size 1) kw_843 iy_X12_fails ⟨Nat.le_of_ble_eq_true rfl, Nat.le_of_ble_eq_true rfl⟩ ⟨rfl, rfl⟩ hK hP hD hS hA (va_recv hK hP (ci := 10) (q0 := 0) rfl rfl) rfl hl.1 rfl (Nat.le_of_ble_eq_true rfl) dX12_net_64 ⟨Nat.le_of_ble_eq_true rfl, Nat.le_of_ble_eq_true rfl⟩ (fun v_ w_ H locs hpost hP hD hS => ?_)
          obtain ⟨rfl, rfl⟩ := hpost
          refine W.eq (g2 := F0 m 67 ls [.int ((-10) - nI 1)]) rfl ?_
          exact rw_i hC rfl hP hD hS (by rw [if_neg (by rw [c_1]; decide), if_neg (by rw [c_2]; decide), hck, if_pos c_3]; exact ⟨rfl, rfl⟩) dX12_net_67 (Nat.le_of_ble_eq_true rfl) (Nat.le_of_ble_eq_true rfl)
      · -- f 35
        refine lv_aload_n hx hb dX12_net_35 rfl (lv_at hl 0 rfl) ?_
        refine va_get (D := E.1) (ci := 10) (v := .ref (ad 2)) (C := RX12) (T := TX12) (N := 30) hx hb hts iX12 hown hK hP 0 rfl rfl 2 (by decide) (hts _ kw_741) (fun _ h9 => h9) rfl dX12_net_36 ?_
        refine lv_iload_n hx hb dX12_net_39 rfl (lv_at hl 1 rfl) ?_
        refine n_iald hx hb hK hP 1 rfl (by omega) (by decide) dX12_net_40 ?_
        refine lv_iload_n hx hb dX12_net_41 rfl (lv_at hl 2 rfl) ?_
        refine lv_icmp_eq (tgt := 51) hx hb dX12_net_42 (by decide) (fun c_5 => ?_) (fun c_5 => ?_)
        · -- t 51
          refine lv_aload_n hx hb dX12_net_51 rfl (lv_at hl 0 rfl) ?_
          refine va_get (D := E.1) (ci := 10) (v := .ref (ad 2)) (C := RX12) (T := TX12) (N := 30) hx hb hts iX12 hown hK hP 0 rfl rfl 2 (by decide) (hts _ kw_741) (fun _ h9 => h9) rfl dX12_net_52 ?_
          refine lv_iload_n hx hb dX12_net_55 rfl (lv_at hl 1 rfl) ?_
          refine n_iald hx hb hK hP 1 rfl (by omega) (by decide) dX12_net_56 ?_
          refine lv_bipush (v := -9) hx hb dX12_net_57 (by decide) ?_
          refine lv_icmp_ne (tgt := 68) hx hb dX12_net_59 (by decide) (fun c_6 => ?_) (fun c_6 => ?_)
          · -- t 68
            refine lv_iload hx hb dX12_net_68 (lv_at hl 4 rfl) ?_
            refine lv_if_ge (tgt := 79) hx hb dX12_net_70 (by decide) (fun c_7 => ?_) (fun c_7 => ?_)
            · -- t 79
              have c_7n := i32_nlt c_7
              obtain ⟨n5, hn5, rfl⟩ := nI_of c_7n
              have hcn5 := nI_clamp (n := n5) (by omega)
              have hl : lv_has ls 8 [(0, .ref (ad 0)), (1, .int (nI k)), (2, .int a2), (3, .int a3), (4, .int (nI n5))] := hl
              refine lv_iload_n hx hb dX12_net_79 rfl (lv_at hl 3 rfl) ?_
              refine lv_if_lt (tgt := 106) hx hb dX12_net_80 (by decide) (fun c_8 => ?_) (fun c_8 => ?_)
              · -- t 106
                refine lv_aload_n hx hb dX12_net_106 rfl (lv_at hl 0 rfl) ?_
                refine lv_iconst (v := nI 3) hx hb dX12_net_107 (by decide) ?_
                refine cV_w0 (rest := []) hC (c_m_fails l E ad lk tr (va_up N 0 0) X F G H.size 3) kw_843 iy_X12_fails ⟨Nat.le_of_ble_eq_true rfl, Nat.le_of_ble_eq_true rfl⟩ ⟨rfl, rfl⟩ hK hP hD hS hA (va_recv hK hP (ci := 10) (q0 := 0) rfl rfl) rfl hl.1 rfl (Nat.le_of_ble_eq_true rfl) dX12_net_108 ⟨Nat.le_of_ble_eq_true rfl, Nat.le_of_ble_eq_true rfl⟩ (fun v_ w_ H locs hpost hP hD hS => ?_)
                obtain ⟨rfl, rfl⟩ := hpost
                refine W.eq (g2 := F0 m 111 ls [.int ((-10) - nI 3)]) rfl ?_
                exact rw_i hC rfl hP hD hS (by rw [if_neg (by rw [c_1]; decide), if_neg (by rw [c_2]; decide), hck, if_neg c_3, if_neg (fun h => h c_5), if_neg (nI_pos hn5), if_pos (hasR_f1 c_8)]; exact ⟨rfl, rfl⟩) dX12_net_111 (Nat.le_of_ble_eq_true rfl) (Nat.le_of_ble_eq_true rfl)
              · -- f 83
                obtain ⟨i, hi, rfl⟩ := nI_of c_8
                have hci := nI_clamp (n := i) (by omega)
                have hl : lv_has ls 8 [(0, .ref (ad 0)), (1, .int (nI k)), (2, .int a2), (3, .int (nI i)), (4, .int (nI n5))] := hl
                refine lv_iload_n hx hb dX12_net_83 rfl (lv_at hl 3 rfl) ?_
                refine lv_aload_n hx hb dX12_net_84 rfl (lv_at hl 0 rfl) ?_
                refine va_get (D := E.1) (ci := 10) (v := .ref (ad 3)) (C := RX12) (T := TX12) (N := 30) hx hb hts iX12 hown hK hP 0 rfl rfl 3 (by decide) (hts _ kw_742) (fun _ h9 => h9) rfl dX12_net_85 ?_
                refine lv_iload_n hx hb dX12_net_88 rfl (lv_at hl 1 rfl) ?_
                refine n_iald hx hb hK hP 2 rfl (by omega) (by decide) dX12_net_89 ?_
                refine n_icmp_gt (tgt := 106) hx hb (by omega) (by omega) dX12_net_90 (by decide) (fun c_9 => ?_) (fun c_9 => ?_)
                · -- t 106
                  refine lv_aload_n hx hb dX12_net_106 rfl (lv_at hl 0 rfl) ?_
                  refine lv_iconst (v := nI 3) hx hb dX12_net_107 (by decide) ?_
                  refine cV_w0 (rest := []) hC (c_m_fails l E ad lk tr (va_up N 0 0) X F G H.size 3) kw_843 iy_X12_fails ⟨Nat.le_of_ble_eq_true rfl, Nat.le_of_ble_eq_true rfl⟩ ⟨rfl, rfl⟩ hK hP hD hS hA (va_recv hK hP (ci := 10) (q0 := 0) rfl rfl) rfl hl.1 rfl (Nat.le_of_ble_eq_true rfl) dX12_net_108 ⟨Nat.le_of_ble_eq_true rfl, Nat.le_of_ble_eq_true rfl⟩ (fun v_ w_ H locs hpost hP hD hS => ?_)
                  obtain ⟨rfl, rfl⟩ := hpost
                  refine W.eq (g2 := F0 m 111 ls [.int ((-10) - nI 3)]) rfl ?_
                  exact rw_i hC rfl hP hD hS (by rw [if_neg (by rw [c_1]; decide), if_neg (by rw [c_2]; decide), hck, if_neg c_3, if_neg (fun h => h c_5), if_neg (nI_pos hn5), if_pos (by rw [hasR_n hi hn5]; simp; omega)]; exact ⟨rfl, rfl⟩) dX12_net_111 (Nat.le_of_ble_eq_true rfl) (Nat.le_of_ble_eq_true rfl)
                · -- f 93
                  refine lv_iload hx hb dX12_net_93 (lv_at hl 4 rfl) ?_
                  refine lv_aload_n hx hb dX12_net_95 rfl (lv_at hl 0 rfl) ?_
                  refine va_get (D := E.1) (ci := 10) (v := .ref (ad 3)) (C := RX12) (T := TX12) (N := 30) hx hb hts iX12 hown hK hP 0 rfl rfl 3 (by decide) (hts _ kw_742) (fun _ h9 => h9) rfl dX12_net_96 ?_
                  refine lv_iload_n hx hb dX12_net_99 rfl (lv_at hl 1 rfl) ?_
                  refine n_iald hx hb hK hP 2 rfl (by omega) (by decide) dX12_net_100 ?_
                  refine lv_iload_n hx hb dX12_net_101 rfl (lv_at hl 3 rfl) ?_
                  refine n_isub hx hb (by omega) dX12_net_102 ?_
                  refine n_icmp_le (tgt := 112) hx hb (by omega) (by omega) dX12_net_103 (by decide) (fun c_10 => ?_) (fun c_10 => ?_)
                  · -- t 112
                    refine lv_bipush (v := nI 60) hx hb dX12_net_112 (by decide) ?_
                    refine lv_iload_n hx hb dX12_net_114 rfl (lv_at hl 1 rfl) ?_
                    refine n_imul hx hb dX12_net_115 ?_
                    refine lv_iload_n hx hb dX12_net_116 rfl (lv_at hl 3 rfl) ?_
                    refine n_iadd hx hb dX12_net_117 ?_
                    refine lv_istore (lv' := [(5, .int (nI ((60 * k) + i))), (0, .ref (ad 0)), (1, .int (nI k)), (2, .int a2), (3, .int (nI i)), (4, .int (nI n5))]) hx hb dX12_net_118 hl (by decide) rfl (fun ls hl => ?_)
                    refine lv_aload_n hx hb dX12_net_120 rfl (lv_at hl 1 rfl) ?_
                    refine lv_iload hx hb dX12_net_121 (lv_at hl 0 rfl) ?_
                    refine lv_iload hx hb dX12_net_123 (lv_at hl 5 rfl) ?_
                    refine cV_w0 (rest := []) hC (c_m_readAll l E ad lk tr (va_up N 0 0) X F G H.size ((60 * k) + i) n5 (by omega)) kw_847 iy_X12_readAll ⟨Nat.le_of_ble_eq_true rfl, Nat.le_of_ble_eq_true rfl⟩ ⟨rfl, rfl⟩ hK hP hD hS hA (va_recv hK hP (ci := 10) (q0 := 0) rfl rfl) rfl hl.1 rfl (Nat.le_of_ble_eq_true rfl) dX12_net_125 ⟨Nat.le_of_ble_eq_true rfl, Nat.le_of_ble_eq_true rfl⟩ (fun v_ w_ H locs hpost hP hD hS => ?_)
                    obtain ⟨rd, f7, rfl, hra⟩ := hpost
                    have hP : va_P E.1 vwCl (mW E ad lk tr (va_up (va_up N 0 0) 8 rd) X (va_up F 7 f7) G) H := hP
                    have hD : va_D A (mW E ad lk tr (va_up (va_up N 0 0) 8 rd) X (va_up F 7 f7) G) := hD
                    rcases hra with ⟨r, rfl, hfa⟩ | ⟨rfl, num, hnf, hrd4, hf7⟩
                    ·
                      refine W.eq (g2 := F0 m 128 ls [.int (nI r)]) rfl ?_
                      have hr60 : r ≤ n5 := by
                        rcases hfa with h | h | ⟨_, _, _, h, _⟩ <;> omega
                      refine lv_istore (lv' := [(6, .int (nI r)), (5, .int (nI ((60 * k) + i))), (0, .ref (ad 0)), (1, .int (nI k)), (2, .int a2), (3, .int (nI i)), (4, .int (nI n5))]) hx hb dX12_net_128 hl (by decide) rfl (fun ls hl => ?_)
                      refine lv_iload hx hb dX12_net_130 (lv_at hl 0 rfl) ?_
                      refine lv_bipush (v := -9) hx hb dX12_net_132 (by decide) ?_
                      refine lv_icmp_eq (tgt := 143) hx hb dX12_net_134 (by decide) (fun c_11 => ?_) (fun c_11 => ?_)
                      · -- t 143
                        exact absurd c_11 (by rw [show (-9 : Int32) = nI 4294967287 by decide]; intro h9; have h8 := congrArg (fun z : Int32 => z.toBitVec.toNat) h9; simp only [pk_tn (show r < 2 ^ 32 by omega), pk_tn (show 4294967287 < 2 ^ 32 by decide)] at h8; omega)
                      · -- f 137
                        refine lv_bipush (v := -100) hx hb dX12_net_137 (by decide) ?_
                        refine lv_iload hx hb dX12_net_139 (lv_at hl 0 rfl) ?_
                        refine lv_isub hx hb dX12_net_141 ?_
                        exact rw_i hC rfl hP hD hS (by rw [if_neg (by rw [c_1]; decide), if_neg (by rw [c_2]; decide), hck, if_neg c_3, if_neg (fun h => h c_5), if_neg (nI_pos hn5), if_neg (by rw [hasR_n hi hn5]; simp; omega), hci, hcn5]; exact ⟨rd, f7, Or.inl ⟨r, rfl, hfa, rfl⟩⟩) dX12_net_142 (Nat.le_of_ble_eq_true rfl) (Nat.le_of_ble_eq_true rfl)
                    ·
                      refine W.eq (g2 := F0 m 128 ls [.int (-9)]) rfl ?_
                      refine lv_istore (lv' := [(6, .int (-9)), (5, .int (nI ((60 * k) + i))), (0, .ref (ad 0)), (1, .int (nI k)), (2, .int a2), (3, .int (nI i)), (4, .int (nI n5))]) hx hb dX12_net_128 hl (by decide) rfl (fun ls hl => ?_)
                      refine lv_iload hx hb dX12_net_130 (lv_at hl 0 rfl) ?_
                      refine lv_bipush (v := -9) hx hb dX12_net_132 (by decide) ?_
                      refine lv_icmp_eq (tgt := 143) hx hb dX12_net_134 (by decide) (fun c_12 => ?_) (fun c_12 => ?_)
                      · -- t 143
                        refine lv_aload_n hx hb dX12_net_143 rfl (lv_at hl 2 rfl) ?_
                        refine lv_aload_n hx hb dX12_net_144 rfl (lv_at hl 2 rfl) ?_
                        refine va_get (D := E.1) (ci := 10) (v := .int (nI rd)) (C := RX12) (T := TX12) (N := 30) hx hb hts iX12 hown hK hP 0 rfl rfl 8 (by decide) (hts _ kw_747) (fun _ h9 => h9) rfl dX12_net_145 ?_
                        refine va_put (D := E.1) (ci := 10) (v := .int (nI rd)) (ty := .int) (C := RX12) (T := TX12) (N := 30) hx hb hts iX12 tyX12 tyX12_ok nmX12 hown hK hP hD hS 0 rfl rfl 5 (by decide) (hts _ kw_744) (fun _ h9 => h9) rfl (by decide +kernel) rfl rfl (Nat.le_of_ble_eq_true rfl) dX12_net_148 (fun H locs hP hD hS => ?_)
                        have hP : va_P E.1 vwCl (mW E ad lk tr (va_up (va_up (va_up N 0 0) 8 rd) 5 rd) X (va_up F 7 f7) G) H := hP
                        have hD : va_D A (mW E ad lk tr (va_up (va_up (va_up N 0 0) 8 rd) 5 rd) X (va_up F 7 f7) G) := hD
                        refine lv_iconst (v := nI 0) hx hb dX12_net_151 (by decide) ?_
                        refine lv_istore (lv' := [(7, .int (nI 0)), (6, .int (-9)), (5, .int (nI ((60 * k) + i))), (0, .ref (ad 0)), (1, .int (nI k)), (2, .int a2), (3, .int (nI i)), (4, .int (nI n5))]) hx hb dX12_net_152 hl (by decide) rfl (fun ls hl => ?_)
                        have lp_13 : ∀ (n_lp_13 : Nat) (q : Nat) (hq : q ≤ rd), rd - q < n_lp_13 → ∀ (H : Heap) (locs : List Loc) (hP : va_P E.1 vwCl (mW E ad lk tr (va_up (va_up (va_up N 0 0) 8 rd) 5 rd) X (va_up (va_up F 7 f7) 6 (netU (F 6) f7 q)) G) H) (hD : va_D A (mW E ad lk tr (va_up (va_up (va_up N 0 0) 8 rd) 5 rd) X (va_up (va_up F 7 f7) 6 (netU (F 6) f7 q)) G)) (hS : va_S A s.heap H locs) (ls : Array Slot), lv_has ls 8 [(0, .ref (ad 0)), (7, .int (nI q))] → W p l e rm_X12_net s m args below meth c H locs 0 0 (MQ below (wr_Q E A (fun v w1 => if isIn (nI k) (nI 0) (nI 3) = false then v = some (.int (-1)) ∧ w1 = mW E ad lk tr (va_up N 0 0) X F G else if isIn a2 (nI 0) (nI 2) = false then v = some (.int (-2)) ∧ w1 = mW E ad lk tr (va_up N 0 0) X F G else if X 2 (nI k).toNatClampNeg = -9 then v = some (.int ((-10) - nI 1)) ∧ w1 = mW E ad lk tr (va_up N 0 1) X F G else if ¬ X 2 (nI k).toNatClampNeg = a2 then v = some (.int ((-10) - nI 2)) ∧ w1 = mW E ad lk tr (va_up N 0 2) X F G else if (nI n5) < 0 then v = some (.int ((-10) - nI 4)) ∧ w1 = mW E ad lk tr (va_up N 0 4) X F G else if hasR (nI i) (nI n5) (F 3 (nI k).toNatClampNeg) = false then v = some (.int ((-10) - nI 3)) ∧ w1 = mW E ad lk tr (va_up N 0 3) X F G else ∃ (rd : Nat) (f7 : Nat → Nat), (∃ r, v = some (.int ((-100) - nI r)) ∧ faultAt (fun z => X 4 (60 * (nI k).toNatClampNeg + (nI i).toNatClampNeg + z)) (nI n5).toNatClampNeg r ∧ w1 = mW E ad lk tr (va_up (va_up N 0 0) 8 rd) X (va_up F 7 f7) G) ∨ (∃ num, v = some (.int (nI rd)) ∧ noFault (fun z => X 4 (60 * (nI k).toNatClampNeg + (nI i).toNatClampNeg + z)) (nI n5).toNatClampNeg rd num ∧ w1 = mW E ad lk tr (va_up (va_up (va_up (va_up N 0 0) 8 rd) 5 rd) 9 0) X (va_up (va_up F 7 f7) 6 (netU (F 6) num rd)) G))) args s 0 0 A) (F0 m 154 ls []) := by
                          intro n_lp_13
                          induction n_lp_13 with
                          | zero => intro q hq; intro hm_lp_13; exact absurd hm_lp_13 (Nat.not_lt_zero _)
                          | succ n_lp_13 ih_lp_13 =>
                            intro q hq hm_lp_13 H locs hP hD hS ls hl
                            refine lv_iload hx hb dX12_net_154 (lv_at hl 1 rfl) ?_
                            refine lv_aload_n hx hb dX12_net_156 rfl (lv_at hl 0 rfl) ?_
                            refine va_get (D := E.1) (ci := 10) (v := .int (nI rd)) (C := RX12) (T := TX12) (N := 30) hx hb hts iX12 hown hK hP 0 rfl rfl 8 (by decide) (hts _ kw_747) (fun _ h9 => h9) rfl dX12_net_157 ?_
                            refine n_icmp_ge (tgt := 183) hx hb (by omega) (by omega) dX12_net_160 (by decide) (fun c_14 => ?_) (fun c_14 => ?_)
                            · -- t 183
                              refine lv_aload_n hx hb dX12_net_183 rfl (lv_at hl 0 rfl) ?_
                              refine lv_iconst (v := nI 0) hx hb dX12_net_184 (by decide) ?_
                              refine va_put (D := E.1) (ci := 10) (v := .int (nI 0)) (ty := .int) (C := RX12) (T := TX12) (N := 30) hx hb hts iX12 tyX12 tyX12_ok nmX12 hown hK hP hD hS 0 rfl rfl 9 (by decide) (hts _ kw_748) (fun _ h9 => h9) rfl (by decide +kernel) rfl rfl (Nat.le_of_ble_eq_true rfl) dX12_net_185 (fun H locs hP hD hS => ?_)
                              have hP : va_P E.1 vwCl (mW E ad lk tr (va_up (va_up (va_up (va_up N 0 0) 8 rd) 5 rd) 9 0) X (va_up (va_up F 7 f7) 6 (netU (F 6) f7 q)) G) H := hP
                              have hD : va_D A (mW E ad lk tr (va_up (va_up (va_up (va_up N 0 0) 8 rd) 5 rd) 9 0) X (va_up (va_up F 7 f7) 6 (netU (F 6) f7 q)) G) := hD
                              refine lv_aload_n hx hb dX12_net_188 rfl (lv_at hl 0 rfl) ?_
                              refine va_get (D := E.1) (ci := 10) (v := .int (nI rd)) (C := RX12) (T := TX12) (N := 30) hx hb hts iX12 hown hK hP 0 rfl rfl 5 (by decide) (hts _ kw_744) (fun _ h9 => h9) rfl dX12_net_189 ?_
                              exact rw_i hC rfl hP hD hS (by rw [if_neg (by rw [c_1]; decide), if_neg (by rw [c_2]; decide), hck, if_neg c_3, if_neg (fun h => h c_5), if_neg (nI_pos hn5), if_neg (by rw [hasR_n hi hn5]; simp; omega), hci, hcn5]; exact ⟨rd, f7, Or.inr ⟨num, rfl, hnf, by rw [show q = rd by omega, netU_eq hf7]⟩⟩) dX12_net_192 (Nat.le_of_ble_eq_true rfl) (Nat.le_of_ble_eq_true rfl)
                            · -- f 163
                              refine lv_aload_n hx hb dX12_net_163 rfl (lv_at hl 0 rfl) ?_
                              refine va_get (D := E.1) (ci := 10) (v := .ref (ad 6)) (C := RX12) (T := TX12) (N := 30) hx hb hts iX12 hown hK hP 0 rfl rfl 6 (by decide) (hts _ kw_745) (fun _ h9 => h9) rfl dX12_net_164 ?_
                              refine lv_iload hx hb dX12_net_167 (lv_at hl 1 rfl) ?_
                              refine lv_aload_n hx hb dX12_net_169 rfl (lv_at hl 0 rfl) ?_
                              refine va_get (D := E.1) (ci := 10) (v := .ref (ad 7)) (C := RX12) (T := TX12) (N := 30) hx hb hts iX12 hown hK hP 0 rfl rfl 7 (by decide) (hts _ kw_746) (fun _ h9 => h9) rfl dX12_net_170 ?_
                              refine lv_iload hx hb dX12_net_173 (lv_at hl 1 rfl) ?_
                              refine n_iald hx hb hK hP 5 rfl (by omega) (by decide) dX12_net_175 ?_
                              refine n_iast hx hb hK hP hD hS 4 rfl (by omega) (by decide) dX12_net_176 (fun H locs hP hD hS => ?_)
                              have hP : va_P E.1 vwCl (mW E ad lk tr (va_up (va_up (va_up N 0 0) 8 rd) 5 rd) X (va_up (va_up F 7 f7) 6 (va_up (netU (F 6) f7 q) q (f7 q))) G) H := hP
                              have hD : va_D A (mW E ad lk tr (va_up (va_up (va_up N 0 0) 8 rd) 5 rd) X (va_up (va_up F 7 f7) 6 (va_up (netU (F 6) f7 q) q (f7 q))) G) := hD
                              refine lv_iinc (v := nI (q + 1)) (lv' := [(7, .int (nI (q + 1))), (0, .ref (ad 0))]) hx hb dX12_net_177 hl (k := 1) rfl (ii_1 _) (by decide) rfl (fun ls hl => ?_)
                              refine lv_goto (tgt := 154) hx hb dX12_net_180 (by decide) ?_
                              exact ih_lp_13 (q + 1) (by omega) (by omega) H locs (by rw [← netU_s]; exact hP) (by rw [← netU_s]; exact hD) hS ls (lv_sub hl [1, 0] rfl)
                        exact lp_13 _ 0 (by omega) (Nat.lt_succ_self _) H locs (by rw [netU_0]; exact hP) (by rw [netU_0]; exact hD) hS ls (lv_sub hl [3, 0] rfl)
                      · -- f 137
                        exact absurd rfl c_12
                  · -- f 106
                    refine lv_aload_n hx hb dX12_net_106 rfl (lv_at hl 0 rfl) ?_
                    refine lv_iconst (v := nI 3) hx hb dX12_net_107 (by decide) ?_
                    refine cV_w0 (rest := []) hC (c_m_fails l E ad lk tr (va_up N 0 0) X F G H.size 3) kw_843 iy_X12_fails ⟨Nat.le_of_ble_eq_true rfl, Nat.le_of_ble_eq_true rfl⟩ ⟨rfl, rfl⟩ hK hP hD hS hA (va_recv hK hP (ci := 10) (q0 := 0) rfl rfl) rfl hl.1 rfl (Nat.le_of_ble_eq_true rfl) dX12_net_108 ⟨Nat.le_of_ble_eq_true rfl, Nat.le_of_ble_eq_true rfl⟩ (fun v_ w_ H locs hpost hP hD hS => ?_)
                    obtain ⟨rfl, rfl⟩ := hpost
                    refine W.eq (g2 := F0 m 111 ls [.int ((-10) - nI 3)]) rfl ?_
                    exact rw_i hC rfl hP hD hS (by rw [if_neg (by rw [c_1]; decide), if_neg (by rw [c_2]; decide), hck, if_neg c_3, if_neg (fun h => h c_5), if_neg (nI_pos hn5), if_pos (by rw [hasR_n hi hn5]; simp; omega)]; exact ⟨rfl, rfl⟩) dX12_net_111 (Nat.le_of_ble_eq_true rfl) (Nat.le_of_ble_eq_true rfl)
            · -- f 73
              refine lv_aload_n hx hb dX12_net_73 rfl (lv_at hl 0 rfl) ?_
              refine lv_iconst (v := nI 4) hx hb dX12_net_74 (by decide) ?_
              refine cV_w0 (rest := []) hC (c_m_fails l E ad lk tr (va_up N 0 0) X F G H.size 4) kw_843 iy_X12_fails ⟨Nat.le_of_ble_eq_true rfl, Nat.le_of_ble_eq_true rfl⟩ ⟨rfl, rfl⟩ hK hP hD hS hA (va_recv hK hP (ci := 10) (q0 := 0) rfl rfl) rfl hl.1 rfl (Nat.le_of_ble_eq_true rfl) dX12_net_75 ⟨Nat.le_of_ble_eq_true rfl, Nat.le_of_ble_eq_true rfl⟩ (fun v_ w_ H locs hpost hP hD hS => ?_)
              obtain ⟨rfl, rfl⟩ := hpost
              refine W.eq (g2 := F0 m 78 ls [.int ((-10) - nI 4)]) rfl ?_
              exact rw_i hC rfl hP hD hS (by rw [if_neg (by rw [c_1]; decide), if_neg (by rw [c_2]; decide), hck, if_neg c_3, if_neg (fun h => h c_5), if_pos (i32_lt c_7)]; exact ⟨rfl, rfl⟩) dX12_net_78 (Nat.le_of_ble_eq_true rfl) (Nat.le_of_ble_eq_true rfl)
          · -- f 62
            exact absurd c_6 c_3
        · -- f 45
          refine lv_aload_n hx hb dX12_net_45 rfl (lv_at hl 0 rfl) ?_
          refine lv_iconst (v := nI 2) hx hb dX12_net_46 (by decide) ?_
          refine cV_w0 (rest := []) hC (c_m_fails l E ad lk tr (va_up N 0 0) X F G H.size 2) kw_843 iy_X12_fails ⟨Nat.le_of_ble_eq_true rfl, Nat.le_of_ble_eq_true rfl⟩ ⟨rfl, rfl⟩ hK hP hD hS hA (va_recv hK hP (ci := 10) (q0 := 0) rfl rfl) rfl hl.1 rfl (Nat.le_of_ble_eq_true rfl) dX12_net_47 ⟨Nat.le_of_ble_eq_true rfl, Nat.le_of_ble_eq_true rfl⟩ (fun v_ w_ H locs hpost hP hD hS => ?_)
          obtain ⟨rfl, rfl⟩ := hpost
          refine W.eq (g2 := F0 m 50 ls [.int ((-10) - nI 2)]) rfl ?_
          exact rw_i hC rfl hP hD hS (by rw [if_neg (by rw [c_1]; decide), if_neg (by rw [c_2]; decide), hck, if_neg c_3, if_pos c_5]; exact ⟨rfl, rfl⟩) dX12_net_50 (Nat.le_of_ble_eq_true rfl) (Nat.le_of_ble_eq_true rfl)
    · -- f 21
      refine lv_bipush (v := -2) hx hb dX12_net_21 (by decide) ?_
      exact rw_i hC rfl hP hD hS (by rw [if_neg (by rw [c_1]; decide), if_pos c_2]; exact ⟨rfl, rfl⟩) dX12_net_23 (Nat.le_of_ble_eq_true rfl) (Nat.le_of_ble_eq_true rfl)
  · -- f 12
    refine lv_iconst (v := -1) hx hb dX12_net_12 (by decide) ?_
    exact rw_i hC rfl hP hD hS (by rw [if_pos c_1]; exact ⟨rfl, rfl⟩) dX12_net_13 (Nat.le_of_ble_eq_true rfl) (Nat.le_of_ble_eq_true rfl)
