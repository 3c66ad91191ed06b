set_option maxHeartbeats 4000000 in
set_option maxRecDepth 100000 in
theorem c_m_layNet (l : Launch) (E : EE) (ad : Nat → Nat) (lk : Nat) (tr : Int32) (N : Nat → Nat) (X : Nat → Nat → Int32) (F G : Nat → Nat → Nat) (sz : Nat) (hT : TB N F) (x0 n0 : Nat) (h1 : x0 < 2 ^ 31) (h2 : n0 ≤ 4) : Wr l yX12_layNet cX12_layNet 6 none rm_X12_layNet 0 0 E (mW E ad lk tr N X F G) sz [.ref (ad 0), .int (nI x0), .int (nI n0)] (fun v w1 => v = none ∧ ∃ f28 : Nat → Nat, w1 = mW E ad lk tr N X (va_up F 28 f28) G ∧ (∀ p, p < n0 → f28 p = ntC n0 x0 p) ∧ ∀ j, f28 j < 16) := by
  refine mk_wr (by decide) (Nat.le_of_ble_eq_true rfl) ?_
  intro p e s m args below meth c hC hin hK A hA hP hD hS ls hl
  obtain ⟨hx, hb, hr, hts, hown, hml, hlk, hN⟩ := id hC
  have hl : lv_has ls 6 [(0, .ref (ad 0)), (1, .int (nI x0)), (2, .int (nI n0))] := hl
  obtain ⟨H, hH⟩ : ∃ z, z = s.heap := ⟨_, rfl⟩
  have hS : va_S A s.heap H [] := by rw [hH]; exact hS
  rw [← hH] at hP
  refine W_heap hH ?_
  obtain ⟨locs, hlo⟩ : ∃ z : List Loc, z = [] := ⟨_, rfl⟩
  rw [← hlo] at hS ⊢
  refine lv_iload_n hx hb dX12_layNet_0 rfl (lv_at hl 1 rfl) ?_
  refine lv_istore_n (lv' := [(3, .int (nI x0)), (0, .ref (ad 0)), (1, .int (nI x0)), (2, .int (nI n0))]) hx hb dX12_layNet_1 rfl hl (by decide) rfl (fun ls hl => ?_)
  refine lv_iconst (v := nI 0) hx hb dX12_layNet_2 (by decide) ?_
  refine lv_istore (lv' := [(4, .int (nI 0)), (3, .int (nI x0)), (0, .ref (ad 0)), (1, .int (nI x0)), (2, .int (nI n0))]) hx hb dX12_layNet_3 hl (by decide) rfl (fun ls hl => ?_)
  have lp_1 : ∀ (n_lp_1 : Nat) (p1 : Nat) (g28 : Nat → Nat) (hp1 : p1 ≤ n0) (hg1 : ∀ p, p < p1 → g28 p = ntC n0 x0 p) (hg2 : ∀ j, g28 j < 16), n0 - p1 < n_lp_1 → ∀ (H : Heap) (locs : List Loc) (hP : va_P E.1 vwCl (mW E ad lk tr N X (va_up F 28 g28) G) H) (hD : va_D A (mW E ad lk tr N X (va_up F 28 g28) G)) (hS : va_S A s.heap H locs) (ls : Array Slot), lv_has ls 6 [(0, .ref (ad 0)), (2, .int (nI n0)), (3, .int (nI (x0 >>> bP n0 p1))), (4, .int (nI p1))] → W p l e rm_X12_layNet s m args below meth c H locs 0 0 (MQ below (wr_Q E A (fun v w1 => v = none ∧ ∃ f28 : Nat → Nat, w1 = mW E ad lk tr N X (va_up F 28 f28) G ∧ (∀ p, p < n0 → f28 p = ntC n0 x0 p) ∧ ∀ j, f28 j < 16)) args s 0 0 A) (F0 m 5 ls []) := by
    intro n_lp_1
    induction n_lp_1 with
    | zero => intro p1 g28 hp1 hg1 hg2; intro hm_lp_1; exact absurd hm_lp_1 (Nat.not_lt_zero _)
    | succ n_lp_1 ih_lp_1 =>
      intro p1 g28 hp1 hg1 hg2 hm_lp_1 H locs hP hD hS ls hl
      have hxs := shr_le x0 (bP n0 p1)
      refine lv_iload hx hb dX12_layNet_5 (lv_at hl 3 rfl) ?_
      refine lv_iload_n hx hb dX12_layNet_7 rfl (lv_at hl 1 rfl) ?_
      refine n_icmp_ge (tgt := 67) hx hb (by omega) (by omega) dX12_layNet_8 (by decide) (fun c_2 => ?_) (fun c_2 => ?_)
      · -- t 67
        exact rw_v hC hP hD hS (⟨rfl, g28, rfl, fun p h => hg1 p (by omega), hg2⟩) dX12_layNet_67 (Nat.le_of_ble_eq_true rfl) (Nat.le_of_ble_eq_true rfl)
      · -- f 11
        refine lv_aload_n hx hb dX12_layNet_11 rfl (lv_at hl 0 rfl) ?_
        refine va_get (D := E.1) (ci := 10) (v := .ref (ad 28)) (C := RX12) (T := TX12) (N := 30) hx hb hts iX12 hown hK hP 0 rfl rfl 28 (by decide) (hts _ kw_767) (fun _ h9 => h9) rfl dX12_layNet_12 ?_
        refine lv_iload hx hb dX12_layNet_15 (lv_at hl 3 rfl) ?_
        refine lv_iconst (v := nI 0) hx hb dX12_layNet_17 (by decide) ?_
        refine n_iast hx hb hK hP hD hS 18 rfl (by omega) (by decide) dX12_layNet_18 (fun H locs hP hD hS => ?_)
        have hP : va_P E.1 vwCl (mW E ad lk tr N X (va_up F 28 (va_up g28 p1 0)) G) H := hP
        have hD : va_D A (mW E ad lk tr N X (va_up F 28 (va_up g28 p1 0)) G) := hD
        refine lv_iconst (v := nI 0) hx hb dX12_layNet_19 (by decide) ?_
        refine lv_istore (lv' := [(5, .int (nI 0)), (0, .ref (ad 0)), (2, .int (nI n0)), (3, .int (nI (x0 >>> bP n0 p1))), (4, .int (nI p1))]) hx hb dX12_layNet_20 hl (by decide) rfl (fun ls hl => ?_)
        have lp_3 : ∀ (n_lp_3 : Nat) (q1 : Nat) (g28b : Nat → Nat) (hq1 : q1 ≤ n0) (hb1 : ∀ p, p < p1 → g28b p = ntC n0 x0 p) (hb2 : ∀ j, g28b j < 16) (hb3 : g28b p1 = vQ x0 (bP n0 p1) p1 q1), n0 - q1 < n_lp_3 → ∀ (H : Heap) (locs : List Loc) (hP : va_P E.1 vwCl (mW E ad lk tr N X (va_up F 28 g28b) G) H) (hD : va_D A (mW E ad lk tr N X (va_up F 28 g28b) G)) (hS : va_S A s.heap H locs) (ls : Array Slot), lv_has ls 6 [(0, .ref (ad 0)), (2, .int (nI n0)), (3, .int (nI (x0 >>> (bP n0 p1 + cQ p1 q1)))), (4, .int (nI p1)), (5, .int (nI q1))] → W p l e rm_X12_layNet s m args below meth c H locs 0 0 (MQ below (wr_Q E A (fun v w1 => v = none ∧ ∃ f28 : Nat → Nat, w1 = mW E ad lk tr N X (va_up F 28 f28) G ∧ (∀ p, p < n0 → f28 p = ntC n0 x0 p) ∧ ∀ j, f28 j < 16)) args s 0 0 A) (F0 m 22 ls []) := by
          intro n_lp_3
          induction n_lp_3 with
          | zero => intro q1 g28b hq1 hb1 hb2 hb3; intro hm_lp_3; exact absurd hm_lp_3 (Nat.not_lt_zero _)
          | succ n_lp_3 ih_lp_3 =>
            intro q1 g28b hq1 hb1 hb2 hb3 hm_lp_3 H locs hP hD hS ls hl
            have hxs := shr_le x0 (bP n0 p1 + cQ p1 q1)
            have hb4 := hb2 p1
            refine lv_iload hx hb dX12_layNet_22 (lv_at hl 4 rfl) ?_
            refine lv_iload_n hx hb dX12_layNet_24 rfl (lv_at hl 1 rfl) ?_
            refine n_icmp_ge (tgt := 61) hx hb (by omega) (by omega) dX12_layNet_25 (by decide) (fun c_4 => ?_) (fun c_4 => ?_)
            · -- t 61
              refine lv_iinc (v := nI (p1 + 1)) (lv' := [(4, .int (nI (p1 + 1))), (0, .ref (ad 0)), (2, .int (nI n0)), (3, .int (nI (x0 >>> (bP n0 p1 + cQ p1 q1)))), (5, .int (nI q1))]) hx hb dX12_layNet_61 hl (k := 3) rfl (ii_1 _) (by decide) rfl (fun ls hl => ?_)
              refine lv_goto (tgt := 5) hx hb dX12_layNet_64 (by decide) ?_
              exact ih_lp_1 (p1 + 1) g28b (by omega) (fun p h => (by rcases Nat.lt_or_ge p p1 with h6 | h6; exact hb1 p h6; rw [show p = p1 by omega, hb3, show q1 = n0 by omega]; rfl)) hb2 (by omega) H locs hP hD hS ls (by have h9 : lv_has ls 6 [(0, .ref (ad 0)), (2, .int (nI n0)), (3, .int (nI (x0 >>> (bP n0 p1 + cQ p1 q1)))), (4, .int (nI (p1 + 1)))] := lv_sub hl [1, 2, 3, 0] rfl; rw [show q1 = n0 by omega] at h9; exact h9)
            · -- f 28
              refine lv_iload hx hb dX12_layNet_28 (lv_at hl 3 rfl) ?_
              refine lv_iload hx hb dX12_layNet_30 (lv_at hl 4 rfl) ?_
              refine n_icmp_eq (tgt := 55) hx hb (by omega) (by omega) dX12_layNet_32 (by decide) (fun c_5 => ?_) (fun c_5 => ?_)
              · -- t 55
                refine lv_iinc (v := nI (q1 + 1)) (lv' := [(5, .int (nI (q1 + 1))), (0, .ref (ad 0)), (2, .int (nI n0)), (3, .int (nI (x0 >>> (bP n0 p1 + cQ p1 q1)))), (4, .int (nI p1))]) hx hb dX12_layNet_55 hl (k := 4) rfl (ii_1 _) (by decide) rfl (fun ls hl => ?_)
                refine lv_goto (tgt := 22) hx hb dX12_layNet_58 (by decide) ?_
                exact ih_lp_3 (q1 + 1) g28b (by omega) hb1 hb2 (by rw [hb3]; simp only [vQ]; rw [if_pos c_5.symm]) (by omega) H locs hP hD hS ls (by have h9 : lv_has ls 6 [(0, .ref (ad 0)), (2, .int (nI n0)), (3, .int (nI (x0 >>> (bP n0 p1 + cQ p1 q1)))), (4, .int (nI p1)), (5, .int (nI (q1 + 1)))] := lv_sub hl [1, 2, 3, 4, 0] rfl; rw [show cQ p1 (q1 + 1) = cQ p1 q1 by simp only [cQ]; rw [if_pos c_5.symm]; rfl]; exact h9)
              · -- f 35
                refine lv_aload_n hx hb dX12_layNet_35 rfl (lv_at hl 0 rfl) ?_
                refine va_get (D := E.1) (ci := 10) (v := .ref (ad 28)) (C := RX12) (T := TX12) (N := 30) hx hb hts iX12 hown hK hP 0 rfl rfl 28 (by decide) (hts _ kw_767) (fun _ h9 => h9) rfl dX12_layNet_36 ?_
                refine lv_iload hx hb dX12_layNet_39 (lv_at hl 3 rfl) ?_
                refine lv_dup2_11 hx hb dX12_layNet_41 rfl rfl ?_
                refine n_iald hx hb hK hP 18 rfl (by omega) (by decide) dX12_layNet_42 ?_
                refine lv_iload_n hx hb dX12_layNet_43 rfl (lv_at hl 2 rfl) ?_
                refine lv_iconst (v := nI 1) hx hb dX12_layNet_44 (by decide) ?_
                refine n_iand hx hb dX12_layNet_45 ?_
                have f_6 : (x0 >>> (bP n0 p1 + cQ p1 q1)) &&& 1 ≤ 1 := Nat.and_le_right
                refine lv_iload hx hb dX12_layNet_46 (lv_at hl 4 rfl) ?_
                refine n_ishl hx hb (by omega) dX12_layNet_48 ?_
                refine n_ior hx hb dX12_layNet_49 ?_
                refine n_iast hx hb hK hP hD hS 18 rfl (by omega) (by decide) dX12_layNet_50 (fun H locs hP hD hS => ?_)
                have hP : va_P E.1 vwCl (mW E ad lk tr N X (va_up F 28 (va_up g28b p1 ((g28b p1) ||| (((x0 >>> (bP n0 p1 + cQ p1 q1)) &&& 1) <<< q1)))) G) H := hP
                have hD : va_D A (mW E ad lk tr N X (va_up F 28 (va_up g28b p1 ((g28b p1) ||| (((x0 >>> (bP n0 p1 + cQ p1 q1)) &&& 1) <<< q1)))) G) := hD
                refine lv_iload_n hx hb dX12_layNet_51 rfl (lv_at hl 2 rfl) ?_
                refine lv_iconst (v := nI 1) hx hb dX12_layNet_52 (by decide) ?_
                refine n_ishr hx hb (by omega) (by omega) dX12_layNet_53 ?_
                have f_7 := shr_le (x0 >>> (bP n0 p1 + cQ p1 q1)) 1
                refine lv_istore_n (lv' := [(3, .int (nI ((x0 >>> (bP n0 p1 + cQ p1 q1)) >>> 1))), (0, .ref (ad 0)), (2, .int (nI n0)), (4, .int (nI p1)), (5, .int (nI q1))]) hx hb dX12_layNet_54 rfl hl (by decide) rfl (fun ls hl => ?_)
                refine lv_iinc (v := nI (q1 + 1)) (lv' := [(5, .int (nI (q1 + 1))), (3, .int (nI ((x0 >>> (bP n0 p1 + cQ p1 q1)) >>> 1))), (0, .ref (ad 0)), (2, .int (nI n0)), (4, .int (nI p1))]) hx hb dX12_layNet_55 hl (k := 4) rfl (ii_1 _) (by decide) rfl (fun ls hl => ?_)
                refine lv_goto (tgt := 22) hx hb dX12_layNet_58 (by decide) ?_
                exact ih_lp_3 (q1 + 1) (va_up g28b p1 (g28b p1 ||| (x0 >>> (bP n0 p1 + cQ p1 q1) &&& 1) <<< q1)) (by omega) (fun p h => (vu_n _ _ (by omega)).trans (hb1 p h)) (fun j => (by unfold va_up; split; exact or_lt (n := 4) (hb2 p1) (shl_lt (n := 1) (by omega) (by omega)); exact hb2 j)) (by rw [vu_s, hb3]; simp only [vQ]; rw [if_neg (fun h => c_5 h.symm)]) (by omega) H locs hP hD hS ls (by have h9 : lv_has ls 6 [(0, .ref (ad 0)), (2, .int (nI n0)), (3, .int (nI ((x0 >>> (bP n0 p1 + cQ p1 q1)) >>> 1))), (4, .int (nI p1)), (5, .int (nI (q1 + 1)))] := lv_sub hl [2, 3, 1, 4, 0] rfl; rw [show cQ p1 (q1 + 1) = cQ p1 q1 + 1 by simp only [cQ]; rw [if_neg (fun h => c_5 h.symm)], ← Nat.add_assoc, Nat.shiftRight_add]; exact h9)
        exact lp_3 _ 0 (va_up g28 p1 0) (by omega) (fun p h => (vu_n _ _ (by omega)).trans (hg1 p h)) (fun j => (by unfold va_up; split; decide; exact hg2 j)) (vu_s _ _ _) (Nat.lt_succ_self _) H locs hP hD hS ls (lv_sub hl [1, 2, 3, 4, 0] rfl)
  exact lp_1 _ 0 (F 28) (by omega) (fun p h => absurd h (by omega)) hT.2 (Nat.lt_succ_self _) H locs hP hD hS ls (lv_sub hl [2, 4, 1, 0] rfl)

set_option maxHeartbeats 4000000 in
set_option maxRecDepth 100000 in
theorem c_m_nets (l : Launch) (E : EE) (ad : Nat → Nat) (lk : Nat) (tr : Int32) (N : Nat → Nat) (X : Nat → Nat → Int32) (F G : Nat → Nat → Nat) (sz : Nat) (hT : TB N F) (h17 : N 17 + 64 < 2 ^ 31) (a1 a2 a3 : Int32) : Wr l yX12_nets cX12_nets 6 (some .int) rm_X12_nets 0 0 E (mW E ad lk tr N X F G) sz [.ref (ad 0), .int a1, .int a2, .int a3] (fun v w1 => v = some (.int (s_nets a1 a2 a3)) ∧ QP E ad tr N X F 64 w1) := by
  refine mk_wr (by decide) (Nat.le_of_ble_eq_true rfl) ?_
  intro p e s m args below meth c hC hin hK A hA hP hD hS ls hl
  obtain ⟨hx, hb, hr, hts, hown, hml, hlk, hN⟩ := id hC
  have hl : lv_has ls 6 [(0, .ref (ad 0)), (1, .int a1), (2, .int a2), (3, .int a3)] := hl
  obtain ⟨H, hH⟩ : ∃ z, z = s.heap := ⟨_, rfl⟩
  have hS : va_S A s.heap H [] := by rw [hH]; exact hS
  rw [← hH] at hP
  refine W_heap hH ?_
  obtain ⟨locs, hlo⟩ : ∃ z : List Loc, z = [] := ⟨_, rfl⟩
  rw [← hlo] at hS ⊢
  refine lv_iload_n hx hb dX12_nets_0 rfl (lv_at hl 2 rfl) ?_
  refine cS_p (rest := []) hC (c_m_isRule l a2) kw_918 sy_X12_isRule ⟨Nat.le_of_ble_eq_true rfl, Nat.le_of_ble_eq_true rfl⟩ ⟨rfl, rfl⟩ rfl hl.1 rfl (Nat.le_of_ble_eq_true rfl) dX12_nets_1 ⟨Nat.le_of_ble_eq_true rfl, Nat.le_of_ble_eq_true rfl⟩ ?_
  refine b_if_ne (tgt := 9) hx hb dX12_nets_4 (by decide) (fun c_1 => ?_) (fun c_1 => ?_)
  · -- t 9
    obtain ⟨r, hr, rfl⟩ := isIn_nat (by decide) c_1
    have hcr := nI_clamp (n := r) (by omega)
    have hl : lv_has ls 6 [(0, .ref (ad 0)), (1, .int a1), (2, .int (nI r)), (3, .int a3)] := hl
    refine lv_iload_n hx hb dX12_nets_9 rfl (lv_at hl 1 rfl) ?_
    refine lv_iconst (v := nI 1) hx hb dX12_nets_10 (by decide) ?_
    refine lv_iconst (v := nI 3) hx hb dX12_nets_11 (by decide) ?_
    refine cS_p (rest := []) hC (c_isIn l a1 (nI 1) (nI 3)) kw_837 sy_X12_isIn ⟨Nat.le_of_ble_eq_true rfl, Nat.le_of_ble_eq_true rfl⟩ ⟨rfl, rfl⟩ rfl hl.1 rfl (Nat.le_of_ble_eq_true rfl) dX12_nets_12 ⟨Nat.le_of_ble_eq_true rfl, Nat.le_of_ble_eq_true rfl⟩ ?_
    refine b_if_eq (tgt := 27) hx hb dX12_nets_15 (by decide) (fun c_2 => ?_) (fun c_2 => ?_)
    · -- t 27
      refine lv_bipush (v := -2) hx hb dX12_nets_27 (by decide) ?_
      exact rw_i hC rfl hP hD hS (⟨by rw [s_nets, if_neg (by rw [c_1]; decide), if_pos c_2], QP.rf hT⟩) dX12_nets_29 (Nat.le_of_ble_eq_true rfl) (Nat.le_of_ble_eq_true rfl)
    · -- f 18
      obtain ⟨n1, hn1, hn3, rfl⟩ := isIn_1 (by decide) c_2
      have hcn1 := nI_clamp (n := n1) (by omega)
      have hnn := nn6 n1 hn3
      have hn4 : n1 ≤ 4 := by omega
      have hl : lv_has ls 6 [(0, .ref (ad 0)), (1, .int (nI n1)), (2, .int (nI r)), (3, .int a3)] := hl
      refine lv_iload_n hx hb dX12_nets_18 rfl (lv_at hl 3 rfl) ?_
      refine lv_iconst (v := nI 0) hx hb dX12_nets_19 (by decide) ?_
      refine lv_iconst (v := nI 3) hx hb dX12_nets_20 (by decide) ?_
      refine cS_p (rest := []) hC (c_isIn l a3 (nI 0) (nI 3)) kw_837 sy_X12_isIn ⟨Nat.le_of_ble_eq_true rfl, Nat.le_of_ble_eq_true rfl⟩ ⟨rfl, rfl⟩ rfl hl.1 rfl (Nat.le_of_ble_eq_true rfl) dX12_nets_21 ⟨Nat.le_of_ble_eq_true rfl, Nat.le_of_ble_eq_true rfl⟩ ?_
      refine b_if_ne (tgt := 30) hx hb dX12_nets_24 (by decide) (fun c_3 => ?_) (fun c_3 => ?_)
      · -- t 30
        obtain ⟨w, hw, rfl⟩ := isIn_nat (by decide) c_3
        have hcw := nI_clamp (n := w) (by omega)
        have hl : lv_has ls 6 [(0, .ref (ad 0)), (1, .int (nI n1)), (2, .int (nI r)), (3, .int (nI w))] := hl
        refine lv_iconst (v := nI 0) hx hb dX12_nets_30 (by decide) ?_
        refine lv_istore (lv' := [(4, .int (nI 0)), (0, .ref (ad 0)), (1, .int (nI n1)), (2, .int (nI r)), (3, .int (nI w))]) hx hb dX12_nets_31 hl (by decide) rfl (fun ls hl => ?_)
        refine lv_iconst (v := nI 0) hx hb dX12_nets_33 (by decide) ?_
        refine lv_istore (lv' := [(5, .int (nI 0)), (4, .int (nI 0)), (0, .ref (ad 0)), (1, .int (nI n1)), (2, .int (nI r)), (3, .int (nI w))]) hx hb dX12_nets_34 hl (by decide) rfl (fun ls hl => ?_)
        have lp_4 : ∀ (n_lp_4 : Nat) (x1 : Nat) (lk2 : Nat) (N2 : Nat → Nat) (X2 : Nat → Nat → Int32) (F2 G2 : Nat → Nat → Nat) (hx1 : x1 ≤ 1 <<< (n1 * (n1 - 1))) (hsc2 : SC N N2 X X2 F F2) (hTB2 : TB N2 F2) (h172 : N2 17 ≤ N 17 + (x1)), 1 <<< (n1 * (n1 - 1)) - x1 < n_lp_4 → ∀ (H : Heap) (locs : List Loc) (hP : va_P E.1 vwCl (mW E ad lk2 tr N2 X2 F2 G2) H) (hD : va_D A (mW E ad lk2 tr N2 X2 F2 G2)) (hS : va_S A s.heap H locs) (ls : Array Slot), lv_has ls 6 [(0, .ref (ad 0)), (1, .int (nI n1)), (2, .int (nI r)), (3, .int (nI w)), (4, .int (nI (cntB (netsB n1 r w) x1))), (5, .int (nI x1))] → W p l e rm_X12_nets s m args below meth c H locs 0 0 (MQ below (wr_Q E A (fun v w1 => v = some (.int (s_nets (nI n1) (nI r) (nI w))) ∧ QP E ad tr N X F 64 w1)) args s 0 0 A) (F0 m 36 ls []) := by
          intro n_lp_4
          induction n_lp_4 with
          | zero => intro x1 lk2 N2 X2 F2 G2 hx1 hsc2 hTB2 h172; intro hm_lp_4; exact absurd hm_lp_4 (Nat.not_lt_zero _)
          | succ n_lp_4 ih_lp_4 =>
            intro x1 lk2 N2 X2 F2 G2 hx1 hsc2 hTB2 h172 hm_lp_4 H locs hP hD hS ls hl
            have hcb := cntB_le (netsB n1 r w) x1
            refine lv_iload hx hb dX12_nets_36 (lv_at hl 5 rfl) ?_
            refine lv_iconst (v := nI 1) hx hb dX12_nets_38 (by decide) ?_
            refine lv_iload_n hx hb dX12_nets_39 rfl (lv_at hl 1 rfl) ?_
            refine lv_iload_n hx hb dX12_nets_40 rfl (lv_at hl 1 rfl) ?_
            refine lv_iconst (v := nI 1) hx hb dX12_nets_41 (by decide) ?_
            refine n_isub hx hb (by omega) dX12_nets_42 ?_
            refine n_imul hx hb dX12_nets_43 ?_
            refine n_ishl hx hb (by omega) dX12_nets_44 ?_
            refine n_icmp_ge (tgt := 101) hx hb (by omega) (by omega) dX12_nets_45 (by decide) (fun c_5 => ?_) (fun c_5 => ?_)
            · -- t 101
              refine lv_iload hx hb dX12_nets_101 (lv_at hl 4 rfl) ?_
              exact rw_i hC rfl hP hD hS (⟨by rw [s_nets, if_neg (by rw [c_1]; decide), if_neg (by rw [c_2]; decide), if_neg (by rw [c_3]; decide), hcr, hcn1, hcw, show x1 = 1 <<< (n1 * (n1 - 1)) by omega], ⟨_, _, _, _, _, rfl, hsc2, hTB2, by omega⟩⟩) dX12_nets_103 (Nat.le_of_ble_eq_true rfl) (Nat.le_of_ble_eq_true rfl)
            · -- f 48
              refine lv_aload_n hx hb dX12_nets_48 rfl (lv_at hl 0 rfl) ?_
              refine lv_iload hx hb dX12_nets_49 (lv_at hl 5 rfl) ?_
              refine lv_iload_n hx hb dX12_nets_51 rfl (lv_at hl 1 rfl) ?_
              refine cV_w0 (rest := []) hC (c_m_layNet l E ad lk2 tr N2 X2 F2 G2 H.size hTB2 x1 n1 (by omega) (by omega)) kw_1040 iy_X12_layNet ⟨Nat.le_of_ble_eq_true rfl, Nat.le_of_ble_eq_true rfl⟩ ⟨rfl, rfl⟩ hK hP hD hS hA (va_recv hK hP (ci := 10) (q0 := 0) rfl rfl) rfl hl.1 rfl (Nat.le_of_ble_eq_true rfl) dX12_nets_52 ⟨Nat.le_of_ble_eq_true rfl, Nat.le_of_ble_eq_true rfl⟩ (fun v_ w_ H locs hpost hP hD hS => ?_)
              obtain ⟨rfl, f28, rfl, hq1, hq2⟩ := hpost
              have hjc := joinM_cong hq1
              have hcc := CN_cong (r := r) (tok := 1 <<< n1 - 1) hn4 hq1 (VS_start hn4)
              refine W.eq (g2 := F0 m 55 ls []) rfl ?_
              refine lv_aload_n hx hb dX12_nets_55 rfl (lv_at hl 0 rfl) ?_
              refine va_get (D := E.1) (ci := 10) (v := .ref (ad 28)) (C := RX12) (T := TX12) (N := 30) hx hb hts iX12 hown hK hP 0 rfl rfl 28 (by decide) (hts _ kw_767) (fun _ h9 => h9) rfl dX12_nets_56 ?_
              refine lv_iload_n hx hb dX12_nets_59 rfl (lv_at hl 1 rfl) ?_
              refine cS_r (rest := []) hC (c_join l E (ad 28) f28 n1 (by omega) (fun j _ => hq2 j)) kw_1013 sy_X12_isJoined ⟨Nat.le_of_ble_eq_true rfl, Nat.le_of_ble_eq_true rfl⟩ ⟨rfl, rfl⟩ hK (hP.sub (ws' := aW E (ad 28) f28) [18] rfl) rfl hl.1 rfl (Nat.le_of_ble_eq_true rfl) dX12_nets_60 ⟨Nat.le_of_ble_eq_true rfl, Nat.le_of_ble_eq_true rfl⟩ ?_
              refine W.eq (g2 := F0 m 63 ls [.int (bI (joinM f28 n1))]) rfl ?_
              refine b_if_eq (tgt := 95) hx hb dX12_nets_63 (by decide) (fun c_6 => ?_) (fun c_6 => ?_)
              · -- t 95
                have hB : netsB n1 r w x1 = false := by unfold netsB; rw [← hjc, ← hcc, c_6]; simp
                refine lv_iinc (v := nI (x1 + 1)) (lv' := [(5, .int (nI (x1 + 1))), (0, .ref (ad 0)), (1, .int (nI n1)), (2, .int (nI r)), (3, .int (nI w)), (4, .int (nI (cntB (netsB n1 r w) x1)))]) hx hb dX12_nets_95 hl (k := 5) rfl (ii_1 _) (by decide) rfl (fun ls hl => ?_)
                refine lv_goto (tgt := 36) hx hb dX12_nets_98 (by decide) ?_
                exact ih_lp_4 (x1 + 1) lk2 N2 X2 (va_up F2 28 f28) G2 (by omega) hsc2 (⟨hTB2.1, hq2⟩) (by omega) (by omega) H locs hP hD hS ls (by have h9 : lv_has ls 6 [(0, .ref (ad 0)), (1, .int (nI n1)), (2, .int (nI r)), (3, .int (nI w)), (4, .int (nI (cntB (netsB n1 r w) x1))), (5, .int (nI (x1 + 1)))] := lv_sub hl [1, 2, 3, 4, 5, 0] rfl; rw [cntB_f hB]; exact h9)
              · -- f 66
                refine lv_iload hx hb dX12_nets_66 (lv_at hl 4 rfl) ?_
                refine lv_iload_n hx hb dX12_nets_68 rfl (lv_at hl 3 rfl) ?_
                refine lv_iconst (v := nI 3) hx hb dX12_nets_69 (by decide) ?_
                refine n_icmp_eq (tgt := 87) hx hb (by omega) (by omega) dX12_nets_70 (by decide) (fun c_7 => ?_) (fun c_7 => ?_)
                · -- t 87
                  have hB : netsB n1 r w x1 = true := by unfold netsB; rw [← hjc, ← hcc, c_6]; simp [c_7]
                  refine lv_iconst (v := nI 1) hx hb dX12_nets_87 (by decide) ?_
                  refine lv_goto (tgt := 92) hx hb dX12_nets_88 (by decide) ?_
                  refine n_iadd hx hb dX12_nets_92 ?_
                  refine lv_istore (lv' := [(4, .int (nI ((cntB (netsB n1 r w) x1) + 1))), (0, .ref (ad 0)), (1, .int (nI n1)), (2, .int (nI r)), (3, .int (nI w)), (5, .int (nI x1))]) hx hb dX12_nets_93 hl (by decide) rfl (fun ls hl => ?_)
                  refine lv_iinc (v := nI (x1 + 1)) (lv' := [(5, .int (nI (x1 + 1))), (4, .int (nI ((cntB (netsB n1 r w) x1) + 1))), (0, .ref (ad 0)), (1, .int (nI n1)), (2, .int (nI r)), (3, .int (nI w))]) hx hb dX12_nets_95 hl (k := 5) rfl (ii_1 _) (by decide) rfl (fun ls hl => ?_)
                  refine lv_goto (tgt := 36) hx hb dX12_nets_98 (by decide) ?_
                  exact ih_lp_4 (x1 + 1) lk2 N2 X2 (va_up F2 28 f28) G2 (by omega) hsc2 (⟨hTB2.1, hq2⟩) (by omega) (by omega) H locs hP hD hS ls (by have h9 : lv_has ls 6 [(0, .ref (ad 0)), (1, .int (nI n1)), (2, .int (nI r)), (3, .int (nI w)), (4, .int (nI ((cntB (netsB n1 r w) x1) + 1))), (5, .int (nI (x1 + 1)))] := lv_sub hl [2, 3, 4, 5, 1, 0] rfl; rw [cntB_t hB]; exact h9)
                · -- f 73
                  refine lv_aload_n hx hb dX12_nets_73 rfl (lv_at hl 0 rfl) ?_
                  refine lv_aload_n hx hb dX12_nets_74 rfl (lv_at hl 0 rfl) ?_
                  refine va_get (D := E.1) (ci := 10) (v := .ref (ad 28)) (C := RX12) (T := TX12) (N := 30) hx hb hts iX12 hown hK hP 0 rfl rfl 28 (by decide) (hts _ kw_767) (fun _ h9 => h9) rfl dX12_nets_75 ?_
                  refine lv_iload_n hx hb dX12_nets_78 rfl (lv_at hl 1 rfl) ?_
                  refine lv_iload_n hx hb dX12_nets_79 rfl (lv_at hl 2 rfl) ?_
                  refine cV_w0 (rest := [.int (nI (cntB (netsB n1 r w) x1))]) hC (c_m_verdictFrom l E ad lk2 tr N2 X2 (va_up F2 28 f28) G2 H.size ⟨hTB2.1, hq2⟩ (by omega) n1 r (by omega) (by omega)) kw_1032 iy_X12_verdictFrom ⟨Nat.le_of_ble_eq_true rfl, Nat.le_of_ble_eq_true rfl⟩ ⟨rfl, rfl⟩ hK hP hD hS hA (va_recv hK hP (ci := 10) (q0 := 0) rfl rfl) rfl hl.1 rfl (Nat.le_of_ble_eq_true rfl) dX12_nets_80 ⟨Nat.le_of_ble_eq_true rfl, Nat.le_of_ble_eq_true rfl⟩ (fun v_ w_ H locs hpost hP hD hS => ?_)
                  obtain ⟨rfl, X5, F5, G5, rfl, hle5, hf1, hf2, hf3⟩ := hpost
                  have hvl := verd_le (CN n1 f28 r (startN n1) (1 <<< n1 - 1))
                  refine W.eq (g2 := F0 m 83 ls [.int (nI (verd (CN n1 f28 r (startN n1) (1 <<< n1 - 1)))), .int (nI (cntB (netsB n1 r w) x1))]) rfl ?_
                  refine lv_iload_n hx hb dX12_nets_83 rfl (lv_at hl 3 rfl) ?_
                  refine n_icmp_ne (tgt := 91) hx hb (by omega) (by omega) dX12_nets_84 (by decide) (fun c_8 => ?_) (fun c_8 => ?_)
                  · -- t 91
                    have hB : netsB n1 r w x1 = false := by unfold netsB; rw [← hjc, ← hcc, c_6]; simp [c_7, c_8]
                    refine lv_iconst (v := nI 0) hx hb dX12_nets_91 (by decide) ?_
                    refine n_iadd hx hb dX12_nets_92 ?_
                    refine lv_istore (lv' := [(4, .int (nI ((cntB (netsB n1 r w) x1) + 0))), (0, .ref (ad 0)), (1, .int (nI n1)), (2, .int (nI r)), (3, .int (nI w)), (5, .int (nI x1))]) hx hb dX12_nets_93 hl (by decide) rfl (fun ls hl => ?_)
                    refine lv_iinc (v := nI (x1 + 1)) (lv' := [(5, .int (nI (x1 + 1))), (4, .int (nI ((cntB (netsB n1 r w) x1) + 0))), (0, .ref (ad 0)), (1, .int (nI n1)), (2, .int (nI r)), (3, .int (nI w))]) hx hb dX12_nets_95 hl (k := 5) rfl (ii_1 _) (by decide) rfl (fun ls hl => ?_)
                    refine lv_goto (tgt := 36) hx hb dX12_nets_98 (by decide) ?_
                    exact ih_lp_4 (x1 + 1) (ad 28) (va_up (va_up (va_up N2 17 (N2 17 + 1)) 22 n1) 23 r) X5 F5 G5 (by omega) (hsc2.tr (SC_fr (N2 := va_up (va_up (va_up N2 17 (N2 17 + 1)) 22 n1) 23 r) (F := va_up F2 28 f28) ⟨rfl, rfl, rfl⟩ hf1 hf2)) (⟨hle5, fun j => by rw [hf1 28 (by decide) (by decide) (by decide) (by decide) (by decide)]; exact hq2 j⟩) (by show N2 17 + 1 ≤ _; omega) (by omega) H locs hP hD hS ls (by have h9 : lv_has ls 6 [(0, .ref (ad 0)), (1, .int (nI n1)), (2, .int (nI r)), (3, .int (nI w)), (4, .int (nI ((cntB (netsB n1 r w) x1) + 0))), (5, .int (nI (x1 + 1)))] := lv_sub hl [2, 3, 4, 5, 1, 0] rfl; rw [cntB_f hB]; exact h9)
                  · -- f 87
                    have hB : netsB n1 r w x1 = true := by unfold netsB; rw [← hjc, ← hcc, c_6]; simp [c_8]
                    refine lv_iconst (v := nI 1) hx hb dX12_nets_87 (by decide) ?_
                    refine lv_goto (tgt := 92) hx hb dX12_nets_88 (by decide) ?_
                    refine n_iadd hx hb dX12_nets_92 ?_
                    refine lv_istore (lv' := [(4, .int (nI ((cntB (netsB n1 r w) x1) + 1))), (0, .ref (ad 0)), (1, .int (nI n1)), (2, .int (nI r)), (3, .int (nI w)), (5, .int (nI x1))]) hx hb dX12_nets_93 hl (by decide) rfl (fun ls hl => ?_)
                    refine lv_iinc (v := nI (x1 + 1)) (lv' := [(5, .int (nI (x1 + 1))), (4, .int (nI ((cntB (netsB n1 r w) x1) + 1))), (0, .ref (ad 0)), (1, .int (nI n1)), (2, .int (nI r)), (3, .int (nI w))]) hx hb dX12_nets_95 hl (k := 5) rfl (ii_1 _) (by decide) rfl (fun ls hl => ?_)
                    refine lv_goto (tgt := 36) hx hb dX12_nets_98 (by decide) ?_
                    exact ih_lp_4 (x1 + 1) (ad 28) (va_up (va_up (va_up N2 17 (N2 17 + 1)) 22 n1) 23 r) X5 F5 G5 (by omega) (hsc2.tr (SC_fr (N2 := va_up (va_up (va_up N2 17 (N2 17 + 1)) 22 n1) 23 r) (F := va_up F2 28 f28) ⟨rfl, rfl, rfl⟩ hf1 hf2)) (⟨hle5, fun j => by rw [hf1 28 (by decide) (by decide) (by decide) (by decide) (by decide)]; exact hq2 j⟩) (by show N2 17 + 1 ≤ _; omega) (by omega) H locs hP hD hS ls (by have h9 : lv_has ls 6 [(0, .ref (ad 0)), (1, .int (nI n1)), (2, .int (nI r)), (3, .int (nI w)), (4, .int (nI ((cntB (netsB n1 r w) x1) + 1))), (5, .int (nI (x1 + 1)))] := lv_sub hl [2, 3, 4, 5, 1, 0] rfl; rw [cntB_t hB]; exact h9)
        exact lp_4 _ 0 lk N X F G (Nat.zero_le _) SC.rf hT (by omega) (Nat.lt_succ_self _) H locs hP hD hS ls (lv_sub hl [2, 3, 4, 5, 1, 0] rfl)
      · -- f 27
        refine lv_bipush (v := -2) hx hb dX12_nets_27 (by decide) ?_
        exact rw_i hC rfl hP hD hS (⟨by rw [s_nets, if_neg (by rw [c_1]; decide), if_neg (by rw [c_2]; decide), if_pos c_3], QP.rf hT⟩) dX12_nets_29 (Nat.le_of_ble_eq_true rfl) (Nat.le_of_ble_eq_true rfl)
  · -- f 7
    refine lv_iconst (v := -1) hx hb dX12_nets_7 (by decide) ?_
    exact rw_i hC rfl hP hD hS (⟨by rw [s_nets, if_pos c_1], QP.rf hT⟩) dX12_nets_8 (Nat.le_of_ble_eq_true rfl) (Nat.le_of_ble_eq_true rfl)
