set_option maxHeartbeats 4000000 in
set_option maxRecDepth 100000 in
theorem c_m_isPerson (l : Launch) (E : EE) (ad : Nat → Nat) (lk : Nat) (tr : Int32) (N : Nat → Nat) (X : Nat → Nat → Int32) (F G : Nat → Nat → Nat) (v : Int32) : Rd l yX12_isPerson cX12_isPerson 2 (some .boolean) rm_X12_isPerson E (mW E ad lk tr N X F G) [.ref (ad 0), .int v] (some (.int (bI (isP v (N 5))))) := by
  refine mk_rd (by decide) (Nat.le_of_ble_eq_true rfl) ?_
  intro p e s m args below meth c hC hK hP ls hl
  obtain ⟨hx, hb, hr, hts, hown, hml, hlk, hN⟩ := id hC
  have hl : lv_has ls 2 [(0, .ref (ad 0)), (1, .int v)] := hl
  refine lv_iload_n hx hb dX12_isPerson_0 rfl (lv_at hl 1 rfl) ?_
  refine lv_if_lt (tgt := 16) hx hb dX12_isPerson_1 (by decide) (fun c_1 => ?_) (fun c_1 => ?_)
  · -- t 16
    refine lv_iconst (v := nI 0) hx hb dX12_isPerson_16 (by decide) ?_
    exact rz_bE hC (by first | rw [isP_t (by assumption) (by assumption)]; rfl | rw [isP_f1 (by assumption)]; rfl | rw [isP_f2 (by assumption)]; rfl) dX12_isPerson_17
  · -- f 4
    refine lv_iload_n hx hb dX12_isPerson_4 rfl (lv_at hl 1 rfl) ?_
    refine lv_aload_n hx hb dX12_isPerson_5 rfl (lv_at hl 0 rfl) ?_
    refine va_get (D := E.1) (ci := 10) (v := .int (nI (N 5))) (C := RX12) (T := TX12) (N := 30) hx hb hts iX12 hown hK hP 0 rfl rfl 5 (by decide) (hts _ kw_744) (fun _ h9 => h9) rfl dX12_isPerson_6 ?_
    refine lv_icmp_ge (tgt := 16) hx hb dX12_isPerson_9 (by decide) (fun c_2 => ?_) (fun c_2 => ?_)
    · -- t 16
      refine lv_iconst (v := nI 0) hx hb dX12_isPerson_16 (by decide) ?_
      exact rz_bE hC (by first | rw [isP_t (by assumption) (by assumption)]; rfl | rw [isP_f1 (by assumption)]; rfl | rw [isP_f2 (by assumption)]; rfl) dX12_isPerson_17
    · -- f 12
      refine lv_iconst (v := nI 1) hx hb dX12_isPerson_12 (by decide) ?_
      refine lv_goto (tgt := 17) hx hb dX12_isPerson_13 (by decide) ?_
      exact rz_bE hC (by first | rw [isP_t (by assumption) (by assumption)]; rfl | rw [isP_f1 (by assumption)]; rfl | rw [isP_f2 (by assumption)]; rfl) dX12_isPerson_17

set_option maxHeartbeats 4000000 in
set_option maxRecDepth 100000 in
theorem c_m_isCall (l : Launch) (E : EE) (ad : Nat → Nat) (lk : Nat) (tr : Int32) (N : Nat → Nat) (X : Nat → Nat → Int32) (F G : Nat → Nat → Nat) (v : Int32) : Rd l yX12_isCall cX12_isCall 2 (some .boolean) rm_X12_isCall E (mW E ad lk tr N X F G) [.ref (ad 0), .int v] (some (.int (bI (isP v (N 9))))) := by
  refine mk_rd (by decide) (Nat.le_of_ble_eq_true rfl) ?_
  intro p e s m args below meth c hC hK hP ls hl
  obtain ⟨hx, hb, hr, hts, hown, hml, hlk, hN⟩ := id hC
  have hl : lv_has ls 2 [(0, .ref (ad 0)), (1, .int v)] := hl
  refine lv_iload_n hx hb dX12_isCall_0 rfl (lv_at hl 1 rfl) ?_
  refine lv_if_lt (tgt := 16) hx hb dX12_isCall_1 (by decide) (fun c_1 => ?_) (fun c_1 => ?_)
  · -- t 16
    refine lv_iconst (v := nI 0) hx hb dX12_isCall_16 (by decide) ?_
    exact rz_bE hC (by first | rw [isP_t (by assumption) (by assumption)]; rfl | rw [isP_f1 (by assumption)]; rfl | rw [isP_f2 (by assumption)]; rfl) dX12_isCall_17
  · -- f 4
    refine lv_iload_n hx hb dX12_isCall_4 rfl (lv_at hl 1 rfl) ?_
    refine lv_aload_n hx hb dX12_isCall_5 rfl (lv_at hl 0 rfl) ?_
    refine va_get (D := E.1) (ci := 10) (v := .int (nI (N 9))) (C := RX12) (T := TX12) (N := 30) hx hb hts iX12 hown hK hP 0 rfl rfl 9 (by decide) (hts _ kw_748) (fun _ h9 => h9) rfl dX12_isCall_6 ?_
    refine lv_icmp_ge (tgt := 16) hx hb dX12_isCall_9 (by decide) (fun c_2 => ?_) (fun c_2 => ?_)
    · -- t 16
      refine lv_iconst (v := nI 0) hx hb dX12_isCall_16 (by decide) ?_
      exact rz_bE hC (by first | rw [isP_t (by assumption) (by assumption)]; rfl | rw [isP_f1 (by assumption)]; rfl | rw [isP_f2 (by assumption)]; rfl) dX12_isCall_17
    · -- f 12
      refine lv_iconst (v := nI 1) hx hb dX12_isCall_12 (by decide) ?_
      refine lv_goto (tgt := 17) hx hb dX12_isCall_13 (by decide) ?_
      exact rz_bE hC (by first | rw [isP_t (by assumption) (by assumption)]; rfl | rw [isP_f1 (by assumption)]; rfl | rw [isP_f2 (by assumption)]; rfl) dX12_isCall_17

set_option maxHeartbeats 4000000 in
set_option maxRecDepth 100000 in
theorem c_m_startOf (l : Launch) (E : EE) (ad : Nat → Nat) (lk : Nat) (tr : Int32) (N : Nat → Nat) (X : Nat → Nat → Int32) (F G : Nat → Nat → Nat) (n : Nat) (h4 : n ≤ 4) : Rd l yX12_startOf cX12_startOf 2 (some .int) rm_X12_startOf E (mW E ad lk tr N X F G) [.ref (ad 0), .int (nI n)] (some (.int (nI (startN n)))) := by
  refine mk_rd (by decide) (Nat.le_of_ble_eq_true rfl) ?_
  intro p e s m args below meth c hC hK hP ls hl
  obtain ⟨hx, hb, hr, hts, hown, hml, hlk, hN⟩ := id hC
  have hl : lv_has ls 2 [(0, .ref (ad 0)), (1, .int (nI n))] := hl
  have hs0 := shl_16 h4
  refine lv_ldc (v := nI 33825) hx hb hown (hts _ kw_870) dX12_startOf_0 ?_
  refine lv_iconst (v := nI 1) hx hb dX12_startOf_2 (by decide) ?_
  refine lv_iconst (v := nI 4) hx hb dX12_startOf_3 (by decide) ?_
  refine lv_iload_n hx hb dX12_startOf_4 rfl (lv_at hl 1 rfl) ?_
  refine n_imul hx hb dX12_startOf_5 ?_
  refine n_ishl hx hb (by omega) dX12_startOf_6 ?_
  refine lv_iconst (v := nI 1) hx hb dX12_startOf_7 (by decide) ?_
  refine n_isub hx hb (by omega) dX12_startOf_8 ?_
  refine n_iand hx hb dX12_startOf_9 ?_
  exact rz_iE hC (rfl) dX12_startOf_10

set_option maxHeartbeats 4000000 in
set_option maxRecDepth 100000 in
theorem c_m_areExperts (l : Launch) (E : EE) (ad : Nat → Nat) (lk : Nat) (tr : Int32) (N : Nat → Nat) (X : Nat → Nat → Int32) (F G : Nat → Nat → Nat) (st n : Nat) (h1 : st < 65536) (h4 : n ≤ 4) : Rd l yX12_areExperts cX12_areExperts 4 (some .boolean) rm_X12_areExperts E (mW E ad lk tr N X F G) [.ref (ad 0), .int (nI st), .int (nI n)] (some (.int (bI (expM st n)))) := by
  refine mk_rd (by decide) (Nat.le_of_ble_eq_true rfl) ?_
  intro p e s m args below meth c hC hK hP ls hl
  obtain ⟨hx, hb, hr, hts, hown, hml, hlk, hN⟩ := id hC
  have hl : lv_has ls 4 [(0, .ref (ad 0)), (1, .int (nI st)), (2, .int (nI n))] := hl
  have hs0 := shl_le4 h4
  refine lv_iconst (v := nI 0) hx hb dX12_areExperts_0 (by decide) ?_
  refine lv_istore_n (lv' := [(3, .int (nI 0)), (0, .ref (ad 0)), (1, .int (nI st)), (2, .int (nI n))]) hx hb dX12_areExperts_1 rfl hl (by decide) rfl (fun ls hl => ?_)
  have lp_1 : ∀ (n_lp_1 : Nat) (k : Nat) (hk : k ≤ n) (hk2 : ∀ p, p < k → of4 st p = 1 <<< n - 1), n - k < n_lp_1 → ∀ (ls : Array Slot), lv_has ls 4 [(0, .ref (ad 0)), (1, .int (nI st)), (2, .int (nI n)), (3, .int (nI k))] → W p l e rm_X12_areExperts s m args below meth c s.heap [] 0 0 (MQ below (pz_Q (some (.int (bI (expM st n))))) args s 0 0 pz_F) (F0 m 2 ls []) := by
    intro n_lp_1
    induction n_lp_1 with
    | zero => intro k hk hk2; intro hm_lp_1; exact absurd hm_lp_1 (Nat.not_lt_zero _)
    | succ n_lp_1 ih_lp_1 =>
      intro k hk hk2 hm_lp_1 ls hl
      refine lv_iload_n hx hb dX12_areExperts_2 rfl (lv_at hl 3 rfl) ?_
      refine lv_iload_n hx hb dX12_areExperts_3 rfl (lv_at hl 2 rfl) ?_
      refine n_icmp_ge (tgt := 28) hx hb (by omega) (by omega) dX12_areExperts_4 (by decide) (fun c_2 => ?_) (fun c_2 => ?_)
      · -- t 28
        refine lv_iconst (v := nI 1) hx hb dX12_areExperts_28 (by decide) ?_
        exact rz_bE hC (by rw [expM, decide_eq_true (fun p h => hk2 p (by omega))]; rfl) dX12_areExperts_29
      · -- f 7
        refine lv_iload_n hx hb dX12_areExperts_7 rfl (lv_at hl 1 rfl) ?_
        refine lv_iload_n hx hb dX12_areExperts_8 rfl (lv_at hl 3 rfl) ?_
        refine cS_p (rest := []) hC (c_of l st k (by omega) (by omega)) kw_874 sy_X12_of ⟨Nat.le_of_ble_eq_true rfl, Nat.le_of_ble_eq_true rfl⟩ ⟨rfl, rfl⟩ rfl hl.1 rfl (Nat.le_of_ble_eq_true rfl) dX12_areExperts_9 ⟨Nat.le_of_ble_eq_true rfl, Nat.le_of_ble_eq_true rfl⟩ ?_
        have f_3 := of4_lt st k
        refine lv_iconst (v := nI 1) hx hb dX12_areExperts_12 (by decide) ?_
        refine lv_iload_n hx hb dX12_areExperts_13 rfl (lv_at hl 2 rfl) ?_
        refine n_ishl hx hb (by omega) dX12_areExperts_14 ?_
        refine lv_iconst (v := nI 1) hx hb dX12_areExperts_15 (by decide) ?_
        refine n_isub hx hb (by omega) dX12_areExperts_16 ?_
        refine n_icmp_eq (tgt := 22) hx hb (by omega) (by omega) dX12_areExperts_17 (by decide) (fun c_4 => ?_) (fun c_4 => ?_)
        · -- t 22
          refine lv_iinc (v := nI (k + 1)) (lv' := [(3, .int (nI (k + 1))), (0, .ref (ad 0)), (1, .int (nI st)), (2, .int (nI n))]) hx hb dX12_areExperts_22 hl (k := 3) rfl (ii_1 _) (by decide) rfl (fun ls hl => ?_)
          refine lv_goto (tgt := 2) hx hb dX12_areExperts_25 (by decide) ?_
          exact ih_lp_1 (k + 1) (by omega) (fun p h => (by rcases Nat.lt_or_ge p k with h6 | h6; exact hk2 p h6; rw [show p = k by omega]; assumption)) (by omega) ls (lv_sub hl [1, 2, 3, 0] rfl)
        · -- f 20
          refine lv_iconst (v := nI 0) hx hb dX12_areExperts_20 (by decide) ?_
          exact rz_bE hC (by rw [expM, decide_eq_false (fun h => absurd (h k (by omega)) (by assumption))]; rfl) dX12_areExperts_21
  exact lp_1 _ 0 (by omega) (fun p h => absurd h (by omega)) (Nat.lt_succ_self _) ls (lv_sub hl [1, 2, 3, 0] rfl)

set_option maxHeartbeats 4000000 in
set_option maxRecDepth 100000 in
theorem c_m_stateAt (l : Launch) (E : EE) (ad : Nat → Nat) (lk : Nat) (tr : Int32) (N : Nat → Nat) (X : Nat → Nat → Int32) (F G : Nat → Nat → Nat) (hM : MOK N F) (k0 : Nat) (h1 : k0 ≤ 12) : Rd l yX12_stateAt cX12_stateAt 4 (some .int) rm_X12_stateAt E (mW E ad lk tr N X F G) [.ref (ad 0), .int (nI k0)] (some (.int (nI (stS (N 5) (F 10) (F 11) k0)))) := by
  refine mk_rd (by decide) (Nat.le_of_ble_eq_true rfl) ?_
  intro p e s m args below meth c hC hK hP ls hl
  obtain ⟨hx, hb, hr, hts, hown, hml, hlk, hN⟩ := id hC
  have hl : lv_has ls 4 [(0, .ref (ad 0)), (1, .int (nI k0))] := hl
  obtain ⟨hM5, hM9, hMp, hMq, hMn⟩ := id hM
  have hn : ∀ j, j < 4 → F 6 j < 16 := fun j _ => hMn j
  refine lv_aload_n hx hb dX12_stateAt_0 rfl (lv_at hl 0 rfl) ?_
  refine lv_aload_n hx hb dX12_stateAt_1 rfl (lv_at hl 0 rfl) ?_
  refine va_get (D := E.1) (ci := 10) (v := .int (nI (N 5))) (C := RX12) (T := TX12) (N := 30) hx hb hts iX12 hown hK hP 0 rfl rfl 5 (by decide) (hts _ kw_744) (fun _ h9 => h9) rfl dX12_stateAt_2 ?_
  refine cV_r (rest := []) hC (c_m_startOf l E ad lk tr N X F G (N 5) (by omega)) kw_866 iy_X12_startOf ⟨Nat.le_of_ble_eq_true rfl, Nat.le_of_ble_eq_true rfl⟩ ⟨rfl, rfl⟩ hK hP (va_recv hK hP (ci := 10) (q0 := 0) rfl rfl) rfl hl.1 rfl (Nat.le_of_ble_eq_true rfl) dX12_stateAt_5 ⟨Nat.le_of_ble_eq_true rfl, Nat.le_of_ble_eq_true rfl⟩ ?_
  have f_1 := startN_lt (N 5)
  refine lv_istore_n (lv' := [(2, .int (nI (startN (N 5)))), (0, .ref (ad 0)), (1, .int (nI k0))]) hx hb dX12_stateAt_8 rfl hl (by decide) rfl (fun ls hl => ?_)
  refine lv_iconst (v := nI 0) hx hb dX12_stateAt_9 (by decide) ?_
  refine lv_istore_n (lv' := [(3, .int (nI 0)), (2, .int (nI (startN (N 5)))), (0, .ref (ad 0)), (1, .int (nI k0))]) hx hb dX12_stateAt_10 rfl hl (by decide) rfl (fun ls hl => ?_)
  have lp_2 : ∀ (n_lp_2 : Nat) (k : Nat) (hk : k ≤ k0), k0 - k < n_lp_2 → ∀ (ls : Array Slot), lv_has ls 4 [(0, .ref (ad 0)), (1, .int (nI k0)), (2, .int (nI (stS (N 5) (F 10) (F 11) k))), (3, .int (nI k))] → W p l e rm_X12_stateAt s m args below meth c s.heap [] 0 0 (MQ below (pz_Q (some (.int (nI (stS (N 5) (F 10) (F 11) k0))))) args s 0 0 pz_F) (F0 m 11 ls []) := by
    intro n_lp_2
    induction n_lp_2 with
    | zero => intro k hk; intro hm_lp_2; exact absurd hm_lp_2 (Nat.not_lt_zero _)
    | succ n_lp_2 ih_lp_2 =>
      intro k hk hm_lp_2 ls hl
      have hst := stS_lt (n := N 5) hMp hMq k
      have hcp := hMp k
      have hcq := hMq k
      refine lv_iload_n hx hb dX12_stateAt_11 rfl (lv_at hl 3 rfl) ?_
      refine lv_iload_n hx hb dX12_stateAt_12 rfl (lv_at hl 1 rfl) ?_
      refine n_icmp_ge (tgt := 39) hx hb (by omega) (by omega) dX12_stateAt_13 (by decide) (fun c_3 => ?_) (fun c_3 => ?_)
      · -- t 39
        refine lv_iload_n hx hb dX12_stateAt_39 rfl (lv_at hl 2 rfl) ?_
        exact rz_iE hC (by rw [show k = k0 by omega]) dX12_stateAt_40
      · -- f 16
        refine lv_iload_n hx hb dX12_stateAt_16 rfl (lv_at hl 2 rfl) ?_
        refine lv_aload_n hx hb dX12_stateAt_17 rfl (lv_at hl 0 rfl) ?_
        refine va_get (D := E.1) (ci := 10) (v := .ref (ad 10)) (C := RX12) (T := TX12) (N := 30) hx hb hts iX12 hown hK hP 0 rfl rfl 10 (by decide) (hts _ kw_749) (fun _ h9 => h9) rfl dX12_stateAt_18 ?_
        refine lv_iload_n hx hb dX12_stateAt_21 rfl (lv_at hl 3 rfl) ?_
        refine n_iald hx hb hK hP 6 rfl (by omega) (by decide) dX12_stateAt_22 ?_
        refine lv_aload_n hx hb dX12_stateAt_23 rfl (lv_at hl 0 rfl) ?_
        refine va_get (D := E.1) (ci := 10) (v := .ref (ad 11)) (C := RX12) (T := TX12) (N := 30) hx hb hts iX12 hown hK hP 0 rfl rfl 11 (by decide) (hts _ kw_750) (fun _ h9 => h9) rfl dX12_stateAt_24 ?_
        refine lv_iload_n hx hb dX12_stateAt_27 rfl (lv_at hl 3 rfl) ?_
        refine n_iald hx hb hK hP 7 rfl (by omega) (by decide) dX12_stateAt_28 ?_
        refine cS_p (rest := []) hC (c_aft l (stS (N 5) (F 10) (F 11) k) ((F 10) k) ((F 11) k) (by omega) (by omega) (by omega)) kw_871 sy_X12_afterCall ⟨Nat.le_of_ble_eq_true rfl, Nat.le_of_ble_eq_true rfl⟩ ⟨rfl, rfl⟩ rfl hl.1 rfl (Nat.le_of_ble_eq_true rfl) dX12_stateAt_29 ⟨Nat.le_of_ble_eq_true rfl, Nat.le_of_ble_eq_true rfl⟩ ?_
        have f_4 := aft_lt (st := stS (N 5) (F 10) (F 11) k) (pp := (F 10) k) (qq := (F 11) k) (by omega) (by omega) (by omega)
        refine lv_istore_n (lv' := [(2, .int (nI (aft (stS (N 5) (F 10) (F 11) k) ((F 10) k) ((F 11) k)))), (0, .ref (ad 0)), (1, .int (nI k0)), (3, .int (nI k))]) hx hb dX12_stateAt_32 rfl hl (by decide) rfl (fun ls hl => ?_)
        refine lv_iinc (v := nI (k + 1)) (lv' := [(3, .int (nI (k + 1))), (2, .int (nI (aft (stS (N 5) (F 10) (F 11) k) ((F 10) k) ((F 11) k)))), (0, .ref (ad 0)), (1, .int (nI k0))]) hx hb dX12_stateAt_33 hl (k := 3) rfl (ii_1 _) (by decide) rfl (fun ls hl => ?_)
        refine lv_goto (tgt := 11) hx hb dX12_stateAt_36 (by decide) ?_
        exact ih_lp_2 (k + 1) (by omega) (by omega) ls (lv_sub hl [2, 3, 1, 0] rfl)
  exact lp_2 _ 0 (by omega) (Nat.lt_succ_self _) ls (lv_sub hl [2, 3, 1, 0] rfl)

set_option maxHeartbeats 4000000 in
set_option maxRecDepth 100000 in
theorem c_m_tokensNow (l : Launch) (E : EE) (ad : Nat → Nat) (lk : Nat) (tr : Int32) (N : Nat → Nat) (X : Nat → Nat → Int32) (F G : Nat → Nat → Nat) (hM : MOK N F) (r : Nat) (h1 : r < 4) : Rd l yX12_tokensNow cX12_tokensNow 4 (some .int) rm_X12_tokensNow E (mW E ad lk tr N X F G) [.ref (ad 0), .int (nI r)] (some (.int (nI (tokS (N 5) r (F 10) (F 11) (N 9))))) := by
  refine mk_rd (by decide) (Nat.le_of_ble_eq_true rfl) ?_
  intro p e s m args below meth c hC hK hP ls hl
  obtain ⟨hx, hb, hr, hts, hown, hml, hlk, hN⟩ := id hC
  have hl : lv_has ls 4 [(0, .ref (ad 0)), (1, .int (nI r))] := hl
  obtain ⟨hM5, hM9, hMp, hMq, hMn⟩ := id hM
  have hn : ∀ j, j < 4 → F 6 j < 16 := fun j _ => hMn j
  have hs0 := shl_le4 hM5
  refine lv_iconst (v := nI 1) hx hb dX12_tokensNow_0 (by decide) ?_
  refine lv_aload_n hx hb dX12_tokensNow_1 rfl (lv_at hl 0 rfl) ?_
  refine va_get (D := E.1) (ci := 10) (v := .int (nI (N 5))) (C := RX12) (T := TX12) (N := 30) hx hb hts iX12 hown hK hP 0 rfl rfl 5 (by decide) (hts _ kw_744) (fun _ h9 => h9) rfl dX12_tokensNow_2 ?_
  refine n_ishl hx hb (by omega) dX12_tokensNow_5 ?_
  refine lv_iconst (v := nI 1) hx hb dX12_tokensNow_6 (by decide) ?_
  refine n_isub hx hb (by omega) dX12_tokensNow_7 ?_
  refine lv_istore_n (lv' := [(2, .int (nI ((1 <<< (N 5)) - 1))), (0, .ref (ad 0)), (1, .int (nI r))]) hx hb dX12_tokensNow_8 rfl hl (by decide) rfl (fun ls hl => ?_)
  refine lv_iconst (v := nI 0) hx hb dX12_tokensNow_9 (by decide) ?_
  refine lv_istore_n (lv' := [(3, .int (nI 0)), (2, .int (nI ((1 <<< (N 5)) - 1))), (0, .ref (ad 0)), (1, .int (nI r))]) hx hb dX12_tokensNow_10 rfl hl (by decide) rfl (fun ls hl => ?_)
  have lp_1 : ∀ (n_lp_1 : Nat) (k : Nat) (hk : k ≤ N 9), N 9 - k < n_lp_1 → ∀ (ls : Array Slot), lv_has ls 4 [(0, .ref (ad 0)), (1, .int (nI r)), (2, .int (nI (tokS (N 5) r (F 10) (F 11) k))), (3, .int (nI k))] → W p l e rm_X12_tokensNow s m args below meth c s.heap [] 0 0 (MQ below (pz_Q (some (.int (nI (tokS (N 5) r (F 10) (F 11) (N 9)))))) args s 0 0 pz_F) (F0 m 11 ls []) := by
    intro n_lp_1
    induction n_lp_1 with
    | zero => intro k hk; intro hm_lp_1; exact absurd hm_lp_1 (Nat.not_lt_zero _)
    | succ n_lp_1 ih_lp_1 =>
      intro k hk hm_lp_1 ls hl
      have hst := tokS_lt (n := N 5) (r := r) (cP := F 10) hM5 hMq k
      have hcp := hMp k
      have hcq := hMq k
      refine lv_iload_n hx hb dX12_tokensNow_11 rfl (lv_at hl 3 rfl) ?_
      refine lv_aload_n hx hb dX12_tokensNow_12 rfl (lv_at hl 0 rfl) ?_
      refine va_get (D := E.1) (ci := 10) (v := .int (nI (N 9))) (C := RX12) (T := TX12) (N := 30) hx hb hts iX12 hown hK hP 0 rfl rfl 9 (by decide) (hts _ kw_748) (fun _ h9 => h9) rfl dX12_tokensNow_13 ?_
      refine n_icmp_ge (tgt := 43) hx hb (by omega) (by omega) dX12_tokensNow_16 (by decide) (fun c_2 => ?_) (fun c_2 => ?_)
      · -- t 43
        refine lv_iload_n hx hb dX12_tokensNow_43 rfl (lv_at hl 2 rfl) ?_
        exact rz_iE hC (by rw [show k = N 9 by omega]) dX12_tokensNow_44
      · -- f 19
        refine lv_iload_n hx hb dX12_tokensNow_19 rfl (lv_at hl 2 rfl) ?_
        refine lv_iload_n hx hb dX12_tokensNow_20 rfl (lv_at hl 1 rfl) ?_
        refine lv_aload_n hx hb dX12_tokensNow_21 rfl (lv_at hl 0 rfl) ?_
        refine va_get (D := E.1) (ci := 10) (v := .ref (ad 10)) (C := RX12) (T := TX12) (N := 30) hx hb hts iX12 hown hK hP 0 rfl rfl 10 (by decide) (hts _ kw_749) (fun _ h9 => h9) rfl dX12_tokensNow_22 ?_
        refine lv_iload_n hx hb dX12_tokensNow_25 rfl (lv_at hl 3 rfl) ?_
        refine n_iald hx hb hK hP 6 rfl (by omega) (by decide) dX12_tokensNow_26 ?_
        refine lv_aload_n hx hb dX12_tokensNow_27 rfl (lv_at hl 0 rfl) ?_
        refine va_get (D := E.1) (ci := 10) (v := .ref (ad 11)) (C := RX12) (T := TX12) (N := 30) hx hb hts iX12 hown hK hP 0 rfl rfl 11 (by decide) (hts _ kw_750) (fun _ h9 => h9) rfl dX12_tokensNow_28 ?_
        refine lv_iload_n hx hb dX12_tokensNow_31 rfl (lv_at hl 3 rfl) ?_
        refine n_iald hx hb hK hP 7 rfl (by omega) (by decide) dX12_tokensNow_32 ?_
        refine cS_p (rest := []) hC (c_tokA l (tokS (N 5) r (F 10) (F 11) k) r ((F 10) k) ((F 11) k) (by omega) (by omega) (by omega)) kw_884 sy_X12_tokensAfter ⟨Nat.le_of_ble_eq_true rfl, Nat.le_of_ble_eq_true rfl⟩ ⟨rfl, rfl⟩ rfl hl.1 rfl (Nat.le_of_ble_eq_true rfl) dX12_tokensNow_33 ⟨Nat.le_of_ble_eq_true rfl, Nat.le_of_ble_eq_true rfl⟩ ?_
        have f_3 := tokA_lt (t := tokS (N 5) r (F 10) (F 11) k) (r := r) (pp := (F 10) k) (qq := (F 11) k) (by omega) (by omega)
        refine lv_istore_n (lv' := [(2, .int (nI (tokA (tokS (N 5) r (F 10) (F 11) k) r ((F 10) k) ((F 11) k)))), (0, .ref (ad 0)), (1, .int (nI r)), (3, .int (nI k))]) hx hb dX12_tokensNow_36 rfl hl (by decide) rfl (fun ls hl => ?_)
        refine lv_iinc (v := nI (k + 1)) (lv' := [(3, .int (nI (k + 1))), (2, .int (nI (tokA (tokS (N 5) r (F 10) (F 11) k) r ((F 10) k) ((F 11) k)))), (0, .ref (ad 0)), (1, .int (nI r))]) hx hb dX12_tokensNow_37 hl (k := 3) rfl (ii_1 _) (by decide) rfl (fun ls hl => ?_)
        refine lv_goto (tgt := 11) hx hb dX12_tokensNow_40 (by decide) ?_
        exact ih_lp_1 (k + 1) (by omega) (by omega) ls (lv_sub hl [2, 3, 1, 0] rfl)
  exact lp_1 _ 0 (by omega) (Nat.lt_succ_self _) ls (lv_sub hl [2, 3, 1, 0] rfl)

set_option maxHeartbeats 4000000 in
set_option maxRecDepth 100000 in
theorem c_m_learnt (l : Launch) (E : EE) (ad : Nat → Nat) (lk : Nat) (tr : Int32) (N : Nat → Nat) (X : Nat → Nat → Int32) (F G : Nat → Nat → Nat) (hM : MOK N F) (cc1 w : Nat) (h1 : cc1 < 12) (h2 : w < 4) : Rd l yX12_learnt cX12_learnt 3 (some .int) rm_X12_learnt E (mW E ad lk tr N X F G) [.ref (ad 0), .int (nI cc1), .int (nI w)] (some (.int (nI (lrn (N 5) (F 10) (F 11) cc1 w)))) := by
  refine mk_rd (by decide) (Nat.le_of_ble_eq_true rfl) ?_
  intro p e s m args below meth c hC hK hP ls hl
  obtain ⟨hx, hb, hr, hts, hown, hml, hlk, hN⟩ := id hC
  have hl : lv_has ls 3 [(0, .ref (ad 0)), (1, .int (nI cc1)), (2, .int (nI w))] := hl
  obtain ⟨hM5, hM9, hMp, hMq, hMn⟩ := id hM
  have hn : ∀ j, j < 4 → F 6 j < 16 := fun j _ => hMn j
  refine lv_aload_n hx hb dX12_learnt_0 rfl (lv_at hl 0 rfl) ?_
  refine lv_iload_n hx hb dX12_learnt_1 rfl (lv_at hl 1 rfl) ?_
  refine lv_iconst (v := nI 1) hx hb dX12_learnt_2 (by decide) ?_
  refine n_iadd hx hb dX12_learnt_3 ?_
  refine cV_r (rest := []) hC (c_m_stateAt l E ad lk tr N X F G hM (cc1 + 1) (by omega)) kw_862 iy_X12_stateAt ⟨Nat.le_of_ble_eq_true rfl, Nat.le_of_ble_eq_true rfl⟩ ⟨rfl, rfl⟩ hK hP (va_recv hK hP (ci := 10) (q0 := 0) rfl rfl) rfl hl.1 rfl (Nat.le_of_ble_eq_true rfl) dX12_learnt_4 ⟨Nat.le_of_ble_eq_true rfl, Nat.le_of_ble_eq_true rfl⟩ ?_
  have f_1 := stS_lt (n := N 5) hMp hMq (cc1 + 1)
  refine lv_iload_n hx hb dX12_learnt_7 rfl (lv_at hl 2 rfl) ?_
  refine cS_p (rest := []) hC (c_of l (stS (N 5) (F 10) (F 11) (cc1 + 1)) w (by omega) (by omega)) kw_874 sy_X12_of ⟨Nat.le_of_ble_eq_true rfl, Nat.le_of_ble_eq_true rfl⟩ ⟨rfl, rfl⟩ rfl hl.1 rfl (Nat.le_of_ble_eq_true rfl) dX12_learnt_8 ⟨Nat.le_of_ble_eq_true rfl, Nat.le_of_ble_eq_true rfl⟩ ?_
  have f_2 := of4_lt (stS (N 5) (F 10) (F 11) (cc1 + 1)) w
  refine lv_aload_n hx hb dX12_learnt_11 rfl (lv_at hl 0 rfl) ?_
  refine lv_iload_n hx hb dX12_learnt_12 rfl (lv_at hl 1 rfl) ?_
  refine cV_r (rest := [.int (nI (of4 (stS (N 5) (F 10) (F 11) (cc1 + 1)) w))]) hC (c_m_stateAt l E ad lk tr N X F G hM cc1 (by omega)) kw_862 iy_X12_stateAt ⟨Nat.le_of_ble_eq_true rfl, Nat.le_of_ble_eq_true rfl⟩ ⟨rfl, rfl⟩ hK hP (va_recv hK hP (ci := 10) (q0 := 0) rfl rfl) rfl hl.1 rfl (Nat.le_of_ble_eq_true rfl) dX12_learnt_13 ⟨Nat.le_of_ble_eq_true rfl, Nat.le_of_ble_eq_true rfl⟩ ?_
  have f_3 := stS_lt (n := N 5) hMp hMq cc1
  refine lv_iload_n hx hb dX12_learnt_16 rfl (lv_at hl 2 rfl) ?_
  refine cS_p (rest := [.int (nI (of4 (stS (N 5) (F 10) (F 11) (cc1 + 1)) w))]) hC (c_of l (stS (N 5) (F 10) (F 11) cc1) w (by omega) (by omega)) kw_874 sy_X12_of ⟨Nat.le_of_ble_eq_true rfl, Nat.le_of_ble_eq_true rfl⟩ ⟨rfl, rfl⟩ rfl hl.1 rfl (Nat.le_of_ble_eq_true rfl) dX12_learnt_17 ⟨Nat.le_of_ble_eq_true rfl, Nat.le_of_ble_eq_true rfl⟩ ?_
  have f_4 := of4_lt (stS (N 5) (F 10) (F 11) cc1) w
  refine lv_iconst (v := -1) hx hb dX12_learnt_20 (by decide) ?_
  refine n_ixor (y := 4294967295) hx hb dX12_learnt_21 ?_
  refine n_iand hx hb dX12_learnt_22 ?_
  exact rz_iE hC (rfl) dX12_learnt_23

set_option maxHeartbeats 4000000 in
set_option maxRecDepth 100000 in
theorem c_m_kindOf (l : Launch) (E : EE) (ad : Nat → Nat) (lk : Nat) (tr : Int32) (N : Nat → Nat) (X : Nat → Nat → Int32) (F G : Nat → Nat → Nat) (hM : MOK N F) (cc1 : Nat) (h1 : cc1 < 12) : Rd l yX12_kindOf cX12_kindOf 4 (some .int) rm_X12_kindOf E (mW E ad lk tr N X F G) [.ref (ad 0), .int (nI cc1)] (some (.int (nI (knd (N 5) (F 10) (F 11) cc1)))) := by
  refine mk_rd (by decide) (Nat.le_of_ble_eq_true rfl) ?_
  intro p e s m args below meth c hC hK hP ls hl
  obtain ⟨hx, hb, hr, hts, hown, hml, hlk, hN⟩ := id hC
  have hl : lv_has ls 4 [(0, .ref (ad 0)), (1, .int (nI cc1))] := hl
  obtain ⟨hM5, hM9, hMp, hMq, hMn⟩ := id hM
  have hn : ∀ j, j < 4 → F 6 j < 16 := fun j _ => hMn j
  have hs0 := shl_le4 hM5
  have hcp := hMp cc1
  have hcq := hMq cc1
  refine lv_aload_n hx hb dX12_kindOf_0 rfl (lv_at hl 0 rfl) ?_
  refine lv_iload_n hx hb dX12_kindOf_1 rfl (lv_at hl 1 rfl) ?_
  refine lv_aload_n hx hb dX12_kindOf_2 rfl (lv_at hl 0 rfl) ?_
  refine va_get (D := E.1) (ci := 10) (v := .ref (ad 10)) (C := RX12) (T := TX12) (N := 30) hx hb hts iX12 hown hK hP 0 rfl rfl 10 (by decide) (hts _ kw_749) (fun _ h9 => h9) rfl dX12_kindOf_3 ?_
  refine lv_iload_n hx hb dX12_kindOf_6 rfl (lv_at hl 1 rfl) ?_
  refine n_iald hx hb hK hP 6 rfl (by omega) (by decide) dX12_kindOf_7 ?_
  refine cV_r (rest := []) hC (c_m_learnt l E ad lk tr N X F G hM cc1 ((F 10) cc1) (by omega) (by omega)) kw_903 iy_X12_learnt ⟨Nat.le_of_ble_eq_true rfl, Nat.le_of_ble_eq_true rfl⟩ ⟨rfl, rfl⟩ hK hP (va_recv hK hP (ci := 10) (q0 := 0) rfl rfl) rfl hl.1 rfl (Nat.le_of_ble_eq_true rfl) dX12_kindOf_8 ⟨Nat.le_of_ble_eq_true rfl, Nat.le_of_ble_eq_true rfl⟩ ?_
  have f_1 := lrn_lt (N 5) (F 10) (F 11) cc1 ((F 10) cc1)
  refine cS_p (rest := []) hC (c_bitsOf l (lrn (N 5) (F 10) (F 11) cc1 ((F 10) cc1)) (by omega)) kw_907 sy_X12_bitsOf ⟨Nat.le_of_ble_eq_true rfl, Nat.le_of_ble_eq_true rfl⟩ ⟨rfl, rfl⟩ rfl hl.1 rfl (Nat.le_of_ble_eq_true rfl) dX12_kindOf_11 ⟨Nat.le_of_ble_eq_true rfl, Nat.le_of_ble_eq_true rfl⟩ ?_
  have f_2 := bitsN_le (lrn (N 5) (F 10) (F 11) cc1 ((F 10) cc1)) 16
  refine lv_aload_n hx hb dX12_kindOf_14 rfl (lv_at hl 0 rfl) ?_
  refine lv_iload_n hx hb dX12_kindOf_15 rfl (lv_at hl 1 rfl) ?_
  refine lv_aload_n hx hb dX12_kindOf_16 rfl (lv_at hl 0 rfl) ?_
  refine va_get (D := E.1) (ci := 10) (v := .ref (ad 11)) (C := RX12) (T := TX12) (N := 30) hx hb hts iX12 hown hK hP 0 rfl rfl 11 (by decide) (hts _ kw_750) (fun _ h9 => h9) rfl dX12_kindOf_17 ?_
  refine lv_iload_n hx hb dX12_kindOf_20 rfl (lv_at hl 1 rfl) ?_
  refine n_iald hx hb hK hP 7 rfl (by omega) (by decide) dX12_kindOf_21 ?_
  refine cV_r (rest := [.int (nI (bitsN (lrn (N 5) (F 10) (F 11) cc1 ((F 10) cc1)) 16))]) hC (c_m_learnt l E ad lk tr N X F G hM cc1 ((F 11) cc1) (by omega) (by omega)) kw_903 iy_X12_learnt ⟨Nat.le_of_ble_eq_true rfl, Nat.le_of_ble_eq_true rfl⟩ ⟨rfl, rfl⟩ hK hP (va_recv hK hP (ci := 10) (q0 := 0) rfl rfl) rfl hl.1 rfl (Nat.le_of_ble_eq_true rfl) dX12_kindOf_22 ⟨Nat.le_of_ble_eq_true rfl, Nat.le_of_ble_eq_true rfl⟩ ?_
  have f_3 := lrn_lt (N 5) (F 10) (F 11) cc1 ((F 11) cc1)
  refine cS_p (rest := [.int (nI (bitsN (lrn (N 5) (F 10) (F 11) cc1 ((F 10) cc1)) 16))]) hC (c_bitsOf l (lrn (N 5) (F 10) (F 11) cc1 ((F 11) cc1)) (by omega)) kw_907 sy_X12_bitsOf ⟨Nat.le_of_ble_eq_true rfl, Nat.le_of_ble_eq_true rfl⟩ ⟨rfl, rfl⟩ rfl hl.1 rfl (Nat.le_of_ble_eq_true rfl) dX12_kindOf_25 ⟨Nat.le_of_ble_eq_true rfl, Nat.le_of_ble_eq_true rfl⟩ ?_
  have f_4 := bitsN_le (lrn (N 5) (F 10) (F 11) cc1 ((F 11) cc1)) 16
  refine n_iadd hx hb dX12_kindOf_28 ?_
  refine lv_istore_n (lv' := [(2, .int (nI ((bitsN (lrn (N 5) (F 10) (F 11) cc1 ((F 10) cc1)) 16) + (bitsN (lrn (N 5) (F 10) (F 11) cc1 ((F 11) cc1)) 16)))), (0, .ref (ad 0)), (1, .int (nI cc1))]) hx hb dX12_kindOf_29 rfl hl (by decide) rfl (fun ls hl => ?_)
  refine lv_aload_n hx hb dX12_kindOf_30 rfl (lv_at hl 1 rfl) ?_
  refine lv_iload_n hx hb dX12_kindOf_31 rfl (lv_at hl 2 rfl) ?_
  refine lv_iconst (v := nI 1) hx hb dX12_kindOf_32 (by decide) ?_
  refine n_iadd hx hb dX12_kindOf_33 ?_
  refine cV_r (rest := []) hC (c_m_stateAt l E ad lk tr N X F G hM (cc1 + 1) (by omega)) kw_862 iy_X12_stateAt ⟨Nat.le_of_ble_eq_true rfl, Nat.le_of_ble_eq_true rfl⟩ ⟨rfl, rfl⟩ hK hP (va_recv hK hP (ci := 10) (q0 := 0) rfl rfl) rfl hl.1 rfl (Nat.le_of_ble_eq_true rfl) dX12_kindOf_34 ⟨Nat.le_of_ble_eq_true rfl, Nat.le_of_ble_eq_true rfl⟩ ?_
  have f_5 := stS_lt (n := N 5) hMp hMq (cc1 + 1)
  refine lv_aload_n hx hb dX12_kindOf_37 rfl (lv_at hl 1 rfl) ?_
  refine va_get (D := E.1) (ci := 10) (v := .ref (ad 10)) (C := RX12) (T := TX12) (N := 30) hx hb hts iX12 hown hK hP 0 rfl rfl 10 (by decide) (hts _ kw_749) (fun _ h9 => h9) rfl dX12_kindOf_38 ?_
  refine lv_iload_n hx hb dX12_kindOf_41 rfl (lv_at hl 2 rfl) ?_
  refine n_iald hx hb hK hP 6 rfl (by omega) (by decide) dX12_kindOf_42 ?_
  refine cS_p (rest := []) hC (c_of l (stS (N 5) (F 10) (F 11) (cc1 + 1)) ((F 10) cc1) (by omega) (by omega)) kw_874 sy_X12_of ⟨Nat.le_of_ble_eq_true rfl, Nat.le_of_ble_eq_true rfl⟩ ⟨rfl, rfl⟩ rfl hl.1 rfl (Nat.le_of_ble_eq_true rfl) dX12_kindOf_43 ⟨Nat.le_of_ble_eq_true rfl, Nat.le_of_ble_eq_true rfl⟩ ?_
  have f_6 := of4_lt (stS (N 5) (F 10) (F 11) (cc1 + 1)) ((F 10) cc1)
  refine lv_iconst (v := nI 1) hx hb dX12_kindOf_46 (by decide) ?_
  refine lv_aload_n hx hb dX12_kindOf_47 rfl (lv_at hl 1 rfl) ?_
  refine va_get (D := E.1) (ci := 10) (v := .int (nI (N 5))) (C := RX12) (T := TX12) (N := 30) hx hb hts iX12 hown hK hP 0 rfl rfl 5 (by decide) (hts _ kw_744) (fun _ h9 => h9) rfl dX12_kindOf_48 ?_
  refine n_ishl hx hb (by omega) dX12_kindOf_51 ?_
  refine lv_iconst (v := nI 1) hx hb dX12_kindOf_52 (by decide) ?_
  refine n_isub hx hb (by omega) dX12_kindOf_53 ?_
  refine n_icmp_ne (tgt := 61) hx hb (by omega) (by omega) dX12_kindOf_54 (by decide) (fun c_7 => ?_) (fun c_7 => ?_)
  · -- t 61
    refine lv_iconst (v := nI 0) hx hb dX12_kindOf_61 (by decide) ?_
    refine lv_istore_n (lv' := [(3, .int (nI 0)), (2, .int (nI ((bitsN (lrn (N 5) (F 10) (F 11) cc1 ((F 10) cc1)) 16) + (bitsN (lrn (N 5) (F 10) (F 11) cc1 ((F 11) cc1)) 16)))), (0, .ref (ad 0)), (1, .int (nI cc1))]) hx hb dX12_kindOf_62 rfl hl (by decide) rfl (fun ls hl => ?_)
    refine lv_iload_n hx hb dX12_kindOf_63 rfl (lv_at hl 1 rfl) ?_
    refine n_if_ne (tgt := 71) hx hb (by omega) dX12_kindOf_64 (by decide) (fun c_8 => ?_) (fun c_8 => ?_)
    · -- t 71
      refine lv_iload_n hx hb dX12_kindOf_71 rfl (lv_at hl 0 rfl) ?_
      refine n_if_eq (tgt := 79) hx hb (by omega) dX12_kindOf_72 (by decide) (fun _ => ?_) (fun c_9 => absurd rfl c_9)
      refine lv_iconst (v := nI 1) hx hb dX12_kindOf_79 (by decide) ?_
      exact rz_iE hC (by rw [knd, if_neg c_8, if_neg c_7]) dX12_kindOf_80
    · -- f 67
      refine lv_iconst (v := nI 0) hx hb dX12_kindOf_67 (by decide) ?_
      refine lv_goto (tgt := 80) hx hb dX12_kindOf_68 (by decide) ?_
      exact rz_iE hC (by rw [knd, if_pos c_8]) dX12_kindOf_80
  · -- f 57
    refine lv_iconst (v := nI 1) hx hb dX12_kindOf_57 (by decide) ?_
    refine lv_goto (tgt := 62) hx hb dX12_kindOf_58 (by decide) ?_
    refine lv_istore_n (lv' := [(3, .int (nI 1)), (2, .int (nI ((bitsN (lrn (N 5) (F 10) (F 11) cc1 ((F 10) cc1)) 16) + (bitsN (lrn (N 5) (F 10) (F 11) cc1 ((F 11) cc1)) 16)))), (0, .ref (ad 0)), (1, .int (nI cc1))]) hx hb dX12_kindOf_62 rfl hl (by decide) rfl (fun ls hl => ?_)
    refine lv_iload_n hx hb dX12_kindOf_63 rfl (lv_at hl 1 rfl) ?_
    refine n_if_ne (tgt := 71) hx hb (by omega) dX12_kindOf_64 (by decide) (fun c_10 => ?_) (fun c_10 => ?_)
    · -- t 71
      refine lv_iload_n hx hb dX12_kindOf_71 rfl (lv_at hl 0 rfl) ?_
      refine n_if_eq (tgt := 79) hx hb (by omega) dX12_kindOf_72 (by decide) (fun c_11 => absurd c_11 (by decide)) (fun _ => ?_)
      refine lv_iconst (v := nI 2) hx hb dX12_kindOf_75 (by decide) ?_
      refine lv_goto (tgt := 80) hx hb dX12_kindOf_76 (by decide) ?_
      exact rz_iE hC (by rw [knd, if_neg c_10, if_pos c_7]) dX12_kindOf_80
    · -- f 67
      refine lv_iconst (v := nI 0) hx hb dX12_kindOf_67 (by decide) ?_
      refine lv_goto (tgt := 80) hx hb dX12_kindOf_68 (by decide) ?_
      exact rz_iE hC (by rw [knd, if_pos c_10]) dX12_kindOf_80
