set_option maxHeartbeats 4000000 in
set_option maxRecDepth 100000 in
theorem k_firstStranger (l : Launch) (E : EE) (to pe nu so sa : Nat) (ln : Int32) (L : Nat) (C : Nat → Int32) (f1 n1 : Nat) (hL : L ≤ 60) (hfn : f1 + n1 ≤ L) (hp : pe ≤ 4) : Rd l yX3_firstStranger cX3_firstStranger 6 (some .int) rm_X3_firstStranger E (rdW E to pe nu so sa ln L C) [.ref to, .ref so, .int (nI f1), .int (nI n1)] (some (.int (sgT C f1 pe n1))) := by
  refine mk_rd (by decide) (Nat.le_of_ble_eq_true rfl) ?_
  intro p e s m args below meth c hC hK hP ls hl
  obtain ⟨hx, hb, hr, hts, hown, hml, hlk, hN⟩ := id hC
  have hl : lv_has ls 6 [(0, .ref to), (1, .ref so), (2, .int (nI f1)), (3, .int (nI n1))] := hl
  refine lv_iconst (v := nI 0) hx hb dX3_firstStranger_0 (by decide) ?_
  refine lv_istore (lv' := [(4, .int (nI 0)), (0, .ref to), (1, .ref so), (2, .int (nI f1)), (3, .int (nI n1))]) hx hb dX3_firstStranger_1 hl (by decide) rfl (fun ls hl => ?_)
  have lp_1 : ∀ (n_lp_1 : Nat) (k : Nat) (hk : k ≤ n1) (hno : ∀ i, i < k → sgB C f1 pe i = false), n1 - k < n_lp_1 → ∀ (ls : Array Slot), lv_has ls 6 [(0, .ref to), (1, .ref so), (2, .int (nI f1)), (3, .int (nI n1)), (4, .int (nI k))] → W p l e rm_X3_firstStranger s m args below meth c s.heap [] 0 0 (MQ below (pz_Q (some (.int (sgT C f1 pe n1)))) args s 0 0 pz_F) (F0 m 3 ls []) := by
    intro n_lp_1
    induction n_lp_1 with
    | zero => intro k hk hno; intro hm_lp_1; exact absurd hm_lp_1 (Nat.not_lt_zero _)
    | succ n_lp_1 ih_lp_1 =>
      intro k hk hno hm_lp_1 ls hl
      refine lv_iload hx hb dX3_firstStranger_3 (lv_at hl 4 rfl) ?_
      refine lv_iload_n hx hb dX3_firstStranger_5 rfl (lv_at hl 3 rfl) ?_
      refine n_icmp_ge (tgt := 48) hx hb (by omega) (by omega) dX3_firstStranger_6 (by decide) (fun c_2 => ?_) (fun c_2 => ?_)
      · -- t 48
        refine lv_iconst (v := -1) hx hb dX3_firstStranger_48 (by decide) ?_
        exact rz_iE hC (by unfold sgT; rw [fF_no (fun i hi => hno i (by omega)), if_neg (by omega)]) dX3_firstStranger_49
      · -- f 9
        refine lv_aload_n hx hb dX3_firstStranger_9 rfl (lv_at hl 1 rfl) ?_
        refine lv_iload_n hx hb dX3_firstStranger_10 rfl (lv_at hl 2 rfl) ?_
        refine lv_iload hx hb dX3_firstStranger_11 (lv_at hl 4 rfl) ?_
        refine n_iadd hx hb dX3_firstStranger_13 ?_
        have hat : atS C L (nI (f1 + k)) = C (f1 + k) := (by unfold atS; rw [hasR_n (by omega) (by decide), if_pos (decide_eq_true (by omega)), nI_clamp (by omega)])
        refine cV_r (rest := []) hC (hat ▸ k_at l E so sa ln L C hL (nI (f1 + k))) kw_187 iy_X7_at ⟨Nat.le_of_ble_eq_true rfl, Nat.le_of_ble_eq_true rfl⟩ ⟨rfl, rfl⟩ hK (va_P_r (X := ntW E to pe nu) (Y := (shW E so sa ln L C)) hP) (va_recv hK hP (ci := 5) (q0 := 1) rfl rfl) rfl hl.1 rfl (Nat.le_of_ble_eq_true rfl) dX3_firstStranger_14 ⟨Nat.le_of_ble_eq_true rfl, Nat.le_of_ble_eq_true rfl⟩ ?_
        refine lv_istore (lv' := [(5, .int (C (f1 + k))), (0, .ref to), (1, .ref so), (2, .int (nI f1)), (3, .int (nI n1)), (4, .int (nI k))]) hx hb dX3_firstStranger_17 hl (by decide) rfl (fun ls hl => ?_)
        refine lv_iload hx hb dX3_firstStranger_19 (lv_at hl 0 rfl) ?_
        refine cS_p (rest := []) hC (k_isDigit l (C (f1 + k))) kw_203 sy_X3_isDigit ⟨Nat.le_of_ble_eq_true rfl, Nat.le_of_ble_eq_true rfl⟩ ⟨rfl, rfl⟩ rfl hl.1 rfl (Nat.le_of_ble_eq_true rfl) dX3_firstStranger_21 ⟨Nat.le_of_ble_eq_true rfl, Nat.le_of_ble_eq_true rfl⟩ ?_
        refine b_if_eq (tgt := 42) hx hb dX3_firstStranger_24 (by decide) (fun c_3 => ?_) (fun c_3 => ?_)
        · -- t 42
          refine lv_iinc (v := nI (k + 1)) (lv' := [(4, .int (nI (k + 1))), (5, .int (C (f1 + k))), (0, .ref to), (1, .ref so), (2, .int (nI f1)), (3, .int (nI n1))]) hx hb dX3_firstStranger_42 hl (k := 5) rfl (ii_1 _) (by decide) rfl (fun ls hl => ?_)
          refine lv_goto (tgt := 3) hx hb dX3_firstStranger_45 (by decide) ?_
          exact ih_lp_1 (k + 1) (by omega) (fun i h => by rcases (by omega : i < k ∨ i = k) with h6 | h6; exact hno i h6; subst h6; first | exact sg_no hp c_3 | exact sg_lo c_3) (by omega) ls (lv_sub hl [2, 3, 4, 5, 0] rfl)
        · -- f 27
          refine lv_iload hx hb dX3_firstStranger_27 (lv_at hl 0 rfl) ?_
          refine lv_bipush (v := nI 48) hx hb dX3_firstStranger_29 (by decide) ?_
          refine lv_isub hx hb dX3_firstStranger_31 ?_
          refine lv_aload_n hx hb dX3_firstStranger_32 rfl (lv_at hl 1 rfl) ?_
          refine va_get (D := E.1) (ci := 2) (v := .int (nI pe)) (C := RX3) (T := TX3) (N := 2) hx hb hts iX3 hown hK hP 0 rfl rfl 0 (by decide) (hts _ kw_171) (fun _ h9 => h9) rfl dX3_firstStranger_33 ?_
          refine lv_icmp_lt (tgt := 42) hx hb dX3_firstStranger_36 (by decide) (fun c_4 => ?_) (fun c_4 => ?_)
          · -- t 42
            refine lv_iinc (v := nI (k + 1)) (lv' := [(4, .int (nI (k + 1))), (5, .int (C (f1 + k))), (0, .ref to), (1, .ref so), (2, .int (nI f1)), (3, .int (nI n1))]) hx hb dX3_firstStranger_42 hl (k := 5) rfl (ii_1 _) (by decide) rfl (fun ls hl => ?_)
            refine lv_goto (tgt := 3) hx hb dX3_firstStranger_45 (by decide) ?_
            exact ih_lp_1 (k + 1) (by omega) (fun i h => by rcases (by omega : i < k ∨ i = k) with h6 | h6; exact hno i h6; subst h6; first | exact sg_no hp c_4 | exact sg_lo c_4) (by omega) ls (lv_sub hl [2, 3, 4, 5, 0] rfl)
          · -- f 39
            refine lv_iload hx hb dX3_firstStranger_39 (lv_at hl 5 rfl) ?_
            exact rz_iE hC (by unfold sgT; rw [fF_yes (j := k) (by omega) hno (sg_hi c_3 c_4), if_pos (by omega)]) dX3_firstStranger_41
  exact lp_1 _ 0 (Nat.zero_le _) (fun i h => absurd h (by omega)) (Nat.lt_succ_self _) ls (lv_sub hl [1, 2, 3, 4, 0] rfl)
