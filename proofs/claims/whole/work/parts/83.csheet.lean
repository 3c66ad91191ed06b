set_option maxHeartbeats 4000000 in
set_option maxRecDepth 100000 in
theorem k_has (l : Launch) (E : EE) (so sa : Nat) (ln : Int32) (L : Nat) (C : Nat → Int32) (hL : L ≤ 60) (v1 v2 : Int32) : Rd l yX7_has cX7_has 3 (some .boolean) rm_X7_has E (shW E so sa ln L C) [.ref so, .int v1, .int v2] (some (.int (bI (hasR v1 v2 L)))) := by
  refine mk_rd (by decide) (Nat.le_of_ble_eq_true rfl) ?_
  intro p e s m args below meth c hC hK hP ls hl
  obtain ⟨hx, hb, hr, hts, hown, hml, hlk, hN⟩ := id hC
  have hl : lv_has ls 3 [(0, .ref so), (1, .int v1), (2, .int v2)] := hl
  refine lv_iload_n hx hb dX7_has_0 rfl (lv_at hl 1 rfl) ?_
  refine lv_if_lt (tgt := 23) hx hb dX7_has_1 (by decide) (fun c_1 => ?_) (fun c_1 => ?_)
  · -- t 23
    refine lv_iconst (v := nI 0) hx hb dX7_has_23 (by decide) ?_
    exact rz_bE hC (by rw [hasR_f1 c_1]; rfl) dX7_has_24
  · -- f 4
    refine lv_iload_n hx hb dX7_has_4 rfl (lv_at hl 2 rfl) ?_
    refine lv_if_lt (tgt := 23) hx hb dX7_has_5 (by decide) (fun c_2 => ?_) (fun c_2 => ?_)
    · -- t 23
      refine lv_iconst (v := nI 0) hx hb dX7_has_23 (by decide) ?_
      exact rz_bE hC (by rw [hasR_f2 c_2]; rfl) dX7_has_24
    · -- f 8
      obtain ⟨i1, hi1, rfl⟩ := nI_of c_1
      obtain ⟨n1, hn1, rfl⟩ := nI_of c_2
      have hl : lv_has ls 3 [(0, .ref so), (1, .int (nI i1)), (2, .int (nI n1))] := hl
      refine lv_iload_n hx hb dX7_has_8 rfl (lv_at hl 1 rfl) ?_
      refine lv_aload_n hx hb dX7_has_9 rfl (lv_at hl 0 rfl) ?_
      refine va_get (D := E.1) (ci := 5) (v := .ref sa) (C := RX7) (T := TX7) (N := 2) hx hb hts iX7 hown hK hP 0 rfl rfl 1 (by decide) (hts _ kw_625) (fun _ h9 => h9) rfl dX7_has_10 ?_
      refine va_alen hx hb hK hP 1 1 rfl rfl (v := nI L) rfl dX7_has_13 ?_
      refine lv_iload_n hx hb dX7_has_14 rfl (lv_at hl 2 rfl) ?_
      by_cases hnl : n1 ≤ L
      ·
        refine n_isub hx hb (by omega) dX7_has_15 ?_
        refine n_icmp_gt (tgt := 23) hx hb (by omega) (by omega) dX7_has_16 (by decide) (fun c_3 => ?_) (fun c_3 => ?_)
        · -- t 23
          refine lv_iconst (v := nI 0) hx hb dX7_has_23 (by decide) ?_
          exact rz_bE hC (by rw [hasR_n hi1 hn1, decide_eq_false (by omega)]; rfl) dX7_has_24
        · -- f 19
          refine lv_iconst (v := nI 1) hx hb dX7_has_19 (by decide) ?_
          refine lv_goto (tgt := 24) hx hb dX7_has_20 (by decide) ?_
          exact rz_bE hC (by rw [hasR_n hi1 hn1, decide_eq_true (by omega)]; rfl) dX7_has_24
      ·
        refine lv_isub hx hb dX7_has_15 ?_
        refine lv_icmp_gt (tgt := 23) hx hb dX7_has_16 (by decide) (fun c_4 => ?_) (fun c_4 => ?_)
        · -- t 23
          refine lv_iconst (v := nI 0) hx hb dX7_has_23 (by decide) ?_
          exact rz_bE hC (by rw [hasR_n hi1 hn1, decide_eq_false (by omega)]; rfl) dX7_has_24
        · -- f 19
          exact absurd (sub_neg hL hn1 hi1 (by omega)) c_4

set_option maxHeartbeats 4000000 in
set_option maxRecDepth 100000 in
theorem k_cut (l : Launch) (E : EE) (so sa : Nat) (ln : Int32) (L : Nat) (C : Nat → Int32) (v1 : Int32) : Rd l yX7_cut cX7_cut 2 (some .int) rm_X7_cut E (shW E so sa ln L C) [.ref so, .int v1] (some (.int (cutL ln v1))) := by
  refine mk_rd (by decide) (Nat.le_of_ble_eq_true rfl) ?_
  intro p e s m args below meth c hC hK hP ls hl
  obtain ⟨hx, hb, hr, hts, hown, hml, hlk, hN⟩ := id hC
  have hl : lv_has ls 2 [(0, .ref so), (1, .int v1)] := hl
  refine lv_aload_n hx hb dX7_cut_0 rfl (lv_at hl 0 rfl) ?_
  refine va_get (D := E.1) (ci := 5) (v := .int ln) (C := RX7) (T := TX7) (N := 2) hx hb hts iX7 hown hK hP 0 rfl rfl 0 (by decide) (hts _ kw_623) (fun _ h9 => h9) rfl dX7_cut_1 ?_
  refine lv_if_ne (tgt := 12) hx hb dX7_cut_4 (by decide) (fun c_1 => ?_) (fun c_1 => ?_)
  · -- t 12
    refine lv_aload_n hx hb dX7_cut_12 rfl (lv_at hl 0 rfl) ?_
    refine va_get (D := E.1) (ci := 5) (v := .int ln) (C := RX7) (T := TX7) (N := 2) hx hb hts iX7 hown hK hP 0 rfl rfl 0 (by decide) (hts _ kw_623) (fun _ h9 => h9) rfl dX7_cut_13 ?_
    refine lv_iconst (v := nI 1) hx hb dX7_cut_16 (by decide) ?_
    refine lv_icmp_ne (tgt := 25) hx hb dX7_cut_17 (by decide) (fun c_2 => ?_) (fun c_2 => ?_)
    · -- t 25
      refine lv_iload_n hx hb dX7_cut_25 rfl (lv_at hl 1 rfl) ?_
      exact rz_iE hC (by unfold cutL; first | rw [if_pos (by assumption)] | rw [if_neg (by assumption), if_pos (by assumption)] | rw [if_neg (by assumption), if_neg (by assumption)]) dX7_cut_26
    · -- f 20
      refine lv_iload_n hx hb dX7_cut_20 rfl (lv_at hl 1 rfl) ?_
      refine lv_i2s hx hb dX7_cut_21 rfl ?_
      refine lv_goto (tgt := 26) hx hb dX7_cut_22 (by decide) ?_
      exact rz_iE hC (by unfold cutL; first | rw [if_pos (by assumption)] | rw [if_neg (by assumption), if_pos (by assumption)] | rw [if_neg (by assumption), if_neg (by assumption)]) dX7_cut_26
  · -- f 7
    refine lv_iload_n hx hb dX7_cut_7 rfl (lv_at hl 1 rfl) ?_
    refine lv_i2b hx hb dX7_cut_8 rfl ?_
    refine lv_goto (tgt := 26) hx hb dX7_cut_9 (by decide) ?_
    exact rz_iE hC (by unfold cutL; first | rw [if_pos (by assumption)] | rw [if_neg (by assumption), if_pos (by assumption)] | rw [if_neg (by assumption), if_neg (by assumption)]) dX7_cut_26

set_option maxHeartbeats 4000000 in
set_option maxRecDepth 100000 in
theorem k_leave (l : Launch) (E : EE) (to : Nat) (tr : Int32) (b1 sz : Nat) : Wr l yX9_leave cX9_leave 2 none rm_X9_leave 0 0 E (trW E to tr) sz [.ref to, .int (nI b1)] (fun v1 w1 => v1 = none ∧ w1 = trW E to (nI 31 * tr + nI b1)) := by
  refine mk_wr (by decide) (Nat.le_of_ble_eq_true rfl) ?_
  intro p e s m args below meth c hC hin hK A hA hP hD hS ls hl
  obtain ⟨hx, hb, hr, hts, hown, hml, hlk, hN⟩ := id hC
  have hl : lv_has ls 2 [(0, .ref to), (1, .int (nI b1))] := hl
  obtain ⟨H, hH⟩ : ∃ z, z = s.heap := ⟨_, rfl⟩
  have hS : va_S A s.heap H [] := by rw [hH]; exact hS
  rw [← hH] at hP
  refine W_heap hH ?_
  obtain ⟨locs, hlo⟩ : ∃ z : List Loc, z = [] := ⟨_, rfl⟩
  rw [← hlo] at hS ⊢
  refine lv_aload_n hx hb dX9_leave_0 rfl (lv_at hl 0 rfl) ?_
  refine lv_bipush (v := nI 31) hx hb dX9_leave_1 (by decide) ?_
  refine lv_aload_n hx hb dX9_leave_3 rfl (lv_at hl 0 rfl) ?_
  refine va_get (D := E.1) (ci := 7) (v := .int tr) (C := RX9) (T := TX9) (N := 1) hx hb hts iX9 hown hK hP 0 rfl rfl 0 (by decide) (hts _ kw_36) (fun _ h9 => h9) rfl dX9_leave_4 ?_
  refine lv_imul hx hb dX9_leave_7 ?_
  refine lv_iload_n hx hb dX9_leave_8 rfl (lv_at hl 1 rfl) ?_
  refine lv_iadd hx hb dX9_leave_9 ?_
  refine va_put (D := E.1) (ci := 7) (v := .int (((nI 31) * tr) + (nI b1))) (ty := .int) (C := RX9) (T := TX9) (N := 1) hx hb hts iX9 tyX9 tyX9_ok nmX9 hown hK hP hD hS 0 rfl rfl 0 (by decide) (hts _ kw_36) (fun _ h9 => h9) rfl (by decide +kernel) rfl rfl (Nat.le_of_ble_eq_true rfl) dX9_leave_10 (fun H locs hP hD hS => ?_)
  have hP : va_P E.1 vwCl (trW E to (((nI 31) * tr) + (nI b1))) H := hP
  have hD : va_D A (trW E to (((nI 31) * tr) + (nI b1))) := hD
  exact rw_v hC hP hD hS (⟨rfl, rfl⟩) dX9_leave_13 (Nat.le_of_ble_eq_true rfl) (Nat.le_of_ble_eq_true rfl)
