set_option maxHeartbeats 4000000 in
set_option maxRecDepth 100000 in
theorem k_at (l : Launch) (E : EE) (so sa : Nat) (ln : Int32) (L : Nat) (C : Nat → Int32) (hL : L ≤ 60) (v1 : Int32) : Rd l yX7_at cX7_at 2 (some .int) rm_X7_at E (shW E so sa ln L C) [.ref so, .int v1] (some (.int (atS C L v1))) := by
  refine mk_rd (by decide) (Nat.le_of_ble_eq_true rfl) ?_
  intro p e s m args below meth c hC hK hP ls hl
  obtain ⟨hx, hb, hr, hts, hown, hml, hlk, hN⟩ := id hC
  have hl : lv_has ls 2 [(0, .ref so), (1, .int v1)] := hl
  refine lv_aload_n hx hb dX7_at_0 rfl (lv_at hl 0 rfl) ?_
  refine lv_iload_n hx hb dX7_at_1 rfl (lv_at hl 1 rfl) ?_
  refine lv_iconst (v := nI 1) hx hb dX7_at_2 (by decide) ?_
  refine cV_r (rest := []) hC (k_has l E so sa ln L C hL v1 (nI 1)) kw_191 iy_X7_has ⟨Nat.le_of_ble_eq_true rfl, Nat.le_of_ble_eq_true rfl⟩ ⟨rfl, rfl⟩ hK hP (va_recv hK hP (ci := 5) (q0 := 0) rfl rfl) rfl hl.1 rfl (Nat.le_of_ble_eq_true rfl) dX7_at_3 ⟨Nat.le_of_ble_eq_true rfl, Nat.le_of_ble_eq_true rfl⟩ ?_
  refine b_if_eq (tgt := 18) hx hb dX7_at_6 (by decide) (fun c_1 => ?_) (fun c_1 => ?_)
  · -- t 18
    refine lv_iconst (v := nI 0) hx hb dX7_at_18 (by decide) ?_
    exact rz_iE hC (by unfold atS; first | rw [if_pos hc9, nI_clamp hj2] | rw [if_neg (by rw [c_1]; decide)]; rfl) dX7_at_19
  · -- f 9
    have hc9 := c_1
    obtain ⟨j1, hj1, hj2, rfl⟩ := hasR_1 hc9
    have hl : lv_has ls 2 [(0, .ref so), (1, .int (nI j1))] := hl
    refine lv_aload_n hx hb dX7_at_9 rfl (lv_at hl 0 rfl) ?_
    refine va_get (D := E.1) (ci := 5) (v := .ref sa) (C := RX7) (T := TX7) (N := 2) hx hb hts iX7 hown hK hP 0 rfl rfl 1 (by decide) (hts _ kw_625) (fun _ h9 => h9) rfl dX7_at_10 ?_
    refine lv_iload_n hx hb dX7_at_13 rfl (lv_at hl 1 rfl) ?_
    refine n_iald (f := C) hx hb hK hP 1 rfl (by omega) (by omega) dX7_at_14 ?_
    refine lv_goto (tgt := 19) hx hb dX7_at_15 (by decide) ?_
    exact rz_iE hC (by unfold atS; first | rw [if_pos hc9, nI_clamp hj2] | rw [if_neg (by rw [c_1]; decide)]; rfl) dX7_at_19

set_option maxHeartbeats 4000000 in
set_option maxRecDepth 100000 in
theorem k_set (l : Launch) (E : EE) (so sa : Nat) (ln : Int32) (L : Nat) (C : Nat → Int32) (hL : L ≤ 60) (v1 v2 : Int32) (sz : Nat) : Wr l yX7_set cX7_set 3 none rm_X7_set 0 0 E (shW E so sa ln L C) sz [.ref so, .int v1, .int v2] (fun v3 w1 => v3 = none ∧ w1 = shW E so sa ln L (if hasR v1 (nI 1) L = true then upd C v1.toNatClampNeg (cutL ln v2) else C)) := by
  refine mk_wr (by decide) (Nat.le_of_ble_eq_true rfl) ?_
  intro p e s m args below meth c hC hin hK A hA hP hD hS ls hl
  obtain ⟨hx, hb, hr, hts, hown, hml, hlk, hN⟩ := id hC
  have hl : lv_has ls 3 [(0, .ref so), (1, .int v1), (2, .int v2)] := hl
  obtain ⟨H, hH⟩ : ∃ z, z = s.heap := ⟨_, rfl⟩
  have hS : va_S A s.heap H [] := by rw [hH]; exact hS
  rw [← hH] at hP
  refine W_heap hH ?_
  obtain ⟨locs, hlo⟩ : ∃ z : List Loc, z = [] := ⟨_, rfl⟩
  rw [← hlo] at hS ⊢
  refine lv_aload_n hx hb dX7_set_0 rfl (lv_at hl 0 rfl) ?_
  refine lv_iload_n hx hb dX7_set_1 rfl (lv_at hl 1 rfl) ?_
  refine lv_iconst (v := nI 1) hx hb dX7_set_2 (by decide) ?_
  refine cV_r (rest := []) hC (k_has l E so sa ln L C hL v1 (nI 1)) kw_191 iy_X7_has ⟨Nat.le_of_ble_eq_true rfl, Nat.le_of_ble_eq_true rfl⟩ ⟨rfl, rfl⟩ hK hP (va_recv hK hP (ci := 5) (q0 := 0) rfl rfl) rfl hl.1 rfl (Nat.le_of_ble_eq_true rfl) dX7_set_3 ⟨Nat.le_of_ble_eq_true rfl, Nat.le_of_ble_eq_true rfl⟩ ?_
  refine b_if_eq (tgt := 20) hx hb dX7_set_6 (by decide) (fun c_1 => ?_) (fun c_1 => ?_)
  · -- t 20
    exact rw_v hC hP hD hS (⟨rfl, by rw [if_neg (by rw [c_1]; decide)]⟩) dX7_set_20 (Nat.le_of_ble_eq_true rfl) (Nat.le_of_ble_eq_true rfl)
  · -- f 9
    have hc9 := c_1
    obtain ⟨j1, hj1, hj2, rfl⟩ := hasR_1 hc9
    have hl : lv_has ls 3 [(0, .ref so), (1, .int (nI j1)), (2, .int v2)] := hl
    refine lv_aload_n hx hb dX7_set_9 rfl (lv_at hl 0 rfl) ?_
    refine va_get (D := E.1) (ci := 5) (v := .ref sa) (C := RX7) (T := TX7) (N := 2) hx hb hts iX7 hown hK hP 0 rfl rfl 1 (by decide) (hts _ kw_625) (fun _ h9 => h9) rfl dX7_set_10 ?_
    refine lv_iload_n hx hb dX7_set_13 rfl (lv_at hl 1 rfl) ?_
    refine lv_aload_n hx hb dX7_set_14 rfl (lv_at hl 0 rfl) ?_
    refine lv_iload_n hx hb dX7_set_15 rfl (lv_at hl 2 rfl) ?_
    refine cV_r (rest := [.int (nI j1), .ref sa]) hC (k_cut l E so sa ln L C v2) kw_644 iy_X7_cut ⟨Nat.le_of_ble_eq_true rfl, Nat.le_of_ble_eq_true rfl⟩ ⟨rfl, rfl⟩ hK hP (va_recv hK hP (ci := 5) (q0 := 0) rfl rfl) rfl hl.1 rfl (Nat.le_of_ble_eq_true rfl) dX7_set_16 ⟨Nat.le_of_ble_eq_true rfl, Nat.le_of_ble_eq_true rfl⟩ ?_
    refine n_iastR hx hb hK hP hD hS 1 rfl (by omega) (by omega) dX7_set_19 (fun H locs hP hD hS => ?_)
    have hP : va_P E.1 vwCl (shW E so sa ln L (upd C j1 (cutL ln v2))) H := hP
    have hD : va_D A (shW E so sa ln L (upd C j1 (cutL ln v2))) := hD
    exact rw_v hC hP hD hS (⟨rfl, by rw [if_pos hc9, nI_clamp hj2]⟩) dX7_set_20 (Nat.le_of_ble_eq_true rfl) (Nat.le_of_ble_eq_true rfl)
