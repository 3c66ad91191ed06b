set_option maxHeartbeats 4000000 in
set_option maxRecDepth 100000 in
theorem k_read (l : Launch) (E : EE) (to so sa : Nat) (ln : Int32) (L : Nat) (C : Nat → Int32) (f1 n1 : Nat) (hL : L ≤ 60) (hfn : f1 + n1 ≤ L) (sz : Nat) : Wr l yX3_read cX3_read 5 (some .int) rm_X3_read 0 0 E (rdW E to 0 0 so sa ln L C) sz [.ref to, .ref so, .int (nI f1), .int (nI n1)] (rdP E to so sa ln L C f1 n1) := by
  refine mk_wr (by decide) (Nat.le_of_ble_eq_true rfl) ?_
  intro p e s m args below meth c hC hin hK A hA hP hD hS ls hl
  obtain ⟨hx, hb, hr, hts, hown, hml, hlk, hN⟩ := id hC
  have hl : lv_has ls 5 [(0, .ref to), (1, .ref so), (2, .int (nI f1)), (3, .int (nI n1))] := hl
  obtain ⟨H, hH⟩ : ∃ z, z = s.heap := ⟨_, rfl⟩
  have hS : va_S A s.heap H [] := by rw [hH]; exact hS
  rw [← hH] at hP
  refine W_heap hH ?_
  obtain ⟨locs, hlo⟩ : ∃ z : List Loc, z = [] := ⟨_, rfl⟩
  rw [← hlo] at hS ⊢
  refine lv_aload_n hx hb dX3_read_0 rfl (lv_at hl 0 rfl) ?_
  refine lv_aload_n hx hb dX3_read_1 rfl (lv_at hl 1 rfl) ?_
  refine lv_iload_n hx hb dX3_read_2 rfl (lv_at hl 2 rfl) ?_
  refine lv_iload_n hx hb dX3_read_3 rfl (lv_at hl 3 rfl) ?_
  refine cV_w0 (rest := []) hC (k_firstBroken l E to so sa ln L C f1 n1 hL hfn _) kw_183 iy_X3_firstBroken ⟨Nat.le_of_ble_eq_true rfl, Nat.le_of_ble_eq_true rfl⟩ ⟨rfl, rfl⟩ hK hP hD hS hA (va_recv hK hP (ci := 2) (q0 := 0) rfl rfl) rfl hl.1 rfl (Nat.le_of_ble_eq_true rfl) dX3_read_4 ⟨Nat.le_of_ble_eq_true rfl, Nat.le_of_ble_eq_true rfl⟩ (fun v_ w_ H locs hpost hP hD hS => ?_)
  obtain ⟨pe1, nu1, rfl, hbr⟩ := hpost
  rcases hbr with ⟨r1, rfl, hbr⟩ | ⟨rfl, num, hpn, hnx⟩
  ·
    have hr1 : r1 ≤ n1 := (by rcases hbr with h | h; exact Nat.le_of_lt h.1; exact Nat.le_of_eq h.1)
    refine W.eq (g2 := F0 m 7 ls [.int (nI r1)]) rfl ?_
    refine lv_istore (lv' := [(4, .int (nI r1)), (0, .ref to), (1, .ref so), (2, .int (nI f1)), (3, .int (nI n1))]) hx hb dX3_read_7 hl (by decide) rfl (fun ls hl => ?_)
    refine lv_iload hx hb dX3_read_9 (lv_at hl 0 rfl) ?_
    refine n_if_lt (tgt := 19) hx hb (by omega) dX3_read_11 (by decide) ?_
    refine lv_iload hx hb dX3_read_14 (lv_at hl 0 rfl) ?_
    refine lv_goto (tgt := 26) hx hb dX3_read_16 (by decide) ?_
    exact rw_i hC rfl hP hD hS (⟨pe1, nu1, rfl, Or.inl ⟨r1, rfl, by rcases hbr with h | h; exact Or.inl h; exact Or.inr (Or.inl h)⟩⟩) dX3_read_26 (Nat.le_of_ble_eq_true rfl) (Nat.le_of_ble_eq_true rfl)
  ·
    have hpe4 := (parse_ok hpn).1
    refine W.eq (g2 := F0 m 7 ls [.int (-1)]) rfl ?_
    refine lv_istore (lv' := [(4, .int (-1)), (0, .ref to), (1, .ref so), (2, .int (nI f1)), (3, .int (nI n1))]) hx hb dX3_read_7 hl (by decide) rfl (fun ls hl => ?_)
    refine lv_iload hx hb dX3_read_9 (lv_at hl 0 rfl) ?_
    refine lv_if_lt (tgt := 19) hx hb dX3_read_11 (by decide) (fun c_1 => ?_) (fun c_1 => ?_)
    · -- t 19
      refine lv_aload_n hx hb dX3_read_19 rfl (lv_at hl 1 rfl) ?_
      refine lv_aload_n hx hb dX3_read_20 rfl (lv_at hl 2 rfl) ?_
      refine lv_iload_n hx hb dX3_read_21 rfl (lv_at hl 3 rfl) ?_
      refine lv_iload_n hx hb dX3_read_22 rfl (lv_at hl 4 rfl) ?_
      refine cV_r (rest := []) hC (k_firstStranger l E to pe1 nu1 so sa ln L C f1 n1 hL hfn hpe4) kw_206 iy_X3_firstStranger ⟨Nat.le_of_ble_eq_true rfl, Nat.le_of_ble_eq_true rfl⟩ ⟨rfl, rfl⟩ hK hP (va_recv hK hP (ci := 2) (q0 := 0) rfl rfl) rfl hl.1 rfl (Nat.le_of_ble_eq_true rfl) dX3_read_23 ⟨Nat.le_of_ble_eq_true rfl, Nat.le_of_ble_eq_true rfl⟩ ?_
      exact rw_i hC rfl hP hD hS (sg_end hpn hnx) dX3_read_26 (Nat.le_of_ble_eq_true rfl) (Nat.le_of_ble_eq_true rfl)
    · -- f 14
      exact absurd (by decide) c_1
