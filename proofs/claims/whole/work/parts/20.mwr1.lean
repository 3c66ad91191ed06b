set_option maxHeartbeats 4000000 in
set_option maxRecDepth 100000 in
theorem c_m_fails (l : Launch) (E : EE) (ad : Nat → Nat) (lk : Nat) (tr : Int32) (N : Nat → Nat) (X : Nat → Nat → Int32) (F G : Nat → Nat → Nat) (sz : Nat) (kd : Nat) : Wr l yX12_fails cX12_fails 2 (some .int) rm_X12_fails 0 0 E (mW E ad lk tr N X F G) sz [.ref (ad 0), .int (nI kd)] (fun v w1 => v = some (.int ((-10) - nI kd)) ∧ w1 = mW E ad lk tr (va_up N 0 kd) X F G) := by
  refine mk_wr (by decide) (Nat.le_of_ble_eq_true rfl) ?_
  intro p e s m args below meth c hC hin hK A hA hP hD hS ls hl
  obtain ⟨hx, hb, hr, hts, hown, hml, hlk, hN⟩ := id hC
  have hl : lv_has ls 2 [(0, .ref (ad 0)), (1, .int (nI kd))] := hl
  obtain ⟨H, hH⟩ : ∃ z, z = s.heap := ⟨_, rfl⟩
  have hS : va_S A s.heap H [] := by rw [hH]; exact hS
  rw [← hH] at hP
  refine W_heap hH ?_
  obtain ⟨locs, hlo⟩ : ∃ z : List Loc, z = [] := ⟨_, rfl⟩
  rw [← hlo] at hS ⊢
  refine lv_aload_n hx hb dX12_fails_0 rfl (lv_at hl 0 rfl) ?_
  refine lv_iload_n hx hb dX12_fails_1 rfl (lv_at hl 1 rfl) ?_
  refine va_put (D := E.1) (ci := 10) (v := .int (nI kd)) (ty := .int) (C := RX12) (T := TX12) (N := 30) hx hb hts iX12 tyX12 tyX12_ok nmX12 hown hK hP hD hS 0 rfl rfl 0 (by decide) (hts _ kw_739) (fun _ h9 => h9) rfl (by decide +kernel) rfl rfl (Nat.le_of_ble_eq_true rfl) dX12_fails_2 (fun H locs hP hD hS => ?_)
  have hP : va_P E.1 vwCl (mW E ad lk tr (va_up N 0 kd) X F G) H := hP
  have hD : va_D A (mW E ad lk tr (va_up N 0 kd) X F G) := hD
  refine lv_bipush (v := -10) hx hb dX12_fails_5 (by decide) ?_
  refine lv_iload_n hx hb dX12_fails_7 rfl (lv_at hl 1 rfl) ?_
  refine lv_isub hx hb dX12_fails_8 ?_
  exact rw_i hC rfl hP hD hS (⟨rfl, rfl⟩) dX12_fails_9 (Nat.le_of_ble_eq_true rfl) (Nat.le_of_ble_eq_true rfl)

set_option maxHeartbeats 4000000 in
set_option maxRecDepth 100000 in
theorem c_m_lost (l : Launch) (E : EE) (ad : Nat → Nat) (lk : Nat) (tr : Int32) (N : Nat → Nat) (X : Nat → Nat → Int32) (F G : Nat → Nat → Nat) (sz : Nat) (kd : Nat) : Wr l yX12_lost cX12_lost 2 (some .long) rm_X12_lost 0 0 E (mW E ad lk tr N X F G) sz [.ref (ad 0), .int (nI kd)] (fun v w1 => v = some (.long (lN 9223372036854775808)) ∧ w1 = mW E ad lk tr (va_up N 0 kd) X F G) := by
  refine mk_wr (by decide) (Nat.le_of_ble_eq_true rfl) ?_
  intro p e s m args below meth c hC hin hK A hA hP hD hS ls hl
  obtain ⟨hx, hb, hr, hts, hown, hml, hlk, hN⟩ := id hC
  have hl : lv_has ls 2 [(0, .ref (ad 0)), (1, .int (nI kd))] := hl
  obtain ⟨H, hH⟩ : ∃ z, z = s.heap := ⟨_, rfl⟩
  have hS : va_S A s.heap H [] := by rw [hH]; exact hS
  rw [← hH] at hP
  refine W_heap hH ?_
  obtain ⟨locs, hlo⟩ : ∃ z : List Loc, z = [] := ⟨_, rfl⟩
  rw [← hlo] at hS ⊢
  refine lv_aload_n hx hb dX12_lost_0 rfl (lv_at hl 0 rfl) ?_
  refine lv_iload_n hx hb dX12_lost_1 rfl (lv_at hl 1 rfl) ?_
  refine va_put (D := E.1) (ci := 10) (v := .int (nI kd)) (ty := .int) (C := RX12) (T := TX12) (N := 30) hx hb hts iX12 tyX12 tyX12_ok nmX12 hown hK hP hD hS 0 rfl rfl 0 (by decide) (hts _ kw_739) (fun _ h9 => h9) rfl (by decide +kernel) rfl rfl (Nat.le_of_ble_eq_true rfl) dX12_lost_2 (fun H locs hP hD hS => ?_)
  have hP : va_P E.1 vwCl (mW E ad lk tr (va_up N 0 kd) X F G) H := hP
  have hD : va_D A (mW E ad lk tr (va_up N 0 kd) X F G) := hD
  refine lv_ldc2 (v := lN 9223372036854775808) hx hb hown (hts _ kw_928) dX12_lost_5 ?_
  exact rw_l hC hP hD hS (⟨rfl, rfl⟩) dX12_lost_8 (Nat.le_of_ble_eq_true rfl) (Nat.le_of_ble_eq_true rfl)

set_option maxHeartbeats 4000000 in
set_option maxRecDepth 100000 in
theorem c_m_back (l : Launch) (E : EE) (ad : Nat → Nat) (lk : Nat) (tr : Int32) (N : Nat → Nat) (X : Nat → Nat → Int32) (F G : Nat → Nat → Nat) (sz : Nat) (hM : MOK N F)  : Wr l yX12_back cX12_back 1 (some .int) rm_X12_back 0 0 E (mW E ad lk tr N X F G) sz [.ref (ad 0)] (fun v w1 => if N 9 = 0 then v = some (.int (-3)) ∧ w1 = mW E ad lk tr N X F G else v = some (.int (nI (N 9 - 1))) ∧ w1 = mW E ad lk tr (va_up N 9 (N 9 - 1)) X F G) := by
  refine mk_wr (by decide) (Nat.le_of_ble_eq_true rfl) ?_
  intro p e s m args below meth c hC hin hK A hA hP hD hS ls hl
  obtain ⟨hx, hb, hr, hts, hown, hml, hlk, hN⟩ := id hC
  have hl : lv_has ls 1 [(0, .ref (ad 0))] := hl
  obtain ⟨hM5, hM9, hMp, hMq, hMn⟩ := id hM
  have hn : ∀ j, j < 4 → F 6 j < 16 := fun j _ => hMn j
  obtain ⟨H, hH⟩ : ∃ z, z = s.heap := ⟨_, rfl⟩
  have hS : va_S A s.heap H [] := by rw [hH]; exact hS
  rw [← hH] at hP
  refine W_heap hH ?_
  obtain ⟨locs, hlo⟩ : ∃ z : List Loc, z = [] := ⟨_, rfl⟩
  rw [← hlo] at hS ⊢
  refine lv_aload_n hx hb dX12_back_0 rfl (lv_at hl 0 rfl) ?_
  refine va_get (D := E.1) (ci := 10) (v := .int (nI (N 9))) (C := RX12) (T := TX12) (N := 30) hx hb hts iX12 hown hK hP 0 rfl rfl 9 (by decide) (hts _ kw_748) (fun _ h9 => h9) rfl dX12_back_1 ?_
  refine n_if_ne (tgt := 10) hx hb (by omega) dX12_back_4 (by decide) (fun c_1 => ?_) (fun c_1 => ?_)
  · -- t 10
    refine lv_aload_n hx hb dX12_back_10 rfl (lv_at hl 0 rfl) ?_
    refine lv_dup hx hb dX12_back_11 rfl ?_
    refine va_get (D := E.1) (ci := 10) (v := .int (nI (N 9))) (C := RX12) (T := TX12) (N := 30) hx hb hts iX12 hown hK hP 0 rfl rfl 9 (by decide) (hts _ kw_748) (fun _ h9 => h9) rfl dX12_back_12 ?_
    refine lv_iconst (v := nI 1) hx hb dX12_back_15 (by decide) ?_
    refine n_isub hx hb (by omega) dX12_back_16 ?_
    refine va_put (D := E.1) (ci := 10) (v := .int (nI ((N 9) - 1))) (ty := .int) (C := RX12) (T := TX12) (N := 30) hx hb hts iX12 tyX12 tyX12_ok nmX12 hown hK hP hD hS 0 rfl rfl 9 (by decide) (hts _ kw_748) (fun _ h9 => h9) rfl (by decide +kernel) rfl rfl (Nat.le_of_ble_eq_true rfl) dX12_back_17 (fun H locs hP hD hS => ?_)
    have hP : va_P E.1 vwCl (mW E ad lk tr (va_up N 9 ((N 9) - 1)) X F G) H := hP
    have hD : va_D A (mW E ad lk tr (va_up N 9 ((N 9) - 1)) X F G) := hD
    refine lv_aload_n hx hb dX12_back_20 rfl (lv_at hl 0 rfl) ?_
    refine va_get (D := E.1) (ci := 10) (v := .int (nI ((N 9) - 1))) (C := RX12) (T := TX12) (N := 30) hx hb hts iX12 hown hK hP 0 rfl rfl 9 (by decide) (hts _ kw_748) (fun _ h9 => h9) rfl dX12_back_21 ?_
    exact rw_i hC rfl hP hD hS (by rw [if_neg c_1]; exact ⟨rfl, rfl⟩) dX12_back_24 (Nat.le_of_ble_eq_true rfl) (Nat.le_of_ble_eq_true rfl)
  · -- f 7
    refine lv_bipush (v := -3) hx hb dX12_back_7 (by decide) ?_
    exact rw_i hC rfl hP hD hS (by rw [if_pos c_1]; exact ⟨rfl, rfl⟩) dX12_back_9 (Nat.le_of_ble_eq_true rfl) (Nat.le_of_ble_eq_true rfl)

set_option maxHeartbeats 4000000 in
set_option maxRecDepth 100000 in
theorem c_m_begins (l : Launch) (E : EE) (ad : Nat → Nat) (lk : Nat) (tr : Int32) (N : Nat → Nat) (X : Nat → Nat → Int32) (F G : Nat → Nat → Nat) (sz : Nat) (kd : Nat) : Wr l yX12_begins cX12_begins 2 none rm_X12_begins 0 0 E (mW E ad lk tr N X F G) sz [.ref (ad 0), .int (nI kd)] (fun v w1 => v = none ∧ w1 = mW E ad lk (nI 31 * tr + nI kd) N X F G) := by
  refine mk_wr (by decide) (Nat.le_of_ble_eq_true rfl) ?_
  intro p e s m args below meth c hC hin hK A hA hP hD hS ls hl
  obtain ⟨hx, hb, hr, hts, hown, hml, hlk, hN⟩ := id hC
  have hl : lv_has ls 2 [(0, .ref (ad 0)), (1, .int (nI kd))] := hl
  obtain ⟨H, hH⟩ : ∃ z, z = s.heap := ⟨_, rfl⟩
  have hS : va_S A s.heap H [] := by rw [hH]; exact hS
  rw [← hH] at hP
  refine W_heap hH ?_
  obtain ⟨locs, hlo⟩ : ∃ z : List Loc, z = [] := ⟨_, rfl⟩
  rw [← hlo] at hS ⊢
  refine lv_aload_n hx hb dX12_begins_0 rfl (lv_at hl 0 rfl) ?_
  refine lv_bipush (v := nI 31) hx hb dX12_begins_1 (by decide) ?_
  refine lv_aload_n hx hb dX12_begins_3 rfl (lv_at hl 0 rfl) ?_
  refine va_get (D := E.1) (ci := 10) (v := .int tr) (C := RX12) (T := TX12) (N := 30) hx hb hts iX12 hown hK hP 0 rfl rfl 1 (by decide) (hts _ kw_740) (fun _ h9 => h9) rfl dX12_begins_4 ?_
  refine lv_imul hx hb dX12_begins_7 ?_
  refine lv_iload_n hx hb dX12_begins_8 rfl (lv_at hl 1 rfl) ?_
  refine lv_iadd hx hb dX12_begins_9 ?_
  refine va_put (D := E.1) (ci := 10) (v := .int (((nI 31) * tr) + (nI kd))) (ty := .int) (C := RX12) (T := TX12) (N := 30) hx hb hts iX12 tyX12 tyX12_ok nmX12 hown hK hP hD hS 0 rfl rfl 1 (by decide) (hts _ kw_740) (fun _ h9 => h9) rfl (by decide +kernel) rfl rfl (Nat.le_of_ble_eq_true rfl) dX12_begins_10 (fun H locs hP hD hS => ?_)
  have hP : va_P E.1 vwCl (mW E ad lk (((nI 31) * tr) + (nI kd)) N X F G) H := hP
  have hD : va_D A (mW E ad lk (((nI 31) * tr) + (nI kd)) N X F G) := hD
  exact rw_v hC hP hD hS (⟨rfl, rfl⟩) dX12_begins_13 (Nat.le_of_ble_eq_true rfl) (Nat.le_of_ble_eq_true rfl)
