/-! ===== the law's beginning ===== -/
theorem ar_of {s : State} {args : Array Value} {ty : FieldType} (h : (Cond.arrayClass ty).before args s = true) : ∃ cA : ClassId, ArrOfT s cA ty ∧ s.vm.findClass ("[" ++ ty.toString) = some cA := by
  obtain ⟨cA, kA, comp, h1, h2, h3⟩ := Cond.arrayClass_spec h
  exact ⟨cA, fun n z => ⟨fun k h => (by cases h), kA, h2, comp, h3⟩, h1⟩
theorem ao_of {s : State} {args : Array Value} {C : String} (h : (Cond.arrayOver (.object C)).before args s = true) : ∃ cA : ClassId, ArrOfT s cA (.object C) ∧ va_RA s cA (.object C) := by
  obtain ⟨comp, cA, kA, h1, h2, h3, h4, h5⟩ := Cond.arrayOver_spec h
  exact ⟨cA, fun n z => ⟨fun k h => (by cases h), kA, h3, comp, h4⟩, kA, comp, h3, h4, h1, h5⟩
theorem tb_of {w : Cond} (i : Nat) (h : tables_1[i]? = some w) : w ∈ lw_tbl := List.mem_append_right _ (List.mem_of_getElem? h)
theorem nw_of {args : Array Value} {s : State} (hts : ∀ w ∈ lw_tbl, w.before args s = true) : NW s := ⟨va_Nw.of rfl (hts _ (tb_of 196 (by decide +kernel))), va_Nw.of rfl (hts _ (tb_of 213 (by decide +kernel))), va_Nw.of rfl (hts _ (tb_of 372 (by decide +kernel))), va_Nw.of rfl (hts _ (tb_of 417 (by decide +kernel))), va_Nw.of rfl (hts _ (tb_of 446 (by decide +kernel))), va_Nw.of rfl (hts _ (tb_of 484 (by decide +kernel))), va_Nw.of rfl (hts _ (tb_of 503 (by decide +kernel))), va_Nw.of rfl (hts _ (tb_of 509 (by decide +kernel))), va_Nw.of rfl (hts _ (tb_of 553 (by decide +kernel))), va_Nw.of rfl (hts _ (tb_of 554 (by decide +kernel))), va_Nw.of rfl (hts _ (tb_of 677 (by decide +kernel))), va_Nw.of rfl (hts _ (tb_of 683 (by decide +kernel))), va_Nw.of rfl (hts _ (tb_of 1105 (by decide +kernel))), va_Nw.of rfl (hts _ (tb_of 1106 (by decide +kernel))), va_AO.of (hts _ (tb_of 27 (by decide +kernel))), va_AO.of (hts _ (tb_of 29 (by decide +kernel)))⟩
theorem ee_of {args : Array Value} {s : State} (hts : ∀ w ∈ lw_tbl, w.before args s = true) : ∃ E : EE, va_K E.1 vwCl (tyE E) s := by
  have htg := tG_tbl hts
  obtain ⟨c0, i0, k0⟩ := u_known (C := RX0) (T := TX0) (N := 5) (n := 5) htg iX0 (htg _ kw_82)
  obtain ⟨c1, i1, k1⟩ := u_known (C := RX1) (T := TX1) (N := 5) (n := 5) htg iX1 (htg _ kw_273)
  obtain ⟨c2, i2, k2⟩ := u_known (C := RX3) (T := TX3) (N := 2) (n := 2) htg iX3 (htg _ kw_165)
  obtain ⟨c3, i3, k3⟩ := u_known (C := RX4) (T := TX4) (N := 5) (n := 5) htg iX4 (htg _ kw_321)
  obtain ⟨c4, i4, k4⟩ := u_known (C := RX6) (T := TX6) (N := 6) (n := 6) htg iX6 (htg _ kw_42)
  obtain ⟨c5, i5, k5⟩ := u_known (C := RX7) (T := TX7) (N := 2) (n := 2) htg iX7 (htg _ kw_618)
  obtain ⟨c6, i6, k6⟩ := u_known (C := RX8) (T := TX8) (N := 2) (n := 2) htg iX8 (htg _ kw_48)
  obtain ⟨c7, i7, k7⟩ := u_known (C := RX9) (T := TX9) (N := 1) (n := 1) htg iX9 (htg _ kw_31)
  obtain ⟨c8, i8, k8⟩ := u_known (C := RX10) (T := TX10) (N := 5) (n := 5) htg iX10 (htg _ kw_306)
  obtain ⟨c9, i9, k9⟩ := u_known (C := RX11) (T := TX11) (N := 13) (n := 13) htg iX11 (htg _ kw_19)
  obtain ⟨c10, i10, k10⟩ := u_known (C := RX12) (T := TX12) (N := 30) (n := 30) htg iX12 (htg _ kw_733)
  obtain ⟨a0, p0, q0⟩ := ar_of (htg _ kw_80)
  obtain ⟨a1, p1, q1⟩ := ar_of (htg _ kw_103)
  obtain ⟨a2, p2, q2⟩ := ar_of (htg _ kw_60)
  obtain ⟨a3, p3, q3⟩ := ao_of (C := RX7) (hts _ (tb_of 27 (by decide +kernel)))
  obtain ⟨a4, p4, q4⟩ := ao_of (C := RX1) (hts _ (tb_of 29 (by decide +kernel)))
  refine ⟨((fun k => match k with | 0 => c0 | 1 => c1 | 2 => c2 | 3 => c3 | 4 => c4 | 5 => c5 | 6 => c6 | 7 => c7 | 8 => c8 | 9 => c9 | _ => c10, fun k => match k with | 0 => i0 | 1 => i1 | 2 => i2 | 3 => i3 | 4 => i4 | 5 => i5 | 6 => i6 | 7 => i7 | 8 => i8 | 9 => i9 | _ => i10), fun k => match k with | 0 => a0 | 1 => a1 | 2 => a2 | 3 => a3 | _ => a4), fun c q hq => ?_, fun k q hq => ?_⟩
  · match c, hq with
    | 0, hq => cases hq; exact k0
    | 1, hq => cases hq; exact k1
    | 2, hq => cases hq; exact k2
    | 3, hq => cases hq; exact k3
    | 4, hq => cases hq; exact k4
    | 5, hq => cases hq; exact k5
    | 6, hq => cases hq; exact k6
    | 7, hq => cases hq; exact k7
    | 8, hq => cases hq; exact k8
    | 9, hq => cases hq; exact k9
    | 10, hq => cases hq; exact k10
    | c + 11, hq => simp [vwCl] at hq
  · match k, hq with
    | 0, hq => cases hq; exact ⟨p0, q0⟩
    | 1, hq => cases hq; exact ⟨p1, q1⟩
    | 2, hq => cases hq; exact ⟨p2, q2⟩
    | 3, hq => cases hq; exact ⟨p3, q3⟩
    | 4, hq => cases hq; exact ⟨p4, q4⟩
    | k + 5, hq => simp [tyE] at hq
abbrev X20 : Nat → Int32 := upd (upd (upd (upd (fun j => nI 0) 0 (-9)) 1 (-9)) 2 (-9)) 3 (-9)
theorem CS_00 : CS 0 0 (fun _ => 0) (fun _ _ => 0) (fun _ => 0) := by
  have hp : PsK 0 (fun _ => 0) ((fun _ _ => 0 : Nat → Nat → Nat) 2) ((fun _ _ => 0 : Nat → Nat → Nat) 3) 0 0 := by
    refine ⟨by decide, by decide, ?_, ?_, ?_, ?_⟩ <;> decide
  exact ⟨⟨by decide, by decide⟩, ⟨fun _ => Nat.zero_lt_succ _, fun p hp => absurd hp (by omega), fun p hp => absurd hp (by omega)⟩, fun c hc => absurd hc (by omega), rfl, hp, hp, fun c hc => absurd hc (by omega)⟩
theorem TBt_0 : TBt (fun _ => 0) 0 := ⟨fun _ => (by decide : 0 < 2 ^ 63), TI_0 (fun _ _ => rfl), by rw [nz_0 (fun _ _ => rfl)]; exact Nat.le_refl 0, by decide⟩
theorem ShP_00 : ShP X20 (fun _ => 0) (fun _ => none) := by
  refine ⟨fun j hj => ⟨fun _ => ?_, fun _ => rfl⟩, fun _ => Nat.zero_le _⟩
  rcases (show j = 0 ∨ j = 1 ∨ j = 2 ∨ j = 3 by omega) with rfl | rfl | rfl | rfl <;> rfl
theorem CI_00 (E : EE) (ca ra : Nat → Nat) (ao a1 a2 a3 : Nat) : CI E (ca 0) 0 0 (fun _ => 0) (fun _ => 0) (fun _ => 0) 0 (nI 0) X20 (fun _ => nI 0) (fun _ => 0) (CW0 E ca ra ao a1 a2 a3) := by
  refine ⟨ca, ra, ao, fun _ => 0, fun _ _ => 0, fun _ => none, fun _ => 0, [(ca 4, .inl (E.2 1, 4, .inl (fun j => nI ((fun _ => 0) j))))], [(ca 5, .inl (E.2 1, 48, .inl (fun j => nI ((fun _ => 0) j))))], rW E ra (fun _ => 0) 0 (fun _ => 0) (fun _ => 0) (fun _ => 0) (fun _ => 0) (fun _ => 0) 0, [(ao, .inr (0, [.ref a1, .ref a2, .int (nI 0), .ref a3, .int (nI 0)]))], [(a1, .inl (E.2 1, 4, .inl (fun j => nI ((fun _ => 0) j)))), (a2, .inl (E.2 1, 4, .inl (fun j => nI ((fun _ => 0) j)))), (a3, .inl (E.2 1, 4, .inl (fun j => nI ((fun _ => 0) j))))], mdC E (ca 2) (fun _ => none) :: clL (fun _ _ => 0) 0, rfl, ?_, CS_00, rfl, rfl, rfl, ⟨fun _ => 0, rfl, MI_0⟩, ⟨fun _ => 0, rfl, NI_0⟩, ⟨fun _ => 0, 0, fun _ => 0, fun _ => 0, fun _ => 0, fun _ => 0, fun _ => 0, 0, rfl, TBt_0, fun j _ h => absurd rfl h, TBt_0, fun j _ h => absurd rfl h⟩, ⟨a1, a2, a3, 0, 0, fun _ => 0, fun _ => 0, fun _ => 0, rfl, rfl, AI_0 (fun _ => Nat.zero_lt_succ _)⟩, ⟨fun _ => none, rfl, fun i h => absurd h (by omega)⟩, ShP_00⟩
  rw [shB_n rfl, shB_n rfl, shB_n rfl, shB_n rfl]
  rfl
theorem MS_00 (E : EE) (ad : Nat → Nat) : MS E ad 0 0 0 (fun _ => 0) (fun _ => 0) (fun _ => 0) 0 (nI 0) X20 (fun _ => nI 0) (fun _ => 0) (mW E ad (ad 6) (nI 0) (fun _ => 0) (fun k => if k = 2 then X20 else fun _ => nI 0) (fun _ _ => 0) (fun _ _ => 0)) :=
  ⟨_, _, _, _, _, rfl, rfl, rfl, rfl, rfl, rfl, rfl, rfl, rfl, rfl, ⟨Nat.zero_le _, Nat.zero_le _, fun _ => Nat.zero_lt_succ _, fun _ => Nat.zero_lt_succ _, fun _ => Nat.zero_lt_succ _⟩, ⟨fun _ => Nat.le_refl _, fun _ => Nat.zero_lt_succ _⟩, Nat.le_refl _, fun _ => Nat.zero_le _⟩
set_option maxHeartbeats 4000000 in
set_option maxRecDepth 100000 in
/-- the law, from its entry, up to its end -/
theorem law_start {p : Program} {l : Launch} {e : Env} {s : State} {m : MethodId} {args : Array Value} {below : List Frame} {meth : Method} {c : Code} {Q : State → Prop} {E : EE} {b L : Nat} {xs : Nat → Int32} {ls : Array Slot} (h : LH p s m meth c args E (fun q : Nat => s.heap.size ≤ q) b L xs) (hl : lv_has ls 4 [(0, .ref b)]) (ke : ∀ (H : Heap) (locs : List Loc) (ls : Array Slot), va_S (fun q : Nat => s.heap.size ≤ q) s.heap H locs → W p l e room_1 s m args below meth c H locs 600000 7302250 Q (F0 m 1170 ls [])) : W p l e room_1 s m args below meth c s.heap [] 0 0 Q (F0 m 0 ls []) := by
  have h9 := h
  obtain ⟨hC, hK, hA, hX, hbl, hbA, hL⟩ := h9
  obtain ⟨hx, hb, hr, hts, hown, hml, hlocks, hN⟩ := id hC
  have hS : va_S (fun q : Nat => s.heap.size ≤ q) s.heap s.heap [] := va_S.rf
  have hP : va_P E.1 vwCl [] s.heap := fun k q h => by simp at h
  have hD : va_D (fun q : Nat => s.heap.size ≤ q) [] := ⟨fun i j p q h => by simp at h, fun k q h => by simp at h⟩
  refine va_new (ci := 9) (fs := [.null, .null, .int (nI 0), .long (lN 0), .long (lN 0), .int (nI 0), .null, .null, .null, .null, .int (nI 0), .null, .int (nI 0)]) (C := RX11) (T := TX11) (N := 13) hx hb hts iX11 tyX11 tyX11_ok hown (hts _ kw_18) (hts _ kw_19) (hts _ kw_1) hK hP hD hS hA rfl (fun j hj => by rcases (show j = 0 ∨ j = 1 ∨ j = 2 ∨ j = 3 ∨ j = 4 ∨ j = 5 ∨ j = 6 ∨ j = 7 ∨ j = 8 ∨ j = 9 ∨ j = 10 ∨ j = 11 ∨ j = 12 by omega) with rfl | rfl | rfl | rfl | rfl | rfl | rfl | rfl | rfl | rfl | rfl | rfl | rfl <;> rfl) (Nat.le_of_ble_eq_true rfl) (Nat.le_of_ble_eq_true rfl) dL_law_0 (fun q1 H hP hD hS => ?_)
  refine lv_dup hx hb dL_law_3 rfl ?_
  refine cI_wr (X := []) (Y := []) (rest := [.ref q1]) hC (k_init l E q1 _) kw_20 ny_X11_init ⟨Nat.le_of_ble_eq_true rfl, Nat.le_of_ble_eq_true rfl⟩ ⟨rfl, rfl⟩ hK hP hD hS hA rfl rfl hl.1 rfl (Nat.le_of_ble_eq_true rfl) dL_law_4 ⟨Nat.le_of_ble_eq_true rfl, Nat.le_of_ble_eq_true rfl⟩ (fun v w1 H locs hpost hP hD hS => ?_)
  obtain ⟨rfl, ca, ra, ao, a1, a2, a3, rfl, rfl⟩ := hpost
  rw [List.nil_append, List.append_nil] at hP hD
  refine lv_astore_n (lv' := [(1, .ref (ca 0)), (0, .ref b)]) hx hb dL_law_7 rfl hl (by decide) rfl (fun ls hl => ?_)
  refine va_new (ci := 10) (fs := [.int (nI 0), .int (nI 0), .null, .null, .null, .int (nI 0), .null, .null, .int (nI 0), .int (nI 0), .null, .null, .null, .null, .null, .null, .null, .int (nI 0), .null, .null, .null, .null, .int (nI 0), .int (nI 0), .null, .null, .int (nI 0), .int (nI 0), .null, .null]) (C := RX12) (T := TX12) (N := 30) hx hb hts iX12 tyX12 tyX12_ok hown (hts _ kw_732) (hts _ kw_733) (hts _ kw_6) hK hP hD hS hA rfl (fun j hj => by rcases (show j = 0 ∨ j = 1 ∨ j = 2 ∨ j = 3 ∨ j = 4 ∨ j = 5 ∨ j = 6 ∨ j = 7 ∨ j = 8 ∨ j = 9 ∨ j = 10 ∨ j = 11 ∨ j = 12 ∨ j = 13 ∨ j = 14 ∨ j = 15 ∨ j = 16 ∨ j = 17 ∨ j = 18 ∨ j = 19 ∨ j = 20 ∨ j = 21 ∨ j = 22 ∨ j = 23 ∨ j = 24 ∨ j = 25 ∨ j = 26 ∨ j = 27 ∨ j = 28 ∨ j = 29 by omega) with rfl | rfl | rfl | rfl | rfl | rfl | rfl | rfl | rfl | rfl | rfl | rfl | rfl | rfl | rfl | rfl | rfl | rfl | rfl | rfl | rfl | rfl | rfl | rfl | rfl | rfl | rfl | rfl | rfl | rfl <;> rfl) (Nat.le_of_ble_eq_true rfl) (Nat.le_of_ble_eq_true rfl) dL_law_8 (fun q2 H hP hD hS => ?_)
  refine lv_dup hx hb dL_law_11 rfl ?_
  refine cI_wr (X := CW0 E ca ra ao a1 a2 a3) (Y := []) (rest := [.ref q2]) hC (c_m_init l E q2 _) kw_734 ny_X12_init ⟨Nat.le_of_ble_eq_true rfl, Nat.le_of_ble_eq_true rfl⟩ ⟨rfl, rfl⟩ hK hP hD hS hA rfl rfl hl.1 rfl (Nat.le_of_ble_eq_true rfl) dL_law_12 ⟨Nat.le_of_ble_eq_true rfl, Nat.le_of_ble_eq_true rfl⟩ (fun v w1 H locs hpost hP hD hS => ?_)
  obtain ⟨rfl, ad, rfl, rfl⟩ := hpost
  rw [List.append_nil] at hP hD
  refine lv_astore_n (lv' := [(2, .ref (ad 0)), (1, .ref (ca 0)), (0, .ref b)]) hx hb dL_law_15 rfl hl (by decide) rfl (fun ls hl => ?_)
  refine lv_iconst (v := nI 0) hx hb dL_law_16 (by decide) ?_
  refine lv_istore_n (lv' := [(3, .int (nI 0)), (2, .ref (ad 0)), (1, .ref (ca 0)), (0, .ref b)]) hx hb dL_law_17 rfl hl (by decide) rfl (fun ls hl => ?_)
  exact law_loop (co := ca 0) (ad := ad) h ke 512 0 0 _ _ H locs ls (by omega) (by omega) (by omega) (by omega) (by omega) ⟨_, _, _, _, _, _, _, _, _, _, _, _, CI_00 E ca ra ao a1 a2 a3, MS_00 E ad, hP, hD⟩ hS (lv_sub hl [3, 2, 1, 0] rfl)
