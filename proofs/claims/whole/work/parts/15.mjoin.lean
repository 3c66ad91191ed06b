set_option maxHeartbeats 4000000 in
set_option maxRecDepth 100000 in
theorem c_numO (l : Launch) (E : EE) (ar : Nat) (net : Nat → Nat) (st pp : Nat) (h1 : st < 2 ^ 31) (h2 : pp < 4) : Rd l yX12_numbersOf cX12_numbersOf 5 (some .int) rm_X12_numbersOf E (aW E ar net) [.ref ar, .int (nI st), .int (nI pp)] (some (.int (nI (numO net st pp)))) := by
  refine mk_rd (by decide) (Nat.le_of_ble_eq_true rfl) ?_
  intro p e s m args below meth c hC hK hP ls hl
  obtain ⟨hx, hb, hr, hts, hown, hml, hlk, hN⟩ := id hC
  have hl : lv_has ls 5 [(0, .ref ar), (1, .int (nI st)), (2, .int (nI pp))] := hl
  refine lv_iconst (v := nI 0) hx hb dX12_numbersOf_0 (by decide) ?_
  refine lv_istore_n (lv' := [(3, .int (nI 0)), (0, .ref ar), (1, .int (nI st)), (2, .int (nI pp))]) hx hb dX12_numbersOf_1 rfl hl (by decide) rfl (fun ls hl => ?_)
  refine lv_iconst (v := nI 0) hx hb dX12_numbersOf_2 (by decide) ?_
  refine lv_istore (lv' := [(4, .int (nI 0)), (3, .int (nI 0)), (0, .ref ar), (1, .int (nI st)), (2, .int (nI pp))]) hx hb dX12_numbersOf_3 hl (by decide) rfl (fun ls hl => ?_)
  have lp_1 : ∀ (n_lp_1 : Nat) (k : Nat) (hk : k ≤ 4), 4 - k < n_lp_1 → ∀ (ls : Array Slot), lv_has ls 5 [(0, .ref ar), (1, .int (nI st)), (2, .int (nI pp)), (3, .int (nI (numS net (of4 st pp) k))), (4, .int (nI k))] → W p l e rm_X12_numbersOf s m args below meth c s.heap [] 0 0 (MQ below (pz_Q (some (.int (nI (numO net st pp))))) args s 0 0 pz_F) (F0 m 5 ls []) := by
    intro n_lp_1
    induction n_lp_1 with
    | zero => intro k hk; intro hm_lp_1; exact absurd hm_lp_1 (Nat.not_lt_zero _)
    | succ n_lp_1 ih_lp_1 =>
      intro k hk hm_lp_1 ls hl
      refine lv_iload hx hb dX12_numbersOf_5 (lv_at hl 4 rfl) ?_
      refine lv_iconst (v := nI 4) hx hb dX12_numbersOf_7 (by decide) ?_
      refine n_icmp_ge (tgt := 46) hx hb (by omega) (by omega) dX12_numbersOf_8 (by decide) (fun c_2 => ?_) (fun c_2 => ?_)
      · -- t 46
        refine lv_iload_n hx hb dX12_numbersOf_46 rfl (lv_at hl 3 rfl) ?_
        exact rz_iE hC (by rw [show k = 4 by omega]) dX12_numbersOf_47
      · -- f 11
        refine lv_iload_n hx hb dX12_numbersOf_11 rfl (lv_at hl 3 rfl) ?_
        refine lv_iload_n hx hb dX12_numbersOf_12 rfl (lv_at hl 1 rfl) ?_
        refine lv_iload_n hx hb dX12_numbersOf_13 rfl (lv_at hl 2 rfl) ?_
        refine cS_p (rest := [.int (nI (numS net (of4 st pp) k))]) hC (c_of l st pp (by omega) (by omega)) kw_874 sy_X12_of ⟨Nat.le_of_ble_eq_true rfl, Nat.le_of_ble_eq_true rfl⟩ ⟨rfl, rfl⟩ rfl hl.1 rfl (Nat.le_of_ble_eq_true rfl) dX12_numbersOf_14 ⟨Nat.le_of_ble_eq_true rfl, Nat.le_of_ble_eq_true rfl⟩ ?_
        have f_3 := of4_lt st pp
        refine lv_iload hx hb dX12_numbersOf_17 (lv_at hl 4 rfl) ?_
        refine cS_p (rest := [.int (nI (numS net (of4 st pp) k))]) hC (c_m_has l (of4 st pp) k (by omega) (by omega)) kw_851 sy_X12_has ⟨Nat.le_of_ble_eq_true rfl, Nat.le_of_ble_eq_true rfl⟩ ⟨rfl, rfl⟩ rfl hl.1 rfl (Nat.le_of_ble_eq_true rfl) dX12_numbersOf_19 ⟨Nat.le_of_ble_eq_true rfl, Nat.le_of_ble_eq_true rfl⟩ ?_
        refine b_if_eq (tgt := 37) hx hb dX12_numbersOf_22 (by decide) (fun c_4 => ?_) (fun c_4 => ?_)
        · -- t 37
          refine lv_iconst (v := nI 0) hx hb dX12_numbersOf_37 (by decide) ?_
          refine n_ior hx hb dX12_numbersOf_38 ?_
          refine lv_istore_n (lv' := [(3, .int (nI ((numS net (of4 st pp) k) ||| 0))), (0, .ref ar), (1, .int (nI st)), (2, .int (nI pp)), (4, .int (nI k))]) hx hb dX12_numbersOf_39 rfl hl (by decide) rfl (fun ls hl => ?_)
          refine lv_iinc (v := nI (k + 1)) (lv' := [(4, .int (nI (k + 1))), (3, .int (nI ((numS net (of4 st pp) k) ||| 0))), (0, .ref ar), (1, .int (nI st)), (2, .int (nI pp))]) hx hb dX12_numbersOf_40 hl (k := 4) rfl (ii_1 _) (by decide) rfl (fun ls hl => ?_)
          refine lv_goto (tgt := 5) hx hb dX12_numbersOf_43 (by decide) ?_
          exact ih_lp_1 (k + 1) (by omega) (by omega) ls (by have h9 : lv_has ls 5 [(0, .ref ar), (1, .int (nI st)), (2, .int (nI pp)), (3, .int (nI ((numS net (of4 st pp) k) ||| 0))), (4, .int (nI (k + 1)))] := lv_sub hl [2, 3, 4, 1, 0] rfl; simpa [numS, c_2, c_4] using h9)
        · -- f 25
          refine lv_aload_n hx hb dX12_numbersOf_25 rfl (lv_at hl 0 rfl) ?_
          refine lv_iload hx hb dX12_numbersOf_26 (lv_at hl 4 rfl) ?_
          refine n_iald hx hb hK hP 0 rfl (by omega) (by decide) dX12_numbersOf_28 ?_
          refine lv_iconst (v := nI 1) hx hb dX12_numbersOf_29 (by decide) ?_
          refine lv_iload hx hb dX12_numbersOf_30 (lv_at hl 4 rfl) ?_
          refine n_ishl hx hb (by omega) dX12_numbersOf_32 ?_
          refine n_ior hx hb dX12_numbersOf_33 ?_
          refine lv_goto (tgt := 38) hx hb dX12_numbersOf_34 (by decide) ?_
          refine n_ior hx hb dX12_numbersOf_38 ?_
          refine lv_istore_n (lv' := [(3, .int (nI ((numS net (of4 st pp) k) ||| ((net k) ||| (1 <<< k))))), (0, .ref ar), (1, .int (nI st)), (2, .int (nI pp)), (4, .int (nI k))]) hx hb dX12_numbersOf_39 rfl hl (by decide) rfl (fun ls hl => ?_)
          refine lv_iinc (v := nI (k + 1)) (lv' := [(4, .int (nI (k + 1))), (3, .int (nI ((numS net (of4 st pp) k) ||| ((net k) ||| (1 <<< k))))), (0, .ref ar), (1, .int (nI st)), (2, .int (nI pp))]) hx hb dX12_numbersOf_40 hl (k := 4) rfl (ii_1 _) (by decide) rfl (fun ls hl => ?_)
          refine lv_goto (tgt := 5) hx hb dX12_numbersOf_43 (by decide) ?_
          exact ih_lp_1 (k + 1) (by omega) (by omega) ls (by have h9 : lv_has ls 5 [(0, .ref ar), (1, .int (nI st)), (2, .int (nI pp)), (3, .int (nI ((numS net (of4 st pp) k) ||| ((net k) ||| (1 <<< k))))), (4, .int (nI (k + 1)))] := lv_sub hl [2, 3, 4, 1, 0] rfl; simpa [numS, c_2, c_4] using h9)
  exact lp_1 _ 0 (by omega) (Nat.lt_succ_self _) ls (lv_sub hl [2, 3, 4, 1, 0] rfl)

set_option maxHeartbeats 4000000 in
set_option maxRecDepth 100000 in
theorem c_may (l : Launch) (E : EE) (ar : Nat) (net : Nat → Nat) (r st tok pp qq : Nat) (h1 : st < 65536) (h2 : pp < 4) (h3 : qq < 4) (h4 : tok < 16) (h5 : r < 4) (hn : ∀ j, j < 4 → net j < 16) : Rd l yX12_mayRing cX12_mayRing 6 (some .boolean) rm_X12_mayRing E (aW E ar net) [.ref ar, .int (nI r), .int (nI st), .int (nI tok), .int (nI pp), .int (nI qq)] (some (.int (bI (mayM net r st tok pp qq)))) := by
  refine mk_rd (by decide) (Nat.le_of_ble_eq_true rfl) ?_
  intro p e s m args below meth c hC hK hP ls hl
  obtain ⟨hx, hb, hr, hts, hown, hml, hlk, hN⟩ := id hC
  have hl : lv_has ls 6 [(0, .ref ar), (1, .int (nI r)), (2, .int (nI st)), (3, .int (nI tok)), (4, .int (nI pp)), (5, .int (nI qq))] := hl
  refine lv_iload hx hb dX12_mayRing_0 (lv_at hl 4 rfl) ?_
  refine lv_iload hx hb dX12_mayRing_2 (lv_at hl 5 rfl) ?_
  refine n_icmp_eq (tgt := 22) hx hb (by omega) (by omega) dX12_mayRing_4 (by decide) (fun c_1 => ?_) (fun c_1 => ?_)
  · -- t 22
    refine lv_iconst (v := nI 0) hx hb dX12_mayRing_22 (by decide) ?_
    exact rz_bE hC (by rw [show (mayM net r st tok pp qq) = false from by simp [mayM, c_1]]; rfl) dX12_mayRing_23
  · -- f 7
    refine lv_aload_n hx hb dX12_mayRing_7 rfl (lv_at hl 0 rfl) ?_
    refine lv_iload_n hx hb dX12_mayRing_8 rfl (lv_at hl 2 rfl) ?_
    refine lv_iload hx hb dX12_mayRing_9 (lv_at hl 4 rfl) ?_
    refine cS_r (rest := []) hC (c_numO l E ar net st pp (by omega) (by omega)) kw_877 sy_X12_numbersOf ⟨Nat.le_of_ble_eq_true rfl, Nat.le_of_ble_eq_true rfl⟩ ⟨rfl, rfl⟩ hK (hP.sub (ws' := aW E ar net) [0] rfl) rfl hl.1 rfl (Nat.le_of_ble_eq_true rfl) dX12_mayRing_11 ⟨Nat.le_of_ble_eq_true rfl, Nat.le_of_ble_eq_true rfl⟩ ?_
    have f_2 := numO_lt hn st pp
    refine lv_iload hx hb dX12_mayRing_14 (lv_at hl 5 rfl) ?_
    refine cS_p (rest := []) hC (c_m_has l (numO net st pp) qq (by omega) (by omega)) kw_851 sy_X12_has ⟨Nat.le_of_ble_eq_true rfl, Nat.le_of_ble_eq_true rfl⟩ ⟨rfl, rfl⟩ rfl hl.1 rfl (Nat.le_of_ble_eq_true rfl) dX12_mayRing_16 ⟨Nat.le_of_ble_eq_true rfl, Nat.le_of_ble_eq_true rfl⟩ ?_
    refine b_if_ne (tgt := 24) hx hb dX12_mayRing_19 (by decide) (fun c_3 => ?_) (fun c_3 => ?_)
    · -- t 24
      refine lv_iload_n hx hb dX12_mayRing_24 rfl (lv_at hl 1 rfl) ?_
      refine lv_iconst (v := nI 1) hx hb dX12_mayRing_25 (by decide) ?_
      refine n_icmp_ne (tgt := 49) hx hb (by omega) (by omega) dX12_mayRing_26 (by decide) (fun c_4 => ?_) (fun c_4 => ?_)
      · -- t 49
        refine lv_iload_n hx hb dX12_mayRing_49 rfl (lv_at hl 2 rfl) ?_
        refine lv_iload hx hb dX12_mayRing_50 (lv_at hl 4 rfl) ?_
        refine cS_p (rest := []) hC (c_of l st pp (by omega) (by omega)) kw_874 sy_X12_of ⟨Nat.le_of_ble_eq_true rfl, Nat.le_of_ble_eq_true rfl⟩ ⟨rfl, rfl⟩ rfl hl.1 rfl (Nat.le_of_ble_eq_true rfl) dX12_mayRing_52 ⟨Nat.le_of_ble_eq_true rfl, Nat.le_of_ble_eq_true rfl⟩ ?_
        have f_5 := of4_lt st pp
        refine lv_iload_n hx hb dX12_mayRing_55 rfl (lv_at hl 2 rfl) ?_
        refine lv_iload hx hb dX12_mayRing_56 (lv_at hl 5 rfl) ?_
        refine cS_p (rest := [.int (nI (of4 st pp))]) hC (c_of l st qq (by omega) (by omega)) kw_874 sy_X12_of ⟨Nat.le_of_ble_eq_true rfl, Nat.le_of_ble_eq_true rfl⟩ ⟨rfl, rfl⟩ rfl hl.1 rfl (Nat.le_of_ble_eq_true rfl) dX12_mayRing_58 ⟨Nat.le_of_ble_eq_true rfl, Nat.le_of_ble_eq_true rfl⟩ ?_
        have f_6 := of4_lt st qq
        refine n_icmp_eq (tgt := 81) hx hb (by omega) (by omega) dX12_mayRing_61 (by decide) (fun c_7 => ?_) (fun c_7 => ?_)
        · -- t 81
          refine lv_iconst (v := nI 0) hx hb dX12_mayRing_81 (by decide) ?_
          exact rz_bE hC (by rw [show (mayM net r st tok pp qq) = false from by simp [mayM, c_1, c_3, c_4, c_7]]; rfl) dX12_mayRing_82
        · -- f 64
          refine lv_iload_n hx hb dX12_mayRing_64 rfl (lv_at hl 1 rfl) ?_
          refine n_if_eq (tgt := 77) hx hb (by omega) dX12_mayRing_65 (by decide) (fun c_8 => ?_) (fun c_8 => ?_)
          · -- t 77
            refine lv_iconst (v := nI 1) hx hb dX12_mayRing_77 (by decide) ?_
            refine lv_goto (tgt := 82) hx hb dX12_mayRing_78 (by decide) ?_
            exact rz_bE hC (by rw [show (mayM net r st tok pp qq) = true from by simp [mayM, c_1, c_3, c_4, c_7, c_8]]; rfl) dX12_mayRing_82
          · -- f 68
            refine lv_iload_n hx hb dX12_mayRing_68 rfl (lv_at hl 3 rfl) ?_
            refine lv_iload hx hb dX12_mayRing_69 (lv_at hl 4 rfl) ?_
            refine cS_p (rest := []) hC (c_m_has l tok pp (by omega) (by omega)) kw_851 sy_X12_has ⟨Nat.le_of_ble_eq_true rfl, Nat.le_of_ble_eq_true rfl⟩ ⟨rfl, rfl⟩ rfl hl.1 rfl (Nat.le_of_ble_eq_true rfl) dX12_mayRing_71 ⟨Nat.le_of_ble_eq_true rfl, Nat.le_of_ble_eq_true rfl⟩ ?_
            refine b_if_eq (tgt := 81) hx hb dX12_mayRing_74 (by decide) (fun c_9 => ?_) (fun c_9 => ?_)
            · -- t 81
              refine lv_iconst (v := nI 0) hx hb dX12_mayRing_81 (by decide) ?_
              exact rz_bE hC (by rw [show (mayM net r st tok pp qq) = false from by simp [mayM, c_1, c_3, c_4, c_7, c_8, c_9]]; rfl) dX12_mayRing_82
            · -- f 77
              refine lv_iconst (v := nI 1) hx hb dX12_mayRing_77 (by decide) ?_
              refine lv_goto (tgt := 82) hx hb dX12_mayRing_78 (by decide) ?_
              exact rz_bE hC (by rw [show (mayM net r st tok pp qq) = true from by simp [mayM, c_1, c_3, c_4, c_7, c_8, c_9]]; rfl) dX12_mayRing_82
      · -- f 29
        refine lv_iload_n hx hb dX12_mayRing_29 rfl (lv_at hl 2 rfl) ?_
        refine lv_iload hx hb dX12_mayRing_30 (lv_at hl 4 rfl) ?_
        refine cS_p (rest := []) hC (c_of l st pp (by omega) (by omega)) kw_874 sy_X12_of ⟨Nat.le_of_ble_eq_true rfl, Nat.le_of_ble_eq_true rfl⟩ ⟨rfl, rfl⟩ rfl hl.1 rfl (Nat.le_of_ble_eq_true rfl) dX12_mayRing_32 ⟨Nat.le_of_ble_eq_true rfl, Nat.le_of_ble_eq_true rfl⟩ ?_
        have f_10 := of4_lt st pp
        refine lv_iload hx hb dX12_mayRing_35 (lv_at hl 5 rfl) ?_
        refine cS_p (rest := []) hC (c_m_has l (of4 st pp) qq (by omega) (by omega)) kw_851 sy_X12_has ⟨Nat.le_of_ble_eq_true rfl, Nat.le_of_ble_eq_true rfl⟩ ⟨rfl, rfl⟩ rfl hl.1 rfl (Nat.le_of_ble_eq_true rfl) dX12_mayRing_37 ⟨Nat.le_of_ble_eq_true rfl, Nat.le_of_ble_eq_true rfl⟩ ?_
        refine b_if_ne (tgt := 47) hx hb dX12_mayRing_40 (by decide) (fun c_11 => ?_) (fun c_11 => ?_)
        · -- t 47
          refine lv_iconst (v := nI 0) hx hb dX12_mayRing_47 (by decide) ?_
          exact rz_bE hC (by rw [show (mayM net r st tok pp qq) = false from by simp [mayM, c_1, c_3, c_4, c_11]]; rfl) dX12_mayRing_48
        · -- f 43
          refine lv_iconst (v := nI 1) hx hb dX12_mayRing_43 (by decide) ?_
          refine lv_goto (tgt := 48) hx hb dX12_mayRing_44 (by decide) ?_
          exact rz_bE hC (by rw [show (mayM net r st tok pp qq) = true from by simp [mayM, c_1, c_3, c_4, c_11]]; rfl) dX12_mayRing_48
    · -- f 22
      refine lv_iconst (v := nI 0) hx hb dX12_mayRing_22 (by decide) ?_
      exact rz_bE hC (by rw [show (mayM net r st tok pp qq) = false from by simp [mayM, c_1, c_3]]; rfl) dX12_mayRing_23

set_option maxHeartbeats 4000000 in
set_option maxRecDepth 100000 in
theorem c_plc (l : Launch) (st tok : Nat) (h1 : st < 65536) (h2 : tok < 16) : Pz l yX12_placeOf cX12_placeOf 7 (some .int) rm_X12_placeOf [.int (nI st), .int (nI tok)] (some (.int (nI (plc st tok)))) := by
  refine mk_pz (by decide) (Nat.le_of_ble_eq_true rfl) ?_
  intro p e s m args below meth c hC ls hl
  obtain ⟨hx, hb, hr, hts, hown, hml, hlk, hN⟩ := id hC
  have hl : lv_has ls 7 [(0, .int (nI st)), (1, .int (nI tok))] := hl
  refine lv_iload_n hx hb dX12_placeOf_0 rfl (lv_at hl 1 rfl) ?_
  refine lv_istore_n (lv' := [(2, .int (nI tok)), (0, .int (nI st)), (1, .int (nI tok))]) hx hb dX12_placeOf_1 rfl hl (by decide) rfl (fun ls hl => ?_)
  refine lv_iconst (v := nI 0) hx hb dX12_placeOf_2 (by decide) ?_
  refine lv_istore_n (lv' := [(3, .int (nI 0)), (2, .int (nI tok)), (0, .int (nI st)), (1, .int (nI tok))]) hx hb dX12_placeOf_3 rfl hl (by decide) rfl (fun ls hl => ?_)
  have lp_1 : ∀ (n_lp_1 : Nat) (k : Nat) (hk : k ≤ 4), 4 - k < n_lp_1 → ∀ (ls : Array Slot), lv_has ls 7 [(0, .int (nI st)), (1, .int (nI tok)), (2, .int (nI (plS st tok k))), (3, .int (nI k))] → W p l e rm_X12_placeOf s m args below meth c s.heap [] 0 0 (MQ below (pz_Q (some (.int (nI (plc st tok))))) args s 0 0 pz_F) (F0 m 4 ls []) := by
    intro n_lp_1
    induction n_lp_1 with
    | zero => intro k hk; intro hm_lp_1; exact absurd hm_lp_1 (Nat.not_lt_zero _)
    | succ n_lp_1 ih_lp_1 =>
      intro k hk hm_lp_1 ls hl
      have hs0 := shl_le4 hk
      refine lv_iload_n hx hb dX12_placeOf_4 rfl (lv_at hl 3 rfl) ?_
      refine lv_iconst (v := nI 4) hx hb dX12_placeOf_5 (by decide) ?_
      refine n_icmp_ge (tgt := 52) hx hb (by omega) (by omega) dX12_placeOf_6 (by decide) (fun c_2 => ?_) (fun c_2 => ?_)
      · -- t 52
        refine lv_iload_n hx hb dX12_placeOf_52 rfl (lv_at hl 2 rfl) ?_
        refine lv_ldc (v := nI 65535) hx hb hown (hts _ kw_944) dX12_placeOf_53 ?_
        refine n_iand hx hb dX12_placeOf_55 ?_
        have f_3 : (plS st tok k) &&& 65535 ≤ 65535 := Nat.and_le_right
        exact rz_iE hC (by rw [plc, show k = 4 by omega]) dX12_placeOf_56
      · -- f 9
        refine lv_iload_n hx hb dX12_placeOf_9 rfl (lv_at hl 0 rfl) ?_
        refine lv_iload_n hx hb dX12_placeOf_10 rfl (lv_at hl 3 rfl) ?_
        refine cS_p (rest := []) hC (c_of l st k (by omega) (by omega)) kw_874 sy_X12_of ⟨Nat.le_of_ble_eq_true rfl, Nat.le_of_ble_eq_true rfl⟩ ⟨rfl, rfl⟩ rfl hl.1 rfl (Nat.le_of_ble_eq_true rfl) dX12_placeOf_11 ⟨Nat.le_of_ble_eq_true rfl, Nat.le_of_ble_eq_true rfl⟩ ?_
        have f_4 := of4_lt st k
        refine lv_istore (lv' := [(4, .int (nI (of4 st k))), (0, .int (nI st)), (1, .int (nI tok)), (2, .int (nI (plS st tok k))), (3, .int (nI k))]) hx hb dX12_placeOf_14 hl (by decide) rfl (fun ls hl => ?_)
        refine lv_iload hx hb dX12_placeOf_16 (lv_at hl 0 rfl) ?_
        refine lv_iconst (v := nI 1) hx hb dX12_placeOf_18 (by decide) ?_
        refine lv_iload_n hx hb dX12_placeOf_19 rfl (lv_at hl 4 rfl) ?_
        refine n_ishl hx hb (by omega) dX12_placeOf_20 ?_
        refine lv_iconst (v := nI 1) hx hb dX12_placeOf_21 (by decide) ?_
        refine n_isub hx hb (by omega) dX12_placeOf_22 ?_
        refine n_iand hx hb dX12_placeOf_23 ?_
        refine lv_istore (lv' := [(5, .int (nI ((of4 st k) &&& ((1 <<< k) - 1)))), (4, .int (nI (of4 st k))), (0, .int (nI st)), (1, .int (nI tok)), (2, .int (nI (plS st tok k))), (3, .int (nI k))]) hx hb dX12_placeOf_24 hl (by decide) rfl (fun ls hl => ?_)
        refine lv_iload hx hb dX12_placeOf_26 (lv_at hl 1 rfl) ?_
        refine lv_iload_n hx hb dX12_placeOf_28 rfl (lv_at hl 5 rfl) ?_
        refine lv_iconst (v := nI 1) hx hb dX12_placeOf_29 (by decide) ?_
        refine n_iadd hx hb dX12_placeOf_30 ?_
        refine n_ishr hx hb (by omega) (by omega) dX12_placeOf_31 ?_
        have f_5 := shr_le (of4 st k) (k + 1)
        refine lv_iload_n hx hb dX12_placeOf_32 rfl (lv_at hl 5 rfl) ?_
        refine n_ishl hx hb (by omega) dX12_placeOf_33 ?_
        refine lv_istore (lv' := [(6, .int (nI (((of4 st k) >>> (k + 1)) <<< k))), (5, .int (nI ((of4 st k) &&& ((1 <<< k) - 1)))), (4, .int (nI (of4 st k))), (0, .int (nI st)), (1, .int (nI tok)), (2, .int (nI (plS st tok k))), (3, .int (nI k))]) hx hb dX12_placeOf_34 hl (by decide) rfl (fun ls hl => ?_)
        refine lv_iload_n hx hb dX12_placeOf_36 rfl (lv_at hl 5 rfl) ?_
        refine lv_iconst (v := nI 3) hx hb dX12_placeOf_37 (by decide) ?_
        refine n_ishl hx hb (by omega) dX12_placeOf_38 ?_
        refine lv_iload hx hb dX12_placeOf_39 (lv_at hl 1 rfl) ?_
        refine n_ior hx hb dX12_placeOf_41 ?_
        refine lv_iload hx hb dX12_placeOf_42 (lv_at hl 0 rfl) ?_
        refine n_ior hx hb dX12_placeOf_44 ?_
        refine lv_istore_n (lv' := [(2, .int (nI ((((plS st tok k) <<< 3) ||| ((of4 st k) &&& ((1 <<< k) - 1))) ||| (((of4 st k) >>> (k + 1)) <<< k)))), (6, .int (nI (((of4 st k) >>> (k + 1)) <<< k))), (5, .int (nI ((of4 st k) &&& ((1 <<< k) - 1)))), (4, .int (nI (of4 st k))), (0, .int (nI st)), (1, .int (nI tok)), (3, .int (nI k))]) hx hb dX12_placeOf_45 rfl hl (by decide) rfl (fun ls hl => ?_)
        refine lv_iinc (v := nI (k + 1)) (lv' := [(3, .int (nI (k + 1))), (2, .int (nI ((((plS st tok k) <<< 3) ||| ((of4 st k) &&& ((1 <<< k) - 1))) ||| (((of4 st k) >>> (k + 1)) <<< k)))), (6, .int (nI (((of4 st k) >>> (k + 1)) <<< k))), (5, .int (nI ((of4 st k) &&& ((1 <<< k) - 1)))), (4, .int (nI (of4 st k))), (0, .int (nI st)), (1, .int (nI tok))]) hx hb dX12_placeOf_46 hl (k := 6) rfl (ii_1 _) (by decide) rfl (fun ls hl => ?_)
        refine lv_goto (tgt := 4) hx hb dX12_placeOf_49 (by decide) ?_
        exact ih_lp_1 (k + 1) (by omega) (by omega) ls (lv_sub hl [5, 6, 1, 0] rfl)
  exact lp_1 _ 0 (by omega) (Nat.lt_succ_self _) ls (lv_sub hl [2, 3, 1, 0] rfl)

set_option maxHeartbeats 4000000 in
set_option maxRecDepth 100000 in
theorem c_join (l : Launch) (E : EE) (ar : Nat) (net : Nat → Nat) (n : Nat) (hn4 : n ≤ 4) (hn : ∀ j, j < 4 → net j < 16) : Rd l yX12_isJoined cX12_isJoined 6 (some .boolean) rm_X12_isJoined E (aW E ar net) [.ref ar, .int (nI n)] (some (.int (bI (joinM net n)))) := by
  refine mk_rd (by decide) (Nat.le_of_ble_eq_true rfl) ?_
  intro p e s m args below meth c hC hK hP ls hl
  obtain ⟨hx, hb, hr, hts, hown, hml, hlk, hN⟩ := id hC
  have hl : lv_has ls 6 [(0, .ref ar), (1, .int (nI n))] := hl
  refine lv_iconst (v := nI 1) hx hb dX12_isJoined_0 (by decide) ?_
  refine lv_istore_n (lv' := [(2, .int (nI 1)), (0, .ref ar), (1, .int (nI n))]) hx hb dX12_isJoined_1 rfl hl (by decide) rfl (fun ls hl => ?_)
  refine lv_iconst (v := nI 0) hx hb dX12_isJoined_2 (by decide) ?_
  refine lv_istore_n (lv' := [(3, .int (nI 0)), (2, .int (nI 1)), (0, .ref ar), (1, .int (nI n))]) hx hb dX12_isJoined_3 rfl hl (by decide) rfl (fun ls hl => ?_)
  have lp_1 : ∀ (n_lp_1 : Nat) (j1 : Nat) (hk1 : j1 ≤ n), n - j1 < n_lp_1 → ∀ (ls : Array Slot), lv_has ls 6 [(0, .ref ar), (1, .int (nI n)), (2, .int (nI (jA net n j1))), (3, .int (nI j1))] → W p l e rm_X12_isJoined s m args below meth c s.heap [] 0 0 (MQ below (pz_Q (some (.int (bI (joinM net n))))) args s 0 0 pz_F) (F0 m 4 ls []) := by
    intro n_lp_1
    induction n_lp_1 with
    | zero => intro j1 hk1; intro hm_lp_1; exact absurd hm_lp_1 (Nat.not_lt_zero _)
    | succ n_lp_1 ih_lp_1 =>
      intro j1 hk1 hm_lp_1 ls hl
      refine lv_iload_n hx hb dX12_isJoined_4 rfl (lv_at hl 3 rfl) ?_
      refine lv_iload_n hx hb dX12_isJoined_5 rfl (lv_at hl 1 rfl) ?_
      refine n_icmp_ge (tgt := 94) hx hb (by omega) (by omega) dX12_isJoined_6 (by decide) (fun c_2 => ?_) (fun c_2 => ?_)
      · -- t 94
        have hs1 := shl_le4 hn4
        have hj1 := jA_lt (net := net) hn4 n
        rw [show j1 = n by omega] at hl
        refine lv_iload_n hx hb dX12_isJoined_94 rfl (lv_at hl 1 rfl) ?_
        refine n_if_le (tgt := 111) hx hb (by omega) dX12_isJoined_95 (by decide) (fun c_3 => ?_) (fun c_3 => ?_)
        · -- t 111
          refine lv_iconst (v := nI 0) hx hb dX12_isJoined_111 (by decide) ?_
          exact rz_bE hC (by rw [show (joinM net n) = false from by simp [joinM, c_3]]; rfl) dX12_isJoined_112
        · -- f 98
          refine lv_iload_n hx hb dX12_isJoined_98 rfl (lv_at hl 2 rfl) ?_
          refine lv_iconst (v := nI 1) hx hb dX12_isJoined_99 (by decide) ?_
          refine lv_iload_n hx hb dX12_isJoined_100 rfl (lv_at hl 1 rfl) ?_
          refine n_ishl hx hb (by omega) dX12_isJoined_101 ?_
          refine lv_iconst (v := nI 1) hx hb dX12_isJoined_102 (by decide) ?_
          refine n_isub hx hb (by omega) dX12_isJoined_103 ?_
          refine n_icmp_ne (tgt := 111) hx hb (by omega) (by omega) dX12_isJoined_104 (by decide) (fun c_4 => ?_) (fun c_4 => ?_)
          · -- t 111
            refine lv_iconst (v := nI 0) hx hb dX12_isJoined_111 (by decide) ?_
            exact rz_bE hC (by rw [show (joinM net n) = false from by simp [joinM, c_3, c_4]]; rfl) dX12_isJoined_112
          · -- f 107
            refine lv_iconst (v := nI 1) hx hb dX12_isJoined_107 (by decide) ?_
            refine lv_goto (tgt := 112) hx hb dX12_isJoined_108 (by decide) ?_
            exact rz_bE hC (by rw [show (joinM net n) = true from by simp [joinM, c_3, c_4]]; rfl) dX12_isJoined_112
      · -- f 9
        refine lv_iconst (v := nI 0) hx hb dX12_isJoined_9 (by decide) ?_
        refine lv_istore (lv' := [(4, .int (nI 0)), (0, .ref ar), (1, .int (nI n)), (2, .int (nI (jA net n j1))), (3, .int (nI j1))]) hx hb dX12_isJoined_10 hl (by decide) rfl (fun ls hl => ?_)
        have lp_5 : ∀ (n_lp_5 : Nat) (j2 : Nat) (hk2 : j2 ≤ n), n - j2 < n_lp_5 → ∀ (ls : Array Slot), lv_has ls 6 [(0, .ref ar), (1, .int (nI n)), (2, .int (nI (jP net n (jA net n j1) j2))), (3, .int (nI j1)), (4, .int (nI j2))] → W p l e rm_X12_isJoined s m args below meth c s.heap [] 0 0 (MQ below (pz_Q (some (.int (bI (joinM net n))))) args s 0 0 pz_F) (F0 m 12 ls []) := by
          intro n_lp_5
          induction n_lp_5 with
          | zero => intro j2 hk2; intro hm_lp_5; exact absurd hm_lp_5 (Nat.not_lt_zero _)
          | succ n_lp_5 ih_lp_5 =>
            intro j2 hk2 hm_lp_5 ls hl
            refine lv_iload hx hb dX12_isJoined_12 (lv_at hl 4 rfl) ?_
            refine lv_iload_n hx hb dX12_isJoined_14 rfl (lv_at hl 1 rfl) ?_
            refine n_icmp_ge (tgt := 88) hx hb (by omega) (by omega) dX12_isJoined_15 (by decide) (fun c_6 => ?_) (fun c_6 => ?_)
            · -- t 88
              refine lv_iinc (v := nI (j1 + 1)) (lv' := [(3, .int (nI (j1 + 1))), (0, .ref ar), (1, .int (nI n)), (2, .int (nI (jP net n (jA net n j1) j2))), (4, .int (nI j2))]) hx hb dX12_isJoined_88 hl (k := 3) rfl (ii_1 _) (by decide) rfl (fun ls hl => ?_)
              refine lv_goto (tgt := 4) hx hb dX12_isJoined_91 (by decide) ?_
              exact ih_lp_1 (j1 + 1) (by omega) (by omega) ls (by have h9 : lv_has ls 6 [(0, .ref ar), (1, .int (nI n)), (2, .int (nI (jP net n (jA net n j1) j2))), (3, .int (nI (j1 + 1)))] := lv_sub hl [1, 2, 3, 0] rfl; rw [show j2 = n by omega] at h9; exact h9)
            · -- f 18
              refine lv_iconst (v := nI 0) hx hb dX12_isJoined_18 (by decide) ?_
              refine lv_istore (lv' := [(5, .int (nI 0)), (0, .ref ar), (1, .int (nI n)), (2, .int (nI (jP net n (jA net n j1) j2))), (3, .int (nI j1)), (4, .int (nI j2))]) hx hb dX12_isJoined_19 hl (by decide) rfl (fun ls hl => ?_)
              have lp_7 : ∀ (n_lp_7 : Nat) (k : Nat) (hk : k ≤ n), n - k < n_lp_7 → ∀ (ls : Array Slot), lv_has ls 6 [(0, .ref ar), (1, .int (nI n)), (2, .int (nI (jQ net j2 (jP net n (jA net n j1) j2) k))), (3, .int (nI j1)), (4, .int (nI j2)), (5, .int (nI k))] → W p l e rm_X12_isJoined s m args below meth c s.heap [] 0 0 (MQ below (pz_Q (some (.int (bI (joinM net n))))) args s 0 0 pz_F) (F0 m 21 ls []) := by
                intro n_lp_7
                induction n_lp_7 with
                | zero => intro k hk; intro hm_lp_7; exact absurd hm_lp_7 (Nat.not_lt_zero _)
                | succ n_lp_7 ih_lp_7 =>
                  intro k hk hm_lp_7 ls hl
                  have hj0 := jQ_lt (net := net) (pp := j2) (by omega) (jP_lt (net := net) hn4 (jA_lt (net := net) hn4 j1) j2 (by omega)) k (by omega)
                  have hb2 := hn j2 (by omega)
                  refine lv_iload hx hb dX12_isJoined_21 (lv_at hl 5 rfl) ?_
                  refine lv_iload_n hx hb dX12_isJoined_23 rfl (lv_at hl 1 rfl) ?_
                  refine n_icmp_ge (tgt := 82) hx hb (by omega) (by omega) dX12_isJoined_24 (by decide) (fun c_8 => ?_) (fun c_8 => ?_)
                  · -- t 82
                    refine lv_iinc (v := nI (j2 + 1)) (lv' := [(4, .int (nI (j2 + 1))), (0, .ref ar), (1, .int (nI n)), (2, .int (nI (jQ net j2 (jP net n (jA net n j1) j2) k))), (3, .int (nI j1)), (5, .int (nI k))]) hx hb dX12_isJoined_82 hl (k := 4) rfl (ii_1 _) (by decide) rfl (fun ls hl => ?_)
                    refine lv_goto (tgt := 12) hx hb dX12_isJoined_85 (by decide) ?_
                    exact ih_lp_5 (j2 + 1) (by omega) (by omega) ls (by have h9 : lv_has ls 6 [(0, .ref ar), (1, .int (nI n)), (2, .int (nI (jQ net j2 (jP net n (jA net n j1) j2) k))), (3, .int (nI j1)), (4, .int (nI (j2 + 1)))] := lv_sub hl [1, 2, 3, 4, 0] rfl; rw [show k = n by omega] at h9; exact h9)
                  · -- f 27
                    refine lv_iload hx hb dX12_isJoined_27 (lv_at hl 4 rfl) ?_
                    refine lv_iload hx hb dX12_isJoined_29 (lv_at hl 5 rfl) ?_
                    refine n_icmp_eq (tgt := 76) hx hb (by omega) (by omega) dX12_isJoined_31 (by decide) (fun c_9 => ?_) (fun c_9 => ?_)
                    · -- t 76
                      refine lv_iinc (v := nI (k + 1)) (lv' := [(5, .int (nI (k + 1))), (0, .ref ar), (1, .int (nI n)), (2, .int (nI (jQ net j2 (jP net n (jA net n j1) j2) k))), (3, .int (nI j1)), (4, .int (nI j2))]) hx hb dX12_isJoined_76 hl (k := 5) rfl (ii_1 _) (by decide) rfl (fun ls hl => ?_)
                      refine lv_goto (tgt := 21) hx hb dX12_isJoined_79 (by decide) ?_
                      exact ih_lp_7 (k + 1) (by omega) (by omega) ls (by have h9 : lv_has ls 6 [(0, .ref ar), (1, .int (nI n)), (2, .int (nI (jQ net j2 (jP net n (jA net n j1) j2) k))), (3, .int (nI j1)), (4, .int (nI j2)), (5, .int (nI (k + 1)))] := lv_sub hl [1, 2, 3, 4, 5, 0] rfl; simpa [jQ, c_2, c_6, c_8, c_9] using h9)
                    · -- f 34
                      refine lv_aload_n hx hb dX12_isJoined_34 rfl (lv_at hl 0 rfl) ?_
                      refine lv_iload hx hb dX12_isJoined_35 (lv_at hl 4 rfl) ?_
                      refine n_iald hx hb hK hP 0 rfl (by omega) (by decide) dX12_isJoined_37 ?_
                      refine lv_iload hx hb dX12_isJoined_38 (lv_at hl 5 rfl) ?_
                      refine cS_p (rest := []) hC (c_m_has l (net j2) k (by omega) (by omega)) kw_851 sy_X12_has ⟨Nat.le_of_ble_eq_true rfl, Nat.le_of_ble_eq_true rfl⟩ ⟨rfl, rfl⟩ rfl hl.1 rfl (Nat.le_of_ble_eq_true rfl) dX12_isJoined_40 ⟨Nat.le_of_ble_eq_true rfl, Nat.le_of_ble_eq_true rfl⟩ ?_
                      refine b_if_eq (tgt := 76) hx hb dX12_isJoined_43 (by decide) (fun c_10 => ?_) (fun c_10 => ?_)
                      · -- t 76
                        refine lv_iinc (v := nI (k + 1)) (lv' := [(5, .int (nI (k + 1))), (0, .ref ar), (1, .int (nI n)), (2, .int (nI (jQ net j2 (jP net n (jA net n j1) j2) k))), (3, .int (nI j1)), (4, .int (nI j2))]) hx hb dX12_isJoined_76 hl (k := 5) rfl (ii_1 _) (by decide) rfl (fun ls hl => ?_)
                        refine lv_goto (tgt := 21) hx hb dX12_isJoined_79 (by decide) ?_
                        exact ih_lp_7 (k + 1) (by omega) (by omega) ls (by have h9 : lv_has ls 6 [(0, .ref ar), (1, .int (nI n)), (2, .int (nI (jQ net j2 (jP net n (jA net n j1) j2) k))), (3, .int (nI j1)), (4, .int (nI j2)), (5, .int (nI (k + 1)))] := lv_sub hl [1, 2, 3, 4, 5, 0] rfl; simpa [jQ, c_2, c_6, c_8, c_9, c_10] using h9)
                      · -- f 46
                        refine lv_iload_n hx hb dX12_isJoined_46 rfl (lv_at hl 2 rfl) ?_
                        refine lv_iload hx hb dX12_isJoined_47 (lv_at hl 4 rfl) ?_
                        refine cS_p (rest := []) hC (c_m_has l (jQ net j2 (jP net n (jA net n j1) j2) k) j2 (by omega) (by omega)) kw_851 sy_X12_has ⟨Nat.le_of_ble_eq_true rfl, Nat.le_of_ble_eq_true rfl⟩ ⟨rfl, rfl⟩ rfl hl.1 rfl (Nat.le_of_ble_eq_true rfl) dX12_isJoined_49 ⟨Nat.le_of_ble_eq_true rfl, Nat.le_of_ble_eq_true rfl⟩ ?_
                        refine b_if_ne (tgt := 64) hx hb dX12_isJoined_52 (by decide) (fun c_11 => ?_) (fun c_11 => ?_)
                        · -- t 64
                          refine lv_iload_n hx hb dX12_isJoined_64 rfl (lv_at hl 2 rfl) ?_
                          refine lv_iconst (v := nI 1) hx hb dX12_isJoined_65 (by decide) ?_
                          refine lv_iload hx hb dX12_isJoined_66 (lv_at hl 4 rfl) ?_
                          refine n_ishl hx hb (by omega) dX12_isJoined_68 ?_
                          refine lv_iconst (v := nI 1) hx hb dX12_isJoined_69 (by decide) ?_
                          refine lv_iload hx hb dX12_isJoined_70 (lv_at hl 5 rfl) ?_
                          refine n_ishl hx hb (by omega) dX12_isJoined_72 ?_
                          refine n_ior hx hb dX12_isJoined_73 ?_
                          refine n_ior hx hb dX12_isJoined_74 ?_
                          refine lv_istore_n (lv' := [(2, .int (nI ((jQ net j2 (jP net n (jA net n j1) j2) k) ||| ((1 <<< j2) ||| (1 <<< k))))), (0, .ref ar), (1, .int (nI n)), (3, .int (nI j1)), (4, .int (nI j2)), (5, .int (nI k))]) hx hb dX12_isJoined_75 rfl hl (by decide) rfl (fun ls hl => ?_)
                          refine lv_iinc (v := nI (k + 1)) (lv' := [(5, .int (nI (k + 1))), (2, .int (nI ((jQ net j2 (jP net n (jA net n j1) j2) k) ||| ((1 <<< j2) ||| (1 <<< k))))), (0, .ref ar), (1, .int (nI n)), (3, .int (nI j1)), (4, .int (nI j2))]) hx hb dX12_isJoined_76 hl (k := 5) rfl (ii_1 _) (by decide) rfl (fun ls hl => ?_)
                          refine lv_goto (tgt := 21) hx hb dX12_isJoined_79 (by decide) ?_
                          exact ih_lp_7 (k + 1) (by omega) (by omega) ls (by have h9 : lv_has ls 6 [(0, .ref ar), (1, .int (nI n)), (2, .int (nI ((jQ net j2 (jP net n (jA net n j1) j2) k) ||| ((1 <<< j2) ||| (1 <<< k))))), (3, .int (nI j1)), (4, .int (nI j2)), (5, .int (nI (k + 1)))] := lv_sub hl [2, 3, 1, 4, 5, 0] rfl; simpa [jQ, c_2, c_6, c_8, c_9, c_10, c_11] using h9)
                        · -- f 55
                          refine lv_iload_n hx hb dX12_isJoined_55 rfl (lv_at hl 2 rfl) ?_
                          refine lv_iload hx hb dX12_isJoined_56 (lv_at hl 5 rfl) ?_
                          refine cS_p (rest := []) hC (c_m_has l (jQ net j2 (jP net n (jA net n j1) j2) k) k (by omega) (by omega)) kw_851 sy_X12_has ⟨Nat.le_of_ble_eq_true rfl, Nat.le_of_ble_eq_true rfl⟩ ⟨rfl, rfl⟩ rfl hl.1 rfl (Nat.le_of_ble_eq_true rfl) dX12_isJoined_58 ⟨Nat.le_of_ble_eq_true rfl, Nat.le_of_ble_eq_true rfl⟩ ?_
                          refine b_if_eq (tgt := 76) hx hb dX12_isJoined_61 (by decide) (fun c_12 => ?_) (fun c_12 => ?_)
                          · -- t 76
                            refine lv_iinc (v := nI (k + 1)) (lv' := [(5, .int (nI (k + 1))), (0, .ref ar), (1, .int (nI n)), (2, .int (nI (jQ net j2 (jP net n (jA net n j1) j2) k))), (3, .int (nI j1)), (4, .int (nI j2))]) hx hb dX12_isJoined_76 hl (k := 5) rfl (ii_1 _) (by decide) rfl (fun ls hl => ?_)
                            refine lv_goto (tgt := 21) hx hb dX12_isJoined_79 (by decide) ?_
                            exact ih_lp_7 (k + 1) (by omega) (by omega) ls (by have h9 : lv_has ls 6 [(0, .ref ar), (1, .int (nI n)), (2, .int (nI (jQ net j2 (jP net n (jA net n j1) j2) k))), (3, .int (nI j1)), (4, .int (nI j2)), (5, .int (nI (k + 1)))] := lv_sub hl [1, 2, 3, 4, 5, 0] rfl; simpa [jQ, c_2, c_6, c_8, c_9, c_10, c_11, c_12] using h9)
                          · -- f 64
                            refine lv_iload_n hx hb dX12_isJoined_64 rfl (lv_at hl 2 rfl) ?_
                            refine lv_iconst (v := nI 1) hx hb dX12_isJoined_65 (by decide) ?_
                            refine lv_iload hx hb dX12_isJoined_66 (lv_at hl 4 rfl) ?_
                            refine n_ishl hx hb (by omega) dX12_isJoined_68 ?_
                            refine lv_iconst (v := nI 1) hx hb dX12_isJoined_69 (by decide) ?_
                            refine lv_iload hx hb dX12_isJoined_70 (lv_at hl 5 rfl) ?_
                            refine n_ishl hx hb (by omega) dX12_isJoined_72 ?_
                            refine n_ior hx hb dX12_isJoined_73 ?_
                            refine n_ior hx hb dX12_isJoined_74 ?_
                            refine lv_istore_n (lv' := [(2, .int (nI ((jQ net j2 (jP net n (jA net n j1) j2) k) ||| ((1 <<< j2) ||| (1 <<< k))))), (0, .ref ar), (1, .int (nI n)), (3, .int (nI j1)), (4, .int (nI j2)), (5, .int (nI k))]) hx hb dX12_isJoined_75 rfl hl (by decide) rfl (fun ls hl => ?_)
                            refine lv_iinc (v := nI (k + 1)) (lv' := [(5, .int (nI (k + 1))), (2, .int (nI ((jQ net j2 (jP net n (jA net n j1) j2) k) ||| ((1 <<< j2) ||| (1 <<< k))))), (0, .ref ar), (1, .int (nI n)), (3, .int (nI j1)), (4, .int (nI j2))]) hx hb dX12_isJoined_76 hl (k := 5) rfl (ii_1 _) (by decide) rfl (fun ls hl => ?_)
                            refine lv_goto (tgt := 21) hx hb dX12_isJoined_79 (by decide) ?_
                            exact ih_lp_7 (k + 1) (by omega) (by omega) ls (by have h9 : lv_has ls 6 [(0, .ref ar), (1, .int (nI n)), (2, .int (nI ((jQ net j2 (jP net n (jA net n j1) j2) k) ||| ((1 <<< j2) ||| (1 <<< k))))), (3, .int (nI j1)), (4, .int (nI j2)), (5, .int (nI (k + 1)))] := lv_sub hl [2, 3, 1, 4, 5, 0] rfl; simpa [jQ, c_2, c_6, c_8, c_9, c_10, c_11, c_12] using h9)
              exact lp_7 _ 0 (by omega) (Nat.lt_succ_self _) ls (lv_sub hl [1, 2, 3, 4, 5, 0] rfl)
        exact lp_5 _ 0 (by omega) (Nat.lt_succ_self _) ls (lv_sub hl [1, 2, 3, 4, 0] rfl)
  exact lp_1 _ 0 (by omega) (Nat.lt_succ_self _) ls (lv_sub hl [2, 3, 1, 0] rfl)
