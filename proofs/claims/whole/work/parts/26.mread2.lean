set_option maxHeartbeats 4000000 in
set_option maxRecDepth 100000 in
theorem c_m_readAll (l : Launch) (E : EE) (ad : Nat → Nat) (lk : Nat) (tr : Int32) (N : Nat → Nat) (X : Nat → Nat → Int32) (F G : Nat → Nat → Nat) (sz : Nat) (fr n5 : Nat) (h1 : fr + n5 ≤ 240) : Wr l yX12_readAll cX12_readAll 7 (some .int) rm_X12_readAll 0 0 E (mW E ad lk tr N X F G) sz [.ref (ad 0), .int (nI fr), .int (nI n5)] (fun v w1 => ∃ (rd : Nat) (f7 : Nat → Nat), w1 = mW E ad lk tr (va_up N 8 rd) X (va_up F 7 f7) G ∧ ((∃ r, v = some (.int (nI r)) ∧ faultAt (fun k => X 4 (fr + k)) n5 r) ∨ (v = some (.int (-9)) ∧ ∃ num, noFault (fun k => X 4 (fr + k)) n5 rd num ∧ rd ≤ 4 ∧ ∀ p, p < rd → f7 p = num p))) := by
  refine mk_wr (by decide) (Nat.le_of_ble_eq_true rfl) ?_
  intro p e s m args below meth c hC hin hK A hA hP hD hS ls hl
  obtain ⟨hx, hb, hr, hts, hown, hml, hlk, hN⟩ := id hC
  have hl : lv_has ls 7 [(0, .ref (ad 0)), (1, .int (nI fr)), (2, .int (nI n5))] := hl
  obtain ⟨H, hH⟩ : ∃ z, z = s.heap := ⟨_, rfl⟩
  have hS : va_S A s.heap H [] := by rw [hH]; exact hS
  rw [← hH] at hP
  refine W_heap hH ?_
  obtain ⟨locs, hlo⟩ : ∃ z : List Loc, z = [] := ⟨_, rfl⟩
  rw [← hlo] at hS ⊢
  refine lv_aload_n hx hb dX12_readAll_0 rfl (lv_at hl 0 rfl) ?_
  refine lv_iconst (v := nI 0) hx hb dX12_readAll_1 (by decide) ?_
  refine va_put (D := E.1) (ci := 10) (v := .int (nI 0)) (ty := .int) (C := RX12) (T := TX12) (N := 30) hx hb hts iX12 tyX12 tyX12_ok nmX12 hown hK hP hD hS 0 rfl rfl 8 (by decide) (hts _ kw_747) (fun _ h9 => h9) rfl (by decide +kernel) rfl rfl (Nat.le_of_ble_eq_true rfl) dX12_readAll_2 (fun H locs hP hD hS => ?_)
  have hP : va_P E.1 vwCl (mW E ad lk tr (va_up N 8 0) X F G) H := hP
  have hD : va_D A (mW E ad lk tr (va_up N 8 0) X F G) := hD
  refine lv_iconst (v := nI 0) hx hb dX12_readAll_5 (by decide) ?_
  refine lv_istore_n (lv' := [(3, .int (nI 0)), (0, .ref (ad 0)), (1, .int (nI fr)), (2, .int (nI n5))]) hx hb dX12_readAll_6 rfl hl (by decide) rfl (fun ls hl => ?_)
  refine lv_iconst (v := nI 1) hx hb dX12_readAll_7 (by decide) ?_
  refine lv_istore (lv' := [(4, .int (nI 1)), (3, .int (nI 0)), (0, .ref (ad 0)), (1, .int (nI fr)), (2, .int (nI n5))]) hx hb dX12_readAll_8 hl (by decide) rfl (fun ls hl => ?_)
  have lp_1 : ∀ (n_lp_1 : Nat) (at1 mo rd : Nat) (f7 num : Nat → Nat) (hat1 : at1 ≤ n5) (hmo : mo ≤ 1) (hrd4 : rd ≤ 4) (hinv : (mo = 1 ∧ parse (fun k => X 4 (fr + k)) at1 = some (true, rd, num)) ∨ (mo = 0 ∧ at1 = n5 ∧ parse (fun k => X 4 (fr + k)) n5 = some (false, rd, num))) (hf7 : ∀ p, p < rd → f7 p = num p), 2 * (n5 - at1) + mo < n_lp_1 → ∀ (H : Heap) (locs : List Loc) (hP : va_P E.1 vwCl (mW E ad lk tr (va_up N 8 rd) X (va_up F 7 f7) G) H) (hD : va_D A (mW E ad lk tr (va_up N 8 rd) X (va_up F 7 f7) G)) (hS : va_S A s.heap H locs) (ls : Array Slot), lv_has ls 7 [(0, .ref (ad 0)), (1, .int (nI fr)), (2, .int (nI n5)), (3, .int (nI at1)), (4, .int (nI mo))] → W p l e rm_X12_readAll s m args below meth c H locs 0 0 (MQ below (wr_Q E A (fun v w1 => ∃ (rd : Nat) (f7 : Nat → Nat), w1 = mW E ad lk tr (va_up N 8 rd) X (va_up F 7 f7) G ∧ ((∃ r, v = some (.int (nI r)) ∧ faultAt (fun k => X 4 (fr + k)) n5 r) ∨ (v = some (.int (-9)) ∧ ∃ num, noFault (fun k => X 4 (fr + k)) n5 rd num ∧ rd ≤ 4 ∧ ∀ p, p < rd → f7 p = num p)))) args s 0 0 A) (F0 m 10 ls []) := by
    intro n_lp_1
    induction n_lp_1 with
    | zero => intro at1 mo rd f7 num hat1 hmo hrd4 hinv hf7; intro hm_lp_1; exact absurd hm_lp_1 (Nat.not_lt_zero _)
    | succ n_lp_1 ih_lp_1 =>
      intro at1 mo rd f7 num hat1 hmo hrd4 hinv hf7 hm_lp_1 H locs hP hD hS ls hl
      refine lv_iload hx hb dX12_readAll_10 (lv_at hl 4 rfl) ?_
      refine n_if_eq (tgt := 182) hx hb (by omega) dX12_readAll_12 (by decide) (fun c_2 => ?_) (fun c_2 => ?_)
      · -- t 182
        obtain ⟨hat, hpe⟩ : at1 = n5 ∧ parse (fun k => X 4 (fr + k)) n5 = some (false, rd, num) := by
          rcases hinv with h | h
          · exact absurd h.1 (by omega)
          · exact h.2
        have hpk := parse_ok hpe
        refine lv_iconst (v := nI 0) hx hb dX12_readAll_182 (by decide) ?_
        refine lv_istore (lv' := [(5, .int (nI 0)), (0, .ref (ad 0)), (1, .int (nI fr)), (2, .int (nI n5)), (3, .int (nI at1)), (4, .int (nI mo))]) hx hb dX12_readAll_183 hl (by decide) rfl (fun ls hl => ?_)
        have lp_3 : ∀ (n_lp_3 : Nat) (k : Nat) (hk : k ≤ n5) (hst : ∀ x, x < k → isIn ((fun k => X 4 (fr + k)) x - nI 48) (nI rd) (nI 3) = false), n5 - k < n_lp_3 → ∀ (H : Heap) (locs : List Loc) (hP : va_P E.1 vwCl (mW E ad lk tr (va_up N 8 rd) X (va_up F 7 f7) G) H) (hD : va_D A (mW E ad lk tr (va_up N 8 rd) X (va_up F 7 f7) G)) (hS : va_S A s.heap H locs) (ls : Array Slot), lv_has ls 7 [(0, .ref (ad 0)), (1, .int (nI fr)), (2, .int (nI n5)), (5, .int (nI k))] → W p l e rm_X12_readAll s m args below meth c H locs 0 0 (MQ below (wr_Q E A (fun v w1 => ∃ (rd : Nat) (f7 : Nat → Nat), w1 = mW E ad lk tr (va_up N 8 rd) X (va_up F 7 f7) G ∧ ((∃ r, v = some (.int (nI r)) ∧ faultAt (fun k => X 4 (fr + k)) n5 r) ∨ (v = some (.int (-9)) ∧ ∃ num, noFault (fun k => X 4 (fr + k)) n5 rd num ∧ rd ≤ 4 ∧ ∀ p, p < rd → f7 p = num p)))) args s 0 0 A) (F0 m 185 ls []) := by
          intro n_lp_3
          induction n_lp_3 with
          | zero => intro k hk hst; intro hm_lp_3; exact absurd hm_lp_3 (Nat.not_lt_zero _)
          | succ n_lp_3 ih_lp_3 =>
            intro k hk hst hm_lp_3 H locs hP hD hS ls hl
            refine lv_iload hx hb dX12_readAll_185 (lv_at hl 3 rfl) ?_
            refine lv_iload_n hx hb dX12_readAll_187 rfl (lv_at hl 2 rfl) ?_
            refine n_icmp_ge (tgt := 227) hx hb (by omega) (by omega) dX12_readAll_188 (by decide) (fun c_4 => ?_) (fun c_4 => ?_)
            · -- t 227
              refine lv_bipush (v := -9) hx hb dX12_readAll_227 (by decide) ?_
              exact rw_i hC rfl hP hD hS (⟨rd, f7, rfl, Or.inr ⟨rfl, num, ⟨hpe, fun k h => hst k (by omega)⟩, (parse_ok hpe).1, hf7⟩⟩) dX12_readAll_229 (Nat.le_of_ble_eq_true rfl) (Nat.le_of_ble_eq_true rfl)
            · -- f 191
              refine lv_aload_n hx hb dX12_readAll_191 rfl (lv_at hl 0 rfl) ?_
              refine va_get (D := E.1) (ci := 10) (v := .ref (ad 4)) (C := RX12) (T := TX12) (N := 30) hx hb hts iX12 hown hK hP 0 rfl rfl 4 (by decide) (hts _ kw_743) (fun _ h9 => h9) rfl dX12_readAll_192 ?_
              refine lv_iload_n hx hb dX12_readAll_195 rfl (lv_at hl 1 rfl) ?_
              refine lv_iload hx hb dX12_readAll_196 (lv_at hl 3 rfl) ?_
              refine n_iadd hx hb dX12_readAll_198 ?_
              refine n_iald hx hb hK hP 3 rfl (by omega) (by decide) dX12_readAll_199 ?_
              refine lv_bipush (v := nI 48) hx hb dX12_readAll_200 (by decide) ?_
              refine lv_isub hx hb dX12_readAll_202 ?_
              refine lv_istore (lv' := [(6, .int (((X 4) (fr + k)) - (nI 48))), (0, .ref (ad 0)), (1, .int (nI fr)), (2, .int (nI n5)), (5, .int (nI k))]) hx hb dX12_readAll_203 hl (by decide) rfl (fun ls hl => ?_)
              refine lv_iload hx hb dX12_readAll_205 (lv_at hl 0 rfl) ?_
              refine lv_aload_n hx hb dX12_readAll_207 rfl (lv_at hl 1 rfl) ?_
              refine va_get (D := E.1) (ci := 10) (v := .int (nI rd)) (C := RX12) (T := TX12) (N := 30) hx hb hts iX12 hown hK hP 0 rfl rfl 8 (by decide) (hts _ kw_747) (fun _ h9 => h9) rfl dX12_readAll_208 ?_
              refine lv_iconst (v := nI 3) hx hb dX12_readAll_211 (by decide) ?_
              refine cS_p (rest := []) hC (c_isIn l (((X 4) (fr + k)) - (nI 48)) (nI rd) (nI 3)) kw_837 sy_X12_isIn ⟨Nat.le_of_ble_eq_true rfl, Nat.le_of_ble_eq_true rfl⟩ ⟨rfl, rfl⟩ rfl hl.1 rfl (Nat.le_of_ble_eq_true rfl) dX12_readAll_212 ⟨Nat.le_of_ble_eq_true rfl, Nat.le_of_ble_eq_true rfl⟩ ?_
              refine b_if_eq (tgt := 221) hx hb dX12_readAll_215 (by decide) (fun c_5 => ?_) (fun c_5 => ?_)
              · -- t 221
                refine lv_iinc (v := nI (k + 1)) (lv' := [(5, .int (nI (k + 1))), (6, .int (((X 4) (fr + k)) - (nI 48))), (0, .ref (ad 0)), (1, .int (nI fr)), (2, .int (nI n5))]) hx hb dX12_readAll_221 hl (k := 4) rfl (ii_1 _) (by decide) rfl (fun ls hl => ?_)
                refine lv_goto (tgt := 185) hx hb dX12_readAll_224 (by decide) ?_
                exact ih_lp_3 (k + 1) (by omega) (fun x h => (by rcases Nat.lt_or_ge x k with h6 | h6; exact hst x h6; rw [show x = k by omega]; exact c_5)) (by omega) H locs hP hD hS ls (lv_sub hl [2, 3, 4, 0] rfl)
              · -- f 218
                refine lv_iload hx hb dX12_readAll_218 (lv_at hl 4 rfl) ?_
                exact rw_i hC rfl hP hD hS (⟨rd, f7, rfl, Or.inl ⟨_, rfl, Or.inr (Or.inr ⟨rd, num, hpe, by omega, c_5, hst⟩)⟩⟩) dX12_readAll_220 (Nat.le_of_ble_eq_true rfl) (Nat.le_of_ble_eq_true rfl)
        exact lp_3 _ 0 (by omega) (fun x h => absurd h (by omega)) (Nat.lt_succ_self _) H locs hP hD hS ls (lv_sub hl [1, 2, 3, 0] rfl)
      · -- f 15
        obtain ⟨hmo1, hps⟩ : mo = 1 ∧ parse (fun k => X 4 (fr + k)) at1 = some (true, rd, num) := by
          rcases hinv with h | h
          · exact h
          · exact absurd h.1 (by assumption)
        have hpk := parse_ok hps
        have hrd3 := hpk.2.1 rfl
        refine lv_iload_n hx hb dX12_readAll_15 rfl (lv_at hl 3 rfl) ?_
        refine lv_iload_n hx hb dX12_readAll_16 rfl (lv_at hl 2 rfl) ?_
        refine n_icmp_eq (tgt := 33) hx hb (by omega) (by omega) dX12_readAll_17 (by decide) (fun c_6 => ?_) (fun c_6 => ?_)
        · -- t 33
          refine lv_iload_n hx hb dX12_readAll_33 rfl (lv_at hl 3 rfl) ?_
          exact rw_i hC rfl hP hD hS (⟨rd, f7, rfl, Or.inl ⟨_, rfl, Or.inr (Or.inl ⟨by omega, rd, num, by rw [show n5 = at1 by omega]; exact hps⟩)⟩⟩) dX12_readAll_34 (Nat.le_of_ble_eq_true rfl) (Nat.le_of_ble_eq_true rfl)
        · -- f 20
          refine lv_aload_n hx hb dX12_readAll_20 rfl (lv_at hl 0 rfl) ?_
          refine va_get (D := E.1) (ci := 10) (v := .ref (ad 4)) (C := RX12) (T := TX12) (N := 30) hx hb hts iX12 hown hK hP 0 rfl rfl 4 (by decide) (hts _ kw_743) (fun _ h9 => h9) rfl dX12_readAll_21 ?_
          refine lv_iload_n hx hb dX12_readAll_24 rfl (lv_at hl 1 rfl) ?_
          refine lv_iload_n hx hb dX12_readAll_25 rfl (lv_at hl 3 rfl) ?_
          refine n_iadd hx hb dX12_readAll_26 ?_
          refine n_iald hx hb hK hP 3 rfl (by omega) (by decide) dX12_readAll_27 ?_
          refine lv_bipush (v := nI 112) hx hb dX12_readAll_28 (by decide) ?_
          refine lv_icmp_eq (tgt := 35) hx hb dX12_readAll_30 (by decide) (fun c_7 => ?_) (fun c_7 => ?_)
          · -- t 35
            refine lv_iinc (v := nI (at1 + 1)) (lv' := [(3, .int (nI (at1 + 1))), (0, .ref (ad 0)), (1, .int (nI fr)), (2, .int (nI n5)), (4, .int (nI mo))]) hx hb dX12_readAll_35 hl (k := 3) rfl (ii_1 _) (by decide) rfl (fun ls hl => ?_)
            refine lv_iconst (v := nI 0) hx hb dX12_readAll_38 (by decide) ?_
            refine lv_istore (lv' := [(5, .int (nI 0)), (3, .int (nI (at1 + 1))), (0, .ref (ad 0)), (1, .int (nI fr)), (2, .int (nI n5)), (4, .int (nI mo))]) hx hb dX12_readAll_39 hl (by decide) rfl (fun ls hl => ?_)
            have lp_8 : ∀ (n_lp_8 : Nat) (at2 set : Nat) (num2 : Nat → Nat) (hat2 : at2 ≤ n5) (hat3 : at1 < at2) (hp2 : parse (fun k => X 4 (fr + k)) at2 = some (false, rd + 1, num2)) (hset : num2 rd = set) (hs16 : set < 16) (hf2 : ∀ p, p < rd → f7 p = num2 p), n5 - at2 < n_lp_8 → ∀ (H : Heap) (locs : List Loc) (hP : va_P E.1 vwCl (mW E ad lk tr (va_up N 8 rd) X (va_up F 7 f7) G) H) (hD : va_D A (mW E ad lk tr (va_up N 8 rd) X (va_up F 7 f7) G)) (hS : va_S A s.heap H locs) (ls : Array Slot), lv_has ls 7 [(0, .ref (ad 0)), (1, .int (nI fr)), (2, .int (nI n5)), (3, .int (nI at2)), (4, .int (nI mo)), (5, .int (nI set))] → W p l e rm_X12_readAll s m args below meth c H locs 0 0 (MQ below (wr_Q E A (fun v w1 => ∃ (rd : Nat) (f7 : Nat → Nat), w1 = mW E ad lk tr (va_up N 8 rd) X (va_up F 7 f7) G ∧ ((∃ r, v = some (.int (nI r)) ∧ faultAt (fun k => X 4 (fr + k)) n5 r) ∨ (v = some (.int (-9)) ∧ ∃ num, noFault (fun k => X 4 (fr + k)) n5 rd num ∧ rd ≤ 4 ∧ ∀ p, p < rd → f7 p = num p)))) args s 0 0 A) (F0 m 41 ls []) := by
              intro n_lp_8
              induction n_lp_8 with
              | zero => intro at2 set num2 hat2 hat3 hp2 hset hs16 hf2; intro hm_lp_8; exact absurd hm_lp_8 (Nat.not_lt_zero _)
              | succ n_lp_8 ih_lp_8 =>
                intro at2 set num2 hat2 hat3 hp2 hset hs16 hf2 hm_lp_8 H locs hP hD hS ls hl
                refine lv_iload_n hx hb dX12_readAll_41 rfl (lv_at hl 3 rfl) ?_
                refine lv_iload_n hx hb dX12_readAll_42 rfl (lv_at hl 2 rfl) ?_
                refine n_icmp_ge (tgt := 118) hx hb (by omega) (by omega) dX12_readAll_43 (by decide) (fun c_9 => ?_) (fun c_9 => ?_)
                · -- t 118
                  refine lv_aload_n hx hb dX12_readAll_118 rfl (lv_at hl 0 rfl) ?_
                  refine va_get (D := E.1) (ci := 10) (v := .ref (ad 7)) (C := RX12) (T := TX12) (N := 30) hx hb hts iX12 hown hK hP 0 rfl rfl 7 (by decide) (hts _ kw_746) (fun _ h9 => h9) rfl dX12_readAll_119 ?_
                  refine lv_aload_n hx hb dX12_readAll_122 rfl (lv_at hl 0 rfl) ?_
                  refine va_get (D := E.1) (ci := 10) (v := .int (nI rd)) (C := RX12) (T := TX12) (N := 30) hx hb hts iX12 hown hK hP 0 rfl rfl 8 (by decide) (hts _ kw_747) (fun _ h9 => h9) rfl dX12_readAll_123 ?_
                  refine lv_iload hx hb dX12_readAll_126 (lv_at hl 5 rfl) ?_
                  refine n_iast hx hb hK hP hD hS 5 rfl (by omega) (by decide) dX12_readAll_128 (fun H locs hP hD hS => ?_)
                  have hP : va_P E.1 vwCl (mW E ad lk tr (va_up N 8 rd) X (va_up F 7 (va_up f7 rd set)) G) H := hP
                  have hD : va_D A (mW E ad lk tr (va_up N 8 rd) X (va_up F 7 (va_up f7 rd set)) G) := hD
                  refine lv_aload_n hx hb dX12_readAll_129 rfl (lv_at hl 0 rfl) ?_
                  refine lv_dup hx hb dX12_readAll_130 rfl ?_
                  refine va_get (D := E.1) (ci := 10) (v := .int (nI rd)) (C := RX12) (T := TX12) (N := 30) hx hb hts iX12 hown hK hP 0 rfl rfl 8 (by decide) (hts _ kw_747) (fun _ h9 => h9) rfl dX12_readAll_131 ?_
                  refine lv_iconst (v := nI 1) hx hb dX12_readAll_134 (by decide) ?_
                  refine n_iadd hx hb dX12_readAll_135 ?_
                  refine va_put (D := E.1) (ci := 10) (v := .int (nI (rd + 1))) (ty := .int) (C := RX12) (T := TX12) (N := 30) hx hb hts iX12 tyX12 tyX12_ok nmX12 hown hK hP hD hS 0 rfl rfl 8 (by decide) (hts _ kw_747) (fun _ h9 => h9) rfl (by decide +kernel) rfl rfl (Nat.le_of_ble_eq_true rfl) dX12_readAll_136 (fun H locs hP hD hS => ?_)
                  have hP : va_P E.1 vwCl (mW E ad lk tr (va_up N 8 (rd + 1)) X (va_up F 7 (va_up f7 rd set)) G) H := hP
                  have hD : va_D A (mW E ad lk tr (va_up N 8 (rd + 1)) X (va_up F 7 (va_up f7 rd set)) G) := hD
                  refine lv_iload_n hx hb dX12_readAll_139 rfl (lv_at hl 3 rfl) ?_
                  refine lv_iload_n hx hb dX12_readAll_140 rfl (lv_at hl 2 rfl) ?_
                  refine n_icmp_ge (tgt := 148) hx hb (by omega) (by omega) dX12_readAll_141 (by decide) (fun c_10 => ?_) (fun c_10 => ?_)
                  · -- t 148
                    refine lv_iconst (v := nI 0) hx hb dX12_readAll_148 (by decide) ?_
                    refine lv_istore (lv' := [(4, .int (nI 0)), (0, .ref (ad 0)), (1, .int (nI fr)), (2, .int (nI n5)), (3, .int (nI at2)), (5, .int (nI set))]) hx hb dX12_readAll_149 hl (by decide) rfl (fun ls hl => ?_)
                    refine lv_iload hx hb dX12_readAll_151 (lv_at hl 0 rfl) ?_
                    refine n_if_eq (tgt := 166) hx hb (by omega) dX12_readAll_153 (by decide) (fun _ => ?_) (fun c_11 => absurd rfl c_11)
                    refine lv_iload_n hx hb dX12_readAll_166 rfl (lv_at hl 4 rfl) ?_
                    refine lv_iload hx hb dX12_readAll_167 (lv_at hl 0 rfl) ?_
                    refine n_if_eq (tgt := 176) hx hb (by omega) dX12_readAll_169 (by decide) (fun _ => ?_) (fun c_12 => absurd rfl c_12)
                    refine lv_iconst (v := nI 0) hx hb dX12_readAll_176 (by decide) ?_
                    refine n_iadd hx hb dX12_readAll_177 ?_
                    refine lv_istore_n (lv' := [(3, .int (nI (at2 + 0))), (4, .int (nI 0)), (0, .ref (ad 0)), (1, .int (nI fr)), (2, .int (nI n5)), (5, .int (nI set))]) hx hb dX12_readAll_178 rfl hl (by decide) rfl (fun ls hl => ?_)
                    refine lv_goto (tgt := 10) hx hb dX12_readAll_179 (by decide) ?_
                    exact ih_lp_1 at2 0 (rd + 1) (va_up f7 rd set) num2 (by omega) (by omega) (by omega) (Or.inr ⟨rfl, by omega, by rw [show n5 = at2 by omega]; exact hp2⟩) (fun p h => (by unfold va_up; by_cases h6 : p = rd; rw [if_pos h6, h6]; exact hset.symm; rw [if_neg h6]; exact hf2 p (by omega))) (by omega) H locs hP hD hS ls (lv_sub hl [2, 3, 4, 0, 1] rfl)
                  · -- f 144
                    exfalso; omega
                · -- f 46
                  refine lv_aload_n hx hb dX12_readAll_46 rfl (lv_at hl 0 rfl) ?_
                  refine va_get (D := E.1) (ci := 10) (v := .ref (ad 4)) (C := RX12) (T := TX12) (N := 30) hx hb hts iX12 hown hK hP 0 rfl rfl 4 (by decide) (hts _ kw_743) (fun _ h9 => h9) rfl dX12_readAll_47 ?_
                  refine lv_iload_n hx hb dX12_readAll_50 rfl (lv_at hl 1 rfl) ?_
                  refine lv_iload_n hx hb dX12_readAll_51 rfl (lv_at hl 3 rfl) ?_
                  refine n_iadd hx hb dX12_readAll_52 ?_
                  refine n_iald hx hb hK hP 3 rfl (by omega) (by decide) dX12_readAll_53 ?_
                  refine lv_bipush (v := nI 59) hx hb dX12_readAll_54 (by decide) ?_
                  refine lv_icmp_eq (tgt := 118) hx hb dX12_readAll_56 (by decide) (fun c_13 => ?_) (fun c_13 => ?_)
                  · -- t 118
                    refine lv_aload_n hx hb dX12_readAll_118 rfl (lv_at hl 0 rfl) ?_
                    refine va_get (D := E.1) (ci := 10) (v := .ref (ad 7)) (C := RX12) (T := TX12) (N := 30) hx hb hts iX12 hown hK hP 0 rfl rfl 7 (by decide) (hts _ kw_746) (fun _ h9 => h9) rfl dX12_readAll_119 ?_
                    refine lv_aload_n hx hb dX12_readAll_122 rfl (lv_at hl 0 rfl) ?_
                    refine va_get (D := E.1) (ci := 10) (v := .int (nI rd)) (C := RX12) (T := TX12) (N := 30) hx hb hts iX12 hown hK hP 0 rfl rfl 8 (by decide) (hts _ kw_747) (fun _ h9 => h9) rfl dX12_readAll_123 ?_
                    refine lv_iload hx hb dX12_readAll_126 (lv_at hl 5 rfl) ?_
                    refine n_iast hx hb hK hP hD hS 5 rfl (by omega) (by decide) dX12_readAll_128 (fun H locs hP hD hS => ?_)
                    have hP : va_P E.1 vwCl (mW E ad lk tr (va_up N 8 rd) X (va_up F 7 (va_up f7 rd set)) G) H := hP
                    have hD : va_D A (mW E ad lk tr (va_up N 8 rd) X (va_up F 7 (va_up f7 rd set)) G) := hD
                    refine lv_aload_n hx hb dX12_readAll_129 rfl (lv_at hl 0 rfl) ?_
                    refine lv_dup hx hb dX12_readAll_130 rfl ?_
                    refine va_get (D := E.1) (ci := 10) (v := .int (nI rd)) (C := RX12) (T := TX12) (N := 30) hx hb hts iX12 hown hK hP 0 rfl rfl 8 (by decide) (hts _ kw_747) (fun _ h9 => h9) rfl dX12_readAll_131 ?_
                    refine lv_iconst (v := nI 1) hx hb dX12_readAll_134 (by decide) ?_
                    refine n_iadd hx hb dX12_readAll_135 ?_
                    refine va_put (D := E.1) (ci := 10) (v := .int (nI (rd + 1))) (ty := .int) (C := RX12) (T := TX12) (N := 30) hx hb hts iX12 tyX12 tyX12_ok nmX12 hown hK hP hD hS 0 rfl rfl 8 (by decide) (hts _ kw_747) (fun _ h9 => h9) rfl (by decide +kernel) rfl rfl (Nat.le_of_ble_eq_true rfl) dX12_readAll_136 (fun H locs hP hD hS => ?_)
                    have hP : va_P E.1 vwCl (mW E ad lk tr (va_up N 8 (rd + 1)) X (va_up F 7 (va_up f7 rd set)) G) H := hP
                    have hD : va_D A (mW E ad lk tr (va_up N 8 (rd + 1)) X (va_up F 7 (va_up f7 rd set)) G) := hD
                    refine lv_iload_n hx hb dX12_readAll_139 rfl (lv_at hl 3 rfl) ?_
                    refine lv_iload_n hx hb dX12_readAll_140 rfl (lv_at hl 2 rfl) ?_
                    refine n_icmp_ge (tgt := 148) hx hb (by omega) (by omega) dX12_readAll_141 (by decide) (fun c_14 => ?_) (fun c_14 => ?_)
                    · -- t 148
                      exfalso; omega
                    · -- f 144
                      refine lv_iconst (v := nI 1) hx hb dX12_readAll_144 (by decide) ?_
                      refine lv_goto (tgt := 149) hx hb dX12_readAll_145 (by decide) ?_
                      refine lv_istore (lv' := [(4, .int (nI 1)), (0, .ref (ad 0)), (1, .int (nI fr)), (2, .int (nI n5)), (3, .int (nI at2)), (5, .int (nI set))]) hx hb dX12_readAll_149 hl (by decide) rfl (fun ls hl => ?_)
                      refine lv_iload hx hb dX12_readAll_151 (lv_at hl 0 rfl) ?_
                      refine n_if_eq (tgt := 166) hx hb (by omega) dX12_readAll_153 (by decide) (fun c_15 => absurd c_15 (by decide)) (fun _ => ?_)
                      refine lv_aload_n hx hb dX12_readAll_156 rfl (lv_at hl 1 rfl) ?_
                      refine va_get (D := E.1) (ci := 10) (v := .int (nI (rd + 1))) (C := RX12) (T := TX12) (N := 30) hx hb hts iX12 hown hK hP 0 rfl rfl 8 (by decide) (hts _ kw_747) (fun _ h9 => h9) rfl dX12_readAll_157 ?_
                      refine lv_iconst (v := nI 4) hx hb dX12_readAll_160 (by decide) ?_
                      refine n_icmp_ne (tgt := 166) hx hb (by omega) (by omega) dX12_readAll_161 (by decide) (fun c_16 => ?_) (fun c_16 => ?_)
                      · -- t 166
                        refine lv_iload_n hx hb dX12_readAll_166 rfl (lv_at hl 4 rfl) ?_
                        refine lv_iload hx hb dX12_readAll_167 (lv_at hl 0 rfl) ?_
                        refine n_if_eq (tgt := 176) hx hb (by omega) dX12_readAll_169 (by decide) (fun c_17 => absurd c_17 (by decide)) (fun _ => ?_)
                        refine lv_iconst (v := nI 1) hx hb dX12_readAll_172 (by decide) ?_
                        refine lv_goto (tgt := 177) hx hb dX12_readAll_173 (by decide) ?_
                        refine n_iadd hx hb dX12_readAll_177 ?_
                        refine lv_istore_n (lv' := [(3, .int (nI (at2 + 1))), (4, .int (nI 1)), (0, .ref (ad 0)), (1, .int (nI fr)), (2, .int (nI n5)), (5, .int (nI set))]) hx hb dX12_readAll_178 rfl hl (by decide) rfl (fun ls hl => ?_)
                        refine lv_goto (tgt := 10) hx hb dX12_readAll_179 (by decide) ?_
                        exact ih_lp_1 (at2 + 1) 1 (rd + 1) (va_up f7 rd set) num2 (by omega) (by omega) (by omega) (Or.inl ⟨rfl, by rw [parse_s hp2]; exact pstep_semi c_13 (by omega)⟩) (fun p h => (by unfold va_up; by_cases h6 : p = rd; rw [if_pos h6, h6]; exact hset.symm; rw [if_neg h6]; exact hf2 p (by omega))) (by omega) H locs hP hD hS ls (lv_sub hl [2, 3, 4, 0, 1] rfl)
                      · -- f 164
                        refine lv_iload_n hx hb dX12_readAll_164 rfl (lv_at hl 4 rfl) ?_
                        exact rw_i hC rfl hP hD hS (⟨(rd + 1), (va_up f7 rd set), rfl, Or.inl ⟨_, rfl, Or.inl ⟨by omega, ⟨_, hp2⟩, by rw [parse_s hp2]; exact pstep_semi4 c_13 (by omega)⟩⟩⟩) dX12_readAll_165 (Nat.le_of_ble_eq_true rfl) (Nat.le_of_ble_eq_true rfl)
                  · -- f 59
                    refine lv_aload_n hx hb dX12_readAll_59 rfl (lv_at hl 0 rfl) ?_
                    refine va_get (D := E.1) (ci := 10) (v := .ref (ad 4)) (C := RX12) (T := TX12) (N := 30) hx hb hts iX12 hown hK hP 0 rfl rfl 4 (by decide) (hts _ kw_743) (fun _ h9 => h9) rfl dX12_readAll_60 ?_
                    refine lv_iload_n hx hb dX12_readAll_63 rfl (lv_at hl 1 rfl) ?_
                    refine lv_iload_n hx hb dX12_readAll_64 rfl (lv_at hl 3 rfl) ?_
                    refine n_iadd hx hb dX12_readAll_65 ?_
                    refine n_iald hx hb hK hP 3 rfl (by omega) (by decide) dX12_readAll_66 ?_
                    refine lv_bipush (v := nI 48) hx hb dX12_readAll_67 (by decide) ?_
                    refine lv_isub hx hb dX12_readAll_69 ?_
                    refine lv_istore (lv' := [(6, .int (((X 4) (fr + at2)) - (nI 48))), (0, .ref (ad 0)), (1, .int (nI fr)), (2, .int (nI n5)), (3, .int (nI at2)), (4, .int (nI mo)), (5, .int (nI set))]) hx hb dX12_readAll_70 hl (by decide) rfl (fun ls hl => ?_)
                    refine lv_iload hx hb dX12_readAll_72 (lv_at hl 0 rfl) ?_
                    refine lv_iconst (v := nI 0) hx hb dX12_readAll_74 (by decide) ?_
                    refine lv_iconst (v := nI 3) hx hb dX12_readAll_75 (by decide) ?_
                    refine cS_p (rest := []) hC (c_isIn l (((X 4) (fr + at2)) - (nI 48)) (nI 0) (nI 3)) kw_837 sy_X12_isIn ⟨Nat.le_of_ble_eq_true rfl, Nat.le_of_ble_eq_true rfl⟩ ⟨rfl, rfl⟩ rfl hl.1 rfl (Nat.le_of_ble_eq_true rfl) dX12_readAll_76 ⟨Nat.le_of_ble_eq_true rfl, Nat.le_of_ble_eq_true rfl⟩ ?_
                    refine b_if_eq (tgt := 101) hx hb dX12_readAll_79 (by decide) (fun c_18 => ?_) (fun c_18 => ?_)
                    · -- t 101
                      refine lv_iload_n hx hb dX12_readAll_101 rfl (lv_at hl 4 rfl) ?_
                      exact rw_i hC rfl hP hD hS (⟨rd, f7, rfl, Or.inl ⟨_, rfl, Or.inl ⟨by omega, ⟨_, hp2⟩, by rw [parse_s hp2]; exact pstep_bad c_13 c_18⟩⟩⟩) dX12_readAll_102 (Nat.le_of_ble_eq_true rfl) (Nat.le_of_ble_eq_true rfl)
                    · -- f 82
                      obtain ⟨qn, hqn, hqe⟩ := isIn_nat (by decide) c_18
                      rw [hqe] at hl
                      refine lv_iload hx hb dX12_readAll_82 (lv_at hl 0 rfl) ?_
                      refine lv_aload_n hx hb dX12_readAll_84 rfl (lv_at hl 1 rfl) ?_
                      refine va_get (D := E.1) (ci := 10) (v := .int (nI rd)) (C := RX12) (T := TX12) (N := 30) hx hb hts iX12 hown hK hP 0 rfl rfl 8 (by decide) (hts _ kw_747) (fun _ h9 => h9) rfl dX12_readAll_85 ?_
                      refine n_icmp_eq (tgt := 101) hx hb (by omega) (by omega) dX12_readAll_88 (by decide) (fun c_19 => ?_) (fun c_19 => ?_)
                      · -- t 101
                        refine lv_iload_n hx hb dX12_readAll_101 rfl (lv_at hl 4 rfl) ?_
                        exact rw_i hC rfl hP hD hS (⟨rd, f7, rfl, Or.inl ⟨_, rfl, Or.inl ⟨by omega, ⟨_, hp2⟩, by rw [parse_s hp2]; exact pstep_own c_13 hqe hqn c_19⟩⟩⟩) dX12_readAll_102 (Nat.le_of_ble_eq_true rfl) (Nat.le_of_ble_eq_true rfl)
                      · -- f 91
                        refine lv_iload hx hb dX12_readAll_91 (lv_at hl 6 rfl) ?_
                        refine lv_iload hx hb dX12_readAll_93 (lv_at hl 0 rfl) ?_
                        refine cS_p (rest := []) hC (c_m_has l set qn (by omega) (by omega)) kw_851 sy_X12_has ⟨Nat.le_of_ble_eq_true rfl, Nat.le_of_ble_eq_true rfl⟩ ⟨rfl, rfl⟩ rfl hl.1 rfl (Nat.le_of_ble_eq_true rfl) dX12_readAll_95 ⟨Nat.le_of_ble_eq_true rfl, Nat.le_of_ble_eq_true rfl⟩ ?_
                        refine b_if_eq (tgt := 103) hx hb dX12_readAll_98 (by decide) (fun c_20 => ?_) (fun c_20 => ?_)
                        · -- t 103
                          refine lv_iload hx hb dX12_readAll_103 (lv_at hl 6 rfl) ?_
                          refine lv_iconst (v := nI 1) hx hb dX12_readAll_105 (by decide) ?_
                          refine lv_iload hx hb dX12_readAll_106 (lv_at hl 0 rfl) ?_
                          refine n_ishl hx hb (by omega) dX12_readAll_108 ?_
                          refine n_ior hx hb dX12_readAll_109 ?_
                          refine lv_istore (lv' := [(5, .int (nI (set ||| (1 <<< qn)))), (6, .int (nI qn)), (0, .ref (ad 0)), (1, .int (nI fr)), (2, .int (nI n5)), (3, .int (nI at2)), (4, .int (nI mo))]) hx hb dX12_readAll_110 hl (by decide) rfl (fun ls hl => ?_)
                          refine lv_iinc (v := nI (at2 + 1)) (lv' := [(3, .int (nI (at2 + 1))), (5, .int (nI (set ||| (1 <<< qn)))), (6, .int (nI qn)), (0, .ref (ad 0)), (1, .int (nI fr)), (2, .int (nI n5)), (4, .int (nI mo))]) hx hb dX12_readAll_112 hl (k := 5) rfl (ii_1 _) (by decide) rfl (fun ls hl => ?_)
                          refine lv_goto (tgt := 41) hx hb dX12_readAll_115 (by decide) ?_
                          exact ih_lp_8 (at2 + 1) (set ||| 1 <<< qn) (va_up num2 rd (set ||| 1 <<< qn)) (by omega) (by omega) (by rw [parse_s hp2, pstep_take c_13 hqe hqn c_19 (by rw [hset]; exact c_20), hset]) (by simp [va_up]) (or_lt (n := 4) hs16 (one_shl (by omega))) (fun p h => (by unfold va_up; rw [if_neg (by omega)]; exact hf2 p h)) (by omega) H locs hP hD hS ls (lv_sub hl [3, 4, 5, 0, 6, 1] rfl)
                        · -- f 101
                          refine lv_iload_n hx hb dX12_readAll_101 rfl (lv_at hl 4 rfl) ?_
                          exact rw_i hC rfl hP hD hS (⟨rd, f7, rfl, Or.inl ⟨_, rfl, Or.inl ⟨by omega, ⟨_, hp2⟩, by rw [parse_s hp2]; exact pstep_twice c_13 hqe hqn c_19 (hset ▸ c_20)⟩⟩⟩) dX12_readAll_102 (Nat.le_of_ble_eq_true rfl) (Nat.le_of_ble_eq_true rfl)
            exact lp_8 _ (at1 + 1) 0 (va_up num rd 0) (by omega) (by omega) (by rw [parse_s hps]; exact pstep_p c_7) (by simp [va_up]) (by omega) (fun p h => (by unfold va_up; rw [if_neg (by omega)]; exact hf7 p h)) (Nat.lt_succ_self _) H locs hP hD hS ls (lv_sub hl [2, 3, 4, 1, 5, 0] rfl)
          · -- f 33
            refine lv_iload_n hx hb dX12_readAll_33 rfl (lv_at hl 3 rfl) ?_
            exact rw_i hC rfl hP hD hS (⟨rd, f7, rfl, Or.inl ⟨_, rfl, Or.inl ⟨by omega, ⟨_, hps⟩, by rw [parse_s hps]; exact pstep_np c_7⟩⟩⟩) dX12_readAll_34 (Nat.le_of_ble_eq_true rfl) (Nat.le_of_ble_eq_true rfl)
  exact lp_1 _ 0 1 0 (F 7) (fun _ => 0) (by omega) (by omega) (by omega) (Or.inl ⟨rfl, rfl⟩) (fun p h => absurd h (by omega)) (Nat.lt_succ_self _) H locs hP hD hS ls (lv_sub hl [2, 3, 4, 1, 0] rfl)
