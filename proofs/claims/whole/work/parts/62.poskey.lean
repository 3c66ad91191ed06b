/-! ===== keys of positions ===== -/
theorem may_num {n r : Nat} {a b : Nat → Nat} {st tok tk' p q : Nat} (hN0 : numO a st p = numO b st p) (ht : 2 ≤ r → tok = tk') : mayM a r st tok p q = mayM b r st tk' p q := by
  unfold mayM
  rw [hN0]
  rcases (by omega : r = 0 ∨ r = 1 ∨ 2 ≤ r) with e | e | e
  · subst e; rfl
  · subst e; rfl
  · rw [ht e]
theorem numO_aft {n : Nat} {a b : Nat → Nat} {st p q : Nat} (hn : n ≤ 4) (hv : VS n st) (hp : p < n) (hq : q < n) (hN0 : ∀ z, z < n → numO a st z = numO b st z) : ∀ z, z < n → numO a (aft st p q) z = numO b (aft st p q) z := by
  intro z hz
  show numS a (of4 (aft st p q) z) 4 = numS b (of4 (aft st p q) z) 4
  rw [of4_aft (VS_lt hn hv) (by omega) (by omega) (by omega)]
  split
  · rw [numS_or, numS_or]
    have h1 : numS a (of4 st p) 4 = numS b (of4 st p) 4 := hN0 p hp
    have h2 : numS a (of4 st q) 4 = numS b (of4 st q) 4 := hN0 q hq
    rw [h1, h2]
  · exact hN0 z hz
theorem cnt_num {n r : Nat} {a b : Nat → Nat} (hn : n ≤ 4) : ∀ d st tok tk', VS n st → (∀ p, p < n → numO a st p = numO b st p) → (2 ≤ r → tok = tk') → cnt n a r d st tok = cnt n b r d st tk'
  | 0, _, _, _, _, _, _ => rfl
  | d + 1, st, tok, tk', hv, hN0, ht => by
    have key : ∀ k, accC n a r (cnt n a r d) st tok k = accC n b r (cnt n b r d) st tk' k := fun k => by
      induction k with
      | zero => rfl
      | succ k ih =>
        have hcv : cv n a r st tok k = cv n b r st tk' k := by
          unfold cv
          by_cases h1 : k / 4 < n
          · rw [may_num (n := n) (hN0 _ h1) ht]
          · rw [decide_eq_false h1]; rfl
        simp only [accC]
        rw [← hcv]
        by_cases hc : cv n a r st tok k = true
        · have ok := cv_ok hn hv hc
          rw [if_pos hc, if_pos hc, ih, cnt_num hn d (nxS st k) (nxT tok r k) (nxT tk' r k) ok.2.2.2.1 (numO_aft hn hv ok.1 ok.2.1 hN0) (fun h2 => by rw [ht h2])]
        · rw [if_neg hc, if_neg hc, ih]
    simp only [cnt]
    rw [key 16]
theorem CN_num {n r : Nat} {a b : Nat → Nat} {st tok tk' : Nat} (hn : n ≤ 4) (hv : VS n st) (hN0 : ∀ p, p < n → numO a st p = numO b st p) (ht : 2 ≤ r → tok = tk') : CN n a r st tok = CN n b r st tk' := cnt_num hn 12 st tok tk' hv hN0 ht
theorem mk2_tb : ∀ j, j < 64 → (18446744009285042175 : Nat).testBit j = !(decide (32 ≤ j) && decide (j < 36)) := by decide
theorem mk3_tb : ∀ j, j < 64 → (18446743042917400575 : Nat).testBit j = !(decide (36 ≤ j) && decide (j < 40)) := by decide
theorem kF1_tb {P r o j : Nat} (hj : j < 64) : (kF1 P r o).testBit j = (P.testBit j && (decide (r = 2 ∨ o = 2) || !(decide (32 ≤ j) && decide (j < 36)))) := by
  unfold kF1
  by_cases h1 : r = 2
  · rw [if_pos h1, decide_eq_true (Or.inl h1)]; simp
  · rw [if_neg h1]
    by_cases h2 : o = 2
    · rw [if_pos h2, decide_eq_true (Or.inr h2)]; simp
    · rw [if_neg h2, decide_eq_false (show ¬ (r = 2 ∨ o = 2) by omega), Nat.testBit_and, mk2_tb j hj, Bool.false_or]
theorem kF2_tb {P r o j : Nat} (hj : j < 64) : (kF2 P r o).testBit j = (P.testBit j && (decide (r = 3 ∨ o = 3) || !(decide (36 ≤ j) && decide (j < 40)))) := by
  unfold kF2
  by_cases h1 : r = 3
  · rw [if_pos h1, decide_eq_true (Or.inl h1)]; simp
  · rw [if_neg h1]
    by_cases h2 : o = 3
    · rw [if_pos h2, decide_eq_true (Or.inr h2)]; simp
    · rw [if_neg h2, decide_eq_false (show ¬ (r = 3 ∨ o = 3) by omega), Nat.testBit_and, mk3_tb j hj, Bool.false_or]
theorem kF1_le (P r o : Nat) : kF1 P r o ≤ P := by
  unfold kF1; split
  · exact Nat.le_refl _
  · split
    · exact Nat.le_refl _
    · exact Nat.and_le_left
theorem kF2_le (P r o : Nat) : kF2 P r o ≤ P := by
  unfold kF2; split
  · exact Nat.le_refl _
  · split
    · exact Nat.le_refl _
    · exact Nat.and_le_left
theorem kF_lt {P : Nat} (h : P < 8796093022208) (r o : Nat) : kF2 (kF1 P r o) r o < 2 ^ 43 := Nat.lt_of_le_of_lt (Nat.le_trans (kF2_le _ _ _) (kF1_le _ _ _)) h
theorem keyF_add {P : Nat} (h : P < 8796093022208) (r o : Nat) : keyF P r o = 2 ^ 43 * (4 * r + o) + kF2 (kF1 P r o) r o := by
  unfold keyF
  rw [Nat.or_comm, Nat.shiftLeft_eq, Nat.mul_comm, Nat.two_pow_add_eq_or_of_lt (kF_lt h r o)]
theorem keyF_lt {P : Nat} (h : P < 8796093022208) {r o : Nat} (hr : r < 4) (ho : o < 4) : keyF P r o < 140737488355328 := by
  rw [keyF_add h]; have := kF_lt h r o; omega
theorem keyF_inj {P P' : Nat} (h : P < 8796093022208) (h' : P' < 8796093022208) {r o r' o' : Nat} (ho : o < 4) (ho' : o' < 4) (e : keyF P r o = keyF P' r' o') : r = r' ∧ o = o' ∧ kF2 (kF1 P r o) r o = kF2 (kF1 P' r o) r o := by
  rw [keyF_add h, keyF_add h'] at e
  have h1 := kF_lt h r o
  have h2 := kF_lt h' r' o'
  have e1 : 4 * r + o = 4 * r' + o' := by omega
  have e2 : r = r' := by omega
  have e3 : o = o' := by omega
  subst e2; subst e3
  exact ⟨rfl, rfl, by omega⟩
theorem keyF_ne {n : Nat} {net : Nat → Nat} {st t2 t3 P r o : Nat} (h : Ps n net st t2 t3 P) (hn : 0 < n) : keyF P r o ≠ 0 := by
  intro e
  rw [keyF_add h.lt] at e
  have e0 : kF2 (kF1 P r o) r o = 0 := by omega
  have : pN P = 0 := by
    apply Nat.eq_of_testBit_eq; intro i
    rw [pN_tb, Nat.zero_testBit]
    rcases Nat.lt_or_ge (40 + i) 64 with h1 | h1
    · have h2 : (kF2 (kF1 P r o) r o).testBit (40 + i) = P.testBit (40 + i) := by
        rw [kF2_tb h1, kF1_tb h1, decide_eq_false (show ¬ 40 + i < 36 by omega), decide_eq_false (show ¬ 40 + i < 40 by omega)]; simp
      rw [← h2, e0, Nat.zero_testBit]
    · exact tb_43 h.lt (by omega)
  rw [h.ps] at this; omega
theorem t16_eq {x y : Nat} (hx : x < 16) (hy : y < 16) (h : ∀ i, i < 4 → x.testBit i = y.testBit i) : x = y := eq4 hx hy h
/-- what a key tells -/
theorem key_eq {n n' : Nat} {net net' : Nat → Nat} {st st' t2 t2' t3 t3' P P' r o r' o' : Nat} (h : Ps n net st t2 t3 P) (h' : Ps n' net' st' t2' t3' P') (hst : st < 65536) (hst' : st' < 65536) (ho : o < 4) (ho' : o' < 4) (e : keyF P r o = keyF P' r' o') :
    r = r' ∧ o = o' ∧ n = n' ∧ st = st' ∧ (∀ p, p < n → p < 4 → numO net st p = numO net' st p) ∧ ((r = 2 ∨ o = 2) → t2 < 16 → t2' < 16 → t2 = t2') ∧ ((r = 3 ∨ o = 3) → t3 < 16 → t3' < 16 → t3 = t3') := by
  obtain ⟨e1, e2, e3⟩ := keyF_inj h.lt h'.lt ho ho' e
  have tb : ∀ j, j < 64 → (j < 32 ∨ 40 ≤ j ∨ (j < 36 ∧ (r = 2 ∨ o = 2)) ∨ (36 ≤ j ∧ (r = 3 ∨ o = 3))) → P.testBit j = P'.testBit j := by
    intro j hj hc
    have h1 := congrArg (fun z => z.testBit j) e3
    simp only [kF2_tb hj, kF1_tb hj] at h1
    have m1 : (decide (r = 2 ∨ o = 2) || !(decide (32 ≤ j) && decide (j < 36))) = true := by
      rcases hc with hc | hc | hc | hc
      · rw [decide_eq_false (show ¬ 32 ≤ j by omega)]; simp
      · rw [decide_eq_false (show ¬ j < 36 by omega)]; simp
      · rw [decide_eq_true hc.2]; rfl
      · rw [decide_eq_false (show ¬ j < 36 by omega)]; simp
    have m2 : (decide (r = 3 ∨ o = 3) || !(decide (36 ≤ j) && decide (j < 40))) = true := by
      rcases hc with hc | hc | hc | hc
      · rw [decide_eq_false (show ¬ 36 ≤ j by omega)]; simp
      · rw [decide_eq_false (show ¬ j < 40 by omega)]; simp
      · rw [decide_eq_false (show ¬ 36 ≤ j by omega)]; simp
      · rw [decide_eq_true hc.2]; rfl
    rw [m1, m2, Bool.and_true, Bool.and_true, Bool.and_true, Bool.and_true] at h1
    exact h1
  have en : n = n' := by
    rw [← h.ps, ← h'.ps]
    apply Nat.eq_of_testBit_eq; intro i
    rw [pN_tb, pN_tb]
    rcases Nat.lt_or_ge (40 + i) 64 with h1 | h1
    · exact tb _ h1 (by omega)
    · rw [tb_43 h.lt (by omega), tb_43 h'.lt (by omega)]
  have es : st = st' := st_eq hst hst' (fun p hp => by
    rw [← h.sec p hp, ← h'.sec p hp]
    refine eq4 (of4_lt _ _) (of4_lt _ _) (fun i hi => ?_)
    rw [of4_tb, of4_tb, tb _ (by omega) (by omega)])
  refine ⟨e1, e2, en, es, fun p hp hp4 => ?_, fun hc h1 h2 => ?_, fun hc h1 h2 => ?_⟩
  · have a1 := h.num p hp4
    have a2 := h'.num p hp4
    rw [if_pos hp] at a1
    rw [if_pos (en ▸ hp)] at a2
    rw [← a1, es, ← a2]
    refine eq4 (nO_lt _ _) (nO_lt _ _) (fun i hi => ?_)
    rw [nO_tb, nO_tb, tb _ (by omega) (by omega)]
  · refine eq4 h1 h2 (fun i hi => ?_)
    rw [← h.tk2 i hi, ← h'.tk2 i hi]
    exact tb _ (by omega) (Or.inr (Or.inr (Or.inl ⟨by omega, hc⟩)))
  · refine eq4 h1 h2 (fun i hi => ?_)
    rw [← h.tk3 i hi, ← h'.tk3 i hi]
    exact tb _ (by omega) (Or.inr (Or.inr (Or.inr ⟨by omega, hc⟩)))
