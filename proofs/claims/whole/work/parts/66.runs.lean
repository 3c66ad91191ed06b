/-! ===== the class's counts of runs ===== -/
def rW (E : EE) (ra : Nat → Nat) (K : Nat → Nat) (u : Nat) (Al Gd Fw Mo : Nat → Nat) (K2 : Nat → Nat) (u2 : Nat) : va_W :=
  [(ra 0, .inr (4, [.ref (ra 1), .ref (ra 3), .ref (ra 4), .ref (ra 5), .ref (ra 6), .ref (ra 7)])), (ra 1, .inr (6, [.ref (ra 2), .int (nI u)])), (ra 2, .inl (E.2 2, 8192, .inr (.inl (fun j => lN (K j))))), (ra 3, .inl (E.2 2, 8192, .inr (.inl (fun j => lN (Al j))))), (ra 4, .inl (E.2 2, 8192, .inr (.inl (fun j => lN (Gd j))))), (ra 5, .inl (E.2 0, 8192, .inl (fun j => nI (Fw j)))), (ra 6, .inl (E.2 0, 8192, .inl (fun j => nI (Mo j)))), (ra 7, .inr (6, [.ref (ra 8), .int (nI u2)])), (ra 8, .inl (E.2 2, 8192, .inr (.inl (fun j => lN (K2 j)))))]
def vC (al gd fw mo : Nat) (x : C4) : Prop := al = x.1 ∧ gd = x.2.1 ∧ (0 < x.2.1 → fw = x.2.2.1 ∧ mo = x.2.2.2 - 1) ∧ fw ≤ 12 ∧ mo ≤ 13
def VI (K Al Gd Fw Mo : Nat → Nat) : Prop := ∀ j, j < 8192 → K j ≠ 0 → ∀ n net st t2 t3 P r, 0 < n → n ≤ 4 → VS n st → t2 < 16 → t3 < 16 → Ps n net st t2 t3 P → r < 4 → keyF P r r = K j → vC (Al j) (Gd j) (Fw j) (Mo j) (CN n net r st (tkR r t2 t3))
theorem VI_put {K Al Gd Fw Mo : Nat → Nat} {s1 al gd fw mo : Nat} {n : Nat} {net : Nat → Nat} {st t2 t3 P r : Nat} (h : VI K Al Gd Fw Mo) (hn : n ≤ 4) (hv : VS n st) (h2 : t2 < 16) (h3 : t3 < 16) (hp : Ps n net st t2 t3 P) (hr : r < 4) (hx : vC al gd fw mo (CN n net r st (tkR r t2 t3))) :
    VI (va_up K s1 (keyF P r r)) (va_up Al s1 al) (va_up Gd s1 gd) (va_up Fw s1 fw) (va_up Mo s1 mo) := by
  intro j hj hne n' net' st' t2' t3' P' r' a1 a2 a3 a4 a5 a6 a7 e
  by_cases ej : j = s1
  · subst ej
    rw [vu_s] at e
    rw [vu_s, vu_s, vu_s, vu_s]
    obtain ⟨e1, e2, e3, e4, e5, e6, e7⟩ := key_eq a6 hp (VS_lt a2 a3) (VS_lt hn hv) a7 hr e
    subst e1; subst e3; subst e4
    have : CN n' net' r' st' (tkR r' t2' t3') = CN n' net r' st' (tkR r' t2 t3) := CN_num a2 a3 (fun p hp1 => e5 p hp1 (by omega)) (fun hr2 => by
      rcases (by omega : r' = 2 ∨ r' = 3) with e8 | e8
      · subst e8; exact e6 (Or.inl rfl) a4 h2
      · subst e8; exact e7 (Or.inl rfl) a5 h3)
    rw [this]; exact hx
  · rw [vu_n _ _ ej] at hne e
    rw [vu_n _ _ ej, vu_n _ _ ej, vu_n _ _ ej, vu_n _ _ ej]
    exact h j hj hne n' net' st' t2' t3' P' r' a1 a2 a3 a4 a5 a6 a7 e
/-! the fewest and the most, where there is a good one -/
theorem acc_fm {n : Nat} {net : Nat → Nat} {r st tok d : Nat} {f : Nat → Nat → C4} (hf : ∀ a b, 0 < (f a b).2.1 → (f a b).2.2.1 ≤ d ∧ 1 ≤ (f a b).2.2.2) : ∀ k, 0 < (accC n net r f st tok k).2.1 → (accC n net r f st tok k).2.2.1 ≤ d + 1 ∧ 1 ≤ (accC n net r f st tok k).2.2.2
  | 0, h => absurd h (by simp [accC])
  | k + 1, h => by
    have ih := acc_fm (n := n) (net := net) (r := r) (st := st) (tok := tok) hf k
    simp only [accC] at h ⊢
    by_cases hc : cv n net r st tok k = true
    · rw [if_pos hc] at h ⊢
      have h1 := hf (nxS st k) (nxT tok r k)
      simp only [addC] at h ⊢
      by_cases hg : 0 < (f (nxS st k) (nxT tok r k)).2.1
      · have h2 := h1 hg
        rw [if_pos hg, if_pos hg]
        constructor
        · split <;> omega
        · split <;> omega
      · rw [if_neg hg, if_neg hg]
        exact ih (by omega)
    · rw [if_neg hc] at h ⊢; exact ih h
theorem cnt_fm {n : Nat} {net : Nat → Nat} {r : Nat} : ∀ d st tok, 0 < (cnt n net r d st tok).2.1 → (cnt n net r d st tok).2.2.1 ≤ d ∧ 1 ≤ (cnt n net r d st tok).2.2.2
  | 0, st, tok, h => by
    simp only [cnt, leafC] at h ⊢
    cases he : expM st n
    · rw [he] at h; simp at h
    · simp
  | d + 1, st, tok, h => by
    simp only [cnt, finC] at h ⊢
    by_cases h0 : (accC n net r (cnt n net r d) st tok 16).1 = 0
    · rw [if_pos h0] at h ⊢
      simp only [leafC] at h ⊢
      cases he : expM st n
      · rw [he] at h; simp at h
      · simp
    · rw [if_neg h0] at h ⊢
      exact acc_fm (fun a b => cnt_fm d a b) 16 h
theorem CN_fm {n : Nat} {net : Nat → Nat} {r st tok : Nat} (h : 0 < (CN n net r st tok).2.1) : (CN n net r st tok).2.2.1 ≤ 12 ∧ 1 ≤ (CN n net r st tok).2.2.2 ∧ (CN n net r st tok).2.2.2 ≤ 13 := ⟨(cnt_fm 12 st tok h).1, (cnt_fm 12 st tok h).2, (cnt_sm 12 st tok).2⟩
/-- what the class has gathered of the first k pairs -/
def gC (al gd fw mo : Nat) (x : C4) : Prop := al = x.1 ∧ gd = x.2.1 ∧ fw = min 12 x.2.2.1 ∧ mo = x.2.2.2 - 1 ∧ x.2.2.2 ≤ 14
theorem gC_0 : gC 0 0 12 0 (0, 0, 1000, 0) := ⟨rfl, rfl, rfl, rfl, by decide⟩
theorem gC_no {al gd fw mo a g f1 m1 : Nat} {x y : C4} (h : gC al gd fw mo x) (hy : vC a g f1 m1 y) (h0 : g = 0) : gC (al + a) (gd + g) fw mo (addC x y) := by
  obtain ⟨h1, h2, h3, h4, h5⟩ := h
  obtain ⟨k1, k2, k3⟩ := hy
  have : ¬ 0 < y.2.1 := by omega
  simp only [gC, addC]
  rw [if_neg this, if_neg this]
  exact ⟨by omega, by omega, h3, h4, h5⟩
theorem gC_yes {al gd fw mo a g f1 m1 : Nat} {x y : C4} (h : gC al gd fw mo x) (hy : vC a g f1 m1 y) (h0 : g ≠ 0) (hm : 1 ≤ y.2.2.2) (hm2 : y.2.2.2 ≤ 13) : gC (al + a) (gd + g) (min fw (f1 + 1)) (max mo (m1 + 1)) (addC x y) := by
  obtain ⟨h1, h2, h3, h4, h5⟩ := h
  obtain ⟨k1, k2, k3, k4, k5⟩ := hy
  have hg : 0 < y.2.1 := by omega
  obtain ⟨k6, k7⟩ := k3 hg
  simp only [gC, addC]
  rw [if_pos hg, if_pos hg]
  refine ⟨by omega, by omega, ?_, ?_, ?_⟩
  · split <;> omega
  · split <;> omega
  · split <;> omega
/-- and the end of it -/
theorem gC_fin {al gd fw mo : Nat} {n : Nat} {net : Nat → Nat} {r st tok : Nat} (hn : n ≤ 4) (hv : VS n st) (h : gC al gd fw mo (accC n net r (CN n net r) st tok 16)) (h0 : 0 < al) : vC al gd fw mo (CN n net r st tok) := by
  obtain ⟨h1, h2, h3, h4, h5⟩ := h
  have e : CN n net r st tok = accC n net r (CN n net r) st tok 16 := by
    rw [CN_eq hn hv, finC, if_neg (by omega)]
  refine ⟨by rw [e]; exact h1, by rw [e]; exact h2, fun hg => ?_, by omega, by omega⟩
  have := CN_fm hg
  rw [e] at this ⊢
  exact ⟨by omega, h4⟩
theorem gC_leaf {gd fw mo : Nat} {n : Nat} {net : Nat → Nat} {r st tok : Nat} (hn : n ≤ 4) (hv : VS n st) (h : gC 0 gd fw mo (accC n net r (CN n net r) st tok 16)) : vC 1 (expM st n).toNat 0 0 (CN n net r st tok) := by
  have e : CN n net r st tok = leafC (expM st n) := by
    rw [CN_eq hn hv, finC, if_pos h.1.symm]
  rw [e]
  cases expM st n
  · exact ⟨rfl, rfl, fun hg => absurd hg (by decide), by decide, by decide⟩
  · exact ⟨rfl, rfl, fun _ => ⟨rfl, rfl⟩, by decide, by decide⟩
theorem Ps_low {n : Nat} {net : Nat → Nat} {st t2 t3 P : Nat} (h : Ps n net st t2 t3 P) (hst : st < 65536) : P &&& 65535 = st := by
  apply Nat.eq_of_testBit_eq; intro i
  rw [Nat.testBit_and, show (65535 : Nat) = 2 ^ 16 - 1 from rfl, Nat.testBit_two_pow_sub_one]
  rcases Nat.lt_or_ge i 16 with h1 | h1
  · rw [decide_eq_true h1, Bool.and_true, (Ps_tb h).1 i h1, of4_tb, decide_eq_true (by omega), Bool.true_and, show 4 * (i / 4) + i % 4 = i by omega]
  · rw [decide_eq_false (by omega), Bool.and_false, tb_big hst h1]
theorem exp_bits {n st : Nat} (hn : n ≤ 4) (hv : VS n st) : decide (bitsN st 16 = n * n) = expM st n := by
  have hm : ∀ p, p < 4 → of4 (msk n) p = if p < n then 1 <<< n - 1 else 0 := by
    have : ∀ n, n ≤ 4 → ∀ p, p < 4 → of4 (msk n) p = if p < n then 1 <<< n - 1 else 0 := by decide +kernel
    exact this n hn
  unfold expM
  refine decide_eq_decide.mpr ⟨fun h p hp => ?_, fun h => ?_⟩
  · have e : st = msk n := by
      apply Nat.eq_of_testBit_eq; intro i
      cases h1 : st.testBit i with
      | true => exact (hv.1 i h1).symm
      | false =>
        cases h2 : (msk n).testBit i with
        | false => rfl
        | true =>
          have hi : i < 16 := by
            rcases Nat.lt_or_ge i 16 with h3 | h3
            · exact h3
            · rw [tb_big (msk_lt n hn) h3] at h2; cases h2
          have := bitsN_lt (a := st) (b := msk n) 16 (fun j _ => hv.1 j) ⟨i, hi, h1, h2⟩
          rw [msk_bits n hn] at this; omega
    rw [e, hm p (by omega), if_pos hp]
  · have e : st = msk n := st_eq (VS_lt hn hv) (msk_lt n hn) (fun p hp => by
      rw [hm p hp]
      by_cases h1 : p < n
      · rw [if_pos h1]; exact h p h1
      · rw [if_neg h1]; exact VS_out hn hv (by omega) hp)
    rw [e, msk_bits n hn]
theorem Ps_exp {n : Nat} {net : Nat → Nat} {st t2 t3 P : Nat} (hn : n ≤ 4) (hv : VS n st) (h : Ps n net st t2 t3 P) : decide (bitsN (P &&& 65535) 16 = pN P * pN P) = expM st n := by
  rw [Ps_low h (VS_lt hn hv), h.ps]; exact exp_bits hn hv
