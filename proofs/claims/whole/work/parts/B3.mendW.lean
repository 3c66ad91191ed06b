/-! ===== what mends; all nets ===== -/
def omW (E : EE) (ca ra : Nat → Nat) (ao : Nat) (C : Nat → Nat) (K : Nat → Nat) (u : Nat) (Al Gd Fw Mo : Nat → Nat) (K2 : Nat → Nat) (u2 : Nat) (Me : Nat → Nat) : va_W := orW E ca ra ao C K u Al Gd Fw Mo K2 u2 ++ [(ca 4, .inl (E.2 1, 4, .inl (fun j => nI (Me j))))]
def onW (E : EE) (ca ra : Nat → Nat) (ao : Nat) (C : Nat → Nat) (K : Nat → Nat) (u : Nat) (Al Gd Fw Mo : Nat → Nat) (K2 : Nat → Nat) (u2 : Nat) (Nc : Nat → Nat) : va_W := orW E ca ra ao C K u Al Gd Fw Mo K2 u2 ++ [(ca 5, .inl (E.2 1, 48, .inl (fun j => nI (Nc j))))]
theorem Pst_first {n : Nat} {net : Nat → Nat} {x : Nat} (h1 : 0 < n) (hn : n ≤ 4) (hx : NX n net x) (r o : Nat) : Pst n net r o (startN n) (1 <<< n - 1) (1 <<< n - 1) (frS n x n) := by
  have hf := eS_lt hn
  refine ⟨Ps_first hn hx, VS_start hn, hf, hf, ?_⟩
  have e : tq (fR r o) (1 <<< n - 1) (1 <<< n - 1) = tF n (fR r o) := by rcases fR_or r o with h | h | h <;> rw [h] <;> rfl
  rw [e]; exact Rc_start h1 hn (fR_or r o)
theorem tkR_s (r t : Nat) : tkR r t t = t := by show (if r = 2 then t else t) = t; split <;> rfl
/-- the sets that were found -/
def MI (n : Nat) (net : Nat → Nat) (x mf : Nat) (Me : Nat → Nat) : Prop := mf < 16 ∧ ∀ r, r < 4 → mf.testBit r = true → Me r = nsP (mnB n net x r) n n
theorem MI_0 {n : Nat} {net : Nat → Nat} {x : Nat} {Me : Nat → Nat} : MI n net x 0 Me := ⟨by decide, fun r _ h => by simp at h⟩
theorem MI_put {n : Nat} {net : Nat → Nat} {x mf r1 : Nat} {Me : Nat → Nat} (h : MI n net x mf Me) (hr : r1 < 4) : MI n net x (mf ||| 1 <<< r1) (va_up Me r1 (nsP (mnB n net x r1) n n)) := by
  refine ⟨or_lt (n := 4) h.1 (one_shl hr), fun r hr4 hb => ?_⟩
  by_cases e : r = r1
  · rw [e, vu_s]
  · rw [vu_n _ _ e]
    rw [Nat.testBit_or, Nat.one_shiftLeft, Nat.testBit_two_pow, decide_eq_false (fun h9 => e h9.symm), Bool.or_false] at hb
    exact h.2 r hr4 hb
def b_mend (n : Nat) (net : Nat → Nat) (x : Nat) (a1 a2 : Int32) : Int32 := if isIn a1 (nI 0) (nI 3) = false then -1 else if isIn a2 (-1) (nI 11) = false then -1 else if n = 0 then -3 else pkV (nsP (mnB n net x a1.toNatClampNeg) n n) a2
theorem mn_new {n : Nat} {net : Nat → Nat} {x p q : Nat} (hn : n ≤ 4) (h : NX n net x) (hp : p < n) (hq : q < n) (hb : x.testBit (4 * p + q) = false) : p ≠ q ∧ (net p).testBit q = false := by
  rw [NX_bit h hp (by omega) (by omega), Bool.or_eq_false_iff, decide_eq_false_iff_not] at hb
  exact ⟨hb.2, hb.1⟩
theorem nsQ_t {B : Nat → Nat → Bool} {p z q : Nat} (h : B p q = true) : nsQ B p z (q + 1) = nsQ B p z q ||| 1 <<< (4 * p + q) := by simp only [nsQ]; rw [if_pos h]
theorem nsQ_f {B : Nat → Nat → Bool} {p z q : Nat} (h : B p q = false) : nsQ B p z (q + 1) = nsQ B p z q := by simp only [nsQ]; rw [if_neg (by rw [h]; decide)]
theorem tb_not0 {x k : Nat} (h : ¬ (x &&& 1 <<< k = 0)) : x.testBit k = true := by
  cases hb : x.testBit k with
  | true => rfl
  | false => exact absurd (and_tb.mpr hb) h
/-- counts of nets, the first x of them -/
def NcX (n r a x : Nat) (Nc Nb : Nat → Nat) : Prop := ∀ j, Nb j = if a ≤ j ∧ j < a + 4 then Nc j + cntB (netsB n r (j - a)) x else Nc j
theorem NcX_0 {n r a : Nat} {Nc : Nat → Nat} : NcX n r a 0 Nc Nc := fun j => by
  split
  · rfl
  · rfl
theorem NcX_no {n r a x : Nat} {Nc Nb : Nat → Nat} (h : NcX n r a x Nc Nb) (hj : joinM (ntC n x) n = false) : NcX n r a (x + 1) Nc Nb := fun j => by
  have : netsB n r (j - a) x = false := by unfold netsB; rw [hj]; rfl
  rw [h j, cntB_f this]
theorem NcX_yes {n r a x : Nat} {Nc Nb : Nat → Nat} (h : NcX n r a x Nc Nb) (hj : joinM (ntC n x) n = true) : NcX n r a (x + 1) Nc (va_up (va_up Nb (a + 3) (Nb (a + 3) + 1)) (a + verd (CN n (ntC n x) r (startN n) (1 <<< n - 1))) (va_up Nb (a + 3) (Nb (a + 3) + 1) (a + verd (CN n (ntC n x) r (startN n) (1 <<< n - 1))) + 1)) := fun j => by
  have hv := verd_le (CN n (ntC n x) r (startN n) (1 <<< n - 1))
  have hb : ∀ w, netsB n r w x = (decide (w = 3) || decide (verd (CN n (ntC n x) r (startN n) (1 <<< n - 1)) = w)) := fun w => by unfold netsB; rw [hj]; rfl
  generalize verd (CN n (ntC n x) r (startN n) (1 <<< n - 1)) = v at hv hb
  by_cases e1 : j = a + v
  · rw [e1, vu_s, vu_n _ _ (by omega), h (a + v), if_pos (by omega), if_pos (by omega), show a + v - a = v by omega, cntB_t (by rw [hb, decide_eq_true rfl, Bool.or_true])]; omega
  · rw [vu_n _ _ e1]
    by_cases e2 : j = a + 3
    · rw [e2, vu_s, h (a + 3), if_pos (by omega), if_pos (by omega), show a + 3 - a = 3 by omega, cntB_t (by rw [hb]; rfl)]; omega
    · rw [vu_n _ _ e2, h j]
      by_cases e3 : a ≤ j ∧ j < a + 4
      · rw [if_pos e3, if_pos e3, cntB_f (by rw [hb, decide_eq_false (by omega), decide_eq_false (by omega)]; rfl)]
      · rw [if_neg e3, if_neg e3]
def NI (nf : Nat) (Nc : Nat → Nat) : Prop := nf < 4096 ∧ ∀ n r w, 1 ≤ n → n ≤ 3 → r < 4 → w < 4 → Nc (4 * ((n - 1) * 4 + r) + w) = if nf.testBit ((n - 1) * 4 + r) = true then cntB (netsB n r w) (1 <<< (n * (n - 1))) else 0
theorem NI_0 : NI 0 (fun _ => 0) := ⟨by decide, fun n r w _ _ _ _ => by rw [Nat.zero_testBit]; rfl⟩
theorem NI_put {nf n1 r1 : Nat} {Nc N2 : Nat → Nat} (h : NI nf Nc) (h1 : 1 ≤ n1) (h3 : n1 ≤ 3) (hr : r1 < 4) (hb : nf.testBit ((n1 - 1) * 4 + r1) = false) (hN : NcX n1 r1 (4 * ((n1 - 1) * 4 + r1)) (1 <<< (n1 * (n1 - 1))) Nc N2) : NI (nf ||| 1 <<< ((n1 - 1) * 4 + r1)) N2 := by
  refine ⟨or_lt (n := 12) h.1 (one_shl (by omega)), fun n r w a1 a2 a3 a4 => ?_⟩
  have h0 := h.2 n r w a1 a2 a3 a4
  have hs : (1 <<< ((n1 - 1) * 4 + r1)).testBit ((n - 1) * 4 + r) = decide ((n1 - 1) * 4 + r1 = (n - 1) * 4 + r) := by rw [Nat.one_shiftLeft, Nat.testBit_two_pow]
  rw [hN, Nat.testBit_or, hs]
  by_cases e : n = n1 ∧ r = r1
  · obtain ⟨rfl, rfl⟩ := e
    rw [if_pos (by omega), h0, if_neg (by rw [hb]; decide), show 4 * ((n - 1) * 4 + r) + w - 4 * ((n - 1) * 4 + r) = w by omega, decide_eq_true rfl, Bool.or_true, if_pos rfl, Nat.zero_add]
  · have : ¬ ((n1 - 1) * 4 + r1 = (n - 1) * 4 + r) := by omega
    rw [if_neg (by omega), h0, decide_eq_false this, Bool.or_false]
theorem lt4_isIn {v : Int32} (h0 : ¬ v < 0) (h : v < nI 4) : isIn v (nI 0) (nI 3) = true := isIn_z2 (by decide) h0 (fun h2 => absurd h (Int32.not_lt.mpr h2))
theorem ge4_isIn {v : Int32} (h : ¬ v < nI 4) : isIn v (nI 0) (nI 3) = false := isIn_f3 (b := 3) (by decide) (Int32.not_lt.mp h)
