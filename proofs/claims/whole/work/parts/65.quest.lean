/-! ===== a question's keys ===== -/
def fR (r o : Nat) : Nat := if r = 2 ∨ o = 2 then 2 else if r = 3 ∨ o = 3 then 3 else 0
def tq (f t2 t3 : Nat) : Nat := if f = 2 then t2 else if f = 3 then t3 else 0
theorem fR_or (r o : Nat) : fR r o = 0 ∨ fR r o = 2 ∨ fR r o = 3 := by
  unfold fR; split
  · exact Or.inr (Or.inl rfl)
  · split
    · exact Or.inr (Or.inr rfl)
    · exact Or.inl rfl
theorem tq_lt {f t2 t3 : Nat} (h2 : t2 < 16) (h3 : t3 < 16) : tq f t2 t3 < 16 := by
  unfold tq; split
  · exact h2
  · split
    · exact h3
    · decide
theorem tq_aft {f t2 t3 p q : Nat} (hf : f = 0 ∨ f = 2 ∨ f = 3) : tq f (tokA t2 2 p q) (tokA t3 3 p q) = tokA (tq f t2 t3) f p q := by
  rcases hf with rfl | rfl | rfl <;> rfl
theorem Ps_tb {n : Nat} {net : Nat → Nat} {st t2 t3 P : Nat} (h : Ps n net st t2 t3 P) : (∀ j, j < 16 → P.testBit j = (of4 st (j / 4)).testBit (j % 4)) ∧ (∀ j, j < 16 → P.testBit (16 + j) = (if j / 4 < n then numO net st (j / 4) else 0).testBit (j % 4)) := by
  refine ⟨fun j hj => ?_, fun j hj => ?_⟩
  · rw [← h.sec (j / 4) (by omega), of4_tb, decide_eq_true (by omega), Bool.true_and, show 4 * (j / 4) + j % 4 = j by omega]
  · rw [← h.num (j / 4) (by omega), nO_tb, decide_eq_true (by omega), Bool.true_and, show 16 + 4 * (j / 4) + j % 4 = 16 + j by omega]
/-- the same state, the same key -/
theorem key_same {n : Nat} {net : Nat → Nat} {st t2 t3 u2 u3 P P' r o : Nat} (h : Ps n net st t2 t3 P) (h' : Ps n net st u2 u3 P') (h2 : (r = 2 ∨ o = 2) → t2 = u2) (h3 : (r = 3 ∨ o = 3) → t3 = u3) : keyF P r o = keyF P' r o := by
  rw [keyF_add h.lt, keyF_add h'.lt]
  have : kF2 (kF1 P r o) r o = kF2 (kF1 P' r o) r o := by
    apply Nat.eq_of_testBit_eq; intro j
    rcases Nat.lt_or_ge j 43 with hj | hj
    · rw [kF2_tb (by omega), kF2_tb (by omega), kF1_tb (by omega), kF1_tb (by omega)]
      rcases (by omega : j < 16 ∨ (16 ≤ j ∧ j < 32) ∨ (32 ≤ j ∧ j < 36) ∨ (36 ≤ j ∧ j < 40) ∨ 40 ≤ j) with c1 | c1 | c1 | c1 | c1
      · rw [(Ps_tb h).1 j c1, (Ps_tb h').1 j c1]
      · rw [show j = 16 + (j - 16) by omega, (Ps_tb h).2 _ (by omega), (Ps_tb h').2 _ (by omega)]
      · by_cases c2 : r = 2 ∨ o = 2
        · rw [show j = 32 + (j - 32) by omega, h.tk2 _ (by omega), h'.tk2 _ (by omega), h2 c2]
        · rw [decide_eq_false c2, decide_eq_true c1.1, decide_eq_true c1.2]; simp
      · by_cases c2 : r = 3 ∨ o = 3
        · rw [show j = 36 + (j - 36) by omega, h.tk3 _ (by omega), h'.tk3 _ (by omega), h3 c2]
        · rw [decide_eq_false c2, decide_eq_true c1.1, decide_eq_true c1.2]; simp
      · rw [show j = 40 + (j - 40) by omega, ← pN_tb, ← pN_tb, h.ps, h'.ps]
    · rw [Nat.testBit_lt_two_pow (Nat.lt_of_lt_of_le (kF_lt h.lt r o) (Nat.pow_le_pow_right (by decide) hj)), Nat.testBit_lt_two_pow (Nat.lt_of_lt_of_le (kF_lt h'.lt r o) (Nat.pow_le_pow_right (by decide) hj))]
  rw [this]
def mixR (r o : Nat) : Prop := ¬ ((r = 2 ∨ o = 2) ∧ (r = 3 ∨ o = 3))
/-- a state that a question may come to -/
def Pst (n : Nat) (net : Nat → Nat) (r o st t2 t3 P : Nat) : Prop := Ps n net st t2 t3 P ∧ VS n st ∧ t2 < 16 ∧ t3 < 16 ∧ Rc n (fR r o) st (tq (fR r o) t2 t3)
/-- the table while a question is answered: u0 keys were there, the places S are new -/
def TQ (n : Nat) (net : Nat → Nat) (r o u0 S : Nat) (K : Nat → Nat) (u : Nat) : Prop :=
  (∀ j, K j < 2 ^ 63) ∧ TI K ∧ nz K ≤ u ∧ u ≤ u0 + bitsN S 65536 ∧ u0 ≤ 6144 ∧ (∀ i, S.testBit i = true → (CLb n (fR r o)).testBit i = true) ∧
  (∀ pl, S.testBit pl = true → ∃ st t2 t3 P, Pst n net r o st t2 t3 P ∧ plc st (tq (fR r o) t2 t3) = pl ∧ ∃ j, j < 8192 ∧ K j = keyF P r o)
theorem TQ_u {n : Nat} {net : Nat → Nat} {r o u0 S : Nat} {K : Nat → Nat} {u : Nat} (h1 : 0 < n) (hn : n ≤ 4) (h : TQ n net r o u0 S K u) : u ≤ 7685 := by
  have := S_le h1 hn (fR_or r o) h.2.2.2.2.2.1
  have := h.2.2.2.1
  have := h.2.2.2.2.1
  omega
theorem TQ_room {n : Nat} {net : Nat → Nat} {r o u0 S : Nat} {K : Nat → Nat} {u : Nat} (h1 : 0 < n) (hn : n ≤ 4) (h : TQ n net r o u0 S K u) (y : Nat) : rmK K y := by
  have := TQ_u h1 hn h
  have := h.2.2.1
  exact nz_free (by omega) y
theorem TQ_new {n : Nat} {net : Nat → Nat} {r o u : Nat} {K : Nat → Nat} (hK : ∀ j, K j < 2 ^ 63) (hT : TI K) (hu : nz K ≤ u) (h6 : u ≤ 6144) : TQ n net r o u 0 K u :=
  ⟨hK, hT, hu, Nat.le_add_right _ _, h6, fun i hi => by simp at hi, fun i hi => by simp at hi⟩
theorem TQ_put {n : Nat} {net : Nat → Nat} {r o u0 S : Nat} {K : Nat → Nat} {u st t2 t3 P : Nat} (h1 : 0 < n) (hn : n ≤ 4) (hr : r < 4) (ho : o < 4) (hm : mixR r o) (h : TQ n net r o u0 S K u) (hs : Pst n net r o st t2 t3 P) (hk : K (slt K (keyF P r o)) ≠ keyF P r o) :
    K (slt K (keyF P r o)) = 0 ∧ TQ n net r o u0 (S ||| 1 <<< plc st (tq (fR r o) t2 t3)) (va_up K (slt K (keyF P r o)) (keyF P r o)) (u + 1) := by
  have hrm := TQ_room h1 hn h (keyF P r o)
  have h0 : K (slt K (keyF P r o)) = 0 := (slt_or hrm).resolve_left hk
  have hne : keyF P r o ≠ 0 := keyF_ne hs.1 h1
  obtain ⟨q1, q2, q3, q4, q5, q6, q7⟩ := h
  have hpl : S.testBit (plc st (tq (fR r o) t2 t3)) = false := by
    cases hb : S.testBit (plc st (tq (fR r o) t2 t3)) with
    | false => rfl
    | true =>
      obtain ⟨st', t2', t3', P', hs', e1, j, hj, e2⟩ := q7 _ hb
      obtain ⟨e3, e4⟩ := plc_inj hn hs'.2.1 hs.2.1 (tq_lt hs'.2.2.1 hs'.2.2.2.1) (tq_lt hs.2.2.1 hs.2.2.2.1) e1
      subst e3
      have ek : keyF P r o = keyF P' r o := key_same hs.1 hs'.1 (fun c1 => by
          have : fR r o = 2 := by unfold fR; rw [if_pos c1]
          rw [this] at e4; exact e4.symm) (fun c1 => by
          have : fR r o = 3 := by unfold fR; rw [if_neg (fun c2 => hm ⟨c2, c1⟩), if_pos c1]
          rw [this] at e4; exact e4.symm)
      rw [← ek] at e2
      rw [TI_has q2 hj hne e2, e2] at hk
      exact absurd rfl hk
  have hcl : (CLb n (fR r o)).testBit (plc st (tq (fR r o) t2 t3)) = true := hs.2.2.2.2
  refine ⟨h0, fun j => ?_, TI_put q2 hrm h0, ?_, ?_, q5, fun i hi => ?_, fun pl hp => ?_⟩
  · by_cases e : j = slt K (keyF P r o)
    · rw [e, vu_s]; have := keyF_lt hs.1.lt hr ho; omega
    · rw [vu_n _ _ e]; exact q1 j
  · rw [nz_put h0 hne (slt_lt _ _)]; omega
  · rw [bits_put hpl, if_pos (plc_lt _ _)]; omega
  · rw [Nat.testBit_or, Nat.one_shiftLeft, Nat.testBit_two_pow, Bool.or_eq_true] at hi
    rcases hi with hi | hi
    · exact q6 i hi
    · rw [← of_decide_eq_true hi]; exact hcl
  · rw [Nat.testBit_or, Nat.one_shiftLeft, Nat.testBit_two_pow, Bool.or_eq_true] at hp
    rcases hp with hp | hp
    · obtain ⟨st', t2', t3', P', hs', e1, j, hj, e2⟩ := q7 pl hp
      refine ⟨st', t2', t3', P', hs', e1, j, hj, ?_⟩
      rw [vu_n _ _ (fun e => ?_)]
      · exact e2
      · rw [e] at e2; rw [h0] at e2; exact keyF_ne hs'.1 h1 e2.symm
    · exact ⟨st, t2, t3, P, hs, of_decide_eq_true hp, slt K (keyF P r o), slt_lt _ _, vu_s _ _ _⟩
theorem Pst_ring {n : Nat} {net : Nat → Nat} {r o st t2 t3 P p q : Nat} (hn : n ≤ 4) (h : Pst n net r o st t2 t3 P) (hp : p < n) (hq : q < n) (hpq : p ≠ q) : Pst n net r o (aft st p q) (tokA t2 2 p q) (tokA t3 3 p q) (rng P p q) := by
  obtain ⟨a, b, c1, d, f1⟩ := h
  refine ⟨Ps_ring hn b a hp hq hpq, VS_aft hn hp hq b, tokA_lt c1 (by omega), tokA_lt d (by omega), ?_⟩
  rw [tq_aft (fR_or r o)]
  exact Rc_aft hn (fR_or r o) b (tq_lt c1 d) hp hq hpq f1
