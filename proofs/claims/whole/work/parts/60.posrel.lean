/-! ===== what a position stands for ===== -/
theorem told_tb {s1 m1 : Nat} (hs : s1 < 16) (hm : m1 < 16) (i : Nat) : (s1 ||| m1 <<< 16).testBit i = if i < 4 then s1.testBit i else if 16 ≤ i ∧ i < 20 then m1.testBit (i - 16) else false := by
  have big : ∀ {x j : Nat}, x < 16 → 4 ≤ j → x.testBit j = false := fun h hj => Nat.testBit_lt_two_pow (Nat.lt_of_lt_of_le h (show 2 ^ 4 ≤ 2 ^ _ from Nat.pow_le_pow_right (by decide) hj))
  rw [Nat.testBit_or, Nat.testBit_shiftLeft]
  by_cases h1 : i < 4
  · rw [if_pos h1, decide_eq_false (by omega)]; simp
  · rw [if_neg h1, big hs (by omega)]
    by_cases h2 : 16 ≤ i ∧ i < 20
    · rw [if_pos h2, decide_eq_true h2.1]; simp
    · rw [if_neg h2]
      by_cases h3 : 16 ≤ i
      · rw [big hm (by omega)]; simp
      · rw [decide_eq_false h3]; rfl
/-- what the two tell, at one's place -/
def tS (s1 m1 p j : Nat) : Bool := if 4 * p ≤ j ∧ j < 4 * p + 4 then s1.testBit (j - 4 * p) else if 16 + 4 * p ≤ j ∧ j < 16 + 4 * p + 4 then m1.testBit (j - 16 - 4 * p) else false
theorem tS_eq {s1 m1 : Nat} (hs : s1 < 16) (hm : m1 < 16) (p j : Nat) : ((s1 ||| m1 <<< 16) <<< (4 * p)).testBit j = tS s1 m1 p j := by
  rw [Nat.testBit_shiftLeft, told_tb hs hm]
  unfold tS
  by_cases h0 : 4 * p ≤ j
  · rw [decide_eq_true (show j ≥ 4 * p from h0), Bool.true_and]
    by_cases h1 : j < 4 * p + 4
    · rw [if_pos (show j - 4 * p < 4 by omega), if_pos ⟨h0, h1⟩]
    · rw [if_neg (show ¬ (j - 4 * p < 4) by omega), if_neg (show ¬ (4 * p ≤ j ∧ j < 4 * p + 4) by omega)]
      by_cases h2 : 16 + 4 * p ≤ j ∧ j < 16 + 4 * p + 4
      · rw [if_pos (show 16 ≤ j - 4 * p ∧ j - 4 * p < 20 by omega), if_pos h2, show j - 4 * p - 16 = j - 16 - 4 * p by omega]
      · rw [if_neg (show ¬ (16 ≤ j - 4 * p ∧ j - 4 * p < 20) by omega), if_neg h2]
  · rw [decide_eq_false (show ¬ j ≥ 4 * p from h0), if_neg (show ¬ (4 * p ≤ j ∧ j < 4 * p + 4) by omega), if_neg (show ¬ (16 + 4 * p ≤ j ∧ j < 16 + 4 * p + 4) by omega)]; rfl
theorem or4 {a b : Nat} (ha : a < 16) (hb : b < 16) : a ||| b < 16 := or_lt (n := 4) ha hb
theorem m64_tb (j : Nat) : (18446744073709551615 : Nat).testBit j = decide (j < 64) := by
  rw [show (18446744073709551615 : Nat) = 2 ^ 64 - 1 from rfl, Nat.testBit_two_pow_sub_one]
theorem rng_tb (P p q : Nat) {j : Nat} (hj : j < 64) : (rng P p q).testBit j = ((P.testBit j || (tS (of4 P p ||| of4 P q) (nO P p ||| nO P q) p j || tS (of4 P p ||| of4 P q) (nO P p ||| nO P q) q j) || decide (32 + q = j)) && !(decide (32 + p = j) || decide (36 + q = j))) := by
  unfold rng tld
  rw [Nat.testBit_and, Nat.testBit_xor, m64_tb, decide_eq_true hj, Nat.testBit_or, Nat.testBit_or, Nat.testBit_or, Nat.testBit_or, tS_eq (or4 (of4_lt _ _) (of4_lt _ _)) (or4 (nO_lt _ _) (nO_lt _ _)), tS_eq (or4 (of4_lt _ _) (of4_lt _ _)) (or4 (nO_lt _ _) (nO_lt _ _)), Nat.one_shiftLeft, Nat.one_shiftLeft, Nat.one_shiftLeft, Nat.testBit_two_pow, Nat.testBit_two_pow, Nat.testBit_two_pow, Bool.xor_true]; simp only [Bool.or_assoc]
theorem rng_big (P p q : Nat) (hp : p < 4) (hq : q < 4) {j : Nat} (hj : 64 ≤ j) : (rng P p q).testBit j = false := by
  have h1 : (1 <<< (32 + p) ||| 1 <<< (36 + q)).testBit j = false := by
    rw [Nat.testBit_or, Nat.one_shiftLeft, Nat.one_shiftLeft, Nat.testBit_two_pow, Nat.testBit_two_pow, decide_eq_false (by omega), decide_eq_false (by omega)]; rfl
  unfold rng
  rw [Nat.testBit_and, Nat.testBit_xor, m64_tb, h1, decide_eq_false (by omega)]; simp
theorem nO_tb (P p i : Nat) : (nO P p).testBit i = (decide (i < 4) && P.testBit (16 + 4 * p + i)) := by
  unfold nO
  rw [Nat.testBit_and, Nat.testBit_shiftRight, show (15 : Nat) = 2 ^ 4 - 1 from rfl, Nat.testBit_two_pow_sub_one, Bool.and_comm]
theorem tb_4 {x j : Nat} (h : x < 16) (hj : 4 ≤ j) : x.testBit j = false := Nat.testBit_lt_two_pow (Nat.lt_of_lt_of_le h (show 2 ^ 4 ≤ 2 ^ _ from Nat.pow_le_pow_right (by decide) hj))
theorem eq4 {x y : Nat} (hx : x < 16) (hy : y < 16) (h : ∀ i, i < 4 → x.testBit i = y.testBit i) : x = y := Nat.eq_of_testBit_eq fun i => by
  rcases Nat.lt_or_ge i 4 with h1 | h1
  · exact h i h1
  · rw [tb_4 hx h1, tb_4 hy h1]
/-- a position: persons, secrets, numbers, tokens of rule 2 and of rule 3 -/
def Ps (n : Nat) (net : Nat → Nat) (st t2 t3 P : Nat) : Prop :=
  P < 8796093022208 ∧ pN P = n ∧ (∀ p, p < 4 → of4 P p = of4 st p) ∧ (∀ p, p < 4 → nO P p = if p < n then numO net st p else 0) ∧ (∀ p, p < 4 → P.testBit (32 + p) = t2.testBit p) ∧ (∀ p, p < 4 → P.testBit (36 + p) = t3.testBit p)
section Ps1
variable {n : Nat} {net : Nat → Nat} {st t2 t3 P : Nat}
theorem Ps.lt (h : Ps n net st t2 t3 P) : P < 8796093022208 := h.1
theorem Ps.ps (h : Ps n net st t2 t3 P) : pN P = n := h.2.1
theorem Ps.sec (h : Ps n net st t2 t3 P) : ∀ p, p < 4 → of4 P p = of4 st p := h.2.2.1
theorem Ps.num (h : Ps n net st t2 t3 P) : ∀ p, p < 4 → nO P p = if p < n then numO net st p else 0 := h.2.2.2.1
theorem Ps.tk2 (h : Ps n net st t2 t3 P) : ∀ p, p < 4 → P.testBit (32 + p) = t2.testBit p := h.2.2.2.2.1
theorem Ps.tk3 (h : Ps n net st t2 t3 P) : ∀ p, p < 4 → P.testBit (36 + p) = t3.testBit p := h.2.2.2.2.2
end Ps1
theorem of4_aft {st p q a : Nat} (hst : st < 65536) (hp : p < 4) (hq : q < 4) (ha : a < 4) : of4 (aft st p q) a = if a = p ∨ a = q then of4 st p ||| of4 st q else of4 st a := by
  refine eq4 (of4_lt _ _) (by split; exact or4 (of4_lt _ _) (of4_lt _ _); exact of4_lt _ _) (fun i hi => ?_)
  have big : ∀ z j, 4 ≤ j → (of4 st z).testBit j = false := fun z j hj => tb_4 (of4_lt _ _) hj
  have cs : ∀ z, z < 4 → (decide (4 * z ≤ 4 * a + i) && (of4 st p ||| of4 st q).testBit (4 * a + i - 4 * z)) = (decide (a = z) && (of4 st p ||| of4 st q).testBit i) := by
    intro z hz
    by_cases e : a = z
    · subst e; rw [show 4 * a + i - 4 * a = i by omega, decide_eq_true (show 4 * a ≤ 4 * a + i by omega)]; simp
    · rw [decide_eq_false e]
      by_cases h2 : 4 * z ≤ 4 * a + i
      · rw [tb_4 (or4 (of4_lt _ _) (of4_lt _ _)) (by omega)]; simp
      · rw [decide_eq_false h2]; rfl
  rw [of4_tb, aft_tb, cs p hp, cs q hq, decide_eq_true hi, Bool.true_and]
  by_cases e : a = p ∨ a = q
  · rw [if_pos e]
    have h4 : (of4 st p ||| of4 st q).testBit i = ((of4 st p).testBit i || (of4 st q).testBit i) := Nat.testBit_or _ _ _
    have h5 : st.testBit (4 * a + i) = (of4 st a).testBit i := by rw [of4_tb, decide_eq_true hi]; rfl
    rw [h5, h4]
    rcases e with e | e
    · subst e; cases (of4 st a).testBit i <;> simp
    · subst e; cases (of4 st a).testBit i <;> simp
  · rw [if_neg e, decide_eq_false (fun h => e (Or.inl h)), decide_eq_false (fun h => e (Or.inr h))]
    rw [of4_tb, decide_eq_true hi]; simp
theorem numS_or {net : Nat → Nat} {a b : Nat} : ∀ k, numS net (a ||| b) k = numS net a k ||| numS net b k
  | 0 => by simp [numS]
  | k + 1 => by
    simp only [numS]
    rw [numS_or k, Nat.testBit_or]
    have sh : ∀ x y z : Nat, (x ||| y) ||| z = (x ||| z) ||| (y ||| z) := fun x y z => Nat.eq_of_testBit_eq fun i => by
      simp only [Nat.testBit_or]; cases x.testBit i <;> cases y.testBit i <;> cases z.testBit i <;> rfl
    have s1 : ∀ x y z : Nat, (x ||| y) ||| z = (x ||| z) ||| (y ||| 0) := fun x y z => Nat.eq_of_testBit_eq fun i => by
      simp only [Nat.testBit_or, Nat.or_zero]; cases x.testBit i <;> cases y.testBit i <;> cases z.testBit i <;> rfl
    have s2 : ∀ x y z : Nat, (x ||| y) ||| z = (x ||| 0) ||| (y ||| z) := fun x y z => Nat.eq_of_testBit_eq fun i => by
      simp only [Nat.testBit_or, Nat.or_zero]; cases x.testBit i <;> cases y.testBit i <;> cases z.testBit i <;> rfl
    cases a.testBit k <;> cases b.testBit k
    · simp
    · exact s2 _ _ _
    · exact s1 _ _ _
    · exact sh _ _ _
theorem lt43 {P : Nat} (h : ∀ j, 43 ≤ j → P.testBit j = false) : P < 8796093022208 := Nat.lt_pow_two_of_testBit (n := 43) _ h
theorem tb_43 {P j : Nat} (h : P < 8796093022208) (hj : 43 ≤ j) : P.testBit j = false := Nat.testBit_lt_two_pow (Nat.lt_of_lt_of_le h (show 2 ^ 43 ≤ 2 ^ _ from Nat.pow_le_pow_right (by decide) hj))
theorem pN_tb (P i : Nat) : (pN P).testBit i = P.testBit (40 + i) := by unfold pN; rw [Nat.testBit_shiftRight]
theorem tok2_tb {t p q a : Nat} (hp : p < 4) (hq : q < 4) (ha : a < 4) : (tokA t 2 p q).testBit a = (t.testBit a && !decide (a = p) || decide (a = q)) := by
  unfold tokA
  rw [if_pos rfl, Nat.testBit_or, Nat.testBit_and, Nat.testBit_xor, show (4294967295 : Nat) = 2 ^ 32 - 1 from rfl, Nat.testBit_two_pow_sub_one, Nat.one_shiftLeft, Nat.one_shiftLeft, Nat.testBit_two_pow, Nat.testBit_two_pow, decide_eq_true (show a < 32 by omega), Bool.xor_true]
  rw [decide_eq_decide.mpr (show p = a ↔ a = p from eq_comm), decide_eq_decide.mpr (show q = a ↔ a = q from eq_comm)]
theorem tok3_tb {t p q a : Nat} (hq : q < 4) (ha : a < 4) : (tokA t 3 p q).testBit a = (t.testBit a && !decide (a = q)) := by
  unfold tokA
  rw [if_neg (by decide), if_pos rfl, Nat.testBit_and, Nat.testBit_xor, show (4294967295 : Nat) = 2 ^ 32 - 1 from rfl, Nat.testBit_two_pow_sub_one, Nat.one_shiftLeft, Nat.testBit_two_pow, decide_eq_true (show a < 32 by omega), Bool.xor_true]
  rw [decide_eq_decide.mpr (show q = a ↔ a = q from eq_comm)]
theorem rng_sec {P p q a : Nat} (hp : p < 4) (hq : q < 4) (ha : a < 4) : of4 (rng P p q) a = if a = p ∨ a = q then of4 P p ||| of4 P q else of4 P a := by
  refine eq4 (of4_lt _ _) (by split; exact or4 (of4_lt _ _) (of4_lt _ _); exact of4_lt _ _) (fun i hi => ?_)
  have cs : ∀ z, z < 4 → tS (of4 P p ||| of4 P q) (nO P p ||| nO P q) z (4 * a + i) = (decide (a = z) && (of4 P p ||| of4 P q).testBit i) := by
    intro z hz
    unfold tS
    by_cases e : a = z
    · subst e; rw [if_pos (by omega), show 4 * a + i - 4 * a = i by omega]; simp
    · rw [if_neg (by omega), if_neg (by omega), decide_eq_false e]; rfl
  rw [of4_tb, decide_eq_true hi, Bool.true_and, rng_tb P p q (by omega), cs p hp, cs q hq, decide_eq_false (show ¬ 32 + q = 4 * a + i by omega), decide_eq_false (show ¬ 32 + p = 4 * a + i by omega), decide_eq_false (show ¬ 36 + q = 4 * a + i by omega)]
  have h4 : (of4 P p ||| of4 P q).testBit i = ((of4 P p).testBit i || (of4 P q).testBit i) := Nat.testBit_or _ _ _
  have h5 : P.testBit (4 * a + i) = (of4 P a).testBit i := by rw [of4_tb, decide_eq_true hi]; rfl
  rw [h5, h4]
  by_cases e : a = p ∨ a = q
  · rw [if_pos e, h4]
    rcases e with e | e
    · subst e; cases (of4 P a).testBit i <;> simp
    · subst e; cases (of4 P a).testBit i <;> simp
  · rw [if_neg e, decide_eq_false (fun h => e (Or.inl h)), decide_eq_false (fun h => e (Or.inr h))]; simp
theorem rng_num {P p q a : Nat} (hp : p < 4) (hq : q < 4) (ha : a < 4) : nO (rng P p q) a = if a = p ∨ a = q then nO P p ||| nO P q else nO P a := by
  refine eq4 (nO_lt _ _) (by split; exact or4 (nO_lt _ _) (nO_lt _ _); exact nO_lt _ _) (fun i hi => ?_)
  have cs : ∀ z, z < 4 → tS (of4 P p ||| of4 P q) (nO P p ||| nO P q) z (16 + 4 * a + i) = (decide (a = z) && (nO P p ||| nO P q).testBit i) := by
    intro z hz
    unfold tS
    rw [if_neg (by omega)]
    by_cases e : a = z
    · subst e; rw [if_pos (by omega), show 16 + 4 * a + i - 16 - 4 * a = i by omega]; simp
    · rw [if_neg (by omega), decide_eq_false e]; rfl
  rw [nO_tb, decide_eq_true hi, Bool.true_and, rng_tb P p q (by omega), cs p hp, cs q hq, decide_eq_false (show ¬ 32 + q = 16 + 4 * a + i by omega), decide_eq_false (show ¬ 32 + p = 16 + 4 * a + i by omega), decide_eq_false (show ¬ 36 + q = 16 + 4 * a + i by omega)]
  have h4 : (nO P p ||| nO P q).testBit i = ((nO P p).testBit i || (nO P q).testBit i) := Nat.testBit_or _ _ _
  have h5 : P.testBit (16 + 4 * a + i) = (nO P a).testBit i := by rw [nO_tb, decide_eq_true hi]; rfl
  rw [h5, h4]
  by_cases e : a = p ∨ a = q
  · rw [if_pos e, h4]
    rcases e with e | e
    · subst e; cases (nO P a).testBit i <;> simp
    · subst e; cases (nO P a).testBit i <;> simp
  · rw [if_neg e, decide_eq_false (fun h => e (Or.inl h)), decide_eq_false (fun h => e (Or.inr h))]; simp
theorem tS_far {s1 m1 p j : Nat} (hp : p < 4) (hj : 32 ≤ j) : tS s1 m1 p j = false := by
  unfold tS; rw [if_neg (by omega), if_neg (by omega)]
/-- a call, in a position -/
theorem Ps_ring {n : Nat} {net : Nat → Nat} {st t2 t3 P p q : Nat} (hn : n ≤ 4) (hv : VS n st) (h : Ps n net st t2 t3 P) (hp : p < n) (hq : q < n) (hpq : p ≠ q) : Ps n net (aft st p q) (tokA t2 2 p q) (tokA t3 3 p q) (rng P p q) := by
  have hp4 : p < 4 := by omega
  have hq4 : q < 4 := by omega
  have hst := VS_lt hn hv
  refine ⟨lt43 fun j hj => ?_, ?_, fun a ha => ?_, fun a ha => ?_, fun a ha => ?_, fun a ha => ?_⟩
  · rcases Nat.lt_or_ge j 64 with h1 | h1
    · rw [rng_tb P p q h1, tb_43 h.lt hj, tS_far hp4 (by omega), tS_far hq4 (by omega), decide_eq_false (show ¬ 32 + q = j by omega)]; rfl
    · exact rng_big P p q hp4 hq4 h1
  · rw [← h.ps]
    apply Nat.eq_of_testBit_eq; intro i
    rw [pN_tb, pN_tb]
    rcases Nat.lt_or_ge (40 + i) 64 with h1 | h1
    · rw [rng_tb P p q h1, tS_far hp4 (by omega), tS_far hq4 (by omega), decide_eq_false (show ¬ 32 + q = 40 + i by omega), decide_eq_false (show ¬ 32 + p = 40 + i by omega), decide_eq_false (show ¬ 36 + q = 40 + i by omega)]; simp
    · rw [rng_big P p q hp4 hq4 h1, tb_43 h.lt (by omega)]
  · rw [rng_sec hp4 hq4 ha, of4_aft hst hp4 hq4 ha, h.sec p hp4, h.sec q hq4, h.sec a ha]
  · rw [rng_num hp4 hq4 ha, h.num p hp4, h.num q hq4, h.num a ha, if_pos hp, if_pos hq]
    show _ = if a < n then numS net (of4 (aft st p q) a) 4 else 0
    rw [of4_aft hst hp4 hq4 ha]
    by_cases e : a = p ∨ a = q
    · rw [if_pos e, if_pos e, if_pos (by omega), numS_or]
    · rw [if_neg e, if_neg e]
  · rw [rng_tb P p q (by omega), tS_far hp4 (by omega), tS_far hq4 (by omega), h.tk2 a ha, tok2_tb hp4 hq4 ha, decide_eq_decide.mpr (show 32 + q = 32 + a ↔ a = q by omega), decide_eq_decide.mpr (show 32 + p = 32 + a ↔ a = p by omega), decide_eq_false (show ¬ 36 + q = 32 + a by omega)]
    by_cases e : a = q
    · have : ¬ a = p := fun h2 => hpq (h2.symm.trans e)
      rw [decide_eq_true e, decide_eq_false this]; simp
    · rw [decide_eq_false e]; simp
  · rw [rng_tb P p q (by omega), tS_far hp4 (by omega), tS_far hq4 (by omega), h.tk3 a ha, tok3_tb hq4 ha, decide_eq_false (show ¬ 32 + q = 36 + a by omega), decide_eq_false (show ¬ 32 + p = 36 + a by omega), (decide_eq_decide.mpr (by omega) : decide (36 + q = 36 + a) = decide (a = q))]
    simp
