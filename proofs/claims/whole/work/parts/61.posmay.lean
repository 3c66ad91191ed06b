/-! ===== whom one may ring, in a position ===== -/
abbrev tkR (r t2 t3 : Nat) : Nat := if r = 2 then t2 else t3
def NB (n : Nat) (net : Nat → Nat) : Prop := ∀ p, p < n → ∀ i, (net p).testBit i = true → i < n
theorem numS_nb {n : Nat} {net : Nat → Nat} {S : Nat} (h : NB n net) (hS : ∀ i, S.testBit i = true → i < n) : ∀ k i, (numS net S k).testBit i = true → i < n
  | 0, i, hi => by simp [numS] at hi
  | k + 1, i, hi => by
    simp only [numS, Nat.testBit_or, Bool.or_eq_true] at hi
    rcases hi with hi | hi
    · exact numS_nb h hS k i hi
    · by_cases hk : S.testBit k = true
      · rw [if_pos hk, Nat.testBit_or, Nat.one_shiftLeft, Nat.testBit_two_pow] at hi
        simp only [Bool.or_eq_true, decide_eq_true_eq] at hi
        rcases hi with hi | hi
        · exact h k (hS k hk) i hi
        · rw [← hi]; exact hS k hk
      · rw [if_neg hk] at hi; simp at hi
theorem maySet_tb {net : Nat → Nat} {r st tok p : Nat} : ∀ k i, (maySet net r st tok p k).testBit i = (decide (i < k) && mayM net r st tok p i)
  | 0, i => by simp [maySet]
  | k + 1, i => by
    simp only [maySet]
    rw [Nat.testBit_or, maySet_tb k i]
    by_cases hm : mayM net r st tok p k = true
    · rw [if_pos hm, Nat.one_shiftLeft, Nat.testBit_two_pow]
      by_cases e : i = k
      · subst e; simp [hm]
      · rw [decide_eq_false (show ¬ k = i from fun h => e h.symm), Bool.or_false]; congr 1; exact decide_eq_decide.mpr (by omega)
    · rw [if_neg hm, Nat.zero_testBit, Bool.or_false]
      by_cases e : i = k
      · subst e; simp [hm]
      · congr 1; exact decide_eq_decide.mpr (by omega)
theorem wmS_tb {P oth sec : Nat} : ∀ k i, (wmS P oth sec k).testBit i = (decide (i < k) && (oth.testBit i && !decide (of4 P i = sec)))
  | 0, i => by simp [wmS]
  | k + 1, i => by
    have ih := wmS_tb (P := P) (oth := oth) (sec := sec) k i
    by_cases hm : oth.testBit k = true ∧ of4 P k ≠ sec
    · simp only [wmS]; rw [if_pos hm, Nat.testBit_or, ih, Nat.one_shiftLeft, Nat.testBit_two_pow]
      by_cases e : i = k
      · subst e; simp [hm.1, hm.2]
      · rw [decide_eq_false (show ¬ k = i from fun h => e h.symm), Bool.or_false]; congr 1; exact decide_eq_decide.mpr (by omega)
    · simp only [wmS]; rw [if_neg hm, ih]
      by_cases e : i = k
      · subst e
        rw [decide_eq_false (Nat.lt_irrefl i), decide_eq_true (Nat.lt_succ_self i), Bool.false_and, Bool.true_and]
        by_cases h1 : oth.testBit i = true
        · have h2 : of4 P i = sec := Classical.byContradiction fun h => hm ⟨h1, h⟩
          rw [h1, decide_eq_true h2]; rfl
        · rw [Bool.not_eq_true] at h1; rw [h1]; rfl
      · congr 1; exact decide_eq_decide.mpr (by omega)
theorem not_tb {x i : Nat} (hi : i < 32) : (x ^^^ 4294967295).testBit i = !x.testBit i := by
  rw [Nat.testBit_xor, show (4294967295 : Nat) = 2 ^ 32 - 1 from rfl, Nat.testBit_two_pow_sub_one, decide_eq_true hi, Bool.xor_true]
theorem Ps_hT {n : Nat} {net : Nat → Nat} {st t2 t3 P r p : Nat} (h : Ps n net st t2 t3 P) (hp : p < 4) : hT P r p = (tkR r t2 t3).testBit p := by
  unfold hT tkR
  by_cases h2 : r = 2
  · rw [if_pos h2, if_pos h2]; exact h.tk2 p hp
  · rw [if_neg h2, if_neg h2]; exact h.tk3 p hp
theorem Ps_may {n : Nat} {net : Nat → Nat} {st t2 t3 P r p : Nat} (hn : n ≤ 4) (hv : VS n st) (hb : NB n net) (h : Ps n net st t2 t3 P) (hr : r < 4) (hp : p < n) : whM P r p = maySet net r st (tkR r t2 t3) p n := by
  have hp4 : p < 4 := by omega
  refine eq4 (whM_lt (by rw [h.ps]; exact hn) r p) (maySet_lt net r st _ p n hn) (fun i hi => ?_)
  rw [maySet_tb]
  have hnum : nO P p = numO net st p := by rw [h.num p hp4, if_pos hp]
  have hlt : (numO net st p).testBit i = true → i < n := numS_nb hb (fun j hj => VS_of hn hp hv hj) 4 i
  have hoth : (nO P p &&& (1 <<< p ^^^ 4294967295)).testBit i = ((numO net st p).testBit i && !decide (p = i)) := by
    rw [Nat.testBit_and, not_tb (by omega), Nat.one_shiftLeft, Nat.testBit_two_pow, hnum]
  have ht := Ps_hT (r := r) h hp4
  unfold whM
  by_cases hT0 : (r = 2 ∨ r = 3) ∧ hT P r p = false
  · rw [if_pos hT0, Nat.zero_testBit]
    have hm : mayM net r st (tkR r t2 t3) p i = false := by
      unfold mayM
      split
      · rfl
      · split
        · rfl
        · rw [if_neg (by omega)]
          split
          · rfl
          · rw [← ht, hT0.2]; rcases hT0.1 with e | e <;> rw [e] <;> rfl
    rw [hm, Bool.and_false]
  · rw [if_neg hT0]
    by_cases h1 : r = 1
    · rw [if_pos h1, Nat.testBit_and, hoth, not_tb (by omega), h.sec p hp4]
      unfold mayM
      by_cases e : p = i
      · rw [decide_eq_true e, if_pos e]; simp
      · rw [decide_eq_false e, if_neg e]
        by_cases hN0 : (numO net st p).testBit i = false
        · rw [hN0, if_pos rfl]; simp
        · rw [if_neg hN0, if_pos h1]
          rw [Bool.not_eq_false] at hN0
          rw [hN0, decide_eq_true (hlt hN0)]; simp
    · rw [if_neg h1, wmS_tb, hoth, h.ps, h.sec p hp4, h.sec i hi]
      unfold mayM
      by_cases e : p = i
      · rw [decide_eq_true e, if_pos e]; simp
      · rw [decide_eq_false e, if_neg e]
        by_cases hN0 : (numO net st p).testBit i = false
        · rw [hN0, if_pos rfl]; simp
        · rw [if_neg hN0, if_neg h1]
          rw [Bool.not_eq_false] at hN0
          rw [hN0, decide_eq_true (hlt hN0)]
          by_cases e2 : of4 st p = of4 st i
          · rw [decide_eq_true e2.symm, if_pos e2]; rfl
          · rw [decide_eq_false (fun h => e2 h.symm), if_neg e2]
            have : (r == 0 || (tkR r t2 t3).testBit p) = true := by
              rcases (by omega : r = 0 ∨ r = 2 ∨ r = 3) with e3 | e3 | e3
              · rw [e3]; rfl
              · rw [← ht]; have h9 : ¬ hT P r p = false := fun h => hT0 ⟨Or.inl e3, h⟩
                rw [Bool.not_eq_false] at h9; rw [h9, Bool.or_true]
              · rw [← ht]; have h9 : ¬ hT P r p = false := fun h => hT0 ⟨Or.inr e3, h⟩
                rw [Bool.not_eq_false] at h9; rw [h9, Bool.or_true]
            rw [this]; rfl
