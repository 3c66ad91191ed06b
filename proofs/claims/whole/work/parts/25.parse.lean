/-! ===== a text of a net, code by code ===== -/
/-- one code: whether an item is due, how many persons, the numbers of each -/
def pstep (s : Bool × Nat × (Nat → Nat)) (c : Int32) : Option (Bool × Nat × (Nat → Nat)) :=
  if s.1 = true then (if c = nI 112 then some (false, s.2.1 + 1, va_up s.2.2 s.2.1 0) else none)
  else if c = nI 59 then (if s.2.1 = 4 then none else some (true, s.2.1, s.2.2))
  else if isIn (c - nI 48) (nI 0) (nI 3) = false then none
  else if (c - nI 48).toNatClampNeg = s.2.1 - 1 then none
  else if (s.2.2 (s.2.1 - 1)).testBit (c - nI 48).toNatClampNeg = true then none
  else some (false, s.2.1, va_up s.2.2 (s.2.1 - 1) (s.2.2 (s.2.1 - 1) ||| 1 <<< (c - nI 48).toNatClampNeg))
def parse (w : Nat → Int32) : Nat → Option (Bool × Nat × (Nat → Nat))
  | 0 => some (true, 0, fun _ => 0)
  | k + 1 => (parse w k).bind (fun s => pstep s (w k))
theorem parse_s {w : Nat → Int32} {k : Nat} {s : Bool × Nat × (Nat → Nat)} (h : parse w k = some s) : parse w (k + 1) = pstep s (w k) := by
  simp only [parse, h, Option.bind]
theorem parse_none {w : Nat → Int32} {k : Nat} (h : parse w k = none) : ∀ j, k ≤ j → parse w j = none := by
  intro j hj
  induction hj with
  | refl => exact h
  | step _ ih => simp only [parse, ih, Option.bind]
/-- the first fault stands at r -/
def faultAt (w : Nat → Int32) (n r : Nat) : Prop :=
  (r < n ∧ (∃ s, parse w r = some s) ∧ parse w (r + 1) = none) ∨ (r = n ∧ ∃ per num, parse w n = some (true, per, num)) ∨
  (∃ per num, parse w n = some (false, per, num) ∧ r < n ∧ isIn (w r - nI 48) (nI per) (nI 3) = true ∧ ∀ k, k < r → isIn (w k - nI 48) (nI per) (nI 3) = false)
def noFault (w : Nat → Int32) (n per : Nat) (num : Nat → Nat) : Prop := parse w n = some (false, per, num) ∧ ∀ k, k < n → isIn (w k - nI 48) (nI per) (nI 3) = false
theorem faultAt_one {w : Nat → Int32} {n r r2 : Nat} (h : faultAt w n r) (h2 : faultAt w n r2) : r = r2 := by
  have key : ∀ {a b : Nat}, (∃ s, parse w a = some s) → parse w (b + 1) = none → a ≤ b := fun {a b} h1 h2 => by
    rcases Nat.lt_or_ge b a with h3 | h3
    · obtain ⟨s, hs⟩ := h1
      rw [parse_none h2 a h3] at hs; cases hs
    · exact h3
  rcases h with ⟨h1, h3, h4⟩ | ⟨h1, p1, m1, h3⟩ | ⟨p1, m1, h3, h4, h5, h6⟩ <;> rcases h2 with ⟨g1, g3, g4⟩ | ⟨g1, p2, m2, g3⟩ | ⟨p2, m2, g3, g4, g5, g6⟩
  · have := key h3 g4; have := key g3 h4; omega
  · rw [parse_none h4 n (by omega)] at g3; cases g3
  · rw [parse_none h4 n (by omega)] at g3; cases g3
  · rw [parse_none g4 n (by omega)] at h3; cases h3
  · omega
  · rw [h3] at g3; cases g3
  · rw [parse_none g4 n (by omega)] at h3; cases h3
  · rw [h3] at g3; cases g3
  · rw [h3] at g3; cases g3
    rcases Nat.lt_trichotomy r r2 with h7 | h7 | h7
    · rw [g6 r h7] at h5; cases h5
    · exact h7
    · rw [h6 r2 h7] at g5; cases g5
theorem fault_no {w : Nat → Int32} {n r per : Nat} {num : Nat → Nat} (h : faultAt w n r) (h2 : noFault w n per num) : False := by
  obtain ⟨g1, g2⟩ := h2
  rcases h with ⟨h1, h3, h4⟩ | ⟨h1, p1, m1, h3⟩ | ⟨p1, m1, h3, h4, h5, h6⟩
  · rw [parse_none h4 n (by omega)] at g1; cases g1
  · rw [h3] at g1; cases g1
  · rw [h3] at g1; cases g1
    rw [g2 r h4] at h5; cases h5
theorem noFault_one {w : Nat → Int32} {n per per2 : Nat} {num num2 : Nat → Nat} (h : noFault w n per num) (h2 : noFault w n per2 num2) : per = per2 ∧ num = num2 := by
  have := h.1.symm.trans h2.1
  cases this; exact ⟨rfl, rfl⟩
/-- what holds of a text's reading at any place -/
theorem parse_ok {w : Nat → Int32} : ∀ {k : Nat} {d : Bool} {per : Nat} {num : Nat → Nat}, parse w k = some (d, per, num) → per ≤ 4 ∧ (d = true → per ≤ 3) ∧ (d = false → 0 < per) ∧ (∀ p, num p < 16) ∧ (∀ p, (num p).testBit p = false) ∧ (∀ p, per ≤ p → num p = 0)
  | 0, d, per, num, h => by
    cases h
    refine ⟨by omega, fun _ => by omega, fun h => (by cases h), fun p => (by show 0 < 16; decide), fun p => (by simp), fun p _ => rfl⟩
  | k + 1, d, per, num, h => by
    cases hk : parse w k with
    | none => rw [parse_none hk (k + 1) (by omega)] at h; cases h
    | some s =>
      obtain ⟨d0, per0, num0⟩ := s
      rw [parse_s hk] at h
      obtain ⟨h1, h2, h3, h4, h5, h6⟩ := parse_ok hk
      unfold pstep at h
      dsimp only at h
      by_cases hd : d0 = true
      · rw [if_pos hd] at h
        by_cases hc : w k = nI 112
        · rw [if_pos hc] at h
          cases h
          have := h2 hd
          refine ⟨by omega, fun h => (by cases h), fun _ => by omega, fun p => ?_, fun p => ?_, fun p hp => ?_⟩
          · unfold va_up; split
            · decide
            · exact h4 p
          · unfold va_up; split
            · simp
            · exact h5 p
          · unfold va_up; rw [if_neg (by omega)]; exact h6 p (by omega)
        · rw [if_neg hc] at h; cases h
      · rw [if_neg hd] at h
        have hd0 : d0 = false := by cases d0; rfl; exact absurd rfl hd
        have hpos := h3 hd0
        by_cases hc : w k = nI 59
        · rw [if_pos hc] at h
          by_cases hp : per0 = 4
          · rw [if_pos hp] at h; cases h
          · rw [if_neg hp] at h
            cases h
            exact ⟨h1, fun _ => by omega, fun h => (by cases h), h4, h5, h6⟩
        · rw [if_neg hc] at h
          by_cases hi : isIn (w k - nI 48) (nI 0) (nI 3) = false
          · rw [if_pos hi] at h; cases h
          · rw [if_neg hi] at h
            obtain ⟨q, hq, hqe⟩ := isIn_nat (by decide) (ne_false_of_eq_true (by cases hh : isIn (w k - nI 48) (nI 0) (nI 3); exact absurd hh hi; rfl) |> fun h => (by cases hh : isIn (w k - nI 48) (nI 0) (nI 3); exact absurd hh hi; rfl : isIn (w k - nI 48) (nI 0) (nI 3) = true))
            rw [hqe, nI_clamp (by omega)] at h
            by_cases hq1 : q = per0 - 1
            · rw [if_pos hq1] at h; cases h
            · rw [if_neg hq1] at h
              by_cases hq2 : (num0 (per0 - 1)).testBit q = true
              · rw [if_pos hq2] at h; cases h
              · rw [if_neg hq2] at h
                cases h
                refine ⟨h1, fun h => (by cases h), fun _ => hpos, fun p => ?_, fun p => ?_, fun p hp => ?_⟩
                · unfold va_up; split
                  · exact or_lt (n := 4) (h4 _) (one_shl (by omega))
                  · exact h4 p
                · unfold va_up; split
                  · rename_i hpe
                    rw [Nat.testBit_or, hpe, h5]
                    simp only [Bool.false_or]
                    rw [Nat.one_shiftLeft, Nat.testBit_two_pow]
                    simp; omega
                  · exact h5 p
                · unfold va_up; rw [if_neg (by omega)]; exact h6 p hp
section PS
variable {per q : Nat} {num : Nat → Nat} {c : Int32}
theorem pstep_p (h : c = nI 112) : pstep (true, per, num) c = some (false, per + 1, va_up num per 0) := by
  unfold pstep; rw [if_pos rfl, if_pos h]
theorem pstep_np (h : ¬ c = nI 112) : pstep (true, per, num) c = none := by
  unfold pstep; rw [if_pos rfl, if_neg h]
theorem pstep_semi (h : c = nI 59) (h4 : per ≠ 4) : pstep (false, per, num) c = some (true, per, num) := by
  unfold pstep; rw [if_neg (by simp), if_pos h, if_neg h4]
theorem pstep_semi4 (h : c = nI 59) (h4 : per = 4) : pstep (false, per, num) c = none := by
  unfold pstep; rw [if_neg (by simp), if_pos h, if_pos h4]
theorem pstep_bad (h : ¬ c = nI 59) (h2 : isIn (c - nI 48) (nI 0) (nI 3) = false) : pstep (false, per, num) c = none := by
  unfold pstep; rw [if_neg (by simp), if_neg h, if_pos h2]
theorem pstep_own (h : ¬ c = nI 59) (hq : c - nI 48 = nI q) (hq3 : q ≤ 3) (ho : q = per) : pstep (false, per + 1, num) c = none := by
  unfold pstep; rw [if_neg (by simp), if_neg h, hq, nat_isIn (by decide) hq3, if_neg (by decide), nI_clamp (by omega), if_pos (show q = per + 1 - 1 by omega)]
theorem pstep_twice (h : ¬ c = nI 59) (hq : c - nI 48 = nI q) (hq3 : q ≤ 3) (ho : q ≠ per) (ht : (num per).testBit q = true) : pstep (false, per + 1, num) c = none := by
  unfold pstep; rw [if_neg (by simp), if_neg h, hq, nat_isIn (by decide) hq3, if_neg (by decide), nI_clamp (by omega), if_neg (show ¬ q = per + 1 - 1 by omega), if_pos (show (num (per + 1 - 1)).testBit q = true from ht)]
theorem pstep_take (h : ¬ c = nI 59) (hq : c - nI 48 = nI q) (hq3 : q ≤ 3) (ho : q ≠ per) (ht : (num per).testBit q = false) : pstep (false, per + 1, num) c = some (false, per + 1, va_up num per (num per ||| 1 <<< q)) := by
  unfold pstep; rw [if_neg (by simp), if_neg h, hq, nat_isIn (by decide) hq3, if_neg (by decide), nI_clamp (by omega), if_neg (show ¬ q = per + 1 - 1 by omega), if_neg (show ¬ (num (per + 1 - 1)).testBit q = true by rw [show per + 1 - 1 = per by omega, ht]; decide)]; rfl
end PS
