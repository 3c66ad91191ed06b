/-- a text being read: the reader and the sheet -/
def rdW (E : EE) (to pe nu so sa : Nat) (ln : Int32) (L : Nat) (C : Nat → Int32) : va_W := [(to, .inr (2, [.int (nI pe), .int (nI nu)])), (so, .inr (5, [.int ln, .ref sa])), (sa, .inl (E.2 1, L, .inl C))]
theorem prt_tb (x p i : Nat) : (prt x p).testBit i = (decide (i < 4) && x.testBit (4 * p + i)) := of4_tb x p i
theorem NX_0 (num : Nat → Nat) : NX 0 num 0 := ⟨by decide, fun p _ => by rw [if_neg (by omega)]; unfold prt; simp⟩
theorem prt_set {x a b p : Nat} (ha : a < 4) (hb : b < 4) (hp : p < 4) : prt (x ||| 1 <<< (4 * a + b)) p = if p = a then prt x p ||| 1 <<< b else prt x p := by
  have h1b : 1 <<< b < 16 := one_shl (n := 4) hb
  refine eq4 (prt_lt _ _) (by split; exact or4 (prt_lt _ _) h1b; exact prt_lt _ _) (fun i hi => ?_)
  rw [prt_tb, decide_eq_true hi, Bool.true_and, Nat.testBit_or, Nat.one_shiftLeft, Nat.testBit_two_pow]
  by_cases e : p = a
  · rw [if_pos e, Nat.testBit_or, prt_tb, decide_eq_true hi, Bool.true_and, Nat.one_shiftLeft, Nat.testBit_two_pow, decide_eq_decide.mpr (show 4 * a + b = 4 * p + i ↔ b = i by omega)]
  · rw [if_neg e, prt_tb, decide_eq_true hi, Bool.true_and, decide_eq_false (show ¬ 4 * a + b = 4 * p + i by omega), Bool.or_false]
theorem or_c (a b : Nat) : a ||| b = b ||| a := Nat.or_comm a b
/-- a new person -/
theorem NX_item {pe nu : Nat} {num : Nat → Nat} (hp : pe < 4) (h : NX pe num nu) : NX (pe + 1) (va_up num pe 0) (nu ||| 1 <<< (4 * pe + pe)) := by
  refine ⟨or_lt (n := 16) h.1 (one_shl (by omega)), fun p hp4 => ?_⟩
  rw [prt_set hp hp hp4, h.2 p hp4]
  by_cases e : p = pe
  · subst e; rw [if_pos rfl, if_neg (Nat.lt_irrefl p), if_pos (Nat.lt_succ_self p), vu_s]
  · rw [if_neg e, vu_n _ _ e]
    by_cases h1 : p < pe
    · rw [if_pos h1, if_pos (by omega)]
    · rw [if_neg h1, if_neg (by omega)]
/-- a number taken -/
theorem NX_num {pe nu q : Nat} {num : Nat → Nat} (hp : pe < 4) (hq : q < 4) (h : NX (pe + 1) num nu) : NX (pe + 1) (va_up num pe (num pe ||| 1 <<< q)) (nu ||| 1 <<< (4 * pe + q)) := by
  refine ⟨or_lt (n := 16) h.1 (one_shl (by omega)), fun p hp4 => ?_⟩
  rw [prt_set hp hq hp4, h.2 p hp4]
  by_cases e : p = pe
  · subst e; rw [if_pos rfl, if_pos (Nat.lt_succ_self p), vu_s, Nat.or_assoc, Nat.or_assoc, or_c (1 <<< p), if_pos (Nat.lt_succ_self p)]
  · rw [if_neg e, vu_n _ _ e]
theorem NX_tb {pe nu q : Nat} {num : Nat → Nat} (hp : pe < 4) (hq : q < 4) (h : NX (pe + 1) num nu) : nu.testBit (4 * pe + q) = ((num pe).testBit q || decide (pe = q)) := by
  have h1 := congrArg (fun z => z.testBit q) (h.2 pe hp)
  simp only [prt_tb, decide_eq_true hq, Bool.true_and, if_pos (Nat.lt_succ_self pe)] at h1
  rw [h1, Nat.testBit_or, Nat.one_shiftLeft, Nat.testBit_two_pow]
