abbrev rX (ra : Nat → Nat) : va_W := [(ra 0, .inr (4, [.ref (ra 1), .ref (ra 3), .ref (ra 4), .ref (ra 5), .ref (ra 6), .ref (ra 7)]))]
abbrev rY (E : EE) (ra : Nat → Nat) (Al Gd Fw Mo : Nat → Nat) (K2 : Nat → Nat) (u2 : Nat) : va_W := [(ra 3, .inl (E.2 2, 8192, .inr (.inl (fun j => lN (Al j))))), (ra 4, .inl (E.2 2, 8192, .inr (.inl (fun j => lN (Gd j))))), (ra 5, .inl (E.2 0, 8192, .inl (fun j => nI (Fw j)))), (ra 6, .inl (E.2 0, 8192, .inl (fun j => nI (Mo j)))), (ra 7, .inr (6, [.ref (ra 8), .int (nI u2)])), (ra 8, .inl (E.2 2, 8192, .inr (.inl (fun j => lN (K2 j)))))]
theorem i2b_nI : ∀ x, x < 128 → (nI x).toInt8.toInt32 = nI x := by decide +kernel
theorem up_same {K : Nat → Nat} {s1 y : Nat} (h : K s1 = y) : va_up K s1 y = K := by
  funext j; by_cases e : j = s1
  · subst e; rw [vu_s]; exact h.symm
  · rw [vu_n _ _ e]
theorem if_put {K : Nat → Nat} {y : Nat} (h : rmK K y) : (if K (slt K y) = 0 then va_up K (slt K y) y else K) = va_up K (slt K y) y := by
  split
  · rfl
  · next h0 => exact (up_same ((slt_or h).resolve_right h0)).symm
/-- a count's answer: the slot that has the key, and what the table is then -/
def CPost (E : EE) (ra : Nat → Nat) (n : Nat) (net : Nat → Nat) (r P u0 : Nat) (K2 : Nat → Nat) (u2 : Nat) (v1 : Option Value) (w1 : va_W) : Prop :=
  ∃ (s1 S : Nat) (K : Nat → Nat) (u : Nat) (Al Gd Fw Mo : Nat → Nat), v1 = some (.int (nI s1)) ∧ w1 = rW E ra K u Al Gd Fw Mo K2 u2 ∧ s1 < 8192 ∧ TQ n net r r u0 S K u ∧ VI K Al Gd Fw Mo ∧ K s1 = keyF P r r
/-- a count below the first, in a room k -/
def CntS (l : Launch) (E : EE) (ra : Nat → Nat) (n : Nat) (net : Nat → Nat) (r k : Nat) : Prop := ∀ (dd st t2 t3 P u0 S : Nat) (K : Nat → Nat) (u : Nat) (Al Gd Fw Mo : Nat → Nat) (K2 : Nat → Nat) (u2 sz : Nat), 0 < dd → dd + k = 14 → mis n st + dd ≤ 12 → Pst n net r r st t2 t3 P → TQ n net r r u0 S K u → VI K Al Gd Fw Mo →
  Wr l yX6_count cX6_count 19 (some .int) (rm_X6_count_k k) 0 0 E (rW E ra K u Al Gd Fw Mo K2 u2) sz [.ref (ra 0), .long (lN P), .int (nI r), .int (nI dd)] (CPost E ra n net r P u0 K2 u2)
/-- the table behind what a count keeps -/
theorem keep_ok {n : Nat} {net : Nat → Nat} {r u0 S : Nat} {K : Nat → Nat} {u st t2 t3 P : Nat} {Al Gd Fw Mo : Nat → Nat} {al gd fw mo : Nat} (h1 : 0 < n) (hn : n ≤ 4) (hr : r < 4) (h : TQ n net r r u0 S K u) (hV : VI K Al Gd Fw Mo) (hs : Pst n net r r st t2 t3 P) (hx : vC al gd fw mo (CN n net r st (tkR r t2 t3))) :
    ∃ S', TQ n net r r u0 S' (va_up K (slt K (keyF P r r)) (keyF P r r)) (if K (slt K (keyF P r r)) = 0 then u + 1 else u) ∧ VI (va_up K (slt K (keyF P r r)) (keyF P r r)) (va_up Al (slt K (keyF P r r)) al) (va_up Gd (slt K (keyF P r r)) gd) (va_up Fw (slt K (keyF P r r)) fw) (va_up Mo (slt K (keyF P r r)) mo) := by
  have hV2 := VI_put (s1 := slt K (keyF P r r)) hV hn hs.2.1 hs.2.2.1 hs.2.2.2.1 hs.1 hr hx
  by_cases hk : K (slt K (keyF P r r)) = keyF P r r
  · refine ⟨S, ?_, hV2⟩
    rw [up_same hk, if_neg (fun e => keyF_ne hs.1 h1 (hk.symm.trans e))]; exact h
  · obtain ⟨h0, h2⟩ := TQ_put h1 hn hr hr (fun c1 => by omega) h hs hk
    refine ⟨S ||| 1 <<< plc st (tq (fR r r) t2 t3), ?_, hV2⟩
    rw [if_pos h0]; exact h2
