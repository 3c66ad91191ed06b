abbrev rX2 (E : EE) (ra : Nat → Nat) (K : Nat → Nat) (u : Nat) (Al Gd Fw Mo : Nat → Nat) : va_W := [(ra 0, .inr (4, [.ref (ra 1), .ref (ra 3), .ref (ra 4), .ref (ra 5), .ref (ra 6), .ref (ra 7)])), (ra 1, .inr (6, [.ref (ra 2), .int (nI u)])), (ra 2, .inl (E.2 2, 8192, .inr (.inl (fun j => lN (K j))))), (ra 3, .inl (E.2 2, 8192, .inr (.inl (fun j => lN (Al j))))), (ra 4, .inl (E.2 2, 8192, .inr (.inl (fun j => lN (Gd j))))), (ra 5, .inl (E.2 0, 8192, .inl (fun j => nI (Fw j)))), (ra 6, .inl (E.2 0, 8192, .inl (fun j => nI (Mo j))))]
def IPost (E : EE) (ra : Nat → Nat) (n : Nat) (net : Nat → Nat) (r o st t2 t3 u0 : Nat) (K : Nat → Nat) (u : Nat) (Al Gd Fw Mo : Nat → Nat) (v1 : Option Value) (w1 : va_W) : Prop :=
  ∃ (S : Nat) (K2 : Nat → Nat) (u2 : Nat), v1 = some (.int (bI (WP n net r o st t2 t3))) ∧ w1 = rW E ra K u Al Gd Fw Mo K2 u2 ∧ TQ n net r o u0 S K2 u2 ∧ WI K2
def IncS (l : Launch) (E : EE) (ra : Nat → Nat) (n : Nat) (net : Nat → Nat) (r o k : Nat) : Prop := ∀ (dd st t2 t3 P u0 S : Nat) (K : Nat → Nat) (u : Nat) (Al Gd Fw Mo : Nat → Nat) (K2 : Nat → Nat) (u2 sz : Nat), 0 < dd → dd + k = 14 → mis n st + dd ≤ 12 → Pst n net r o st t2 t3 P → TQ n net r o u0 S K2 u2 → WI K2 →
  Wr l yX6_include cX6_include 12 (some .boolean) (rm_X6_include_k k) 0 0 E (rW E ra K u Al Gd Fw Mo K2 u2) sz [.ref (ra 0), .long (lN P), .int (nI r), .int (nI o), .int (nI dd)] (IPost E ra n net r o st t2 t3 u0 K u Al Gd Fw Mo)
theorem inc_ok {n : Nat} {net : Nat → Nat} {r o u0 S : Nat} {K : Nat → Nat} {u st t2 t3 P : Nat} (h1 : 0 < n) (hn : n ≤ 4) (hr : r < 4) (ho : o < 4) (hm : mixR r o) (h : TQ n net r o u0 S K u) (hW : WI K) (hs : Pst n net r o st t2 t3 P) (hx : WP n net r o st t2 t3 = true) :
    ∃ S', TQ n net r o u0 S' (va_up K (slt K (keyF P r o)) (keyF P r o)) (if K (slt K (keyF P r o)) = 0 then u + 1 else u) ∧ WI (va_up K (slt K (keyF P r o)) (keyF P r o)) := by
  have hV2 := WI_put (s1 := slt K (keyF P r o)) hW hn hs.2.1 hs.2.2.1 hs.2.2.2.1 hs.1 hr ho hx
  by_cases hk : K (slt K (keyF P r o)) = keyF P r o
  · refine ⟨S, ?_, hV2⟩
    rw [up_same hk, if_neg (fun e => keyF_ne hs.1 h1 (hk.symm.trans e))]; exact h
  · obtain ⟨h0, h2⟩ := TQ_put h1 hn hr ho hm h hs hk
    refine ⟨S ||| 1 <<< plc st (tq (fR r o) t2 t3), ?_, hV2⟩
    rw [if_pos h0]; exact h2
theorem WI_at {K : Nat → Nat} {s1 n : Nat} {net : Nat → Nat} {r o st t2 t3 P : Nat} (h1 : 0 < n) (hn : n ≤ 4) (hr : r < 4) (ho : o < 4) (hm : mixR r o) (hW : WI K) (hs : s1 < 8192) (hp : Pst n net r o st t2 t3 P) (e : K s1 = keyF P r o) : WP n net r o st t2 t3 = true :=
  hW s1 hs (by rw [e]; exact keyF_ne hp.1 h1) n net st t2 t3 P r o h1 hn hp.2.1 hp.2.2.1 hp.2.2.2.1 hp.1 hr ho hm e.symm
theorem whM_may {n : Nat} {net : Nat → Nat} {st t2 t3 P r p q : Nat} (hn : n ≤ 4) (hv : VS n st) (hb : NB n net) (h : Ps n net st t2 t3 P) (hr : r < 4) (hp : p < n) (hq : q < n) : (whM P r p).testBit q = mayM net r st (tkR r t2 t3) p q := by
  rw [Ps_may hn hv hb h hr hp, maySet_tb, decide_eq_true hq, Bool.true_and]
theorem may_pq {net : Nat → Nat} {r st tok p q : Nat} (h : mayM net r st tok p q = true) : p ≠ q := by
  intro e; unfold mayM at h; rw [if_pos e] at h; cases h
