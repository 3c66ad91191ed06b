/-! ===== the object and its counts of runs ===== -/
def orW (E : EE) (ca ra : Nat → Nat) (ao : Nat) (C : Nat → Nat) (K : Nat → Nat) (u : Nat) (Al Gd Fw Mo : Nat → Nat) (K2 : Nat → Nat) (u2 : Nat) : va_W := oC ca ra ao C :: rW E ra K u Al Gd Fw Mo K2 u2
def ORP (E : EE) (ca ra : Nat → Nat) (ao : Nat) (C : Nat → Nat) (K2 : Nat → Nat) (u2 : Nat) (w1 : va_W) : Prop := ∃ (K : Nat → Nat) (u : Nat) (Al Gd Fw Mo : Nat → Nat), w1 = orW E ca ra ao C K u Al Gd Fw Mo K2 u2 ∧ TBt K u ∧ VI K Al Gd Fw Mo
theorem CS.keep {n k : Nat} {net : Nat → Nat} {Z : Nat → Nat → Nat} {C : Nat → Nat} (h : CS n k net Z C) {r p q : Nat} (hr : r < 4) (hp : p < n) (hq : q < n) : CN n net r (aft (stS n (Z 2) (Z 3) k) p q) (tkR r (tokA (tokS n 2 (Z 2) (Z 3) k) 2 p q) (tokA (tokS n 3 (Z 2) (Z 3) k) 3 p q)) = CN n net r (aft (stS n (Z 2) (Z 3) k) p q) (tokA (tokS n r (Z 2) (Z 3) k) r p q) := CN_num h.n4 (VS_aft h.n4 hp hq (h.vs k (Nat.le_refl k))) (fun _ _ => rfl) (fun h2 => by
  rcases (by omega : r = 2 ∨ r = 3) with e | e <;> subst e <;> rfl)
theorem calls_ok {n : Nat} {net : Nat → Nat} {r st tok : Nat} : mosT (CN n net r st tok) = if (CN n net r st tok).2.1 = 0 then -9 else nI (CN n net r st tok).2.2.2 + (-1) := by
  unfold mosT
  by_cases h : (CN n net r st tok).2.1 = 0
  · rw [if_pos h, if_pos h]
  · rw [if_neg h, if_neg h]
    exact (sb_m1 (CN_fm (by omega)).2.1).symm
theorem best_tk {n : Nat} {net : Nat → Nat} {r st tok tk' j : Nat} (hn : n ≤ 4) (hv : VS n st) (ht : 2 ≤ r → tok = tk') : bestB n net r st tok j = bestB n net r st tk' j := by
  unfold bestB
  have hcv : cv n net r st tok j = cv n net r st tk' j := by unfold cv; rw [may_num (n := n) rfl ht]
  rw [hcv]
  cases hc : cv n net r st tk' j with
  | false => rfl
  | true =>
    have ok := cv_ok hn hv hc
    rw [CN_num (tok := nxT tok r j) (tk' := nxT tk' r j) hn ok.2.2.2.1 (fun _ _ => rfl) (fun h2 => by rw [ht h2]), CN_num (tok := tok) (tk' := tk') hn hv (fun _ _ => rfl) ht]
/-- the answer to: the best call -/
def bestP (n k : Nat) (net cP cQ : Nat → Nat) (a1 a2 v : Int32) : Prop :=
  if isIn a1 (nI 0) (nI 3) = false then v = -1 else if isIn a2 (nI 0) (nI 1) = false then v = -2 else if n = 0 then v = -3 else bestR n net a1.toNatClampNeg (stS n cP cQ k) (tokS n a1.toNatClampNeg cP cQ k) a2.toNatClampNeg v
theorem bestP_one {n k : Nat} {net cP cQ : Nat → Nat} {a1 a2 v w : Int32} (h : bestP n k net cP cQ a1 a2 v) (g : bestP n k net cP cQ a1 a2 w) : v = w := by
  unfold bestP at h g
  split at h
  · rw [if_pos (by assumption)] at g; rw [h, g]
  · rw [if_neg (by assumption)] at g
    split at h
    · rw [if_pos (by assumption)] at g; rw [h, g]
    · rw [if_neg (by assumption)] at g
      split at h
      · rw [if_pos (by assumption)] at g; rw [h, g]
      · rw [if_neg (by assumption)] at g
        exact bestR_one h g
theorem best_no {n : Nat} {net : Nat → Nat} {r st tok what : Nat} (hn : n ≤ 4) (hv : VS n st) (h : (CN n net r st tok).2.1 = 0) : bestR n net r st tok what (-9) := Or.inr ⟨fun i hi => by
  cases hb : bestB n net r st tok i with
  | false => rfl
  | true => exact absurd (best_good hn hv hi hb).1 (by omega), rfl⟩
theorem best_of {n : Nat} {net : Nat → Nat} {r st tok tk' what j : Nat} {v : Int32} (hn : n ≤ 4) (hv : VS n st) (ht : 2 ≤ r → tok = tk') (hj : j < 16) (h1 : bestB n net r st tok j = true) (h2 : ∀ i, i < j → bestB n net r st tok i = false) (hw : what ≤ 1) (h3 : what = 0 → v = nI (j >>> 2)) (h4 : what ≠ 0 → v = nI (j &&& 3)) : bestR n net r st tk' what v := by
  refine Or.inl ⟨j, hj, by rw [← best_tk hn hv ht]; exact h1, fun i hi => by rw [← best_tk hn hv ht]; exact h2 i hi, ?_⟩
  by_cases h0 : what = 0
  · rw [if_pos h0, h3 h0, Nat.shiftRight_eq_div_pow]
  · rw [if_neg h0, h4 h0, show (3 : Nat) = 2 ^ 2 - 1 from rfl, Nat.and_two_pow_sub_one_eq_mod]
theorem tk_of {n r k : Nat} {cP cQ : Nat → Nat} (hr : r < 4) : 2 ≤ r → tkR r (tokS n 2 cP cQ k) (tokS n 3 cP cQ k) = tokS n r cP cQ k := fun h2 => by
  rcases (by omega : r = 2 ∨ r = 3) with e | e <;> subst e <;> rfl
theorem nI_m9 {k : Nat} (h : k < 2 ^ 31) : nI k ≠ -9 := fun e => by
  have := congrArg Int32.toInt e
  rw [nI_toInt h, show (-9 : Int32).toInt = -9 by decide] at this; omega
theorem calls_few {x : C4} {w : Nat} {y : Int32} (h : w = 0) : fewT x = if x.2.1 = 0 then -9 else if w = 0 then nI x.2.2.1 else y := by rw [if_pos h]; rfl
theorem calls_mos {n : Nat} {net : Nat → Nat} {r st tok w : Nat} {y : Int32} (h : ¬ w = 0) : mosT (CN n net r st tok) = if (CN n net r st tok).2.1 = 0 then -9 else if w = 0 then y else nI (CN n net r st tok).2.2.2 + (-1) := by rw [if_neg h]; exact calls_ok
