/-! ===== what a call answers, 4: runs ===== -/
/-- what questions leave as it was in the check -/
def SC (N N2 : Nat → Nat) (X X2 : Nat → Nat → Int32) (F F2 : Nat → Nat → Nat) : Prop :=
  N2 0 = N 0 ∧ N2 5 = N 5 ∧ N2 9 = N 9 ∧ X2 2 = X 2 ∧ X2 4 = X 4 ∧ F2 3 = F 3 ∧ F2 6 = F 6 ∧ F2 10 = F 10 ∧ F2 11 = F 11
theorem SC.rf {N : Nat → Nat} {X : Nat → Nat → Int32} {F : Nat → Nat → Nat} : SC N N X X F F := ⟨rfl, rfl, rfl, rfl, rfl, rfl, rfl, rfl, rfl⟩
theorem SC.tr {N N2 N3 : Nat → Nat} {X X2 X3 : Nat → Nat → Int32} {F F2 F3 : Nat → Nat → Nat} (h : SC N N2 X X2 F F2) (g : SC N2 N3 X2 X3 F2 F3) : SC N N3 X X3 F F3 := by
  obtain ⟨a1, a2, a3, a4, a5, a6, a7, a8, a9⟩ := h
  obtain ⟨b1, b2, b3, b4, b5, b6, b7, b8, b9⟩ := g
  exact ⟨b1.trans a1, b2.trans a2, b3.trans a3, b4.trans a4, b5.trans a5, b6.trans a6, b7.trans a7, b8.trans a8, b9.trans a9⟩
/-- no place was seen later than the latest turn; the other net is a net -/
def TB (N : Nat → Nat) (F : Nat → Nat → Nat) : Prop := (∀ i, F 12 i ≤ N 17) ∧ ∀ j, F 28 j < 16
theorem MOK.sc {N N2 : Nat → Nat} {X X2 : Nat → Nat → Int32} {F F2 : Nat → Nat → Nat} (h : MOK N F) (g : SC N N2 X X2 F F2) : MOK N2 F2 := by
  obtain ⟨b1, b2, b3, b4, b5, b6, b7, b8, b9⟩ := g
  obtain ⟨h1, h2, h3, h4, h5⟩ := h
  exact ⟨b2 ▸ h1, b3 ▸ h2, b8 ▸ h3, b9 ▸ h4, b7 ▸ h5⟩
/-- the calls are of persons that there are -/
def CPn (N : Nat → Nat) (F : Nat → Nat → Nat) : Prop := ∀ c, c < N 9 → F 10 c < N 5 ∧ F 11 c < N 5
theorem VS_stS {n : Nat} {cP cQ : Nat → Nat} (hn : n ≤ 4) : ∀ k, (∀ c, c < k → cP c < n ∧ cQ c < n) → VS n (stS n cP cQ k)
  | 0, _ => VS_start hn
  | k + 1, h => VS_aft hn (h k (by omega)).1 (h k (by omega)).2 (VS_stS hn k (fun c hc => h c (by omega)))
theorem LInv_new {n r t : Nat} {nt : Nat → Nat} {X : Nat → Nat → Int32} {F G : Nat → Nat → Nat} (h : ∀ i, F 12 i ≠ t) : LInv n r t nt X F G := fun st tok _ _ he => absurd he (h _)
abbrev NOW (n : Nat) (cP cQ : Nat → Nat) (k r : Nat) (net : Nat → Nat) : C4 := CN n net r (stS n cP cQ k) (tokS n r cP cQ k)
def s_runs (n k : Nat) (net cP cQ : Nat → Nat) (r what : Int32) : Int64 :=
  if isIn r (nI 0) (nI 3) = false then lN 9223372036854775808 else if isIn what (nI 0) (nI 1) = false then lN 9223372036854775808 else if n = 0 then lN 9223372036854775808 else
  if what.toNatClampNeg = 0 then lN (NOW n cP cQ k r.toNatClampNeg net).1 else lN (NOW n cP cQ k r.toNatClampNeg net).2.1
def s_verdict (n k : Nat) (net cP cQ : Nat → Nat) (r : Int32) : Int32 :=
  if isIn r (nI 0) (nI 3) = false then -1 else if n = 0 then -3 else nI (verd (NOW n cP cQ k r.toNatClampNeg net))
def s_calls (n k : Nat) (net cP cQ : Nat → Nat) (r what : Int32) : Int32 :=
  if isIn r (nI 0) (nI 3) = false then -1 else if isIn what (nI 0) (nI 1) = false then -2 else if n = 0 then -3 else
  if (NOW n cP cQ k r.toNatClampNeg net).2.1 = 0 then -9 else if what.toNatClampNeg = 0 then nI (NOW n cP cQ k r.toNatClampNeg net).2.2.1 else nI (NOW n cP cQ k r.toNatClampNeg net).2.2.2 + (-1)
def s_keeps (n k : Nat) (net cP cQ : Nat → Nat) (r pp qq : Int32) : Int32 :=
  if isIn r (nI 0) (nI 3) = false then -1 else if isP pp n = false then -1 else if isP qq n = false then -1 else if pp.toNatClampNeg = qq.toNatClampNeg then -2 else
  if mayM net r.toNatClampNeg (stS n cP cQ k) (tokS n r.toNatClampNeg cP cQ k) pp.toNatClampNeg qq.toNatClampNeg = false then -3 else
  nI (verd (CN n net r.toNatClampNeg (aft (stS n cP cQ k) pp.toNatClampNeg qq.toNatClampNeg) (tokA (tokS n r.toNatClampNeg cP cQ k) r.toNatClampNeg pp.toNatClampNeg qq.toNatClampNeg)))
/-- a pair whose child has good runs, of the fewest: whether the pair j is one -/
def bestB (n : Nat) (net : Nat → Nat) (r st tok j : Nat) : Bool := cv n net r st tok j && decide (0 < (CN n net r (nxS st j) (nxT tok r j)).2.1) && decide ((CN n net r (nxS st j) (nxT tok r j)).2.2.1 + 1 = (CN n net r st tok).2.2.1)
/-- the answer x is that of the first pair that is best, of the 16 -/
def bestR (n : Nat) (net : Nat → Nat) (r st tok what : Nat) (x : Int32) : Prop :=
  (∃ j, j < 16 ∧ bestB n net r st tok j = true ∧ (∀ i, i < j → bestB n net r st tok i = false) ∧ x = if what = 0 then nI (j / 4) else nI (j % 4)) ∨ ((∀ i, i < 16 → bestB n net r st tok i = false) ∧ x = -9)
theorem bestR_one {n : Nat} {net : Nat → Nat} {r st tok what : Nat} {x y : Int32} (h : bestR n net r st tok what x) (g : bestR n net r st tok what y) : x = y := by
  rcases h with ⟨j, a1, a2, a3, a4⟩ | ⟨a1, a2⟩ <;> rcases g with ⟨i, b1, b2, b3, b4⟩ | ⟨b1, b2⟩
  · have : j = i := by
      rcases Nat.lt_trichotomy j i with h | h | h
      · rw [b3 j h] at a2; cases a2
      · exact h
      · rw [a3 i h] at b2; cases b2
    rw [a4, b4, this]
  · rw [b1 j a1] at a2; cases a2
  · rw [a1 i b1] at b2; cases b2
  · rw [a2, b2]
/-- behind a question: the check's world, but for what questions write -/
def QP (E : EE) (ad : Nat → Nat) (tr : Int32) (N : Nat → Nat) (X : Nat → Nat → Int32) (F : Nat → Nat → Nat) (B : Nat) (w1 : va_W) : Prop := ∃ (lk2 : Nat) (N2 : Nat → Nat) (X2 : Nat → Nat → Int32) (F2 G2 : Nat → Nat → Nat), w1 = mW E ad lk2 tr N2 X2 F2 G2 ∧ SC N N2 X X2 F F2 ∧ TB N2 F2 ∧ N2 17 ≤ N 17 + B
theorem QP.rf {E : EE} {ad : Nat → Nat} {lk : Nat} {tr : Int32} {N : Nat → Nat} {X : Nat → Nat → Int32} {F G : Nat → Nat → Nat} {B : Nat} (hT : TB N F) : QP E ad tr N X F B (mW E ad lk tr N X F G) := ⟨lk, N, X, F, G, rfl, SC.rf, hT, by omega⟩
theorem SC_fr {N N2 : Nat → Nat} {X X2 : Nat → Nat → Int32} {F F2 : Nat → Nat → Nat} (hN : N2 0 = N 0 ∧ N2 5 = N 5 ∧ N2 9 = N 9) (h1 : ∀ j, j ≠ 12 → j ≠ 15 → j ≠ 18 → j ≠ 19 → j ≠ 20 → F2 j = F j) (h2 : ∀ j, j ≠ 16 → X2 j = X j) : SC N N2 X X2 F F2 :=
  ⟨hN.1, hN.2.1, hN.2.2, h2 2 (by decide), h2 4 (by decide), h1 3 (by decide) (by decide) (by decide) (by decide) (by decide), h1 6 (by decide) (by decide) (by decide) (by decide) (by decide), h1 10 (by decide) (by decide) (by decide) (by decide) (by decide), h1 11 (by decide) (by decide) (by decide) (by decide) (by decide)⟩
