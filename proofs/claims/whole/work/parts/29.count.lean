/-! ===== all runs of a rule: how many, how many good, the fewest, the most ===== -/
/-- pairs are numbered 0 .. 15: who rings, who is rung -/
def cv (n : Nat) (net : Nat → Nat) (r st tok k : Nat) : Bool := decide (k / 4 < n) && decide (k % 4 < n) && mayM net r st tok (k / 4) (k % 4)
abbrev nxS (st k : Nat) : Nat := aft st (k / 4) (k % 4)
abbrev nxT (tok r k : Nat) : Nat := tokA tok r (k / 4) (k % 4)
abbrev C4 : Type := Nat × Nat × Nat × Nat
/-- a child's numbers added: all, good, fewest (1000: none), most and one (0: none) -/
def addC (x y : C4) : C4 := (x.1 + y.1, x.2.1 + y.2.1, (if 0 < y.2.1 then (if y.2.2.1 + 1 < x.2.2.1 then y.2.2.1 + 1 else x.2.2.1) else x.2.2.1), (if 0 < y.2.1 then (if x.2.2.2 < y.2.2.2 + 1 then y.2.2.2 + 1 else x.2.2.2) else x.2.2.2))
def leafC (e : Bool) : C4 := (1, (if e then 1 else 0), (if e then 0 else 1000), (if e then 1 else 0))
def finC (e : Bool) (x : C4) : C4 := if x.1 = 0 then leafC e else x
/-- the first k pairs -/
def accC (n : Nat) (net : Nat → Nat) (r : Nat) (f : Nat → Nat → C4) (st tok : Nat) : Nat → C4
  | 0 => (0, 0, 1000, 0)
  | k + 1 => if cv n net r st tok k then addC (accC n net r f st tok k) (f (nxS st k) (nxT tok r k)) else accC n net r f st tok k
def cnt (n : Nat) (net : Nat → Nat) (r : Nat) : Nat → Nat → Nat → C4
  | 0, st, _ => leafC (expM st n)
  | d + 1, st, tok => finC (expM st n) (accC n net r (cnt n net r d) st tok 16)
/-- the numbers of a state -/
abbrev CN (n : Nat) (net : Nat → Nat) (r st tok : Nat) : C4 := cnt n net r 12 st tok
/-! bits -/
theorem bitsN_tb (x : Nat) : ∀ k, bitsN x (k + 1) = bitsN x k + (x.testBit k).toNat := fun k => by simp only [bitsN]; rw [tb_v]
theorem bitsN_mono {a b : Nat} : ∀ k, (∀ i, i < k → a.testBit i = true → b.testBit i = true) → bitsN a k ≤ bitsN b k
  | 0, _ => Nat.le_refl 0
  | k + 1, h => by
    have ih := bitsN_mono k (fun i hi => h i (by omega))
    have hk := h k (by omega)
    rw [bitsN_tb, bitsN_tb]
    cases ha : a.testBit k <;> cases hb : b.testBit k <;> simp_all <;> omega
theorem bitsN_lt {a b : Nat} : ∀ k, (∀ i, i < k → a.testBit i = true → b.testBit i = true) → (∃ i, i < k ∧ a.testBit i = false ∧ b.testBit i = true) → bitsN a k < bitsN b k
  | 0, _, h => by obtain ⟨i, hi, _⟩ := h; omega
  | k + 1, h, ⟨i, hi, ha, hb⟩ => by
    rw [bitsN_tb, bitsN_tb]
    rcases Nat.lt_or_ge i k with h1 | h1
    · have ih := bitsN_lt k (fun i hi => h i (by omega)) ⟨i, h1, ha, hb⟩
      have hk := h k (by omega)
      cases ha2 : a.testBit k <;> cases hb2 : b.testBit k <;> simp_all <;> omega
    · have e : i = k := by omega
      subst e
      have ih := bitsN_mono i (fun j hj => h j (by omega))
      rw [ha, hb]; simp; omega
theorem of4_tb (st p i : Nat) : (of4 st p).testBit i = (decide (i < 4) && st.testBit (4 * p + i)) := by
  unfold of4
  rw [Nat.testBit_and, Nat.testBit_shiftRight, show (15 : Nat) = 2 ^ 4 - 1 from rfl, Nat.testBit_two_pow_sub_one, Bool.and_comm]
theorem aft_tb {st pp qq i : Nat} : (aft st pp qq).testBit i = (st.testBit i || (decide (4 * pp ≤ i) && (of4 st pp ||| of4 st qq).testBit (i - 4 * pp)) || (decide (4 * qq ≤ i) && (of4 st pp ||| of4 st qq).testBit (i - 4 * qq))) := by
  unfold aft
  rw [Nat.testBit_or, Nat.testBit_or, Nat.testBit_shiftLeft, Nat.testBit_shiftLeft]
theorem tb_big {x i : Nat} (h : x < 65536) (hi : 16 ≤ i) : x.testBit i = false := Nat.testBit_lt_two_pow (Nat.lt_of_lt_of_le h (show 2 ^ 16 ≤ 2 ^ i from Nat.pow_le_pow_right (by decide) hi))
/-- all secrets that there can be; a state of n persons -/
def msk (n : Nat) : Nat := [0, 1, 51, 1911, 65535].getD n 0
def VS (n st : Nat) : Prop := (∀ i, st.testBit i = true → (msk n).testBit i = true) ∧ (∀ i, (startN n).testBit i = true → st.testBit i = true)
theorem msk_tb : ∀ n, n ≤ 4 → ∀ p, p < 4 → ∀ i, i < 4 → (msk n).testBit (4 * p + i) = (decide (p < n) && decide (i < n)) := by decide +kernel
theorem start_tb : ∀ n, n ≤ 4 → ∀ p, p < 4 → ∀ i, i < 4 → (startN n).testBit (4 * p + i) = (decide (p < n) && decide (i = p)) := by decide +kernel
theorem msk_bits : ∀ n, n ≤ 4 → bitsN (msk n) 16 = n * n := by decide +kernel
theorem msk_lt : ∀ n, n ≤ 4 → msk n < 65536 := by decide +kernel
theorem VS_lt {n st : Nat} (hn : n ≤ 4) (h : VS n st) : st < 65536 := by
  apply Nat.lt_pow_two_of_testBit (n := 16)
  intro i hi
  cases hb : st.testBit i with
  | false => rfl
  | true =>
    have := h.1 i hb
    rw [tb_big (msk_lt n hn) hi] at this
    cases this
theorem VS_start {n : Nat} (hn : n ≤ 4) : VS n (startN n) := by
  refine ⟨fun i hi => ?_, fun i hi => hi⟩
  have h16 : i < 16 := by
    rcases Nat.lt_or_ge i 16 with h | h
    · exact h
    · rw [tb_big (startN_lt n) h] at hi
      cases hi
  have e : i = 4 * (i / 4) + i % 4 := by omega
  rw [e] at hi ⊢
  rw [start_tb n hn _ (by omega) _ (by omega)] at hi
  rw [msk_tb n hn _ (by omega) _ (by omega)]
  simp at hi ⊢
  omega
theorem VS_of {n st pp i : Nat} (hn : n ≤ 4) (hp : pp < n) (h : VS n st) (hi : (of4 st pp).testBit i = true) : i < n := by
  rw [of4_tb] at hi
  simp only [Bool.and_eq_true, decide_eq_true_eq] at hi
  have := h.1 _ hi.2
  rw [msk_tb n hn pp (by omega) i hi.1] at this
  simp at this
  exact this.2
theorem VS_own {n st pp : Nat} (hn : n ≤ 4) (hp : pp < n) (h : VS n st) : (of4 st pp).testBit pp = true := by
  rw [of4_tb]
  have := h.2 (4 * pp + pp) (by rw [start_tb n hn pp (by omega) pp (by omega)]; simp [hp])
  rw [this]; simp; omega
theorem VS_aft {n st pp qq : Nat} (hn : n ≤ 4) (hp : pp < n) (hq : qq < n) (h : VS n st) : VS n (aft st pp qq) := by
  refine ⟨fun i hi => ?_, fun i hi => by rw [aft_tb, h.2 i hi]; simp⟩
  rw [aft_tb] at hi
  simp only [Bool.or_eq_true, Bool.and_eq_true, decide_eq_true_eq, Nat.testBit_or] at hi
  have key : ∀ z, z < n → 4 * z ≤ i → ((of4 st pp).testBit (i - 4 * z) = true ∨ (of4 st qq).testBit (i - 4 * z) = true) → (msk n).testBit i = true := by
    intro z hz hzi hor
    have hlt : i - 4 * z < n := by
      rcases hor with h1 | h1
      · exact VS_of hn hp h h1
      · exact VS_of hn hq h h1
    rw [show i = 4 * z + (i - 4 * z) by omega, msk_tb n hn z (by omega) _ (by omega)]
    simp [hz, hlt]
  rcases hi with (h1 | ⟨h1, h2⟩) | ⟨h1, h2⟩
  · exact h.1 i h1
  · exact key pp hp h1 h2
  · exact key qq hq h1 h2
/-- how many secrets are wanting -/
def mis (n st : Nat) : Nat := n * n - bitsN st 16
theorem VS_bits {n st : Nat} (hn : n ≤ 4) (h : VS n st) : bitsN st 16 ≤ n * n := by
  rw [← msk_bits n hn]; exact bitsN_mono 16 (fun i _ => h.1 i)
theorem start_bits : ∀ n, n ≤ 4 → bitsN (startN n) 16 = n := by decide +kernel
theorem mis_le {n st : Nat} (hn : n ≤ 4) (h : VS n st) : mis n st ≤ 12 := by
  have h1 := bitsN_mono (a := startN n) (b := st) 16 (fun i _ => h.2 i)
  rw [start_bits n hn] at h1
  unfold mis
  rcases (by omega : n = 0 ∨ n = 1 ∨ n = 2 ∨ n = 3 ∨ n = 4) with rfl | rfl | rfl | rfl | rfl <;> omega
theorem mis_aft {n st pp qq : Nat} (hn : n ≤ 4) (hp : pp < n) (hq : qq < n) (h : VS n st) (hne : of4 st pp ≠ of4 st qq) : mis n (aft st pp qq) < mis n st := by
  have hb := VS_bits hn (VS_aft hn hp hq h)
  have hlt : bitsN st 16 < bitsN (aft st pp qq) 16 := by
    apply bitsN_lt 16 (fun i _ hi => by rw [aft_tb, hi]; simp)
    -- a bit in which they differ
    have : ∃ i, (of4 st pp).testBit i ≠ (of4 st qq).testBit i := Classical.byContradiction fun hc => hne (Nat.eq_of_testBit_eq fun i => Classical.byContradiction fun h2 => hc ⟨i, h2⟩)
    obtain ⟨i, hi⟩ := this
    have hi4 : i < 4 := by
      rcases Nat.lt_or_ge i 4 with h1 | h1
      · exact h1
      · exfalso; apply hi; rw [of4_tb, of4_tb]; simp [Nat.not_lt.mpr h1]
    cases h1 : (of4 st pp).testBit i with
    | true =>
      have h2 : (of4 st qq).testBit i = false := by cases h3 : (of4 st qq).testBit i; rfl; rw [h1, h3] at hi; exact absurd rfl hi
      refine ⟨4 * qq + i, by omega, ?_, ?_⟩
      · rw [of4_tb] at h2; simpa [hi4] using h2
      · rw [aft_tb, Nat.testBit_or, Nat.testBit_or, show 4 * qq + i - 4 * qq = i by omega, h1]; simp
    | false =>
      have h2 : (of4 st qq).testBit i = true := by cases h3 : (of4 st qq).testBit i; rw [h1, h3] at hi; exact absurd rfl hi; rfl
      refine ⟨4 * pp + i, by omega, ?_, ?_⟩
      · rw [of4_tb] at h1; simpa [hi4] using h1
      · rw [aft_tb, Nat.testBit_or, Nat.testBit_or, show 4 * pp + i - 4 * pp = i by omega, h2]; simp
  unfold mis; omega
theorem may_ne {n : Nat} {net : Nat → Nat} {r st tok pp qq : Nat} (hn : n ≤ 4) (hq : qq < n) (h : VS n st) (hm : mayM net r st tok pp qq = true) : of4 st pp ≠ of4 st qq := by
  intro e
  unfold mayM at hm
  split at hm
  · cases hm
  · split at hm
    · cases hm
    · split at hm
      · rw [e, VS_own hn hq h] at hm; cases hm
      · first | (rw [if_pos e] at hm; cases hm) | cases hm
theorem cv_ok {n : Nat} {net : Nat → Nat} {r st tok k : Nat} (hn : n ≤ 4) (h : VS n st) (hc : cv n net r st tok k = true) : k / 4 < n ∧ k % 4 < n ∧ mayM net r st tok (k / 4) (k % 4) = true ∧ VS n (nxS st k) ∧ mis n (nxS st k) < mis n st := by
  unfold cv at hc
  simp only [Bool.and_eq_true, decide_eq_true_eq] at hc
  obtain ⟨⟨h1, h2⟩, h3⟩ := hc
  exact ⟨h1, h2, h3, VS_aft hn h1 h2 h, mis_aft hn h1 h2 h (may_ne hn h2 h h3)⟩
/-! enough depth is enough -/
theorem acc_cong {n : Nat} {net : Nat → Nat} {r st tok : Nat} {f g : Nat → Nat → C4} : ∀ k, (∀ j, j < k → cv n net r st tok j = true → f (nxS st j) (nxT tok r j) = g (nxS st j) (nxT tok r j)) → accC n net r f st tok k = accC n net r g st tok k
  | 0, _ => rfl
  | k + 1, h => by
    have ih := acc_cong (f := f) (g := g) k (fun j hj => h j (by omega))
    simp only [accC]
    by_cases hc : cv n net r st tok k = true
    · rw [if_pos hc, if_pos hc, ih, h k (by omega) hc]
    · rw [if_neg hc, if_neg hc, ih]
theorem acc_none {n : Nat} {net : Nat → Nat} {r st tok : Nat} {f : Nat → Nat → C4} : ∀ k, (∀ j, j < k → cv n net r st tok j = false) → accC n net r f st tok k = (0, 0, 1000, 0)
  | 0, _ => rfl
  | k + 1, h => by
    simp only [accC]
    rw [h k (by omega), acc_none k (fun j hj => h j (by omega))]; rfl
theorem cnt_more {n : Nat} {net : Nat → Nat} {r : Nat} (hn : n ≤ 4) : ∀ (d st tok : Nat), VS n st → mis n st ≤ d → cnt n net r (d + 1) st tok = cnt n net r d st tok
  | 0, st, tok, h, hm => by
    have : accC n net r (cnt n net r 0) st tok 16 = (0, 0, 1000, 0) := acc_none 16 (fun j _ => by
      cases hc : cv n net r st tok j with
      | false => rfl
      | true => have := (cv_ok hn h hc).2.2.2.2; omega)
    show finC (expM st n) (accC n net r (cnt n net r 0) st tok 16) = leafC (expM st n)
    rw [this]; rfl
  | d + 1, st, tok, h, hm => by
    have : accC n net r (cnt n net r (d + 1)) st tok 16 = accC n net r (cnt n net r d) st tok 16 := acc_cong 16 (fun j _ hc => by
      have h2 := cv_ok hn h hc
      exact cnt_more hn d _ _ h2.2.2.2.1 (by omega))
    simp only [cnt] at this ⊢
    rw [this]
theorem CN_eq {n : Nat} {net : Nat → Nat} {r st tok : Nat} (hn : n ≤ 4) (h : VS n st) : CN n net r st tok = finC (expM st n) (accC n net r (CN n net r) st tok 16) := by
  have h1 : cnt n net r 13 st tok = cnt n net r 12 st tok := cnt_more hn 12 st tok h (mis_le hn h)
  exact h1.symm
theorem acc_pos {n : Nat} {net : Nat → Nat} {r st tok : Nat} {f : Nat → Nat → C4} (hf : ∀ a b, 0 < (f a b).1) : ∀ k, (∃ j, j < k ∧ cv n net r st tok j = true) → 0 < (accC n net r f st tok k).1
  | 0, ⟨j, hj, _⟩ => by omega
  | k + 1, ⟨j, hj, hc⟩ => by
    simp only [accC]
    by_cases hk : cv n net r st tok k = true
    · rw [if_pos hk]; have := hf (nxS st k) (nxT tok r k); simp only [addC]; omega
    · rw [if_neg hk]
      exact acc_pos hf k ⟨j, by rcases Nat.lt_or_ge j k with h1 | h1; exact h1; exact absurd (show j = k by omega ▸ hc) (by intro h; exact hk (by rw [show k = j by omega]; exact hc)), hc⟩
theorem cnt_pos {n : Nat} {net : Nat → Nat} {r : Nat} : ∀ d st tok, 0 < (cnt n net r d st tok).1
  | 0, _, _ => by simp [cnt, leafC]
  | d + 1, st, tok => by
    simp only [cnt, finC]
    split
    · simp [leafC]
    · omega
/-- bounds: all runs, good ones, fewest, most -/
theorem acc_le {n : Nat} {net : Nat → Nat} {r st tok : Nat} {f : Nat → Nat → C4} {B : Nat} (hf : ∀ a b, (f a b).1 ≤ B ∧ (f a b).2.1 ≤ (f a b).1) : ∀ k, (accC n net r f st tok k).1 ≤ k * B ∧ (accC n net r f st tok k).2.1 ≤ (accC n net r f st tok k).1
  | 0 => by simp [accC]
  | k + 1 => by
    have ih := acc_le (n := n) (net := net) (r := r) (st := st) (tok := tok) hf k
    simp only [accC]
    rw [Nat.succ_mul]
    split
    · have := hf (nxS st k) (nxT tok r k)
      simp only [addC]; omega
    · omega
theorem cnt_le {n : Nat} {net : Nat → Nat} {r : Nat} : ∀ d st tok, (cnt n net r d st tok).1 ≤ 16 ^ d ∧ (cnt n net r d st tok).2.1 ≤ (cnt n net r d st tok).1
  | 0, st, tok => by simp only [cnt, leafC]; split <;> simp
  | d + 1, st, tok => by
    have h := acc_le (n := n) (net := net) (r := r) (st := st) (tok := tok) (fun a b => cnt_le (n := n) (net := net) (r := r) d a b) 16
    have h1 : 1 ≤ 16 ^ d := by apply Nat.pos_of_ne_zero; intro h; simp at h
    rw [Nat.pow_succ]
    simp only [cnt, finC]
    split
    · simp only [leafC]; split <;> simp <;> omega
    · omega
