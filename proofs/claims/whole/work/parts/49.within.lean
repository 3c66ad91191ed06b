/-! ===== a rule within another ===== -/
def allK (f : Nat → Bool) : Nat → Bool
  | 0 => true
  | k + 1 => allK f k && f k
theorem allK_t {f : Nat → Bool} : ∀ {n : Nat}, allK f n = true ↔ ∀ k, k < n → f k = true
  | 0 => ⟨fun _ k hk => absurd hk (by omega), fun _ => rfl⟩
  | n + 1 => by
    simp only [allK, Bool.and_eq_true]
    rw [allK_t]
    constructor
    · intro ⟨h1, h2⟩ k hk
      rcases Nat.lt_or_ge k n with h | h
      · exact h1 k h
      · rw [show k = n by omega]; exact h2
    · intro h
      exact ⟨fun k hk => h k (by omega), h n (by omega)⟩
def wok (n : Nat) (net : Nat → Nat) (r o f : Nat) : Nat → Nat → Nat → Bool
  | 0, _, _ => true
  | d + 1, st, tok => allK (fun k => !cv n net r st tok k || (mayM net o st tok (k / 4) (k % 4) && wok n net r o f d (nxS st k) (nxT tok f k))) 16
abbrev WK (n : Nat) (net : Nat → Nat) (r o f st tok : Nat) : Bool := wok n net r o f 12 st tok
theorem wok_more {n : Nat} {net : Nat → Nat} {r o f : Nat} (hn : n ≤ 4) : ∀ (d st tok : Nat), VS n st → mis n st ≤ d → wok n net r o f (d + 1) st tok = wok n net r o f d st tok
  | 0, st, tok, h, hm => by
    show allK _ 16 = true
    rw [allK_t]
    intro k _
    have : cv n net r st tok k = false := by
      cases hc : cv n net r st tok k with
      | false => rfl
      | true => have := (cv_ok hn h hc).2.2.2.2; omega
    rw [this]; rfl
  | d + 1, st, tok, h, hm => by
    have key : ∀ k, k ≤ 16 → allK (fun k => !cv n net r st tok k || (mayM net o st tok (k / 4) (k % 4) && wok n net r o f (d + 1) (nxS st k) (nxT tok f k))) k = allK (fun k => !cv n net r st tok k || (mayM net o st tok (k / 4) (k % 4) && wok n net r o f d (nxS st k) (nxT tok f k))) k := by
      intro k
      induction k with
      | zero => intro _; rfl
      | succ k ih =>
        intro hk
        simp only [allK]
        rw [ih (by omega)]
        cases hc : cv n net r st tok k with
        | false => rfl
        | true =>
          have h2 := cv_ok hn h hc
          rw [wok_more hn d _ _ h2.2.2.2.1 (by omega)]
    exact key 16 (Nat.le_refl _)
theorem WK_iff {n : Nat} {net : Nat → Nat} {r o f st tok : Nat} (hn : n ≤ 4) (h : VS n st) : WK n net r o f st tok = true ↔ ∀ k, k < 16 → cv n net r st tok k = true → mayM net o st tok (k / 4) (k % 4) = true ∧ WK n net r o f (nxS st k) (nxT tok f k) = true := by
  have h1 : wok n net r o f 13 st tok = wok n net r o f 12 st tok := wok_more hn 12 st tok h (mis_le hn h)
  show wok n net r o f 12 st tok = true ↔ _
  rw [← h1]
  show allK _ 16 = true ↔ _
  rw [allK_t]
  constructor
  · intro h2 k hk hc
    have := h2 k hk
    rw [hc] at this
    simpa using this
  · intro h2 k hk
    cases hc : cv n net r st tok k with
    | false => rfl
    | true => have := h2 k hk hc; simp [this.1, this.2]
theorem en_lo {s t : Nat} (h : s < 65536) : (s ||| t <<< 16) &&& 65535 = s := by
  rw [show (65535 : Nat) = 2 ^ 16 - 1 from rfl, Nat.and_two_pow_sub_one_eq_mod]
  apply Nat.eq_of_testBit_eq
  intro i
  rw [Nat.testBit_mod_two_pow, Nat.testBit_or, Nat.testBit_shiftLeft]
  by_cases hi : i < 16
  · simp [hi, show ¬ 16 ≤ i by omega]
  · rw [tb_big h (by omega)]; simp [hi]
theorem en_hi {s t : Nat} (h : s < 65536) : (s ||| t <<< 16) >>> 16 = t := by
  apply Nat.eq_of_testBit_eq
  intro i
  rw [Nat.testBit_shiftRight, Nat.testBit_or, Nat.testBit_shiftLeft, tb_big h (by omega)]
  simp
theorem en_lt {s t : Nat} (h : s < 65536) (ht : t < 16) : s ||| t <<< 16 < 2 ^ 20 := or_lt (pow_31 (n := 16) h (by decide)) (shl_lt (n := 4) ht (by decide))
def ofR (r o : Nat) : Nat := if 1 < r then r else o
def s_within (n k : Nat) (net cP cQ : Nat → Nat) (a1 a2 : Int32) : Int32 :=
  if isIn a1 (nI 0) (nI 3) = false then -1 else if isIn a2 (nI 0) (nI 3) = false then -1 else
  if (a1.toNatClampNeg + a2.toNatClampNeg = 5 ∧ 1 < a1.toNatClampNeg) ∧ 1 < a2.toNatClampNeg then -2 else if n = 0 then -3 else
  bI (WK n net a1.toNatClampNeg a2.toNatClampNeg (ofR a1.toNatClampNeg a2.toNatClampNeg) (stS n cP cQ k) (tokS n (ofR a1.toNatClampNeg a2.toNatClampNeg) cP cQ k))
/-- distinct numbers below m are at most m -/
theorem holes : ∀ (m n : Nat) (f : Nat → Nat), (∀ i, i < n → f i < m) → (∀ i j, i < j → j < n → f i ≠ f j) → n ≤ m
  | 0, n, f, h, _ => by
    rcases Nat.eq_zero_or_pos n with h0 | h0
    · omega
    · exact absurd (h 0 h0) (by omega)
  | m + 1, n, f, h, hd => by
    by_cases hm : ∃ i, i < n ∧ f i = m
    · obtain ⟨i, hi, hfi⟩ := hm
      have := holes m (n - 1) (fun j => if j < i then f j else f (j + 1)) (fun j hj => by
        by_cases hji : j < i
        · simp only [if_pos hji]
          have h1 := h j (by omega); have h2 := hd j i hji hi; omega
        · simp only [if_neg hji]
          have h1 := h (j + 1) (by omega); have h2 := hd i (j + 1) (by omega) (by omega); omega) (fun a b hab hb => by
        by_cases ha : a < i <;> by_cases hb2 : b < i
        · simp only [if_pos ha, if_pos hb2]; exact hd a b hab (by omega)
        · simp only [if_pos ha, if_neg hb2]; exact hd a (b + 1) (by omega) (by omega)
        · omega
        · simp only [if_neg ha, if_neg hb2]; exact hd (a + 1) (b + 1) (by omega) (by omega))
      omega
    · have := holes m n f (fun i hi => by
        have h1 := h i hi
        have h2 : f i ≠ m := fun e => hm ⟨i, hi, e⟩
        omega) hd
      omega
/-- the search of the check: first, last, the rows -/
def BI (n t : Nat) (net : Nat → Nat) (r o f : Nat) (w0 : Bool) (last : Nat) (qs qt s12 q29 : Nat → Nat) : Prop :=
  (∀ j, j < last → VS n (qs j) ∧ qt j < 16 ∧ s12 (plc (qs j) (qt j)) = t ∧ q29 j = qs j ||| qt j <<< 16 ∧ (w0 = true → WK n net r o f (qs j) (qt j) = true)) ∧
  (∀ st tok, VS n st → tok < 16 → s12 (plc st tok) = t → ∃ j, j < last ∧ qs j = st ∧ qt j = tok) ∧
  (∀ i j, i < j → j < last → plc (qs i) (qt i) ≠ plc (qs j) (qt j)) ∧ (∀ i, s12 i ≤ t)
/-- the first k pairs of the j-th have been looked at -/
def BD (n t : Nat) (net : Nat → Nat) (r o f k : Nat) (st tok : Nat) (s12 : Nat → Nat) : Prop :=
  ∀ i, i < k → cv n net r st tok i = true → mayM net o st tok (i / 4) (i % 4) = true ∧ s12 (plc (nxS st i) (nxT tok f i)) = t
theorem BI_room {n t : Nat} {net : Nat → Nat} {r o f : Nat} {w0 : Bool} {last : Nat} {qs qt s12 q29 : Nat → Nat} (h : BI n t net r o f w0 last qs qt s12 q29) {pl : Nat} (hp : pl < 65536) (hs : s12 pl ≠ t) : last < 65536 := by
  have := holes 65536 (last + 1) (fun j => if j < last then plc (qs j) (qt j) else pl) (fun i hi => by
    by_cases h1 : i < last
    · simp only [if_pos h1]; exact plc_lt _ _
    · simp only [if_neg h1]; exact hp) (fun i j hij hj => by
    by_cases h2 : j < last
    · simp only [if_pos h2, if_pos (show i < last by omega)]; exact h.2.2.1 i j hij h2
    · simp only [if_neg h2, if_pos (show i < last by omega)]
      intro e
      exact hs (e ▸ (h.1 i (by omega)).2.2.1))
  omega
theorem BI_push {n t : Nat} {net : Nat → Nat} {r o f : Nat} {w0 : Bool} {last : Nat} {qs qt s12 q29 : Nat → Nat} (hn : n ≤ 4) (h : BI n t net r o f w0 last qs qt s12 q29) {st tok : Nat} (hv : VS n st) (ht : tok < 16) (hs : s12 (plc st tok) ≠ t) (hw : w0 = true → WK n net r o f st tok = true) :
    BI n t net r o f w0 (last + 1) (va_up qs last st) (va_up qt last tok) (va_up s12 (plc st tok) t) (va_up q29 last (st ||| tok <<< 16)) := by
  obtain ⟨h1, h2, h3, h4⟩ := h
  have old : ∀ j, j < last → va_up qs last st j = qs j ∧ va_up qt last tok j = qt j := fun j hj => ⟨vu_n _ _ (by omega), vu_n _ _ (by omega)⟩
  have keep : ∀ j, s12 j = t → va_up s12 (plc st tok) t j = t := fun j hj => by
    unfold va_up; split
    · rfl
    · exact hj
  refine ⟨fun j hj => ?_, fun s2 t2 hv2 ht2 he => ?_, fun i j hij hj => ?_, fun i => ?_⟩
  · rcases Nat.lt_or_ge j last with h6 | h6
    · rw [(old j h6).1, (old j h6).2, vu_n _ _ (show j ≠ last by omega)]
      obtain ⟨a1, a2, a3, a4, a5⟩ := h1 j h6
      exact ⟨a1, a2, keep _ a3, a4, a5⟩
    · rw [show j = last by omega, vu_s, vu_s, vu_s, vu_s]
      exact ⟨hv, ht, rfl, rfl, hw⟩
  · by_cases hp : plc s2 t2 = plc st tok
    · obtain ⟨rfl, rfl⟩ := plc_inj hn hv2 hv ht2 ht hp
      exact ⟨last, by omega, vu_s _ _ _, vu_s _ _ _⟩
    · rw [vu_n _ _ hp] at he
      obtain ⟨j, a1, a2, a3⟩ := h2 s2 t2 hv2 ht2 he
      exact ⟨j, by omega, (old j a1).1.trans a2, (old j a1).2.trans a3⟩
  · rw [(old i (by omega)).1, (old i (by omega)).2]
    rcases Nat.lt_or_ge j last with h6 | h6
    · rw [(old j h6).1, (old j h6).2]; exact h3 i j hij h6
    · rw [show j = last by omega, vu_s, vu_s]
      intro e
      exact hs (e ▸ (h1 i (by omega)).2.2.1)
  · unfold va_up; split
    · exact Nat.le_refl t
    · exact h4 i
/-- all have been looked at: the rule is within the other -/
theorem BI_done {n t : Nat} {net : Nat → Nat} {r o f : Nat} {w0 : Bool} {last : Nat} {qs qt s12 q29 : Nat → Nat} (hn : n ≤ 4) (hf : ∀ tok k, tok < 16 → nxT tok f k < 16) (h : BI n t net r o f w0 last qs qt s12 q29) (hd : ∀ j, j < last → BD n t net r o f 16 (qs j) (qt j) s12) : ∀ (d j : Nat), j < last → mis n (qs j) ≤ d → WK n net r o f (qs j) (qt j) = true := by
  intro d
  induction d with
  | zero =>
    intro j hj hm
    rw [WK_iff hn (h.1 j hj).1]
    intro k _ hc
    have := (cv_ok hn (h.1 j hj).1 hc).2.2.2.2
    omega
  | succ d ih =>
    intro j hj hm
    rw [WK_iff hn (h.1 j hj).1]
    intro k hk hc
    obtain ⟨a1, a2⟩ := hd j hj k hk hc
    have c := cv_ok hn (h.1 j hj).1 hc
    obtain ⟨i, b1, b2, b3⟩ := h.2.1 _ _ c.2.2.2.1 (hf _ _ (h.1 j hj).2.1) a2
    refine ⟨a1, ?_⟩
    have := ih i b1 (by rw [b2]; omega)
    rw [b2, b3] at this
    exact this
theorem BD_push {n t : Nat} {net : Nat → Nat} {r o f k st tok : Nat} {s12 : Nat → Nat} (h : BD n t net r o f k st tok s12) (pl : Nat) : BD n t net r o f k st tok (va_up s12 pl t) := fun i hi hc => by
  obtain ⟨a, b⟩ := h i hi hc
  refine ⟨a, ?_⟩
  unfold va_up; split
  · rfl
  · exact b
