/-! ===== pairs in order: how many, the k-th; a cell's rows matter only as far as it goes ===== -/
theorem arr4 {D : va_G} {cl : List vw_C} {a cA n : Nat} {f g : Nat → Nat} {H : Heap} (h : ∀ j, j < n → f j = g j) (hP : va_at D cl (a, .inl (cA, n, .inl (fun j => nI (f j)))) H) : va_at D cl (a, .inl (cA, n, .inl (fun j => nI (g j)))) H := by
  have e : arrV cA n (fun j => .int (nI (f j))) = arrV cA n (fun j => .int (nI (g j))) := by
    unfold arrV
    congr 1
    congr 1
    funext j
    show Value.int (nI (f j.val)) = Value.int (nI (g j.val)); rw [h j.val j.isLt]
  have hP : H[a]? = some (arrV cA n (fun j => .int (nI (f j)))) := hP
  have : H[a]? = some (arrV cA n (fun j => .int (nI (g j)))) := e ▸ hP
  exact this
theorem va_D_addr {A : Nat → Prop} {w1 w2 : va_W} (h : w1.map Prod.fst = w2.map Prod.fst) (hD : va_D A w1) : va_D A w2 := by
  have key : ∀ (i : Nat) (q : Nat × va_E), w2[i]? = some q → ∃ r, w1[i]? = some r ∧ r.1 = q.1 := fun i q hi => by
    have h2 : (w2.map Prod.fst)[i]? = some q.1 := by rw [List.getElem?_map, hi]; rfl
    rw [← h, List.getElem?_map] at h2
    cases h3 : w1[i]? with
    | none => rw [h3] at h2; cases h2
    | some r => rw [h3] at h2; exact ⟨r, rfl, by simpa using h2⟩
  refine ⟨fun i j p q hi hj e => ?_, fun k q hk => ?_⟩
  · obtain ⟨r1, a1, b1⟩ := key i p hi
    obtain ⟨r2, a2, b2⟩ := key j q hj
    exact hD.1 i j r1 r2 a1 a2 (b1.trans (e.trans b2.symm))
  · obtain ⟨r1, a1, b1⟩ := key k q hk
    exact b1 ▸ hD.2 k r1 a1
theorem mW_28 {E : EE} {ad : Nat → Nat} {lk : Nat} {tr : Int32} {N : Nat → Nat} {X : Nat → Nat → Int32} {F G : Nat → Nat → Nat} {f g : Nat → Nat} {H : Heap} (h : ∀ j, j < 4 → f j = g j) (hP : va_P E.1 vwCl (mW E ad lk tr N X (va_up F 28 f) G) H) : va_P E.1 vwCl (mW E ad lk tr N X (va_up F 28 g) G) H := by
  intro k q hk
  by_cases h18 : k = 18
  · subst h18
    cases hk
    exact arr4 h (hP 18 _ rfl)
  · apply hP k q
    rw [← hk]
    match k, h18 with
    | 0, _ | 1, _ | 2, _ | 3, _ | 4, _ | 5, _ | 6, _ | 7, _ | 8, _ | 9, _ | 10, _ | 11, _ | 12, _ | 13, _ | 14, _ | 15, _ | 16, _ | 17, _ | 19, _ => rfl
    | 18, h => exact absurd rfl h
    | k + 20, _ => rfl
theorem mWD_28 {E : EE} {ad : Nat → Nat} {lk : Nat} {tr : Int32} {N : Nat → Nat} {X : Nat → Nat → Int32} {F G : Nat → Nat → Nat} {f g : Nat → Nat} {A : Nat → Prop} (hD : va_D A (mW E ad lk tr N X (va_up F 28 f) G)) : va_D A (mW E ad lk tr N X (va_up F 28 g) G) := va_D_addr (w1 := mW E ad lk tr N X (va_up F 28 f) G) rfl hD
def cntB (B : Nat → Bool) : Nat → Nat
  | 0 => 0
  | j + 1 => cntB B j + (B j).toNat
/-- the answer x to: how many (k is -1), the k-th one -/
def pickR (B : Nat → Bool) (k x : Int32) : Prop :=
  (k = -1 ∧ x = nI (cntB B 16)) ∨ (∃ kk : Nat, kk ≤ 11 ∧ k = nI kk ∧ ((∃ j, j < 16 ∧ B j = true ∧ cntB B j = kk ∧ x = nI (10 * (j / 4) + j % 4)) ∨ (cntB B 16 ≤ kk ∧ x = -9)))
theorem nI_m1 {k : Nat} (h : k < 2 ^ 31) : nI k ≠ -1 := fun e => by
  have := congrArg Int32.toInt e
  rw [nI_toInt h, show (-1 : Int32).toInt = -1 by decide] at this; omega
theorem cntB_le (B : Nat → Bool) : ∀ j, cntB B j ≤ j
  | 0 => Nat.le_refl 0
  | j + 1 => by have := cntB_le B j; simp only [cntB]; cases B j <;> simp <;> omega
theorem cntB_mono {B : Nat → Bool} {i j : Nat} (h : i ≤ j) : cntB B i ≤ cntB B j := by
  induction h with
  | refl => exact Nat.le_refl _
  | step _ ih => simp only [cntB]; omega
theorem cntB_lt {B : Nat → Bool} {i j : Nat} (h : i < j) (hB : B i = true) : cntB B i < cntB B j := by
  have h1 : cntB B (i + 1) ≤ cntB B j := cntB_mono h
  simp only [cntB, hB] at h1; simp at h1; omega
theorem pickR_one {B : Nat → Bool} {k x y : Int32} (h : pickR B k x) (g : pickR B k y) : x = y := by
  rcases h with ⟨a1, a2⟩ | ⟨kk, a0, a1, a2⟩ <;> rcases g with ⟨b1, b2⟩ | ⟨ll, b0, b1, b2⟩
  · rw [a2, b2]
  · exact absurd (b1.symm.trans a1) (nI_m1 (by omega))
  · exact absurd (a1.symm.trans b1) (nI_m1 (by omega))
  · have e : kk = ll := (nI_eq (by omega) (by omega)).mp (a1.symm.trans b1)
    subst e
    rcases a2 with ⟨j, c1, c2, c3, c4⟩ | ⟨c1, c2⟩ <;> rcases b2 with ⟨i, d1, d2, d3, d4⟩ | ⟨d1, d2⟩
    · have : j = i := by
        rcases Nat.lt_trichotomy j i with h | h | h
        · have := cntB_lt h c2; omega
        · exact h
        · have := cntB_lt h d2; omega
      rw [c4, d4, this]
    · have := cntB_lt c1 c2; omega
    · have := cntB_lt d1 d2; omega
    · rw [c2, d2]
theorem cntB_row {B : Nat → Bool} {p n : Nat} (hn : n ≤ 4) (h : ∀ q, n ≤ q → q < 4 → B (4 * p + q) = false) : cntB B (4 * (p + 1)) = cntB B (4 * p + n) := by
  rcases (by omega : n = 0 ∨ n = 1 ∨ n = 2 ∨ n = 3 ∨ n = 4) with rfl | rfl | rfl | rfl | rfl
  · have h0 := h 0 (by omega) (by omega); have h1 := h 1 (by omega) (by omega); have h2 := h 2 (by omega) (by omega); have h3 := h 3 (by omega) (by omega)
    rw [show 4 * (p + 1) = 4 * p + 3 + 1 by omega]; simp only [cntB]; rw [h3, h2, h1]; simp only [Nat.add_zero] at h0 ⊢; rw [h0]; rfl
  · have h1 := h 1 (by omega) (by omega); have h2 := h 2 (by omega) (by omega); have h3 := h 3 (by omega) (by omega)
    rw [show 4 * (p + 1) = 4 * p + 3 + 1 by omega]; simp only [cntB]; rw [h3, h2, h1]; rfl
  · have h2 := h 2 (by omega) (by omega); have h3 := h 3 (by omega) (by omega)
    rw [show 4 * (p + 1) = 4 * p + 3 + 1 by omega]; simp only [cntB]; rw [h3, h2]; rfl
  · have h3 := h 3 (by omega) (by omega)
    rw [show 4 * (p + 1) = 4 * p + 3 + 1 by omega]; simp only [cntB]; rw [h3]; rfl
  · rw [show 4 * (p + 1) = 4 * p + 4 by omega]
theorem cntB_end {B : Nat → Bool} {n : Nat} (hn : n ≤ 4) (h : ∀ j, n ≤ j / 4 → B j = false) : cntB B 16 = cntB B (4 * n) := by
  have : ∀ d, cntB B (4 * n + d) = cntB B (4 * n) := fun d => by
    induction d with
    | zero => rfl
    | succ d ih => show cntB B (4 * n + d) + (B (4 * n + d)).toNat = _; rw [h (4 * n + d) (by omega), ih]; rfl
  rw [show (16 : Nat) = 4 * n + (16 - 4 * n) by omega]; exact this _
/-- a number taken out, or put in -/
abbrev flip (net : Nat → Nat) (p q : Nat) : Nat → Nat := va_up net p (net p ^^^ 1 <<< q)
def bridgeB (n : Nat) (net : Nat → Nat) (j : Nat) : Bool := decide (j / 4 < n) && decide (j % 4 < n) && decide (j / 4 ≠ j % 4) && (net (j / 4)).testBit (j % 4) && !joinM (flip net (j / 4) (j % 4)) n
def mendB (n : Nat) (net : Nat → Nat) (r j : Nat) : Bool := decide (j / 4 < n) && decide (j % 4 < n) && decide (j / 4 ≠ j % 4) && !(net (j / 4)).testBit (j % 4) && decide (verd (CN n (flip net (j / 4) (j % 4)) r (startN n) (1 <<< n - 1)) = 2)
theorem flip_lt {net : Nat → Nat} {p q : Nat} (h : ∀ j, net j < 16) (hq : q < 4) : ∀ j, flip net p q j < 16 := fun j => by
  unfold flip va_up; split
  · exact Nat.xor_lt_two_pow (n := 4) (h p) (one_shl hq)
  · exact h j
theorem dm4 {p q : Nat} (hq : q < 4) : (4 * p + q) / 4 = p ∧ (4 * p + q) % 4 = q := by omega
theorem isIn_m1 {v : Int32} (h : isIn v (-1) (nI 11) = true) : v = -1 ∨ ∃ kk : Nat, kk ≤ 11 ∧ v = nI kk := by
  obtain ⟨h1, h2⟩ := of_decide_eq_true h
  by_cases h0 : v < 0
  · left
    rw [Int32.lt_iff_toInt_lt] at h1 h0
    apply Int32.toInt_inj.mp
    have e1 : (-1 : Int32).toInt = -1 := by decide
    have e2 : (0 : Int32).toInt = 0 := by decide
    omega
  · right
    obtain ⟨j, hj, rfl⟩ := nI_of h0
    exact ⟨j, Nat.le_of_not_lt fun h => h2 ((nI_ltI (by decide) hj).mpr h), rfl⟩
theorem cntB_f {B : Nat → Bool} {j : Nat} (h : B j = false) : cntB B (j + 1) = cntB B j := by simp only [cntB, h]; rfl
theorem cntB_t {B : Nat → Bool} {j : Nat} (h : B j = true) : cntB B (j + 1) = cntB B j + 1 := by simp only [cntB, h]; rfl
theorem verd_le (x : C4) : verd x ≤ 2 := by
  unfold verd; split
  · decide
  · split <;> decide
