/-! ===== a rule within another, in positions ===== -/
theorem allK_c {f g : Nat → Bool} : ∀ k, (∀ i, i < k → f i = g i) → allK f k = allK g k
  | 0, _ => rfl
  | k + 1, h => by simp only [allK]; rw [allK_c k (fun i hi => h i (by omega)), h k (by omega)]
theorem wok_num {n r o f : Nat} {a b : Nat → Nat} (hn : n ≤ 4) : ∀ d st tok tk', VS n st → (∀ p, p < n → numO a st p = numO b st p) → ((2 ≤ r ∨ 2 ≤ o) → tok = tk') → wok n a r o f d st tok = wok n b r o f d st tk'
  | 0, _, _, _, _, _, _ => rfl
  | d + 1, st, tok, tk', hv, hN0, ht => by
    simp only [wok]
    refine allK_c 16 (fun k _ => ?_)
    have hcv : cv n a r st tok k = cv n b r st tk' k := by
      unfold cv
      by_cases h1 : k / 4 < n
      · rw [may_num (n := n) (hN0 _ h1) (fun h2 => ht (Or.inl h2))]
      · rw [decide_eq_false h1]; rfl
    rw [← hcv]
    cases hc : cv n a r st tok k with
    | false => rfl
    | true =>
      have ok := cv_ok hn hv hc
      rw [may_num (n := n) (hN0 _ ok.1) (fun h2 => ht (Or.inr h2)), wok_num hn d (nxS st k) (nxT tok f k) (nxT tk' f k) ok.2.2.2.1 (numO_aft hn hv ok.1 ok.2.1 hN0) (fun h2 => by rw [ht h2])]
theorem WK_num {n r o f : Nat} {a b : Nat → Nat} {st tok tk' : Nat} (hn : n ≤ 4) (hv : VS n st) (hN0 : ∀ p, p < n → numO a st p = numO b st p) (ht : (2 ≤ r ∨ 2 ≤ o) → tok = tk') : WK n a r o f st tok = WK n b r o f st tk' := wok_num hn 12 st tok tk' hv hN0 ht
/-- within, as a position has it -/
abbrev WP (n : Nat) (net : Nat → Nat) (r o st t2 t3 : Nat) : Bool := WK n net r o (ofR r o) st (tkR (ofR r o) t2 t3)
theorem ofR_2 {r o : Nat} (hr : r < 4) (ho : o < 4) (hm : mixR r o) (h : 2 ≤ r ∨ 2 ≤ o) : (ofR r o = 2 ∧ (r = 2 ∨ o = 2)) ∨ (ofR r o = 3 ∧ (r = 3 ∨ o = 3)) := by
  unfold mixR at hm; unfold ofR
  split <;> omega
def WI (K : Nat → Nat) : Prop := ∀ j, j < 8192 → K j ≠ 0 → ∀ n net st t2 t3 P r o, 0 < n → n ≤ 4 → VS n st → t2 < 16 → t3 < 16 → Ps n net st t2 t3 P → r < 4 → o < 4 → mixR r o → keyF P r o = K j → WP n net r o st t2 t3 = true
theorem WI_put {K : Nat → Nat} {s1 n : Nat} {net : Nat → Nat} {st t2 t3 P r o : Nat} (h : WI K) (hn : n ≤ 4) (hv : VS n st) (h2 : t2 < 16) (h3 : t3 < 16) (hp : Ps n net st t2 t3 P) (hr : r < 4) (ho : o < 4) (hx : WP n net r o st t2 t3 = true) : WI (va_up K s1 (keyF P r o)) := by
  intro j hj hne n' net' st' t2' t3' P' r' o' a1 a2 a3 a4 a5 a6 a7 a8 a9 e
  by_cases ej : j = s1
  · subst ej
    rw [vu_s] at e
    obtain ⟨e1, e2, e3, e4, e5, e6, e7⟩ := key_eq a6 hp (VS_lt a2 a3) (VS_lt hn hv) a8 ho e
    subst e1; subst e2; subst e3; subst e4
    have : WP n' net' r' o' st' t2' t3' = WP n' net r' o' st' t2 t3 := WK_num a2 a3 (fun p hp1 => e5 p hp1 (by omega)) (fun hc => by
      rcases ofR_2 a7 a8 a9 hc with ⟨e8, e9⟩ | ⟨e8, e9⟩
      · rw [e8]; exact e6 e9 a4 h2
      · rw [e8]; exact e7 e9 a5 h3)
    rw [this]; exact hx
  · rw [vu_n _ _ ej] at hne e
    exact h j hj hne n' net' st' t2' t3' P' r' o' a1 a2 a3 a4 a5 a6 a7 a8 a9 e
theorem WI_sub {K Ka : Nat → Nat} (h : WI K) (hs : ∀ j, j < 8192 → Ka j ≠ 0 → Ka j = K j) : WI Ka := by
  intro j hj hne n net st t2 t3 P r o a1 a2 a3 a4 a5 a6 a7 a8 a9 e
  exact h j hj (by rw [← hs j hj hne]; exact hne) n net st t2 t3 P r o a1 a2 a3 a4 a5 a6 a7 a8 a9 (by rw [e, hs j hj hne])
theorem may_tk {net : Nat → Nat} {r o st t2 t3 p q : Nat} (hr : r < 4) (ho : o < 4) (hm : mixR r o) : mayM net r st (tkR (ofR r o) t2 t3) p q = mayM net r st (tkR r t2 t3) p q ∧ mayM net o st (tkR (ofR r o) t2 t3) p q = mayM net o st (tkR o t2 t3) p q := by
  unfold mixR at hm
  refine ⟨may_num (n := 0) rfl (fun h => ?_), may_num (n := 0) rfl (fun h => ?_)⟩
  · have : ofR r o = r := by unfold ofR; rw [if_pos (by omega)]
    rw [this]
  · have : ofR r o = o := by unfold ofR; split <;> omega
    rw [this]
/-- one step -/
theorem WP_iff {n : Nat} {net : Nat → Nat} {r o st t2 t3 : Nat} (hn : n ≤ 4) (hr : r < 4) (ho : o < 4) (hm : mixR r o) (hv : VS n st) : WP n net r o st t2 t3 = true ↔ ∀ p, p < n → ∀ q, q < n → mayM net r st (tkR r t2 t3) p q = true → mayM net o st (tkR o t2 t3) p q = true ∧ WP n net r o (aft st p q) (tokA t2 2 p q) (tokA t3 3 p q) = true := by
  have ch : ∀ p q, p < n → q < n → WK n net r o (ofR r o) (aft st p q) (tokA (tkR (ofR r o) t2 t3) (ofR r o) p q) = WP n net r o (aft st p q) (tokA t2 2 p q) (tokA t3 3 p q) := fun p q hp hq => WK_num hn (VS_aft hn hp hq hv) (fun _ _ => rfl) (fun hc => by
    rcases ofR_2 hr ho hm hc with ⟨e8, _⟩ | ⟨e8, _⟩ <;> rw [e8] <;> rfl)
  rw [WK_iff hn hv]
  constructor
  · intro h p hp q hq hmay
    have := h (4 * p + q) (by omega) (by unfold cv; rw [show (4 * p + q) / 4 = p by omega, show (4 * p + q) % 4 = q by omega, decide_eq_true hp, decide_eq_true hq, (may_tk hr ho hm).1, hmay]; rfl)
    have e1 : nxS st (4 * p + q) = aft st p q := by
      show aft st ((4 * p + q) / 4) ((4 * p + q) % 4) = _
      rw [show (4 * p + q) / 4 = p by omega, show (4 * p + q) % 4 = q by omega]
    have e2 : nxT (tkR (ofR r o) t2 t3) (ofR r o) (4 * p + q) = tokA (tkR (ofR r o) t2 t3) (ofR r o) p q := by
      show tokA _ _ ((4 * p + q) / 4) ((4 * p + q) % 4) = _
      rw [show (4 * p + q) / 4 = p by omega, show (4 * p + q) % 4 = q by omega]
    rw [e1, e2, ch p q hp hq, show (4 * p + q) / 4 = p by omega, show (4 * p + q) % 4 = q by omega, (may_tk hr ho hm).2] at this
    exact this
  · intro h k hk hc
    have ok := cv_ok hn hv hc
    have := h (k / 4) ok.1 (k % 4) ok.2.1 (by rw [← (may_tk hr ho hm).1]; exact ok.2.2.1)
    rw [← ch _ _ ok.1 ok.2.1, ← (may_tk hr ho hm).2] at this
    exact this
/-- the two sets of whom p may ring -/
theorem whM_in {n : Nat} {net : Nat → Nat} {st t2 t3 P r o p : Nat} (hn : n ≤ 4) (hv : VS n st) (hb : NB n net) (h : Ps n net st t2 t3 P) (hr : r < 4) (ho : o < 4) (hp : p < n) : (whM P r p &&& (whM P o p ^^^ 4294967295)) = 0 ↔ ∀ q, q < n → mayM net r st (tkR r t2 t3) p q = true → mayM net o st (tkR o t2 t3) p q = true := by
  rw [Ps_may hn hv hb h hr hp, Ps_may hn hv hb h ho hp]
  constructor
  · intro e q hq hm
    have := congrArg (fun z => z.testBit q) e
    simp only [Nat.testBit_and, Nat.zero_testBit] at this
    rw [not_tb (by omega), maySet_tb, maySet_tb, decide_eq_true hq, hm] at this
    simpa using this
  · intro hq
    apply Nat.eq_of_testBit_eq; intro i
    rw [Nat.testBit_and, Nat.zero_testBit, maySet_tb]
    by_cases hi : i < n
    · rw [not_tb (by omega), maySet_tb, decide_eq_true hi]
      cases h1 : mayM net r st (tkR r t2 t3) p i with
      | false => rfl
      | true => rw [hq i hi h1]; rfl
    · rw [decide_eq_false hi]; rfl
