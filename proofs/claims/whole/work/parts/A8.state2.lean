/-! ===== nets by a number; sets of numbers; counts ===== -/
theorem vQ_tb {x b pp i : Nat} : ∀ k, (vQ x b pp k).testBit i = (decide (i < k) && !decide (i = pp) && x.testBit (b + cQ pp i))
  | 0 => by simp [vQ]
  | k + 1 => by
    have ih := vQ_tb (x := x) (b := b) (pp := pp) (i := i) k
    simp only [vQ]
    by_cases e : k = pp
    · rw [if_pos e, ih]
      by_cases e2 : i = k
      · subst e2; rw [decide_eq_true e]; simp
      · rw [decide_eq_decide.mpr (show i < k + 1 ↔ i < k by omega)]
    · rw [if_neg e, Nat.testBit_or, ih, tb_v, Nat.testBit_shiftLeft]
      by_cases e2 : i = k
      · subst e2
        rw [decide_eq_false (Nat.lt_irrefl i), decide_eq_true (Nat.lt_succ_self i), decide_eq_false e, decide_eq_true (Nat.le_refl i), Nat.sub_self]
        cases x.testBit (b + cQ pp i) <;> simp
      · rw [decide_eq_decide.mpr (show i < k + 1 ↔ i < k by omega)]
        have : (decide (i ≥ k) && ((x.testBit (b + cQ pp k)).toNat).testBit (i - k)) = false := by
          rcases Nat.lt_or_ge i k with h | h
          · rw [decide_eq_false (by omega)]; rfl
          · have h2 : ((x.testBit (b + cQ pp k)).toNat).testBit (i - k) = false := Nat.testBit_lt_two_pow (Nat.lt_of_lt_of_le (show (x.testBit (b + cQ pp k)).toNat < 2 ^ 1 by cases x.testBit (b + cQ pp k) <;> decide) (Nat.pow_le_pow_right (by decide) (by omega)))
            rw [h2, Bool.and_false]
        rw [this, Bool.or_false]
theorem NX_ch {n x : Nat} (hn : n ≤ 4) : NX n (ntC n x) (chN n x) := by
  refine ⟨nsP_lt hn n hn, fun p hp => ?_⟩
  have h0 : (if p < n then ntC n x p ||| 1 <<< p else 0) < 16 := by
    split
    · exact or4 (vQ_lt _ _ _ n hn) (one_shl (n := 4) hp)
    · decide
  refine eq4 (prt_lt _ _) h0 (fun i hi => ?_)
  rw [prt_tb, decide_eq_true hi, Bool.true_and, nsP_tb hn n p i hi]
  by_cases hpn : p < n
  · rw [if_pos hpn, Nat.testBit_or, Nat.one_shiftLeft, Nat.testBit_two_pow, decide_eq_true hpn, Bool.true_and]
    unfold ntC chB
    rw [vQ_tb]
    by_cases e : p = i
    · subst e; rw [decide_eq_true rfl, decide_eq_true hpn]; simp
    · rw [decide_eq_false e, decide_eq_false (show ¬ i = p from fun h => e h.symm)]; simp
  · rw [if_neg hpn, decide_eq_false hpn, Nat.zero_testBit]; rfl
theorem NB_nt {n x : Nat} : NB n (ntC n x) := fun p _ i hi => by
  unfold ntC at hi
  rw [vQ_tb] at hi
  simp only [Bool.and_eq_true, decide_eq_true_eq] at hi
  exact hi.1.1
theorem own_nt {n x : Nat} : ∀ p, p < n → (ntC n x p).testBit p = false := fun p _ => by
  unfold ntC; rw [vQ_tb]; simp
theorem nt_16 {n x : Nat} (hn : n ≤ 4) : ∀ j, ntC n x j < 16 := fun j => vQ_lt _ _ _ n hn
/-- the bridges -/
theorem br_set {n : Nat} {net : Nat → Nat} {x : Nat} (h1 : 0 < n) (hn : n ≤ 4) (h : NX n net x) (hb : NB n net) (ho : ∀ p, p < n → (net p).testBit p = false) (h16 : ∀ j, net j < 16) : ∀ j, j < 16 → (nsP (brB n x) n n).testBit j = bridgeB n net j := fun j hj => by
  have e := nsP_tb (B := brB n x) hn n (j / 4) (j % 4) (by omega)
  rw [show 4 * (j / 4) + j % 4 = j by omega] at e
  rw [e]
  unfold bridgeB
  by_cases a1 : j / 4 < n
  · by_cases a2 : j % 4 < n
    · rw [decide_eq_true a1, decide_eq_true a2]
      unfold brB
      by_cases a3 : j / 4 = j % 4
      · rw [decide_eq_false (fun h9 => h9 a3)]; rfl
      · rw [decide_eq_true a3]
        have hx := NX_bit (q := j % 4) h a1 (by omega) (by omega)
        rw [decide_eq_false a3, Bool.or_false] at hx
        cases hbit : (net (j / 4)).testBit (j % 4) with
        | false =>
          rw [hbit] at hx
          rw [decide_eq_false (show ¬ (x &&& 1 <<< (4 * (j / 4) + j % 4) ≠ 0) from fun h9 => h9 (and_tb.mpr hx))]; rfl
        | true =>
          rw [hbit] at hx
          rw [decide_eq_true (show x &&& 1 <<< (4 * (j / 4) + j % 4) ≠ 0 from fun h9 => by rw [and_tb.mp h9] at hx; cases hx), joC_eq h1 hn (NX_clr hn a1 a2 a3 h16 h hbit) (NB_flip a2 hb) (own_flip a3 ho) (flip_lt h16 (by omega))]; rfl
    · rw [decide_eq_false a2]; simp
  · rw [decide_eq_false a1]; simp
/-- what mends -/
def mnB (n : Nat) (net : Nat → Nat) (x r p q : Nat) : Bool := !x.testBit (4 * p + q) && decide (verd (CN n (flip net p q) r (startN n) (1 <<< n - 1)) = 2)
theorem mn_set {n : Nat} {net : Nat → Nat} {x r : Nat} (hn : n ≤ 4) (h : NX n net x) : ∀ j, j < 16 → (nsP (mnB n net x r) n n).testBit j = mendB n net r j := fun j hj => by
  have e := nsP_tb (B := mnB n net x r) hn n (j / 4) (j % 4) (by omega)
  rw [show 4 * (j / 4) + j % 4 = j by omega] at e
  rw [e]
  unfold mendB
  by_cases a1 : j / 4 < n
  · by_cases a2 : j % 4 < n
    · rw [decide_eq_true a1, decide_eq_true a2]
      unfold mnB
      rw [NX_bit (q := j % 4) h a1 (by omega) (by omega)]
      by_cases a3 : j / 4 = j % 4
      · rw [decide_eq_true a3]; simp [a3]
      · rw [decide_eq_false a3, decide_eq_true a3, Bool.or_false]; rfl
    · rw [decide_eq_false a2]; simp
  · rw [decide_eq_false a1]; simp
/-- numbers counted -/
theorem bits_row (x k : Nat) : bitsN x (4 * (k + 1)) = bitsN x (4 * k) + bitsN (prt x k) 4 := by
  have e : ∀ i, i < 4 → (prt x k).testBit i = x.testBit (4 * k + i) := fun i hi => by rw [prt_tb, decide_eq_true hi, Bool.true_and]
  have q3 : bitsN x (4 * k + 4) = bitsN x (4 * k + 3) + (x.testBit (4 * k + 3)).toNat := bitsN_tb x (4 * k + 3)
  have q2 : bitsN x (4 * k + 3) = bitsN x (4 * k + 2) + (x.testBit (4 * k + 2)).toNat := bitsN_tb x (4 * k + 2)
  have q1 : bitsN x (4 * k + 2) = bitsN x (4 * k + 1) + (x.testBit (4 * k + 1)).toNat := bitsN_tb x (4 * k + 1)
  have q0 : bitsN x (4 * k + 1) = bitsN x (4 * k) + (x.testBit (4 * k)).toNat := bitsN_tb x (4 * k)
  have r3 : bitsN (prt x k) 4 = bitsN (prt x k) 3 + ((prt x k).testBit 3).toNat := bitsN_tb _ 3
  have r2 : bitsN (prt x k) 3 = bitsN (prt x k) 2 + ((prt x k).testBit 2).toNat := bitsN_tb _ 2
  have r1 : bitsN (prt x k) 2 = bitsN (prt x k) 1 + ((prt x k).testBit 1).toNat := bitsN_tb _ 1
  have r0 : bitsN (prt x k) 1 = 0 + ((prt x k).testBit 0).toNat := bitsN_tb _ 0
  rw [e 0 (by decide)] at r0; rw [e 1 (by decide)] at r1; rw [e 2 (by decide)] at r2; rw [e 3 (by decide)] at r3
  rw [Nat.add_zero] at r0
  rw [show 4 * (k + 1) = 4 * k + 4 by omega]; omega
theorem bits_16 {a : Nat} (h : a < 16) : bitsN a 16 = bitsN a 4 := by
  have : ∀ a, a < 16 → bitsN a 16 = bitsN a 4 := by decide +kernel
  exact this a h
theorem num_cnt {n : Nat} {net : Nat → Nat} {x : Nat} (hn : n ≤ 4) (h : NX n net x) (ho : ∀ p, p < n → (net p).testBit p = false) (h16 : ∀ j, net j < 16) : bitsN x 16 = numK net n + n := by
  have key : ∀ k, k ≤ n → bitsN x (4 * k) = numK net k + k := fun k => by
    induction k with
    | zero => intro _; rfl
    | succ k ih =>
      intro hk
      rw [bits_row, ih (by omega), h.2 k (by omega), if_pos (by omega), bits_put (ho k (by omega)), if_pos (by omega)]
      simp only [numK]
      rw [bits_16 (h16 k)]; omega
  have rest : ∀ d, n + d ≤ 4 → bitsN x (4 * (n + d)) = bitsN x (4 * n) := fun d => by
    induction d with
    | zero => intro _; rfl
    | succ d ih =>
      intro hd
      rw [show n + (d + 1) = (n + d) + 1 by omega, bits_row, ih (by omega), h.2 (n + d) (by omega), if_neg (by omega)]
      rfl
  have := rest (4 - n) (by omega)
  rw [show n + (4 - n) = 4 by omega] at this
  rw [show (16 : Nat) = 4 * 4 from rfl, this]; exact key n (Nat.le_refl n)
theorem exp_cnt {n : Nat} {net : Nat → Nat} {st t2 t3 P : Nat} (h : Ps n net st t2 t3 P) : ∀ k, k ≤ 4 → exK P k = expK st n k
  | 0, _ => rfl
  | k + 1, hk => by simp only [exK, expK]; rw [exp_cnt h k (by omega), h.sec k (by omega), h.ps]
/-! ===== the state behind the calls ===== -/
theorem tok_lt {n r : Nat} {cP cQ : Nat → Nat} (hn : n ≤ 4) : ∀ k, (∀ c, c < k → cQ c < 4) → tokS n r cP cQ k < 16
  | 0, _ => by have := shl_le4 hn; show 1 <<< n - 1 < 16; omega
  | k + 1, h => tokA_lt (tok_lt hn k (fun c hc => h c (by omega))) (h k (by omega))
theorem Rc_st {n f : Nat} {cP cQ : Nat → Nat} (h1 : 0 < n) (hn : n ≤ 4) (hf : f = 0 ∨ f = 2 ∨ f = 3) : ∀ k, (∀ c, c < k → cP c < n ∧ cQ c < n ∧ cP c ≠ cQ c) → Rc n f (stS n cP cQ k) (tq f (tokS n 2 cP cQ k) (tokS n 3 cP cQ k))
  | 0, _ => by
    have e : tq f (tokS n 2 cP cQ 0) (tokS n 3 cP cQ 0) = tF n f := by rcases hf with rfl | rfl | rfl <;> rfl
    rw [e]; exact Rc_start h1 hn hf
  | k + 1, h => by
    have hk := h k (by omega)
    have h2 : ∀ c, c < k → cP c < n ∧ cQ c < n := fun c hc => ⟨(h c (by omega)).1, (h c (by omega)).2.1⟩
    have h4 : ∀ c, c < k → cQ c < 4 := fun c hc => by have := (h2 c hc).2; omega
    show Rc n f (aft (stS n cP cQ k) (cP k) (cQ k)) (tq f (tokA (tokS n 2 cP cQ k) 2 (cP k) (cQ k)) (tokA (tokS n 3 cP cQ k) 3 (cP k) (cQ k)))
    rw [tq_aft hf]
    exact Rc_aft hn hf (VS_stS hn k h2) (tq_lt (tok_lt hn k h4) (tok_lt hn k h4)) hk.1 hk.2.1 hk.2.2 (Rc_st h1 hn hf k (fun c hc => h c (by omega)))
section CS2
variable {n k : Nat} {net : Nat → Nat} {Z : Nat → Nat → Nat} {C : Nat → Nat}
theorem CS.q4 (h : CS n k net Z C) : ∀ c, c < k → Z 3 c < 4 := fun c hc => by have := (h.pq c hc).2.1; have := h.n4; omega
theorem CS.pst (h : CS n k net Z C) (h1 : 0 < n) (r o : Nat) : Pst n net r o (stS n (Z 2) (Z 3) k) (tokS n 2 (Z 2) (Z 3) k) (tokS n 3 (Z 2) (Z 3) k) (C 4) :=
  ⟨h.nw, h.vs k (Nat.le_refl k), tok_lt h.n4 k h.q4, tok_lt h.n4 k h.q4, Rc_st h1 h.n4 (fR_or r o) k h.pq⟩
theorem CS.xn (h : CS n k net Z C) : NX n net (C 3 >>> 16 &&& 65535) := NX_of h.n4 h.st
theorem CS.p3 (h : CS n k net Z C) : pN (C 3) = n := h.st.ps
theorem CS.p4 (h : CS n k net Z C) : pN (C 4) = n := h.nw.ps
theorem CS.now (h : CS n k net Z C) (r : Nat) (hr : r < 4) : CN n net r (stS n (Z 2) (Z 3) k) (tkR r (tokS n 2 (Z 2) (Z 3) k) (tokS n 3 (Z 2) (Z 3) k)) = NOW n (Z 2) (Z 3) k r net := CN_num h.n4 (h.vs k (Nat.le_refl k)) (fun _ _ => rfl) (fun h2 => by
  rcases (by omega : r = 2 ∨ r = 3) with e | e <;> subst e <;> rfl)
theorem CS.mayT (h : CS n k net Z C) (r : Nat) (hr : r < 4) {p q : Nat} : mayM net r (stS n (Z 2) (Z 3) k) (tkR r (tokS n 2 (Z 2) (Z 3) k) (tokS n 3 (Z 2) (Z 3) k)) p q = mayM net r (stS n (Z 2) (Z 3) k) (tokS n r (Z 2) (Z 3) k) p q := may_num (n := n) rfl (fun h2 => by
  rcases (by omega : r = 2 ∨ r = 3) with e | e <;> subst e <;> rfl)
theorem maySet_c {a b : Nat → Nat} {r st t u p : Nat} (h : ∀ q, mayM a r st t p q = mayM b r st u p q) : ∀ k, maySet a r st t p k = maySet b r st u p k
  | 0 => rfl
  | k + 1 => by simp only [maySet]; rw [maySet_c h k, h k]
theorem CS.may (h : CS n k net Z C) {r p : Nat} (hr : r < 4) (hp : p < n) : whM (C 4) r p = maySet net r (stS n (Z 2) (Z 3) k) (tokS n r (Z 2) (Z 3) k) p n := by
  rw [Ps_may h.n4 (h.vs k (Nat.le_refl k)) h.nb h.nw hr hp]
  exact maySet_c (fun q => h.mayT r hr) n
theorem CS.within (h : CS n k net Z C) {r o : Nat} (hr : r < 4) (ho : o < 4) (hm : mixR r o) : WP n net r o (stS n (Z 2) (Z 3) k) (tokS n 2 (Z 2) (Z 3) k) (tokS n 3 (Z 2) (Z 3) k) = WK n net r o (ofR r o) (stS n (Z 2) (Z 3) k) (tokS n (ofR r o) (Z 2) (Z 3) k) := WK_num h.n4 (h.vs k (Nat.le_refl k)) (fun _ _ => rfl) (fun h2 => by
  rcases ofR_2 hr ho hm h2 with ⟨e, _⟩ | ⟨e, _⟩ <;> rw [e] <;> rfl)
theorem CS.joined (h : CS n k net Z C) (h1 : 0 < n) : joC n (C 3 >>> 16 &&& 65535) = joinM net n := joC_eq h1 h.n4 h.xn h.nb h.own h.n16
theorem CS.sun (h : CS n k net Z C) : suC n (C 3 >>> 16 &&& 65535) = sunM net n := suC_eq h.n4 h.xn h.own h.n16
/-- numbers at the start -/
theorem CS.num0 (h : CS n k net Z C) {p : Nat} (hp : p < n) : nO (C 3) p = net p ||| 1 <<< p := by
  have hn := h.n4
  have := h.st.num p (by omega)
  rw [if_pos hp] at this
  rw [this]
  show numS net (of4 (startN n) p) 4 = _
  rw [start_of n hn p (by omega), if_pos hp, numS_one (by omega)]
theorem CS.numk (h : CS n k net Z C) {p : Nat} (hp : p < n) : nO (C 4) p = numO net (stS n (Z 2) (Z 3) k) p := by
  have hn := h.n4
  have := h.nw.num p (by omega)
  rw [if_pos hp] at this; exact this
end CS2
/-! kinds of calls -/
theorem kd_0 : ∀ a, a < 16 → ∀ b, b < 16 → (decide (bitsN ((a ||| b) &&& (a ^^^ 4294967295)) 16 + bitsN ((a ||| b) &&& (b ^^^ 4294967295)) 16 = 0) == decide (a = b)) = true := by decide +kernel
theorem kd_eq {n : Nat} {cP cQ : Nat → Nat} {c : Nat} (hst : stS n cP cQ c < 65536) (hp : cP c < 4) (hq : cQ c < 4) : bitsN (lrn n cP cQ c (cP c)) 16 + bitsN (lrn n cP cQ c (cQ c)) 16 = 0 ↔ of4 (stS n cP cQ c) (cP c) = of4 (stS n cP cQ c) (cQ c) := by
  have e : ∀ w, w = cP c ∨ w = cQ c → w < 4 → lrn n cP cQ c w = (of4 (stS n cP cQ c) (cP c) ||| of4 (stS n cP cQ c) (cQ c)) &&& (of4 (stS n cP cQ c) w ^^^ 4294967295) := fun w hw h4 => by
    show of4 (aft (stS n cP cQ c) (cP c) (cQ c)) w &&& _ = _
    rw [of4_aft hst hp hq h4, if_pos hw]
  rw [e _ (Or.inl rfl) hp, e _ (Or.inr rfl) hq]
  have := kd_0 _ (of4_lt (stS n cP cQ c) (cP c)) _ (of4_lt (stS n cP cQ c) (cQ c))
  rw [beq_iff_eq] at this
  exact decide_eq_decide.mp this
theorem st_cong {n : Nat} {a b a' b' : Nat → Nat} : ∀ k, (∀ c, c < k → a c = a' c ∧ b c = b' c) → stS n a b k = stS n a' b' k
  | 0, _ => rfl
  | k + 1, h => by simp only [stS]; rw [st_cong k (fun c hc => h c (by omega)), (h k (by omega)).1, (h k (by omega)).2]
theorem tk_cong {n r : Nat} {a b a' b' : Nat → Nat} : ∀ k, (∀ c, c < k → a c = a' c ∧ b c = b' c) → tokS n r a b k = tokS n r a' b' k
  | 0, _ => rfl
  | k + 1, h => by simp only [tokS]; rw [tk_cong k (fun c hc => h c (by omega)), (h k (by omega)).1, (h k (by omega)).2]
theorem PsK_cong {n : Nat} {net a b a' b' : Nat → Nat} {k P : Nat} (h : ∀ c, c < k → a c = a' c ∧ b c = b' c) : PsK n net a b k P ↔ PsK n net a' b' k P := by
  unfold PsK; rw [st_cong k h, tk_cong k h, tk_cong k h]
theorem kn_cong {n : Nat} {a b a' b' : Nat → Nat} {c : Nat} (h : ∀ i, i < c + 1 → a i = a' i ∧ b i = b' i) : knd n a b c = knd n a' b' c := by
  unfold knd lrn
  rw [st_cong (c + 1) h, st_cong c (fun i hi => h i (by omega)), (h c (by omega)).1, (h c (by omega)).2]
/-- a call more -/
theorem CS_call {n k : Nat} {net : Nat → Nat} {Z : Nat → Nat → Nat} {C : Nat → Nat} {p q : Nat} {v : Nat → Nat} {C2 : Nat → Nat} (h : CS n k net Z C) (hk : k < 12) (hp : p < n) (hq : q < n) (hpq : p ≠ q) (v2 : v 2 = p) (v3 : v 3 = q) (v4 : v 4 = C 4) (v5 : v 5 = rng (C 4) p q)
    (v1 : v 1 = if of4 (C 4) p = of4 (C 4) q then 0 else if of4 (rng (C 4) p q) p = 1 <<< n - 1 then 2 else 1) (c2 : C2 2 = k + 1) (c3 : C2 3 = C 3) (c4 : C2 4 = rng (C 4) p q) : CS n (k + 1) net (fun c => va_up (Z c) k (v c)) C2 := by
  have hn := h.n4
  have eZ : ∀ m, m ≤ k → ∀ c, c < m → va_up (Z 2) k (v 2) c = Z 2 c ∧ va_up (Z 3) k (v 3) c = Z 3 c := fun m hm c hc => ⟨vu_n _ _ (by omega), vu_n _ _ (by omega)⟩
  have e2 : va_up (Z 2) k (v 2) k = p := by rw [vu_s, v2]
  have e3 : va_up (Z 3) k (v 3) k = q := by rw [vu_s, v3]
  have hv := h.vs k (Nat.le_refl k)
  have hr := Ps_ring hn hv h.nw hp hq hpq
  have es : stS n (va_up (Z 2) k (v 2)) (va_up (Z 3) k (v 3)) k = stS n (Z 2) (Z 3) k := st_cong k (eZ k (Nat.le_refl k))
  have hs1 : stS n (va_up (Z 2) k (v 2)) (va_up (Z 3) k (v 3)) (k + 1) = aft (stS n (Z 2) (Z 3) k) p q := by
    show aft (stS n _ _ k) _ _ = _
    rw [es, e2, e3]
  refine ⟨⟨hn, by omega⟩, h.2.1, fun c hc => ?_, c2, ?_, ?_, fun c hc => ?_⟩
  · rcases (by omega : c < k ∨ c = k) with h1 | h1
    · show va_up (Z 2) k (v 2) c < n ∧ va_up (Z 3) k (v 3) c < n ∧ va_up (Z 2) k (v 2) c ≠ va_up (Z 3) k (v 3) c
      rw [vu_n _ _ (by omega), vu_n _ _ (by omega)]; exact h.pq c h1
    · subst h1
      show va_up (Z 2) c (v 2) c < n ∧ va_up (Z 3) c (v 3) c < n ∧ va_up (Z 2) c (v 2) c ≠ va_up (Z 3) c (v 3) c
      rw [e2, e3]; exact ⟨hp, hq, hpq⟩
  · rw [c3]; exact h.st
  · rw [c4]
    show Ps n net (stS n (va_up (Z 2) k (v 2)) (va_up (Z 3) k (v 3)) (k + 1)) (tokA (tokS n 2 (va_up (Z 2) k (v 2)) (va_up (Z 3) k (v 3)) k) 2 (va_up (Z 2) k (v 2) k) (va_up (Z 3) k (v 3) k)) (tokA (tokS n 3 (va_up (Z 2) k (v 2)) (va_up (Z 3) k (v 3)) k) 3 (va_up (Z 2) k (v 2) k) (va_up (Z 3) k (v 3) k)) _
    rw [hs1, tk_cong k (eZ k (Nat.le_refl k)), tk_cong k (eZ k (Nat.le_refl k)), e2, e3]; exact hr
  · rcases (by omega : c < k ∨ c = k) with h1 | h1
    · have hc := h.cl c h1
      show va_up (Z 1) k (v 1) c = knd n (va_up (Z 2) k (v 2)) (va_up (Z 3) k (v 3)) c ∧ PsK n net (va_up (Z 2) k (v 2)) (va_up (Z 3) k (v 3)) c (va_up (Z 4) k (v 4) c) ∧ va_up (Z 5) k (v 5) c = rng (va_up (Z 4) k (v 4) c) (va_up (Z 2) k (v 2) c) (va_up (Z 3) k (v 3) c)
      rw [vu_n _ _ (by omega), vu_n _ _ (by omega), vu_n _ _ (by omega), vu_n _ _ (by omega), vu_n _ _ (by omega), kn_cong (a' := Z 2) (b' := Z 3) (eZ (c + 1) (by omega)), PsK_cong (a' := Z 2) (b' := Z 3) (eZ c (by omega))]
      exact hc
    · subst h1
      show va_up (Z 1) c (v 1) c = knd n (va_up (Z 2) c (v 2)) (va_up (Z 3) c (v 3)) c ∧ PsK n net (va_up (Z 2) c (v 2)) (va_up (Z 3) c (v 3)) c (va_up (Z 4) c (v 4) c) ∧ va_up (Z 5) c (v 5) c = rng (va_up (Z 4) c (v 4) c) (va_up (Z 2) c (v 2) c) (va_up (Z 3) c (v 3) c)
      refine ⟨?_, ?_, ?_⟩
      · rw [vu_s, v1]
        have hst := VS_lt hn hv
        have hk := kd_eq (n := n) (cP := va_up (Z 2) c (v 2)) (cQ := va_up (Z 3) c (v 3)) (c := c) (by rw [es]; exact hst) (by rw [e2]; omega) (by rw [e3]; omega)
        rw [es, e2, e3] at hk
        have hx : of4 (C 4) p = of4 (C 4) q ↔ of4 (stS n (Z 2) (Z 3) c) p = of4 (stS n (Z 2) (Z 3) c) q := by
          rw [h.nw.sec p (by omega), h.nw.sec q (by omega)]
        have hy : of4 (rng (C 4) p q) p = of4 (stS n (va_up (Z 2) c (v 2)) (va_up (Z 3) c (v 3)) (c + 1)) p := by
          rw [hs1, hr.sec p (by omega)]
        unfold knd
        rw [e2, e3]
        by_cases hz : of4 (C 4) p = of4 (C 4) q
        · rw [if_pos hz, if_pos (hk.mpr (hx.mp hz))]
        · rw [if_neg hz, if_neg (fun h9 => hz (hx.mpr (hk.mp h9))), hy]
      · rw [vu_s, v4, PsK_cong (a' := Z 2) (b' := Z 3) (eZ c (Nat.le_refl c))]; exact h.nw
      · rw [vu_s, vu_s, e2, e3, v4, v5]
/-- the last call taken back -/
theorem CS_back {n k : Nat} {net : Nat → Nat} {Z : Nat → Nat → Nat} {C C2 : Nat → Nat} (h : CS n (k + 1) net Z C) (c2 : C2 2 = k) (c3 : C2 3 = C 3) (c4 : C2 4 = Z 4 k) : CS n k net Z C2 :=
  ⟨⟨h.n4, by have := h.k12; omega⟩, h.2.1, fun c hc => h.pq c (by omega), c2, by rw [c3]; exact h.st, by rw [c4]; exact (h.cl k (by omega)).2.1, fun c hc => h.cl c (by omega)⟩
/-- a net begun -/
theorem CS_net {n : Nat} {net : Nat → Nat} {Z : Nat → Nat → Nat} {C2 : Nat → Nat} {x : Nat} (hn : n ≤ 4) (h16 : ∀ j, net j < 16) (hb : NB n net) (ho : ∀ p, p < n → (net p).testBit p = false) (hx : NX n net x) (c2 : C2 2 = 0) (c3 : C2 3 = frS n x n) (c4 : C2 4 = frS n x n) : CS n 0 net Z C2 :=
  ⟨⟨hn, by omega⟩, ⟨h16, hb, ho⟩, fun c hc => absurd hc (by omega), c2, by rw [c3]; exact Ps_first hn hx, by rw [c4]; exact Ps_first hn hx, fun c hc => absurd hc (by omega)⟩
theorem CS_C {n k : Nat} {net : Nat → Nat} {Z : Nat → Nat → Nat} {C C2 : Nat → Nat} (h : CS n k net Z C) (c2 : C2 2 = C 2) (c3 : C2 3 = C 3) (c4 : C2 4 = C 4) : CS n k net Z C2 :=
  ⟨h.1, h.2.1, h.2.2.1, by rw [c2]; exact h.cnt, by rw [c3]; exact h.st, by rw [c4]; exact h.nw, h.cl⟩
