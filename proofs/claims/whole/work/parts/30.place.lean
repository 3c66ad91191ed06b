/-! ===== places; what the rows of the check hold of a place ===== -/
theorem vu_s {α : Type} (f : Nat → α) (k : Nat) (v : α) : va_up f k v k = v := by simp [va_up]
theorem vu_n {α : Type} (f : Nat → α) {j k : Nat} (v : α) (h : j ≠ k) : va_up f k v j = f j := by simp [va_up, h]
theorem ud_s (f : Nat → Int32) (k : Nat) (v : Int32) : upd f k v k = v := by simp [upd]
theorem ud_n (f : Nat → Int32) {j k : Nat} (v : Int32) (h : j ≠ k) : upd f k v j = f j := by simp [upd, h]
def cod (p s : Nat) : Nat := (s &&& (1 <<< p - 1)) ||| s >>> (p + 1) <<< p
theorem cod_lt : ∀ p, p < 4 → ∀ s, s < 16 → cod p s < 8 := by decide +kernel
theorem cod_inj0 : ∀ p, p < 4 → ∀ s, s < 16 → ∀ s2, s2 < 16 → (!(s.testBit p) || !(s2.testBit p) || !(cod p s == cod p s2) || (s == s2)) = true := by decide +kernel
theorem cod_inj (p : Nat) (hp : p < 4) (s : Nat) (hs : s < 16) (s2 : Nat) (hs2 : s2 < 16) (h1 : s.testBit p = true) (h2 : s2.testBit p = true) (h3 : cod p s = cod p s2) : s = s2 := by
  have h := cod_inj0 p hp s hs s2 hs2
  rw [h1, h2, h3] at h
  simpa using h
theorem shl3_or {x c : Nat} (h : c < 8) : x <<< 3 ||| c = 8 * x + c := by
  rw [Nat.shiftLeft_eq, show x * 2 ^ 3 = 2 ^ 3 * x by omega]
  exact (Nat.two_pow_add_eq_or_of_lt (i := 3) h x).symm
theorem plS_s {st tok p : Nat} (hp : p < 4) : plS st tok (p + 1) = 8 * plS st tok p + cod p (of4 st p) := by
  simp only [plS]
  rw [Nat.or_assoc]
  exact shl3_or (cod_lt p hp _ (of4_lt st p))
theorem plc_eq {st tok : Nat} (ht : tok < 16) : plc st tok = 4096 * tok + 512 * cod 0 (of4 st 0) + 64 * cod 1 (of4 st 1) + 8 * cod 2 (of4 st 2) + cod 3 (of4 st 3) := by
  have h0 := cod_lt 0 (by decide) _ (of4_lt st 0)
  have h1 := cod_lt 1 (by decide) _ (of4_lt st 1)
  have h2 := cod_lt 2 (by decide) _ (of4_lt st 2)
  have h3 := cod_lt 3 (by decide) _ (of4_lt st 3)
  unfold plc
  rw [plS_s (by decide), plS_s (by decide), plS_s (by decide), plS_s (by decide), show (65535 : Nat) = 2 ^ 16 - 1 from rfl, Nat.and_two_pow_sub_one_eq_mod]
  simp only [plS]
  omega
theorem of4_dm (st p : Nat) : of4 st p = st / 2 ^ (4 * p) % 16 := by
  unfold of4; rw [Nat.shiftRight_eq_div_pow, show (15 : Nat) = 2 ^ 4 - 1 from rfl, Nat.and_two_pow_sub_one_eq_mod]
theorem st_eq {st s2 : Nat} (h : st < 65536) (h2 : s2 < 65536) (e : ∀ p, p < 4 → of4 st p = of4 s2 p) : st = s2 := by
  have e0 := e 0 (by decide); have e1 := e 1 (by decide); have e2 := e 2 (by decide); have e3 := e 3 (by decide)
  rw [of4_dm, of4_dm] at e0 e1 e2 e3
  simp at e0 e1 e2 e3
  omega
theorem VS_out {n st pp : Nat} (hn : n ≤ 4) (h : VS n st) (hp : n ≤ pp) (hp4 : pp < 4) : of4 st pp = 0 := by
  apply Nat.eq_of_testBit_eq
  intro i
  rw [Nat.zero_testBit]
  cases hb : (of4 st pp).testBit i with
  | false => rfl
  | true =>
    rw [of4_tb] at hb
    simp only [Bool.and_eq_true, decide_eq_true_eq] at hb
    have := h.1 _ hb.2
    rw [msk_tb n hn pp hp4 i hb.1] at this
    simp at this; omega
theorem plc_inj {n st s2 tok t2 : Nat} (hn : n ≤ 4) (h : VS n st) (h2 : VS n s2) (ht : tok < 16) (ht2 : t2 < 16) (e : plc st tok = plc s2 t2) : st = s2 ∧ tok = t2 := by
  rw [plc_eq ht, plc_eq ht2] at e
  have a0 := cod_lt 0 (by decide) _ (of4_lt st 0); have a1 := cod_lt 1 (by decide) _ (of4_lt st 1); have a2 := cod_lt 2 (by decide) _ (of4_lt st 2); have a3 := cod_lt 3 (by decide) _ (of4_lt st 3)
  have b0 := cod_lt 0 (by decide) _ (of4_lt s2 0); have b1 := cod_lt 1 (by decide) _ (of4_lt s2 1); have b2 := cod_lt 2 (by decide) _ (of4_lt s2 2); have b3 := cod_lt 3 (by decide) _ (of4_lt s2 3)
  have key : ∀ p, p < 4 → cod p (of4 st p) = cod p (of4 s2 p) → of4 st p = of4 s2 p := fun p hp hc => by
    rcases Nat.lt_or_ge p n with h6 | h6
    · exact cod_inj p hp _ (of4_lt _ _) _ (of4_lt _ _) (VS_own hn h6 h) (VS_own hn h6 h2) hc
    · rw [VS_out hn h h6 hp, VS_out hn h2 h6 hp]
  refine ⟨st_eq (VS_lt hn h) (VS_lt hn h2) (fun p hp => ?_), by omega⟩
  rcases (by omega : p = 0 ∨ p = 1 ∨ p = 2 ∨ p = 3) with rfl | rfl | rfl | rfl
  · exact key 0 hp (by omega)
  · exact key 1 hp (by omega)
  · exact key 2 hp (by omega)
  · exact key 3 hp (by omega)
/-- the rows hold the numbers x of a place -/
def Rp (g13 g14 f15 : Nat → Nat) (x16 : Nat → Int32) (pl : Nat) (x : C4) : Prop := g13 pl = x.1 ∧ g14 pl = x.2.1 ∧ f15 pl = x.2.2.1 ∧ x16 pl = nI x.2.2.2 + (-1)
/-- numbers that are small enough -/
def SmC (x : C4) : Prop := x.1 < 2 ^ 60 ∧ x.2.1 < 2 ^ 60 ∧ x.2.2.1 ≤ 1000 ∧ x.2.2.2 ≤ 1000
theorem acc_sm {n : Nat} {net : Nat → Nat} {r st tok : Nat} {f : Nat → Nat → C4} {d : Nat} (hf : ∀ a b, (f a b).2.2.1 ≤ 1000 ∧ (f a b).2.2.2 ≤ d) : ∀ k, (accC n net r f st tok k).2.2.1 ≤ 1000 ∧ (accC n net r f st tok k).2.2.2 ≤ d + 1
  | 0 => by simp [accC]
  | k + 1 => by
    have ih := acc_sm (n := n) (net := net) (r := r) (st := st) (tok := tok) hf k
    simp only [accC]
    split
    · have := hf (nxS st k) (nxT tok r k)
      simp only [addC]
      refine ⟨?_, ?_⟩
      · split
        · split <;> omega
        · omega
      · split
        · split <;> omega
        · omega
    · omega
theorem cnt_sm {n : Nat} {net : Nat → Nat} {r : Nat} : ∀ d st tok, (cnt n net r d st tok).2.2.1 ≤ 1000 ∧ (cnt n net r d st tok).2.2.2 ≤ d + 1
  | 0, st, tok => by simp only [cnt, leafC]; constructor <;> split <;> simp
  | d + 1, st, tok => by
    have h := acc_sm (n := n) (net := net) (r := r) (st := st) (tok := tok) (fun a b => cnt_sm (n := n) (net := net) (r := r) d a b) 16
    simp only [cnt, finC]
    split
    · simp only [leafC]; constructor
      · split <;> simp
      · split <;> omega
    · omega
theorem CN_sm {n : Nat} {net : Nat → Nat} {r st tok : Nat} : SmC (CN n net r st tok) := by
  have h1 : (CN n net r st tok).1 ≤ 16 ^ 12 ∧ (CN n net r st tok).2.1 ≤ (CN n net r st tok).1 := cnt_le (n := n) (net := net) (r := r) 12 st tok
  have h2 : (CN n net r st tok).2.2.1 ≤ 1000 ∧ (CN n net r st tok).2.2.2 ≤ 12 + 1 := cnt_sm (n := n) (net := net) (r := r) 12 st tok
  refine ⟨?_, ?_, h2.1, by omega⟩
  · have : (16 : Nat) ^ 12 < 2 ^ 60 := by decide
    omega
  · have : (16 : Nat) ^ 12 < 2 ^ 60 := by decide
    omega
theorem ACC_sm {n : Nat} {net : Nat → Nat} {r st tok : Nat} {k : Nat} (hk : k ≤ 16) : SmC (accC n net r (CN n net r) st tok k) := by
  have h1 : (accC n net r (CN n net r) st tok k).1 ≤ k * 16 ^ 12 ∧ (accC n net r (CN n net r) st tok k).2.1 ≤ (accC n net r (CN n net r) st tok k).1 := acc_le (n := n) (net := net) (r := r) (st := st) (tok := tok) (fun a b => cnt_le (n := n) (net := net) (r := r) 12 a b) k
  have h2 : (accC n net r (CN n net r) st tok k).2.2.1 ≤ 1000 ∧ (accC n net r (CN n net r) st tok k).2.2.2 ≤ 12 + 1 + 1 := acc_sm (n := n) (net := net) (r := r) (st := st) (tok := tok) (fun a b => cnt_sm (n := n) (net := net) (r := r) 12 a b) k
  have h3 : (16 : Nat) * 16 ^ 12 < 2 ^ 60 := by decide
  have h4 : k * 16 ^ 12 ≤ 16 * 16 ^ 12 := Nat.mul_le_mul_right _ hk
  exact ⟨by omega, by omega, h2.1, by omega⟩
/-- most, less one: comparisons -/
theorem mm_1 (a : Nat) : nI a + (-1) + nI 1 = nI a := by
  rw [Int32.add_assoc, show (-1 : Int32) + nI 1 = 0 by decide, Int32.add_zero]
theorem mm_le {a b : Nat} (ha : a < 2 ^ 30) (hb : b < 2 ^ 30) : nI a ≤ nI b + (-1) ↔ a < b := by
  rcases Nat.eq_zero_or_pos b with rfl | h
  · constructor
    · intro h; exfalso
      rw [nI_0, Int32.zero_add, Int32.le_iff_toInt_le, nI_toInt (by omega)] at h
      have : (-1 : Int32).toInt = -1 := by decide
      omega
    · intro h; omega
  · rw [sb_m1 h, nI_leI (by omega) (by omega)]; omega
/-- the verdict of numbers: 2 sure, 1 maybe alone, 0 neither -/
def verd (x : C4) : Nat := if x.2.1 = 0 then 0 else if x.2.1 = x.1 then 2 else 1
