/-! ===== sheets: answers and what is behind them ===== -/
def shV (a1 a2 a3 : Int32) (X2 X4 : Nat → Int32) (F3 : Nat → Nat) : Int32 × Nat × (Nat → Int32) × (Nat → Int32) × (Nat → Nat) := if isIn a1 (nI 0) (nI 3) = false then (-1, 0, X2, X4, F3) else if isIn a2 (nI 0) (nI 2) = false then (-2, 0, X2, X4, F3) else if nI 60 < a3 then (-2, 0, X2, X4, F3) else if a3 < 0 then ((-10) - nI 4, 4, X2, X4, F3) else (nI 1, 0, upd X2 a1.toNatClampNeg a2, zfill X4 a1.toNatClampNeg 60, va_up F3 a1.toNatClampNeg a3.toNatClampNeg)
def loV (a1 : Int32) (X2 : Nat → Int32) : Int32 × (Nat → Int32) := if isIn a1 (nI 0) (nI 3) = false then (-1, X2) else if X2 a1.toNatClampNeg = -9 then (nI 0, upd X2 a1.toNatClampNeg (-9)) else (nI 1, upd X2 a1.toNatClampNeg (-9))
def puV (a1 a2 a3 : Int32) (X2 X4 : Nat → Int32) (F3 : Nat → Nat) : Int32 × Nat × (Nat → Int32) := if isIn a1 (nI 0) (nI 3) = false then (-1, 0, X4) else if X2 a1.toNatClampNeg = -9 then ((-10) - nI 1, 1, X4) else if isIn a2 (nI 0) (nI (F3 a1.toNatClampNeg) - nI 1) = false then ((-10) - nI 3, 3, X4) else (nI 1, 0, upd X4 (60 * a1.toNatClampNeg + a2.toNatClampNeg) (cutL (X2 a1.toNatClampNeg) a3))
def ceV (a1 a2 a3 : Int32) (X2 X4 : Nat → Int32) (F3 : Nat → Nat) : Int64 × Nat := if isIn a1 (nI 0) (nI 3) = false then (lN 9223372036854775808, 0) else if isIn a3 (nI 0) (nI 2) = false then (lN 9223372036854775808, 0) else if X2 a1.toNatClampNeg = -9 then (lN 9223372036854775808, 1) else if ¬ X2 a1.toNatClampNeg = a3 then (lN 9223372036854775808, 2) else if isIn a2 (nI 0) (nI (F3 a1.toNatClampNeg) - nI 1) = false then (lN 9223372036854775808, 3) else ((X4 (60 * a1.toNatClampNeg + a2.toNatClampNeg)).toInt64, 0)
def coV (a1 a2 a3 a4 a5 : Int32) (X2 X4 : Nat → Int32) (F3 : Nat → Nat) : Int32 × Nat × (Nat → Int32) := if isIn a1 (nI 0) (nI 3) = false then (-1, 0, X4) else if isIn a3 (nI 0) (nI 3) = false then (-1, 0, X4) else if X2 a1.toNatClampNeg = -9 then ((-10) - nI 1, 1, X4) else if X2 a3.toNatClampNeg = -9 then ((-10) - nI 1, 1, X4) else if ¬ X2 a1.toNatClampNeg = X2 a3.toNatClampNeg then ((-10) - nI 2, 2, X4) else if (hasR a2 a5 (F3 a1.toNatClampNeg) && hasR a4 a5 (F3 a3.toNatClampNeg)) = false then ((-10) - nI 3, 3, X4) else (a5, 0, cpyC X4 (60 * a1.toNatClampNeg + a2.toNatClampNeg) (60 * a3.toNatClampNeg + a4.toNatClampNeg) a5.toNatClampNeg)
/-- a text read: answer, fault, persons, calls, net -/
def ntQ (n k : Nat) (net : Nat → Nat) (X2 X4 : Nat → Int32) (F3 : Nat → Nat) (a1 a2 a3 a4 x : Int32) (fl n2 k2 : Nat) (net2 : Nat → Nat) : Prop :=
  if isIn a1 (nI 0) (nI 3) = false then x = -1 ∧ fl = 0 ∧ n2 = n ∧ k2 = k ∧ net2 = net else if isIn a2 (nI 0) (nI 2) = false then x = -2 ∧ fl = 0 ∧ n2 = n ∧ k2 = k ∧ net2 = net else if X2 a1.toNatClampNeg = -9 then x = (-10) - nI 1 ∧ fl = 1 ∧ n2 = n ∧ k2 = k ∧ net2 = net else if ¬ X2 a1.toNatClampNeg = a2 then x = (-10) - nI 2 ∧ fl = 2 ∧ n2 = n ∧ k2 = k ∧ net2 = net else if a4 < 0 then x = (-10) - nI 4 ∧ fl = 4 ∧ n2 = n ∧ k2 = k ∧ net2 = net else if hasR a3 a4 (F3 a1.toNatClampNeg) = false then x = (-10) - nI 3 ∧ fl = 3 ∧ n2 = n ∧ k2 = k ∧ net2 = net else
  (∃ r, x = (-100) - nI r ∧ faultAt (fun z => X4 (60 * a1.toNatClampNeg + a3.toNatClampNeg + z)) a4.toNatClampNeg r ∧ fl = 0 ∧ n2 = n ∧ k2 = k ∧ net2 = net) ∨ (∃ num, x = nI n2 ∧ noFault (fun z => X4 (60 * a1.toNatClampNeg + a3.toNatClampNeg + z)) a4.toNatClampNeg n2 num ∧ fl = 0 ∧ k2 = 0 ∧ net2 = netU net num n2)
theorem fault_n2 {w : Nat → Int32} {n r per : Nat} {num : Nat → Nat} (h : faultAt w n r) (g : noFault w n per num) : False := by
  rcases h with ⟨h1, h3, h4⟩ | ⟨h1, p1, m1, h3⟩ | ⟨p1, m1, h3, h4, h5, h6⟩
  · have := parse_none h4 n (by omega); rw [g.1] at this; cases this
  · rw [g.1] at h3; cases h3
  · rw [g.1] at h3; cases h3; rw [g.2 r h4] at h5; cases h5
theorem ntQ_one {n k : Nat} {net : Nat → Nat} {X2 X4 : Nat → Int32} {F3 : Nat → Nat} {a1 a2 a3 a4 x y : Int32} {fl n2 k2 gl m2 j2 : Nat} {net2 net3 : Nat → Nat} (h : ntQ n k net X2 X4 F3 a1 a2 a3 a4 x fl n2 k2 net2) (g : ntQ n k net X2 X4 F3 a1 a2 a3 a4 y gl m2 j2 net3) : x = y ∧ fl = gl ∧ n2 = m2 ∧ k2 = j2 ∧ net2 = net3 := by
  have same : ∀ {v : Int32} {f : Nat}, (x = v ∧ fl = f ∧ n2 = n ∧ k2 = k ∧ net2 = net) → (y = v ∧ gl = f ∧ m2 = n ∧ j2 = k ∧ net3 = net) → x = y ∧ fl = gl ∧ n2 = m2 ∧ k2 = j2 ∧ net2 = net3 := fun a b => ⟨a.1.trans b.1.symm, a.2.1.trans b.2.1.symm, a.2.2.1.trans b.2.2.1.symm, a.2.2.2.1.trans b.2.2.2.1.symm, a.2.2.2.2.trans b.2.2.2.2.symm⟩
  unfold ntQ at h g
  by_cases c1 : isIn a1 (nI 0) (nI 3) = false
  · rw [if_pos c1] at h g; exact same h g
  · rw [if_neg c1] at h g
    by_cases c2 : isIn a2 (nI 0) (nI 2) = false
    · rw [if_pos c2] at h g; exact same h g
    · rw [if_neg c2] at h g
      by_cases c3 : X2 a1.toNatClampNeg = -9
      · rw [if_pos c3] at h g; exact same h g
      · rw [if_neg c3] at h g
        by_cases c4 : ¬ X2 a1.toNatClampNeg = a2
        · rw [if_pos c4] at h g; exact same h g
        · rw [if_neg c4] at h g
          by_cases c5 : a4 < 0
          · rw [if_pos c5] at h g; exact same h g
          · rw [if_neg c5] at h g
            by_cases c6 : hasR a3 a4 (F3 a1.toNatClampNeg) = false
            · rw [if_pos c6] at h g; exact same h g
            · rw [if_neg c6] at h g
              rcases h with ⟨r, e1, e2, e3⟩ | ⟨num, e1, e2, e3, e4, e5⟩ <;> rcases g with ⟨r2, d1, d2, d3⟩ | ⟨num2, d1, d2, d3, d4, d5⟩
              · have := faultAt_one e2 d2
                subst this
                exact ⟨e1.trans d1.symm, e3.1.trans d3.1.symm, e3.2.1.trans d3.2.1.symm, e3.2.2.1.trans d3.2.2.1.symm, e3.2.2.2.trans d3.2.2.2.symm⟩
              · exact absurd (fault_n2 e2 d2) (fun h => h)
              · exact absurd (fault_n2 d2 e2) (fun h => h)
              · obtain ⟨q1, q2⟩ := noFault_one e2 d2
                subst q1; subst q2
                exact ⟨e1.trans d1.symm, e3.trans d3.symm, rfl, e4.trans d4.symm, e5.trans d5.symm⟩
/-! cells -/
theorem ud_id {f : Nat → Int32} {k : Nat} {v : Int32} (h : f k = v) : upd f k v = f := by
  funext j; by_cases e : j = k
  · rw [e, ud_s, h]
  · rw [ud_n _ _ e]
theorem cells_put {X4 : Nat → Int32} {j i : Nat} {v : Int32} (hi : i < 60) : cellsOf (upd X4 (60 * j + i) v) j = upd (cellsOf X4 j) i v := by
  funext x
  by_cases e : x = i
  · subst e; rw [ud_s]; unfold cellsOf; rw [if_pos hi, ud_s]
  · rw [ud_n _ _ e]; unfold cellsOf
    by_cases h : x < 60
    · rw [if_pos h, if_pos h, ud_n _ _ (by omega)]
    · rw [if_neg h, if_neg h]
theorem cells_put_o {X4 : Nat → Int32} {j i o : Nat} {v : Int32} (hi : i < 60) (ho : o ≠ j) : cellsOf (upd X4 (60 * j + i) v) o = cellsOf X4 o := by
  funext x; unfold cellsOf
  by_cases h : x < 60
  · rw [if_pos h, if_pos h, ud_n _ _ (by omega)]
  · rw [if_neg h, if_neg h]
theorem cells_new {X4 : Nat → Int32} {j : Nat} : cellsOf (zfill X4 j 60) j = fun _ => nI 0 := by
  funext x; unfold cellsOf zfill
  rw [nI_0]
  by_cases h : x < 60
  · rw [if_pos h, if_pos (by omega)]
  · rw [if_neg h]
theorem cells_new_o {X4 : Nat → Int32} {j o : Nat} (ho : o ≠ j) : cellsOf (zfill X4 j 60) o = cellsOf X4 o := by
  funext x; unfold cellsOf zfill
  by_cases h : x < 60
  · rw [if_pos h, if_pos h, if_neg (by omega)]
  · rw [if_neg h, if_neg h]
theorem cells_cpy {X4 : Nat → Int32} {k o i j n : Nat} (h1 : i + n ≤ 60) (h2 : j + n ≤ 60) : cellsOf (cpyC X4 (60 * k + i) (60 * o + j) n) o = va_cpy (cellsOf X4 k) (cellsOf X4 o) i j n := by
  funext x; unfold cellsOf cpyC va_cpy
  by_cases h : x < 60
  · rw [if_pos h]
    by_cases c : j ≤ x ∧ x < j + n
    · rw [if_pos (by omega), if_pos c]
      show _ = if i + (x - j) < 60 then X4 (60 * k + (i + (x - j))) else 0
      rw [if_pos (by omega)]; congr 1; omega
    · rw [if_neg (by omega), if_neg c]
      show _ = if x < 60 then X4 (60 * o + x) else 0
      rw [if_pos h]
  · rw [if_neg h, if_neg (by omega)]
    show _ = if x < 60 then X4 (60 * o + x) else 0
    rw [if_neg h]
theorem cells_cpy_o {X4 : Nat → Int32} {k o i j n q : Nat} (h2 : j + n ≤ 60) (hq : q ≠ o) : cellsOf (cpyC X4 (60 * k + i) (60 * o + j) n) q = cellsOf X4 q := by
  funext x; unfold cellsOf cpyC
  by_cases h : x < 60
  · rw [if_pos h, if_pos h, if_neg (by omega)]
  · rw [if_neg h, if_neg h]
theorem cells_at {X4 : Nat → Int32} {j i : Nat} (hi : i < 60) : cellsOf X4 j i = X4 (60 * j + i) := by unfold cellsOf; rw [if_pos hi]
/-! texts that agree -/
theorem parse_cong {w v : Nat → Int32} : ∀ k, (∀ z, z < k → w z = v z) → parse w k = parse v k
  | 0, _ => rfl
  | k + 1, h => by simp only [parse]; rw [parse_cong k (fun z hz => h z (by omega)), h k (by omega)]
theorem fault_cong {w v : Nat → Int32} {n r : Nat} (h : ∀ z, z < n → w z = v z) (g : faultAt w n r) : faultAt v n r := by
  rcases g with ⟨h1, ⟨s, h3⟩, h4⟩ | ⟨h1, p1, m1, h3⟩ | ⟨p1, m1, h3, h4, h5, h6⟩
  · refine Or.inl ⟨h1, ⟨s, ?_⟩, ?_⟩
    · rw [← parse_cong r (fun z hz => h z (by omega))]; exact h3
    · rw [← parse_cong (r + 1) (fun z hz => h z (by omega))]; exact h4
  · exact Or.inr (Or.inl ⟨h1, p1, m1, by rw [← parse_cong n h]; exact h3⟩)
  · exact Or.inr (Or.inr ⟨p1, m1, by rw [← parse_cong n h]; exact h3, h4, by rw [← h r h4]; exact h5, fun k hk => by rw [← h k (by omega)]; exact h6 k hk⟩)
theorem noF_cong {w v : Nat → Int32} {n per : Nat} {num : Nat → Nat} (h : ∀ z, z < n → w z = v z) (g : noFault w n per num) : noFault v n per num := ⟨by rw [← parse_cong n h]; exact g.1, fun k hk => by rw [← h k hk]; exact g.2 k hk⟩
theorem NX_cong {n : Nat} {a b : Nat → Nat} {x : Nat} (h : ∀ p, p < n → a p = b p) (g : NX n a x) : NX n b x := ⟨g.1, fun p hp => by
  rw [g.2 p hp]
  by_cases hn : p < n
  · rw [if_pos hn, if_pos hn, h p hn]
  · rw [if_neg hn, if_neg hn]⟩
theorem ShP_put {X2 : Nat → Int32} {F3 : Nat → Nat} {sh : Nat → Option Nat} {k so len : Nat} {v : Int32} (h : ShP X2 F3 sh) (hv : v ≠ -9) (hl : len ≤ 60) : ShP (upd X2 k v) (va_up F3 k len) (va_up sh k (some so)) := by
  refine ⟨fun j hj => ?_, fun j => ?_⟩
  · by_cases e : j = k
    · rw [e, vu_s, ud_s]; exact ⟨fun h9 => (by cases h9), fun h9 => absurd h9 hv⟩
    · rw [vu_n _ _ e, ud_n _ _ e]; exact h.1 j hj
  · by_cases e : j = k
    · rw [e, vu_s]; exact hl
    · rw [vu_n _ _ e]; exact h.2 j
theorem ShP_lose {X2 : Nat → Int32} {F3 : Nat → Nat} {sh : Nat → Option Nat} {k : Nat} (h : ShP X2 F3 sh) : ShP (upd X2 k (-9)) F3 (va_up sh k none) := by
  refine ⟨fun j hj => ?_, h.2⟩
  by_cases e : j = k
  · rw [e, vu_s, ud_s]; exact ⟨fun _ => rfl, fun _ => rfl⟩
  · rw [vu_n _ _ e, ud_n _ _ e]; exact h.1 j hj
