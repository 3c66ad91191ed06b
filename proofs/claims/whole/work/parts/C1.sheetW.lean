/-! ===== the object and its sheets ===== -/
theorem arrR {D : va_G} {cl : List vw_C} {a cA n : Nat} {f g : Nat → Int32} {H : Heap} (h : ∀ j, j < n → f j = g j) (hP : va_at D cl (a, .inl (cA, n, .inl f)) H) : va_at D cl (a, .inl (cA, n, .inl g)) H := by
  have e : arrV cA n (fun j => .int (f j)) = arrV cA n (fun j => .int (g j)) := by
    unfold arrV
    congr 1
    congr 1
    funext j
    show Value.int (f j.val) = Value.int (g j.val); rw [h j.val j.isLt]
  have hP : H[a]? = some (arrV cA n (fun j => .int (f j))) := hP
  have : H[a]? = some (arrV cA n (fun j => .int (g j))) := e ▸ hP
  exact this
theorem has_in {v : Int32} {L : Nat} (hL : L ≤ 60) : hasR v (nI 1) L = isIn v (nI 0) (nI L - nI 1) := by
  rw [Bool.eq_iff_iff]
  constructor
  · intro h
    obtain ⟨j, hj, hj2, rfl⟩ := hasR_1 h
    rw [pk_sub (by omega)]; exact nat_isIn (by omega) (by omega)
  · intro h
    obtain ⟨j, hj, rfl⟩ := isIn_len hL h
    rw [hasR_n (by omega) (by decide)]; exact decide_eq_true (by omega)
theorem num_dig {w : Nat → Int32} : ∀ {k : Nat} {d : Bool} {per : Nat} {num : Nat → Nat}, parse w k = some (d, per, num) → ∀ p i, (num p).testBit i = true → ∃ j, j < k ∧ i ≤ 3 ∧ w j - nI 48 = nI i
  | 0, d, per, num, h, p, i, hb => by cases h; simp at hb
  | k + 1, d, per, num, h, p, i, hb => by
    cases hk : parse w k with
    | none => rw [parse_none hk (k + 1) (by omega)] at h; cases h
    | some s =>
      obtain ⟨d0, per0, num0⟩ := s
      rw [parse_s hk] at h
      have ih := num_dig hk
      have lift : (num0 p).testBit i = true → ∃ j, j < k + 1 ∧ i ≤ 3 ∧ w j - nI 48 = nI i := fun hb => by
        obtain ⟨j, hj, h2⟩ := ih p i hb
        exact ⟨j, by omega, h2⟩
      unfold pstep at h
      dsimp only at h
      by_cases c1 : d0 = true
      · rw [if_pos c1] at h
        by_cases c2 : w k = nI 112
        · rw [if_pos c2] at h
          cases h
          by_cases e : p = per0
          · rw [e, vu_s] at hb; simp at hb
          · rw [vu_n _ _ e] at hb; exact lift hb
        · rw [if_neg c2] at h; cases h
      · rw [if_neg c1] at h
        by_cases c2 : w k = nI 59
        · rw [if_pos c2] at h
          by_cases c3 : per0 = 4
          · rw [if_pos c3] at h; cases h
          · rw [if_neg c3] at h; cases h; exact lift hb
        · rw [if_neg c2] at h
          by_cases c3 : isIn (w k - nI 48) (nI 0) (nI 3) = false
          · rw [if_pos c3] at h; cases h
          · rw [if_neg c3] at h
            by_cases c4 : (w k - nI 48).toNatClampNeg = per0 - 1
            · rw [if_pos c4] at h; cases h
            · rw [if_neg c4] at h
              by_cases c5 : (num0 (per0 - 1)).testBit (w k - nI 48).toNatClampNeg = true
              · rw [if_pos c5] at h; cases h
              · rw [if_neg c5] at h
                cases h
                by_cases e : p = per - 1
                · rw [e, vu_s, Nat.testBit_or, Nat.one_shiftLeft, Nat.testBit_two_pow, Bool.or_eq_true] at hb
                  rcases hb with hb | hb
                  · exact lift (by rw [e]; exact hb)
                  · rw [Bool.not_eq_false] at c3
                    obtain ⟨j, hj, e2⟩ := isIn_nat (by decide) c3
                    rw [e2, nI_clamp (by omega)] at hb
                    have e3 := of_decide_eq_true hb
                    exact ⟨k, by omega, by omega, by rw [e2, e3]⟩
                · rw [vu_n _ _ e] at hb; exact lift hb
theorem nb_num {w : Nat → Int32} {n per : Nat} {num : Nat → Nat} (h : noFault w n per num) : NB per num := fun p _ i hi => by
  obtain ⟨j, hj, h3, e⟩ := num_dig h.1 p i hi
  have h4 := (parse_ok h.1).1
  have := h.2 j hj
  rw [e] at this
  rcases Nat.lt_or_ge i per with h5 | h5
  · exact h5
  · rw [isIn_t (fun h6 => absurd ((nI_ltI (by omega) (by omega)).mp h6) (by omega)) (fun h6 => absurd ((nI_ltI (by omega) (by omega)).mp h6) (by omega))] at this
    cases this
theorem fault_le {w : Nat → Int32} {n r : Nat} (h : faultAt w n r) : r ≤ n := by
  rcases h with h | h | ⟨_, _, _, h, _⟩
  · omega
  · omega
  · omega
def osC (E : EE) (s1 : Nat) (sh : Nat → Option Nat) : Nat × va_E := (s1, .inl (E.2 3, 4, .inr (.inr (.inr (.inr sh)))))
def osW (E : EE) (ca ra : Nat → Nat) (ao : Nat) (C : Nat → Nat) (sh : Nat → Option Nat) : va_W := [oC ca ra ao C, osC E (ca 1) sh]
def o1W (E : EE) (ca ra : Nat → Nat) (ao : Nat) (C : Nat → Nat) (sh : Nat → Option Nat) (so sa : Nat) (ln : Int32) (L : Nat) (Cc : Nat → Int32) : va_W := osW E ca ra ao C sh ++ shW E so sa ln L Cc
def o2W (E : EE) (ca ra : Nat → Nat) (ao : Nat) (C : Nat → Nat) (sh : Nat → Option Nat) (so sa : Nat) (ln : Int32) (L : Nat) (Cc : Nat → Int32) (so2 sa2 : Nat) (ln2 : Int32) (L2 : Nat) (Cc2 : Nat → Int32) : va_W := osW E ca ra ao C sh ++ (shW E so sa ln L Cc ++ shW E so2 sa2 ln2 L2 Cc2)
/-- for a text: the object, what was found of rows that are alike, a sheet -/
def onetW (E : EE) (ca ra : Nat → Nat) (ao : Nat) (C : Nat → Nat) (a1 a2 a3 fo sc : Nat) (sh : Nat → Option Nat) (so sa : Nat) (ln : Int32) (L : Nat) (Cc : Nat → Int32) : va_W := oaW ca ra ao C a1 a2 a3 fo sc ++ (osC E (ca 1) sh :: shW E so sa ln L Cc)
theorem gt60_nat {v : Int32} (h0 : ¬ v < 0) (h : v ≤ nI 60) : ∃ j : Nat, j ≤ 60 ∧ v = nI j := by
  obtain ⟨j, hj, rfl⟩ := nI_of h0
  exact ⟨j, (nI_leI hj (by decide)).mp h, rfl⟩
theorem opt_or {α : Type} (o : Option α) : o = none ∨ ∃ z, o = some z := by
  cases o with
  | none => exact Or.inl rfl
  | some z => exact Or.inr ⟨z, rfl⟩
