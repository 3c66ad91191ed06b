/-! ===== small rows for the class's own methods ===== -/
theorem isIn_z1 {v b : Int32} (h : v < 0) : isIn v (nI 0) b = false := isIn_f1 (by rw [nI_0]; exact h)
theorem isIn_z2 {v : Int32} {b : Nat} (hb : b + 1 < 2 ^ 31) (h1 : ¬ v < 0) (h2 : ¬ nI (b + 1) ≤ v) : isIn v (nI 0) (nI b) = true := isIn_t2 hb (by rw [nI_0]; exact h1) h2
theorem ei_0 {v : Int32} (h : v = 0) : isIn v (nI 0) (nI 1) = true := by rw [h, ← nI_0]; exact nat_isIn (by decide) (by omega)
theorem ei_1 {v : Int32} (h : v = nI 1) : isIn v (nI 0) (nI 1) = true := by rw [h]; exact nat_isIn (by decide) (by omega)
theorem ei_n {v : Int32} (h0 : ¬ v = 0) (h1 : ¬ v = nI 1) : isIn v (nI 0) (nI 1) = false := Bool.eq_false_iff.mpr (fun h => by
  obtain ⟨j, hj, rfl⟩ := isIn_nat (by decide) h
  rcases (by omega : j = 0 ∨ j = 1) with rfl | rfl
  · exact h0 nI_0
  · exact h1 rfl)
def pkV (S : Nat) (a : Int32) : Int32 := if a = -1 then nI (bitsN S 16) else pkS S a.toNatClampNeg
theorem pkV_ok {S : Nat} {a : Int32} {B : Nat → Bool} (h : ∀ j, j < 16 → S.testBit j = B j) (ha : isIn a (-1) (nI 11) = true) : pickR B a (pkV S a) := by
  unfold pkV
  rcases isIn_m1 ha with rfl | ⟨kk, hk, rfl⟩
  · rw [if_pos rfl]; exact pick_m1 h
  · rw [if_neg (nI_m1 (by omega)), nI_clamp (by omega)]; exact pick_k h hk
theorem k_pickV (l : Launch) (xx : Nat) (a : Int32) (h1 : xx < 65536) (ha : isIn a (-1) (nI 11) = true) : Pz l yX11_countOrPick cX11_countOrPick 4 (some .int) rm_X11_countOrPick [.int (nI xx), .int a] (some (.int (pkV xx a))) := by
  unfold pkV
  rcases isIn_m1 ha with rfl | ⟨kk, hk, rfl⟩
  · rw [if_pos rfl]; exact k_pick1 l xx h1
  · rw [if_neg (nI_m1 (by omega)), nI_clamp (by omega)]; exact k_pick2 l xx kk h1 (by omega)
def b_bridge (n : Nat) (net : Nat → Nat) (S : Nat) (a : Int32) : Int32 := if isIn a (-1) (nI 11) = false then -1 else if joinM net n = false then -3 else pkV S a
theorem joinM_0 (net : Nat → Nat) : joinM net 0 = false := rfl
theorem tok_bit {t p : Nat} : nI (t >>> p &&& 1) = bI (t.testBit p) := by
  rw [tb_v]; cases t.testBit p <;> rfl
