theorem seeC_dig {n : Nat} {net cP cQ : Nat → Nat} {w x y c : Nat} (h : ∀ i, i < c + 1 → dgR x i = dgR y i) : seeC n net cP cQ w x c = seeC n net cP cQ w y c := by
  unfold seeC; rw [h c (by omega), rS_dig (c + 1) h]
/-- the rows that begin with y and the call d -/
theorem row_d {n : Nat} {net cP cQ : Nat → Nat} {w k c y st d : Nat} {Si : Nat → Nat} (hn : n ≤ 4) (hw : w < n) (hSi : ∀ i, i < k → Si i = sgS w (cP i) (cQ i) (stS n cP cQ (i + 1))) (hcp : ∀ i, i < k → cP i < n ∧ cQ i < n) (hc : c < k) (hy : y < 16 ^ c) (hs : rS n net y c = some st) (hv : VS n st) (hse : ∀ i, i < c → seeC n net cP cQ w y i = true) (hd : d < 16) :
    (gdD n net w Si c st d = true → rS n net (y + 16 ^ c * d) (c + 1) = some (aft st (d / 4) (d % 4)) ∧ VS n (aft st (d / 4) (d % 4)) ∧ ∀ i, i < c + 1 → seeC n net cP cQ w (y + 16 ^ c * d) i = true) ∧
    (gdD n net w Si c st d = false → ∀ z, rT n net cP cQ w k (y + 16 ^ c * d + 16 ^ (c + 1) * z) = none) := by
  have dg : dgR (y + 16 ^ c * d) c = d := by rw [dgR_at hy]; omega
  have s0 : rS n net (y + 16 ^ c * d) c = some st := by rw [rS_dig c (fun i hi => dgR_pre hi)]; exact hs
  have s1 := rS_ok s0
  rw [dg] at s1
  have vk : VS n (stS n cP cQ (c + 1)) := VS_stS hn (c + 1) (fun i hi => hcp i (by omega))
  have se : okD n net st d = true → VS n (aft st (d / 4) (d % 4)) ∧ seeC n net cP cQ w (y + 16 ^ c * d) c = decide (sgS w (d / 4) (d % 4) (aft st (d / 4) (d % 4)) = Si c) := fun ho => by
    rw [if_pos ho] at s1
    have ho2 := of_decide_eq_true ho
    have hva : VS n (aft st (d / 4) (d % 4)) := VS_aft hn ho2.1.1 ho2.1.2 hv
    refine ⟨hva, ?_⟩
    rw [see_eq hn hw s1 hva vk (by have := (hcp c hc).1; omega) (by have := (hcp c hc).2; omega), dg, hSi c hc]
  refine ⟨fun hg => ?_, fun hg z => ?_⟩
  · unfold gdD at hg
    rw [Bool.and_eq_true] at hg
    obtain ⟨hva, hsc⟩ := se hg.1
    refine ⟨by rw [s1, if_pos hg.1], hva, fun i hi => ?_⟩
    rcases (by omega : i < c ∨ i = c) with h1 | h1
    · rw [seeC_dig (y := y) (fun j hj => dgR_pre (by omega))]; exact hse i h1
    · rw [h1, hsc]; exact hg.2
  · have pre : ∀ i, i < c + 1 → dgR (y + 16 ^ c * d + 16 ^ (c + 1) * z) i = dgR (y + 16 ^ c * d) i := fun i hi => dgR_pre hi
    unfold rT
    by_cases ho : okD n net st d = true
    · obtain ⟨hva, hsc⟩ := se ho
      unfold gdD at hg
      rw [ho, Bool.true_and] at hg
      rw [hg] at hsc
      have : seeA n net cP cQ w (y + 16 ^ c * d + 16 ^ (c + 1) * z) k = false := decide_eq_false (fun h => by
        have := h c hc
        rw [seeC_dig pre, hsc] at this; cases this)
      rw [this]; rfl
    · rw [if_neg ho] at s1
      have : rS n net (y + 16 ^ c * d + 16 ^ (c + 1) * z) k = none := rS_none (c := c + 1) (by rw [rS_dig (c + 1) pre]; exact s1) k (by omega)
      rw [this]; split <;> rfl
theorem pow_16 (c d z : Nat) : 16 ^ c * (d + 16 * z) = 16 ^ c * d + 16 ^ (c + 1) * z := by
  rw [Nat.mul_add, ← Nat.mul_assoc, Nat.pow_succ]
theorem y_lt {c y d : Nat} (hy : y < 16 ^ c) (hd : d < 16) : y + 16 ^ c * d < 16 ^ (c + 1) := by
  have : 16 ^ c * d ≤ 16 ^ c * 15 := Nat.mul_le_mul_left _ (by omega)
  rw [Nat.pow_succ]; omega
theorem tr_cnt {n : Nat} {net cP cQ : Nat → Nat} {w k : Nat} {Si : Nat → Nat} (hn : n ≤ 4) (hw : w < n) (hSi : ∀ i, i < k → Si i = sgS w (cP i) (cQ i) (stS n cP cQ (i + 1))) (hcp : ∀ i, i < k → cP i < n ∧ cQ i < n) : ∀ j c y st, c + j = k → y < 16 ^ c → rS n net y c = some st → VS n st → (∀ i, i < c → seeC n net cP cQ w y i = true) → alC (fun z => rT n net cP cQ w k (y + 16 ^ c * z)) (16 ^ j) = trC n net w Si j c st
  | 0, c, y, st, hk, hy, hs, hv, hse => by
    have e : c = k := by omega
    subst e
    have h1 : rT n net cP cQ w c (y + 16 ^ c * 0) = some st := by
      rw [Nat.mul_zero, Nat.add_zero]
      unfold rT
      rw [if_pos (show seeA n net cP cQ w y c = true from decide_eq_true hse)]; exact hs
    show alC _ 1 = 1
    exact alC_some (x := 0) h1
  | j + 1, c, y, st, hk, hy, hs, hv, hse => by
    rw [show (16 : Nat) ^ (j + 1) = 16 * 16 ^ j by rw [Nat.pow_succ]; omega, alC_split]
    simp only [trC]
    refine smK_cong 16 (fun d hd => ?_)
    have hr := row_d hn hw hSi hcp (by omega) hy hs hv hse hd
    have hf : (fun z => rT n net cP cQ w k (y + 16 ^ c * (d + 16 * z))) = fun z => rT n net cP cQ w k (y + 16 ^ c * d + 16 ^ (c + 1) * z) := by
      funext z; rw [pow_16, Nat.add_assoc]
    show alC (fun z => rT n net cP cQ w k (y + 16 ^ c * (d + 16 * z))) (16 ^ j) = _
    rw [hf]
    cases hg : gdD n net w Si c st d with
    | true =>
      obtain ⟨a1, a2, a3⟩ := hr.1 hg
      rw [if_pos rfl]
      exact tr_cnt hn hw hSi hcp j (c + 1) _ _ (by omega) (y_lt hy hd) a1 a2 a3
    | false =>
      rw [if_neg (by decide)]
      exact alC_no _ (fun z _ => hr.2 hg z)
