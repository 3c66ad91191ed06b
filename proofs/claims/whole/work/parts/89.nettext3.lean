theorem dg_sub {v : Int32} : isIn (v - nI 48) (nI 0) (nI 3) = isIn v (nI 48) (nI 51) := by
  cases h : isIn v (nI 48) (nI 51) with
  | true =>
    obtain ⟨j, hj, rfl⟩ := isIn_dg h
    rw [pk_sub (by omega), show 48 + j - 48 = j by omega]
    exact nat_isIn (by decide) (by omega)
  | false =>
    cases h2 : isIn (v - nI 48) (nI 0) (nI 3) with
    | false => rfl
    | true =>
      obtain ⟨j, hj, e⟩ := isIn_nat (by decide) h2
      have e2 : v = nI (48 + j) := by
        rw [← nI_add, ← e, Int32.add_comm, Int32.sub_add_cancel]
      rw [e2] at h
      rw [isIn_t (fun h3 => absurd ((nI_ltI (by omega) (by decide)).mp h3) (by omega)) (fun h3 => absurd ((nI_ltI (by decide) (by omega)).mp h3) (by omega))] at h
      cases h
theorem dg_no {pe nu : Nat} {num : Nat → Nat} {c1 : Int32} (hp : pe < 4) (h : NX (pe + 1) num nu) (hc : ¬ c1 = nI 59) (hd : dgB (pe + 1) nu c1 = false) : pstep (false, pe + 1, num) c1 = none := by
  cases h2 : isIn c1 (nI 48) (nI 51) with
  | false => exact pstep_bad hc (by rw [dg_sub]; exact h2)
  | true =>
    obtain ⟨j, hj, rfl⟩ := isIn_dg h2
    have e : nI (48 + j) - nI 48 = nI j := by rw [pk_sub (by omega), show 48 + j - 48 = j by omega]
    unfold dgB at hd
    rw [h2, e, nI_clamp (by omega), show pe + 1 - 1 = pe by omega, NX_tb hp hj h] at hd
    by_cases ho : j = pe
    · exact pstep_own hc e (by omega) ho
    · rw [decide_eq_false (fun h9 => ho h9.symm)] at hd
      have ht : (num pe).testBit j = true := by simpa using hd
      exact pstep_twice hc e (by omega) ho ht
theorem dg_yes {pe nu : Nat} {num : Nat → Nat} {c1 : Int32} (hp : pe < 4) (h : NX (pe + 1) num nu) (hc : ¬ c1 = nI 59) (hd : dgB (pe + 1) nu c1 = true) : ∃ num2, pstep (false, pe + 1, num) c1 = some (false, pe + 1, num2) ∧ NX (pe + 1) num2 (dgN (pe + 1) nu c1) := by
  have hd0 := hd
  unfold dgB at hd
  rw [Bool.and_eq_true] at hd
  obtain ⟨h2, h3⟩ := hd
  obtain ⟨j, hj, rfl⟩ := isIn_dg h2
  have e : nI (48 + j) - nI 48 = nI j := by rw [pk_sub (by omega), show 48 + j - 48 = j by omega]
  rw [e, nI_clamp (by omega), show pe + 1 - 1 = pe by omega, NX_tb hp hj h] at h3
  simp only [Bool.not_eq_true', Bool.or_eq_false_iff, decide_eq_false_iff_not] at h3
  refine ⟨_, pstep_take hc e (by omega) (fun h9 => h3.2 h9.symm) h3.1, ?_⟩
  unfold dgN
  rw [if_pos hd0, e, nI_clamp (by omega), show pe + 1 - 1 = pe by omega]
  exact NX_num hp hj h
