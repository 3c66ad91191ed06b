/-! ===== the law's loop ===== -/
theorem and31 (y : Int32) : ∃ v : Nat, v < 32 ∧ y &&& nI 31 = nI v := by
  refine ⟨(y &&& nI 31).toBitVec.toNat, ?_, ?_⟩
  · rw [Int32.toBitVec_and, BitVec.toNat_and]
    exact Nat.lt_of_le_of_lt Nat.and_le_right (by decide)
  · refine Int32.toBitVec_inj.mp ?_
    show (y &&& nI 31).toBitVec = (Int32.ofNat _).toBitVec
    rw [Int32.toBitVec_ofNat', BitVec.ofNat_toNat, BitVec.setWidth_eq]
theorem gt6 {i L : Nat} (hi : i < 10000) (hL : L ≤ 3072) : nI i > nI L - nI 6 ↔ L < i + 6 := by
  show nI L - nI 6 < nI i ↔ _
  rw [Int32.lt_iff_toInt_lt, Int32.toInt_sub, nI_toInt (by omega), nI_toInt (by omega), nI_toInt (by omega), Int.bmod_eq_of_le (by omega) (by omega)]
  omega
section LAW
variable {p : Program} {l : Launch} {e : Env} {s : State} {m : MethodId} {args : Array Value} {below : List Frame} {meth : Method} {c : Code} {Q : State → Prop} {E : EE} {A : Nat → Prop} {b L : Nat} {xs : Nat → Int32} {co : Nat} {ad : Nat → Nat}
set_option maxRecDepth 20000 in
set_option maxHeartbeats 2000000 in
theorem law_loop (h : LH p s m meth c args E A b L xs) (ke : ∀ (H : Heap) (locs : List Loc) (ls : Array Slot), va_S A s.heap H locs → W p l e room_1 s m args below meth c H locs 600000 7302250 Q (F0 m 1170 ls [])) : ∀ (g i nt cells slots : Nat) (H : Heap) (locs : List Loc) (ls : Array Slot), L ≤ i + 6 * g + 5 → i < 4000 → nt + 64 * g < 1000000 → cells + 2 * g ≤ 600000 → slots + 62 * g ≤ 7302250 → INV E A co ad nt H → va_S A s.heap H locs → LV ls b co (ad 0) i → W p l e room_1 s m args below meth c H locs cells slots Q (F0 m 18 ls []) := by
  have h9 := h
  obtain ⟨hC, hK, hA, hX, hbl, hbA, hL⟩ := h9
  intro g
  induction g with
  | zero =>
    intro i nt cells slots H locs ls hg hi hnt hce hsl hI hS hl
    refine lv_iload_n hC.1 hC.2.1 dL_law_18 rfl (lv_at hl 3 rfl) ?_
    refine lv_aload_n hC.1 hC.2.1 dL_law_19 rfl (lv_at hl 0 rfl) ?_
    refine va_slen hC.1 hC.2.1 hX hbl hbA hS dL_law_20 ?_
    refine lv_bipush (v := nI 6) hC.1 hC.2.1 dL_law_21 (by decide) ?_
    refine lv_isub hC.1 hC.2.1 dL_law_23 ?_
    refine lv_icmp_gt (tgt := 1170) hC.1 hC.2.1 dL_law_24 (by decide) (fun _ => W.widen (by omega) (by omega) (ke H locs ls hS)) (fun h8 => absurd ((gt6 (by omega) hL).mpr (by omega)) h8)
  | succ g ih =>
    intro i nt cells slots H locs ls hg hi hnt hce hsl hI hS hl
    refine lv_iload_n hC.1 hC.2.1 dL_law_18 rfl (lv_at hl 3 rfl) ?_
    refine lv_aload_n hC.1 hC.2.1 dL_law_19 rfl (lv_at hl 0 rfl) ?_
    refine va_slen hC.1 hC.2.1 hX hbl hbA hS dL_law_20 ?_
    refine lv_bipush (v := nI 6) hC.1 hC.2.1 dL_law_21 (by decide) ?_
    refine lv_isub hC.1 hC.2.1 dL_law_23 ?_
    refine lv_icmp_gt (tgt := 1170) hC.1 hC.2.1 dL_law_24 (by decide) (fun _ => W.widen (by omega) (by omega) (ke H locs ls hS)) (fun h8 => ?_)
    have hlt : i + 6 ≤ L := by
      rcases Nat.lt_or_ge L (i + 6) with q | q
      · exact absurd ((gt6 (by omega) hL).mpr q) h8
      · exact q
    refine lv_aload_n hC.1 hC.2.1 dL_law_27 rfl (lv_at hl 0 rfl) ?_
    refine lv_iload_n hC.1 hC.2.1 dL_law_28 rfl (lv_at hl 3 rfl) ?_
    refine va_sld hC.1 hC.2.1 hX hbl hbA hS (vp_in_nI (by omega : i < L) (by omega)) dL_law_29 ?_
    refine lv_bipush (v := nI 31) hC.1 hC.2.1 dL_law_30 (by decide) ?_
    refine lv_iand hC.1 hC.2.1 dL_law_32 ?_
    have next : ∀ (H1 : Heap) (locs1 : List Loc), INV E A co ad (nt + 64) H1 → va_S A s.heap H1 locs1 → W p l e room_1 s m args below meth c H1 locs1 (cells + 2) (slots + 62) Q (F0 m 1164 ls []) := fun H1 locs1 hI1 hS1 => by
      refine lv_iinc (v := nI (i + 6)) (lv' := [(3, .int (nI (i + 6))), (0, .ref b), (1, .ref co), (2, .ref (ad 0))]) hC.1 hC.2.1 dL_law_1164 hl (k := 3) rfl (by rw [show Int32.ofInt 6 = nI 6 from by decide, nI_add]) (by decide) rfl (fun ls2 hl2 => ?_)
      refine lv_goto (tgt := 18) hC.1 hC.2.1 dL_law_1167 (by decide) ?_
      exact ih (i + 6) (nt + 64) (cells + 2) (slots + 62) H1 locs1 ls2 (by omega) (by omega) (by omega) (by omega) (by omega) hI1 hS1 (lv_sub hl2 [1, 2, 3, 0] rfl)
    obtain ⟨v, hv, ev⟩ := and31 (xs (nI i).toNatClampNeg)
    rw [ev]
    clear ev
    have hv' : v = 0 ∨ v = 1 ∨ v = 2 ∨ v = 3 ∨ v = 4 ∨ v = 5 ∨ v = 6 ∨ v = 7 ∨ v = 8 ∨ v = 9 ∨ v = 10 ∨ v = 11 ∨ v = 12 ∨ v = 13 ∨ v = 14 ∨ v = 15 ∨ v = 16 ∨ v = 17 ∨ v = 18 ∨ v = 19 ∨ v = 20 ∨ v = 21 ∨ v = 22 ∨ v = 23 ∨ v = 24 ∨ v = 25 ∨ v = 26 ∨ v = 27 ∨ v = 28 ∨ v = 29 ∨ v = 30 ∨ v = 31 := by omega
    rcases hv' with rfl | rfl | rfl | rfl | rfl | rfl | rfl | rfl | rfl | rfl | rfl | rfl | rfl | rfl | rfl | rfl | rfl | rfl | rfl | rfl | rfl | rfl | rfl | rfl | rfl | rfl | rfl | rfl | rfl | rfl | rfl | rfl
    · exact lv_tableIn (off := 143) (tgt := 176) hC.1 hC.2.1 dL_law_33 (by decide) (by decide) (by decide) (by decide) (lo_net h hlt (by omega) hI hS hl (by omega) (by omega) next)
    · exact lv_tableIn (off := 196) (tgt := 229) hC.1 hC.2.1 dL_law_33 (by decide) (by decide) (by decide) (by decide) (lo_ofPerson h hlt (by omega) hI hS hl (by omega) (by omega) next)
    · exact lv_tableIn (off := 229) (tgt := 262) hC.1 hC.2.1 dL_law_33 (by decide) (by decide) (by decide) (by decide) (lo_call h hlt (by omega) hI hS hl (by omega) (by omega) next)
    · exact lv_tableIn (off := 262) (tgt := 295) hC.1 hC.2.1 dL_law_33 (by decide) (by decide) (by decide) (by decide) (lo_ofCall h hlt (by omega) hI hS hl (by omega) (by omega) next)
    · exact lv_tableIn (off := 295) (tgt := 328) hC.1 hC.2.1 dL_law_33 (by decide) (by decide) (by decide) (by decide) (lo_back h hlt (by omega) hI hS hl (by omega) (by omega) next)
    · exact lv_tableIn (off := 308) (tgt := 341) hC.1 hC.2.1 dL_law_33 (by decide) (by decide) (by decide) (by decide) (lo_may h hlt (by omega) hI hS hl (by omega) (by omega) next)
    · exact lv_tableIn (off := 341) (tgt := 374) hC.1 hC.2.1 dL_law_33 (by decide) (by decide) (by decide) (by decide) (lo_runs h hlt (by omega) hI hS hl (by omega) (by omega) next)
    · exact lv_tableIn (off := 375) (tgt := 408) hC.1 hC.2.1 dL_law_33 (by decide) (by decide) (by decide) (by decide) (lo_verdict h hlt (by omega) hI hS hl (by omega) (by omega) next)
    · exact lv_tableIn (off := 398) (tgt := 431) hC.1 hC.2.1 dL_law_33 (by decide) (by decide) (by decide) (by decide) (lo_calls h hlt (by omega) hI hS hl (by omega) (by omega) next)
    · exact lv_tableIn (off := 431) (tgt := 464) hC.1 hC.2.1 dL_law_33 (by decide) (by decide) (by decide) (by decide) (lo_keeps h hlt (by omega) hI hS hl (by omega) (by omega) next)
    · exact lv_tableIn (off := 474) (tgt := 507) hC.1 hC.2.1 dL_law_33 (by decide) (by decide) (by decide) (by decide) (lo_best h hlt (by omega) hI hS hl (by omega) (by omega) next)
    · exact lv_tableIn (off := 507) (tgt := 540) hC.1 hC.2.1 dL_law_33 (by decide) (by decide) (by decide) (by decide) (lo_alike h hlt (by omega) hI hS hl (by omega) (by omega) next)
    · exact lv_tableIn (off := 530) (tgt := 563) hC.1 hC.2.1 dL_law_33 (by decide) (by decide) (by decide) (by decide) (lo_sure h hlt (by omega) hI hS hl (by omega) (by omega) next)
    · exact lv_tableIn (off := 573) (tgt := 606) hC.1 hC.2.1 dL_law_33 (by decide) (by decide) (by decide) (by decide) (lo_known h hlt (by omega) hI hS hl (by omega) (by omega) next)
    · exact lv_tableIn (off := 606) (tgt := 639) hC.1 hC.2.1 dL_law_33 (by decide) (by decide) (by decide) (by decide) (lo_end h hlt (by omega) hI hS hl (by omega) (by omega) next)
    · exact lv_tableIn (off := 629) (tgt := 662) hC.1 hC.2.1 dL_law_33 (by decide) (by decide) (by decide) (by decide) (lo_joined h hlt (by omega) hI hS hl (by omega) (by omega) next)
    · exact lv_tableIn (off := 642) (tgt := 675) hC.1 hC.2.1 dL_law_33 (by decide) (by decide) (by decide) (by decide) (lo_bridge h hlt (by omega) hI hS hl (by omega) (by omega) next)
    · exact lv_tableIn (off := 665) (tgt := 698) hC.1 hC.2.1 dL_law_33 (by decide) (by decide) (by decide) (by decide) (lo_sun h hlt (by omega) hI hS hl (by omega) (by omega) next)
    · exact lv_tableIn (off := 678) (tgt := 711) hC.1 hC.2.1 dL_law_33 (by decide) (by decide) (by decide) (by decide) (lo_mend h hlt (by omega) hI hS hl (by omega) (by omega) next)
    · exact lv_tableIn (off := 711) (tgt := 744) hC.1 hC.2.1 dL_law_33 (by decide) (by decide) (by decide) (by decide) (lo_nets h hlt (by omega) hI hS hl (by omega) (by omega) next)
    · exact lv_tableIn (off := 754) (tgt := 787) hC.1 hC.2.1 dL_law_33 (by decide) (by decide) (by decide) (by decide) (lo_within h hlt (by omega) hI hS hl (by omega) (by omega) next)
    · exact lv_tableIn (off := 787) (tgt := 820) hC.1 hC.2.1 dL_law_33 (by decide) (by decide) (by decide) (by decide) (lo_sheet h hlt (by omega) hI hS hl (by omega) (by omega) next)
    · exact lv_tableIn (off := 830) (tgt := 863) hC.1 hC.2.1 dL_law_33 (by decide) (by decide) (by decide) (by decide) (lo_lose h hlt (by omega) hI hS hl (by omega) (by omega) next)
    · exact lv_tableIn (off := 853) (tgt := 886) hC.1 hC.2.1 dL_law_33 (by decide) (by decide) (by decide) (by decide) (lo_put h hlt (by omega) hI hS hl (by omega) (by omega) next)
    · exact lv_tableIn (off := 896) (tgt := 929) hC.1 hC.2.1 dL_law_33 (by decide) (by decide) (by decide) (by decide) (lo_cell h hlt (by omega) hI hS hl (by omega) (by omega) next)
    · exact lv_tableIn (off := 940) (tgt := 973) hC.1 hC.2.1 dL_law_33 (by decide) (by decide) (by decide) (by decide) (lo_copy h hlt (by omega) hI hS hl (by omega) (by omega) next)
    · exact lv_tableIn (off := 1003) (tgt := 1036) hC.1 hC.2.1 dL_law_33 (by decide) (by decide) (by decide) (by decide) (lo_tell h hlt (by omega) hI hS hl (by omega) (by omega) next)
    · exact lv_tableIn (off := 1026) (tgt := 1059) hC.1 hC.2.1 dL_law_33 (by decide) (by decide) (by decide) (by decide) (lo_log h hlt (by omega) hI hS hl (by omega) (by omega) next)
    · exact lv_tableIn (off := 1049) (tgt := 1082) hC.1 hC.2.1 dL_law_33 (by decide) (by decide) (by decide) (by decide) (lo_as h hlt (by omega) hI hS hl (by omega) (by omega) next)
    · exact lv_tableIn (off := 1082) (tgt := 1115) hC.1 hC.2.1 dL_law_33 (by decide) (by decide) (by decide) (by decide) (lo_trace h hlt (by omega) hI hS hl (by omega) (by omega) next)
    · exact lv_tableIn (off := 1095) (tgt := 1128) hC.1 hC.2.1 dL_law_33 (by decide) (by decide) (by decide) (by decide) (lo_fault h hlt (by omega) hI hS hl (by omega) (by omega) next)
    · exact lv_tableIn (off := 1108) (tgt := 1141) hC.1 hC.2.1 dL_law_33 (by decide) (by decide) (by decide) (by decide) (lo_many h hlt (by omega) hI hS hl (by omega) (by omega) next)
end LAW
