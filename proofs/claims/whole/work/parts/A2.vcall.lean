/-! ===== calls of methods that subclasses have: virtual, and super; a call's cell ===== -/
theorem gd_O {own : String} {idx : Nat} {C owner : String} {x y : MethodName} {b : ByteArray} {mL : Nat} {ret : Option FieldType} (h1 : Cond.methodLink own idx x ∈ tG) (h2 : Cond.sameMethod x.cls owner x.name x.desc ∈ tG) (h3 : Cond.instanceMethod ⟨owner, x.name, x.desc⟩ ∈ tG) (h4 : Cond.selects C x y ∈ tG) (h5 : Cond.instanceMethod y ∈ tG) (h6 : Cond.initialized y.cls ∈ tG) (h7 : Cond.code y b mL ret ∈ tG) : GoodIn tG (va_wsO own idx C owner x y (wX y b mL ret)) := by
  intro w hw
  unfold va_wsO at hw
  rcases List.mem_append.mp hw with h | h
  · have : w ∈ tG := by
      simp only [List.mem_cons, List.not_mem_nil, or_false] at h
      rcases h with rfl | rfl | rfl | rfl | rfl | rfl <;> assumption
    exact ⟨this, tG_good _ this⟩
  · exact gd_X h7 w h
theorem gd_SU {own : String} {idx : Nat} {y : MethodName} {b : ByteArray} {mL : Nat} {ret : Option FieldType} (h1 : Cond.methodLink own idx y ∈ tG) (h2 : Cond.sameMethod y.cls y.cls y.name y.desc ∈ tG) (h3 : Cond.superclass own y.cls ∈ tG) (h5 : Cond.instanceMethod y ∈ tG) (h6 : Cond.initialized y.cls ∈ tG) (h7 : Cond.code y b mL ret ∈ tG) : GoodIn tG (va_wsSU own idx y (wX y b mL ret)) := by
  intro w hw
  unfold va_wsSU at hw
  rcases List.mem_append.mp hw with h | h
  · have : w ∈ tG := by
      simp only [List.mem_cons, List.not_mem_nil, or_false] at h
      rcases h with rfl | rfl | rfl | rfl | rfl <;> assumption
    exact ⟨this, tG_good _ this⟩
  · exact gd_X h7 w h
abbrev UY (own : String) (idx : Nat) (C owner : String) (x y : MethodName) (b : ByteArray) (mL : Nat) (ret : Option FieldType) (n : Nat) : Prop := GoodIn tG (va_wsO own idx C owner x y (wX y b mL ret)) ∧ (∃ b0 m0 r0, Cond.code ⟨owner, x.name, x.desc⟩ b0 m0 r0 ∈ tG) ∧ (owner ≠ "java/lang/invoke/MethodHandle" ∧ owner ≠ "java/lang/invoke/VarHandle" ∧ (parseMethodDescriptor x.desc).map (fun d => d.parameters.length) = some n)
section B7
variable {p : Program} {l : Launch} {e : Env} {R : Room} {s : State} {m : MethodId} {args : Array Value} {below : List Frame} {meth : Method} {c : Code} {H H0 : Heap} {locs : List Loc} {cells slots mc ms : Nat} {Q : State → Prop} {pc : Nat} {ls : Array Slot} {st0 rest : List Value} {a : Array Value}
  {cc : ByteArray} {nL : Nat} {ret0 : Option FieldType} {own : String} {idx n mL : Nat} {x y : MethodName} {b : ByteArray} {ret : Option FieldType} {rm : Room} {E : EE} {A : Nat → Prop} {C owner : String} {Pc : Array Value → State → Prop} {Qc : Array Value → State → Outcome → State → Prop} {free : Addr → Prop} {As : List Value} {o : Addr}
theorem run_U (hC : CX p s m meth c args cc nL ret0 own) (hM : Met l y (wX y b mL ret) rm Pc Qc mc ms free) (hy : UY own idx C owner x y b mL ret n) (hR : RM rm mL R) (hm : rm.cells = mc ∧ rm.slots = ms) (hp : PreV s H C o Pc As) (hn : As.length = n) (hsz : ls.size = nL) (hst : st0 = As.reverse ++ .ref o :: rest) (hw : (rest.map fun v => v.category).sum ≤ 8) (hdg : decode cc pc = .ok (.invokevirtual idx, 3)) (hf : cells + mc ≤ R.cells ∧ slots + ms ≤ R.slots) :
    va_Run p l e R s m args below meth c H locs cells slots mc ms (F0 m pc ls st0) rest (Qc (Value.ref o :: As).toArray) free := by
  obtain ⟨hx, hb, hr, hts, hown, hml, hlk, hN⟩ := hC
  obtain ⟨h1, ⟨b0, m0, r0, h2⟩, hd⟩ := hy
  exact va_runU ⟨hx, hb, hml, hown, hts⟩ hM (va_cwO n hts h1 rfl hm.1 hm.2 h2 hd hR) hp rfl hn hsz hst (lv_room hw) hdg hf
theorem run_SU {cC : ClassId} (hat : ClassAt s C cC) (hC : CX p s m meth c args cc nL ret0 own) (hM : Met l y (wX y b mL ret) rm Pc Qc mc ms free) (hg : GoodIn tG (va_wsSU own idx y (wX y b mL ret))) (hd : y.name ≠ "<init>" ∧ (parseMethodDescriptor y.desc).map (fun d => d.parameters.length) = some n) (hR : RM rm mL R) (hm : rm.cells = mc ∧ rm.slots = ms) (hp : PreV s H C o Pc As) (hn : As.length = n) (hsz : ls.size = nL) (hst : st0 = As.reverse ++ .ref o :: rest) (hw : (rest.map fun v => v.category).sum ≤ 8) (hdg : decode cc pc = .ok (.invokespecial idx, 3)) (hf : cells + mc ≤ R.cells ∧ slots + ms ≤ R.slots) :
    va_Run p l e R s m args below meth c H locs cells slots mc ms (F0 m pc ls st0) rest (Qc (Value.ref o :: As).toArray) free := by
  obtain ⟨hx, hb, hr, hts, hown, hml, hlk, hN⟩ := hC
  exact va_runSU hat ⟨hx, hb, hml, hown, hts⟩ hM (va_cwSU n hts hg rfl hm.1 hm.2 hd hR) hp rfl hn hsz hst (lv_room hw) hdg hf
/-- virtual, reading -/
theorem cU_r {ws : va_W} {av : List Value} {v : Value} (hC : CX p s m meth c args cc nL ret0 own) (hM : Rd l y b mL ret rm E ws (.ref o :: av) (some v)) (hy : UY own idx C owner x y b mL ret n) (hR : RM rm mL R) (hm : rm.cells = 0 ∧ rm.slots = 0) (hK : va_K E.1 vwCl (tyE E) s) (hP : va_P E.1 vwCl ws H) (hrc : ∃ cell : Cell, H[o]? = some cell ∧ cell.vm.isStatics = false ∧ s.vm.findClass C = some cell.cls) (hn : av.length = n) (hsz : ls.size = nL) (hst : st0 = av.reverse ++ .ref o :: rest) (hw : (rest.map fun v => v.category).sum ≤ 8) (hdg : decode cc pc = .ok (.invokevirtual idx, 3)) (hf : cells ≤ R.cells ∧ slots ≤ R.slots)
    (k : W p l e R s m args below meth c H locs cells slots Q (F0 m (pc + 3) ls (v :: rest))) : W p l e R s m args below meth c H locs cells slots Q (F0 m pc ls st0) :=
  go_pz (run_U hC hM hy hR hm (preV (pre_rd hC.2.2.2.2.2.2.2 hK hP) hrc) hn hsz hst hw hdg hf) k
/-- virtual, writing -/
theorem cU_wr {X wc Y ws : va_W} {av : List Value} {Post : Option Value → va_W → Prop} (hC : CX p s m meth c args cc nL ret0 own) (hM : Wr l y b mL ret rm mc ms E wc H.size (.ref o :: av) Post) (hy : UY own idx C owner x y b mL ret n) (hR : RM rm mL R) (hm : rm.cells = mc ∧ rm.slots = ms) (hK : va_K E.1 vwCl (tyE E) s) (hP : va_P E.1 vwCl ws H) (hD : va_D A ws) (hS : va_S A H0 H locs) (hA : ∀ q : Nat, H0.size ≤ q → A q) (hws : ws = X ++ (wc ++ Y)) (hrc : ∃ cell : Cell, H[o]? = some cell ∧ cell.vm.isStatics = false ∧ s.vm.findClass C = some cell.cls) (hn : av.length = n) (hsz : ls.size = nL) (hst : st0 = av.reverse ++ .ref o :: rest) (hw : (rest.map fun v => v.category).sum ≤ 8) (hdg : decode cc pc = .ok (.invokevirtual idx, 3)) (hf : cells + mc ≤ R.cells ∧ slots + ms ≤ R.slots)
    (kk : ∀ (v : Option Value) (w1 : va_W) (H1 : Heap) (locs1 : List Loc), Post v w1 → va_P E.1 vwCl (X ++ (w1 ++ Y)) H1 → va_D A (X ++ (w1 ++ Y)) → va_S A H0 H1 locs1 → W p l e R s m args below meth c H1 locs1 (cells + mc) (slots + ms) Q (F0 m (pc + 3) ls (v.toList ++ rest))) : W p l e R s m args below meth c H locs cells slots Q (F0 m pc ls st0) :=
  go_wr (run_U hC hM hy hR hm (preV (pre_wr hC.2.2.2.2.2.2.2 hK (va_P_l (va_P_r (hws ▸ hP))) (va_D_l (va_D_r (hws ▸ hD)))) hrc) hn hsz hst hw hdg hf) hP hD hS hA hws kk
/-- super's, writing -/
theorem cSU_wr {X wc Y ws : va_W} {av : List Value} {Post : Option Value → va_W → Prop} {cC : ClassId} (hat : ClassAt s C cC) (hC : CX p s m meth c args cc nL ret0 own) (hM : Wr l y b mL ret rm mc ms E wc H.size (.ref o :: av) Post) (hg : GoodIn tG (va_wsSU own idx y (wX y b mL ret))) (hd : y.name ≠ "<init>" ∧ (parseMethodDescriptor y.desc).map (fun d => d.parameters.length) = some n) (hR : RM rm mL R) (hm : rm.cells = mc ∧ rm.slots = ms) (hK : va_K E.1 vwCl (tyE E) s) (hP : va_P E.1 vwCl ws H) (hD : va_D A ws) (hS : va_S A H0 H locs) (hA : ∀ q : Nat, H0.size ≤ q → A q) (hws : ws = X ++ (wc ++ Y)) (hrc : ∃ cell : Cell, H[o]? = some cell ∧ cell.vm.isStatics = false ∧ s.vm.findClass C = some cell.cls) (hn : av.length = n) (hsz : ls.size = nL) (hst : st0 = av.reverse ++ .ref o :: rest) (hw : (rest.map fun v => v.category).sum ≤ 8) (hdg : decode cc pc = .ok (.invokespecial idx, 3)) (hf : cells + mc ≤ R.cells ∧ slots + ms ≤ R.slots)
    (kk : ∀ (v : Option Value) (w1 : va_W) (H1 : Heap) (locs1 : List Loc), Post v w1 → va_P E.1 vwCl (X ++ (w1 ++ Y)) H1 → va_D A (X ++ (w1 ++ Y)) → va_S A H0 H1 locs1 → W p l e R s m args below meth c H1 locs1 (cells + mc) (slots + ms) Q (F0 m (pc + 3) ls (v.toList ++ rest))) : W p l e R s m args below meth c H locs cells slots Q (F0 m pc ls st0) :=
  go_wr (run_SU hat hC hM hg hd hR hm (preV (pre_wr hC.2.2.2.2.2.2.2 hK (va_P_l (va_P_r (hws ▸ hP))) (va_D_l (va_D_r (hws ▸ hD)))) hrc) hn hsz hst hw hdg hf) hP hD hS hA hws kk
end B7
theorem uy_kind_1 : UY RX11 146 RX1 RX1 yX1_kind yX1_kind cX1_kind 1 (some .int) 0 := ⟨gd_O kw_337 kw_340 kw_338 kw_339 kw_338 kw_9 kw_347, ⟨_, _, _, kw_347⟩, ⟨by decide +kernel, by decide +kernel, by decide +kernel⟩⟩
theorem uy_kind_4 : UY RX11 146 RX4 RX1 yX1_kind yX4_kind cX4_kind 1 (some .int) 0 := ⟨gd_O kw_337 kw_340 kw_338 kw_341 kw_342 kw_10 kw_343, ⟨_, _, _, kw_347⟩, ⟨by decide +kernel, by decide +kernel, by decide +kernel⟩⟩
theorem uy_kind_10 : UY RX11 146 RX10 RX1 yX1_kind yX10_kind cX10_kind 1 (some .int) 0 := ⟨gd_O kw_337 kw_340 kw_338 kw_344 kw_345 kw_11 kw_346, ⟨_, _, _, kw_347⟩, ⟨by decide +kernel, by decide +kernel, by decide +kernel⟩⟩
theorem uy_learnt_1 : UY RX11 156 RX1 RX1 yX1_learntBy yX1_learntBy cX1_learntBy 2 (some .int) 1 := ⟨gd_O kw_348 kw_351 kw_349 kw_350 kw_349 kw_9 kw_354, ⟨_, _, _, kw_354⟩, ⟨by decide +kernel, by decide +kernel, by decide +kernel⟩⟩
theorem uy_learnt_4 : UY RX11 156 RX4 RX1 yX1_learntBy yX1_learntBy cX1_learntBy 2 (some .int) 1 := ⟨gd_O kw_348 kw_351 kw_349 kw_352 kw_349 kw_9 kw_354, ⟨_, _, _, kw_354⟩, ⟨by decide +kernel, by decide +kernel, by decide +kernel⟩⟩
theorem uy_learnt_10 : UY RX11 156 RX10 RX1 yX1_learntBy yX1_learntBy cX1_learntBy 2 (some .int) 1 := ⟨gd_O kw_348 kw_351 kw_349 kw_353 kw_349 kw_9 kw_354, ⟨_, _, _, kw_354⟩, ⟨by decide +kernel, by decide +kernel, by decide +kernel⟩⟩
theorem uy_tell_1 : UY RX11 274 RX1 RX1 yX1_telling yX1_telling cX1_telling 2 (some .int) 1 := ⟨gd_O kw_664 kw_667 kw_665 kw_666 kw_665 kw_9 kw_697, ⟨_, _, _, kw_697⟩, ⟨by decide +kernel, by decide +kernel, by decide +kernel⟩⟩
theorem uy_tell_4 : UY RX11 274 RX4 RX1 yX1_telling yX4_telling cX4_telling 3 (some .int) 1 := ⟨gd_O kw_664 kw_667 kw_665 kw_668 kw_669 kw_10 kw_670, ⟨_, _, _, kw_697⟩, ⟨by decide +kernel, by decide +kernel, by decide +kernel⟩⟩
theorem uy_tell_10 : UY RX11 274 RX10 RX1 yX1_telling yX10_telling cX10_telling 3 (some .int) 1 := ⟨gd_O kw_664 kw_667 kw_665 kw_689 kw_690 kw_11 kw_691, ⟨_, _, _, kw_697⟩, ⟨by decide +kernel, by decide +kernel, by decide +kernel⟩⟩
theorem uy_log_1 : UY RX11 278 RX1 RX1 yX1_logged yX1_logged cX1_logged 2 (some .int) 1 := ⟨gd_O kw_703 kw_706 kw_704 kw_705 kw_704 kw_9 kw_711, ⟨_, _, _, kw_711⟩, ⟨by decide +kernel, by decide +kernel, by decide +kernel⟩⟩
theorem uy_log_4 : UY RX11 278 RX4 RX1 yX1_logged yX1_logged cX1_logged 2 (some .int) 1 := ⟨gd_O kw_703 kw_706 kw_704 kw_707 kw_704 kw_9 kw_711, ⟨_, _, _, kw_711⟩, ⟨by decide +kernel, by decide +kernel, by decide +kernel⟩⟩
theorem uy_log_10 : UY RX11 278 RX10 RX1 yX1_logged yX10_logged cX10_logged 2 (some .int) 1 := ⟨gd_O kw_703 kw_706 kw_704 kw_708 kw_709 kw_11 kw_710, ⟨_, _, _, kw_711⟩, ⟨by decide +kernel, by decide +kernel, by decide +kernel⟩⟩
theorem un_learnt_4 : UY RX4 19 RX4 RX1 ⟨"CallRounds$News", "learntBy", "(I)I"⟩ yX1_learntBy cX1_learntBy 2 (some .int) 1 := ⟨gd_O kw_675 kw_676 kw_349 kw_678 kw_349 kw_9 kw_354, ⟨_, _, _, kw_354⟩, ⟨by decide +kernel, by decide +kernel, by decide +kernel⟩⟩
theorem un_plain_4 : UY RX4 31 RX4 RX1 ⟨"CallRounds$News", "plainTelling", "(LCallRounds$Trace;)I"⟩ yX1_plainTelling cX1_plainTelling 2 (some .int) 1 := ⟨gd_O kw_681 kw_682 kw_686 kw_684 kw_686 kw_9 kw_687, ⟨_, _, _, kw_687⟩, ⟨by decide +kernel, by decide +kernel, by decide +kernel⟩⟩
theorem un_learnt_10 : UY RX4 19 RX10 RX1 ⟨"CallRounds$News", "learntBy", "(I)I"⟩ yX1_learntBy cX1_learntBy 2 (some .int) 1 := ⟨gd_O kw_675 kw_676 kw_349 kw_679 kw_349 kw_9 kw_354, ⟨_, _, _, kw_354⟩, ⟨by decide +kernel, by decide +kernel, by decide +kernel⟩⟩
theorem un_plain_10 : UY RX4 31 RX10 RX1 ⟨"CallRounds$News", "plainTelling", "(LCallRounds$Trace;)I"⟩ yX1_plainTelling cX1_plainTelling 2 (some .int) 1 := ⟨gd_O kw_681 kw_682 kw_686 kw_685 kw_686 kw_9 kw_687, ⟨_, _, _, kw_687⟩, ⟨by decide +kernel, by decide +kernel, by decide +kernel⟩⟩
theorem uc_plain_1 : UY RX1 32 RX1 RX1 yX1_plainTelling yX1_plainTelling cX1_plainTelling 2 (some .int) 1 := ⟨gd_O kw_698 kw_1101 kw_686 kw_1102 kw_686 kw_9 kw_687, ⟨_, _, _, kw_687⟩, ⟨by decide +kernel, by decide +kernel, by decide +kernel⟩⟩
theorem uw_plain_10 : UY RX10 17 RX10 RX1 ⟨"CallRounds$Whole", "plainTelling", "(LCallRounds$Trace;)I"⟩ yX1_plainTelling cX1_plainTelling 2 (some .int) 1 := ⟨gd_O kw_694 kw_695 kw_686 kw_696 kw_686 kw_9 kw_687, ⟨_, _, _, kw_687⟩, ⟨by decide +kernel, by decide +kernel, by decide +kernel⟩⟩
theorem kw_319 : Cond.superclass RX10 RX4 ∈ tG := tG_of 319 (by decide +kernel) rfl
theorem gs_tell : GoodIn tG (va_wsSU RX10 13 yX4_telling (wX yX4_telling cX4_telling 3 (some .int))) := gd_SU kw_693 kw_1100 kw_319 kw_669 kw_10 kw_670
