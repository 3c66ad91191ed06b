section B2
variable {p : Program} {l : Launch} {e : Env} {R : Room} {s : State} {m : MethodId} {args : Array Value} {below : List Frame} {meth : Method} {c : Code} {H H0 : Heap} {locs : List Loc} {cells slots mc ms : Nat} {Q : State → Prop} {pc : Nat} {ls : Array Slot} {st0 rest : List Value} {a : Array Value}
  {cc : ByteArray} {nL : Nat} {ret0 : Option FieldType} {own : String} {idx n mL : Nat} {y : MethodName} {b : ByteArray} {ret : Option FieldType} {rm : Room} {E : EE} {A : Nat → Prop}
/-- a writing callee: its cells wc stand at X ++ (wc ++ Y) -/
theorem go_wr {X wc Y ws : va_W} {Post : Option Value → va_W → Prop} (hr : va_Run p l e R s m args below meth c H locs cells slots mc ms (F0 m pc ls st0) rest (wr_Q E (va_A wc H.size) Post a) (va_A wc H.size))
    (hP : va_P E.1 vwCl ws H) (hD : va_D A ws) (hS : va_S A H0 H locs) (hA : ∀ q : Nat, H0.size ≤ q → A q) (hw : ws = X ++ (wc ++ Y))
    (kk : ∀ (v : Option Value) (w1 : va_W) (H1 : Heap) (locs1 : List Loc), Post v w1 → va_P E.1 vwCl (X ++ (w1 ++ Y)) H1 → va_D A (X ++ (w1 ++ Y)) → va_S A H0 H1 locs1 → W p l e R s m args below meth c H1 locs1 (cells + mc) (slots + ms) Q (F0 m (pc + 3) ls (v.toList ++ rest))) : W p l e R s m args below meth c H locs cells slots Q (F0 m pc ls st0) := by
  subst hw
  have hF : ∀ q, va_A wc H.size q → A q := fun q h => by
    rcases h with ⟨k, e, hk⟩ | h
    · exact (va_D_l (va_D_r hD)).2 k _ hk
    · exact hA q (Nat.le_trans hS.1 h)
  intro T hT XX
  obtain ⟨w, st₀, t, T', L, h0, X', hL, e1, e2, ⟨⟨v, w1, hv, hp, hP1, hD1⟩, hz, hk⟩, st⟩ := hr T hT XX
  cases hv
  rw [h0] at hz hk
  rw [← e1] at hP1 hz hk
  obtain ⟨hP2, hD2⟩ := fr_in hP hD hk hF hP1 hD1
  obtain ⟨t2, a1, b1⟩ := kk w w1 T'.heap (locs ++ L) hp hP2 hD2 ⟨Nat.le_trans hS.1 hz, fun q h1 h2 => by rw [hk q (Nat.lt_of_lt_of_le h1 hS.1) (fun z => h2 (hF q z))]; exact hS.2.1 q h1 h2, fun q hq => by
      rcases List.mem_append.mp hq with h | h
      · exact hS.2.2 q h
      · exact hF _ (hL q h)⟩ T' rfl X'
  exact ⟨t2, st t2 a1, b1⟩
/-- what is always said of a method that is called: static ones, instance ones (n arguments beside this) -/
abbrev SY (y : MethodName) (b : ByteArray) (mL : Nat) (ret : Option FieldType) (n : Nat) : Prop := Cond.static y ∈ tG ∧ Cond.initialized y.cls ∈ tG ∧ Cond.code y b mL ret ∈ tG ∧ (y.cls ≠ "java/lang/invoke/MethodHandle" ∧ y.cls ≠ "java/lang/invoke/VarHandle" ∧ (parseMethodDescriptor y.desc).map (fun d => d.parameters.length) = some n)
abbrev IY (y : MethodName) (b : ByteArray) (mL : Nat) (ret : Option FieldType) (n : Nat) : Prop := Cond.instanceMethod y ∈ tG ∧ Cond.selects y.cls y y ∈ tG ∧ Cond.initialized y.cls ∈ tG ∧ Cond.code y b mL ret ∈ tG ∧ (y.cls ≠ "java/lang/invoke/MethodHandle" ∧ y.cls ≠ "java/lang/invoke/VarHandle" ∧ (parseMethodDescriptor y.desc).map (fun d => d.parameters.length) = some n)
abbrev NY (y : MethodName) (b : ByteArray) (mL : Nat) (n : Nat) : Prop := Cond.instanceMethod y ∈ tG ∧ y.name = "<init>" ∧ Cond.initialized y.cls ∈ tG ∧ Cond.code y b mL none ∈ tG ∧ (y.cls ≠ "java/lang/invoke/MethodHandle" ∧ y.cls ≠ "java/lang/invoke/VarHandle" ∧ (parseMethodDescriptor y.desc).map (fun d => d.parameters.length) = some n)
abbrev RM (rm : Room) (mL : Nat) (R : Room) : Prop := rm.frames + 1 ≤ R.frames ∧ 8 + (mL + 11) + rm.locals ≤ R.locals
variable {Pc : Array Value → State → Prop} {Qc : Array Value → State → Outcome → State → Prop} {free : Addr → Prop} {As : List Value} {o : Addr}
theorem run_S (hC : CX p s m meth c args cc nL ret0 own) (hM : Met l y (wX y b mL ret) rm Pc Qc mc ms free) (hl : Cond.methodLink own idx y ∈ tG) (hy : SY y b mL ret n) (hR : RM rm mL R) (hm : rm.cells = mc ∧ rm.slots = ms) (hp : PreS s H Pc As) (hn : As.length = n) (hsz : ls.size = nL) (hst : st0 = As.reverse ++ rest) (hw : (rest.map fun v => v.category).sum ≤ 8) (hdg : decode cc pc = .ok (.invokestatic idx, 3)) (hf : cells + mc ≤ R.cells ∧ slots + ms ≤ R.slots) :
    va_Run p l e R s m args below meth c H locs cells slots mc ms (F0 m pc ls st0) rest (Qc As.toArray) free := by
  obtain ⟨hx, hb, hr, hts, hown, hml, hlk, hN⟩ := hC
  obtain ⟨h1, h2, h3, hd⟩ := hy
  exact va_runS ⟨hx, hb, hml, hown, hts⟩ hM ⟨callB_of n hts (gd_X h3) rfl hm.1 hm.2 (hts _ h2) (hts _ hl) hd hR, hts _ h1⟩ hp rfl hn hsz hst (lv_room hw) hdg hf
theorem run_SN {host : String} (hC : CX p s m meth c args cc nL ret0 own) (hM : Met l y (wX y b mL ret) rm Pc Qc mc ms free) (hl : va_Nw (.methodLinkNest own idx y host) s) (hy : SY y b mL ret n) (hR : RM rm mL R) (hm : rm.cells = mc ∧ rm.slots = ms) (hp : PreS s H Pc As) (hn : As.length = n) (hsz : ls.size = nL) (hst : st0 = As.reverse ++ rest) (hw : (rest.map fun v => v.category).sum ≤ 8) (hdg : decode cc pc = .ok (.invokestatic idx, 3)) (hf : cells + mc ≤ R.cells ∧ slots + ms ≤ R.slots) :
    va_Run p l e R s m args below meth c H locs cells slots mc ms (F0 m pc ls st0) rest (Qc As.toArray) free := by
  obtain ⟨hx, hb, hr, hts, hown, hml, hlk, hN⟩ := hC
  obtain ⟨h1, h2, h3, hd⟩ := hy
  exact va_runSN ⟨hx, hb, hml, hown, hts⟩ hM ⟨va_cnB n hts (gd_X h3) rfl hm.1 hm.2 hl (hts _ h2) hd hR, hts _ h1, trivial⟩ hp rfl hn hsz hst (lv_room hw) hdg hf
theorem run_V (hC : CX p s m meth c args cc nL ret0 own) (hM : Met l y (wX y b mL ret) rm Pc Qc mc ms free) (hl : Cond.methodLink own idx y ∈ tG) (hy : IY y b mL ret n) (hR : RM rm mL R) (hm : rm.cells = mc ∧ rm.slots = ms) (hp : PreV s H y.cls o Pc As) (hn : As.length = n) (hsz : ls.size = nL) (hst : st0 = As.reverse ++ .ref o :: rest) (hw : (rest.map fun v => v.category).sum ≤ 8) (hdg : decode cc pc = .ok (.invokevirtual idx, 3)) (hf : cells + mc ≤ R.cells ∧ slots + ms ≤ R.slots) :
    va_Run p l e R s m args below meth c H locs cells slots mc ms (F0 m pc ls st0) rest (Qc (Value.ref o :: As).toArray) free := by
  obtain ⟨hx, hb, hr, hts, hown, hml, hlk, hN⟩ := hC
  obtain ⟨h0, h1, h2, h3, hd⟩ := hy
  exact va_runV ⟨hx, hb, hml, hown, hts⟩ hM ⟨callB_of n hts (gd_X h3) rfl hm.1 hm.2 (hts _ h2) (hts _ hl) hd hR, hts _ h0, hts _ h1⟩ hp rfl hn hsz hst (lv_room hw) hdg hf
theorem run_I (hC : CX p s m meth c args cc nL ret0 own) (hM : Met l y (wX y b mL none) rm Pc Qc mc ms free) (hl : Cond.methodLink own idx y ∈ tG) (hy : NY y b mL n) (hR : RM rm mL R) (hm : rm.cells = mc ∧ rm.slots = ms) (hp : PreS s H Pc (.ref o :: As)) (hn : As.length = n) (hsz : ls.size = nL) (hst : st0 = As.reverse ++ .ref o :: rest) (hw : (rest.map fun v => v.category).sum ≤ 8) (hdg : decode cc pc = .ok (.invokespecial idx, 3)) (hf : cells + mc ≤ R.cells ∧ slots + ms ≤ R.slots) :
    va_Run p l e R s m args below meth c H locs cells slots mc ms (F0 m pc ls st0) rest (Qc (Value.ref o :: As).toArray) free := by
  obtain ⟨hx, hb, hr, hts, hown, hml, hlk, hN⟩ := hC
  obtain ⟨h0, h1, h2, h3, hd⟩ := hy
  exact va_runI ⟨hx, hb, hml, hown, hts⟩ hM ⟨callB_of n hts (gd_X h3) rfl hm.1 hm.2 (hts _ h2) (hts _ hl) hd hR, h1, hts _ h0⟩ hp rfl hn hsz hst (lv_room hw) hdg hf
theorem pre_pz {av : List Value} (hN : NW s) : PreS s H (pz_P av) av := ⟨fun _ _ _ _ h => ⟨h.1, h.2.call⟩, fun _ _ hW => ⟨rfl, hN.warm hW⟩⟩
theorem pre_rd {ws : va_W} {av : List Value} (hN : NW s) (hK : va_K E.1 vwCl (tyE E) s) (hP : va_P E.1 vwCl ws H) : PreS s H (rd_P E ws av) av := ⟨fun _ _ _ _ h => ⟨h.1, h.2.1.call, h.2.2⟩, fun _ hU hW => ⟨rfl, KX.warm hW ⟨hN, hK⟩, by rw [hU]; exact hP⟩⟩
theorem pre_wr {ws : va_W} {av : List Value} (hN : NW s) (hK : va_K E.1 vwCl (tyE E) s) (hP : va_P E.1 vwCl ws H) (hD : va_D A ws) : PreS s H (wr_P E ws H.size av) av := ⟨fun _ _ _ _ h => ⟨h.1, h.2.1.call, h.2.2⟩, fun _ hU hW => ⟨rfl, KX.warm hW ⟨hN, hK⟩, by rw [hU], by rw [hU]; exact hP, hD.weaken (fun _ _ _ _ => trivial)⟩⟩
theorem preV {C : String} (h : PreS s H Pc (.ref o :: As)) (hr : ∃ cell : Cell, H[o]? = some cell ∧ cell.vm.isStatics = false ∧ s.vm.findClass C = some cell.cls) : PreV s H C o Pc As := ⟨h.1, hr, h.2⟩
/-- a receiver: the first cell of ws is an object of class number ci -/
theorem recv0 {q0 ci : Nat} {r : vw_C} {fs : List Value} {ws : va_W} (hK : va_K E.1 vwCl (tyE E) s) (hP : va_P E.1 vwCl ws H) (hc : vwCl[ci]? = some r) (he : ws[q0]? = some (o, .inr (ci, fs))) : ∃ cell : Cell, H[o]? = some cell ∧ cell.vm.isStatics = false ∧ s.vm.findClass r.1 = some cell.cls := va_recv hK hP hc he
/-! calls, in one row each -/
/-- static, pure -/
theorem cS_pz {av : List Value} {v : Option Value} (hC : CX p s m meth c args cc nL ret0 own) (hM : Pz l y b mL ret rm av v) (hl : Cond.methodLink own idx y ∈ tG) (hy : SY y b mL ret n) (hR : RM rm mL R) (hm : rm.cells = 0 ∧ rm.slots = 0) (hn : av.length = n) (hsz : ls.size = nL) (hst : st0 = av.reverse ++ rest) (hw : (rest.map fun v => v.category).sum ≤ 8) (hdg : decode cc pc = .ok (.invokestatic idx, 3)) (hf : cells ≤ R.cells ∧ slots ≤ R.slots)
    (k : W p l e R s m args below meth c H locs cells slots Q (F0 m (pc + 3) ls (v.toList ++ rest))) : W p l e R s m args below meth c H locs cells slots Q (F0 m pc ls st0) :=
  go_pz (run_S hC hM hl hy hR hm (pre_pz hC.2.2.2.2.2.2.2) hn hsz hst hw hdg hf) k
/-- static of the nest host, pure -/
theorem cN_pz {host : String} {av : List Value} {v : Option Value} (hC : CX p s m meth c args cc nL ret0 own) (hM : Pz l y b mL ret rm av v) (hl : va_Nw (.methodLinkNest own idx y host) s) (hy : SY y b mL ret n) (hR : RM rm mL R) (hm : rm.cells = 0 ∧ rm.slots = 0) (hn : av.length = n) (hsz : ls.size = nL) (hst : st0 = av.reverse ++ rest) (hw : (rest.map fun v => v.category).sum ≤ 8) (hdg : decode cc pc = .ok (.invokestatic idx, 3)) (hf : cells ≤ R.cells ∧ slots ≤ R.slots)
    (k : W p l e R s m args below meth c H locs cells slots Q (F0 m (pc + 3) ls (v.toList ++ rest))) : W p l e R s m args below meth c H locs cells slots Q (F0 m pc ls st0) :=
  go_pz (run_SN hC hM hl hy hR hm (pre_pz hC.2.2.2.2.2.2.2) hn hsz hst hw hdg hf) k
/-- static, reading cells -/
theorem cS_rd {ws : va_W} {av : List Value} {v : Option Value} (hC : CX p s m meth c args cc nL ret0 own) (hM : Rd l y b mL ret rm E ws av v) (hl : Cond.methodLink own idx y ∈ tG) (hy : SY y b mL ret n) (hR : RM rm mL R) (hm : rm.cells = 0 ∧ rm.slots = 0) (hK : va_K E.1 vwCl (tyE E) s) (hP : va_P E.1 vwCl ws H) (hn : av.length = n) (hsz : ls.size = nL) (hst : st0 = av.reverse ++ rest) (hw : (rest.map fun v => v.category).sum ≤ 8) (hdg : decode cc pc = .ok (.invokestatic idx, 3)) (hf : cells ≤ R.cells ∧ slots ≤ R.slots)
    (k : W p l e R s m args below meth c H locs cells slots Q (F0 m (pc + 3) ls (v.toList ++ rest))) : W p l e R s m args below meth c H locs cells slots Q (F0 m pc ls st0) :=
  go_pz (run_S hC hM hl hy hR hm (pre_rd hC.2.2.2.2.2.2.2 hK hP) hn hsz hst hw hdg hf) k
/-- of an object, reading cells: the object stands at place q0 of ws -/
theorem cV_rd {ws : va_W} {av : List Value} {v : Option Value} (hC : CX p s m meth c args cc nL ret0 own) (hM : Rd l y b mL ret rm E ws (.ref o :: av) v) (hl : Cond.methodLink own idx y ∈ tG) (hy : IY y b mL ret n) (hR : RM rm mL R) (hm : rm.cells = 0 ∧ rm.slots = 0) (hK : va_K E.1 vwCl (tyE E) s) (hP : va_P E.1 vwCl ws H) (hrc : ∃ cell : Cell, H[o]? = some cell ∧ cell.vm.isStatics = false ∧ s.vm.findClass y.cls = some cell.cls) (hn : av.length = n) (hsz : ls.size = nL) (hst : st0 = av.reverse ++ .ref o :: rest) (hw : (rest.map fun v => v.category).sum ≤ 8) (hdg : decode cc pc = .ok (.invokevirtual idx, 3)) (hf : cells ≤ R.cells ∧ slots ≤ R.slots)
    (k : W p l e R s m args below meth c H locs cells slots Q (F0 m (pc + 3) ls (v.toList ++ rest))) : W p l e R s m args below meth c H locs cells slots Q (F0 m pc ls st0) :=
  go_pz (run_V hC hM hl hy hR hm (preV (pre_rd hC.2.2.2.2.2.2.2 hK hP) hrc) hn hsz hst hw hdg hf) k
/-- of an object, writing -/
theorem cV_wr {X wc Y ws : va_W} {av : List Value} {Post : Option Value → va_W → Prop} (hC : CX p s m meth c args cc nL ret0 own) (hM : Wr l y b mL ret rm mc ms E wc H.size (.ref o :: av) Post) (hl : Cond.methodLink own idx y ∈ tG) (hy : IY y b mL ret n) (hR : RM rm mL R) (hm : rm.cells = mc ∧ rm.slots = ms) (hK : va_K E.1 vwCl (tyE E) s) (hP : va_P E.1 vwCl ws H) (hD : va_D A ws) (hS : va_S A H0 H locs) (hA : ∀ q : Nat, H0.size ≤ q → A q) (hws : ws = X ++ (wc ++ Y)) (hrc : ∃ cell : Cell, H[o]? = some cell ∧ cell.vm.isStatics = false ∧ s.vm.findClass y.cls = some cell.cls) (hn : av.length = n) (hsz : ls.size = nL) (hst : st0 = av.reverse ++ .ref o :: rest) (hw : (rest.map fun v => v.category).sum ≤ 8) (hdg : decode cc pc = .ok (.invokevirtual idx, 3)) (hf : cells + mc ≤ R.cells ∧ slots + ms ≤ R.slots)
    (kk : ∀ (v : Option Value) (w1 : va_W) (H1 : Heap) (locs1 : List Loc), Post v w1 → va_P E.1 vwCl (X ++ (w1 ++ Y)) H1 → va_D A (X ++ (w1 ++ Y)) → va_S A H0 H1 locs1 → W p l e R s m args below meth c H1 locs1 (cells + mc) (slots + ms) Q (F0 m (pc + 3) ls (v.toList ++ rest))) : W p l e R s m args below meth c H locs cells slots Q (F0 m pc ls st0) :=
  go_wr (run_V hC hM hl hy hR hm (preV (pre_wr hC.2.2.2.2.2.2.2 hK (va_P_l (va_P_r (hws ▸ hP))) (va_D_l (va_D_r (hws ▸ hD)))) hrc) hn hsz hst hw hdg hf) hP hD hS hA hws kk
/-- static, writing -/
theorem cS_wr {X wc Y ws : va_W} {av : List Value} {Post : Option Value → va_W → Prop} (hC : CX p s m meth c args cc nL ret0 own) (hM : Wr l y b mL ret rm mc ms E wc H.size av Post) (hl : Cond.methodLink own idx y ∈ tG) (hy : SY y b mL ret n) (hR : RM rm mL R) (hm : rm.cells = mc ∧ rm.slots = ms) (hK : va_K E.1 vwCl (tyE E) s) (hP : va_P E.1 vwCl ws H) (hD : va_D A ws) (hS : va_S A H0 H locs) (hA : ∀ q : Nat, H0.size ≤ q → A q) (hws : ws = X ++ (wc ++ Y)) (hn : av.length = n) (hsz : ls.size = nL) (hst : st0 = av.reverse ++ rest) (hw : (rest.map fun v => v.category).sum ≤ 8) (hdg : decode cc pc = .ok (.invokestatic idx, 3)) (hf : cells + mc ≤ R.cells ∧ slots + ms ≤ R.slots)
    (kk : ∀ (v : Option Value) (w1 : va_W) (H1 : Heap) (locs1 : List Loc), Post v w1 → va_P E.1 vwCl (X ++ (w1 ++ Y)) H1 → va_D A (X ++ (w1 ++ Y)) → va_S A H0 H1 locs1 → W p l e R s m args below meth c H1 locs1 (cells + mc) (slots + ms) Q (F0 m (pc + 3) ls (v.toList ++ rest))) : W p l e R s m args below meth c H locs cells slots Q (F0 m pc ls st0) :=
  go_wr (run_S hC hM hl hy hR hm (pre_wr hC.2.2.2.2.2.2.2 hK (va_P_l (va_P_r (hws ▸ hP))) (va_D_l (va_D_r (hws ▸ hD)))) hn hsz hst hw hdg hf) hP hD hS hA hws kk
/-- a constructor -/
theorem cI_wr {X wc Y ws : va_W} {av : List Value} {Post : Option Value → va_W → Prop} (hC : CX p s m meth c args cc nL ret0 own) (hM : Wr l y b mL none rm mc ms E wc H.size (.ref o :: av) Post) (hl : Cond.methodLink own idx y ∈ tG) (hy : NY y b mL n) (hR : RM rm mL R) (hm : rm.cells = mc ∧ rm.slots = ms) (hK : va_K E.1 vwCl (tyE E) s) (hP : va_P E.1 vwCl ws H) (hD : va_D A ws) (hS : va_S A H0 H locs) (hA : ∀ q : Nat, H0.size ≤ q → A q) (hws : ws = X ++ (wc ++ Y)) (hn : av.length = n) (hsz : ls.size = nL) (hst : st0 = av.reverse ++ .ref o :: rest) (hw : (rest.map fun v => v.category).sum ≤ 8) (hdg : decode cc pc = .ok (.invokespecial idx, 3)) (hf : cells + mc ≤ R.cells ∧ slots + ms ≤ R.slots)
    (kk : ∀ (v : Option Value) (w1 : va_W) (H1 : Heap) (locs1 : List Loc), Post v w1 → va_P E.1 vwCl (X ++ (w1 ++ Y)) H1 → va_D A (X ++ (w1 ++ Y)) → va_S A H0 H1 locs1 → W p l e R s m args below meth c H1 locs1 (cells + mc) (slots + ms) Q (F0 m (pc + 3) ls (v.toList ++ rest))) : W p l e R s m args below meth c H locs cells slots Q (F0 m pc ls st0) :=
  go_wr (run_I hC hM hl hy hR hm (pre_wr hC.2.2.2.2.2.2.2 hK (va_P_l (va_P_r (hws ▸ hP))) (va_D_l (va_D_r (hws ▸ hD)))) hn hsz hst hw hdg hf) hP hD hS hA hws kk
/-! returns -/
theorem rz_i {v : Int32} {ty : FieldType} {pc : Nat} {ls : Array Slot} (hC : CX p s m meth c args cc nL (some ty) own) (hn : narrow ty (.int v) = .int v) (hdg : decode cc pc = .ok (.ireturn, 1)) : W p l e R s m args below meth c s.heap [] 0 0 (MQ below (pz_Q (some (.int v))) args s 0 0 pz_F) (F0 m pc ls [.int v]) :=
  W.zret hC.1 hC.2.1 hC.2.2.1 hn (fun _ ht _ => ⟨rfl, ht⟩) (fun _ h => absurd h List.not_mem_nil) hdg (hlocks := hC.2.2.2.2.2.2.1)
theorem rz_l {v : Int64} {pc : Nat} {ls : Array Slot} (hC : CX p s m meth c args cc nL (some .long) own) (hdg : decode cc pc = .ok (.lreturn, 1)) : W p l e R s m args below meth c s.heap [] 0 0 (MQ below (pz_Q (some (.long v))) args s 0 0 pz_F) (F0 m pc ls [.long v]) :=
  W.lret hC.1 hC.2.1 hC.2.2.1 (fun _ ht _ => ⟨rfl, ht⟩) (fun _ h => absurd h List.not_mem_nil) hdg (hlocks := hC.2.2.2.2.2.2.1)
theorem rw_i {v : Int32} {ty : FieldType} {pc : Nat} {ls : Array Slot} {Post : Option Value → va_W → Prop} {w1 : va_W} (hC : CX p s m meth c args cc nL (some ty) own) (hn : narrow ty (.int v) = .int v) (hP : va_P E.1 vwCl w1 H) (hD : va_D A w1) (hS : va_S A s.heap H locs) (hpost : Post (some (.int v)) w1) (hdg : decode cc pc = .ok (.ireturn, 1)) (hc : cells ≤ mc) (hs : slots ≤ ms) : W p l e R s m args below meth c H locs cells slots (MQ below (wr_Q E A Post) args s mc ms A) (F0 m pc ls [.int v]) :=
  W.widen hc hs (W.zret hC.1 hC.2.1 hC.2.2.1 hn (fun _ ht _ => ⟨⟨_, w1, rfl, hpost, by rw [ht]; exact hP, hD⟩, hS.F ht⟩) hS.2.2 hdg (hlocks := hC.2.2.2.2.2.2.1))
theorem rw_l {v : Int64} {pc : Nat} {ls : Array Slot} {Post : Option Value → va_W → Prop} {w1 : va_W} (hC : CX p s m meth c args cc nL (some .long) own) (hP : va_P E.1 vwCl w1 H) (hD : va_D A w1) (hS : va_S A s.heap H locs) (hpost : Post (some (.long v)) w1) (hdg : decode cc pc = .ok (.lreturn, 1)) (hc : cells ≤ mc) (hs : slots ≤ ms) : W p l e R s m args below meth c H locs cells slots (MQ below (wr_Q E A Post) args s mc ms A) (F0 m pc ls [.long v]) :=
  W.widen hc hs (W.lret hC.1 hC.2.1 hC.2.2.1 (fun _ ht _ => ⟨⟨_, w1, rfl, hpost, by rw [ht]; exact hP, hD⟩, hS.F ht⟩) hS.2.2 hdg (hlocks := hC.2.2.2.2.2.2.1))
theorem rw_v {pc : Nat} {ls : Array Slot} {Post : Option Value → va_W → Prop} {w1 : va_W} (hC : CX p s m meth c args cc nL none own) (hP : va_P E.1 vwCl w1 H) (hD : va_D A w1) (hS : va_S A s.heap H locs) (hpost : Post none w1) (hdg : decode cc pc = .ok (.return_, 1)) (hc : cells ≤ mc) (hs : slots ≤ ms) : W p l e R s m args below meth c H locs cells slots (MQ below (wr_Q E A Post) args s mc ms A) (F0 m pc ls []) :=
  W.widen hc hs (W.vret hC.1 hC.2.1 hC.2.2.1 (fun _ ht _ => ⟨⟨_, w1, rfl, hpost, by rw [ht]; exact hP, hD⟩, hS.F ht⟩) hS.2.2 hdg (hlocks := hC.2.2.2.2.2.2.1))
theorem rw_a {v : Value} {rt : FieldType} {pc : Nat} {ls : Array Slot} {Post : Option Value → va_W → Prop} {w1 : va_W} (hC : CX p s m meth c args cc nL (some rt) own) (hrt : (∃ n, rt = .object n) ∨ ∃ t, rt = .array t) (hv : v = .null ∨ ∃ a, v = .ref a) (hP : va_P E.1 vwCl w1 H) (hD : va_D A w1) (hS : va_S A s.heap H locs) (hpost : Post (some v) w1) (hdg : decode cc pc = .ok (.areturn, 1)) (hc : cells ≤ mc) (hs : slots ≤ ms) : W p l e R s m args below meth c H locs cells slots (MQ below (wr_Q E A Post) args s mc ms A) (F0 m pc ls [v]) :=
  W.widen hc hs (W.aret hC.1 hC.2.1 hC.2.2.1 hrt hv (fun _ ht _ => ⟨⟨_, w1, rfl, hpost, by rw [ht]; exact hP, hD⟩, hS.F ht⟩) hS.2.2 hdg (hlocks := hC.2.2.2.2.2.2.1))
theorem rz_a {v : Value} {rt : FieldType} {pc : Nat} {ls : Array Slot} (hC : CX p s m meth c args cc nL (some rt) own) (hrt : (∃ n, rt = .object n) ∨ ∃ t, rt = .array t) (hv : v = .null ∨ ∃ a, v = .ref a) (hdg : decode cc pc = .ok (.areturn, 1)) : W p l e R s m args below meth c s.heap [] 0 0 (MQ below (pz_Q (some v)) args s 0 0 pz_F) (F0 m pc ls [v]) :=
  W.aret hC.1 hC.2.1 hC.2.2.1 hrt hv (fun _ ht _ => ⟨rfl, ht⟩) (fun _ h => absurd h List.not_mem_nil) hdg (hlocks := hC.2.2.2.2.2.2.1)
end B2
