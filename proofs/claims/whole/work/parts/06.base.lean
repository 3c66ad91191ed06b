/-! ===== my own rows above the kit: contexts, three kinds of contracts (pure, reading, writing), calls ===== -/
/-- words that don't ride in a word list: links of nest mates, casts, declarations, array classes -/
def NW (U : State) : Prop :=
  va_Nw (.methodLinkNest RX3 38 yX11_pairOf RX11) U ∧ va_Nw (.methodLinkNest RX5 11 yX11_pairOf RX11) U ∧
  va_Nw (.methodLinkNest RX5 47 yX11_contains RX11) U ∧ va_Nw (.methodLinkNest RX6 51 yX11_contains RX11) U ∧
  va_Nw (.methodLinkNest RX6 92 yX11_truth RX11) U ∧ va_Nw (.methodLinkNest RX6 59 yX11_pairOf RX11) U ∧
  va_Nw (.methodLinkNest RX0 29 yX11_contains RX11) U ∧ va_Nw (.methodLinkNest RX0 83 yX11_pairOf RX11) U ∧
  va_Nw (.methodLinkNest RX2 13 yX11_pairOf RX11) U ∧ va_Nw (.methodLinkNest RX2 7 yX11_contains RX11) U ∧
  va_Nw (.declares yX1_learntBy) U ∧ va_Nw (.declares yX1_plainTelling) U ∧
  va_Nw (.castable RX10 RX1) U ∧ va_Nw (.castable RX4 RX1) U ∧ va_AO RX7 U ∧ va_AO RX1 U
theorem NW.warm {s U : State} (hW : s.WarmedH U.vm) (h : NW s) : NW U := by
  obtain ⟨h0, h1, h2, h3, h4, h5, h6, h7, h8, h9, a0, a1, b0, b1, c0, c1⟩ := h
  exact ⟨h0.warmM hW, h1.warmM hW, h2.warmM hW, h3.warmM hW, h4.warmM hW, h5.warmM hW, h6.warmM hW, h7.warmM hW, h8.warmM hW, h9.warmM hW, a0.warmD hW, a1.warmD hW, b0.warmC hW, b1.warmC hW, c0.moved hW.alike, c1.moved hW.alike⟩
theorem NW.call {U : State} {g : JFrame} {mk : MethodId} {a : Array Value} (h : NW U) : NW (U.calling g mk a) := by
  obtain ⟨h0, h1, h2, h3, h4, h5, h6, h7, h8, h9, a0, a1, b0, b1, c0, c1⟩ := h
  have hv : U.vm = (U.calling g mk a).vm := rfl
  exact ⟨h0.same rfl hv, h1.same rfl hv, h2.same rfl hv, h3.same rfl hv, h4.same rfl hv, h5.same rfl hv, h6.same rfl hv, h7.same rfl hv, h8.same rfl hv, h9.same rfl hv, a0.same rfl hv, a1.same rfl hv, b0.same rfl hv, b1.same rfl hv, c0.moved (Vm.Alike.refl U.vm), c1.moved (Vm.Alike.refl U.vm)⟩
/-- class numbers, slots (va_G) and the numbers of the array classes: 0 byte[], 1 int[], 2 long[], 3 Sheet[], 4 Call[] -/
abbrev EE : Type := va_G × (Nat → ClassId)
abbrev tyE (E : EE) : List (ClassId × FieldType) := [(E.2 0, .byte), (E.2 1, .int), (E.2 2, .long), (E.2 3, .object RX7), (E.2 4, .object RX1)]
def KX (E : EE) (U : State) : Prop := NW U ∧ va_K E.1 vwCl (tyE E) U
theorem KX.warm {E : EE} {s U : State} (hW : s.WarmedH U.vm) (h : KX E s) : KX E U := ⟨h.1.warm hW, va_K.moved hW.alike h.2⟩
theorem KX.call {E : EE} {U : State} {g : JFrame} {mk : MethodId} {a : Array Value} (h : KX E U) : KX E (U.calling g mk a) := ⟨h.1.call, va_K.moved (u := U) (U := U.calling g mk a) (Vm.Alike.refl U.vm) h.2⟩
abbrev wX (y : MethodName) (b : ByteArray) (n : Nat) (r : Option FieldType) : List Cond := .code y b n r :: tG
theorem gd_X {y : MethodName} {b : ByteArray} {n : Nat} {r : Option FieldType} (h : Cond.code y b n r ∈ tG) : GoodIn tG (wX y b n r) := fun w hw => (List.mem_cons.mp hw).elim (fun e => by subst e; exact ⟨h, tG_good _ h⟩) (fun hw => ⟨hw, tG_good _ hw⟩)
/-- what a body's walk stands on -/
abbrev CX (p : Program) (s : State) (m : MethodId) (meth : Method) (c : Code) (args : Array Value) (cc : ByteArray) (nL : Nat) (ret : Option FieldType) (own : String) : Prop :=
  p.tables.exec = Jvm.exec ∧ c.code = cc ∧ meth.sig.returnType = ret ∧ (∀ w ∈ tG, w.before args s = true) ∧ s.vm.findClass own = some m.cls ∧ c.maxLocals = nL ∧ meth.locks = false ∧ NW s
/-- contracts: pure ones (no heap), reading ones (cells ws as they are), writing ones -/
def pz_P (av : List Value) : Array Value → State → Prop := fun v U => v = av.toArray ∧ NW U
def pz_Q (r : Option Value) : Array Value → State → Outcome → State → Prop := fun _ st oc t => oc = .returned r ∧ t.heap = st.heap
def pz_F : Addr → Prop := fun _ => False
def rd_P (E : EE) (ws : va_W) (av : List Value) : Array Value → State → Prop := fun v U => v = av.toArray ∧ KX E U ∧ va_P E.1 vwCl ws U.heap
def wr_P (E : EE) (ws : va_W) (sz : Nat) (av : List Value) : Array Value → State → Prop := fun v U => v = av.toArray ∧ KX E U ∧ U.heap.size = sz ∧ va_P E.1 vwCl ws U.heap ∧ va_D (fun _ => True) ws
def wr_Q (E : EE) (A : Nat → Prop) (Post : Option Value → va_W → Prop) : Array Value → State → Outcome → State → Prop := fun _ st oc t => (∃ (v : Option Value) (w1 : va_W), oc = .returned v ∧ Post v w1 ∧ va_P E.1 vwCl w1 t.heap ∧ va_D A w1) ∧ va_F A st t
abbrev Pz (l : Launch) (y : MethodName) (b : ByteArray) (n : Nat) (r : Option FieldType) (rm : Room) (av : List Value) (v : Option Value) : Prop := Met l y (wX y b n r) rm (pz_P av) (pz_Q v) 0 0 pz_F
abbrev Rd (l : Launch) (y : MethodName) (b : ByteArray) (n : Nat) (r : Option FieldType) (rm : Room) (E : EE) (ws : va_W) (av : List Value) (v : Option Value) : Prop := Met l y (wX y b n r) rm (rd_P E ws av) (pz_Q v) 0 0 pz_F
abbrev Wr (l : Launch) (y : MethodName) (b : ByteArray) (n : Nat) (r : Option FieldType) (rm : Room) (mc ms : Nat) (E : EE) (ws : va_W) (sz : Nat) (av : List Value) (Post : Option Value → va_W → Prop) : Prop := Met l y (wX y b n r) rm (wr_P E ws sz av) (wr_Q E (va_A ws sz) Post) mc ms (va_A ws sz)
theorem mk_pz {l : Launch} {y : MethodName} {cc : ByteArray} {nL : Nat} {ret : Option FieldType} {rm : Room} {av : List Value} {v : Option Value} (hy : plainName y.cls = true) (hlen : (lg_sl av).length ≤ nL)
    (body : ∀ (p : Program) (e : Env) (s : State) (m : MethodId) (args : Array Value) (below : List Frame) (meth : Method) (c : Code), CX p s m meth c args cc nL ret y.cls → ∀ ls : Array Slot, lv_has ls nL (lv_args 0 av) → W p l e rm s m args below meth c s.heap [] 0 0 (MQ below (pz_Q v) args s 0 0 pz_F) (F0 m 0 ls [])) : Pz l y cc nL ret rm av v := by
  refine Met.ofW (cc := cc) (maxL := nL) (ret := ret) hy rfl ?_
  intro p e s m args below meth c s₁ B hml hv
  obtain ⟨rfl, hN⟩ := hv
  have hl := lv_entry av hlen
  rw [lg_entry_eq]
  exact body p e s m _ below meth c ⟨B.exec, B.bytes, B.returns, fun w h => atoms_spec (ws := wX y cc nL ret) B.pre w (List.mem_cons_of_mem _ h), findClass_of_methodNamed B.named, hml, B.notSynchronized, hN⟩ _ hl
theorem mk_rd {l : Launch} {y : MethodName} {cc : ByteArray} {nL : Nat} {ret : Option FieldType} {rm : Room} {E : EE} {ws : va_W} {av : List Value} {v : Option Value} (hy : plainName y.cls = true) (hlen : (lg_sl av).length ≤ nL)
    (body : ∀ (p : Program) (e : Env) (s : State) (m : MethodId) (args : Array Value) (below : List Frame) (meth : Method) (c : Code), CX p s m meth c args cc nL ret y.cls → va_K E.1 vwCl (tyE E) s → va_P E.1 vwCl ws s.heap → ∀ ls : Array Slot, lv_has ls nL (lv_args 0 av) → W p l e rm s m args below meth c s.heap [] 0 0 (MQ below (pz_Q v) args s 0 0 pz_F) (F0 m 0 ls [])) : Rd l y cc nL ret rm E ws av v := by
  refine Met.ofW (cc := cc) (maxL := nL) (ret := ret) hy rfl ?_
  intro p e s m args below meth c s₁ B hml hv
  obtain ⟨rfl, hN, hP⟩ := hv
  have hl := lv_entry av hlen
  rw [lg_entry_eq]
  exact body p e s m _ below meth c ⟨B.exec, B.bytes, B.returns, fun w h => atoms_spec (ws := wX y cc nL ret) B.pre w (List.mem_cons_of_mem _ h), findClass_of_methodNamed B.named, hml, B.notSynchronized, hN.1⟩ hN.2 hP _ hl
theorem mk_wr {l : Launch} {y : MethodName} {cc : ByteArray} {nL : Nat} {ret : Option FieldType} {rm : Room} {mc ms : Nat} {E : EE} {ws : va_W} {sz : Nat} {av : List Value} {Post : Option Value → va_W → Prop} (hy : plainName y.cls = true) (hlen : (lg_sl av).length ≤ nL)
    (body : ∀ (p : Program) (e : Env) (s : State) (m : MethodId) (args : Array Value) (below : List Frame) (meth : Method) (c : Code), CX p s m meth c args cc nL ret y.cls → meth.name = y.name → va_K E.1 vwCl (tyE E) s → ∀ A : Nat → Prop, (∀ q : Nat, s.heap.size ≤ q → A q) → va_P E.1 vwCl ws s.heap → va_D A ws → va_S A s.heap s.heap [] → ∀ ls : Array Slot, lv_has ls nL (lv_args 0 av) → W p l e rm s m args below meth c s.heap [] 0 0 (MQ below (wr_Q E A Post) args s mc ms A) (F0 m 0 ls [])) : Wr l y cc nL ret rm mc ms E ws sz av Post := by
  refine Met.ofW (cc := cc) (maxL := nL) (ret := ret) hy rfl ?_
  intro p e s m args below meth c s₁ B hml hv
  obtain ⟨rfl, hN, rfl, hP, hD⟩ := hv
  have hl := lv_entry av hlen
  rw [lg_entry_eq]
  exact body p e s m _ below meth c ⟨B.exec, B.bytes, B.returns, fun w h => atoms_spec (ws := wX y cc nL ret) B.pre w (List.mem_cons_of_mem _ h), findClass_of_methodNamed B.named, hml, B.notSynchronized, hN.1⟩ (name_of_methodNamed B.named B.method).1 hN.2 _ (fun q h => Or.inr h) hP (hD.self (sz := s.heap.size)) va_S.rf _ hl
/-! what comes back of a call -/
section B1
variable {p : Program} {l : Launch} {e : Env} {R : Room} {s : State} {m : MethodId} {args : Array Value} {below : List Frame} {meth : Method} {c : Code} {H H0 : Heap} {locs : List Loc} {cells slots mc ms : Nat} {Q : State → Prop} {pc : Nat} {ls : Array Slot} {st0 rest : List Value} {a : Array Value}
theorem go_pz {v : Option Value} (hr : va_Run p l e R s m args below meth c H locs cells slots 0 0 (F0 m pc ls st0) rest (pz_Q v a) pz_F)
    (k : W p l e R s m args below meth c H locs cells slots Q (F0 m (pc + 3) ls (v.toList ++ rest))) : W p l e R s m args below meth c H locs cells slots Q (F0 m pc ls st0) := by
  intro T hT X
  obtain ⟨w, st₀, t, T', L, h0, X', hL, e1, e2, ⟨hv, hh⟩, st⟩ := hr T hT X
  cases hv
  have hLn : L = [] := by
    cases L with
    | nil => rfl
    | cons q L' => exact absurd (hL q List.mem_cons_self) (fun h => h)
  subst hLn
  rw [List.append_nil] at X'
  obtain ⟨t2, a1, b1⟩ := k T' (by rw [e1, hh, h0]) X'
  exact ⟨t2, st t2 a1, b1⟩
theorem va_D_apart {A : Nat → Prop} {X wc Y : va_W} (hD : va_D A (X ++ (wc ++ Y))) : (∀ q ∈ X, ∀ r ∈ wc, q.1 ≠ r.1) ∧ (∀ q ∈ Y, ∀ r ∈ wc, q.1 ≠ r.1) ∧ (∀ q ∈ X, ∀ r ∈ Y, q.1 ≠ r.1) := by
  have gl : ∀ (i : Nat) (q : Nat × va_E), X[i]? = some q → (X ++ (wc ++ Y))[i]? = some q := fun i q h => by
    rw [List.getElem?_append_left (List.getElem?_eq_some_iff.mp h).1]; exact h
  have gc : ∀ (i : Nat) (q : Nat × va_E), wc[i]? = some q → (X ++ (wc ++ Y))[X.length + i]? = some q := fun i q h => by
    rw [List.getElem?_append_right (by omega), show X.length + i - X.length = i by omega, List.getElem?_append_left (List.getElem?_eq_some_iff.mp h).1]; exact h
  have gy : ∀ (i : Nat) (q : Nat × va_E), Y[i]? = some q → (X ++ (wc ++ Y))[X.length + (wc.length + i)]? = some q := fun i q h => by
    rw [List.getElem?_append_right (by omega), show X.length + (wc.length + i) - X.length = wc.length + i by omega, List.getElem?_append_right (by omega), show wc.length + i - wc.length = i by omega]; exact h
  refine ⟨fun q hq r hr e => ?_, fun q hq r hr e => ?_, fun q hq r hr e => ?_⟩
  · obtain ⟨i, hi⟩ := List.getElem?_of_mem hq
    obtain ⟨j, hj⟩ := List.getElem?_of_mem hr
    have := hD.1 _ _ q r (gl i q hi) (gc j r hj) e
    have := (List.getElem?_eq_some_iff.mp hi).1
    omega
  · obtain ⟨i, hi⟩ := List.getElem?_of_mem hq
    obtain ⟨j, hj⟩ := List.getElem?_of_mem hr
    have := hD.1 _ _ q r (gy i q hi) (gc j r hj) e
    have := (List.getElem?_eq_some_iff.mp hj).1
    omega
  · obtain ⟨i, hi⟩ := List.getElem?_of_mem hq
    obtain ⟨j, hj⟩ := List.getElem?_of_mem hr
    have := hD.1 _ _ q r (gl i q hi) (gy j r hj) e
    have := (List.getElem?_eq_some_iff.mp hi).1
    omega
theorem va_P_mem {D : va_G} {cl : List vw_C} {ws : va_W} {H : Heap} : va_P D cl ws H ↔ ∀ q ∈ ws, va_at D cl q H := ⟨fun h q hq => by obtain ⟨i, hi⟩ := List.getElem?_of_mem hq; exact h i q hi, fun h _ q hk => h q (List.mem_of_getElem? hk)⟩
theorem va_D_sub {A : Nat → Prop} {ws w2 : va_W} (h : va_D A ws) (f : Nat → Nat) (hf : ∀ i j, f i = f j → i = j) (hw : ∀ i q, w2[i]? = some q → ws[f i]? = some q) : va_D A w2 :=
  ⟨fun i j p q hi hj e => hf i j (h.1 _ _ p q (hw i p hi) (hw j q hj) e), fun k q hk => h.2 _ q (hw k q hk)⟩
theorem va_D_l {A : Nat → Prop} {X Y : va_W} (h : va_D A (X ++ Y)) : va_D A X := va_D_sub h (fun i => i) (fun _ _ e => e) (fun i q hi => by rw [List.getElem?_append_left (List.getElem?_eq_some_iff.mp hi).1]; exact hi)
theorem va_D_r {A : Nat → Prop} {X Y : va_W} (h : va_D A (X ++ Y)) : va_D A Y := va_D_sub h (fun i => X.length + i) (fun _ _ e => by omega) (fun i q hi => by rw [List.getElem?_append_right (by omega), show X.length + i - X.length = i by omega]; exact hi)
theorem va_P_l {D : va_G} {cl : List vw_C} {X Y : va_W} {H : Heap} (h : va_P D cl (X ++ Y) H) : va_P D cl X H := va_P_mem.mpr fun q hq => va_P_mem.mp h q (List.mem_append_left _ hq)
theorem va_P_r {D : va_G} {cl : List vw_C} {X Y : va_W} {H : Heap} (h : va_P D cl (X ++ Y) H) : va_P D cl Y H := va_P_mem.mpr fun q hq => va_P_mem.mp h q (List.mem_append_right _ hq)
/-- the frame rule, in place: what comes back stands where the callee's cells stood -/
theorem fr_in {A : Nat → Prop} {D : va_G} {cl : List vw_C} {X wc Y w1 : va_W} {H H1 : Heap} (hP : va_P D cl (X ++ (wc ++ Y)) H) (hD : va_D A (X ++ (wc ++ Y))) (hk : ∀ q : Nat, q < H.size → ¬ va_A wc H.size q → H1[q]? = H[q]?) (hF : ∀ q, va_A wc H.size q → A q) (hP1 : va_P D cl w1 H1) (hD1 : va_D (va_A wc H.size) w1) :
    va_P D cl (X ++ (w1 ++ Y)) H1 ∧ va_D A (X ++ (w1 ++ Y)) := by
  obtain ⟨ax, ay, axy⟩ := va_D_apart hD
  have hX := va_P_l hP
  have hY := va_P_r (va_P_r hP)
  have nX : ∀ q ∈ X, ¬ va_A wc H.size q.1 := fun q hq h => by
    rcases h with ⟨k, e, hk⟩ | h
    · exact ax q hq _ (List.mem_of_getElem? hk) rfl
    · exact absurd (va_P_mem.mp hX q hq).lt (by omega)
  have nY : ∀ q ∈ Y, ¬ va_A wc H.size q.1 := fun q hq h => by
    rcases h with ⟨k, e, hk⟩ | h
    · exact ay q hq _ (List.mem_of_getElem? hk) rfl
    · exact absurd (va_P_mem.mp hY q hq).lt (by omega)
  have h1A : ∀ q ∈ w1, va_A wc H.size q.1 := fun q hq => by obtain ⟨i, hi⟩ := List.getElem?_of_mem hq; exact hD1.2 i q hi
  refine ⟨?_, ?_⟩
  · refine va_P.app (va_P_mem.mpr fun q hq => (va_P_mem.mp hX q hq).kept (hk _ (va_P_mem.mp hX q hq).lt (nX q hq))) (va_P.app hP1 (va_P_mem.mpr fun q hq => (va_P_mem.mp hY q hq).kept (hk _ (va_P_mem.mp hY q hq).lt (nY q hq))))
  · refine va_D.app (va_D_l hD) (va_D.app (hD1.weaken (fun _ _ _ h => hF _ h)) (va_D_r (va_D_r hD)) (fun i j p q hi hj e => nY q (List.mem_of_getElem? hj) (e ▸ h1A p (List.mem_of_getElem? hi)))) (fun i j p q hi hj e => ?_)
    rcases List.mem_append.mp (List.mem_of_getElem? hj) with h | h
    · exact nX p (List.mem_of_getElem? hi) (e ▸ h1A q h)
    · exact axy p (List.mem_of_getElem? hi) q h e
end B1
