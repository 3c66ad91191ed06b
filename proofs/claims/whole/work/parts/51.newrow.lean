section B7
variable {p : Program} {l : Launch} {e : Env} {R : Room} {s : State} {m : MethodId} {args : Array Value} {below : List Frame} {meth : Method} {c : Code} {H H0 : Heap} {locs : List Loc} {cells slots : Nat} {Q : State → Prop} {pc : Nat} {ls : Array Slot} {rest : List Value} {cc : ByteArray} {E : EE} {ws : va_W} {A : Nat → Prop} {n : Nat}
theorem n_newI (hx : p.tables.exec = Jvm.exec) (hb : c.code = cc) (hts : ∀ w ∈ tG, w.before args s = true) (hK : va_K E.1 vwCl (tyE E) s) (hP : va_P E.1 vwCl ws H) (hD : va_D A ws) (hS : va_S A H0 H locs) (hA : ∀ q, H0.size ≤ q → A q) (hn : n ≤ 65536) (hc : cells + 1 ≤ R.cells) (hs : slots + n ≤ R.slots) (hdg : decode cc pc = .ok (.newarray .int, 2))
    (kk : ∀ (q : Nat) (H1 : Heap), va_P E.1 vwCl (ws ++ [(q, .inl (E.2 1, n, .inl (fun _ => nI 0)))]) H1 → va_D A (ws ++ [(q, .inl (E.2 1, n, .inl (fun _ => nI 0)))]) → va_S A H0 H1 locs → W p l e R s m args below meth c H1 locs (cells + 1) (slots + n) Q (F0 m (pc + 2) ls (.ref q :: rest))) : W p l e R s m args below meth c H locs cells slots Q (F0 m pc ls (.int (nI n) :: rest)) := by
  refine va_newa (atype := .int) (ty := .int) (a0 := (n, .inl (fun _ => 0))) hx hb (hts _ kw_103) rfl hK hP hD hS hA (fun cA => rfl) (nI_pos (by omega)) (nI_clamp (by omega)) (show n * 4 ≤ 536870912 by omega) hc hs hdg (fun q cA H1 hK1 hP1 hD1 hS1 => ?_)
  have e1 : s.vm.findClass ("[" ++ FieldType.int.toString) = some (E.2 1) := (hK.2 1 _ rfl).2
  have e2 : s.vm.findClass ("[" ++ FieldType.int.toString) = some cA := (hK1.2 5 _ rfl).2
  have e3 : cA = E.2 1 := Option.some.inj (e2.symm.trans e1)
  subst e3
  exact kk q H1 hP1 hD1 hS1
theorem n_newL (hx : p.tables.exec = Jvm.exec) (hb : c.code = cc) (hts : ∀ w ∈ tG, w.before args s = true) (hK : va_K E.1 vwCl (tyE E) s) (hP : va_P E.1 vwCl ws H) (hD : va_D A ws) (hS : va_S A H0 H locs) (hA : ∀ q, H0.size ≤ q → A q) (hn : n ≤ 65536) (hc : cells + 1 ≤ R.cells) (hs : slots + n ≤ R.slots) (hdg : decode cc pc = .ok (.newarray .long, 2))
    (kk : ∀ (q : Nat) (H1 : Heap), va_P E.1 vwCl (ws ++ [(q, .inl (E.2 2, n, .inr (.inl (fun _ => lN 0))))]) H1 → va_D A (ws ++ [(q, .inl (E.2 2, n, .inr (.inl (fun _ => lN 0))))]) → va_S A H0 H1 locs → W p l e R s m args below meth c H1 locs (cells + 1) (slots + n) Q (F0 m (pc + 2) ls (.ref q :: rest))) : W p l e R s m args below meth c H locs cells slots Q (F0 m pc ls (.int (nI n) :: rest)) := by
  refine va_newa (atype := .long) (ty := .long) (a0 := (n, .inr (.inl (fun _ => 0)))) hx hb (hts _ kw_60) rfl hK hP hD hS hA (fun cA => rfl) (nI_pos (by omega)) (nI_clamp (by omega)) (show n * 8 ≤ 536870912 by omega) hc hs hdg (fun q cA H1 hK1 hP1 hD1 hS1 => ?_)
  have e1 : s.vm.findClass ("[" ++ FieldType.long.toString) = some (E.2 2) := (hK.2 2 _ rfl).2
  have e2 : s.vm.findClass ("[" ++ FieldType.long.toString) = some cA := (hK1.2 5 _ rfl).2
  have e3 : cA = E.2 2 := Option.some.inj (e2.symm.trans e1)
  subst e3
  exact kk q H1 hP1 hD1 hS1
theorem n_newB (hx : p.tables.exec = Jvm.exec) (hb : c.code = cc) (hts : ∀ w ∈ tG, w.before args s = true) (hK : va_K E.1 vwCl (tyE E) s) (hP : va_P E.1 vwCl ws H) (hD : va_D A ws) (hS : va_S A H0 H locs) (hA : ∀ q, H0.size ≤ q → A q) (hn : n ≤ 65536) (hc : cells + 1 ≤ R.cells) (hs : slots + n ≤ R.slots) (hdg : decode cc pc = .ok (.newarray .byte, 2))
    (kk : ∀ (q : Nat) (H1 : Heap), va_P E.1 vwCl (ws ++ [(q, .inl (E.2 0, n, .inl (fun _ => nI 0)))]) H1 → va_D A (ws ++ [(q, .inl (E.2 0, n, .inl (fun _ => nI 0)))]) → va_S A H0 H1 locs → W p l e R s m args below meth c H1 locs (cells + 1) (slots + n) Q (F0 m (pc + 2) ls (.ref q :: rest))) : W p l e R s m args below meth c H locs cells slots Q (F0 m pc ls (.int (nI n) :: rest)) := by
  refine va_newa (atype := .byte) (ty := .byte) (a0 := (n, .inl (fun _ => 0))) hx hb (hts _ kw_80) rfl hK hP hD hS hA (fun cA => rfl) (nI_pos (by omega)) (nI_clamp (by omega)) (show n * 1 ≤ 536870912 by omega) hc hs hdg (fun q cA H1 hK1 hP1 hD1 hS1 => ?_)
  have e1 : s.vm.findClass ("[" ++ FieldType.byte.toString) = some (E.2 0) := (hK.2 0 _ rfl).2
  have e2 : s.vm.findClass ("[" ++ FieldType.byte.toString) = some cA := (hK1.2 5 _ rfl).2
  have e3 : cA = E.2 0 := Option.some.inj (e2.symm.trans e1)
  subst e3
  exact kk q H1 hP1 hD1 hS1
end B7
