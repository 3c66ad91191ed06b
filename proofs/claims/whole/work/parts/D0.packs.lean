/-! ===== the class's world in blocks; what it stands for ===== -/
def cellsOf (X4 : Nat → Int32) (j : Nat) : Nat → Int32 := fun i => if i < 60 then X4 (60 * j + i) else 0
def shB (E : EE) (sa : Nat → Nat) (sh : Nat → Option Nat) (X2 X4 : Nat → Int32) (F3 : Nat → Nat) (j : Nat) : va_W := match sh j with
  | none => []
  | some so => shW E so (sa j) (X2 j) (F3 j) (cellsOf X4 j)
section SB
variable {E : EE} {sa sb : Nat → Nat} {sh si : Nat → Option Nat} {X2 Y2 X4 Y4 : Nat → Int32} {F3 G3 : Nat → Nat} {j so : Nat}
theorem shB_n (h : sh j = none) : shB E sa sh X2 X4 F3 j = [] := by unfold shB; rw [h]
theorem shB_s (h : sh j = some so) : shB E sa sh X2 X4 F3 j = shW E so (sa j) (X2 j) (F3 j) (cellsOf X4 j) := by unfold shB; rw [h]
theorem shB_c (h1 : sh j = si j) (h2 : sa j = sb j) (h3 : X2 j = Y2 j) (h4 : F3 j = G3 j) (h5 : cellsOf X4 j = cellsOf Y4 j) : shB E sa sh X2 X4 F3 j = shB E sb si Y2 Y4 G3 j := by unfold shB; rw [h1, h2, h3, h4, h5]
end SB
def RunsP (E : EE) (ra : Nat → Nat) (w : va_W) : Prop := ∃ (K : Nat → Nat) (u : Nat) (Al Gd Fw Mo K2 : Nat → Nat) (u2 : Nat), w = rW E ra K u Al Gd Fw Mo K2 u2 ∧ TBt K u ∧ VI K Al Gd Fw Mo ∧ TBt K2 u2 ∧ WI K2
def MendP (E : EE) (g0 n : Nat) (net : Nat → Nat) (x mf : Nat) (w : va_W) : Prop := ∃ Me : Nat → Nat, w = [(g0, .inl (E.2 1, 4, .inl (fun j => nI (Me j))))] ∧ MI n net x mf Me
def NetsP (E : EE) (g0 nf : Nat) (w : va_W) : Prop := ∃ Nc : Nat → Nat, w = [(g0, .inl (E.2 1, 48, .inl (fun j => nI (Nc j))))] ∧ NI nf Nc
def AlP (E : EE) (ao n k : Nat) (net : Nat → Nat) (Z : Nat → Nat → Nat) (wa wb : va_W) : Prop := ∃ (a1 a2 a3 fo sc : Nat) (Rw Su Si : Nat → Nat), wa = [(ao, .inr (0, [.ref a1, .ref a2, .int (nI fo), .ref a3, .int (nI sc)]))] ∧ wb = [(a1, .inl (E.2 1, 4, .inl (fun j => nI (Rw j)))), (a2, .inl (E.2 1, 4, .inl (fun j => nI (Su j)))), (a3, .inl (E.2 1, 4, .inl (fun j => nI (Si j))))] ∧ AI n k net Z fo Rw Su Si
def CallP (E : EE) (m0 : Nat) (Z : Nat → Nat → Nat) (k : Nat) (w : va_W) : Prop := ∃ md : Nat → Option Nat, w = mdC E m0 md :: clL Z k ∧ ∀ i, i < k → md i = some (Z 0 i)
def ShP (X2 : Nat → Int32) (F3 : Nat → Nat) (sh : Nat → Option Nat) : Prop := (∀ j, j < 4 → (sh j = none ↔ X2 j = -9)) ∧ ∀ j, F3 j ≤ 60
def FL (b0 b1 b2 b3 b4 b5 b6 b7 b8 b9 ba bb bc : va_W) : va_W := [b0, b1, b2, b3, b4, b5, b6, b7, b8, b9, ba, bb, bc].flatten
/-- the world w of the object co stands for: n persons, k calls, the net, who rang whom, the fault, the trace, the sheets -/
def CI (E : EE) (co n k : Nat) (net cP cQ : Nat → Nat) (fl : Nat) (tr : Int32) (X2 X4 : Nat → Int32) (F3 : Nat → Nat) (w : va_W) : Prop :=
  ∃ (ca ra : Nat → Nat) (ao : Nat) (C : Nat → Nat) (Z : Nat → Nat → Nat) (sh : Nat → Option Nat) (sa : Nat → Nat) (w3 w4 w5 w6 w7 w8 : va_W), co = ca 0 ∧ w = FL [oC ca ra ao C] [osC E (ca 1) sh] [(ca 3, .inr (7, [.int tr]))] w3 w4 w5 w6 w7 w8 (shB E sa sh X2 X4 F3 0) (shB E sa sh X2 X4 F3 1) (shB E sa sh X2 X4 F3 2) (shB E sa sh X2 X4 F3 3) ∧
    CS n k net Z C ∧ Z 2 = cP ∧ Z 3 = cQ ∧ C 5 = fl ∧ MendP E (ca 4) n net (C 3 >>> 16 &&& 65535) (C 10) w3 ∧ NetsP E (ca 5) (C 12) w4 ∧ RunsP E ra w5 ∧ AlP E ao n k net Z w6 w7 ∧ CallP E (ca 2) Z k w8 ∧ ShP X2 F3 sh
theorem pm_front : ∀ (L1 : List va_W) (b : va_W) (L2 : List va_W), List.Perm (L1 ++ b :: L2).flatten (b :: (L1 ++ L2)).flatten
  | [], b, L2 => List.Perm.refl _
  | a :: L1, b, L2 => by
    have ih := pm_front L1 b L2
    show List.Perm (a ++ (L1 ++ b :: L2).flatten) (b ++ (a ++ (L1 ++ L2).flatten))
    refine (ih.append_left a).trans ?_
    show List.Perm (a ++ (b ++ (L1 ++ L2).flatten)) (b ++ (a ++ (L1 ++ L2).flatten))
    rw [← List.append_assoc, ← List.append_assoc]
    exact List.perm_append_comm.append_right _
theorem fr_c {w wc Y M : va_W} (hp : List.Perm w (wc ++ Y)) : List.Perm (w ++ M) (wc ++ (Y ++ M)) := by
  rw [← List.append_assoc]; exact hp.append_right M
section BC
variable {p : Program} {l : Launch} {e : Env} {R : Room} {s : State} {m : MethodId} {args : Array Value} {below : List Frame} {meth : Method} {c : Code} {H H0 : Heap} {locs : List Loc} {cells slots mc ms : Nat} {Q : State → Prop} {pc : Nat} {ls : Array Slot} {st0 rest : List Value}
  {cc : ByteArray} {nL : Nat} {ret0 : Option FieldType} {own : String} {idx n mL : Nat} {y : MethodName} {b : ByteArray} {ret : Option FieldType} {rm : Room} {E : EE} {A : Nat → Prop} {o : Addr}
/-- a call of a method of the object: its cells wc are some of the blocks -/
theorem cl_W {w wc Y M : va_W} {fs : List Value} {av : List Value} {Post : Option Value → va_W → Prop} (hC : CX p s m meth c args cc nL ret0 own) (hM : Wr l y b mL ret rm mc ms E wc H.size (.ref o :: av) Post) (hl : Cond.methodLink own idx y ∈ tG) (hy : IY y b mL ret n) (hcl : y.cls = RX11) (hR : RM rm mL R) (hm : rm.cells = mc ∧ rm.slots = ms) (hK : va_K E.1 vwCl (tyE E) s) (hP : va_P E.1 vwCl (w ++ M) H) (hD : va_D A (w ++ M)) (hS : va_S A H0 H locs) (hA : ∀ q : Nat, H0.size ≤ q → A q) (hp : List.Perm w (wc ++ Y)) (hq : wc[0]? = some (o, .inr (9, fs))) (hn : av.length = n) (hsz : ls.size = nL) (hst : st0 = av.reverse ++ .ref o :: rest) (hw : (rest.map fun v => v.category).sum ≤ 8) (hdg : decode cc pc = .ok (.invokevirtual idx, 3)) (hf : cells + mc ≤ R.cells ∧ slots + ms ≤ R.slots)
    (kk : ∀ (v : Option Value) (w1 : va_W) (H1 : Heap) (locs1 : List Loc), Post v w1 → va_P E.1 vwCl ((w1 ++ Y) ++ M) H1 → va_D A ((w1 ++ Y) ++ M) → va_S A H0 H1 locs1 → W p l e R s m args below meth c H1 locs1 (cells + mc) (slots + ms) Q (F0 m (pc + 3) ls (v.toList ++ rest))) : W p l e R s m args below meth c H locs cells slots Q (F0 m pc ls st0) := by
  have hP1 := P_perm (fr_c (M := M) hp) hP
  have hD1 := D_perm (fr_c (M := M) hp) hD
  refine cV_wr (X := []) (Y := Y ++ M) hC hM hl hy hR hm hK hP1 hD1 hS hA rfl ?_ hn hsz hst hw hdg hf (fun v w1 H1 locs1 h1 h2 h3 h4 => kk v w1 H1 locs1 h1 (by rw [List.append_assoc]; exact h2) (by rw [List.append_assoc]; exact h3) h4)
  rw [hcl]
  exact va_recv hK (va_P_l hP1) (ci := 9) (q0 := 0) rfl hq
theorem cl_R {w wc Y M : va_W} {fs : List Value} {av : List Value} {v : Value} (hC : CX p s m meth c args cc nL ret0 own) (hM : Rd l y b mL ret rm E wc (.ref o :: av) (some v)) (hl : Cond.methodLink own idx y ∈ tG) (hy : IY y b mL ret n) (hcl : y.cls = RX11) (hR : RM rm mL R) (hm : rm.cells = 0 ∧ rm.slots = 0) (hK : va_K E.1 vwCl (tyE E) s) (hP : va_P E.1 vwCl (w ++ M) H) (hp : List.Perm w (wc ++ Y)) (hq : wc[0]? = some (o, .inr (9, fs))) (hn : av.length = n) (hsz : ls.size = nL) (hst : st0 = av.reverse ++ .ref o :: rest) (hw : (rest.map fun v => v.category).sum ≤ 8) (hdg : decode cc pc = .ok (.invokevirtual idx, 3)) (hf : cells ≤ R.cells ∧ slots ≤ R.slots)
    (k : W p l e R s m args below meth c H locs cells slots Q (F0 m (pc + 3) ls (v :: rest))) : W p l e R s m args below meth c H locs cells slots Q (F0 m pc ls st0) := by
  have hP1 := va_P_l (P_perm (fr_c (M := M) hp) hP)
  refine cV_r hC hM hl hy hR hm hK hP1 ?_ hn hsz hst hw hdg hf k
  rw [hcl]
  exact va_recv hK hP1 (ci := 9) (q0 := 0) rfl hq
end BC
