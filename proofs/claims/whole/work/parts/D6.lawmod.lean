/-! ===== the check's world, and what it stands for ===== -/
def MS (E : EE) (ad : Nat → Nat) (nt n k : Nat) (net cP cQ : Nat → Nat) (fl : Nat) (tr : Int32) (X2 X4 : Nat → Int32) (F3 : Nat → Nat) (w : va_W) : Prop :=
  ∃ (lk : Nat) (N : Nat → Nat) (X : Nat → Nat → Int32) (F G : Nat → Nat → Nat), w = mW E ad lk tr N X F G ∧ N 5 = n ∧ N 9 = k ∧ F 6 = net ∧ F 10 = cP ∧ F 11 = cQ ∧ N 0 = fl ∧ X 2 = X2 ∧ X 4 = X4 ∧ F 3 = F3 ∧ MOK N F ∧ TB N F ∧ N 17 ≤ nt ∧ ∀ j, F 3 j ≤ 60
theorem MS.up {E : EE} {ad : Nat → Nat} {nt mt n k : Nat} {net cP cQ : Nat → Nat} {fl : Nat} {tr : Int32} {X2 X4 : Nat → Int32} {F3 : Nat → Nat} {w : va_W} (h : MS E ad nt n k net cP cQ fl tr X2 X4 F3 w) (hm : nt ≤ mt) : MS E ad mt n k net cP cQ fl tr X2 X4 F3 w := by
  obtain ⟨lk, N, X, F, G, a1, a2, a3, a4, a5, a6, a7, a8, a9, b1, b2, b3, b4, b5⟩ := h
  exact ⟨lk, N, X, F, G, a1, a2, a3, a4, a5, a6, a7, a8, a9, b1, b2, b3, by omega, b5⟩
theorem MS_qp {E : EE} {ad : Nat → Nat} {nt : Nat} {tr : Int32} {N : Nat → Nat} {X : Nat → Nat → Int32} {F : Nat → Nat → Nat} {w : va_W} (hM : MOK N F) (h17 : N 17 ≤ nt) (h60 : ∀ j, F 3 j ≤ 60) (h : QP E ad tr N X F 64 w) : MS E ad (nt + 64) (N 5) (N 9) (F 6) (F 10) (F 11) (N 0) tr (X 2) (X 4) (F 3) w := by
  obtain ⟨lk2, N2, X2, F2, G2, hw, hsc, hT, hN⟩ := h
  have hM2 := hM.sc hsc
  obtain ⟨b1, b2, b3, b4, b5, b6, b7, b8, b9⟩ := hsc
  exact ⟨lk2, N2, X2, F2, G2, hw, b2, b3, b7, b8, b9, b1, b4, b5, b6, hM2, hT, by omega, fun j => by rw [b6]; exact h60 j⟩
theorem TB_N {N N2 : Nat → Nat} {F : Nat → Nat → Nat} (h : TB N F) (e : N2 17 = N 17) : TB N2 F := ⟨fun i => by rw [e]; exact h.1 i, h.2⟩
theorem MOK_N {N N2 : Nat → Nat} {F : Nat → Nat → Nat} (h : MOK N F) (e5 : N2 5 = N 5) (e9 : N2 9 ≤ N 9) : MOK N2 F := ⟨by rw [e5]; exact h.1, Nat.le_trans e9 h.2.1, h.2.2⟩
section BM
variable {p : Program} {l : Launch} {e : Env} {R : Room} {s : State} {m : MethodId} {args : Array Value} {below : List Frame} {meth : Method} {c : Code} {H H0 : Heap} {locs : List Loc} {cells slots : Nat} {Q : State → Prop} {pc : Nat} {ls : Array Slot} {st0 rest : List Value}
  {cc : ByteArray} {nL : Nat} {ret0 : Option FieldType} {own : String} {idx n mL : Nat} {y : MethodName} {b : ByteArray} {ret : Option FieldType} {rm : Room} {E : EE} {A : Nat → Prop} {o : Addr}
theorem ml_W {w M : va_W} {fs : List Value} {av : List Value} {Post : Option Value → va_W → Prop} (hC : CX p s m meth c args cc nL ret0 own) (hM : Wr l y b mL ret rm 0 0 E M H.size (.ref o :: av) Post) (hl : Cond.methodLink own idx y ∈ tG) (hy : IY y b mL ret n) (hcl : y.cls = RX12) (hR : RM rm mL R) (hm : rm.cells = 0 ∧ rm.slots = 0) (hK : va_K E.1 vwCl (tyE E) s) (hP : va_P E.1 vwCl (w ++ M) H) (hD : va_D A (w ++ M)) (hS : va_S A H0 H locs) (hA : ∀ q : Nat, H0.size ≤ q → A q) (hq : M[0]? = some (o, .inr (10, fs))) (hn : av.length = n) (hsz : ls.size = nL) (hst : st0 = av.reverse ++ .ref o :: rest) (hw : (rest.map fun v => v.category).sum ≤ 8) (hdg : decode cc pc = .ok (.invokevirtual idx, 3)) (hf : cells + 0 ≤ R.cells ∧ slots + 0 ≤ R.slots)
    (kk : ∀ (v : Option Value) (w1 : va_W) (H1 : Heap) (locs1 : List Loc), Post v w1 → va_P E.1 vwCl (w ++ w1) H1 → va_D A (w ++ w1) → va_S A H0 H1 locs1 → W p l e R s m args below meth c H1 locs1 cells slots Q (F0 m (pc + 3) ls (v.toList ++ rest))) : W p l e R s m args below meth c H locs cells slots Q (F0 m pc ls st0) := by
  refine cV_wr (X := w) (Y := []) hC hM hl hy hR hm hK hP hD hS hA (by rw [List.append_nil]) ?_ hn hsz hst hw hdg hf (fun v w1 H1 locs1 h1 h2 h3 h4 => kk v w1 H1 locs1 h1 (by rw [List.append_nil] at h2; exact h2) (by rw [List.append_nil] at h3; exact h3) h4)
  rw [hcl]
  exact va_recv hK (va_P_r hP) (ci := 10) (q0 := 0) rfl hq
theorem ml_R {w M : va_W} {fs : List Value} {av : List Value} {v : Value} (hC : CX p s m meth c args cc nL ret0 own) (hM : Rd l y b mL ret rm E M (.ref o :: av) (some v)) (hl : Cond.methodLink own idx y ∈ tG) (hy : IY y b mL ret n) (hcl : y.cls = RX12) (hR : RM rm mL R) (hm : rm.cells = 0 ∧ rm.slots = 0) (hK : va_K E.1 vwCl (tyE E) s) (hP : va_P E.1 vwCl (w ++ M) H) (hq : M[0]? = some (o, .inr (10, fs))) (hn : av.length = n) (hsz : ls.size = nL) (hst : st0 = av.reverse ++ .ref o :: rest) (hw : (rest.map fun v => v.category).sum ≤ 8) (hdg : decode cc pc = .ok (.invokevirtual idx, 3)) (hf : cells ≤ R.cells ∧ slots ≤ R.slots)
    (k : W p l e R s m args below meth c H locs cells slots Q (F0 m (pc + 3) ls (v :: rest))) : W p l e R s m args below meth c H locs cells slots Q (F0 m pc ls st0) := by
  refine cV_r hC hM hl hy hR hm hK (va_P_r hP) ?_ hn hsz hst hw hdg hf k
  rw [hcl]
  exact va_recv hK (va_P_r hP) (ci := 10) (q0 := 0) rfl hq
end BM
theorem m_best {n k : Nat} {net cP cQ : Nat → Nat} {a1 a2 : Int32} {v : Option Value} (hn : n ≤ 4) (hcn : ∀ c, c < k → cP c < n ∧ cQ c < n) (h : if isIn a1 (nI 0) (nI 3) = false then v = some (.int (-1)) else if isIn a2 (nI 0) (nI 1) = false then v = some (.int (-2)) else if n = 0 then v = some (.int (-3)) else if (NOW n cP cQ k a1.toNatClampNeg net).2.1 = 0 then v = some (.int (-9)) else ∃ x, v = some (.int x) ∧ bestR n net a1.toNatClampNeg (stS n cP cQ k) (tokS n a1.toNatClampNeg cP cQ k) a2.toNatClampNeg x) : ∃ x, v = some (.int x) ∧ bestP n k net cP cQ a1 a2 x := by
  unfold bestP
  by_cases c1 : isIn a1 (nI 0) (nI 3) = false
  · rw [if_pos c1] at h; exact ⟨_, h, by rw [if_pos c1]⟩
  · rw [if_neg c1] at h
    by_cases c2 : isIn a2 (nI 0) (nI 1) = false
    · rw [if_pos c2] at h; exact ⟨_, h, by rw [if_neg c1, if_pos c2]⟩
    · rw [if_neg c2] at h
      by_cases c3 : n = 0
      · rw [if_pos c3] at h; exact ⟨_, h, by rw [if_neg c1, if_neg c2, if_pos c3]⟩
      · rw [if_neg c3] at h
        by_cases c4 : (NOW n cP cQ k a1.toNatClampNeg net).2.1 = 0
        · rw [if_pos c4] at h; exact ⟨_, h, by rw [if_neg c1, if_neg c2, if_neg c3]; exact best_no hn (VS_stS hn k hcn) c4⟩
        · rw [if_neg c4] at h
          obtain ⟨x, h1, h2⟩ := h
          exact ⟨x, h1, by rw [if_neg c1, if_neg c2, if_neg c3]; exact h2⟩
theorem m_bridge {n : Nat} {net : Nat → Nat} {a1 : Int32} {v : Option Value} (h : if isIn a1 (-1) (nI 11) = false then v = some (.int (-1)) else if joinM net n = false then v = some (.int (-3)) else ∃ x, v = some (.int x) ∧ pickR (bridgeB n net) a1 x) : ∃ x, v = some (.int x) ∧ brP n net a1 x := by
  unfold brP
  by_cases c1 : isIn a1 (-1) (nI 11) = false
  · rw [if_pos c1] at h; exact ⟨_, h, by rw [if_pos c1]⟩
  · rw [if_neg c1] at h
    by_cases c2 : joinM net n = false
    · rw [if_pos c2] at h; exact ⟨_, h, by rw [if_neg c1, if_pos c2]⟩
    · rw [if_neg c2] at h
      obtain ⟨x, h1, h2⟩ := h
      exact ⟨x, h1, by rw [if_neg c1, if_neg c2]; exact h2⟩
theorem m_mend {n : Nat} {net : Nat → Nat} {a1 a2 : Int32} {v : Option Value} (h : if isIn a1 (nI 0) (nI 3) = false then v = some (.int (-1)) else if isIn a2 (-1) (nI 11) = false then v = some (.int (-1)) else if n = 0 then v = some (.int (-3)) else ∃ x, v = some (.int x) ∧ pickR (mendB n net a1.toNatClampNeg) a2 x) : ∃ x, v = some (.int x) ∧ mdP n net a1 a2 x := by
  unfold mdP
  by_cases c1 : isIn a1 (nI 0) (nI 3) = false
  · rw [if_pos c1] at h; exact ⟨_, h, by rw [if_pos c1]⟩
  · rw [if_neg c1] at h
    by_cases c2 : isIn a2 (-1) (nI 11) = false
    · rw [if_pos c2] at h; exact ⟨_, h, by rw [if_neg c1, if_pos c2]⟩
    · rw [if_neg c2] at h
      by_cases c3 : n = 0
      · rw [if_pos c3] at h; exact ⟨_, h, by rw [if_neg c1, if_neg c2, if_pos c3]⟩
      · rw [if_neg c3] at h
        obtain ⟨x, h1, h2⟩ := h
        exact ⟨x, h1, by rw [if_neg c1, if_neg c2, if_neg c3]; exact h2⟩
section OPS
variable {p : Program} {l : Launch} {e : Env} {R : Room} {s : State} {m : MethodId} {args : Array Value} {below : List Frame} {meth : Method} {c : Code} {H : Heap} {locs : List Loc} {cells slots : Nat} {Q : State → Prop} {pc : Nat} {ls : Array Slot} {rest : List Value}
  {cc : ByteArray} {nL : Nat} {ret0 : Option FieldType} {own : String} {idx : Nat} {E : EE} {A : Nat → Prop} {w M : va_W} {ad : Nat → Nat} {nt n k : Nat} {net cP cQ : Nat → Nat} {fl : Nat} {tr : Int32} {X2 X4 : Nat → Int32} {F3 : Nat → Nat}
theorem lm_ofPerson (hC : CX p s m meth c args cc nL ret0 own) (hK : va_K E.1 vwCl (tyE E) s) (hA : ∀ q : Nat, s.heap.size ≤ q → A q) (hl : Cond.methodLink own idx yX12_ofPerson ∈ tG) (hR : RM rm_X12_ofPerson 4 R) (hI : MS E ad nt n k net cP cQ fl tr X2 X4 F3 M) (hn3 : nt + 64 < 2 ^ 31) (hcn : ∀ c, c < k → cP c < n ∧ cQ c < n) (hP : va_P E.1 vwCl (w ++ M) H) (hD : va_D A (w ++ M)) (hS : va_S A s.heap H locs) (hsz : ls.size = nL) (hw : (rest.map fun v => v.category).sum ≤ 8) (hdg : decode cc pc = .ok (.invokevirtual idx, 3)) (hf : cells + 0 ≤ R.cells ∧ slots + 0 ≤ R.slots) (v1 v2 : Int32)
    (kk : W p l e R s m args below meth c H locs cells slots Q (F0 m (pc + 3) ls (.int (s_ofPerson n k net cP cQ v1 v2) :: rest))) : W p l e R s m args below meth c H locs cells slots Q (F0 m pc ls (.int v2 :: .int v1 :: .ref (ad 0) :: rest)) := by
  obtain ⟨lk, N, X, F, G, rfl, rfl, rfl, rfl, rfl, rfl, rfl, rfl, rfl, rfl, hM, hT, h17, h60⟩ := hI
  exact ml_R hC (c_m_ofPerson l E ad lk tr N X F G hM v1 v2) hl iy_X12_ofPerson rfl hR ⟨rfl, rfl⟩ hK hP rfl rfl hsz rfl hw hdg hf kk
theorem lm_ofCall (hC : CX p s m meth c args cc nL ret0 own) (hK : va_K E.1 vwCl (tyE E) s) (hA : ∀ q : Nat, s.heap.size ≤ q → A q) (hl : Cond.methodLink own idx yX12_ofCall ∈ tG) (hR : RM rm_X12_ofCall 3 R) (hI : MS E ad nt n k net cP cQ fl tr X2 X4 F3 M) (hn3 : nt + 64 < 2 ^ 31) (hcn : ∀ c, c < k → cP c < n ∧ cQ c < n) (hP : va_P E.1 vwCl (w ++ M) H) (hD : va_D A (w ++ M)) (hS : va_S A s.heap H locs) (hsz : ls.size = nL) (hw : (rest.map fun v => v.category).sum ≤ 8) (hdg : decode cc pc = .ok (.invokevirtual idx, 3)) (hf : cells + 0 ≤ R.cells ∧ slots + 0 ≤ R.slots) (v1 v2 : Int32)
    (kk : W p l e R s m args below meth c H locs cells slots Q (F0 m (pc + 3) ls (.int (s_ofCall n k cP cQ v1 v2) :: rest))) : W p l e R s m args below meth c H locs cells slots Q (F0 m pc ls (.int v2 :: .int v1 :: .ref (ad 0) :: rest)) := by
  obtain ⟨lk, N, X, F, G, rfl, rfl, rfl, rfl, rfl, rfl, rfl, rfl, rfl, rfl, hM, hT, h17, h60⟩ := hI
  exact ml_R hC (c_m_ofCall l E ad lk tr N X F G hM v1 v2) hl iy_X12_ofCall rfl hR ⟨rfl, rfl⟩ hK hP rfl rfl hsz rfl hw hdg hf kk
theorem lm_may (hC : CX p s m meth c args cc nL ret0 own) (hK : va_K E.1 vwCl (tyE E) s) (hA : ∀ q : Nat, s.heap.size ≤ q → A q) (hl : Cond.methodLink own idx yX12_may ∈ tG) (hR : RM rm_X12_may 5 R) (hI : MS E ad nt n k net cP cQ fl tr X2 X4 F3 M) (hn3 : nt + 64 < 2 ^ 31) (hcn : ∀ c, c < k → cP c < n ∧ cQ c < n) (hP : va_P E.1 vwCl (w ++ M) H) (hD : va_D A (w ++ M)) (hS : va_S A s.heap H locs) (hsz : ls.size = nL) (hw : (rest.map fun v => v.category).sum ≤ 8) (hdg : decode cc pc = .ok (.invokevirtual idx, 3)) (hf : cells + 0 ≤ R.cells ∧ slots + 0 ≤ R.slots) (v1 v2 : Int32)
    (kk : W p l e R s m args below meth c H locs cells slots Q (F0 m (pc + 3) ls (.int (s_may n k net cP cQ v1 v2) :: rest))) : W p l e R s m args below meth c H locs cells slots Q (F0 m pc ls (.int v2 :: .int v1 :: .ref (ad 0) :: rest)) := by
  obtain ⟨lk, N, X, F, G, rfl, rfl, rfl, rfl, rfl, rfl, rfl, rfl, rfl, rfl, hM, hT, h17, h60⟩ := hI
  exact ml_R hC (c_m_may l E ad lk tr N X F G hM v1 v2) hl iy_X12_may rfl hR ⟨rfl, rfl⟩ hK hP rfl rfl hsz rfl hw hdg hf kk
theorem lm_joined (hC : CX p s m meth c args cc nL ret0 own) (hK : va_K E.1 vwCl (tyE E) s) (hA : ∀ q : Nat, s.heap.size ≤ q → A q) (hl : Cond.methodLink own idx yX12_joined ∈ tG) (hR : RM rm_X12_joined 1 R) (hI : MS E ad nt n k net cP cQ fl tr X2 X4 F3 M) (hn3 : nt + 64 < 2 ^ 31) (hcn : ∀ c, c < k → cP c < n ∧ cQ c < n) (hP : va_P E.1 vwCl (w ++ M) H) (hD : va_D A (w ++ M)) (hS : va_S A s.heap H locs) (hsz : ls.size = nL) (hw : (rest.map fun v => v.category).sum ≤ 8) (hdg : decode cc pc = .ok (.invokevirtual idx, 3)) (hf : cells + 0 ≤ R.cells ∧ slots + 0 ≤ R.slots)
    (kk : W p l e R s m args below meth c H locs cells slots Q (F0 m (pc + 3) ls (.int (s_joined n net) :: rest))) : W p l e R s m args below meth c H locs cells slots Q (F0 m pc ls (.ref (ad 0) :: rest)) := by
  obtain ⟨lk, N, X, F, G, rfl, rfl, rfl, rfl, rfl, rfl, rfl, rfl, rfl, rfl, hM, hT, h17, h60⟩ := hI
  exact ml_R hC (c_m_joined l E ad lk tr N X F G hM ) hl iy_X12_joined rfl hR ⟨rfl, rfl⟩ hK hP rfl rfl hsz rfl hw hdg hf kk
theorem lm_sun (hC : CX p s m meth c args cc nL ret0 own) (hK : va_K E.1 vwCl (tyE E) s) (hA : ∀ q : Nat, s.heap.size ≤ q → A q) (hl : Cond.methodLink own idx yX12_sun ∈ tG) (hR : RM rm_X12_sun 6 R) (hI : MS E ad nt n k net cP cQ fl tr X2 X4 F3 M) (hn3 : nt + 64 < 2 ^ 31) (hcn : ∀ c, c < k → cP c < n ∧ cQ c < n) (hP : va_P E.1 vwCl (w ++ M) H) (hD : va_D A (w ++ M)) (hS : va_S A s.heap H locs) (hsz : ls.size = nL) (hw : (rest.map fun v => v.category).sum ≤ 8) (hdg : decode cc pc = .ok (.invokevirtual idx, 3)) (hf : cells + 0 ≤ R.cells ∧ slots + 0 ≤ R.slots)
    (kk : W p l e R s m args below meth c H locs cells slots Q (F0 m (pc + 3) ls (.int (s_sun n net) :: rest))) : W p l e R s m args below meth c H locs cells slots Q (F0 m pc ls (.ref (ad 0) :: rest)) := by
  obtain ⟨lk, N, X, F, G, rfl, rfl, rfl, rfl, rfl, rfl, rfl, rfl, rfl, rfl, hM, hT, h17, h60⟩ := hI
  exact ml_R hC (c_m_sun l E ad lk tr N X F G hM ) hl iy_X12_sun rfl hR ⟨rfl, rfl⟩ hK hP rfl rfl hsz rfl hw hdg hf kk
theorem lm_many (hC : CX p s m meth c args cc nL ret0 own) (hK : va_K E.1 vwCl (tyE E) s) (hA : ∀ q : Nat, s.heap.size ≤ q → A q) (hl : Cond.methodLink own idx yX12_many ∈ tG) (hR : RM rm_X12_many 5 R) (hI : MS E ad nt n k net cP cQ fl tr X2 X4 F3 M) (hn3 : nt + 64 < 2 ^ 31) (hcn : ∀ c, c < k → cP c < n ∧ cQ c < n) (hP : va_P E.1 vwCl (w ++ M) H) (hD : va_D A (w ++ M)) (hS : va_S A s.heap H locs) (hsz : ls.size = nL) (hw : (rest.map fun v => v.category).sum ≤ 8) (hdg : decode cc pc = .ok (.invokevirtual idx, 3)) (hf : cells + 0 ≤ R.cells ∧ slots + 0 ≤ R.slots) (v1 : Int32)
    (kk : W p l e R s m args below meth c H locs cells slots Q (F0 m (pc + 3) ls (.int (s_many n k net cP cQ v1) :: rest))) : W p l e R s m args below meth c H locs cells slots Q (F0 m pc ls (.int v1 :: .ref (ad 0) :: rest)) := by
  obtain ⟨lk, N, X, F, G, rfl, rfl, rfl, rfl, rfl, rfl, rfl, rfl, rfl, rfl, hM, hT, h17, h60⟩ := hI
  exact ml_R hC (c_m_many l E ad lk tr N X F G hM v1) hl iy_X12_many rfl hR ⟨rfl, rfl⟩ hK hP rfl rfl hsz rfl hw hdg hf kk
theorem lm_trace (hC : CX p s m meth c args cc nL ret0 own) (hK : va_K E.1 vwCl (tyE E) s) (hA : ∀ q : Nat, s.heap.size ≤ q → A q) (hl : Cond.methodLink own idx yX12_trace ∈ tG) (hR : RM rm_X12_trace 1 R) (hI : MS E ad nt n k net cP cQ fl tr X2 X4 F3 M) (hn3 : nt + 64 < 2 ^ 31) (hcn : ∀ c, c < k → cP c < n ∧ cQ c < n) (hP : va_P E.1 vwCl (w ++ M) H) (hD : va_D A (w ++ M)) (hS : va_S A s.heap H locs) (hsz : ls.size = nL) (hw : (rest.map fun v => v.category).sum ≤ 8) (hdg : decode cc pc = .ok (.invokevirtual idx, 3)) (hf : cells + 0 ≤ R.cells ∧ slots + 0 ≤ R.slots)
    (kk : W p l e R s m args below meth c H locs cells slots Q (F0 m (pc + 3) ls (.int tr :: rest))) : W p l e R s m args below meth c H locs cells slots Q (F0 m pc ls (.ref (ad 0) :: rest)) := by
  obtain ⟨lk, N, X, F, G, rfl, rfl, rfl, rfl, rfl, rfl, rfl, rfl, rfl, rfl, hM, hT, h17, h60⟩ := hI
  exact ml_R hC (c_m_trace l E ad lk tr N X F G) hl iy_X12_trace rfl hR ⟨rfl, rfl⟩ hK hP rfl rfl hsz rfl hw hdg hf kk
theorem lm_fault (hC : CX p s m meth c args cc nL ret0 own) (hK : va_K E.1 vwCl (tyE E) s) (hA : ∀ q : Nat, s.heap.size ≤ q → A q) (hl : Cond.methodLink own idx yX12_fault ∈ tG) (hR : RM rm_X12_fault 1 R) (hI : MS E ad nt n k net cP cQ fl tr X2 X4 F3 M) (hn3 : nt + 64 < 2 ^ 31) (hcn : ∀ c, c < k → cP c < n ∧ cQ c < n) (hP : va_P E.1 vwCl (w ++ M) H) (hD : va_D A (w ++ M)) (hS : va_S A s.heap H locs) (hsz : ls.size = nL) (hw : (rest.map fun v => v.category).sum ≤ 8) (hdg : decode cc pc = .ok (.invokevirtual idx, 3)) (hf : cells + 0 ≤ R.cells ∧ slots + 0 ≤ R.slots)
    (kk : W p l e R s m args below meth c H locs cells slots Q (F0 m (pc + 3) ls (.int (nI fl) :: rest))) : W p l e R s m args below meth c H locs cells slots Q (F0 m pc ls (.ref (ad 0) :: rest)) := by
  obtain ⟨lk, N, X, F, G, rfl, rfl, rfl, rfl, rfl, rfl, rfl, rfl, rfl, rfl, hM, hT, h17, h60⟩ := hI
  exact ml_R hC (c_m_fault l E ad lk tr N X F G) hl iy_X12_fault rfl hR ⟨rfl, rfl⟩ hK hP rfl rfl hsz rfl hw hdg hf kk
theorem lm_runs (hC : CX p s m meth c args cc nL ret0 own) (hK : va_K E.1 vwCl (tyE E) s) (hA : ∀ q : Nat, s.heap.size ≤ q → A q) (hl : Cond.methodLink own idx yX12_runs ∈ tG) (hR : RM rm_X12_runs 4 R) (hI : MS E ad nt n k net cP cQ fl tr X2 X4 F3 M) (hn3 : nt + 64 < 2 ^ 31) (hcn : ∀ c, c < k → cP c < n ∧ cQ c < n) (hP : va_P E.1 vwCl (w ++ M) H) (hD : va_D A (w ++ M)) (hS : va_S A s.heap H locs) (hsz : ls.size = nL) (hw : (rest.map fun v => v.category).sum ≤ 8) (hdg : decode cc pc = .ok (.invokevirtual idx, 3)) (hf : cells + 0 ≤ R.cells ∧ slots + 0 ≤ R.slots) (v1 v2 : Int32)
    (kk : ∀ (w1 : va_W) (H1 : Heap) (locs1 : List Loc), MS E ad (nt + 64) n k net cP cQ fl tr X2 X4 F3 w1 → va_P E.1 vwCl (w ++ w1) H1 → va_D A (w ++ w1) → va_S A s.heap H1 locs1 → W p l e R s m args below meth c H1 locs1 cells slots Q (F0 m (pc + 3) ls (.long (s_runs n k net cP cQ v1 v2) :: rest))) : W p l e R s m args below meth c H locs cells slots Q (F0 m pc ls (.int v2 :: .int v1 :: .ref (ad 0) :: rest)) := by
  obtain ⟨lk, N, X, F, G, rfl, rfl, rfl, rfl, rfl, rfl, rfl, rfl, rfl, rfl, hM, hT, h17, h60⟩ := hI
  refine ml_W hC (c_m_runs l E ad lk tr N X F G _ hM hT (by omega) hcn v1 v2) hl iy_X12_runs rfl hR ⟨rfl, rfl⟩ hK hP hD hS hA rfl rfl hsz rfl hw hdg hf (fun v9 w1 H1 locs1 hpost hP hD hS => ?_)
  obtain ⟨rfl, hq⟩ := hpost
  exact kk _ H1 locs1 (MS_qp hM h17 h60 hq) hP hD hS
theorem lm_verdict (hC : CX p s m meth c args cc nL ret0 own) (hK : va_K E.1 vwCl (tyE E) s) (hA : ∀ q : Nat, s.heap.size ≤ q → A q) (hl : Cond.methodLink own idx yX12_verdict ∈ tG) (hR : RM rm_X12_verdict 2 R) (hI : MS E ad nt n k net cP cQ fl tr X2 X4 F3 M) (hn3 : nt + 64 < 2 ^ 31) (hcn : ∀ c, c < k → cP c < n ∧ cQ c < n) (hP : va_P E.1 vwCl (w ++ M) H) (hD : va_D A (w ++ M)) (hS : va_S A s.heap H locs) (hsz : ls.size = nL) (hw : (rest.map fun v => v.category).sum ≤ 8) (hdg : decode cc pc = .ok (.invokevirtual idx, 3)) (hf : cells + 0 ≤ R.cells ∧ slots + 0 ≤ R.slots) (v1 : Int32)
    (kk : ∀ (w1 : va_W) (H1 : Heap) (locs1 : List Loc), MS E ad (nt + 64) n k net cP cQ fl tr X2 X4 F3 w1 → va_P E.1 vwCl (w ++ w1) H1 → va_D A (w ++ w1) → va_S A s.heap H1 locs1 → W p l e R s m args below meth c H1 locs1 cells slots Q (F0 m (pc + 3) ls (.int (s_verdict n k net cP cQ v1) :: rest))) : W p l e R s m args below meth c H locs cells slots Q (F0 m pc ls (.int v1 :: .ref (ad 0) :: rest)) := by
  obtain ⟨lk, N, X, F, G, rfl, rfl, rfl, rfl, rfl, rfl, rfl, rfl, rfl, rfl, hM, hT, h17, h60⟩ := hI
  refine ml_W hC (c_m_verdict l E ad lk tr N X F G _ hM hT (by omega) hcn v1) hl iy_X12_verdict rfl hR ⟨rfl, rfl⟩ hK hP hD hS hA rfl rfl hsz rfl hw hdg hf (fun v9 w1 H1 locs1 hpost hP hD hS => ?_)
  obtain ⟨rfl, hq⟩ := hpost
  exact kk _ H1 locs1 (MS_qp hM h17 h60 hq) hP hD hS
theorem lm_calls (hC : CX p s m meth c args cc nL ret0 own) (hK : va_K E.1 vwCl (tyE E) s) (hA : ∀ q : Nat, s.heap.size ≤ q → A q) (hl : Cond.methodLink own idx yX12_calls ∈ tG) (hR : RM rm_X12_calls 4 R) (hI : MS E ad nt n k net cP cQ fl tr X2 X4 F3 M) (hn3 : nt + 64 < 2 ^ 31) (hcn : ∀ c, c < k → cP c < n ∧ cQ c < n) (hP : va_P E.1 vwCl (w ++ M) H) (hD : va_D A (w ++ M)) (hS : va_S A s.heap H locs) (hsz : ls.size = nL) (hw : (rest.map fun v => v.category).sum ≤ 8) (hdg : decode cc pc = .ok (.invokevirtual idx, 3)) (hf : cells + 0 ≤ R.cells ∧ slots + 0 ≤ R.slots) (v1 v2 : Int32)
    (kk : ∀ (w1 : va_W) (H1 : Heap) (locs1 : List Loc), MS E ad (nt + 64) n k net cP cQ fl tr X2 X4 F3 w1 → va_P E.1 vwCl (w ++ w1) H1 → va_D A (w ++ w1) → va_S A s.heap H1 locs1 → W p l e R s m args below meth c H1 locs1 cells slots Q (F0 m (pc + 3) ls (.int (s_calls n k net cP cQ v1 v2) :: rest))) : W p l e R s m args below meth c H locs cells slots Q (F0 m pc ls (.int v2 :: .int v1 :: .ref (ad 0) :: rest)) := by
  obtain ⟨lk, N, X, F, G, rfl, rfl, rfl, rfl, rfl, rfl, rfl, rfl, rfl, rfl, hM, hT, h17, h60⟩ := hI
  refine ml_W hC (c_m_calls l E ad lk tr N X F G _ hM hT (by omega) hcn v1 v2) hl iy_X12_calls rfl hR ⟨rfl, rfl⟩ hK hP hD hS hA rfl rfl hsz rfl hw hdg hf (fun v9 w1 H1 locs1 hpost hP hD hS => ?_)
  obtain ⟨rfl, hq⟩ := hpost
  exact kk _ H1 locs1 (MS_qp hM h17 h60 hq) hP hD hS
theorem lm_keeps (hC : CX p s m meth c args cc nL ret0 own) (hK : va_K E.1 vwCl (tyE E) s) (hA : ∀ q : Nat, s.heap.size ≤ q → A q) (hl : Cond.methodLink own idx yX12_keeps ∈ tG) (hR : RM rm_X12_keeps 6 R) (hI : MS E ad nt n k net cP cQ fl tr X2 X4 F3 M) (hn3 : nt + 64 < 2 ^ 31) (hcn : ∀ c, c < k → cP c < n ∧ cQ c < n) (hP : va_P E.1 vwCl (w ++ M) H) (hD : va_D A (w ++ M)) (hS : va_S A s.heap H locs) (hsz : ls.size = nL) (hw : (rest.map fun v => v.category).sum ≤ 8) (hdg : decode cc pc = .ok (.invokevirtual idx, 3)) (hf : cells + 0 ≤ R.cells ∧ slots + 0 ≤ R.slots) (v1 v2 v3 : Int32)
    (kk : ∀ (w1 : va_W) (H1 : Heap) (locs1 : List Loc), MS E ad (nt + 64) n k net cP cQ fl tr X2 X4 F3 w1 → va_P E.1 vwCl (w ++ w1) H1 → va_D A (w ++ w1) → va_S A s.heap H1 locs1 → W p l e R s m args below meth c H1 locs1 cells slots Q (F0 m (pc + 3) ls (.int (s_keeps n k net cP cQ v1 v2 v3) :: rest))) : W p l e R s m args below meth c H locs cells slots Q (F0 m pc ls (.int v3 :: .int v2 :: .int v1 :: .ref (ad 0) :: rest)) := by
  obtain ⟨lk, N, X, F, G, rfl, rfl, rfl, rfl, rfl, rfl, rfl, rfl, rfl, rfl, hM, hT, h17, h60⟩ := hI
  refine ml_W hC (c_m_keeps l E ad lk tr N X F G _ hM hT (by omega) hcn v1 v2 v3) hl iy_X12_keeps rfl hR ⟨rfl, rfl⟩ hK hP hD hS hA rfl rfl hsz rfl hw hdg hf (fun v9 w1 H1 locs1 hpost hP hD hS => ?_)
  obtain ⟨rfl, hq⟩ := hpost
  exact kk _ H1 locs1 (MS_qp hM h17 h60 hq) hP hD hS
theorem lm_within (hC : CX p s m meth c args cc nL ret0 own) (hK : va_K E.1 vwCl (tyE E) s) (hA : ∀ q : Nat, s.heap.size ≤ q → A q) (hl : Cond.methodLink own idx yX12_within ∈ tG) (hR : RM rm_X12_within 14 R) (hI : MS E ad nt n k net cP cQ fl tr X2 X4 F3 M) (hn3 : nt + 64 < 2 ^ 31) (hcn : ∀ c, c < k → cP c < n ∧ cQ c < n) (hP : va_P E.1 vwCl (w ++ M) H) (hD : va_D A (w ++ M)) (hS : va_S A s.heap H locs) (hsz : ls.size = nL) (hw : (rest.map fun v => v.category).sum ≤ 8) (hdg : decode cc pc = .ok (.invokevirtual idx, 3)) (hf : cells + 0 ≤ R.cells ∧ slots + 0 ≤ R.slots) (v1 v2 : Int32)
    (kk : ∀ (w1 : va_W) (H1 : Heap) (locs1 : List Loc), MS E ad (nt + 64) n k net cP cQ fl tr X2 X4 F3 w1 → va_P E.1 vwCl (w ++ w1) H1 → va_D A (w ++ w1) → va_S A s.heap H1 locs1 → W p l e R s m args below meth c H1 locs1 cells slots Q (F0 m (pc + 3) ls (.int (s_within n k net cP cQ v1 v2) :: rest))) : W p l e R s m args below meth c H locs cells slots Q (F0 m pc ls (.int v2 :: .int v1 :: .ref (ad 0) :: rest)) := by
  obtain ⟨lk, N, X, F, G, rfl, rfl, rfl, rfl, rfl, rfl, rfl, rfl, rfl, rfl, hM, hT, h17, h60⟩ := hI
  refine ml_W hC (c_m_within l E ad lk tr N X F G _ hM hT (by omega) hcn v1 v2) hl iy_X12_within rfl hR ⟨rfl, rfl⟩ hK hP hD hS hA rfl rfl hsz rfl hw hdg hf (fun v9 w1 H1 locs1 hpost hP hD hS => ?_)
  obtain ⟨rfl, hq⟩ := hpost
  exact kk _ H1 locs1 (MS_qp hM h17 h60 hq) hP hD hS
theorem lm_alike (hC : CX p s m meth c args cc nL ret0 own) (hK : va_K E.1 vwCl (tyE E) s) (hA : ∀ q : Nat, s.heap.size ≤ q → A q) (hl : Cond.methodLink own idx yX12_alike ∈ tG) (hR : RM rm_X12_alike 2 R) (hI : MS E ad nt n k net cP cQ fl tr X2 X4 F3 M) (hn3 : nt + 64 < 2 ^ 31) (hcn : ∀ c, c < k → cP c < n ∧ cQ c < n) (hP : va_P E.1 vwCl (w ++ M) H) (hD : va_D A (w ++ M)) (hS : va_S A s.heap H locs) (hsz : ls.size = nL) (hw : (rest.map fun v => v.category).sum ≤ 8) (hdg : decode cc pc = .ok (.invokevirtual idx, 3)) (hf : cells + 0 ≤ R.cells ∧ slots + 0 ≤ R.slots) (v1 : Int32)
    (kk : ∀ (w1 : va_W) (H1 : Heap) (locs1 : List Loc), MS E ad (nt + 64) n k net cP cQ fl tr X2 X4 F3 w1 → va_P E.1 vwCl (w ++ w1) H1 → va_D A (w ++ w1) → va_S A s.heap H1 locs1 → W p l e R s m args below meth c H1 locs1 cells slots Q (F0 m (pc + 3) ls (.int (s_alike n k net cP cQ v1) :: rest))) : W p l e R s m args below meth c H locs cells slots Q (F0 m pc ls (.int v1 :: .ref (ad 0) :: rest)) := by
  obtain ⟨lk, N, X, F, G, rfl, rfl, rfl, rfl, rfl, rfl, rfl, rfl, rfl, rfl, hM, hT, h17, h60⟩ := hI
  refine ml_W hC (c_m_alike l E ad lk tr N X F G _ hM hT v1) hl iy_X12_alike rfl hR ⟨rfl, rfl⟩ hK hP hD hS hA rfl rfl hsz rfl hw hdg hf (fun v9 w1 H1 locs1 hpost hP hD hS => ?_)
  obtain ⟨rfl, hq⟩ := hpost
  exact kk _ H1 locs1 (MS_qp hM h17 h60 hq) hP hD hS
theorem lm_sure (hC : CX p s m meth c args cc nL ret0 own) (hK : va_K E.1 vwCl (tyE E) s) (hA : ∀ q : Nat, s.heap.size ≤ q → A q) (hl : Cond.methodLink own idx yX12_sure ∈ tG) (hR : RM rm_X12_sure 4 R) (hI : MS E ad nt n k net cP cQ fl tr X2 X4 F3 M) (hn3 : nt + 64 < 2 ^ 31) (hcn : ∀ c, c < k → cP c < n ∧ cQ c < n) (hP : va_P E.1 vwCl (w ++ M) H) (hD : va_D A (w ++ M)) (hS : va_S A s.heap H locs) (hsz : ls.size = nL) (hw : (rest.map fun v => v.category).sum ≤ 8) (hdg : decode cc pc = .ok (.invokevirtual idx, 3)) (hf : cells + 0 ≤ R.cells ∧ slots + 0 ≤ R.slots) (v1 v2 v3 : Int32)
    (kk : ∀ (w1 : va_W) (H1 : Heap) (locs1 : List Loc), MS E ad (nt + 64) n k net cP cQ fl tr X2 X4 F3 w1 → va_P E.1 vwCl (w ++ w1) H1 → va_D A (w ++ w1) → va_S A s.heap H1 locs1 → W p l e R s m args below meth c H1 locs1 cells slots Q (F0 m (pc + 3) ls (.int (s_sure n k net cP cQ v1 v2 v3) :: rest))) : W p l e R s m args below meth c H locs cells slots Q (F0 m pc ls (.int v3 :: .int v2 :: .int v1 :: .ref (ad 0) :: rest)) := by
  obtain ⟨lk, N, X, F, G, rfl, rfl, rfl, rfl, rfl, rfl, rfl, rfl, rfl, rfl, hM, hT, h17, h60⟩ := hI
  refine ml_W hC (c_m_sure l E ad lk tr N X F G _ hM hT v1 v2 v3) hl iy_X12_sure rfl hR ⟨rfl, rfl⟩ hK hP hD hS hA rfl rfl hsz rfl hw hdg hf (fun v9 w1 H1 locs1 hpost hP hD hS => ?_)
  obtain ⟨rfl, hq⟩ := hpost
  exact kk _ H1 locs1 (MS_qp hM h17 h60 hq) hP hD hS
theorem lm_known (hC : CX p s m meth c args cc nL ret0 own) (hK : va_K E.1 vwCl (tyE E) s) (hA : ∀ q : Nat, s.heap.size ≤ q → A q) (hl : Cond.methodLink own idx yX12_known ∈ tG) (hR : RM rm_X12_known 3 R) (hI : MS E ad nt n k net cP cQ fl tr X2 X4 F3 M) (hn3 : nt + 64 < 2 ^ 31) (hcn : ∀ c, c < k → cP c < n ∧ cQ c < n) (hP : va_P E.1 vwCl (w ++ M) H) (hD : va_D A (w ++ M)) (hS : va_S A s.heap H locs) (hsz : ls.size = nL) (hw : (rest.map fun v => v.category).sum ≤ 8) (hdg : decode cc pc = .ok (.invokevirtual idx, 3)) (hf : cells + 0 ≤ R.cells ∧ slots + 0 ≤ R.slots) (v1 v2 : Int32)
    (kk : ∀ (w1 : va_W) (H1 : Heap) (locs1 : List Loc), MS E ad (nt + 64) n k net cP cQ fl tr X2 X4 F3 w1 → va_P E.1 vwCl (w ++ w1) H1 → va_D A (w ++ w1) → va_S A s.heap H1 locs1 → W p l e R s m args below meth c H1 locs1 cells slots Q (F0 m (pc + 3) ls (.int (s_known n k net cP cQ v1 v2) :: rest))) : W p l e R s m args below meth c H locs cells slots Q (F0 m pc ls (.int v2 :: .int v1 :: .ref (ad 0) :: rest)) := by
  obtain ⟨lk, N, X, F, G, rfl, rfl, rfl, rfl, rfl, rfl, rfl, rfl, rfl, rfl, hM, hT, h17, h60⟩ := hI
  refine ml_W hC (c_m_known l E ad lk tr N X F G _ hM hT v1 v2) hl iy_X12_known rfl hR ⟨rfl, rfl⟩ hK hP hD hS hA rfl rfl hsz rfl hw hdg hf (fun v9 w1 H1 locs1 hpost hP hD hS => ?_)
  obtain ⟨rfl, hq⟩ := hpost
  exact kk _ H1 locs1 (MS_qp hM h17 h60 hq) hP hD hS
theorem lm_end (hC : CX p s m meth c args cc nL ret0 own) (hK : va_K E.1 vwCl (tyE E) s) (hA : ∀ q : Nat, s.heap.size ≤ q → A q) (hl : Cond.methodLink own idx yX12_end ∈ tG) (hR : RM rm_X12_end 2 R) (hI : MS E ad nt n k net cP cQ fl tr X2 X4 F3 M) (hn3 : nt + 64 < 2 ^ 31) (hcn : ∀ c, c < k → cP c < n ∧ cQ c < n) (hP : va_P E.1 vwCl (w ++ M) H) (hD : va_D A (w ++ M)) (hS : va_S A s.heap H locs) (hsz : ls.size = nL) (hw : (rest.map fun v => v.category).sum ≤ 8) (hdg : decode cc pc = .ok (.invokevirtual idx, 3)) (hf : cells + 0 ≤ R.cells ∧ slots + 0 ≤ R.slots) (v1 : Int32)
    (kk : ∀ (w1 : va_W) (H1 : Heap) (locs1 : List Loc), MS E ad (nt + 64) n k net cP cQ fl tr X2 X4 F3 w1 → va_P E.1 vwCl (w ++ w1) H1 → va_D A (w ++ w1) → va_S A s.heap H1 locs1 → W p l e R s m args below meth c H1 locs1 cells slots Q (F0 m (pc + 3) ls (.int (s_end n k net cP cQ v1) :: rest))) : W p l e R s m args below meth c H locs cells slots Q (F0 m pc ls (.int v1 :: .ref (ad 0) :: rest)) := by
  obtain ⟨lk, N, X, F, G, rfl, rfl, rfl, rfl, rfl, rfl, rfl, rfl, rfl, rfl, hM, hT, h17, h60⟩ := hI
  refine ml_W hC (c_m_end l E ad lk tr N X F G _ hM hT v1) hl iy_X12_end rfl hR ⟨rfl, rfl⟩ hK hP hD hS hA rfl rfl hsz rfl hw hdg hf (fun v9 w1 H1 locs1 hpost hP hD hS => ?_)
  obtain ⟨rfl, hq⟩ := hpost
  exact kk _ H1 locs1 (MS_qp hM h17 h60 hq) hP hD hS
theorem lm_nets (hC : CX p s m meth c args cc nL ret0 own) (hK : va_K E.1 vwCl (tyE E) s) (hA : ∀ q : Nat, s.heap.size ≤ q → A q) (hl : Cond.methodLink own idx yX12_nets ∈ tG) (hR : RM rm_X12_nets 6 R) (hI : MS E ad nt n k net cP cQ fl tr X2 X4 F3 M) (hn3 : nt + 64 < 2 ^ 31) (hcn : ∀ c, c < k → cP c < n ∧ cQ c < n) (hP : va_P E.1 vwCl (w ++ M) H) (hD : va_D A (w ++ M)) (hS : va_S A s.heap H locs) (hsz : ls.size = nL) (hw : (rest.map fun v => v.category).sum ≤ 8) (hdg : decode cc pc = .ok (.invokevirtual idx, 3)) (hf : cells + 0 ≤ R.cells ∧ slots + 0 ≤ R.slots) (v1 v2 v3 : Int32)
    (kk : ∀ (w1 : va_W) (H1 : Heap) (locs1 : List Loc), MS E ad (nt + 64) n k net cP cQ fl tr X2 X4 F3 w1 → va_P E.1 vwCl (w ++ w1) H1 → va_D A (w ++ w1) → va_S A s.heap H1 locs1 → W p l e R s m args below meth c H1 locs1 cells slots Q (F0 m (pc + 3) ls (.int (s_nets v1 v2 v3) :: rest))) : W p l e R s m args below meth c H locs cells slots Q (F0 m pc ls (.int v3 :: .int v2 :: .int v1 :: .ref (ad 0) :: rest)) := by
  obtain ⟨lk, N, X, F, G, rfl, rfl, rfl, rfl, rfl, rfl, rfl, rfl, rfl, rfl, hM, hT, h17, h60⟩ := hI
  refine ml_W hC (c_m_nets l E ad lk tr N X F G _ hT (by omega) v1 v2 v3) hl iy_X12_nets rfl hR ⟨rfl, rfl⟩ hK hP hD hS hA rfl rfl hsz rfl hw hdg hf (fun v9 w1 H1 locs1 hpost hP hD hS => ?_)
  obtain ⟨rfl, hq⟩ := hpost
  exact kk _ H1 locs1 (MS_qp hM h17 h60 hq) hP hD hS
theorem lm_best (hC : CX p s m meth c args cc nL ret0 own) (hK : va_K E.1 vwCl (tyE E) s) (hA : ∀ q : Nat, s.heap.size ≤ q → A q) (hl : Cond.methodLink own idx yX12_best ∈ tG) (hR : RM rm_X12_best 10 R) (hI : MS E ad nt n k net cP cQ fl tr X2 X4 F3 M) (hn3 : nt + 64 < 2 ^ 31) (hcn : ∀ c, c < k → cP c < n ∧ cQ c < n) (hP : va_P E.1 vwCl (w ++ M) H) (hD : va_D A (w ++ M)) (hS : va_S A s.heap H locs) (hsz : ls.size = nL) (hw : (rest.map fun v => v.category).sum ≤ 8) (hdg : decode cc pc = .ok (.invokevirtual idx, 3)) (hf : cells + 0 ≤ R.cells ∧ slots + 0 ≤ R.slots) (v1 v2 : Int32)
    (kk : ∀ (x1 : Int32) (w1 : va_W) (H1 : Heap) (locs1 : List Loc), bestP n k net cP cQ v1 v2 x1 → MS E ad (nt + 64) n k net cP cQ fl tr X2 X4 F3 w1 → va_P E.1 vwCl (w ++ w1) H1 → va_D A (w ++ w1) → va_S A s.heap H1 locs1 → W p l e R s m args below meth c H1 locs1 cells slots Q (F0 m (pc + 3) ls (.int x1 :: rest))) : W p l e R s m args below meth c H locs cells slots Q (F0 m pc ls (.int v2 :: .int v1 :: .ref (ad 0) :: rest)) := by
  obtain ⟨lk, N, X, F, G, rfl, rfl, rfl, rfl, rfl, rfl, rfl, rfl, rfl, rfl, hM, hT, h17, h60⟩ := hI
  refine ml_W hC (c_m_best l E ad lk tr N X F G _ hM hT (by omega) hcn v1 v2) hl iy_X12_best rfl hR ⟨rfl, rfl⟩ hK hP hD hS hA rfl rfl hsz rfl hw hdg hf (fun v9 w1 H1 locs1 hpost hP hD hS => ?_)
  obtain ⟨hv, hq⟩ := hpost
  obtain ⟨x1, rfl, hx⟩ := m_best hM.1 hcn hv
  exact kk x1 _ H1 locs1 hx (MS_qp hM h17 h60 hq) hP hD hS
theorem lm_bridge (hC : CX p s m meth c args cc nL ret0 own) (hK : va_K E.1 vwCl (tyE E) s) (hA : ∀ q : Nat, s.heap.size ≤ q → A q) (hl : Cond.methodLink own idx yX12_bridge ∈ tG) (hR : RM rm_X12_bridge 5 R) (hI : MS E ad nt n k net cP cQ fl tr X2 X4 F3 M) (hn3 : nt + 64 < 2 ^ 31) (hcn : ∀ c, c < k → cP c < n ∧ cQ c < n) (hP : va_P E.1 vwCl (w ++ M) H) (hD : va_D A (w ++ M)) (hS : va_S A s.heap H locs) (hsz : ls.size = nL) (hw : (rest.map fun v => v.category).sum ≤ 8) (hdg : decode cc pc = .ok (.invokevirtual idx, 3)) (hf : cells + 0 ≤ R.cells ∧ slots + 0 ≤ R.slots) (v1 : Int32)
    (kk : ∀ (x1 : Int32) (w1 : va_W) (H1 : Heap) (locs1 : List Loc), brP n net v1 x1 → MS E ad (nt + 64) n k net cP cQ fl tr X2 X4 F3 w1 → va_P E.1 vwCl (w ++ w1) H1 → va_D A (w ++ w1) → va_S A s.heap H1 locs1 → W p l e R s m args below meth c H1 locs1 cells slots Q (F0 m (pc + 3) ls (.int x1 :: rest))) : W p l e R s m args below meth c H locs cells slots Q (F0 m pc ls (.int v1 :: .ref (ad 0) :: rest)) := by
  obtain ⟨lk, N, X, F, G, rfl, rfl, rfl, rfl, rfl, rfl, rfl, rfl, rfl, rfl, hM, hT, h17, h60⟩ := hI
  refine ml_W hC (c_m_bridge l E ad lk tr N X F G _ hM hT v1) hl iy_X12_bridge rfl hR ⟨rfl, rfl⟩ hK hP hD hS hA rfl rfl hsz rfl hw hdg hf (fun v9 w1 H1 locs1 hpost hP hD hS => ?_)
  obtain ⟨hv, hq⟩ := hpost
  obtain ⟨x1, rfl, hx⟩ := m_bridge hv
  exact kk x1 _ H1 locs1 hx (MS_qp hM h17 h60 hq) hP hD hS
theorem lm_mend (hC : CX p s m meth c args cc nL ret0 own) (hK : va_K E.1 vwCl (tyE E) s) (hA : ∀ q : Nat, s.heap.size ≤ q → A q) (hl : Cond.methodLink own idx yX12_mend ∈ tG) (hR : RM rm_X12_mend 6 R) (hI : MS E ad nt n k net cP cQ fl tr X2 X4 F3 M) (hn3 : nt + 64 < 2 ^ 31) (hcn : ∀ c, c < k → cP c < n ∧ cQ c < n) (hP : va_P E.1 vwCl (w ++ M) H) (hD : va_D A (w ++ M)) (hS : va_S A s.heap H locs) (hsz : ls.size = nL) (hw : (rest.map fun v => v.category).sum ≤ 8) (hdg : decode cc pc = .ok (.invokevirtual idx, 3)) (hf : cells + 0 ≤ R.cells ∧ slots + 0 ≤ R.slots) (v1 v2 : Int32)
    (kk : ∀ (x1 : Int32) (w1 : va_W) (H1 : Heap) (locs1 : List Loc), mdP n net v1 v2 x1 → MS E ad (nt + 64) n k net cP cQ fl tr X2 X4 F3 w1 → va_P E.1 vwCl (w ++ w1) H1 → va_D A (w ++ w1) → va_S A s.heap H1 locs1 → W p l e R s m args below meth c H1 locs1 cells slots Q (F0 m (pc + 3) ls (.int x1 :: rest))) : W p l e R s m args below meth c H locs cells slots Q (F0 m pc ls (.int v2 :: .int v1 :: .ref (ad 0) :: rest)) := by
  obtain ⟨lk, N, X, F, G, rfl, rfl, rfl, rfl, rfl, rfl, rfl, rfl, rfl, rfl, hM, hT, h17, h60⟩ := hI
  refine ml_W hC (c_m_mend l E ad lk tr N X F G _ hM hT (by omega) v1 v2) hl iy_X12_mend rfl hR ⟨rfl, rfl⟩ hK hP hD hS hA rfl rfl hsz rfl hw hdg hf (fun v9 w1 H1 locs1 hpost hP hD hS => ?_)
  obtain ⟨hv, hq⟩ := hpost
  obtain ⟨x1, rfl, hx⟩ := m_mend hv
  exact kk x1 _ H1 locs1 hx (MS_qp hM h17 h60 hq) hP hD hS
theorem lm_back (hC : CX p s m meth c args cc nL ret0 own) (hK : va_K E.1 vwCl (tyE E) s) (hA : ∀ q : Nat, s.heap.size ≤ q → A q) (hl : Cond.methodLink own idx yX12_back ∈ tG) (hR : RM rm_X12_back 1 R) (hI : MS E ad nt n k net cP cQ fl tr X2 X4 F3 M) (hn3 : nt + 64 < 2 ^ 31) (hcn : ∀ c, c < k → cP c < n ∧ cQ c < n) (hP : va_P E.1 vwCl (w ++ M) H) (hD : va_D A (w ++ M)) (hS : va_S A s.heap H locs) (hsz : ls.size = nL) (hw : (rest.map fun v => v.category).sum ≤ 8) (hdg : decode cc pc = .ok (.invokevirtual idx, 3)) (hf : cells + 0 ≤ R.cells ∧ slots + 0 ≤ R.slots)
    (kk : ∀ (w1 : va_W) (H1 : Heap) (locs1 : List Loc), MS E ad (nt + 64) n (k - 1) net cP cQ fl tr X2 X4 F3 w1 → va_P E.1 vwCl (w ++ w1) H1 → va_D A (w ++ w1) → va_S A s.heap H1 locs1 → W p l e R s m args below meth c H1 locs1 cells slots Q (F0 m (pc + 3) ls (.int (if k = 0 then -3 else nI (k - 1)) :: rest))) : W p l e R s m args below meth c H locs cells slots Q (F0 m pc ls (.ref (ad 0) :: rest)) := by
  obtain ⟨lk, N, X, F, G, rfl, rfl, rfl, rfl, rfl, rfl, rfl, rfl, rfl, rfl, hM, hT, h17, h60⟩ := hI
  refine ml_W hC (c_m_back l E ad lk tr N X F G _ hM) hl iy_X12_back rfl hR ⟨rfl, rfl⟩ hK hP hD hS hA rfl rfl hsz rfl hw hdg hf (fun v9 w1 H1 locs1 hpost hP hD hS => ?_)
  by_cases c1 : N 9 = 0
  · rw [if_pos c1] at hpost; obtain ⟨rfl, rfl⟩ := hpost
    rw [if_pos c1] at kk
    exact kk _ H1 locs1 ⟨_, N, X, F, G, rfl, rfl, (by omega), rfl, rfl, rfl, rfl, rfl, rfl, rfl, hM, hT, by show _ ≤ nt + 64; omega, h60⟩ hP hD hS
  · rw [if_neg c1] at hpost; obtain ⟨rfl, rfl⟩ := hpost
    rw [if_neg c1] at kk
    exact kk _ H1 locs1 ⟨_, va_up N 9 (N 9 - 1), X, F, G, rfl, rfl, rfl, rfl, rfl, rfl, rfl, rfl, rfl, rfl, MOK_N hM rfl (by show N 9 - 1 ≤ N 9; omega), TB_N hT rfl, by show N 17 ≤ nt + 64; omega, h60⟩ hP hD hS
theorem lm_call (hC : CX p s m meth c args cc nL ret0 own) (hK : va_K E.1 vwCl (tyE E) s) (hA : ∀ q : Nat, s.heap.size ≤ q → A q) (hl : Cond.methodLink own idx yX12_call ∈ tG) (hR : RM rm_X12_call 3 R) (hI : MS E ad nt n k net cP cQ fl tr X2 X4 F3 M) (hn3 : nt + 64 < 2 ^ 31) (hcn : ∀ c, c < k → cP c < n ∧ cQ c < n) (hP : va_P E.1 vwCl (w ++ M) H) (hD : va_D A (w ++ M)) (hS : va_S A s.heap H locs) (hsz : ls.size = nL) (hw : (rest.map fun v => v.category).sum ≤ 8) (hdg : decode cc pc = .ok (.invokevirtual idx, 3)) (hf : cells + 0 ≤ R.cells ∧ slots + 0 ≤ R.slots) (v1 v2 : Int32)
    (kk : ∀ (w1 : va_W) (H1 : Heap) (locs1 : List Loc), MS E ad (nt + 64) n (if callOK n k net cP cQ v1 v2 = true then k + 1 else k) net (if callOK n k net cP cQ v1 v2 = true then va_up cP k v1.toNatClampNeg else cP) (if callOK n k net cP cQ v1 v2 = true then va_up cQ k v2.toNatClampNeg else cQ) fl tr X2 X4 F3 w1 → va_P E.1 vwCl (w ++ w1) H1 → va_D A (w ++ w1) → va_S A s.heap H1 locs1 → W p l e R s m args below meth c H1 locs1 cells slots Q (F0 m (pc + 3) ls (.int (s_call n k net cP cQ v1 v2) :: rest))) : W p l e R s m args below meth c H locs cells slots Q (F0 m pc ls (.int v2 :: .int v1 :: .ref (ad 0) :: rest)) := by
  obtain ⟨lk, N, X, F, G, rfl, rfl, rfl, rfl, rfl, rfl, rfl, rfl, rfl, rfl, hM, hT, h17, h60⟩ := hI
  refine ml_W hC (c_m_call l E ad lk tr N X F G _ hM v1 v2) hl iy_X12_call rfl hR ⟨rfl, rfl⟩ hK hP hD hS hA rfl rfl hsz rfl hw hdg hf (fun v9 w1 H1 locs1 hpost hP hD hS => ?_)
  obtain ⟨rfl, rfl⟩ := hpost
  by_cases c1 : callOK (N 5) (N 9) (F 6) (F 10) (F 11) v1 v2 = true
  · rw [if_pos c1, if_pos c1] at hP hD
    rw [if_pos c1, if_pos c1, if_pos c1] at kk
    have hck := c1; unfold callOK at hck; simp only [Bool.and_eq_true, decide_eq_true_eq] at hck
    have h5 := hM.1; obtain ⟨p1, hp1, rfl⟩ := isP_nat (by omega) hck.1.1.1.1; obtain ⟨q1, hq1, rfl⟩ := isP_nat (by omega) hck.1.1.1.2
    rw [nI_clamp (by omega), nI_clamp (by omega)] at hP hD; rw [nI_clamp (by omega), nI_clamp (by omega)] at kk
    have h9 := hM.2.1; have hne := hck.2
    have u1 : ∀ c9, va_up (F 10) (N 9) p1 c9 < 4 := fun c9 => by by_cases h8 : c9 = N 9; rw [h8, vu_s]; omega; rw [vu_n _ _ h8]; exact hM.2.2.1 c9
    have u2 : ∀ c9, va_up (F 11) (N 9) q1 c9 < 4 := fun c9 => by by_cases h8 : c9 = N 9; rw [h8, vu_s]; omega; rw [vu_n _ _ h8]; exact hM.2.2.2.1 c9
    exact kk _ H1 locs1 ⟨_, va_up N 9 (N 9 + 1), X, va_up (va_up F 10 (va_up (F 10) (N 9) p1)) 11 (va_up (F 11) (N 9) q1), G, rfl, rfl, rfl, rfl, rfl, rfl, rfl, rfl, rfl, rfl, ⟨h5, by show N 9 + 1 ≤ 12; omega, u1, u2, hM.2.2.2.2⟩, TB_N (N := N) ⟨hT.1, hT.2⟩ rfl, by show N 17 ≤ nt + 64; omega, h60⟩ hP hD hS
  · rw [if_neg c1, if_neg c1] at hP hD
    rw [if_neg c1, if_neg c1, if_neg c1] at kk
    exact kk _ H1 locs1 ⟨_, N, X, F, G, rfl, rfl, rfl, rfl, rfl, rfl, rfl, rfl, rfl, rfl, hM, hT, by show _ ≤ nt + 64; omega, h60⟩ hP hD hS
theorem lm_tell (hC : CX p s m meth c args cc nL ret0 own) (hK : va_K E.1 vwCl (tyE E) s) (hA : ∀ q : Nat, s.heap.size ≤ q → A q) (hl : Cond.methodLink own idx yX12_tell ∈ tG) (hR : RM rm_X12_tell 4 R) (hI : MS E ad nt n k net cP cQ fl tr X2 X4 F3 M) (hn3 : nt + 64 < 2 ^ 31) (hcn : ∀ c, c < k → cP c < n ∧ cQ c < n) (hP : va_P E.1 vwCl (w ++ M) H) (hD : va_D A (w ++ M)) (hS : va_S A s.heap H locs) (hsz : ls.size = nL) (hw : (rest.map fun v => v.category).sum ≤ 8) (hdg : decode cc pc = .ok (.invokevirtual idx, 3)) (hf : cells + 0 ≤ R.cells ∧ slots + 0 ≤ R.slots) (v1 : Int32)
    (kk : ∀ (w1 : va_W) (H1 : Heap) (locs1 : List Loc), MS E ad (nt + 64) n k net cP cQ fl ((tlV n k cP cQ tr v1).2) X2 X4 F3 w1 → va_P E.1 vwCl (w ++ w1) H1 → va_D A (w ++ w1) → va_S A s.heap H1 locs1 → W p l e R s m args below meth c H1 locs1 cells slots Q (F0 m (pc + 3) ls (.int (tlV n k cP cQ tr v1).1 :: rest))) : W p l e R s m args below meth c H locs cells slots Q (F0 m pc ls (.int v1 :: .ref (ad 0) :: rest)) := by
  obtain ⟨lk, N, X, F, G, rfl, rfl, rfl, rfl, rfl, rfl, rfl, rfl, rfl, rfl, hM, hT, h17, h60⟩ := hI
  refine ml_W hC (c_m_tell l E ad lk tr N X F G _ hM v1) hl iy_X12_tell rfl hR ⟨rfl, rfl⟩ hK hP hD hS hA rfl rfl hsz rfl hw hdg hf (fun v9 w1 H1 locs1 hpost hP hD hS => ?_)
  unfold tlV at kk
  by_cases c1 : isP v1 (N 9) = false
  · rw [if_pos c1] at hpost kk; obtain ⟨rfl, rfl⟩ := hpost
    exact kk _ H1 locs1 ⟨_, N, X, F, G, rfl, rfl, rfl, rfl, rfl, rfl, rfl, rfl, rfl, rfl, hM, hT, by show _ ≤ nt + 64; omega, h60⟩ hP hD hS
  · rw [if_neg c1] at hpost kk; obtain ⟨rfl, rfl⟩ := hpost
    exact kk _ H1 locs1 ⟨_, N, X, F, G, rfl, rfl, rfl, rfl, rfl, rfl, rfl, rfl, rfl, rfl, hM, hT, by show _ ≤ nt + 64; omega, h60⟩ hP hD hS
theorem lm_log (hC : CX p s m meth c args cc nL ret0 own) (hK : va_K E.1 vwCl (tyE E) s) (hA : ∀ q : Nat, s.heap.size ≤ q → A q) (hl : Cond.methodLink own idx yX12_log ∈ tG) (hR : RM rm_X12_log 3 R) (hI : MS E ad nt n k net cP cQ fl tr X2 X4 F3 M) (hn3 : nt + 64 < 2 ^ 31) (hcn : ∀ c, c < k → cP c < n ∧ cQ c < n) (hP : va_P E.1 vwCl (w ++ M) H) (hD : va_D A (w ++ M)) (hS : va_S A s.heap H locs) (hsz : ls.size = nL) (hw : (rest.map fun v => v.category).sum ≤ 8) (hdg : decode cc pc = .ok (.invokevirtual idx, 3)) (hf : cells + 0 ≤ R.cells ∧ slots + 0 ≤ R.slots) (v1 : Int32)
    (kk : ∀ (w1 : va_W) (H1 : Heap) (locs1 : List Loc), MS E ad (nt + 64) n k net cP cQ fl ((lgV n k cP cQ tr v1).2) X2 X4 F3 w1 → va_P E.1 vwCl (w ++ w1) H1 → va_D A (w ++ w1) → va_S A s.heap H1 locs1 → W p l e R s m args below meth c H1 locs1 cells slots Q (F0 m (pc + 3) ls (.int (lgV n k cP cQ tr v1).1 :: rest))) : W p l e R s m args below meth c H locs cells slots Q (F0 m pc ls (.int v1 :: .ref (ad 0) :: rest)) := by
  obtain ⟨lk, N, X, F, G, rfl, rfl, rfl, rfl, rfl, rfl, rfl, rfl, rfl, rfl, hM, hT, h17, h60⟩ := hI
  refine ml_W hC (c_m_log l E ad lk tr N X F G _ hM v1) hl iy_X12_log rfl hR ⟨rfl, rfl⟩ hK hP hD hS hA rfl rfl hsz rfl hw hdg hf (fun v9 w1 H1 locs1 hpost hP hD hS => ?_)
  unfold lgV at kk
  by_cases c1 : isP v1 (N 9) = false
  · rw [if_pos c1] at hpost kk; obtain ⟨rfl, rfl⟩ := hpost
    exact kk _ H1 locs1 ⟨_, N, X, F, G, rfl, rfl, rfl, rfl, rfl, rfl, rfl, rfl, rfl, rfl, hM, hT, by show _ ≤ nt + 64; omega, h60⟩ hP hD hS
  · rw [if_neg c1] at hpost kk; obtain ⟨rfl, rfl⟩ := hpost
    by_cases c2 : knd (N 5) (F 10) (F 11) v1.toNatClampNeg = 2
    · rw [if_pos c2] at kk hP hD; rw [if_pos c2]
      exact kk _ H1 locs1 ⟨_, N, X, F, G, rfl, rfl, rfl, rfl, rfl, rfl, rfl, rfl, rfl, rfl, hM, hT, by show _ ≤ nt + 64; omega, h60⟩ hP hD hS
    · rw [if_neg c2] at kk hP hD; rw [if_neg c2]
      exact kk _ H1 locs1 ⟨_, N, X, F, G, rfl, rfl, rfl, rfl, rfl, rfl, rfl, rfl, rfl, rfl, hM, hT, by show _ ≤ nt + 64; omega, h60⟩ hP hD hS
theorem lm_as (hC : CX p s m meth c args cc nL ret0 own) (hK : va_K E.1 vwCl (tyE E) s) (hA : ∀ q : Nat, s.heap.size ≤ q → A q) (hl : Cond.methodLink own idx yX12_as ∈ tG) (hR : RM rm_X12_as 3 R) (hI : MS E ad nt n k net cP cQ fl tr X2 X4 F3 M) (hn3 : nt + 64 < 2 ^ 31) (hcn : ∀ c, c < k → cP c < n ∧ cQ c < n) (hP : va_P E.1 vwCl (w ++ M) H) (hD : va_D A (w ++ M)) (hS : va_S A s.heap H locs) (hsz : ls.size = nL) (hw : (rest.map fun v => v.category).sum ≤ 8) (hdg : decode cc pc = .ok (.invokevirtual idx, 3)) (hf : cells + 0 ≤ R.cells ∧ slots + 0 ≤ R.slots) (v1 v2 : Int32)
    (kk : ∀ (w1 : va_W) (H1 : Heap) (locs1 : List Loc), MS E ad (nt + 64) n k net cP cQ ((asV n k cP cQ v1 v2).2) tr X2 X4 F3 w1 → va_P E.1 vwCl (w ++ w1) H1 → va_D A (w ++ w1) → va_S A s.heap H1 locs1 → W p l e R s m args below meth c H1 locs1 cells slots Q (F0 m (pc + 3) ls (.int (asV n k cP cQ v1 v2).1 :: rest))) : W p l e R s m args below meth c H locs cells slots Q (F0 m pc ls (.int v2 :: .int v1 :: .ref (ad 0) :: rest)) := by
  obtain ⟨lk, N, X, F, G, rfl, rfl, rfl, rfl, rfl, rfl, rfl, rfl, rfl, rfl, hM, hT, h17, h60⟩ := hI
  refine ml_W hC (c_m_as l E ad lk tr N X F G _ hM v1 v2) hl iy_X12_as rfl hR ⟨rfl, rfl⟩ hK hP hD hS hA rfl rfl hsz rfl hw hdg hf (fun v9 w1 H1 locs1 hpost hP hD hS => ?_)
  unfold asV at kk
  by_cases c1 : isP v1 (N 9) = false
  · rw [if_pos c1] at hpost kk; obtain ⟨rfl, rfl⟩ := hpost
    exact kk _ H1 locs1 ⟨_, va_up N 0 0, X, F, G, rfl, rfl, rfl, rfl, rfl, rfl, rfl, rfl, rfl, rfl, MOK_N hM rfl (Nat.le_refl _), TB_N hT rfl, by show N 17 ≤ nt + 64; omega, h60⟩ hP hD hS
  · rw [if_neg c1] at hpost kk
    by_cases c2 : isIn v2 (nI 0) (nI 2) = false
    · rw [if_pos c2] at hpost kk; obtain ⟨rfl, rfl⟩ := hpost
      exact kk _ H1 locs1 ⟨_, va_up N 0 0, X, F, G, rfl, rfl, rfl, rfl, rfl, rfl, rfl, rfl, rfl, rfl, MOK_N hM rfl (Nat.le_refl _), TB_N hT rfl, by show N 17 ≤ nt + 64; omega, h60⟩ hP hD hS
    · rw [if_neg c2] at hpost kk
      by_cases c3 : knd (N 5) (F 10) (F 11) v1.toNatClampNeg < v2.toNatClampNeg
      · rw [if_pos c3] at hpost kk; obtain ⟨rfl, rfl⟩ := hpost
        exact kk _ H1 locs1 ⟨_, va_up N 0 2, X, F, G, rfl, rfl, rfl, rfl, rfl, rfl, rfl, rfl, rfl, rfl, MOK_N hM rfl (Nat.le_refl _), TB_N hT rfl, by show N 17 ≤ nt + 64; omega, h60⟩ hP hD hS
      · rw [if_neg c3] at hpost kk; obtain ⟨rfl, rfl⟩ := hpost
        exact kk _ H1 locs1 ⟨_, va_up N 0 0, X, F, G, rfl, rfl, rfl, rfl, rfl, rfl, rfl, rfl, rfl, rfl, MOK_N hM rfl (Nat.le_refl _), TB_N hT rfl, by show N 17 ≤ nt + 64; omega, h60⟩ hP hD hS
theorem lm_sheet (hC : CX p s m meth c args cc nL ret0 own) (hK : va_K E.1 vwCl (tyE E) s) (hA : ∀ q : Nat, s.heap.size ≤ q → A q) (hl : Cond.methodLink own idx yX12_sheet ∈ tG) (hR : RM rm_X12_sheet 5 R) (hI : MS E ad nt n k net cP cQ fl tr X2 X4 F3 M) (hn3 : nt + 64 < 2 ^ 31) (hcn : ∀ c, c < k → cP c < n ∧ cQ c < n) (hP : va_P E.1 vwCl (w ++ M) H) (hD : va_D A (w ++ M)) (hS : va_S A s.heap H locs) (hsz : ls.size = nL) (hw : (rest.map fun v => v.category).sum ≤ 8) (hdg : decode cc pc = .ok (.invokevirtual idx, 3)) (hf : cells + 0 ≤ R.cells ∧ slots + 0 ≤ R.slots) (v1 v2 v3 : Int32)
    (kk : ∀ (w1 : va_W) (H1 : Heap) (locs1 : List Loc), MS E ad (nt + 64) n k net cP cQ ((shV v1 v2 v3 X2 X4 F3).2.1) tr ((shV v1 v2 v3 X2 X4 F3).2.2.1) ((shV v1 v2 v3 X2 X4 F3).2.2.2.1) ((shV v1 v2 v3 X2 X4 F3).2.2.2.2) w1 → va_P E.1 vwCl (w ++ w1) H1 → va_D A (w ++ w1) → va_S A s.heap H1 locs1 → W p l e R s m args below meth c H1 locs1 cells slots Q (F0 m (pc + 3) ls (.int (shV v1 v2 v3 X2 X4 F3).1 :: rest))) : W p l e R s m args below meth c H locs cells slots Q (F0 m pc ls (.int v3 :: .int v2 :: .int v1 :: .ref (ad 0) :: rest)) := by
  obtain ⟨lk, N, X, F, G, rfl, rfl, rfl, rfl, rfl, rfl, rfl, rfl, rfl, rfl, hM, hT, h17, h60⟩ := hI
  refine ml_W hC (c_m_sheet l E ad lk tr N X F G _ v1 v2 v3) hl iy_X12_sheet rfl hR ⟨rfl, rfl⟩ hK hP hD hS hA rfl rfl hsz rfl hw hdg hf (fun v9 w1 H1 locs1 hpost hP hD hS => ?_)
  unfold shV at kk
  by_cases c1 : isIn v1 (nI 0) (nI 3) = false
  · rw [if_pos c1] at hpost kk; obtain ⟨rfl, rfl⟩ := hpost
    exact kk _ H1 locs1 ⟨_, va_up N 0 0, X, F, G, rfl, rfl, rfl, rfl, rfl, rfl, rfl, rfl, rfl, rfl, MOK_N hM rfl (Nat.le_refl _), TB_N hT rfl, by show N 17 ≤ nt + 64; omega, h60⟩ hP hD hS
  · rw [if_neg c1] at hpost kk
    by_cases c2 : isIn v2 (nI 0) (nI 2) = false
    · rw [if_pos c2] at hpost kk; obtain ⟨rfl, rfl⟩ := hpost
      exact kk _ H1 locs1 ⟨_, va_up N 0 0, X, F, G, rfl, rfl, rfl, rfl, rfl, rfl, rfl, rfl, rfl, rfl, MOK_N hM rfl (Nat.le_refl _), TB_N hT rfl, by show N 17 ≤ nt + 64; omega, h60⟩ hP hD hS
    · rw [if_neg c2] at hpost kk
      by_cases c3 : nI 60 < v3
      · rw [if_pos c3] at hpost kk; obtain ⟨rfl, rfl⟩ := hpost
        exact kk _ H1 locs1 ⟨_, va_up N 0 0, X, F, G, rfl, rfl, rfl, rfl, rfl, rfl, rfl, rfl, rfl, rfl, MOK_N hM rfl (Nat.le_refl _), TB_N hT rfl, by show N 17 ≤ nt + 64; omega, h60⟩ hP hD hS
      · rw [if_neg c3] at hpost kk
        by_cases c4 : v3 < 0
        · rw [if_pos c4] at hpost kk; obtain ⟨rfl, rfl⟩ := hpost
          exact kk _ H1 locs1 ⟨_, va_up N 0 4, X, F, G, rfl, rfl, rfl, rfl, rfl, rfl, rfl, rfl, rfl, rfl, MOK_N hM rfl (Nat.le_refl _), TB_N hT rfl, by show N 17 ≤ nt + 64; omega, h60⟩ hP hD hS
        · rw [if_neg c4] at hpost kk; obtain ⟨rfl, rfl⟩ := hpost
          obtain ⟨n1, hn1, rfl⟩ := gt60_nat c4 (Int32.not_lt.mp c3)
          rw [nI_clamp (by omega)] at hP hD kk
          have u1 : ∀ j9, va_up (F 3) v1.toNatClampNeg n1 j9 ≤ 60 := fun j9 => by by_cases h8 : j9 = v1.toNatClampNeg; rw [h8, vu_s]; exact hn1; rw [vu_n _ _ h8]; exact h60 j9
          exact kk _ H1 locs1 ⟨_, va_up N 0 0, va_up (va_up X 2 (upd (X 2) v1.toNatClampNeg v2)) 4 (zfill (X 4) v1.toNatClampNeg 60), va_up F 3 (va_up (F 3) v1.toNatClampNeg n1), G, rfl, rfl, rfl, rfl, rfl, rfl, rfl, rfl, rfl, rfl, MOK_N (N := N) ⟨hM.1, hM.2.1, hM.2.2.1, hM.2.2.2.1, hM.2.2.2.2⟩ rfl (Nat.le_refl _), TB_N (N := N) ⟨hT.1, hT.2⟩ rfl, by show N 17 ≤ nt + 64; omega, u1⟩ hP hD hS
theorem lm_lose (hC : CX p s m meth c args cc nL ret0 own) (hK : va_K E.1 vwCl (tyE E) s) (hA : ∀ q : Nat, s.heap.size ≤ q → A q) (hl : Cond.methodLink own idx yX12_lose ∈ tG) (hR : RM rm_X12_lose 3 R) (hI : MS E ad nt n k net cP cQ fl tr X2 X4 F3 M) (hn3 : nt + 64 < 2 ^ 31) (hcn : ∀ c, c < k → cP c < n ∧ cQ c < n) (hP : va_P E.1 vwCl (w ++ M) H) (hD : va_D A (w ++ M)) (hS : va_S A s.heap H locs) (hsz : ls.size = nL) (hw : (rest.map fun v => v.category).sum ≤ 8) (hdg : decode cc pc = .ok (.invokevirtual idx, 3)) (hf : cells + 0 ≤ R.cells ∧ slots + 0 ≤ R.slots) (v1 : Int32)
    (kk : ∀ (w1 : va_W) (H1 : Heap) (locs1 : List Loc), MS E ad (nt + 64) n k net cP cQ fl tr ((loV v1 X2).2) X4 F3 w1 → va_P E.1 vwCl (w ++ w1) H1 → va_D A (w ++ w1) → va_S A s.heap H1 locs1 → W p l e R s m args below meth c H1 locs1 cells slots Q (F0 m (pc + 3) ls (.int (loV v1 X2).1 :: rest))) : W p l e R s m args below meth c H locs cells slots Q (F0 m pc ls (.int v1 :: .ref (ad 0) :: rest)) := by
  obtain ⟨lk, N, X, F, G, rfl, rfl, rfl, rfl, rfl, rfl, rfl, rfl, rfl, rfl, hM, hT, h17, h60⟩ := hI
  refine ml_W hC (c_m_lose l E ad lk tr N X F G _ v1) hl iy_X12_lose rfl hR ⟨rfl, rfl⟩ hK hP hD hS hA rfl rfl hsz rfl hw hdg hf (fun v9 w1 H1 locs1 hpost hP hD hS => ?_)
  unfold loV at kk
  by_cases c1 : isIn v1 (nI 0) (nI 3) = false
  · rw [if_pos c1] at hpost kk; obtain ⟨rfl, rfl⟩ := hpost
    exact kk _ H1 locs1 ⟨_, N, X, F, G, rfl, rfl, rfl, rfl, rfl, rfl, rfl, rfl, rfl, rfl, hM, hT, by show _ ≤ nt + 64; omega, h60⟩ hP hD hS
  · rw [if_neg c1] at hpost kk
    by_cases c2 : X 2 v1.toNatClampNeg = -9
    · rw [if_pos c2] at hpost kk; obtain ⟨rfl, rfl⟩ := hpost
      exact kk _ H1 locs1 ⟨_, N, va_up X 2 (upd (X 2) v1.toNatClampNeg (-9)), F, G, rfl, rfl, rfl, rfl, rfl, rfl, rfl, rfl, rfl, rfl, hM, hT, by show _ ≤ nt + 64; omega, h60⟩ hP hD hS
    · rw [if_neg c2] at hpost kk; obtain ⟨rfl, rfl⟩ := hpost
      exact kk _ H1 locs1 ⟨_, N, va_up X 2 (upd (X 2) v1.toNatClampNeg (-9)), F, G, rfl, rfl, rfl, rfl, rfl, rfl, rfl, rfl, rfl, rfl, hM, hT, by show _ ≤ nt + 64; omega, h60⟩ hP hD hS
theorem lm_put (hC : CX p s m meth c args cc nL ret0 own) (hK : va_K E.1 vwCl (tyE E) s) (hA : ∀ q : Nat, s.heap.size ≤ q → A q) (hl : Cond.methodLink own idx yX12_put ∈ tG) (hR : RM rm_X12_put 4 R) (hI : MS E ad nt n k net cP cQ fl tr X2 X4 F3 M) (hn3 : nt + 64 < 2 ^ 31) (hcn : ∀ c, c < k → cP c < n ∧ cQ c < n) (hP : va_P E.1 vwCl (w ++ M) H) (hD : va_D A (w ++ M)) (hS : va_S A s.heap H locs) (hsz : ls.size = nL) (hw : (rest.map fun v => v.category).sum ≤ 8) (hdg : decode cc pc = .ok (.invokevirtual idx, 3)) (hf : cells + 0 ≤ R.cells ∧ slots + 0 ≤ R.slots) (v1 v2 v3 : Int32)
    (kk : ∀ (w1 : va_W) (H1 : Heap) (locs1 : List Loc), MS E ad (nt + 64) n k net cP cQ ((puV v1 v2 v3 X2 X4 F3).2.1) tr X2 ((puV v1 v2 v3 X2 X4 F3).2.2) F3 w1 → va_P E.1 vwCl (w ++ w1) H1 → va_D A (w ++ w1) → va_S A s.heap H1 locs1 → W p l e R s m args below meth c H1 locs1 cells slots Q (F0 m (pc + 3) ls (.int (puV v1 v2 v3 X2 X4 F3).1 :: rest))) : W p l e R s m args below meth c H locs cells slots Q (F0 m pc ls (.int v3 :: .int v2 :: .int v1 :: .ref (ad 0) :: rest)) := by
  obtain ⟨lk, N, X, F, G, rfl, rfl, rfl, rfl, rfl, rfl, rfl, rfl, rfl, rfl, hM, hT, h17, h60⟩ := hI
  refine ml_W hC (c_m_put l E ad lk tr N X F G _ h60 v1 v2 v3) hl iy_X12_put rfl hR ⟨rfl, rfl⟩ hK hP hD hS hA rfl rfl hsz rfl hw hdg hf (fun v9 w1 H1 locs1 hpost hP hD hS => ?_)
  unfold puV at kk
  by_cases c1 : isIn v1 (nI 0) (nI 3) = false
  · rw [if_pos c1] at hpost kk; obtain ⟨rfl, rfl⟩ := hpost
    exact kk _ H1 locs1 ⟨_, va_up N 0 0, X, F, G, rfl, rfl, rfl, rfl, rfl, rfl, rfl, rfl, rfl, rfl, MOK_N hM rfl (Nat.le_refl _), TB_N hT rfl, by show N 17 ≤ nt + 64; omega, h60⟩ hP hD hS
  · rw [if_neg c1] at hpost kk
    by_cases c2 : X 2 v1.toNatClampNeg = -9
    · rw [if_pos c2] at hpost kk; obtain ⟨rfl, rfl⟩ := hpost
      exact kk _ H1 locs1 ⟨_, va_up N 0 1, X, F, G, rfl, rfl, rfl, rfl, rfl, rfl, rfl, rfl, rfl, rfl, MOK_N hM rfl (Nat.le_refl _), TB_N hT rfl, by show N 17 ≤ nt + 64; omega, h60⟩ hP hD hS
    · rw [if_neg c2] at hpost kk
      by_cases c3 : isIn v2 (nI 0) (nI (F 3 v1.toNatClampNeg) - nI 1) = false
      · rw [if_pos c3] at hpost kk; obtain ⟨rfl, rfl⟩ := hpost
        exact kk _ H1 locs1 ⟨_, va_up N 0 3, X, F, G, rfl, rfl, rfl, rfl, rfl, rfl, rfl, rfl, rfl, rfl, MOK_N hM rfl (Nat.le_refl _), TB_N hT rfl, by show N 17 ≤ nt + 64; omega, h60⟩ hP hD hS
      · rw [if_neg c3] at hpost kk; obtain ⟨rfl, rfl⟩ := hpost
        exact kk _ H1 locs1 ⟨_, va_up N 0 0, va_up X 4 (upd (X 4) (60 * v1.toNatClampNeg + v2.toNatClampNeg) (cutL (X 2 v1.toNatClampNeg) v3)), F, G, rfl, rfl, rfl, rfl, rfl, rfl, rfl, rfl, rfl, rfl, MOK_N hM rfl (Nat.le_refl _), TB_N hT rfl, by show N 17 ≤ nt + 64; omega, h60⟩ hP hD hS
theorem lm_cell (hC : CX p s m meth c args cc nL ret0 own) (hK : va_K E.1 vwCl (tyE E) s) (hA : ∀ q : Nat, s.heap.size ≤ q → A q) (hl : Cond.methodLink own idx yX12_cell ∈ tG) (hR : RM rm_X12_cell 4 R) (hI : MS E ad nt n k net cP cQ fl tr X2 X4 F3 M) (hn3 : nt + 64 < 2 ^ 31) (hcn : ∀ c, c < k → cP c < n ∧ cQ c < n) (hP : va_P E.1 vwCl (w ++ M) H) (hD : va_D A (w ++ M)) (hS : va_S A s.heap H locs) (hsz : ls.size = nL) (hw : (rest.map fun v => v.category).sum ≤ 8) (hdg : decode cc pc = .ok (.invokevirtual idx, 3)) (hf : cells + 0 ≤ R.cells ∧ slots + 0 ≤ R.slots) (v1 v2 v3 : Int32)
    (kk : ∀ (w1 : va_W) (H1 : Heap) (locs1 : List Loc), MS E ad (nt + 64) n k net cP cQ ((ceV v1 v2 v3 X2 X4 F3).2) tr X2 X4 F3 w1 → va_P E.1 vwCl (w ++ w1) H1 → va_D A (w ++ w1) → va_S A s.heap H1 locs1 → W p l e R s m args below meth c H1 locs1 cells slots Q (F0 m (pc + 3) ls (.long (ceV v1 v2 v3 X2 X4 F3).1 :: rest))) : W p l e R s m args below meth c H locs cells slots Q (F0 m pc ls (.int v3 :: .int v2 :: .int v1 :: .ref (ad 0) :: rest)) := by
  obtain ⟨lk, N, X, F, G, rfl, rfl, rfl, rfl, rfl, rfl, rfl, rfl, rfl, rfl, hM, hT, h17, h60⟩ := hI
  refine ml_W hC (c_m_cell l E ad lk tr N X F G _ h60 v1 v2 v3) hl iy_X12_cell rfl hR ⟨rfl, rfl⟩ hK hP hD hS hA rfl rfl hsz rfl hw hdg hf (fun v9 w1 H1 locs1 hpost hP hD hS => ?_)
  unfold ceV at kk
  by_cases c1 : isIn v1 (nI 0) (nI 3) = false
  · rw [if_pos c1] at hpost kk; obtain ⟨rfl, rfl⟩ := hpost
    exact kk _ H1 locs1 ⟨_, va_up N 0 0, X, F, G, rfl, rfl, rfl, rfl, rfl, rfl, rfl, rfl, rfl, rfl, MOK_N hM rfl (Nat.le_refl _), TB_N hT rfl, by show N 17 ≤ nt + 64; omega, h60⟩ hP hD hS
  · rw [if_neg c1] at hpost kk
    by_cases c2 : isIn v3 (nI 0) (nI 2) = false
    · rw [if_pos c2] at hpost kk; obtain ⟨rfl, rfl⟩ := hpost
      exact kk _ H1 locs1 ⟨_, va_up N 0 0, X, F, G, rfl, rfl, rfl, rfl, rfl, rfl, rfl, rfl, rfl, rfl, MOK_N hM rfl (Nat.le_refl _), TB_N hT rfl, by show N 17 ≤ nt + 64; omega, h60⟩ hP hD hS
    · rw [if_neg c2] at hpost kk
      by_cases c3 : X 2 v1.toNatClampNeg = -9
      · rw [if_pos c3] at hpost kk; obtain ⟨rfl, rfl⟩ := hpost
        exact kk _ H1 locs1 ⟨_, va_up N 0 1, X, F, G, rfl, rfl, rfl, rfl, rfl, rfl, rfl, rfl, rfl, rfl, MOK_N hM rfl (Nat.le_refl _), TB_N hT rfl, by show N 17 ≤ nt + 64; omega, h60⟩ hP hD hS
      · rw [if_neg c3] at hpost kk
        by_cases c4 : ¬ X 2 v1.toNatClampNeg = v3
        · rw [if_pos c4] at hpost kk; obtain ⟨rfl, rfl⟩ := hpost
          exact kk _ H1 locs1 ⟨_, va_up N 0 2, X, F, G, rfl, rfl, rfl, rfl, rfl, rfl, rfl, rfl, rfl, rfl, MOK_N hM rfl (Nat.le_refl _), TB_N hT rfl, by show N 17 ≤ nt + 64; omega, h60⟩ hP hD hS
        · rw [if_neg c4] at hpost kk
          by_cases c5 : isIn v2 (nI 0) (nI (F 3 v1.toNatClampNeg) - nI 1) = false
          · rw [if_pos c5] at hpost kk; obtain ⟨rfl, rfl⟩ := hpost
            exact kk _ H1 locs1 ⟨_, va_up N 0 3, X, F, G, rfl, rfl, rfl, rfl, rfl, rfl, rfl, rfl, rfl, rfl, MOK_N hM rfl (Nat.le_refl _), TB_N hT rfl, by show N 17 ≤ nt + 64; omega, h60⟩ hP hD hS
          · rw [if_neg c5] at hpost kk; obtain ⟨rfl, rfl⟩ := hpost
            exact kk _ H1 locs1 ⟨_, va_up N 0 0, X, F, G, rfl, rfl, rfl, rfl, rfl, rfl, rfl, rfl, rfl, rfl, MOK_N hM rfl (Nat.le_refl _), TB_N hT rfl, by show N 17 ≤ nt + 64; omega, h60⟩ hP hD hS
theorem lm_copy (hC : CX p s m meth c args cc nL ret0 own) (hK : va_K E.1 vwCl (tyE E) s) (hA : ∀ q : Nat, s.heap.size ≤ q → A q) (hl : Cond.methodLink own idx yX12_copy ∈ tG) (hR : RM rm_X12_copy 10 R) (hI : MS E ad nt n k net cP cQ fl tr X2 X4 F3 M) (hn3 : nt + 64 < 2 ^ 31) (hcn : ∀ c, c < k → cP c < n ∧ cQ c < n) (hP : va_P E.1 vwCl (w ++ M) H) (hD : va_D A (w ++ M)) (hS : va_S A s.heap H locs) (hsz : ls.size = nL) (hw : (rest.map fun v => v.category).sum ≤ 8) (hdg : decode cc pc = .ok (.invokevirtual idx, 3)) (hf : cells + 0 ≤ R.cells ∧ slots + 0 ≤ R.slots) (v1 v2 v3 v4 v5 : Int32)
    (kk : ∀ (w1 : va_W) (H1 : Heap) (locs1 : List Loc), MS E ad (nt + 64) n k net cP cQ ((coV v1 v2 v3 v4 v5 X2 X4 F3).2.1) tr X2 ((coV v1 v2 v3 v4 v5 X2 X4 F3).2.2) F3 w1 → va_P E.1 vwCl (w ++ w1) H1 → va_D A (w ++ w1) → va_S A s.heap H1 locs1 → W p l e R s m args below meth c H1 locs1 cells slots Q (F0 m (pc + 3) ls (.int (coV v1 v2 v3 v4 v5 X2 X4 F3).1 :: rest))) : W p l e R s m args below meth c H locs cells slots Q (F0 m pc ls (.int v5 :: .int v4 :: .int v3 :: .int v2 :: .int v1 :: .ref (ad 0) :: rest)) := by
  obtain ⟨lk, N, X, F, G, rfl, rfl, rfl, rfl, rfl, rfl, rfl, rfl, rfl, rfl, hM, hT, h17, h60⟩ := hI
  refine ml_W hC (c_m_copy l E ad lk tr N X F G _ h60 v1 v2 v3 v4 v5) hl iy_X12_copy rfl hR ⟨rfl, rfl⟩ hK hP hD hS hA rfl rfl hsz rfl hw hdg hf (fun v9 w1 H1 locs1 hpost hP hD hS => ?_)
  unfold coV at kk
  by_cases c1 : isIn v1 (nI 0) (nI 3) = false
  · rw [if_pos c1] at hpost kk; obtain ⟨rfl, rfl⟩ := hpost
    exact kk _ H1 locs1 ⟨_, va_up N 0 0, X, F, G, rfl, rfl, rfl, rfl, rfl, rfl, rfl, rfl, rfl, rfl, MOK_N hM rfl (Nat.le_refl _), TB_N hT rfl, by show N 17 ≤ nt + 64; omega, h60⟩ hP hD hS
  · rw [if_neg c1] at hpost kk
    by_cases c2 : isIn v3 (nI 0) (nI 3) = false
    · rw [if_pos c2] at hpost kk; obtain ⟨rfl, rfl⟩ := hpost
      exact kk _ H1 locs1 ⟨_, va_up N 0 0, X, F, G, rfl, rfl, rfl, rfl, rfl, rfl, rfl, rfl, rfl, rfl, MOK_N hM rfl (Nat.le_refl _), TB_N hT rfl, by show N 17 ≤ nt + 64; omega, h60⟩ hP hD hS
    · rw [if_neg c2] at hpost kk
      by_cases c3 : X 2 v1.toNatClampNeg = -9
      · rw [if_pos c3] at hpost kk; obtain ⟨rfl, rfl⟩ := hpost
        exact kk _ H1 locs1 ⟨_, va_up N 0 1, X, F, G, rfl, rfl, rfl, rfl, rfl, rfl, rfl, rfl, rfl, rfl, MOK_N hM rfl (Nat.le_refl _), TB_N hT rfl, by show N 17 ≤ nt + 64; omega, h60⟩ hP hD hS
      · rw [if_neg c3] at hpost kk
        by_cases c4 : X 2 v3.toNatClampNeg = -9
        · rw [if_pos c4] at hpost kk; obtain ⟨rfl, rfl⟩ := hpost
          exact kk _ H1 locs1 ⟨_, va_up N 0 1, X, F, G, rfl, rfl, rfl, rfl, rfl, rfl, rfl, rfl, rfl, rfl, MOK_N hM rfl (Nat.le_refl _), TB_N hT rfl, by show N 17 ≤ nt + 64; omega, h60⟩ hP hD hS
        · rw [if_neg c4] at hpost kk
          by_cases c5 : ¬ X 2 v1.toNatClampNeg = X 2 v3.toNatClampNeg
          · rw [if_pos c5] at hpost kk; obtain ⟨rfl, rfl⟩ := hpost
            exact kk _ H1 locs1 ⟨_, va_up N 0 2, X, F, G, rfl, rfl, rfl, rfl, rfl, rfl, rfl, rfl, rfl, rfl, MOK_N hM rfl (Nat.le_refl _), TB_N hT rfl, by show N 17 ≤ nt + 64; omega, h60⟩ hP hD hS
          · rw [if_neg c5] at hpost kk
            by_cases c6 : (hasR v2 v5 (F 3 v1.toNatClampNeg) && hasR v4 v5 (F 3 v3.toNatClampNeg)) = false
            · rw [if_pos c6] at hpost kk; obtain ⟨rfl, rfl⟩ := hpost
              exact kk _ H1 locs1 ⟨_, va_up N 0 3, X, F, G, rfl, rfl, rfl, rfl, rfl, rfl, rfl, rfl, rfl, rfl, MOK_N hM rfl (Nat.le_refl _), TB_N hT rfl, by show N 17 ≤ nt + 64; omega, h60⟩ hP hD hS
            · rw [if_neg c6] at hpost kk; obtain ⟨rfl, rfl⟩ := hpost
              exact kk _ H1 locs1 ⟨_, va_up N 0 0, va_up X 4 (cpyC (X 4) (60 * v1.toNatClampNeg + v2.toNatClampNeg) (60 * v3.toNatClampNeg + v4.toNatClampNeg) v5.toNatClampNeg), F, G, rfl, rfl, rfl, rfl, rfl, rfl, rfl, rfl, rfl, rfl, MOK_N hM rfl (Nat.le_refl _), TB_N hT rfl, by show N 17 ≤ nt + 64; omega, h60⟩ hP hD hS
theorem lm_net (hC : CX p s m meth c args cc nL ret0 own) (hK : va_K E.1 vwCl (tyE E) s) (hA : ∀ q : Nat, s.heap.size ≤ q → A q) (hl : Cond.methodLink own idx yX12_net ∈ tG) (hR : RM rm_X12_net 8 R) (hI : MS E ad nt n k net cP cQ fl tr X2 X4 F3 M) (hn3 : nt + 64 < 2 ^ 31) (hcn : ∀ c, c < k → cP c < n ∧ cQ c < n) (hP : va_P E.1 vwCl (w ++ M) H) (hD : va_D A (w ++ M)) (hS : va_S A s.heap H locs) (hsz : ls.size = nL) (hw : (rest.map fun v => v.category).sum ≤ 8) (hdg : decode cc pc = .ok (.invokevirtual idx, 3)) (hf : cells + 0 ≤ R.cells ∧ slots + 0 ≤ R.slots) (v1 v2 v3 v4 : Int32)
    (kk : ∀ (x1 : Int32) (f1 n1 j1 : Nat) (net1 : Nat → Nat) (w1 : va_W) (H1 : Heap) (locs1 : List Loc), ntQ n k net X2 X4 F3 v1 v2 v3 v4 x1 f1 n1 j1 net1 → MS E ad (nt + 64) n1 j1 net1 cP cQ f1 tr X2 X4 F3 w1 → va_P E.1 vwCl (w ++ w1) H1 → va_D A (w ++ w1) → va_S A s.heap H1 locs1 → W p l e R s m args below meth c H1 locs1 cells slots Q (F0 m (pc + 3) ls (.int x1 :: rest))) : W p l e R s m args below meth c H locs cells slots Q (F0 m pc ls (.int v4 :: .int v3 :: .int v2 :: .int v1 :: .ref (ad 0) :: rest)) := by
  obtain ⟨lk, N, X, F, G, rfl, rfl, rfl, rfl, rfl, rfl, rfl, rfl, rfl, rfl, hM, hT, h17, h60⟩ := hI
  refine ml_W hC (c_m_net l E ad lk tr N X F G _ h60 v1 v2 v3 v4) hl iy_X12_net rfl hR ⟨rfl, rfl⟩ hK hP hD hS hA rfl rfl hsz rfl hw hdg hf (fun v9 w1 H1 locs1 hpost hP hD hS => ?_)
  by_cases c1 : isIn v1 (nI 0) (nI 3) = false
  · rw [if_pos c1] at hpost; obtain ⟨rfl, rfl⟩ := hpost
    exact kk _ 0 (N 5) (N 9) (F 6) _ H1 locs1 (by unfold ntQ; rw [if_pos c1]; exact ⟨rfl, rfl, rfl, rfl, rfl⟩) ⟨_, va_up N 0 0, X, F, G, rfl, rfl, rfl, rfl, rfl, rfl, rfl, rfl, rfl, rfl, MOK_N hM rfl (Nat.le_refl _), TB_N hT rfl, by show N 17 ≤ nt + 64; omega, h60⟩ hP hD hS
  · rw [if_neg c1] at hpost
    by_cases c2 : isIn v2 (nI 0) (nI 2) = false
    · rw [if_pos c2] at hpost; obtain ⟨rfl, rfl⟩ := hpost
      exact kk _ 0 (N 5) (N 9) (F 6) _ H1 locs1 (by unfold ntQ; rw [if_neg c1, if_pos c2]; exact ⟨rfl, rfl, rfl, rfl, rfl⟩) ⟨_, va_up N 0 0, X, F, G, rfl, rfl, rfl, rfl, rfl, rfl, rfl, rfl, rfl, rfl, MOK_N hM rfl (Nat.le_refl _), TB_N hT rfl, by show N 17 ≤ nt + 64; omega, h60⟩ hP hD hS
    · rw [if_neg c2] at hpost
      by_cases c3 : X 2 v1.toNatClampNeg = -9
      · rw [if_pos c3] at hpost; obtain ⟨rfl, rfl⟩ := hpost
        exact kk _ 1 (N 5) (N 9) (F 6) _ H1 locs1 (by unfold ntQ; rw [if_neg c1, if_neg c2, if_pos c3]; exact ⟨rfl, rfl, rfl, rfl, rfl⟩) ⟨_, va_up N 0 1, X, F, G, rfl, rfl, rfl, rfl, rfl, rfl, rfl, rfl, rfl, rfl, MOK_N hM rfl (Nat.le_refl _), TB_N hT rfl, by show N 17 ≤ nt + 64; omega, h60⟩ hP hD hS
      · rw [if_neg c3] at hpost
        by_cases c4 : ¬ X 2 v1.toNatClampNeg = v2
        · rw [if_pos c4] at hpost; obtain ⟨rfl, rfl⟩ := hpost
          exact kk _ 2 (N 5) (N 9) (F 6) _ H1 locs1 (by unfold ntQ; rw [if_neg c1, if_neg c2, if_neg c3, if_pos c4]; exact ⟨rfl, rfl, rfl, rfl, rfl⟩) ⟨_, va_up N 0 2, X, F, G, rfl, rfl, rfl, rfl, rfl, rfl, rfl, rfl, rfl, rfl, MOK_N hM rfl (Nat.le_refl _), TB_N hT rfl, by show N 17 ≤ nt + 64; omega, h60⟩ hP hD hS
        · rw [if_neg c4] at hpost
          by_cases c5 : v4 < 0
          · rw [if_pos c5] at hpost; obtain ⟨rfl, rfl⟩ := hpost
            exact kk _ 4 (N 5) (N 9) (F 6) _ H1 locs1 (by unfold ntQ; rw [if_neg c1, if_neg c2, if_neg c3, if_neg c4, if_pos c5]; exact ⟨rfl, rfl, rfl, rfl, rfl⟩) ⟨_, va_up N 0 4, X, F, G, rfl, rfl, rfl, rfl, rfl, rfl, rfl, rfl, rfl, rfl, MOK_N hM rfl (Nat.le_refl _), TB_N hT rfl, by show N 17 ≤ nt + 64; omega, h60⟩ hP hD hS
          · rw [if_neg c5] at hpost
            by_cases c6 : hasR v3 v4 (F 3 v1.toNatClampNeg) = false
            · rw [if_pos c6] at hpost; obtain ⟨rfl, rfl⟩ := hpost
              exact kk _ 3 (N 5) (N 9) (F 6) _ H1 locs1 (by unfold ntQ; rw [if_neg c1, if_neg c2, if_neg c3, if_neg c4, if_neg c5, if_pos c6]; exact ⟨rfl, rfl, rfl, rfl, rfl⟩) ⟨_, va_up N 0 3, X, F, G, rfl, rfl, rfl, rfl, rfl, rfl, rfl, rfl, rfl, rfl, MOK_N hM rfl (Nat.le_refl _), TB_N hT rfl, by show N 17 ≤ nt + 64; omega, h60⟩ hP hD hS
            · rw [if_neg c6] at hpost
              obtain ⟨rd, f7, hpost⟩ := hpost
              rcases hpost with ⟨r1, rfl, hfa, rfl⟩ | ⟨num, rfl, hnf, rfl⟩
              · exact kk _ 0 (N 5) (N 9) (F 6) _ H1 locs1 (by unfold ntQ; rw [if_neg c1, if_neg c2, if_neg c3, if_neg c4, if_neg c5, if_neg c6]; exact Or.inl ⟨r1, rfl, hfa, rfl, rfl, rfl, rfl⟩) ⟨_, va_up (va_up N 0 0) 8 rd, X, va_up F 7 f7, G, rfl, rfl, rfl, rfl, rfl, rfl, rfl, rfl, rfl, rfl, MOK_N (N := N) ⟨hM.1, hM.2.1, hM.2.2.1, hM.2.2.2.1, hM.2.2.2.2⟩ rfl (Nat.le_refl _), TB_N (N := N) ⟨hT.1, hT.2⟩ rfl, by show N 17 ≤ nt + 64; omega, h60⟩ hP hD hS
              · obtain ⟨p4, _, _, p16, _, _⟩ := parse_ok hnf.1
                have h16 : ∀ q9, netU (F 6) num rd q9 < 16 := fun q9 => by unfold netU; split; exact p16 q9; exact hM.2.2.2.2 q9
                exact kk _ 0 rd 0 (netU (F 6) num rd) _ H1 locs1 (by unfold ntQ; rw [if_neg c1, if_neg c2, if_neg c3, if_neg c4, if_neg c5, if_neg c6]; exact Or.inr ⟨num, rfl, hnf, rfl, rfl, rfl⟩) ⟨_, va_up (va_up (va_up (va_up N 0 0) 8 rd) 5 rd) 9 0, X, va_up (va_up F 7 f7) 6 (netU (F 6) num rd), G, rfl, rfl, rfl, rfl, rfl, rfl, rfl, rfl, rfl, rfl, ⟨p4, Nat.zero_le _, hM.2.2.1, hM.2.2.2.1, h16⟩, TB_N (N := N) ⟨hT.1, hT.2⟩ rfl, by show N 17 ≤ nt + 64; omega, h60⟩ hP hD hS
end OPS
