/-! ===== the law's stretches: one question, asked of both ===== -/
/-- both stand for the same -/
def INV (E : EE) (A : Nat → Prop) (co : Nat) (ad : Nat → Nat) (nt : Nat) (H : Heap) : Prop :=
  ∃ (n k : Nat) (net cP cQ : Nat → Nat) (fl : Nat) (tr : Int32) (X2 X4 : Nat → Int32) (F3 : Nat → Nat) (w M : va_W), CI E co n k net cP cQ fl tr X2 X4 F3 w ∧ MS E ad nt n k net cP cQ fl tr X2 X4 F3 M ∧ va_P E.1 vwCl (w ++ M) H ∧ va_D A (w ++ M)
theorem CI_cpn {E : EE} {co n k : Nat} {net cP cQ : Nat → Nat} {fl : Nat} {tr : Int32} {X2 X4 : Nat → Int32} {F3 : Nat → Nat} {w : va_W} (h : CI E co n k net cP cQ fl tr X2 X4 F3 w) : ∀ c, c < k → cP c < n ∧ cQ c < n := by
  obtain ⟨ca, ra, ao, C, Z, sh, sa, w3, w4, w5, w6, w7, w8, rfl, rfl, hcs, rfl, rfl, rfl, hmn, hnt, hru, hal, hca, hsh⟩ := h
  exact hcs.pq2
/-- what holds all along the law -/
def LH (p : Program) (s : State) (m : MethodId) (meth : Method) (c : Code) (args : Array Value) (E : EE) (A : Nat → Prop) (b L : Nat) (xs : Nat → Int32) : Prop :=
  CX p s m meth c args cL_law 4 ret RL ∧ va_K E.1 vwCl (tyE E) s ∧ (∀ q : Nat, s.heap.size ≤ q → A q) ∧ va_X b L xs s s.heap ∧ b < s.heap.size ∧ ¬ A b ∧ L ≤ 3072
theorem lg_same (x : Int64) : lg_cmp x x = 0 := by rw [lg_cmp, if_neg Int64.lt_irrefl, if_pos rfl]
section LAW
variable {p : Program} {l : Launch} {e : Env} {R : Room} {s : State} {m : MethodId} {args : Array Value} {below : List Frame} {meth : Method} {c : Code} {H : Heap} {locs : List Loc} {cells slots : Nat} {Q : State → Prop} {pc : Nat} {ls : Array Slot} {rest : List Value} {E : EE} {A : Nat → Prop} {b L : Nat} {xs : Nat → Int32} {co : Nat} {ad : Nat → Nat} {i nt : Nat}
abbrev LV (ls : Array Slot) (b co a0 i : Nat) : Prop := lv_has ls 4 [(0, .ref b), (1, .ref co), (2, .ref a0), (3, .int (nI i))]
theorem la_arg (h : LH p s m meth c args E A b L xs) (hS : va_S A s.heap H locs) (hl : LV ls b co (ad 0) i) {j : Nat} {jI : Int} (hj : Int32.ofInt jI = nI j) (d0 : decode cL_law pc = .ok (.aload_n 0, 1)) (d1 : decode cL_law (pc + 1) = .ok (.iload_n 3, 1)) (d2 : decode cL_law (pc + 2) = .ok (.iconst jI, 1)) (d3 : decode cL_law (pc + 3) = .ok (.iadd, 1)) (d4 : decode cL_law (pc + 4) = .ok (.iaload, 1)) (hij : i + j < L)
    (k : W p l e R s m args below meth c H locs cells slots Q (F0 m (pc + 5) ls (.int (xs (i + j)) :: rest))) : W p l e R s m args below meth c H locs cells slots Q (F0 m pc ls rest) := by
  obtain ⟨hC, hK, hA, hX, hbl, hbA, hL⟩ := h
  refine lv_aload_n hC.1 hC.2.1 d0 rfl (lv_at hl 0 rfl) ?_
  refine lv_iload_n hC.1 hC.2.1 d1 rfl (lv_at hl 3 rfl) ?_
  refine lv_iconst (v := nI j) hC.1 hC.2.1 d2 hj ?_
  refine n_iadd hC.1 hC.2.1 d3 ?_
  refine va_sld hC.1 hC.2.1 hX hbl hbA hS (vp_in_nI hij (by omega)) d4 ?_
  rw [nI_clamp (by omega)]
  exact k
set_option maxRecDepth 20000 in
set_option maxHeartbeats 1000000 in
theorem lo_net (h : LH p s m meth c args E A b L xs) (hi : i + 6 ≤ L) (hn3 : nt + 64 < 2 ^ 31) (hI : INV E A co ad nt H) (hS : va_S A s.heap H locs) (hl : LV ls b co (ad 0) i) (hce : cells + 2 ≤ 600000) (hsl : slots + 62 ≤ 7302250)
    (kk : ∀ (H1 : Heap) (locs1 : List Loc), INV E A co ad (nt + 64) H1 → va_S A s.heap H1 locs1 → W p l e room_1 s m args below meth c H1 locs1 (cells + 2) (slots + 62) Q (F0 m 1164 ls [])) : W p l e room_1 s m args below meth c H locs cells slots Q (F0 m 176 ls []) := by
  have h9 := h; obtain ⟨hC, hK, hA, hX, hbl, hbA, hL⟩ := h9
  obtain ⟨n, k, net, cP, cQ, fl, tr, X2, X4, F3, w, M, hcI, hmS, hP, hD⟩ := hI
  have hcn := CI_cpn hcI
  refine lv_aload_n hC.1 hC.2.1 dL_law_176 rfl (lv_at hl 1 rfl) ?_
  refine la_arg (j := 1) h hS hl (by decide) dL_law_177 dL_law_178 dL_law_179 dL_law_180 dL_law_181 (by omega) ?_
  refine la_arg (j := 2) h hS hl (by decide) dL_law_182 dL_law_183 dL_law_184 dL_law_185 dL_law_186 (by omega) ?_
  refine la_arg (j := 3) h hS hl (by decide) dL_law_187 dL_law_188 dL_law_189 dL_law_190 dL_law_191 (by omega) ?_
  refine la_arg (j := 4) h hS hl (by decide) dL_law_192 dL_law_193 dL_law_194 dL_law_195 dL_law_196 (by omega) ?_
  refine lx_net hC hK hA kw_144 ⟨Nat.le_of_ble_eq_true rfl, Nat.le_of_ble_eq_true rfl⟩ hcI hP hD hS hl.1 (Nat.le_of_ble_eq_true rfl) dL_law_197 ⟨show cells + 1 ≤ 600000 by omega, show slots + 2 ≤ 7302250 by omega⟩ _ _ _ _ (fun x1 f1 n1 j1 net1 w H locs hx1 hcI hP hD hS => ?_)
  refine lv_aload_n hC.1 hC.2.1 dL_law_200 rfl (lv_at hl 2 rfl) ?_
  refine la_arg (j := 1) h hS hl (by decide) dL_law_201 dL_law_202 dL_law_203 dL_law_204 dL_law_205 (by omega) ?_
  refine la_arg (j := 2) h hS hl (by decide) dL_law_206 dL_law_207 dL_law_208 dL_law_209 dL_law_210 (by omega) ?_
  refine la_arg (j := 3) h hS hl (by decide) dL_law_211 dL_law_212 dL_law_213 dL_law_214 dL_law_215 (by omega) ?_
  refine la_arg (j := 4) h hS hl (by decide) dL_law_216 dL_law_217 dL_law_218 dL_law_219 dL_law_220 (by omega) ?_
  refine lm_net hC hK hA kw_830 ⟨Nat.le_of_ble_eq_true rfl, Nat.le_of_ble_eq_true rfl⟩ hmS hn3 hcn hP hD hS hl.1 (Nat.le_of_ble_eq_true rfl) dL_law_221 ⟨show cells + 1 + 0 ≤ 600000 by omega, show slots + 2 + 0 ≤ 7302250 by omega⟩ _ _ _ _ (fun x2 f2 n2 j2 net2 M H locs hx2 hmS hP hD hS => ?_)
  obtain ⟨rfl, rfl, rfl, rfl, rfl⟩ := ntQ_one hx1 hx2
  exact lv_icmp_eq (tgt := 1164) hC.1 hC.2.1 dL_law_224 (by decide) (fun _ => W.widen (by omega) (by omega) (kk _ _ ⟨_, _, _, _, _, _, _, _, _, _, _, _, hcI, hmS, hP, hD⟩ hS)) (fun h8 => absurd rfl h8)
set_option maxRecDepth 20000 in
set_option maxHeartbeats 1000000 in
theorem lo_ofPerson (h : LH p s m meth c args E A b L xs) (hi : i + 6 ≤ L) (hn3 : nt + 64 < 2 ^ 31) (hI : INV E A co ad nt H) (hS : va_S A s.heap H locs) (hl : LV ls b co (ad 0) i) (hce : cells + 2 ≤ 600000) (hsl : slots + 62 ≤ 7302250)
    (kk : ∀ (H1 : Heap) (locs1 : List Loc), INV E A co ad (nt + 64) H1 → va_S A s.heap H1 locs1 → W p l e room_1 s m args below meth c H1 locs1 (cells + 2) (slots + 62) Q (F0 m 1164 ls [])) : W p l e room_1 s m args below meth c H locs cells slots Q (F0 m 229 ls []) := by
  have h9 := h; obtain ⟨hC, hK, hA, hX, hbl, hbA, hL⟩ := h9
  obtain ⟨n, k, net, cP, cQ, fl, tr, X2, X4, F3, w, M, hcI, hmS, hP, hD⟩ := hI
  have hcn := CI_cpn hcI
  refine lv_aload_n hC.1 hC.2.1 dL_law_229 rfl (lv_at hl 1 rfl) ?_
  refine la_arg (j := 1) h hS hl (by decide) dL_law_230 dL_law_231 dL_law_232 dL_law_233 dL_law_234 (by omega) ?_
  refine la_arg (j := 2) h hS hl (by decide) dL_law_235 dL_law_236 dL_law_237 dL_law_238 dL_law_239 (by omega) ?_
  refine lx_ofPerson hC hK hA kw_226 ⟨Nat.le_of_ble_eq_true rfl, Nat.le_of_ble_eq_true rfl⟩ hcI hP hD hS hl.1 (Nat.le_of_ble_eq_true rfl) dL_law_240 ⟨show cells + 0 ≤ 600000 by omega, show slots + 0 ≤ 7302250 by omega⟩ _ _ ?_
  refine lv_aload_n hC.1 hC.2.1 dL_law_243 rfl (lv_at hl 2 rfl) ?_
  refine la_arg (j := 1) h hS hl (by decide) dL_law_244 dL_law_245 dL_law_246 dL_law_247 dL_law_248 (by omega) ?_
  refine la_arg (j := 2) h hS hl (by decide) dL_law_249 dL_law_250 dL_law_251 dL_law_252 dL_law_253 (by omega) ?_
  refine lm_ofPerson hC hK hA kw_854 ⟨Nat.le_of_ble_eq_true rfl, Nat.le_of_ble_eq_true rfl⟩ hmS hn3 hcn hP hD hS hl.1 (Nat.le_of_ble_eq_true rfl) dL_law_254 ⟨show cells + 0 ≤ 600000 by omega, show slots + 0 ≤ 7302250 by omega⟩ _ _ ?_
  exact lv_icmp_eq (tgt := 1164) hC.1 hC.2.1 dL_law_257 (by decide) (fun _ => W.widen (by omega) (by omega) (kk _ _ ⟨_, _, _, _, _, _, _, _, _, _, _, _, hcI, (hmS.up (by omega)), hP, hD⟩ hS)) (fun h8 => absurd rfl h8)
set_option maxRecDepth 20000 in
set_option maxHeartbeats 1000000 in
theorem lo_call (h : LH p s m meth c args E A b L xs) (hi : i + 6 ≤ L) (hn3 : nt + 64 < 2 ^ 31) (hI : INV E A co ad nt H) (hS : va_S A s.heap H locs) (hl : LV ls b co (ad 0) i) (hce : cells + 2 ≤ 600000) (hsl : slots + 62 ≤ 7302250)
    (kk : ∀ (H1 : Heap) (locs1 : List Loc), INV E A co ad (nt + 64) H1 → va_S A s.heap H1 locs1 → W p l e room_1 s m args below meth c H1 locs1 (cells + 2) (slots + 62) Q (F0 m 1164 ls [])) : W p l e room_1 s m args below meth c H locs cells slots Q (F0 m 262 ls []) := by
  have h9 := h; obtain ⟨hC, hK, hA, hX, hbl, hbA, hL⟩ := h9
  obtain ⟨n, k, net, cP, cQ, fl, tr, X2, X4, F3, w, M, hcI, hmS, hP, hD⟩ := hI
  have hcn := CI_cpn hcI
  refine lv_aload_n hC.1 hC.2.1 dL_law_262 rfl (lv_at hl 1 rfl) ?_
  refine la_arg (j := 1) h hS hl (by decide) dL_law_263 dL_law_264 dL_law_265 dL_law_266 dL_law_267 (by omega) ?_
  refine la_arg (j := 2) h hS hl (by decide) dL_law_268 dL_law_269 dL_law_270 dL_law_271 dL_law_272 (by omega) ?_
  refine lx_call hC hK hA kw_257 ⟨Nat.le_of_ble_eq_true rfl, Nat.le_of_ble_eq_true rfl⟩ hcI hP hD hS hl.1 (Nat.le_of_ble_eq_true rfl) dL_law_273 ⟨show cells + 1 ≤ 600000 by omega, show slots + 5 ≤ 7302250 by omega⟩ _ _ (fun w H locs hcI hP hD hS => ?_)
  refine lv_aload_n hC.1 hC.2.1 dL_law_276 rfl (lv_at hl 2 rfl) ?_
  refine la_arg (j := 1) h hS hl (by decide) dL_law_277 dL_law_278 dL_law_279 dL_law_280 dL_law_281 (by omega) ?_
  refine la_arg (j := 2) h hS hl (by decide) dL_law_282 dL_law_283 dL_law_284 dL_law_285 dL_law_286 (by omega) ?_
  refine lm_call hC hK hA kw_887 ⟨Nat.le_of_ble_eq_true rfl, Nat.le_of_ble_eq_true rfl⟩ hmS hn3 hcn hP hD hS hl.1 (Nat.le_of_ble_eq_true rfl) dL_law_287 ⟨show cells + 1 + 0 ≤ 600000 by omega, show slots + 5 + 0 ≤ 7302250 by omega⟩ _ _ (fun M H locs hmS hP hD hS => ?_)
  exact lv_icmp_eq (tgt := 1164) hC.1 hC.2.1 dL_law_290 (by decide) (fun _ => W.widen (by omega) (by omega) (kk _ _ ⟨_, _, _, _, _, _, _, _, _, _, _, _, hcI, hmS, hP, hD⟩ hS)) (fun h8 => absurd rfl h8)
set_option maxRecDepth 20000 in
set_option maxHeartbeats 1000000 in
theorem lo_ofCall (h : LH p s m meth c args E A b L xs) (hi : i + 6 ≤ L) (hn3 : nt + 64 < 2 ^ 31) (hI : INV E A co ad nt H) (hS : va_S A s.heap H locs) (hl : LV ls b co (ad 0) i) (hce : cells + 2 ≤ 600000) (hsl : slots + 62 ≤ 7302250)
    (kk : ∀ (H1 : Heap) (locs1 : List Loc), INV E A co ad (nt + 64) H1 → va_S A s.heap H1 locs1 → W p l e room_1 s m args below meth c H1 locs1 (cells + 2) (slots + 62) Q (F0 m 1164 ls [])) : W p l e room_1 s m args below meth c H locs cells slots Q (F0 m 295 ls []) := by
  have h9 := h; obtain ⟨hC, hK, hA, hX, hbl, hbA, hL⟩ := h9
  obtain ⟨n, k, net, cP, cQ, fl, tr, X2, X4, F3, w, M, hcI, hmS, hP, hD⟩ := hI
  have hcn := CI_cpn hcI
  refine lv_aload_n hC.1 hC.2.1 dL_law_295 rfl (lv_at hl 1 rfl) ?_
  refine la_arg (j := 1) h hS hl (by decide) dL_law_296 dL_law_297 dL_law_298 dL_law_299 dL_law_300 (by omega) ?_
  refine la_arg (j := 2) h hS hl (by decide) dL_law_301 dL_law_302 dL_law_303 dL_law_304 dL_law_305 (by omega) ?_
  refine lx_ofCall hC hK hA kw_329 ⟨Nat.le_of_ble_eq_true rfl, Nat.le_of_ble_eq_true rfl⟩ hcI hP hD hS hl.1 (Nat.le_of_ble_eq_true rfl) dL_law_306 ⟨show cells + 0 ≤ 600000 by omega, show slots + 0 ≤ 7302250 by omega⟩ _ _ ?_
  refine lv_aload_n hC.1 hC.2.1 dL_law_309 rfl (lv_at hl 2 rfl) ?_
  refine la_arg (j := 1) h hS hl (by decide) dL_law_310 dL_law_311 dL_law_312 dL_law_313 dL_law_314 (by omega) ?_
  refine la_arg (j := 2) h hS hl (by decide) dL_law_315 dL_law_316 dL_law_317 dL_law_318 dL_law_319 (by omega) ?_
  refine lm_ofCall hC hK hA kw_891 ⟨Nat.le_of_ble_eq_true rfl, Nat.le_of_ble_eq_true rfl⟩ hmS hn3 hcn hP hD hS hl.1 (Nat.le_of_ble_eq_true rfl) dL_law_320 ⟨show cells + 0 ≤ 600000 by omega, show slots + 0 ≤ 7302250 by omega⟩ _ _ ?_
  exact lv_icmp_eq (tgt := 1164) hC.1 hC.2.1 dL_law_323 (by decide) (fun _ => W.widen (by omega) (by omega) (kk _ _ ⟨_, _, _, _, _, _, _, _, _, _, _, _, hcI, (hmS.up (by omega)), hP, hD⟩ hS)) (fun h8 => absurd rfl h8)
set_option maxRecDepth 20000 in
set_option maxHeartbeats 1000000 in
theorem lo_back (h : LH p s m meth c args E A b L xs) (hi : i + 6 ≤ L) (hn3 : nt + 64 < 2 ^ 31) (hI : INV E A co ad nt H) (hS : va_S A s.heap H locs) (hl : LV ls b co (ad 0) i) (hce : cells + 2 ≤ 600000) (hsl : slots + 62 ≤ 7302250)
    (kk : ∀ (H1 : Heap) (locs1 : List Loc), INV E A co ad (nt + 64) H1 → va_S A s.heap H1 locs1 → W p l e room_1 s m args below meth c H1 locs1 (cells + 2) (slots + 62) Q (F0 m 1164 ls [])) : W p l e room_1 s m args below meth c H locs cells slots Q (F0 m 328 ls []) := by
  have h9 := h; obtain ⟨hC, hK, hA, hX, hbl, hbA, hL⟩ := h9
  obtain ⟨n, k, net, cP, cQ, fl, tr, X2, X4, F3, w, M, hcI, hmS, hP, hD⟩ := hI
  have hcn := CI_cpn hcI
  refine lv_aload_n hC.1 hC.2.1 dL_law_328 rfl (lv_at hl 1 rfl) ?_
  refine lx_back hC hK hA kw_356 ⟨Nat.le_of_ble_eq_true rfl, Nat.le_of_ble_eq_true rfl⟩ hcI hP hD hS hl.1 (Nat.le_of_ble_eq_true rfl) dL_law_329 ⟨show cells + 0 ≤ 600000 by omega, show slots + 0 ≤ 7302250 by omega⟩  (fun w H locs hcI hP hD hS => ?_)
  refine lv_aload_n hC.1 hC.2.1 dL_law_332 rfl (lv_at hl 2 rfl) ?_
  refine lm_back hC hK hA kw_910 ⟨Nat.le_of_ble_eq_true rfl, Nat.le_of_ble_eq_true rfl⟩ hmS hn3 hcn hP hD hS hl.1 (Nat.le_of_ble_eq_true rfl) dL_law_333 ⟨show cells + 0 + 0 ≤ 600000 by omega, show slots + 0 + 0 ≤ 7302250 by omega⟩  (fun M H locs hmS hP hD hS => ?_)
  exact lv_icmp_eq (tgt := 1164) hC.1 hC.2.1 dL_law_336 (by decide) (fun _ => W.widen (by omega) (by omega) (kk _ _ ⟨_, _, _, _, _, _, _, _, _, _, _, _, hcI, hmS, hP, hD⟩ hS)) (fun h8 => absurd rfl h8)
set_option maxRecDepth 20000 in
set_option maxHeartbeats 1000000 in
theorem lo_may (h : LH p s m meth c args E A b L xs) (hi : i + 6 ≤ L) (hn3 : nt + 64 < 2 ^ 31) (hI : INV E A co ad nt H) (hS : va_S A s.heap H locs) (hl : LV ls b co (ad 0) i) (hce : cells + 2 ≤ 600000) (hsl : slots + 62 ≤ 7302250)
    (kk : ∀ (H1 : Heap) (locs1 : List Loc), INV E A co ad (nt + 64) H1 → va_S A s.heap H1 locs1 → W p l e room_1 s m args below meth c H1 locs1 (cells + 2) (slots + 62) Q (F0 m 1164 ls [])) : W p l e room_1 s m args below meth c H locs cells slots Q (F0 m 341 ls []) := by
  have h9 := h; obtain ⟨hC, hK, hA, hX, hbl, hbA, hL⟩ := h9
  obtain ⟨n, k, net, cP, cQ, fl, tr, X2, X4, F3, w, M, hcI, hmS, hP, hD⟩ := hI
  have hcn := CI_cpn hcI
  refine lv_aload_n hC.1 hC.2.1 dL_law_341 rfl (lv_at hl 1 rfl) ?_
  refine la_arg (j := 1) h hS hl (by decide) dL_law_342 dL_law_343 dL_law_344 dL_law_345 dL_law_346 (by omega) ?_
  refine la_arg (j := 2) h hS hl (by decide) dL_law_347 dL_law_348 dL_law_349 dL_law_350 dL_law_351 (by omega) ?_
  refine lx_may hC hK hA kw_360 ⟨Nat.le_of_ble_eq_true rfl, Nat.le_of_ble_eq_true rfl⟩ hcI hP hD hS hl.1 (Nat.le_of_ble_eq_true rfl) dL_law_352 ⟨show cells + 0 ≤ 600000 by omega, show slots + 0 ≤ 7302250 by omega⟩ _ _ ?_
  refine lv_aload_n hC.1 hC.2.1 dL_law_355 rfl (lv_at hl 2 rfl) ?_
  refine la_arg (j := 1) h hS hl (by decide) dL_law_356 dL_law_357 dL_law_358 dL_law_359 dL_law_360 (by omega) ?_
  refine la_arg (j := 2) h hS hl (by decide) dL_law_361 dL_law_362 dL_law_363 dL_law_364 dL_law_365 (by omega) ?_
  refine lm_may hC hK hA kw_914 ⟨Nat.le_of_ble_eq_true rfl, Nat.le_of_ble_eq_true rfl⟩ hmS hn3 hcn hP hD hS hl.1 (Nat.le_of_ble_eq_true rfl) dL_law_366 ⟨show cells + 0 ≤ 600000 by omega, show slots + 0 ≤ 7302250 by omega⟩ _ _ ?_
  exact lv_icmp_eq (tgt := 1164) hC.1 hC.2.1 dL_law_369 (by decide) (fun _ => W.widen (by omega) (by omega) (kk _ _ ⟨_, _, _, _, _, _, _, _, _, _, _, _, hcI, (hmS.up (by omega)), hP, hD⟩ hS)) (fun h8 => absurd rfl h8)
set_option maxRecDepth 20000 in
set_option maxHeartbeats 1000000 in
theorem lo_runs (h : LH p s m meth c args E A b L xs) (hi : i + 6 ≤ L) (hn3 : nt + 64 < 2 ^ 31) (hI : INV E A co ad nt H) (hS : va_S A s.heap H locs) (hl : LV ls b co (ad 0) i) (hce : cells + 2 ≤ 600000) (hsl : slots + 62 ≤ 7302250)
    (kk : ∀ (H1 : Heap) (locs1 : List Loc), INV E A co ad (nt + 64) H1 → va_S A s.heap H1 locs1 → W p l e room_1 s m args below meth c H1 locs1 (cells + 2) (slots + 62) Q (F0 m 1164 ls [])) : W p l e room_1 s m args below meth c H locs cells slots Q (F0 m 374 ls []) := by
  have h9 := h; obtain ⟨hC, hK, hA, hX, hbl, hbA, hL⟩ := h9
  obtain ⟨n, k, net, cP, cQ, fl, tr, X2, X4, F3, w, M, hcI, hmS, hP, hD⟩ := hI
  have hcn := CI_cpn hcI
  refine lv_aload_n hC.1 hC.2.1 dL_law_374 rfl (lv_at hl 1 rfl) ?_
  refine la_arg (j := 1) h hS hl (by decide) dL_law_375 dL_law_376 dL_law_377 dL_law_378 dL_law_379 (by omega) ?_
  refine la_arg (j := 2) h hS hl (by decide) dL_law_380 dL_law_381 dL_law_382 dL_law_383 dL_law_384 (by omega) ?_
  refine lx_runs hC hK hA kw_373 ⟨Nat.le_of_ble_eq_true rfl, Nat.le_of_ble_eq_true rfl⟩ hcI hP hD hS hl.1 (Nat.le_of_ble_eq_true rfl) dL_law_385 ⟨show cells + 0 ≤ 600000 by omega, show slots + 0 ≤ 7302250 by omega⟩ _ _ (fun w H locs hcI hP hD hS => ?_)
  refine lv_aload_n hC.1 hC.2.1 dL_law_388 rfl (lv_at hl 2 rfl) ?_
  refine la_arg (j := 1) h hS hl (by decide) dL_law_389 dL_law_390 dL_law_391 dL_law_392 dL_law_393 (by omega) ?_
  refine la_arg (j := 2) h hS hl (by decide) dL_law_394 dL_law_395 dL_law_396 dL_law_397 dL_law_398 (by omega) ?_
  refine lm_runs hC hK hA kw_924 ⟨Nat.le_of_ble_eq_true rfl, Nat.le_of_ble_eq_true rfl⟩ hmS hn3 hcn hP hD hS hl.1 (Nat.le_of_ble_eq_true rfl) dL_law_399 ⟨show cells + 0 + 0 ≤ 600000 by omega, show slots + 0 + 0 ≤ 7302250 by omega⟩ _ _ (fun M H locs hmS hP hD hS => ?_)
  refine W.lcmp hC.1 hC.2.1 dL_law_402 ?_
  rw [lg_same]
  exact lv_if_eq (tgt := 1164) hC.1 hC.2.1 dL_law_403 (by decide) (fun _ => W.widen (by omega) (by omega) (kk _ _ ⟨_, _, _, _, _, _, _, _, _, _, _, _, hcI, hmS, hP, hD⟩ hS)) (fun h8 => absurd rfl h8)
set_option maxRecDepth 20000 in
set_option maxHeartbeats 1000000 in
theorem lo_verdict (h : LH p s m meth c args E A b L xs) (hi : i + 6 ≤ L) (hn3 : nt + 64 < 2 ^ 31) (hI : INV E A co ad nt H) (hS : va_S A s.heap H locs) (hl : LV ls b co (ad 0) i) (hce : cells + 2 ≤ 600000) (hsl : slots + 62 ≤ 7302250)
    (kk : ∀ (H1 : Heap) (locs1 : List Loc), INV E A co ad (nt + 64) H1 → va_S A s.heap H1 locs1 → W p l e room_1 s m args below meth c H1 locs1 (cells + 2) (slots + 62) Q (F0 m 1164 ls [])) : W p l e room_1 s m args below meth c H locs cells slots Q (F0 m 408 ls []) := by
  have h9 := h; obtain ⟨hC, hK, hA, hX, hbl, hbA, hL⟩ := h9
  obtain ⟨n, k, net, cP, cQ, fl, tr, X2, X4, F3, w, M, hcI, hmS, hP, hD⟩ := hI
  have hcn := CI_cpn hcI
  refine lv_aload_n hC.1 hC.2.1 dL_law_408 rfl (lv_at hl 1 rfl) ?_
  refine la_arg (j := 1) h hS hl (by decide) dL_law_409 dL_law_410 dL_law_411 dL_law_412 dL_law_413 (by omega) ?_
  refine lx_verdict hC hK hA kw_451 ⟨Nat.le_of_ble_eq_true rfl, Nat.le_of_ble_eq_true rfl⟩ hcI hP hD hS hl.1 (Nat.le_of_ble_eq_true rfl) dL_law_414 ⟨show cells + 0 ≤ 600000 by omega, show slots + 0 ≤ 7302250 by omega⟩ _ (fun w H locs hcI hP hD hS => ?_)
  refine lv_aload_n hC.1 hC.2.1 dL_law_417 rfl (lv_at hl 2 rfl) ?_
  refine la_arg (j := 1) h hS hl (by decide) dL_law_418 dL_law_419 dL_law_420 dL_law_421 dL_law_422 (by omega) ?_
  refine lm_verdict hC hK hA kw_961 ⟨Nat.le_of_ble_eq_true rfl, Nat.le_of_ble_eq_true rfl⟩ hmS hn3 hcn hP hD hS hl.1 (Nat.le_of_ble_eq_true rfl) dL_law_423 ⟨show cells + 0 + 0 ≤ 600000 by omega, show slots + 0 + 0 ≤ 7302250 by omega⟩ _ (fun M H locs hmS hP hD hS => ?_)
  exact lv_icmp_eq (tgt := 1164) hC.1 hC.2.1 dL_law_426 (by decide) (fun _ => W.widen (by omega) (by omega) (kk _ _ ⟨_, _, _, _, _, _, _, _, _, _, _, _, hcI, hmS, hP, hD⟩ hS)) (fun h8 => absurd rfl h8)
set_option maxRecDepth 20000 in
set_option maxHeartbeats 1000000 in
theorem lo_calls (h : LH p s m meth c args E A b L xs) (hi : i + 6 ≤ L) (hn3 : nt + 64 < 2 ^ 31) (hI : INV E A co ad nt H) (hS : va_S A s.heap H locs) (hl : LV ls b co (ad 0) i) (hce : cells + 2 ≤ 600000) (hsl : slots + 62 ≤ 7302250)
    (kk : ∀ (H1 : Heap) (locs1 : List Loc), INV E A co ad (nt + 64) H1 → va_S A s.heap H1 locs1 → W p l e room_1 s m args below meth c H1 locs1 (cells + 2) (slots + 62) Q (F0 m 1164 ls [])) : W p l e room_1 s m args below meth c H locs cells slots Q (F0 m 431 ls []) := by
  have h9 := h; obtain ⟨hC, hK, hA, hX, hbl, hbA, hL⟩ := h9
  obtain ⟨n, k, net, cP, cQ, fl, tr, X2, X4, F3, w, M, hcI, hmS, hP, hD⟩ := hI
  have hcn := CI_cpn hcI
  refine lv_aload_n hC.1 hC.2.1 dL_law_431 rfl (lv_at hl 1 rfl) ?_
  refine la_arg (j := 1) h hS hl (by decide) dL_law_432 dL_law_433 dL_law_434 dL_law_435 dL_law_436 (by omega) ?_
  refine la_arg (j := 2) h hS hl (by decide) dL_law_437 dL_law_438 dL_law_439 dL_law_440 dL_law_441 (by omega) ?_
  refine lx_calls hC hK hA kw_459 ⟨Nat.le_of_ble_eq_true rfl, Nat.le_of_ble_eq_true rfl⟩ hcI hP hD hS hl.1 (Nat.le_of_ble_eq_true rfl) dL_law_442 ⟨show cells + 0 ≤ 600000 by omega, show slots + 0 ≤ 7302250 by omega⟩ _ _ (fun w H locs hcI hP hD hS => ?_)
  refine lv_aload_n hC.1 hC.2.1 dL_law_445 rfl (lv_at hl 2 rfl) ?_
  refine la_arg (j := 1) h hS hl (by decide) dL_law_446 dL_law_447 dL_law_448 dL_law_449 dL_law_450 (by omega) ?_
  refine la_arg (j := 2) h hS hl (by decide) dL_law_451 dL_law_452 dL_law_453 dL_law_454 dL_law_455 (by omega) ?_
  refine lm_calls hC hK hA kw_969 ⟨Nat.le_of_ble_eq_true rfl, Nat.le_of_ble_eq_true rfl⟩ hmS hn3 hcn hP hD hS hl.1 (Nat.le_of_ble_eq_true rfl) dL_law_456 ⟨show cells + 0 + 0 ≤ 600000 by omega, show slots + 0 + 0 ≤ 7302250 by omega⟩ _ _ (fun M H locs hmS hP hD hS => ?_)
  exact lv_icmp_eq (tgt := 1164) hC.1 hC.2.1 dL_law_459 (by decide) (fun _ => W.widen (by omega) (by omega) (kk _ _ ⟨_, _, _, _, _, _, _, _, _, _, _, _, hcI, hmS, hP, hD⟩ hS)) (fun h8 => absurd rfl h8)
set_option maxRecDepth 20000 in
set_option maxHeartbeats 1000000 in
theorem lo_keeps (h : LH p s m meth c args E A b L xs) (hi : i + 6 ≤ L) (hn3 : nt + 64 < 2 ^ 31) (hI : INV E A co ad nt H) (hS : va_S A s.heap H locs) (hl : LV ls b co (ad 0) i) (hce : cells + 2 ≤ 600000) (hsl : slots + 62 ≤ 7302250)
    (kk : ∀ (H1 : Heap) (locs1 : List Loc), INV E A co ad (nt + 64) H1 → va_S A s.heap H1 locs1 → W p l e room_1 s m args below meth c H1 locs1 (cells + 2) (slots + 62) Q (F0 m 1164 ls [])) : W p l e room_1 s m args below meth c H locs cells slots Q (F0 m 464 ls []) := by
  have h9 := h; obtain ⟨hC, hK, hA, hX, hbl, hbA, hL⟩ := h9
  obtain ⟨n, k, net, cP, cQ, fl, tr, X2, X4, F3, w, M, hcI, hmS, hP, hD⟩ := hI
  have hcn := CI_cpn hcI
  refine lv_aload_n hC.1 hC.2.1 dL_law_464 rfl (lv_at hl 1 rfl) ?_
  refine la_arg (j := 1) h hS hl (by decide) dL_law_465 dL_law_466 dL_law_467 dL_law_468 dL_law_469 (by omega) ?_
  refine la_arg (j := 2) h hS hl (by decide) dL_law_470 dL_law_471 dL_law_472 dL_law_473 dL_law_474 (by omega) ?_
  refine la_arg (j := 3) h hS hl (by decide) dL_law_475 dL_law_476 dL_law_477 dL_law_478 dL_law_479 (by omega) ?_
  refine lx_keeps hC hK hA kw_471 ⟨Nat.le_of_ble_eq_true rfl, Nat.le_of_ble_eq_true rfl⟩ hcI hP hD hS hl.1 (Nat.le_of_ble_eq_true rfl) dL_law_480 ⟨show cells + 0 ≤ 600000 by omega, show slots + 0 ≤ 7302250 by omega⟩ _ _ _ (fun w H locs hcI hP hD hS => ?_)
  refine lv_aload_n hC.1 hC.2.1 dL_law_483 rfl (lv_at hl 2 rfl) ?_
  refine la_arg (j := 1) h hS hl (by decide) dL_law_484 dL_law_485 dL_law_486 dL_law_487 dL_law_488 (by omega) ?_
  refine la_arg (j := 2) h hS hl (by decide) dL_law_489 dL_law_490 dL_law_491 dL_law_492 dL_law_493 (by omega) ?_
  refine la_arg (j := 3) h hS hl (by decide) dL_law_494 dL_law_495 dL_law_496 dL_law_497 dL_law_498 (by omega) ?_
  refine lm_keeps hC hK hA kw_973 ⟨Nat.le_of_ble_eq_true rfl, Nat.le_of_ble_eq_true rfl⟩ hmS hn3 hcn hP hD hS hl.1 (Nat.le_of_ble_eq_true rfl) dL_law_499 ⟨show cells + 0 + 0 ≤ 600000 by omega, show slots + 0 + 0 ≤ 7302250 by omega⟩ _ _ _ (fun M H locs hmS hP hD hS => ?_)
  exact lv_icmp_eq (tgt := 1164) hC.1 hC.2.1 dL_law_502 (by decide) (fun _ => W.widen (by omega) (by omega) (kk _ _ ⟨_, _, _, _, _, _, _, _, _, _, _, _, hcI, hmS, hP, hD⟩ hS)) (fun h8 => absurd rfl h8)
set_option maxRecDepth 20000 in
set_option maxHeartbeats 1000000 in
theorem lo_best (h : LH p s m meth c args E A b L xs) (hi : i + 6 ≤ L) (hn3 : nt + 64 < 2 ^ 31) (hI : INV E A co ad nt H) (hS : va_S A s.heap H locs) (hl : LV ls b co (ad 0) i) (hce : cells + 2 ≤ 600000) (hsl : slots + 62 ≤ 7302250)
    (kk : ∀ (H1 : Heap) (locs1 : List Loc), INV E A co ad (nt + 64) H1 → va_S A s.heap H1 locs1 → W p l e room_1 s m args below meth c H1 locs1 (cells + 2) (slots + 62) Q (F0 m 1164 ls [])) : W p l e room_1 s m args below meth c H locs cells slots Q (F0 m 507 ls []) := by
  have h9 := h; obtain ⟨hC, hK, hA, hX, hbl, hbA, hL⟩ := h9
  obtain ⟨n, k, net, cP, cQ, fl, tr, X2, X4, F3, w, M, hcI, hmS, hP, hD⟩ := hI
  have hcn := CI_cpn hcI
  refine lv_aload_n hC.1 hC.2.1 dL_law_507 rfl (lv_at hl 1 rfl) ?_
  refine la_arg (j := 1) h hS hl (by decide) dL_law_508 dL_law_509 dL_law_510 dL_law_511 dL_law_512 (by omega) ?_
  refine la_arg (j := 2) h hS hl (by decide) dL_law_513 dL_law_514 dL_law_515 dL_law_516 dL_law_517 (by omega) ?_
  refine lx_best hC hK hA kw_475 ⟨Nat.le_of_ble_eq_true rfl, Nat.le_of_ble_eq_true rfl⟩ hcI hP hD hS hl.1 (Nat.le_of_ble_eq_true rfl) dL_law_518 ⟨show cells + 0 ≤ 600000 by omega, show slots + 0 ≤ 7302250 by omega⟩ _ _ (fun x1 w H locs hx1 hcI hP hD hS => ?_)
  refine lv_aload_n hC.1 hC.2.1 dL_law_521 rfl (lv_at hl 2 rfl) ?_
  refine la_arg (j := 1) h hS hl (by decide) dL_law_522 dL_law_523 dL_law_524 dL_law_525 dL_law_526 (by omega) ?_
  refine la_arg (j := 2) h hS hl (by decide) dL_law_527 dL_law_528 dL_law_529 dL_law_530 dL_law_531 (by omega) ?_
  refine lm_best hC hK hA kw_977 ⟨Nat.le_of_ble_eq_true rfl, Nat.le_of_ble_eq_true rfl⟩ hmS hn3 hcn hP hD hS hl.1 (Nat.le_of_ble_eq_true rfl) dL_law_532 ⟨show cells + 0 + 0 ≤ 600000 by omega, show slots + 0 + 0 ≤ 7302250 by omega⟩ _ _ (fun x2 M H locs hx2 hmS hP hD hS => ?_)
  have hxx := bestP_one hx1 hx2; subst hxx
  exact lv_icmp_eq (tgt := 1164) hC.1 hC.2.1 dL_law_535 (by decide) (fun _ => W.widen (by omega) (by omega) (kk _ _ ⟨_, _, _, _, _, _, _, _, _, _, _, _, hcI, hmS, hP, hD⟩ hS)) (fun h8 => absurd rfl h8)
set_option maxRecDepth 20000 in
set_option maxHeartbeats 1000000 in
theorem lo_alike (h : LH p s m meth c args E A b L xs) (hi : i + 6 ≤ L) (hn3 : nt + 64 < 2 ^ 31) (hI : INV E A co ad nt H) (hS : va_S A s.heap H locs) (hl : LV ls b co (ad 0) i) (hce : cells + 2 ≤ 600000) (hsl : slots + 62 ≤ 7302250)
    (kk : ∀ (H1 : Heap) (locs1 : List Loc), INV E A co ad (nt + 64) H1 → va_S A s.heap H1 locs1 → W p l e room_1 s m args below meth c H1 locs1 (cells + 2) (slots + 62) Q (F0 m 1164 ls [])) : W p l e room_1 s m args below meth c H locs cells slots Q (F0 m 540 ls []) := by
  have h9 := h; obtain ⟨hC, hK, hA, hX, hbl, hbA, hL⟩ := h9
  obtain ⟨n, k, net, cP, cQ, fl, tr, X2, X4, F3, w, M, hcI, hmS, hP, hD⟩ := hI
  have hcn := CI_cpn hcI
  refine lv_aload_n hC.1 hC.2.1 dL_law_540 rfl (lv_at hl 1 rfl) ?_
  refine la_arg (j := 1) h hS hl (by decide) dL_law_541 dL_law_542 dL_law_543 dL_law_544 dL_law_545 (by omega) ?_
  refine lx_alike hC hK hA kw_491 ⟨Nat.le_of_ble_eq_true rfl, Nat.le_of_ble_eq_true rfl⟩ hcI hP hD hS hl.1 (Nat.le_of_ble_eq_true rfl) dL_law_546 ⟨show cells + 0 ≤ 600000 by omega, show slots + 0 ≤ 7302250 by omega⟩ _ (fun w H locs hcI hP hD hS => ?_)
  refine lv_aload_n hC.1 hC.2.1 dL_law_549 rfl (lv_at hl 2 rfl) ?_
  refine la_arg (j := 1) h hS hl (by decide) dL_law_550 dL_law_551 dL_law_552 dL_law_553 dL_law_554 (by omega) ?_
  refine lm_alike hC hK hA kw_981 ⟨Nat.le_of_ble_eq_true rfl, Nat.le_of_ble_eq_true rfl⟩ hmS hn3 hcn hP hD hS hl.1 (Nat.le_of_ble_eq_true rfl) dL_law_555 ⟨show cells + 0 + 0 ≤ 600000 by omega, show slots + 0 + 0 ≤ 7302250 by omega⟩ _ (fun M H locs hmS hP hD hS => ?_)
  exact lv_icmp_eq (tgt := 1164) hC.1 hC.2.1 dL_law_558 (by decide) (fun _ => W.widen (by omega) (by omega) (kk _ _ ⟨_, _, _, _, _, _, _, _, _, _, _, _, hcI, hmS, hP, hD⟩ hS)) (fun h8 => absurd rfl h8)
set_option maxRecDepth 20000 in
set_option maxHeartbeats 1000000 in
theorem lo_sure (h : LH p s m meth c args E A b L xs) (hi : i + 6 ≤ L) (hn3 : nt + 64 < 2 ^ 31) (hI : INV E A co ad nt H) (hS : va_S A s.heap H locs) (hl : LV ls b co (ad 0) i) (hce : cells + 2 ≤ 600000) (hsl : slots + 62 ≤ 7302250)
    (kk : ∀ (H1 : Heap) (locs1 : List Loc), INV E A co ad (nt + 64) H1 → va_S A s.heap H1 locs1 → W p l e room_1 s m args below meth c H1 locs1 (cells + 2) (slots + 62) Q (F0 m 1164 ls [])) : W p l e room_1 s m args below meth c H locs cells slots Q (F0 m 563 ls []) := by
  have h9 := h; obtain ⟨hC, hK, hA, hX, hbl, hbA, hL⟩ := h9
  obtain ⟨n, k, net, cP, cQ, fl, tr, X2, X4, F3, w, M, hcI, hmS, hP, hD⟩ := hI
  have hcn := CI_cpn hcI
  refine lv_aload_n hC.1 hC.2.1 dL_law_563 rfl (lv_at hl 1 rfl) ?_
  refine la_arg (j := 1) h hS hl (by decide) dL_law_564 dL_law_565 dL_law_566 dL_law_567 dL_law_568 (by omega) ?_
  refine la_arg (j := 2) h hS hl (by decide) dL_law_569 dL_law_570 dL_law_571 dL_law_572 dL_law_573 (by omega) ?_
  refine la_arg (j := 3) h hS hl (by decide) dL_law_574 dL_law_575 dL_law_576 dL_law_577 dL_law_578 (by omega) ?_
  refine lx_sure hC hK hA kw_519 ⟨Nat.le_of_ble_eq_true rfl, Nat.le_of_ble_eq_true rfl⟩ hcI hP hD hS hl.1 (Nat.le_of_ble_eq_true rfl) dL_law_579 ⟨show cells + 0 ≤ 600000 by omega, show slots + 0 ≤ 7302250 by omega⟩ _ _ _ (fun w H locs hcI hP hD hS => ?_)
  refine lv_aload_n hC.1 hC.2.1 dL_law_582 rfl (lv_at hl 2 rfl) ?_
  refine la_arg (j := 1) h hS hl (by decide) dL_law_583 dL_law_584 dL_law_585 dL_law_586 dL_law_587 (by omega) ?_
  refine la_arg (j := 2) h hS hl (by decide) dL_law_588 dL_law_589 dL_law_590 dL_law_591 dL_law_592 (by omega) ?_
  refine la_arg (j := 3) h hS hl (by decide) dL_law_593 dL_law_594 dL_law_595 dL_law_596 dL_law_597 (by omega) ?_
  refine lm_sure hC hK hA kw_997 ⟨Nat.le_of_ble_eq_true rfl, Nat.le_of_ble_eq_true rfl⟩ hmS hn3 hcn hP hD hS hl.1 (Nat.le_of_ble_eq_true rfl) dL_law_598 ⟨show cells + 0 + 0 ≤ 600000 by omega, show slots + 0 + 0 ≤ 7302250 by omega⟩ _ _ _ (fun M H locs hmS hP hD hS => ?_)
  exact lv_icmp_eq (tgt := 1164) hC.1 hC.2.1 dL_law_601 (by decide) (fun _ => W.widen (by omega) (by omega) (kk _ _ ⟨_, _, _, _, _, _, _, _, _, _, _, _, hcI, hmS, hP, hD⟩ hS)) (fun h8 => absurd rfl h8)
set_option maxRecDepth 20000 in
set_option maxHeartbeats 1000000 in
theorem lo_known (h : LH p s m meth c args E A b L xs) (hi : i + 6 ≤ L) (hn3 : nt + 64 < 2 ^ 31) (hI : INV E A co ad nt H) (hS : va_S A s.heap H locs) (hl : LV ls b co (ad 0) i) (hce : cells + 2 ≤ 600000) (hsl : slots + 62 ≤ 7302250)
    (kk : ∀ (H1 : Heap) (locs1 : List Loc), INV E A co ad (nt + 64) H1 → va_S A s.heap H1 locs1 → W p l e room_1 s m args below meth c H1 locs1 (cells + 2) (slots + 62) Q (F0 m 1164 ls [])) : W p l e room_1 s m args below meth c H locs cells slots Q (F0 m 606 ls []) := by
  have h9 := h; obtain ⟨hC, hK, hA, hX, hbl, hbA, hL⟩ := h9
  obtain ⟨n, k, net, cP, cQ, fl, tr, X2, X4, F3, w, M, hcI, hmS, hP, hD⟩ := hI
  have hcn := CI_cpn hcI
  refine lv_aload_n hC.1 hC.2.1 dL_law_606 rfl (lv_at hl 1 rfl) ?_
  refine la_arg (j := 1) h hS hl (by decide) dL_law_607 dL_law_608 dL_law_609 dL_law_610 dL_law_611 (by omega) ?_
  refine la_arg (j := 2) h hS hl (by decide) dL_law_612 dL_law_613 dL_law_614 dL_law_615 dL_law_616 (by omega) ?_
  refine lx_known hC hK hA kw_534 ⟨Nat.le_of_ble_eq_true rfl, Nat.le_of_ble_eq_true rfl⟩ hcI hP hD hS hl.1 (Nat.le_of_ble_eq_true rfl) dL_law_617 ⟨show cells + 0 ≤ 600000 by omega, show slots + 0 ≤ 7302250 by omega⟩ _ _ (fun w H locs hcI hP hD hS => ?_)
  refine lv_aload_n hC.1 hC.2.1 dL_law_620 rfl (lv_at hl 2 rfl) ?_
  refine la_arg (j := 1) h hS hl (by decide) dL_law_621 dL_law_622 dL_law_623 dL_law_624 dL_law_625 (by omega) ?_
  refine la_arg (j := 2) h hS hl (by decide) dL_law_626 dL_law_627 dL_law_628 dL_law_629 dL_law_630 (by omega) ?_
  refine lm_known hC hK hA kw_1001 ⟨Nat.le_of_ble_eq_true rfl, Nat.le_of_ble_eq_true rfl⟩ hmS hn3 hcn hP hD hS hl.1 (Nat.le_of_ble_eq_true rfl) dL_law_631 ⟨show cells + 0 + 0 ≤ 600000 by omega, show slots + 0 + 0 ≤ 7302250 by omega⟩ _ _ (fun M H locs hmS hP hD hS => ?_)
  exact lv_icmp_eq (tgt := 1164) hC.1 hC.2.1 dL_law_634 (by decide) (fun _ => W.widen (by omega) (by omega) (kk _ _ ⟨_, _, _, _, _, _, _, _, _, _, _, _, hcI, hmS, hP, hD⟩ hS)) (fun h8 => absurd rfl h8)
set_option maxRecDepth 20000 in
set_option maxHeartbeats 1000000 in
theorem lo_end (h : LH p s m meth c args E A b L xs) (hi : i + 6 ≤ L) (hn3 : nt + 64 < 2 ^ 31) (hI : INV E A co ad nt H) (hS : va_S A s.heap H locs) (hl : LV ls b co (ad 0) i) (hce : cells + 2 ≤ 600000) (hsl : slots + 62 ≤ 7302250)
    (kk : ∀ (H1 : Heap) (locs1 : List Loc), INV E A co ad (nt + 64) H1 → va_S A s.heap H1 locs1 → W p l e room_1 s m args below meth c H1 locs1 (cells + 2) (slots + 62) Q (F0 m 1164 ls [])) : W p l e room_1 s m args below meth c H locs cells slots Q (F0 m 639 ls []) := by
  have h9 := h; obtain ⟨hC, hK, hA, hX, hbl, hbA, hL⟩ := h9
  obtain ⟨n, k, net, cP, cQ, fl, tr, X2, X4, F3, w, M, hcI, hmS, hP, hD⟩ := hI
  have hcn := CI_cpn hcI
  refine lv_aload_n hC.1 hC.2.1 dL_law_639 rfl (lv_at hl 1 rfl) ?_
  refine la_arg (j := 1) h hS hl (by decide) dL_law_640 dL_law_641 dL_law_642 dL_law_643 dL_law_644 (by omega) ?_
  refine lx_end hC hK hA kw_538 ⟨Nat.le_of_ble_eq_true rfl, Nat.le_of_ble_eq_true rfl⟩ hcI hP hD hS hl.1 (Nat.le_of_ble_eq_true rfl) dL_law_645 ⟨show cells + 0 ≤ 600000 by omega, show slots + 0 ≤ 7302250 by omega⟩ _ (fun w H locs hcI hP hD hS => ?_)
  refine lv_aload_n hC.1 hC.2.1 dL_law_648 rfl (lv_at hl 2 rfl) ?_
  refine la_arg (j := 1) h hS hl (by decide) dL_law_649 dL_law_650 dL_law_651 dL_law_652 dL_law_653 (by omega) ?_
  refine lm_end hC hK hA kw_1005 ⟨Nat.le_of_ble_eq_true rfl, Nat.le_of_ble_eq_true rfl⟩ hmS hn3 hcn hP hD hS hl.1 (Nat.le_of_ble_eq_true rfl) dL_law_654 ⟨show cells + 0 + 0 ≤ 600000 by omega, show slots + 0 + 0 ≤ 7302250 by omega⟩ _ (fun M H locs hmS hP hD hS => ?_)
  exact lv_icmp_eq (tgt := 1164) hC.1 hC.2.1 dL_law_657 (by decide) (fun _ => W.widen (by omega) (by omega) (kk _ _ ⟨_, _, _, _, _, _, _, _, _, _, _, _, hcI, hmS, hP, hD⟩ hS)) (fun h8 => absurd rfl h8)
set_option maxRecDepth 20000 in
set_option maxHeartbeats 1000000 in
theorem lo_joined (h : LH p s m meth c args E A b L xs) (hi : i + 6 ≤ L) (hn3 : nt + 64 < 2 ^ 31) (hI : INV E A co ad nt H) (hS : va_S A s.heap H locs) (hl : LV ls b co (ad 0) i) (hce : cells + 2 ≤ 600000) (hsl : slots + 62 ≤ 7302250)
    (kk : ∀ (H1 : Heap) (locs1 : List Loc), INV E A co ad (nt + 64) H1 → va_S A s.heap H1 locs1 → W p l e room_1 s m args below meth c H1 locs1 (cells + 2) (slots + 62) Q (F0 m 1164 ls [])) : W p l e room_1 s m args below meth c H locs cells slots Q (F0 m 662 ls []) := by
  have h9 := h; obtain ⟨hC, hK, hA, hX, hbl, hbA, hL⟩ := h9
  obtain ⟨n, k, net, cP, cQ, fl, tr, X2, X4, F3, w, M, hcI, hmS, hP, hD⟩ := hI
  have hcn := CI_cpn hcI
  refine lv_aload_n hC.1 hC.2.1 dL_law_662 rfl (lv_at hl 1 rfl) ?_
  refine lx_joined hC hK hA kw_543 ⟨Nat.le_of_ble_eq_true rfl, Nat.le_of_ble_eq_true rfl⟩ hcI hP hD hS hl.1 (Nat.le_of_ble_eq_true rfl) dL_law_663 ⟨show cells + 0 ≤ 600000 by omega, show slots + 0 ≤ 7302250 by omega⟩  ?_
  refine lv_aload_n hC.1 hC.2.1 dL_law_666 rfl (lv_at hl 2 rfl) ?_
  refine lm_joined hC hK hA kw_1009 ⟨Nat.le_of_ble_eq_true rfl, Nat.le_of_ble_eq_true rfl⟩ hmS hn3 hcn hP hD hS hl.1 (Nat.le_of_ble_eq_true rfl) dL_law_667 ⟨show cells + 0 ≤ 600000 by omega, show slots + 0 ≤ 7302250 by omega⟩  ?_
  exact lv_icmp_eq (tgt := 1164) hC.1 hC.2.1 dL_law_670 (by decide) (fun _ => W.widen (by omega) (by omega) (kk _ _ ⟨_, _, _, _, _, _, _, _, _, _, _, _, hcI, (hmS.up (by omega)), hP, hD⟩ hS)) (fun h8 => absurd rfl h8)
set_option maxRecDepth 20000 in
set_option maxHeartbeats 1000000 in
theorem lo_bridge (h : LH p s m meth c args E A b L xs) (hi : i + 6 ≤ L) (hn3 : nt + 64 < 2 ^ 31) (hI : INV E A co ad nt H) (hS : va_S A s.heap H locs) (hl : LV ls b co (ad 0) i) (hce : cells + 2 ≤ 600000) (hsl : slots + 62 ≤ 7302250)
    (kk : ∀ (H1 : Heap) (locs1 : List Loc), INV E A co ad (nt + 64) H1 → va_S A s.heap H1 locs1 → W p l e room_1 s m args below meth c H1 locs1 (cells + 2) (slots + 62) Q (F0 m 1164 ls [])) : W p l e room_1 s m args below meth c H locs cells slots Q (F0 m 675 ls []) := by
  have h9 := h; obtain ⟨hC, hK, hA, hX, hbl, hbA, hL⟩ := h9
  obtain ⟨n, k, net, cP, cQ, fl, tr, X2, X4, F3, w, M, hcI, hmS, hP, hD⟩ := hI
  have hcn := CI_cpn hcI
  refine lv_aload_n hC.1 hC.2.1 dL_law_675 rfl (lv_at hl 1 rfl) ?_
  refine la_arg (j := 1) h hS hl (by decide) dL_law_676 dL_law_677 dL_law_678 dL_law_679 dL_law_680 (by omega) ?_
  refine lx_bridge hC hK hA kw_559 ⟨Nat.le_of_ble_eq_true rfl, Nat.le_of_ble_eq_true rfl⟩ hcI hP hD hS hl.1 (Nat.le_of_ble_eq_true rfl) dL_law_681 ⟨show cells + 0 ≤ 600000 by omega, show slots + 0 ≤ 7302250 by omega⟩ _ (fun x1 hx1 => ?_)
  refine lv_aload_n hC.1 hC.2.1 dL_law_684 rfl (lv_at hl 2 rfl) ?_
  refine la_arg (j := 1) h hS hl (by decide) dL_law_685 dL_law_686 dL_law_687 dL_law_688 dL_law_689 (by omega) ?_
  refine lm_bridge hC hK hA kw_1016 ⟨Nat.le_of_ble_eq_true rfl, Nat.le_of_ble_eq_true rfl⟩ hmS hn3 hcn hP hD hS hl.1 (Nat.le_of_ble_eq_true rfl) dL_law_690 ⟨show cells + 0 ≤ 600000 by omega, show slots + 0 ≤ 7302250 by omega⟩ _ (fun x2 M H locs hx2 hmS hP hD hS => ?_)
  have hxx := brP_one hx1 hx2; subst hxx
  exact lv_icmp_eq (tgt := 1164) hC.1 hC.2.1 dL_law_693 (by decide) (fun _ => W.widen (by omega) (by omega) (kk _ _ ⟨_, _, _, _, _, _, _, _, _, _, _, _, hcI, hmS, hP, hD⟩ hS)) (fun h8 => absurd rfl h8)
set_option maxRecDepth 20000 in
set_option maxHeartbeats 1000000 in
theorem lo_sun (h : LH p s m meth c args E A b L xs) (hi : i + 6 ≤ L) (hn3 : nt + 64 < 2 ^ 31) (hI : INV E A co ad nt H) (hS : va_S A s.heap H locs) (hl : LV ls b co (ad 0) i) (hce : cells + 2 ≤ 600000) (hsl : slots + 62 ≤ 7302250)
    (kk : ∀ (H1 : Heap) (locs1 : List Loc), INV E A co ad (nt + 64) H1 → va_S A s.heap H1 locs1 → W p l e room_1 s m args below meth c H1 locs1 (cells + 2) (slots + 62) Q (F0 m 1164 ls [])) : W p l e room_1 s m args below meth c H locs cells slots Q (F0 m 698 ls []) := by
  have h9 := h; obtain ⟨hC, hK, hA, hX, hbl, hbA, hL⟩ := h9
  obtain ⟨n, k, net, cP, cQ, fl, tr, X2, X4, F3, w, M, hcI, hmS, hP, hD⟩ := hI
  have hcn := CI_cpn hcI
  refine lv_aload_n hC.1 hC.2.1 dL_law_698 rfl (lv_at hl 1 rfl) ?_
  refine lx_sun hC hK hA kw_575 ⟨Nat.le_of_ble_eq_true rfl, Nat.le_of_ble_eq_true rfl⟩ hcI hP hD hS hl.1 (Nat.le_of_ble_eq_true rfl) dL_law_699 ⟨show cells + 0 ≤ 600000 by omega, show slots + 0 ≤ 7302250 by omega⟩  ?_
  refine lv_aload_n hC.1 hC.2.1 dL_law_702 rfl (lv_at hl 2 rfl) ?_
  refine lm_sun hC hK hA kw_1024 ⟨Nat.le_of_ble_eq_true rfl, Nat.le_of_ble_eq_true rfl⟩ hmS hn3 hcn hP hD hS hl.1 (Nat.le_of_ble_eq_true rfl) dL_law_703 ⟨show cells + 0 ≤ 600000 by omega, show slots + 0 ≤ 7302250 by omega⟩  ?_
  exact lv_icmp_eq (tgt := 1164) hC.1 hC.2.1 dL_law_706 (by decide) (fun _ => W.widen (by omega) (by omega) (kk _ _ ⟨_, _, _, _, _, _, _, _, _, _, _, _, hcI, (hmS.up (by omega)), hP, hD⟩ hS)) (fun h8 => absurd rfl h8)
set_option maxRecDepth 20000 in
set_option maxHeartbeats 1000000 in
theorem lo_mend (h : LH p s m meth c args E A b L xs) (hi : i + 6 ≤ L) (hn3 : nt + 64 < 2 ^ 31) (hI : INV E A co ad nt H) (hS : va_S A s.heap H locs) (hl : LV ls b co (ad 0) i) (hce : cells + 2 ≤ 600000) (hsl : slots + 62 ≤ 7302250)
    (kk : ∀ (H1 : Heap) (locs1 : List Loc), INV E A co ad (nt + 64) H1 → va_S A s.heap H1 locs1 → W p l e room_1 s m args below meth c H1 locs1 (cells + 2) (slots + 62) Q (F0 m 1164 ls [])) : W p l e room_1 s m args below meth c H locs cells slots Q (F0 m 711 ls []) := by
  have h9 := h; obtain ⟨hC, hK, hA, hX, hbl, hbA, hL⟩ := h9
  obtain ⟨n, k, net, cP, cQ, fl, tr, X2, X4, F3, w, M, hcI, hmS, hP, hD⟩ := hI
  have hcn := CI_cpn hcI
  refine lv_aload_n hC.1 hC.2.1 dL_law_711 rfl (lv_at hl 1 rfl) ?_
  refine la_arg (j := 1) h hS hl (by decide) dL_law_712 dL_law_713 dL_law_714 dL_law_715 dL_law_716 (by omega) ?_
  refine la_arg (j := 2) h hS hl (by decide) dL_law_717 dL_law_718 dL_law_719 dL_law_720 dL_law_721 (by omega) ?_
  refine lx_mend hC hK hA kw_582 ⟨Nat.le_of_ble_eq_true rfl, Nat.le_of_ble_eq_true rfl⟩ hcI hP hD hS hl.1 (Nat.le_of_ble_eq_true rfl) dL_law_722 ⟨show cells + 0 ≤ 600000 by omega, show slots + 0 ≤ 7302250 by omega⟩ _ _ (fun x1 w H locs hx1 hcI hP hD hS => ?_)
  refine lv_aload_n hC.1 hC.2.1 dL_law_725 rfl (lv_at hl 2 rfl) ?_
  refine la_arg (j := 1) h hS hl (by decide) dL_law_726 dL_law_727 dL_law_728 dL_law_729 dL_law_730 (by omega) ?_
  refine la_arg (j := 2) h hS hl (by decide) dL_law_731 dL_law_732 dL_law_733 dL_law_734 dL_law_735 (by omega) ?_
  refine lm_mend hC hK hA kw_1028 ⟨Nat.le_of_ble_eq_true rfl, Nat.le_of_ble_eq_true rfl⟩ hmS hn3 hcn hP hD hS hl.1 (Nat.le_of_ble_eq_true rfl) dL_law_736 ⟨show cells + 0 + 0 ≤ 600000 by omega, show slots + 0 + 0 ≤ 7302250 by omega⟩ _ _ (fun x2 M H locs hx2 hmS hP hD hS => ?_)
  have hxx := mdP_one hx1 hx2; subst hxx
  exact lv_icmp_eq (tgt := 1164) hC.1 hC.2.1 dL_law_739 (by decide) (fun _ => W.widen (by omega) (by omega) (kk _ _ ⟨_, _, _, _, _, _, _, _, _, _, _, _, hcI, hmS, hP, hD⟩ hS)) (fun h8 => absurd rfl h8)
set_option maxRecDepth 20000 in
set_option maxHeartbeats 1000000 in
theorem lo_nets (h : LH p s m meth c args E A b L xs) (hi : i + 6 ≤ L) (hn3 : nt + 64 < 2 ^ 31) (hI : INV E A co ad nt H) (hS : va_S A s.heap H locs) (hl : LV ls b co (ad 0) i) (hce : cells + 2 ≤ 600000) (hsl : slots + 62 ≤ 7302250)
    (kk : ∀ (H1 : Heap) (locs1 : List Loc), INV E A co ad (nt + 64) H1 → va_S A s.heap H1 locs1 → W p l e room_1 s m args below meth c H1 locs1 (cells + 2) (slots + 62) Q (F0 m 1164 ls [])) : W p l e room_1 s m args below meth c H locs cells slots Q (F0 m 744 ls []) := by
  have h9 := h; obtain ⟨hC, hK, hA, hX, hbl, hbA, hL⟩ := h9
  obtain ⟨n, k, net, cP, cQ, fl, tr, X2, X4, F3, w, M, hcI, hmS, hP, hD⟩ := hI
  have hcn := CI_cpn hcI
  refine lv_aload_n hC.1 hC.2.1 dL_law_744 rfl (lv_at hl 1 rfl) ?_
  refine la_arg (j := 1) h hS hl (by decide) dL_law_745 dL_law_746 dL_law_747 dL_law_748 dL_law_749 (by omega) ?_
  refine la_arg (j := 2) h hS hl (by decide) dL_law_750 dL_law_751 dL_law_752 dL_law_753 dL_law_754 (by omega) ?_
  refine la_arg (j := 3) h hS hl (by decide) dL_law_755 dL_law_756 dL_law_757 dL_law_758 dL_law_759 (by omega) ?_
  refine lx_nets hC hK hA kw_591 ⟨Nat.le_of_ble_eq_true rfl, Nat.le_of_ble_eq_true rfl⟩ hcI hP hD hS hl.1 (Nat.le_of_ble_eq_true rfl) dL_law_760 ⟨show cells + 0 ≤ 600000 by omega, show slots + 0 ≤ 7302250 by omega⟩ _ _ _ (fun w H locs hcI hP hD hS => ?_)
  refine lv_aload_n hC.1 hC.2.1 dL_law_763 rfl (lv_at hl 2 rfl) ?_
  refine la_arg (j := 1) h hS hl (by decide) dL_law_764 dL_law_765 dL_law_766 dL_law_767 dL_law_768 (by omega) ?_
  refine la_arg (j := 2) h hS hl (by decide) dL_law_769 dL_law_770 dL_law_771 dL_law_772 dL_law_773 (by omega) ?_
  refine la_arg (j := 3) h hS hl (by decide) dL_law_774 dL_law_775 dL_law_776 dL_law_777 dL_law_778 (by omega) ?_
  refine lm_nets hC hK hA kw_1036 ⟨Nat.le_of_ble_eq_true rfl, Nat.le_of_ble_eq_true rfl⟩ hmS hn3 hcn hP hD hS hl.1 (Nat.le_of_ble_eq_true rfl) dL_law_779 ⟨show cells + 0 + 0 ≤ 600000 by omega, show slots + 0 + 0 ≤ 7302250 by omega⟩ _ _ _ (fun M H locs hmS hP hD hS => ?_)
  exact lv_icmp_eq (tgt := 1164) hC.1 hC.2.1 dL_law_782 (by decide) (fun _ => W.widen (by omega) (by omega) (kk _ _ ⟨_, _, _, _, _, _, _, _, _, _, _, _, hcI, hmS, hP, hD⟩ hS)) (fun h8 => absurd rfl h8)
set_option maxRecDepth 20000 in
set_option maxHeartbeats 1000000 in
theorem lo_within (h : LH p s m meth c args E A b L xs) (hi : i + 6 ≤ L) (hn3 : nt + 64 < 2 ^ 31) (hI : INV E A co ad nt H) (hS : va_S A s.heap H locs) (hl : LV ls b co (ad 0) i) (hce : cells + 2 ≤ 600000) (hsl : slots + 62 ≤ 7302250)
    (kk : ∀ (H1 : Heap) (locs1 : List Loc), INV E A co ad (nt + 64) H1 → va_S A s.heap H1 locs1 → W p l e room_1 s m args below meth c H1 locs1 (cells + 2) (slots + 62) Q (F0 m 1164 ls [])) : W p l e room_1 s m args below meth c H locs cells slots Q (F0 m 787 ls []) := by
  have h9 := h; obtain ⟨hC, hK, hA, hX, hbl, hbA, hL⟩ := h9
  obtain ⟨n, k, net, cP, cQ, fl, tr, X2, X4, F3, w, M, hcI, hmS, hP, hD⟩ := hI
  have hcn := CI_cpn hcI
  refine lv_aload_n hC.1 hC.2.1 dL_law_787 rfl (lv_at hl 1 rfl) ?_
  refine la_arg (j := 1) h hS hl (by decide) dL_law_788 dL_law_789 dL_law_790 dL_law_791 dL_law_792 (by omega) ?_
  refine la_arg (j := 2) h hS hl (by decide) dL_law_793 dL_law_794 dL_law_795 dL_law_796 dL_law_797 (by omega) ?_
  refine lx_within hC hK hA kw_602 ⟨Nat.le_of_ble_eq_true rfl, Nat.le_of_ble_eq_true rfl⟩ hcI hP hD hS hl.1 (Nat.le_of_ble_eq_true rfl) dL_law_798 ⟨show cells + 0 ≤ 600000 by omega, show slots + 0 ≤ 7302250 by omega⟩ _ _ (fun w H locs hcI hP hD hS => ?_)
  refine lv_aload_n hC.1 hC.2.1 dL_law_801 rfl (lv_at hl 2 rfl) ?_
  refine la_arg (j := 1) h hS hl (by decide) dL_law_802 dL_law_803 dL_law_804 dL_law_805 dL_law_806 (by omega) ?_
  refine la_arg (j := 2) h hS hl (by decide) dL_law_807 dL_law_808 dL_law_809 dL_law_810 dL_law_811 (by omega) ?_
  refine lm_within hC hK hA kw_1044 ⟨Nat.le_of_ble_eq_true rfl, Nat.le_of_ble_eq_true rfl⟩ hmS hn3 hcn hP hD hS hl.1 (Nat.le_of_ble_eq_true rfl) dL_law_812 ⟨show cells + 0 + 0 ≤ 600000 by omega, show slots + 0 + 0 ≤ 7302250 by omega⟩ _ _ (fun M H locs hmS hP hD hS => ?_)
  exact lv_icmp_eq (tgt := 1164) hC.1 hC.2.1 dL_law_815 (by decide) (fun _ => W.widen (by omega) (by omega) (kk _ _ ⟨_, _, _, _, _, _, _, _, _, _, _, _, hcI, hmS, hP, hD⟩ hS)) (fun h8 => absurd rfl h8)
set_option maxRecDepth 20000 in
set_option maxHeartbeats 1000000 in
theorem lo_sheet (h : LH p s m meth c args E A b L xs) (hi : i + 6 ≤ L) (hn3 : nt + 64 < 2 ^ 31) (hI : INV E A co ad nt H) (hS : va_S A s.heap H locs) (hl : LV ls b co (ad 0) i) (hce : cells + 2 ≤ 600000) (hsl : slots + 62 ≤ 7302250)
    (kk : ∀ (H1 : Heap) (locs1 : List Loc), INV E A co ad (nt + 64) H1 → va_S A s.heap H1 locs1 → W p l e room_1 s m args below meth c H1 locs1 (cells + 2) (slots + 62) Q (F0 m 1164 ls [])) : W p l e room_1 s m args below meth c H locs cells slots Q (F0 m 820 ls []) := by
  have h9 := h; obtain ⟨hC, hK, hA, hX, hbl, hbA, hL⟩ := h9
  obtain ⟨n, k, net, cP, cQ, fl, tr, X2, X4, F3, w, M, hcI, hmS, hP, hD⟩ := hI
  have hcn := CI_cpn hcI
  refine lv_aload_n hC.1 hC.2.1 dL_law_820 rfl (lv_at hl 1 rfl) ?_
  refine la_arg (j := 1) h hS hl (by decide) dL_law_821 dL_law_822 dL_law_823 dL_law_824 dL_law_825 (by omega) ?_
  refine la_arg (j := 2) h hS hl (by decide) dL_law_826 dL_law_827 dL_law_828 dL_law_829 dL_law_830 (by omega) ?_
  refine la_arg (j := 3) h hS hl (by decide) dL_law_831 dL_law_832 dL_law_833 dL_law_834 dL_law_835 (by omega) ?_
  refine lx_sheet hC hK hA kw_614 ⟨Nat.le_of_ble_eq_true rfl, Nat.le_of_ble_eq_true rfl⟩ hcI hP hD hS hl.1 (Nat.le_of_ble_eq_true rfl) dL_law_836 ⟨show cells + 2 ≤ 600000 by omega, show slots + 62 ≤ 7302250 by omega⟩ _ _ _ (fun w H locs hcI hP hD hS => ?_)
  refine lv_aload_n hC.1 hC.2.1 dL_law_839 rfl (lv_at hl 2 rfl) ?_
  refine la_arg (j := 1) h hS hl (by decide) dL_law_840 dL_law_841 dL_law_842 dL_law_843 dL_law_844 (by omega) ?_
  refine la_arg (j := 2) h hS hl (by decide) dL_law_845 dL_law_846 dL_law_847 dL_law_848 dL_law_849 (by omega) ?_
  refine la_arg (j := 3) h hS hl (by decide) dL_law_850 dL_law_851 dL_law_852 dL_law_853 dL_law_854 (by omega) ?_
  refine lm_sheet hC hK hA kw_1048 ⟨Nat.le_of_ble_eq_true rfl, Nat.le_of_ble_eq_true rfl⟩ hmS hn3 hcn hP hD hS hl.1 (Nat.le_of_ble_eq_true rfl) dL_law_855 ⟨show cells + 2 + 0 ≤ 600000 by omega, show slots + 62 + 0 ≤ 7302250 by omega⟩ _ _ _ (fun M H locs hmS hP hD hS => ?_)
  exact lv_icmp_eq (tgt := 1164) hC.1 hC.2.1 dL_law_858 (by decide) (fun _ => W.widen (by omega) (by omega) (kk _ _ ⟨_, _, _, _, _, _, _, _, _, _, _, _, hcI, hmS, hP, hD⟩ hS)) (fun h8 => absurd rfl h8)
set_option maxRecDepth 20000 in
set_option maxHeartbeats 1000000 in
theorem lo_lose (h : LH p s m meth c args E A b L xs) (hi : i + 6 ≤ L) (hn3 : nt + 64 < 2 ^ 31) (hI : INV E A co ad nt H) (hS : va_S A s.heap H locs) (hl : LV ls b co (ad 0) i) (hce : cells + 2 ≤ 600000) (hsl : slots + 62 ≤ 7302250)
    (kk : ∀ (H1 : Heap) (locs1 : List Loc), INV E A co ad (nt + 64) H1 → va_S A s.heap H1 locs1 → W p l e room_1 s m args below meth c H1 locs1 (cells + 2) (slots + 62) Q (F0 m 1164 ls [])) : W p l e room_1 s m args below meth c H locs cells slots Q (F0 m 863 ls []) := by
  have h9 := h; obtain ⟨hC, hK, hA, hX, hbl, hbA, hL⟩ := h9
  obtain ⟨n, k, net, cP, cQ, fl, tr, X2, X4, F3, w, M, hcI, hmS, hP, hD⟩ := hI
  have hcn := CI_cpn hcI
  refine lv_aload_n hC.1 hC.2.1 dL_law_863 rfl (lv_at hl 1 rfl) ?_
  refine la_arg (j := 1) h hS hl (by decide) dL_law_864 dL_law_865 dL_law_866 dL_law_867 dL_law_868 (by omega) ?_
  refine lx_lose hC hK hA kw_632 ⟨Nat.le_of_ble_eq_true rfl, Nat.le_of_ble_eq_true rfl⟩ hcI hP hD hS hl.1 (Nat.le_of_ble_eq_true rfl) dL_law_869 ⟨show cells + 0 ≤ 600000 by omega, show slots + 0 ≤ 7302250 by omega⟩ _ (fun w H locs hcI hP hD hS => ?_)
  refine lv_aload_n hC.1 hC.2.1 dL_law_872 rfl (lv_at hl 2 rfl) ?_
  refine la_arg (j := 1) h hS hl (by decide) dL_law_873 dL_law_874 dL_law_875 dL_law_876 dL_law_877 (by omega) ?_
  refine lm_lose hC hK hA kw_1052 ⟨Nat.le_of_ble_eq_true rfl, Nat.le_of_ble_eq_true rfl⟩ hmS hn3 hcn hP hD hS hl.1 (Nat.le_of_ble_eq_true rfl) dL_law_878 ⟨show cells + 0 + 0 ≤ 600000 by omega, show slots + 0 + 0 ≤ 7302250 by omega⟩ _ (fun M H locs hmS hP hD hS => ?_)
  exact lv_icmp_eq (tgt := 1164) hC.1 hC.2.1 dL_law_881 (by decide) (fun _ => W.widen (by omega) (by omega) (kk _ _ ⟨_, _, _, _, _, _, _, _, _, _, _, _, hcI, hmS, hP, hD⟩ hS)) (fun h8 => absurd rfl h8)
set_option maxRecDepth 20000 in
set_option maxHeartbeats 1000000 in
theorem lo_put (h : LH p s m meth c args E A b L xs) (hi : i + 6 ≤ L) (hn3 : nt + 64 < 2 ^ 31) (hI : INV E A co ad nt H) (hS : va_S A s.heap H locs) (hl : LV ls b co (ad 0) i) (hce : cells + 2 ≤ 600000) (hsl : slots + 62 ≤ 7302250)
    (kk : ∀ (H1 : Heap) (locs1 : List Loc), INV E A co ad (nt + 64) H1 → va_S A s.heap H1 locs1 → W p l e room_1 s m args below meth c H1 locs1 (cells + 2) (slots + 62) Q (F0 m 1164 ls [])) : W p l e room_1 s m args below meth c H locs cells slots Q (F0 m 886 ls []) := by
  have h9 := h; obtain ⟨hC, hK, hA, hX, hbl, hbA, hL⟩ := h9
  obtain ⟨n, k, net, cP, cQ, fl, tr, X2, X4, F3, w, M, hcI, hmS, hP, hD⟩ := hI
  have hcn := CI_cpn hcI
  refine lv_aload_n hC.1 hC.2.1 dL_law_886 rfl (lv_at hl 1 rfl) ?_
  refine la_arg (j := 1) h hS hl (by decide) dL_law_887 dL_law_888 dL_law_889 dL_law_890 dL_law_891 (by omega) ?_
  refine la_arg (j := 2) h hS hl (by decide) dL_law_892 dL_law_893 dL_law_894 dL_law_895 dL_law_896 (by omega) ?_
  refine la_arg (j := 3) h hS hl (by decide) dL_law_897 dL_law_898 dL_law_899 dL_law_900 dL_law_901 (by omega) ?_
  refine lx_put hC hK hA kw_636 ⟨Nat.le_of_ble_eq_true rfl, Nat.le_of_ble_eq_true rfl⟩ hcI hP hD hS hl.1 (Nat.le_of_ble_eq_true rfl) dL_law_902 ⟨show cells + 0 ≤ 600000 by omega, show slots + 0 ≤ 7302250 by omega⟩ _ _ _ (fun w H locs hcI hP hD hS => ?_)
  refine lv_aload_n hC.1 hC.2.1 dL_law_905 rfl (lv_at hl 2 rfl) ?_
  refine la_arg (j := 1) h hS hl (by decide) dL_law_906 dL_law_907 dL_law_908 dL_law_909 dL_law_910 (by omega) ?_
  refine la_arg (j := 2) h hS hl (by decide) dL_law_911 dL_law_912 dL_law_913 dL_law_914 dL_law_915 (by omega) ?_
  refine la_arg (j := 3) h hS hl (by decide) dL_law_916 dL_law_917 dL_law_918 dL_law_919 dL_law_920 (by omega) ?_
  refine lm_put hC hK hA kw_1056 ⟨Nat.le_of_ble_eq_true rfl, Nat.le_of_ble_eq_true rfl⟩ hmS hn3 hcn hP hD hS hl.1 (Nat.le_of_ble_eq_true rfl) dL_law_921 ⟨show cells + 0 + 0 ≤ 600000 by omega, show slots + 0 + 0 ≤ 7302250 by omega⟩ _ _ _ (fun M H locs hmS hP hD hS => ?_)
  exact lv_icmp_eq (tgt := 1164) hC.1 hC.2.1 dL_law_924 (by decide) (fun _ => W.widen (by omega) (by omega) (kk _ _ ⟨_, _, _, _, _, _, _, _, _, _, _, _, hcI, hmS, hP, hD⟩ hS)) (fun h8 => absurd rfl h8)
set_option maxRecDepth 20000 in
set_option maxHeartbeats 1000000 in
theorem lo_cell (h : LH p s m meth c args E A b L xs) (hi : i + 6 ≤ L) (hn3 : nt + 64 < 2 ^ 31) (hI : INV E A co ad nt H) (hS : va_S A s.heap H locs) (hl : LV ls b co (ad 0) i) (hce : cells + 2 ≤ 600000) (hsl : slots + 62 ≤ 7302250)
    (kk : ∀ (H1 : Heap) (locs1 : List Loc), INV E A co ad (nt + 64) H1 → va_S A s.heap H1 locs1 → W p l e room_1 s m args below meth c H1 locs1 (cells + 2) (slots + 62) Q (F0 m 1164 ls [])) : W p l e room_1 s m args below meth c H locs cells slots Q (F0 m 929 ls []) := by
  have h9 := h; obtain ⟨hC, hK, hA, hX, hbl, hbA, hL⟩ := h9
  obtain ⟨n, k, net, cP, cQ, fl, tr, X2, X4, F3, w, M, hcI, hmS, hP, hD⟩ := hI
  have hcn := CI_cpn hcI
  refine lv_aload_n hC.1 hC.2.1 dL_law_929 rfl (lv_at hl 1 rfl) ?_
  refine la_arg (j := 1) h hS hl (by decide) dL_law_930 dL_law_931 dL_law_932 dL_law_933 dL_law_934 (by omega) ?_
  refine la_arg (j := 2) h hS hl (by decide) dL_law_935 dL_law_936 dL_law_937 dL_law_938 dL_law_939 (by omega) ?_
  refine la_arg (j := 3) h hS hl (by decide) dL_law_940 dL_law_941 dL_law_942 dL_law_943 dL_law_944 (by omega) ?_
  refine lx_cell hC hK hA kw_648 ⟨Nat.le_of_ble_eq_true rfl, Nat.le_of_ble_eq_true rfl⟩ hcI hP hD hS hl.1 (Nat.le_of_ble_eq_true rfl) dL_law_945 ⟨show cells + 0 ≤ 600000 by omega, show slots + 0 ≤ 7302250 by omega⟩ _ _ _ (fun w H locs hcI hP hD hS => ?_)
  refine lv_aload_n hC.1 hC.2.1 dL_law_948 rfl (lv_at hl 2 rfl) ?_
  refine la_arg (j := 1) h hS hl (by decide) dL_law_949 dL_law_950 dL_law_951 dL_law_952 dL_law_953 (by omega) ?_
  refine la_arg (j := 2) h hS hl (by decide) dL_law_954 dL_law_955 dL_law_956 dL_law_957 dL_law_958 (by omega) ?_
  refine la_arg (j := 3) h hS hl (by decide) dL_law_959 dL_law_960 dL_law_961 dL_law_962 dL_law_963 (by omega) ?_
  refine lm_cell hC hK hA kw_1060 ⟨Nat.le_of_ble_eq_true rfl, Nat.le_of_ble_eq_true rfl⟩ hmS hn3 hcn hP hD hS hl.1 (Nat.le_of_ble_eq_true rfl) dL_law_964 ⟨show cells + 0 + 0 ≤ 600000 by omega, show slots + 0 + 0 ≤ 7302250 by omega⟩ _ _ _ (fun M H locs hmS hP hD hS => ?_)
  refine W.lcmp hC.1 hC.2.1 dL_law_967 ?_
  rw [lg_same]
  exact lv_if_eq (tgt := 1164) hC.1 hC.2.1 dL_law_968 (by decide) (fun _ => W.widen (by omega) (by omega) (kk _ _ ⟨_, _, _, _, _, _, _, _, _, _, _, _, hcI, hmS, hP, hD⟩ hS)) (fun h8 => absurd rfl h8)
set_option maxRecDepth 20000 in
set_option maxHeartbeats 1000000 in
theorem lo_copy (h : LH p s m meth c args E A b L xs) (hi : i + 6 ≤ L) (hn3 : nt + 64 < 2 ^ 31) (hI : INV E A co ad nt H) (hS : va_S A s.heap H locs) (hl : LV ls b co (ad 0) i) (hce : cells + 2 ≤ 600000) (hsl : slots + 62 ≤ 7302250)
    (kk : ∀ (H1 : Heap) (locs1 : List Loc), INV E A co ad (nt + 64) H1 → va_S A s.heap H1 locs1 → W p l e room_1 s m args below meth c H1 locs1 (cells + 2) (slots + 62) Q (F0 m 1164 ls [])) : W p l e room_1 s m args below meth c H locs cells slots Q (F0 m 973 ls []) := by
  have h9 := h; obtain ⟨hC, hK, hA, hX, hbl, hbA, hL⟩ := h9
  obtain ⟨n, k, net, cP, cQ, fl, tr, X2, X4, F3, w, M, hcI, hmS, hP, hD⟩ := hI
  have hcn := CI_cpn hcI
  refine lv_aload_n hC.1 hC.2.1 dL_law_973 rfl (lv_at hl 1 rfl) ?_
  refine la_arg (j := 1) h hS hl (by decide) dL_law_974 dL_law_975 dL_law_976 dL_law_977 dL_law_978 (by omega) ?_
  refine la_arg (j := 2) h hS hl (by decide) dL_law_979 dL_law_980 dL_law_981 dL_law_982 dL_law_983 (by omega) ?_
  refine la_arg (j := 3) h hS hl (by decide) dL_law_984 dL_law_985 dL_law_986 dL_law_987 dL_law_988 (by omega) ?_
  refine la_arg (j := 4) h hS hl (by decide) dL_law_989 dL_law_990 dL_law_991 dL_law_992 dL_law_993 (by omega) ?_
  refine la_arg (j := 5) h hS hl (by decide) dL_law_994 dL_law_995 dL_law_996 dL_law_997 dL_law_998 (by omega) ?_
  refine lx_copy hC hK hA kw_653 ⟨Nat.le_of_ble_eq_true rfl, Nat.le_of_ble_eq_true rfl⟩ hcI hP hD hS hl.1 (Nat.le_of_ble_eq_true rfl) dL_law_999 ⟨show cells + 0 ≤ 600000 by omega, show slots + 0 ≤ 7302250 by omega⟩ _ _ _ _ _ (fun w H locs hcI hP hD hS => ?_)
  refine lv_aload_n hC.1 hC.2.1 dL_law_1002 rfl (lv_at hl 2 rfl) ?_
  refine la_arg (j := 1) h hS hl (by decide) dL_law_1003 dL_law_1004 dL_law_1005 dL_law_1006 dL_law_1007 (by omega) ?_
  refine la_arg (j := 2) h hS hl (by decide) dL_law_1008 dL_law_1009 dL_law_1010 dL_law_1011 dL_law_1012 (by omega) ?_
  refine la_arg (j := 3) h hS hl (by decide) dL_law_1013 dL_law_1014 dL_law_1015 dL_law_1016 dL_law_1017 (by omega) ?_
  refine la_arg (j := 4) h hS hl (by decide) dL_law_1018 dL_law_1019 dL_law_1020 dL_law_1021 dL_law_1022 (by omega) ?_
  refine la_arg (j := 5) h hS hl (by decide) dL_law_1023 dL_law_1024 dL_law_1025 dL_law_1026 dL_law_1027 (by omega) ?_
  refine lm_copy hC hK hA kw_1068 ⟨Nat.le_of_ble_eq_true rfl, Nat.le_of_ble_eq_true rfl⟩ hmS hn3 hcn hP hD hS hl.1 (Nat.le_of_ble_eq_true rfl) dL_law_1028 ⟨show cells + 0 + 0 ≤ 600000 by omega, show slots + 0 + 0 ≤ 7302250 by omega⟩ _ _ _ _ _ (fun M H locs hmS hP hD hS => ?_)
  exact lv_icmp_eq (tgt := 1164) hC.1 hC.2.1 dL_law_1031 (by decide) (fun _ => W.widen (by omega) (by omega) (kk _ _ ⟨_, _, _, _, _, _, _, _, _, _, _, _, hcI, hmS, hP, hD⟩ hS)) (fun h8 => absurd rfl h8)
set_option maxRecDepth 20000 in
set_option maxHeartbeats 1000000 in
theorem lo_tell (h : LH p s m meth c args E A b L xs) (hi : i + 6 ≤ L) (hn3 : nt + 64 < 2 ^ 31) (hI : INV E A co ad nt H) (hS : va_S A s.heap H locs) (hl : LV ls b co (ad 0) i) (hce : cells + 2 ≤ 600000) (hsl : slots + 62 ≤ 7302250)
    (kk : ∀ (H1 : Heap) (locs1 : List Loc), INV E A co ad (nt + 64) H1 → va_S A s.heap H1 locs1 → W p l e room_1 s m args below meth c H1 locs1 (cells + 2) (slots + 62) Q (F0 m 1164 ls [])) : W p l e room_1 s m args below meth c H locs cells slots Q (F0 m 1036 ls []) := by
  have h9 := h; obtain ⟨hC, hK, hA, hX, hbl, hbA, hL⟩ := h9
  obtain ⟨n, k, net, cP, cQ, fl, tr, X2, X4, F3, w, M, hcI, hmS, hP, hD⟩ := hI
  have hcn := CI_cpn hcI
  refine lv_aload_n hC.1 hC.2.1 dL_law_1036 rfl (lv_at hl 1 rfl) ?_
  refine la_arg (j := 1) h hS hl (by decide) dL_law_1037 dL_law_1038 dL_law_1039 dL_law_1040 dL_law_1041 (by omega) ?_
  refine lx_tell hC hK hA kw_660 ⟨Nat.le_of_ble_eq_true rfl, Nat.le_of_ble_eq_true rfl⟩ hcI hP hD hS hl.1 (Nat.le_of_ble_eq_true rfl) dL_law_1042 ⟨show cells + 0 ≤ 600000 by omega, show slots + 0 ≤ 7302250 by omega⟩ _ (fun w H locs hcI hP hD hS => ?_)
  refine lv_aload_n hC.1 hC.2.1 dL_law_1045 rfl (lv_at hl 2 rfl) ?_
  refine la_arg (j := 1) h hS hl (by decide) dL_law_1046 dL_law_1047 dL_law_1048 dL_law_1049 dL_law_1050 (by omega) ?_
  refine lm_tell hC hK hA kw_1072 ⟨Nat.le_of_ble_eq_true rfl, Nat.le_of_ble_eq_true rfl⟩ hmS hn3 hcn hP hD hS hl.1 (Nat.le_of_ble_eq_true rfl) dL_law_1051 ⟨show cells + 0 + 0 ≤ 600000 by omega, show slots + 0 + 0 ≤ 7302250 by omega⟩ _ (fun M H locs hmS hP hD hS => ?_)
  exact lv_icmp_eq (tgt := 1164) hC.1 hC.2.1 dL_law_1054 (by decide) (fun _ => W.widen (by omega) (by omega) (kk _ _ ⟨_, _, _, _, _, _, _, _, _, _, _, _, hcI, hmS, hP, hD⟩ hS)) (fun h8 => absurd rfl h8)
set_option maxRecDepth 20000 in
set_option maxHeartbeats 1000000 in
theorem lo_log (h : LH p s m meth c args E A b L xs) (hi : i + 6 ≤ L) (hn3 : nt + 64 < 2 ^ 31) (hI : INV E A co ad nt H) (hS : va_S A s.heap H locs) (hl : LV ls b co (ad 0) i) (hce : cells + 2 ≤ 600000) (hsl : slots + 62 ≤ 7302250)
    (kk : ∀ (H1 : Heap) (locs1 : List Loc), INV E A co ad (nt + 64) H1 → va_S A s.heap H1 locs1 → W p l e room_1 s m args below meth c H1 locs1 (cells + 2) (slots + 62) Q (F0 m 1164 ls [])) : W p l e room_1 s m args below meth c H locs cells slots Q (F0 m 1059 ls []) := by
  have h9 := h; obtain ⟨hC, hK, hA, hX, hbl, hbA, hL⟩ := h9
  obtain ⟨n, k, net, cP, cQ, fl, tr, X2, X4, F3, w, M, hcI, hmS, hP, hD⟩ := hI
  have hcn := CI_cpn hcI
  refine lv_aload_n hC.1 hC.2.1 dL_law_1059 rfl (lv_at hl 1 rfl) ?_
  refine la_arg (j := 1) h hS hl (by decide) dL_law_1060 dL_law_1061 dL_law_1062 dL_law_1063 dL_law_1064 (by omega) ?_
  refine lx_log hC hK hA kw_699 ⟨Nat.le_of_ble_eq_true rfl, Nat.le_of_ble_eq_true rfl⟩ hcI hP hD hS hl.1 (Nat.le_of_ble_eq_true rfl) dL_law_1065 ⟨show cells + 0 ≤ 600000 by omega, show slots + 0 ≤ 7302250 by omega⟩ _ (fun w H locs hcI hP hD hS => ?_)
  refine lv_aload_n hC.1 hC.2.1 dL_law_1068 rfl (lv_at hl 2 rfl) ?_
  refine la_arg (j := 1) h hS hl (by decide) dL_law_1069 dL_law_1070 dL_law_1071 dL_law_1072 dL_law_1073 (by omega) ?_
  refine lm_log hC hK hA kw_1080 ⟨Nat.le_of_ble_eq_true rfl, Nat.le_of_ble_eq_true rfl⟩ hmS hn3 hcn hP hD hS hl.1 (Nat.le_of_ble_eq_true rfl) dL_law_1074 ⟨show cells + 0 + 0 ≤ 600000 by omega, show slots + 0 + 0 ≤ 7302250 by omega⟩ _ (fun M H locs hmS hP hD hS => ?_)
  exact lv_icmp_eq (tgt := 1164) hC.1 hC.2.1 dL_law_1077 (by decide) (fun _ => W.widen (by omega) (by omega) (kk _ _ ⟨_, _, _, _, _, _, _, _, _, _, _, _, hcI, hmS, hP, hD⟩ hS)) (fun h8 => absurd rfl h8)
set_option maxRecDepth 20000 in
set_option maxHeartbeats 1000000 in
theorem lo_as (h : LH p s m meth c args E A b L xs) (hi : i + 6 ≤ L) (hn3 : nt + 64 < 2 ^ 31) (hI : INV E A co ad nt H) (hS : va_S A s.heap H locs) (hl : LV ls b co (ad 0) i) (hce : cells + 2 ≤ 600000) (hsl : slots + 62 ≤ 7302250)
    (kk : ∀ (H1 : Heap) (locs1 : List Loc), INV E A co ad (nt + 64) H1 → va_S A s.heap H1 locs1 → W p l e room_1 s m args below meth c H1 locs1 (cells + 2) (slots + 62) Q (F0 m 1164 ls [])) : W p l e room_1 s m args below meth c H locs cells slots Q (F0 m 1082 ls []) := by
  have h9 := h; obtain ⟨hC, hK, hA, hX, hbl, hbA, hL⟩ := h9
  obtain ⟨n, k, net, cP, cQ, fl, tr, X2, X4, F3, w, M, hcI, hmS, hP, hD⟩ := hI
  have hcn := CI_cpn hcI
  refine lv_aload_n hC.1 hC.2.1 dL_law_1082 rfl (lv_at hl 1 rfl) ?_
  refine la_arg (j := 1) h hS hl (by decide) dL_law_1083 dL_law_1084 dL_law_1085 dL_law_1086 dL_law_1087 (by omega) ?_
  refine la_arg (j := 2) h hS hl (by decide) dL_law_1088 dL_law_1089 dL_law_1090 dL_law_1091 dL_law_1092 (by omega) ?_
  refine lx_as hC hK hA kw_712 ⟨Nat.le_of_ble_eq_true rfl, Nat.le_of_ble_eq_true rfl⟩ hcI hP hD hS hl.1 (Nat.le_of_ble_eq_true rfl) dL_law_1093 ⟨show cells + 0 ≤ 600000 by omega, show slots + 0 ≤ 7302250 by omega⟩ _ _ (fun w H locs hcI hP hD hS => ?_)
  refine lv_aload_n hC.1 hC.2.1 dL_law_1096 rfl (lv_at hl 2 rfl) ?_
  refine la_arg (j := 1) h hS hl (by decide) dL_law_1097 dL_law_1098 dL_law_1099 dL_law_1100 dL_law_1101 (by omega) ?_
  refine la_arg (j := 2) h hS hl (by decide) dL_law_1102 dL_law_1103 dL_law_1104 dL_law_1105 dL_law_1106 (by omega) ?_
  refine lm_as hC hK hA kw_1084 ⟨Nat.le_of_ble_eq_true rfl, Nat.le_of_ble_eq_true rfl⟩ hmS hn3 hcn hP hD hS hl.1 (Nat.le_of_ble_eq_true rfl) dL_law_1107 ⟨show cells + 0 + 0 ≤ 600000 by omega, show slots + 0 + 0 ≤ 7302250 by omega⟩ _ _ (fun M H locs hmS hP hD hS => ?_)
  exact lv_icmp_eq (tgt := 1164) hC.1 hC.2.1 dL_law_1110 (by decide) (fun _ => W.widen (by omega) (by omega) (kk _ _ ⟨_, _, _, _, _, _, _, _, _, _, _, _, hcI, hmS, hP, hD⟩ hS)) (fun h8 => absurd rfl h8)
set_option maxRecDepth 20000 in
set_option maxHeartbeats 1000000 in
theorem lo_trace (h : LH p s m meth c args E A b L xs) (hi : i + 6 ≤ L) (hn3 : nt + 64 < 2 ^ 31) (hI : INV E A co ad nt H) (hS : va_S A s.heap H locs) (hl : LV ls b co (ad 0) i) (hce : cells + 2 ≤ 600000) (hsl : slots + 62 ≤ 7302250)
    (kk : ∀ (H1 : Heap) (locs1 : List Loc), INV E A co ad (nt + 64) H1 → va_S A s.heap H1 locs1 → W p l e room_1 s m args below meth c H1 locs1 (cells + 2) (slots + 62) Q (F0 m 1164 ls [])) : W p l e room_1 s m args below meth c H locs cells slots Q (F0 m 1115 ls []) := by
  have h9 := h; obtain ⟨hC, hK, hA, hX, hbl, hbA, hL⟩ := h9
  obtain ⟨n, k, net, cP, cQ, fl, tr, X2, X4, F3, w, M, hcI, hmS, hP, hD⟩ := hI
  have hcn := CI_cpn hcI
  refine lv_aload_n hC.1 hC.2.1 dL_law_1115 rfl (lv_at hl 1 rfl) ?_
  refine lx_trace hC hK hA kw_716 ⟨Nat.le_of_ble_eq_true rfl, Nat.le_of_ble_eq_true rfl⟩ hcI hP hD hS hl.1 (Nat.le_of_ble_eq_true rfl) dL_law_1116 ⟨show cells + 0 ≤ 600000 by omega, show slots + 0 ≤ 7302250 by omega⟩  ?_
  refine lv_aload_n hC.1 hC.2.1 dL_law_1119 rfl (lv_at hl 2 rfl) ?_
  refine lm_trace hC hK hA kw_1088 ⟨Nat.le_of_ble_eq_true rfl, Nat.le_of_ble_eq_true rfl⟩ hmS hn3 hcn hP hD hS hl.1 (Nat.le_of_ble_eq_true rfl) dL_law_1120 ⟨show cells + 0 ≤ 600000 by omega, show slots + 0 ≤ 7302250 by omega⟩  ?_
  exact lv_icmp_eq (tgt := 1164) hC.1 hC.2.1 dL_law_1123 (by decide) (fun _ => W.widen (by omega) (by omega) (kk _ _ ⟨_, _, _, _, _, _, _, _, _, _, _, _, hcI, (hmS.up (by omega)), hP, hD⟩ hS)) (fun h8 => absurd rfl h8)
set_option maxRecDepth 20000 in
set_option maxHeartbeats 1000000 in
theorem lo_fault (h : LH p s m meth c args E A b L xs) (hi : i + 6 ≤ L) (hn3 : nt + 64 < 2 ^ 31) (hI : INV E A co ad nt H) (hS : va_S A s.heap H locs) (hl : LV ls b co (ad 0) i) (hce : cells + 2 ≤ 600000) (hsl : slots + 62 ≤ 7302250)
    (kk : ∀ (H1 : Heap) (locs1 : List Loc), INV E A co ad (nt + 64) H1 → va_S A s.heap H1 locs1 → W p l e room_1 s m args below meth c H1 locs1 (cells + 2) (slots + 62) Q (F0 m 1164 ls [])) : W p l e room_1 s m args below meth c H locs cells slots Q (F0 m 1128 ls []) := by
  have h9 := h; obtain ⟨hC, hK, hA, hX, hbl, hbA, hL⟩ := h9
  obtain ⟨n, k, net, cP, cQ, fl, tr, X2, X4, F3, w, M, hcI, hmS, hP, hD⟩ := hI
  have hcn := CI_cpn hcI
  refine lv_aload_n hC.1 hC.2.1 dL_law_1128 rfl (lv_at hl 1 rfl) ?_
  refine lx_fault hC hK hA kw_720 ⟨Nat.le_of_ble_eq_true rfl, Nat.le_of_ble_eq_true rfl⟩ hcI hP hD hS hl.1 (Nat.le_of_ble_eq_true rfl) dL_law_1129 ⟨show cells + 0 ≤ 600000 by omega, show slots + 0 ≤ 7302250 by omega⟩  ?_
  refine lv_aload_n hC.1 hC.2.1 dL_law_1132 rfl (lv_at hl 2 rfl) ?_
  refine lm_fault hC hK hA kw_1092 ⟨Nat.le_of_ble_eq_true rfl, Nat.le_of_ble_eq_true rfl⟩ hmS hn3 hcn hP hD hS hl.1 (Nat.le_of_ble_eq_true rfl) dL_law_1133 ⟨show cells + 0 ≤ 600000 by omega, show slots + 0 ≤ 7302250 by omega⟩  ?_
  exact lv_icmp_eq (tgt := 1164) hC.1 hC.2.1 dL_law_1136 (by decide) (fun _ => W.widen (by omega) (by omega) (kk _ _ ⟨_, _, _, _, _, _, _, _, _, _, _, _, hcI, (hmS.up (by omega)), hP, hD⟩ hS)) (fun h8 => absurd rfl h8)
set_option maxRecDepth 20000 in
set_option maxHeartbeats 1000000 in
theorem lo_many (h : LH p s m meth c args E A b L xs) (hi : i + 6 ≤ L) (hn3 : nt + 64 < 2 ^ 31) (hI : INV E A co ad nt H) (hS : va_S A s.heap H locs) (hl : LV ls b co (ad 0) i) (hce : cells + 2 ≤ 600000) (hsl : slots + 62 ≤ 7302250)
    (kk : ∀ (H1 : Heap) (locs1 : List Loc), INV E A co ad (nt + 64) H1 → va_S A s.heap H1 locs1 → W p l e room_1 s m args below meth c H1 locs1 (cells + 2) (slots + 62) Q (F0 m 1164 ls [])) : W p l e room_1 s m args below meth c H locs cells slots Q (F0 m 1141 ls []) := by
  have h9 := h; obtain ⟨hC, hK, hA, hX, hbl, hbA, hL⟩ := h9
  obtain ⟨n, k, net, cP, cQ, fl, tr, X2, X4, F3, w, M, hcI, hmS, hP, hD⟩ := hI
  have hcn := CI_cpn hcI
  refine lv_aload_n hC.1 hC.2.1 dL_law_1141 rfl (lv_at hl 1 rfl) ?_
  refine la_arg (j := 1) h hS hl (by decide) dL_law_1142 dL_law_1143 dL_law_1144 dL_law_1145 dL_law_1146 (by omega) ?_
  refine lx_many hC hK hA kw_724 ⟨Nat.le_of_ble_eq_true rfl, Nat.le_of_ble_eq_true rfl⟩ hcI hP hD hS hl.1 (Nat.le_of_ble_eq_true rfl) dL_law_1147 ⟨show cells + 0 ≤ 600000 by omega, show slots + 0 ≤ 7302250 by omega⟩ _ ?_
  refine lv_aload_n hC.1 hC.2.1 dL_law_1150 rfl (lv_at hl 2 rfl) ?_
  refine la_arg (j := 1) h hS hl (by decide) dL_law_1151 dL_law_1152 dL_law_1153 dL_law_1154 dL_law_1155 (by omega) ?_
  refine lm_many hC hK hA kw_1096 ⟨Nat.le_of_ble_eq_true rfl, Nat.le_of_ble_eq_true rfl⟩ hmS hn3 hcn hP hD hS hl.1 (Nat.le_of_ble_eq_true rfl) dL_law_1156 ⟨show cells + 0 ≤ 600000 by omega, show slots + 0 ≤ 7302250 by omega⟩ _ ?_
  exact lv_icmp_eq (tgt := 1164) hC.1 hC.2.1 dL_law_1159 (by decide) (fun _ => W.widen (by omega) (by omega) (kk _ _ ⟨_, _, _, _, _, _, _, _, _, _, _, _, hcI, (hmS.up (by omega)), hP, hD⟩ hS)) (fun h8 => absurd rfl h8)
end LAW
