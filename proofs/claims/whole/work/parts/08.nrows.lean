def bI (b : Bool) : Int32 := if b then 1 else 0
theorem bI_t : bI true = 1 := rfl
theorem bI_f : bI false = 0 := rfl
theorem bI_0 {b : Bool} (h : bI b = 0) : b = false := by cases b; rfl; exact absurd h (by decide)
theorem bI_1 {b : Bool} (h : ¬ bI b = 0) : b = true := by cases b; exact absurd rfl h; rfl
theorem bI_nI (b : Bool) : bI b = nI b.toNat := by cases b <;> rfl
theorem nI_or (a b : Nat) : nI a ||| nI b = nI (a ||| b) := by
  apply Int32.toBitVec_inj.1
  show BitVec.ofNat 32 a ||| BitVec.ofNat 32 b = BitVec.ofNat 32 (a ||| b)
  apply BitVec.eq_of_getLsbD_eq; intro i hi; simp [hi]
theorem nI_and (a b : Nat) : nI a &&& nI b = nI (a &&& b) := by
  apply Int32.toBitVec_inj.1
  show BitVec.ofNat 32 a &&& BitVec.ofNat 32 b = BitVec.ofNat 32 (a &&& b)
  apply BitVec.eq_of_getLsbD_eq; intro i hi; simp [hi]
theorem nI_xor (a b : Nat) : nI a ^^^ nI b = nI (a ^^^ b) := by
  apply Int32.toBitVec_inj.1
  show BitVec.ofNat 32 a ^^^ BitVec.ofNat 32 b = BitVec.ofNat 32 (a ^^^ b)
  apply BitVec.eq_of_getLsbD_eq; intro i hi; simp [hi]
theorem lN_or (a b : Nat) : lN a ||| lN b = lN (a ||| b) := by
  apply Int64.toBitVec_inj.1
  show BitVec.ofNat 64 a ||| BitVec.ofNat 64 b = BitVec.ofNat 64 (a ||| b)
  apply BitVec.eq_of_getLsbD_eq; intro i hi; simp [hi]
theorem lN_and (a b : Nat) : lN a &&& lN b = lN (a &&& b) := by
  apply Int64.toBitVec_inj.1
  show BitVec.ofNat 64 a &&& BitVec.ofNat 64 b = BitVec.ofNat 64 (a &&& b)
  apply BitVec.eq_of_getLsbD_eq; intro i hi; simp [hi]
theorem lN_xr (a b : Nat) : lN a ^^^ lN b = lN (a ^^^ b) := by
  apply Int64.toBitVec_inj.1
  show BitVec.ofNat 64 a ^^^ BitVec.ofNat 64 b = BitVec.ofNat 64 (a ^^^ b)
  apply BitVec.eq_of_getLsbD_eq; intro i hi; simp [hi]
theorem sm_I : ∀ k, k < 32 → ((nI k &&& 31).toBitVec.smod 32).toNat = k := by decide +kernel
theorem sm_L : ∀ k, k < 64 → (((nI k).toInt64 &&& 63).toBitVec.smod 64).toNat = k := by decide +kernel
theorem us_L : ∀ k, k < 64 → (((nI k).toInt64.toUInt64 &&& Int64.toUInt64 63).toBitVec % 64).toNat = k := by decide +kernel
theorem nI_shl (a : Nat) {k : Nat} (hk : k < 32) : nI a <<< (nI k &&& 31) = nI (a <<< k) := by
  apply Int32.toBitVec_inj.mp; apply BitVec.eq_of_toNat_eq
  rw [pk_shl _ _ k (sm_I k hk), Nat.shiftLeft_eq]
  show (BitVec.ofNat 32 a).toNat * 2 ^ k % 2 ^ 32 = (BitVec.ofNat 32 (a * 2 ^ k)).toNat
  rw [BitVec.toNat_ofNat, BitVec.toNat_ofNat, Nat.mod_mul_mod]
theorem nI_shr {a k : Nat} (ha : a < 2 ^ 31) (hk : k < 32) : nI a >>> (nI k &&& 31) = nI (a >>> k) := by
  rw [pk_shrN ha _ k (sm_I k hk), Nat.shiftRight_eq_div_pow]
theorem lN_shl (a : Nat) {k : Nat} (hk : k < 64) : lN a <<< ((nI k).toInt64 &&& 63) = lN (a <<< k) := by
  apply Int64.toBitVec_inj.mp; apply BitVec.eq_of_toNat_eq
  show ((lN a).toBitVec <<< (((nI k).toInt64 &&& 63).toBitVec.smod 64)).toNat = _
  rw [BitVec.shiftLeft_eq', BitVec.toNat_shiftLeft, sm_L k hk, Nat.shiftLeft_eq]
  show (BitVec.ofNat 64 a).toNat * 2 ^ k % 2 ^ 64 = (BitVec.ofNat 64 (a <<< k)).toNat
  rw [BitVec.toNat_ofNat, BitVec.toNat_ofNat, Nat.mod_mul_mod, Nat.shiftLeft_eq]
theorem lN_shr {a k : Nat} (ha : a < 2 ^ 63) (hk : k < 64) : lN a >>> ((nI k).toInt64 &&& 63) = lN (a >>> k) := by
  apply Int64.toInt_inj.mp
  have h1 : (lN a >>> ((nI k).toInt64 &&& 63)).toInt = (lN a).toInt >>> k := by
    show ((lN a).toBitVec.sshiftRight' (((nI k).toInt64 &&& 63).toBitVec.smod 64)).toInt = _
    rw [BitVec.sshiftRight', BitVec.toInt_sshiftRight, sm_L k hk]
    rfl
  have h2 : a >>> k ≤ a := by rw [Nat.shiftRight_eq_div_pow]; exact Nat.div_le_self _ _
  rw [h1, pk_lT ha, pk_lT (by omega)]
  rfl
theorem lN_ushr {a k : Nat} (ha : a < 2 ^ 64) (hk : k < 64) : ((lN a).toUInt64 >>> ((nI k).toInt64.toUInt64 &&& Int64.toUInt64 63)).toInt64 = lN (a >>> k) := by
  apply Int64.toBitVec_inj.mp; apply BitVec.eq_of_toNat_eq
  show ((lN a).toBitVec >>> (((nI k).toInt64.toUInt64 &&& Int64.toUInt64 63).toBitVec % 64)).toNat = _
  rw [BitVec.ushiftRight_eq', BitVec.toNat_ushiftRight, us_L k hk]
  have h2 : a >>> k ≤ a := by rw [Nat.shiftRight_eq_div_pow]; exact Nat.div_le_self _ _
  show (BitVec.ofNat 64 a).toNat >>> k = (BitVec.ofNat 64 (a >>> k)).toNat
  rw [BitVec.toNat_ofNat, BitVec.toNat_ofNat, Nat.mod_eq_of_lt ha, Nat.mod_eq_of_lt (by omega)]

section B3
variable {p : Program} {l : Launch} {e : Env} {R : Room} {s : State} {m : MethodId} {args : Array Value} {below : List Frame} {meth : Method} {c : Code} {H : Heap} {locs : List Loc} {cells slots : Nat} {Q : State → Prop} {pc : Nat} {ls : Array Slot} {rest : List Value} {cc : ByteArray}

theorem n_iadd (hx : p.tables.exec = Jvm.exec) (hb : c.code = cc) {x y : Nat}  (hdg : decode cc pc = .ok (.iadd, 1)) (k : W p l e R s m args below meth c H locs cells slots Q (F0 m (pc + 1) ls (.int (nI (x + y)) :: rest))) : W p l e R s m args below meth c H locs cells slots Q (F0 m pc ls (.int (nI y) :: .int (nI x) :: rest)) := lv_iadd hx hb hdg (by rw [nI_add]; exact k)
theorem n_imul (hx : p.tables.exec = Jvm.exec) (hb : c.code = cc) {x y : Nat}  (hdg : decode cc pc = .ok (.imul, 1)) (k : W p l e R s m args below meth c H locs cells slots Q (F0 m (pc + 1) ls (.int (nI (x * y)) :: rest))) : W p l e R s m args below meth c H locs cells slots Q (F0 m pc ls (.int (nI y) :: .int (nI x) :: rest)) := lv_imul hx hb hdg (by rw [pk_mul]; exact k)
theorem n_isub (hx : p.tables.exec = Jvm.exec) (hb : c.code = cc) {x y : Nat} (h : y ≤ x) (hdg : decode cc pc = .ok (.isub, 1)) (k : W p l e R s m args below meth c H locs cells slots Q (F0 m (pc + 1) ls (.int (nI (x - y)) :: rest))) : W p l e R s m args below meth c H locs cells slots Q (F0 m pc ls (.int (nI y) :: .int (nI x) :: rest)) := lv_isub hx hb hdg (by rw [pk_sub h]; exact k)
theorem n_iand (hx : p.tables.exec = Jvm.exec) (hb : c.code = cc) {x y : Nat}  (hdg : decode cc pc = .ok (.iand, 1)) (k : W p l e R s m args below meth c H locs cells slots Q (F0 m (pc + 1) ls (.int (nI (x &&& y)) :: rest))) : W p l e R s m args below meth c H locs cells slots Q (F0 m pc ls (.int (nI y) :: .int (nI x) :: rest)) := lv_iand hx hb hdg (by rw [nI_and]; exact k)
theorem n_ior (hx : p.tables.exec = Jvm.exec) (hb : c.code = cc) {x y : Nat}  (hdg : decode cc pc = .ok (.ior, 1)) (k : W p l e R s m args below meth c H locs cells slots Q (F0 m (pc + 1) ls (.int (nI (x ||| y)) :: rest))) : W p l e R s m args below meth c H locs cells slots Q (F0 m pc ls (.int (nI y) :: .int (nI x) :: rest)) := lv_ior hx hb hdg (by rw [nI_or]; exact k)
theorem n_ixor (hx : p.tables.exec = Jvm.exec) (hb : c.code = cc) {x y : Nat}  (hdg : decode cc pc = .ok (.ixor, 1)) (k : W p l e R s m args below meth c H locs cells slots Q (F0 m (pc + 1) ls (.int (nI (x ^^^ y)) :: rest))) : W p l e R s m args below meth c H locs cells slots Q (F0 m pc ls (.int (nI y) :: .int (nI x) :: rest)) := lv_ixor hx hb hdg (by rw [nI_xor]; exact k)
theorem n_ishl (hx : p.tables.exec = Jvm.exec) (hb : c.code = cc) {x y : Nat} (h : y < 32) (hdg : decode cc pc = .ok (.ishl, 1)) (k : W p l e R s m args below meth c H locs cells slots Q (F0 m (pc + 1) ls (.int (nI (x <<< y)) :: rest))) : W p l e R s m args below meth c H locs cells slots Q (F0 m pc ls (.int (nI y) :: .int (nI x) :: rest)) := lv_ishl hx hb hdg (by rw [nI_shl x h]; exact k)
theorem n_ishr (hx : p.tables.exec = Jvm.exec) (hb : c.code = cc) {x y : Nat} (h1 : x < 2 ^ 31) (h : y < 32) (hdg : decode cc pc = .ok (.ishr, 1)) (k : W p l e R s m args below meth c H locs cells slots Q (F0 m (pc + 1) ls (.int (nI (x >>> y)) :: rest))) : W p l e R s m args below meth c H locs cells slots Q (F0 m pc ls (.int (nI y) :: .int (nI x) :: rest)) := lv_ishr hx hb hdg (by rw [nI_shr h1 h]; exact k)
theorem n_idiv (hx : p.tables.exec = Jvm.exec) (hb : c.code = cc) {x y : Nat} (h1 : x < 2 ^ 31) (h0 : 0 < y) (h2 : y < 2 ^ 31) (hdg : decode cc pc = .ok (.idiv, 1)) (k : W p l e R s m args below meth c H locs cells slots Q (F0 m (pc + 1) ls (.int (nI (x / y)) :: rest))) : W p l e R s m args below meth c H locs cells slots Q (F0 m pc ls (.int (nI y) :: .int (nI x) :: rest)) := lv_idiv hx hb hdg (nI_ne0 h0 h2) (by rw [pk_div h1 h0 (by omega)]; exact k)
theorem n_irem (hx : p.tables.exec = Jvm.exec) (hb : c.code = cc) {x y : Nat} (h1 : x < 2 ^ 31) (h0 : 0 < y) (h2 : y < 2 ^ 31) (hdg : decode cc pc = .ok (.irem, 1)) (k : W p l e R s m args below meth c H locs cells slots Q (F0 m (pc + 1) ls (.int (nI (x % y)) :: rest))) : W p l e R s m args below meth c H locs cells slots Q (F0 m pc ls (.int (nI y) :: .int (nI x) :: rest)) := lv_irem hx hb hdg (nI_ne0 h0 h2) (by rw [pk_rem h1 h0 (by omega)]; exact k)
theorem n_ladd (hx : p.tables.exec = Jvm.exec) (hb : c.code = cc) {x y : Nat}  (hdg : decode cc pc = .ok (.ladd, 1)) (k : W p l e R s m args below meth c H locs cells slots Q (F0 m (pc + 1) ls (.long (lN (x + y)) :: rest))) : W p l e R s m args below meth c H locs cells slots Q (F0 m pc ls (.long (lN y) :: .long (lN x) :: rest)) := lv_ladd hx hb hdg (by rw [lN_add]; exact k)
theorem n_lmul (hx : p.tables.exec = Jvm.exec) (hb : c.code = cc) {x y : Nat}  (hdg : decode cc pc = .ok (.lmul, 1)) (k : W p l e R s m args below meth c H locs cells slots Q (F0 m (pc + 1) ls (.long (lN (x * y)) :: rest))) : W p l e R s m args below meth c H locs cells slots Q (F0 m pc ls (.long (lN y) :: .long (lN x) :: rest)) := lv_lmul hx hb hdg (by rw [lN_mul]; exact k)
theorem n_land (hx : p.tables.exec = Jvm.exec) (hb : c.code = cc) {x y : Nat}  (hdg : decode cc pc = .ok (.land, 1)) (k : W p l e R s m args below meth c H locs cells slots Q (F0 m (pc + 1) ls (.long (lN (x &&& y)) :: rest))) : W p l e R s m args below meth c H locs cells slots Q (F0 m pc ls (.long (lN y) :: .long (lN x) :: rest)) := lv_land hx hb hdg (by rw [lN_and]; exact k)
theorem n_lor (hx : p.tables.exec = Jvm.exec) (hb : c.code = cc) {x y : Nat}  (hdg : decode cc pc = .ok (.lor, 1)) (k : W p l e R s m args below meth c H locs cells slots Q (F0 m (pc + 1) ls (.long (lN (x ||| y)) :: rest))) : W p l e R s m args below meth c H locs cells slots Q (F0 m pc ls (.long (lN y) :: .long (lN x) :: rest)) := lv_lor hx hb hdg (by rw [lN_or]; exact k)
theorem n_lxor (hx : p.tables.exec = Jvm.exec) (hb : c.code = cc) {x y : Nat}  (hdg : decode cc pc = .ok (.lxor, 1)) (k : W p l e R s m args below meth c H locs cells slots Q (F0 m (pc + 1) ls (.long (lN (x ^^^ y)) :: rest))) : W p l e R s m args below meth c H locs cells slots Q (F0 m pc ls (.long (lN y) :: .long (lN x) :: rest)) := lv_lxor hx hb hdg (by rw [lN_xr]; exact k)
theorem n_lshl (hx : p.tables.exec = Jvm.exec) (hb : c.code = cc) {x y : Nat} (h : y < 64) (hdg : decode cc pc = .ok (.lshl, 1)) (k : W p l e R s m args below meth c H locs cells slots Q (F0 m (pc + 1) ls (.long (lN (x <<< y)) :: rest))) : W p l e R s m args below meth c H locs cells slots Q (F0 m pc ls (.int (nI y) :: .long (lN x) :: rest)) := lv_lshl hx hb hdg (lN_shl x h) k
theorem n_lshr (hx : p.tables.exec = Jvm.exec) (hb : c.code = cc) {x y : Nat} (h1 : x < 2 ^ 63) (h : y < 64) (hdg : decode cc pc = .ok (.lshr, 1)) (k : W p l e R s m args below meth c H locs cells slots Q (F0 m (pc + 1) ls (.long (lN (x >>> y)) :: rest))) : W p l e R s m args below meth c H locs cells slots Q (F0 m pc ls (.int (nI y) :: .long (lN x) :: rest)) := lv_lshr hx hb hdg (lN_shr h1 h) k
theorem n_lushr (hx : p.tables.exec = Jvm.exec) (hb : c.code = cc) {x y : Nat} (h1 : x < 2 ^ 64) (h : y < 64) (hdg : decode cc pc = .ok (.lushr, 1)) (k : W p l e R s m args below meth c H locs cells slots Q (F0 m (pc + 1) ls (.long (lN (x >>> y)) :: rest))) : W p l e R s m args below meth c H locs cells slots Q (F0 m pc ls (.int (nI y) :: .long (lN x) :: rest)) := lv_lushr hx hb hdg (lN_ushr h1 h) k
theorem n_i2l (hx : p.tables.exec = Jvm.exec) (hb : c.code = cc) {x : Nat} (h : x < 2 ^ 31) (hdg : decode cc pc = .ok (.i2l, 1)) (k : W p l e R s m args below meth c H locs cells slots Q (F0 m (pc + 1) ls (.long (lN x) :: rest))) : W p l e R s m args below meth c H locs cells slots Q (F0 m pc ls (.int (nI x) :: rest)) := lv_i2l hx hb hdg (nI_l h) k
theorem n_l2i (hx : p.tables.exec = Jvm.exec) (hb : c.code = cc) {x : Nat}  (hdg : decode cc pc = .ok (.l2i, 1)) (k : W p l e R s m args below meth c H locs cells slots Q (F0 m (pc + 1) ls (.int (nI x) :: rest))) : W p l e R s m args below meth c H locs cells slots Q (F0 m pc ls (.long (lN x) :: rest)) := lv_l2i hx hb hdg (lN_i x) k
theorem n_icmp_eq (hx : p.tables.exec = Jvm.exec) (hb : c.code = cc) {x y : Nat} (h1 : x < 2 ^ 31) (h2 : y < 2 ^ 31) {off : Int} {tgt : Nat} (hdg : decode cc pc = .ok (.if_icmp .eq off, 3)) (ht : (pc : Int) + off = (tgt : Int)) (kt : x = y → W p l e R s m args below meth c H locs cells slots Q (F0 m tgt ls (rest))) (kf : x ≠ y → W p l e R s m args below meth c H locs cells slots Q (F0 m (pc + 3) ls (rest))) : W p l e R s m args below meth c H locs cells slots Q (F0 m pc ls (.int (nI y) :: .int (nI x) :: rest)) := lv_icmp_eq hx hb hdg ht (fun h => kt ((nI_eq h1 h2).mp h)) (fun h => kf (fun e => h ((nI_eq h1 h2).mpr e)))
theorem n_icmp_ne (hx : p.tables.exec = Jvm.exec) (hb : c.code = cc) {x y : Nat} (h1 : x < 2 ^ 31) (h2 : y < 2 ^ 31) {off : Int} {tgt : Nat} (hdg : decode cc pc = .ok (.if_icmp .ne off, 3)) (ht : (pc : Int) + off = (tgt : Int)) (kt : x ≠ y → W p l e R s m args below meth c H locs cells slots Q (F0 m tgt ls (rest))) (kf : x = y → W p l e R s m args below meth c H locs cells slots Q (F0 m (pc + 3) ls (rest))) : W p l e R s m args below meth c H locs cells slots Q (F0 m pc ls (.int (nI y) :: .int (nI x) :: rest)) := lv_icmp_ne hx hb hdg ht (fun h => kt (fun e => h ((nI_eq h1 h2).mpr e))) (fun h => kf ((nI_eq h1 h2).mp h))
theorem n_icmp_lt (hx : p.tables.exec = Jvm.exec) (hb : c.code = cc) {x y : Nat} (h1 : x < 2 ^ 31) (h2 : y < 2 ^ 31) {off : Int} {tgt : Nat} (hdg : decode cc pc = .ok (.if_icmp .lt off, 3)) (ht : (pc : Int) + off = (tgt : Int)) (kt : x < y → W p l e R s m args below meth c H locs cells slots Q (F0 m tgt ls (rest))) (kf : y ≤ x → W p l e R s m args below meth c H locs cells slots Q (F0 m (pc + 3) ls (rest))) : W p l e R s m args below meth c H locs cells slots Q (F0 m pc ls (.int (nI y) :: .int (nI x) :: rest)) := lv_icmp_lt hx hb hdg ht (fun h => kt ((nI_ltI h1 h2).mp h)) (fun h => kf (Nat.le_of_not_lt fun e => h ((nI_ltI h1 h2).mpr e)))
theorem n_icmp_ge (hx : p.tables.exec = Jvm.exec) (hb : c.code = cc) {x y : Nat} (h1 : x < 2 ^ 31) (h2 : y < 2 ^ 31) {off : Int} {tgt : Nat} (hdg : decode cc pc = .ok (.if_icmp .ge off, 3)) (ht : (pc : Int) + off = (tgt : Int)) (kt : y ≤ x → W p l e R s m args below meth c H locs cells slots Q (F0 m tgt ls (rest))) (kf : x < y → W p l e R s m args below meth c H locs cells slots Q (F0 m (pc + 3) ls (rest))) : W p l e R s m args below meth c H locs cells slots Q (F0 m pc ls (.int (nI y) :: .int (nI x) :: rest)) := lv_icmp_ge hx hb hdg ht (fun h => kt ((nI_leI h2 h1).mp h)) (fun h => kf (Nat.lt_of_not_le fun e => h ((nI_leI h2 h1).mpr e)))
theorem n_icmp_gt (hx : p.tables.exec = Jvm.exec) (hb : c.code = cc) {x y : Nat} (h1 : x < 2 ^ 31) (h2 : y < 2 ^ 31) {off : Int} {tgt : Nat} (hdg : decode cc pc = .ok (.if_icmp .gt off, 3)) (ht : (pc : Int) + off = (tgt : Int)) (kt : y < x → W p l e R s m args below meth c H locs cells slots Q (F0 m tgt ls (rest))) (kf : x ≤ y → W p l e R s m args below meth c H locs cells slots Q (F0 m (pc + 3) ls (rest))) : W p l e R s m args below meth c H locs cells slots Q (F0 m pc ls (.int (nI y) :: .int (nI x) :: rest)) := lv_icmp_gt hx hb hdg ht (fun h => kt ((nI_ltI h2 h1).mp h)) (fun h => kf (Nat.le_of_not_lt fun e => h ((nI_ltI h2 h1).mpr e)))
theorem n_icmp_le (hx : p.tables.exec = Jvm.exec) (hb : c.code = cc) {x y : Nat} (h1 : x < 2 ^ 31) (h2 : y < 2 ^ 31) {off : Int} {tgt : Nat} (hdg : decode cc pc = .ok (.if_icmp .le off, 3)) (ht : (pc : Int) + off = (tgt : Int)) (kt : x ≤ y → W p l e R s m args below meth c H locs cells slots Q (F0 m tgt ls (rest))) (kf : y < x → W p l e R s m args below meth c H locs cells slots Q (F0 m (pc + 3) ls (rest))) : W p l e R s m args below meth c H locs cells slots Q (F0 m pc ls (.int (nI y) :: .int (nI x) :: rest)) := lv_icmp_le hx hb hdg ht (fun h => kt ((nI_leI h1 h2).mp h)) (fun h => kf (Nat.lt_of_not_le fun e => h ((nI_leI h1 h2).mpr e)))
theorem n_if_eq (hx : p.tables.exec = Jvm.exec) (hb : c.code = cc) {x : Nat} (h1 : x < 2 ^ 31) {off : Int} {tgt : Nat} (hdg : decode cc pc = .ok (.ifCond .eq off, 3)) (ht : (pc : Int) + off = (tgt : Int)) (kt : x = 0 → W p l e R s m args below meth c H locs cells slots Q (F0 m tgt ls (rest))) (kf : x ≠ 0 → W p l e R s m args below meth c H locs cells slots Q (F0 m (pc + 3) ls (rest))) : W p l e R s m args below meth c H locs cells slots Q (F0 m pc ls (.int (nI x) :: rest)) := lv_if_eq hx hb hdg ht (fun h => kt ((nI_eq h1 (by decide)).mp h)) (fun h => kf (fun e => h (by rw [e]; rfl)))
theorem n_if_ne (hx : p.tables.exec = Jvm.exec) (hb : c.code = cc) {x : Nat} (h1 : x < 2 ^ 31) {off : Int} {tgt : Nat} (hdg : decode cc pc = .ok (.ifCond .ne off, 3)) (ht : (pc : Int) + off = (tgt : Int)) (kt : x ≠ 0 → W p l e R s m args below meth c H locs cells slots Q (F0 m tgt ls (rest))) (kf : x = 0 → W p l e R s m args below meth c H locs cells slots Q (F0 m (pc + 3) ls (rest))) : W p l e R s m args below meth c H locs cells slots Q (F0 m pc ls (.int (nI x) :: rest)) := lv_if_ne hx hb hdg ht (fun h => kt (fun e => h (by rw [e]; rfl))) (fun h => kf ((nI_eq h1 (by decide)).mp h))
theorem n_if_gt (hx : p.tables.exec = Jvm.exec) (hb : c.code = cc) {x : Nat} (h1 : x < 2 ^ 31) {off : Int} {tgt : Nat} (hdg : decode cc pc = .ok (.ifCond .gt off, 3)) (ht : (pc : Int) + off = (tgt : Int)) (kt : 0 < x → W p l e R s m args below meth c H locs cells slots Q (F0 m tgt ls (rest))) (kf : x = 0 → W p l e R s m args below meth c H locs cells slots Q (F0 m (pc + 3) ls (rest))) : W p l e R s m args below meth c H locs cells slots Q (F0 m pc ls (.int (nI x) :: rest)) := lv_if_gt hx hb hdg ht (fun h => kt ((nI_ltI (by decide) h1).mp h)) (fun h => kf (Nat.eq_zero_of_not_pos fun e => h ((nI_ltI (by decide) h1).mpr e)))
theorem n_if_le (hx : p.tables.exec = Jvm.exec) (hb : c.code = cc) {x : Nat} (h1 : x < 2 ^ 31) {off : Int} {tgt : Nat} (hdg : decode cc pc = .ok (.ifCond .le off, 3)) (ht : (pc : Int) + off = (tgt : Int)) (kt : x = 0 → W p l e R s m args below meth c H locs cells slots Q (F0 m tgt ls (rest))) (kf : 0 < x → W p l e R s m args below meth c H locs cells slots Q (F0 m (pc + 3) ls (rest))) : W p l e R s m args below meth c H locs cells slots Q (F0 m pc ls (.int (nI x) :: rest)) := lv_if_le hx hb hdg ht (fun h => kt (Nat.le_zero.mp ((nI_leI h1 (by decide)).mp h))) (fun h => kf (Nat.lt_of_not_le fun e => h ((nI_leI h1 (by decide)).mpr e)))
theorem n_if_lt (hx : p.tables.exec = Jvm.exec) (hb : c.code = cc) {x : Nat} (h1 : x < 2 ^ 31) {off : Int} {tgt : Nat} (hdg : decode cc pc = .ok (.ifCond .lt off, 3)) (ht : (pc : Int) + off = (tgt : Int)) (kf : W p l e R s m args below meth c H locs cells slots Q (F0 m (pc + 3) ls (rest))) : W p l e R s m args below meth c H locs cells slots Q (F0 m pc ls (.int (nI x) :: rest)) := lv_if_lt hx hb hdg ht (fun h => absurd h (nI_pos h1)) (fun _ => kf)
theorem n_if_ge (hx : p.tables.exec = Jvm.exec) (hb : c.code = cc) {x : Nat} (h1 : x < 2 ^ 31) {off : Int} {tgt : Nat} (hdg : decode cc pc = .ok (.ifCond .ge off, 3)) (ht : (pc : Int) + off = (tgt : Int)) (kt : W p l e R s m args below meth c H locs cells slots Q (F0 m tgt ls (rest))) : W p l e R s m args below meth c H locs cells slots Q (F0 m pc ls (.int (nI x) :: rest)) := lv_if_ge hx hb hdg ht (fun _ => kt) (fun h => absurd (nI_pos' h1) h)
theorem b_if_eq (hx : p.tables.exec = Jvm.exec) (hb : c.code = cc) {b : Bool} {off : Int} {tgt : Nat} (hdg : decode cc pc = .ok (.ifCond .eq off, 3)) (ht : (pc : Int) + off = (tgt : Int)) (kt : b = false → W p l e R s m args below meth c H locs cells slots Q (F0 m tgt ls (rest))) (kf : b = true → W p l e R s m args below meth c H locs cells slots Q (F0 m (pc + 3) ls (rest))) : W p l e R s m args below meth c H locs cells slots Q (F0 m pc ls (.int (bI b) :: rest)) := lv_if_eq hx hb hdg ht (fun h => kt (bI_0 h)) (fun h => kf (bI_1 h))
theorem b_if_ne (hx : p.tables.exec = Jvm.exec) (hb : c.code = cc) {b : Bool} {off : Int} {tgt : Nat} (hdg : decode cc pc = .ok (.ifCond .ne off, 3)) (ht : (pc : Int) + off = (tgt : Int)) (kt : b = true → W p l e R s m args below meth c H locs cells slots Q (F0 m tgt ls (rest))) (kf : b = false → W p l e R s m args below meth c H locs cells slots Q (F0 m (pc + 3) ls (rest))) : W p l e R s m args below meth c H locs cells slots Q (F0 m pc ls (.int (bI b) :: rest)) := lv_if_ne hx hb hdg ht (fun h => kt (bI_1 h)) (fun h => kf (bI_0 h))
theorem n_lcmp_eq (hx : p.tables.exec = Jvm.exec) (hb : c.code = cc) {x y : Nat} (h1 : x < 2 ^ 63) (h2 : y < 2 ^ 63) {off : Int} {tgt : Nat} (hdg0 : decode cc pc = .ok (.lcmp, 1)) (hdg : decode cc (pc + 1) = .ok (.ifCond .eq off, 3)) (ht : ((pc + 1 : Nat) : Int) + off = (tgt : Int)) (kt : x = y → W p l e R s m args below meth c H locs cells slots Q (F0 m tgt ls (rest))) (kf : x ≠ y → W p l e R s m args below meth c H locs cells slots Q (F0 m (pc + 1 + 3) ls (rest))) : W p l e R s m args below meth c H locs cells slots Q (F0 m pc ls (.long (lN y) :: .long (lN x) :: rest)) := by
  refine W.lcmp hx hb hdg0 ?_
  rcases Nat.lt_trichotomy x y with h3 | h3 | h3
  · have hv : lg_cmp (lN x) (lN y) = -1 := by
      rw [lg_cmp, if_neg (fun h => absurd ((pk_lLT h2 h1).mp h) (by omega)), if_neg (fun h => absurd ((pk_lEQ h1 h2).mp h) (by omega))]
    rw [hv]
    exact lv_if_eq hx hb hdg ht (fun h => kt (by first | omega | exact absurd h (by decide))) (fun h => kf (by first | omega | exact absurd (by decide) h | exact absurd h (by decide)))
  · have hv : lg_cmp (lN x) (lN y) = 0 := by
      rw [lg_cmp, if_neg (fun h => absurd ((pk_lLT h2 h1).mp h) (by omega)), if_pos (by rw [h3])]
    rw [hv]
    exact lv_if_eq hx hb hdg ht (fun h => kt (by first | omega | exact absurd h (by decide) | exact absurd rfl h)) (fun h => kf (by first | omega | exact absurd (by decide) h | exact absurd h (by decide)))
  · have hv : lg_cmp (lN x) (lN y) = 1 := by
      rw [lg_cmp, if_pos ((pk_lLT h2 h1).mpr h3)]
    rw [hv]
    exact lv_if_eq hx hb hdg ht (fun h => kt (by first | omega | exact absurd h (by decide))) (fun h => kf (by first | omega | exact absurd (by decide) h | exact absurd h (by decide)))
theorem n_lcmp_ne (hx : p.tables.exec = Jvm.exec) (hb : c.code = cc) {x y : Nat} (h1 : x < 2 ^ 63) (h2 : y < 2 ^ 63) {off : Int} {tgt : Nat} (hdg0 : decode cc pc = .ok (.lcmp, 1)) (hdg : decode cc (pc + 1) = .ok (.ifCond .ne off, 3)) (ht : ((pc + 1 : Nat) : Int) + off = (tgt : Int)) (kt : x ≠ y → W p l e R s m args below meth c H locs cells slots Q (F0 m tgt ls (rest))) (kf : x = y → W p l e R s m args below meth c H locs cells slots Q (F0 m (pc + 1 + 3) ls (rest))) : W p l e R s m args below meth c H locs cells slots Q (F0 m pc ls (.long (lN y) :: .long (lN x) :: rest)) := by
  refine W.lcmp hx hb hdg0 ?_
  rcases Nat.lt_trichotomy x y with h3 | h3 | h3
  · have hv : lg_cmp (lN x) (lN y) = -1 := by
      rw [lg_cmp, if_neg (fun h => absurd ((pk_lLT h2 h1).mp h) (by omega)), if_neg (fun h => absurd ((pk_lEQ h1 h2).mp h) (by omega))]
    rw [hv]
    exact lv_if_ne hx hb hdg ht (fun h => kt (by first | omega | exact absurd h (by decide))) (fun h => kf (by first | omega | exact absurd (by decide) h | exact absurd h (by decide)))
  · have hv : lg_cmp (lN x) (lN y) = 0 := by
      rw [lg_cmp, if_neg (fun h => absurd ((pk_lLT h2 h1).mp h) (by omega)), if_pos (by rw [h3])]
    rw [hv]
    exact lv_if_ne hx hb hdg ht (fun h => kt (by first | omega | exact absurd h (by decide) | exact absurd rfl h)) (fun h => kf (by first | omega | exact absurd (by decide) h | exact absurd h (by decide)))
  · have hv : lg_cmp (lN x) (lN y) = 1 := by
      rw [lg_cmp, if_pos ((pk_lLT h2 h1).mpr h3)]
    rw [hv]
    exact lv_if_ne hx hb hdg ht (fun h => kt (by first | omega | exact absurd h (by decide))) (fun h => kf (by first | omega | exact absurd (by decide) h | exact absurd h (by decide)))
theorem n_lcmp_le (hx : p.tables.exec = Jvm.exec) (hb : c.code = cc) {x y : Nat} (h1 : x < 2 ^ 63) (h2 : y < 2 ^ 63) {off : Int} {tgt : Nat} (hdg0 : decode cc pc = .ok (.lcmp, 1)) (hdg : decode cc (pc + 1) = .ok (.ifCond .le off, 3)) (ht : ((pc + 1 : Nat) : Int) + off = (tgt : Int)) (kt : x ≤ y → W p l e R s m args below meth c H locs cells slots Q (F0 m tgt ls (rest))) (kf : y < x → W p l e R s m args below meth c H locs cells slots Q (F0 m (pc + 1 + 3) ls (rest))) : W p l e R s m args below meth c H locs cells slots Q (F0 m pc ls (.long (lN y) :: .long (lN x) :: rest)) := by
  refine W.lcmp hx hb hdg0 ?_
  rcases Nat.lt_trichotomy x y with h3 | h3 | h3
  · have hv : lg_cmp (lN x) (lN y) = -1 := by
      rw [lg_cmp, if_neg (fun h => absurd ((pk_lLT h2 h1).mp h) (by omega)), if_neg (fun h => absurd ((pk_lEQ h1 h2).mp h) (by omega))]
    rw [hv]
    exact lv_if_le hx hb hdg ht (fun h => kt (by first | omega | exact absurd h (by decide))) (fun h => kf (by first | omega | exact absurd (by decide) h | exact absurd h (by decide)))
  · have hv : lg_cmp (lN x) (lN y) = 0 := by
      rw [lg_cmp, if_neg (fun h => absurd ((pk_lLT h2 h1).mp h) (by omega)), if_pos (by rw [h3])]
    rw [hv]
    exact lv_if_le hx hb hdg ht (fun h => kt (by first | omega | exact absurd h (by decide) | exact absurd rfl h)) (fun h => kf (by first | omega | exact absurd (by decide) h | exact absurd h (by decide)))
  · have hv : lg_cmp (lN x) (lN y) = 1 := by
      rw [lg_cmp, if_pos ((pk_lLT h2 h1).mpr h3)]
    rw [hv]
    exact lv_if_le hx hb hdg ht (fun h => kt (by first | omega | exact absurd h (by decide))) (fun h => kf (by first | omega | exact absurd (by decide) h | exact absurd h (by decide)))
theorem n_lcmp_gt (hx : p.tables.exec = Jvm.exec) (hb : c.code = cc) {x y : Nat} (h1 : x < 2 ^ 63) (h2 : y < 2 ^ 63) {off : Int} {tgt : Nat} (hdg0 : decode cc pc = .ok (.lcmp, 1)) (hdg : decode cc (pc + 1) = .ok (.ifCond .gt off, 3)) (ht : ((pc + 1 : Nat) : Int) + off = (tgt : Int)) (kt : y < x → W p l e R s m args below meth c H locs cells slots Q (F0 m tgt ls (rest))) (kf : x ≤ y → W p l e R s m args below meth c H locs cells slots Q (F0 m (pc + 1 + 3) ls (rest))) : W p l e R s m args below meth c H locs cells slots Q (F0 m pc ls (.long (lN y) :: .long (lN x) :: rest)) := by
  refine W.lcmp hx hb hdg0 ?_
  rcases Nat.lt_trichotomy x y with h3 | h3 | h3
  · have hv : lg_cmp (lN x) (lN y) = -1 := by
      rw [lg_cmp, if_neg (fun h => absurd ((pk_lLT h2 h1).mp h) (by omega)), if_neg (fun h => absurd ((pk_lEQ h1 h2).mp h) (by omega))]
    rw [hv]
    exact lv_if_gt hx hb hdg ht (fun h => kt (by first | omega | exact absurd h (by decide))) (fun h => kf (by first | omega | exact absurd (by decide) h | exact absurd h (by decide)))
  · have hv : lg_cmp (lN x) (lN y) = 0 := by
      rw [lg_cmp, if_neg (fun h => absurd ((pk_lLT h2 h1).mp h) (by omega)), if_pos (by rw [h3])]
    rw [hv]
    exact lv_if_gt hx hb hdg ht (fun h => kt (by first | omega | exact absurd h (by decide) | exact absurd rfl h)) (fun h => kf (by first | omega | exact absurd (by decide) h | exact absurd h (by decide)))
  · have hv : lg_cmp (lN x) (lN y) = 1 := by
      rw [lg_cmp, if_pos ((pk_lLT h2 h1).mpr h3)]
    rw [hv]
    exact lv_if_gt hx hb hdg ht (fun h => kt (by first | omega | exact absurd h (by decide))) (fun h => kf (by first | omega | exact absurd (by decide) h | exact absurd h (by decide)))
theorem n_lcmp_lt (hx : p.tables.exec = Jvm.exec) (hb : c.code = cc) {x y : Nat} (h1 : x < 2 ^ 63) (h2 : y < 2 ^ 63) {off : Int} {tgt : Nat} (hdg0 : decode cc pc = .ok (.lcmp, 1)) (hdg : decode cc (pc + 1) = .ok (.ifCond .lt off, 3)) (ht : ((pc + 1 : Nat) : Int) + off = (tgt : Int)) (kt : x < y → W p l e R s m args below meth c H locs cells slots Q (F0 m tgt ls (rest))) (kf : y ≤ x → W p l e R s m args below meth c H locs cells slots Q (F0 m (pc + 1 + 3) ls (rest))) : W p l e R s m args below meth c H locs cells slots Q (F0 m pc ls (.long (lN y) :: .long (lN x) :: rest)) := by
  refine W.lcmp hx hb hdg0 ?_
  rcases Nat.lt_trichotomy x y with h3 | h3 | h3
  · have hv : lg_cmp (lN x) (lN y) = -1 := by
      rw [lg_cmp, if_neg (fun h => absurd ((pk_lLT h2 h1).mp h) (by omega)), if_neg (fun h => absurd ((pk_lEQ h1 h2).mp h) (by omega))]
    rw [hv]
    exact lv_if_lt hx hb hdg ht (fun h => kt (by first | omega | exact absurd h (by decide))) (fun h => kf (by first | omega | exact absurd (by decide) h | exact absurd h (by decide)))
  · have hv : lg_cmp (lN x) (lN y) = 0 := by
      rw [lg_cmp, if_neg (fun h => absurd ((pk_lLT h2 h1).mp h) (by omega)), if_pos (by rw [h3])]
    rw [hv]
    exact lv_if_lt hx hb hdg ht (fun h => kt (by first | omega | exact absurd h (by decide) | exact absurd rfl h)) (fun h => kf (by first | omega | exact absurd (by decide) h | exact absurd h (by decide)))
  · have hv : lg_cmp (lN x) (lN y) = 1 := by
      rw [lg_cmp, if_pos ((pk_lLT h2 h1).mpr h3)]
    rw [hv]
    exact lv_if_lt hx hb hdg ht (fun h => kt (by first | omega | exact absurd h (by decide))) (fun h => kf (by first | omega | exact absurd (by decide) h | exact absurd h (by decide)))
theorem n_lcmp_ge (hx : p.tables.exec = Jvm.exec) (hb : c.code = cc) {x y : Nat} (h1 : x < 2 ^ 63) (h2 : y < 2 ^ 63) {off : Int} {tgt : Nat} (hdg0 : decode cc pc = .ok (.lcmp, 1)) (hdg : decode cc (pc + 1) = .ok (.ifCond .ge off, 3)) (ht : ((pc + 1 : Nat) : Int) + off = (tgt : Int)) (kt : y ≤ x → W p l e R s m args below meth c H locs cells slots Q (F0 m tgt ls (rest))) (kf : x < y → W p l e R s m args below meth c H locs cells slots Q (F0 m (pc + 1 + 3) ls (rest))) : W p l e R s m args below meth c H locs cells slots Q (F0 m pc ls (.long (lN y) :: .long (lN x) :: rest)) := by
  refine W.lcmp hx hb hdg0 ?_
  rcases Nat.lt_trichotomy x y with h3 | h3 | h3
  · have hv : lg_cmp (lN x) (lN y) = -1 := by
      rw [lg_cmp, if_neg (fun h => absurd ((pk_lLT h2 h1).mp h) (by omega)), if_neg (fun h => absurd ((pk_lEQ h1 h2).mp h) (by omega))]
    rw [hv]
    exact lv_if_ge hx hb hdg ht (fun h => kt (by first | omega | exact absurd h (by decide))) (fun h => kf (by first | omega | exact absurd (by decide) h | exact absurd h (by decide)))
  · have hv : lg_cmp (lN x) (lN y) = 0 := by
      rw [lg_cmp, if_neg (fun h => absurd ((pk_lLT h2 h1).mp h) (by omega)), if_pos (by rw [h3])]
    rw [hv]
    exact lv_if_ge hx hb hdg ht (fun h => kt (by first | omega | exact absurd h (by decide) | exact absurd rfl h)) (fun h => kf (by first | omega | exact absurd (by decide) h | exact absurd h (by decide)))
  · have hv : lg_cmp (lN x) (lN y) = 1 := by
      rw [lg_cmp, if_pos ((pk_lLT h2 h1).mpr h3)]
    rw [hv]
    exact lv_if_ge hx hb hdg ht (fun h => kt (by first | omega | exact absurd h (by decide))) (fun h => kf (by first | omega | exact absurd (by decide) h | exact absurd h (by decide)))
end B3
