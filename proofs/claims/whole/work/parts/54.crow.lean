/-! ===== a few more rows, for the class ===== -/
theorem us_I : ∀ k, k < 32 → (((nI k).toUInt32 &&& Int32.toUInt32 31).toBitVec % 32).toNat = k := by decide +kernel
theorem nI_ushr {a k : Nat} (ha : a < 2 ^ 32) (hk : k < 32) : ((nI a).toUInt32 >>> ((nI k).toUInt32 &&& Int32.toUInt32 31)).toInt32 = nI (a >>> k) := by
  apply Int32.toBitVec_inj.mp; apply BitVec.eq_of_toNat_eq
  show ((nI a).toBitVec >>> (((nI k).toUInt32 &&& Int32.toUInt32 31).toBitVec % 32)).toNat = _
  rw [BitVec.ushiftRight_eq', BitVec.toNat_ushiftRight, us_I k hk]
  have h2 : a >>> k ≤ a := by rw [Nat.shiftRight_eq_div_pow]; exact Nat.div_le_self _ _
  show (BitVec.ofNat 32 a).toNat >>> k = (BitVec.ofNat 32 (a >>> k)).toNat
  rw [BitVec.toNat_ofNat, BitVec.toNat_ofNat, Nat.mod_eq_of_lt ha, Nat.mod_eq_of_lt (by omega)]
theorem lN_mod (a : Nat) : lN a = lN (a % 18446744073709551616) := by
  apply Int64.toBitVec_inj.mp; apply BitVec.eq_of_toNat_eq
  show (BitVec.ofNat 64 a).toNat = (BitVec.ofNat 64 (a % 18446744073709551616)).toNat
  rw [BitVec.toNat_ofNat, BitVec.toNat_ofNat]; omega
theorem nI_mod (a : Nat) : nI a = nI (a % 4294967296) := by
  apply Int32.toBitVec_inj.mp; apply BitVec.eq_of_toNat_eq
  show (BitVec.ofNat 32 a).toNat = (BitVec.ofNat 32 (a % 4294967296)).toNat
  rw [BitVec.toNat_ofNat, BitVec.toNat_ofNat]; omega
section B5
variable {p : Program} {l : Launch} {e : Env} {R : Room} {s : State} {m : MethodId} {args : Array Value} {below : List Frame} {meth : Method} {c : Code} {H : Heap} {locs : List Loc} {cells slots : Nat} {Q : State → Prop} {pc : Nat} {ls : Array Slot} {rest : List Value} {cc : ByteArray}
theorem n_iushr (hx : p.tables.exec = Jvm.exec) (hb : c.code = cc) {x y : Nat} (h1 : x < 2 ^ 32) (h : y < 32) (hdg : decode cc pc = .ok (.iushr, 1)) (k : W p l e R s m args below meth c H locs cells slots Q (F0 m (pc + 1) ls (.int (nI (x >>> y)) :: rest))) : W p l e R s m args below meth c H locs cells slots Q (F0 m pc ls (.int (nI y) :: .int (nI x) :: rest)) := lv_iushr hx hb hdg (nI_ushr h1 h) k
end B5
theorem one_le_shl (k : Nat) : 1 ≤ 1 <<< k := by rw [Nat.shiftLeft_eq]; exact Nat.mul_pos (by decide) (Nat.two_pow_pos k)
theorem nO_rw {x0 k : Nat} : x0 >>> (16 + 4 * k) &&& 15 = nO x0 k := rfl
