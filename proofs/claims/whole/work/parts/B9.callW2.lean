/-! ===== a call's fields by number; a call brought to the front ===== -/
def cvv (q t p r b a : Nat) : Nat → Nat
  | 0 => q
  | 1 => t
  | 2 => p
  | 3 => r
  | 4 => b
  | _ => a
theorem tell_perm {a b c d : Nat × va_E} {L M : va_W} : List.Perm (a :: b :: d :: (L ++ (c :: M))) ([c, b] ++ (a :: d :: (L ++ M))) :=
  (((List.perm_middle.cons d).cons b).cons a).trans ((((List.Perm.swap c d _).cons b).cons a).trans (((List.Perm.swap c b _).cons a).trans ((List.Perm.swap c a _).trans ((List.Perm.swap b a _).cons c))))
def okt (E : EE) (ca ra : Nat → Nat) (ao : Nat) (C : Nat → Nat) (tr : Int32) : va_W := [oC ca ra ao C, (ca 3, .inr (7, [.int tr]))]
theorem md_new {Z : Nat → Nat → Nat} {k q0 : Nat} {v : Nat → Nat} {md : Nat → Option Nat} (h : ∀ i, i < k → md i = some (Z 0 i)) (hv : v 0 = q0) : ∀ i, i < k + 1 → va_up md k (some q0) i = some ((fun c => va_up (Z c) k (v c)) 0 i) := fun i hi => by
  show _ = some (va_up (Z 0) k (v 0) i)
  by_cases e : i = k
  · rw [e, vu_s, vu_s, hv]
  · rw [vu_n _ _ e, vu_n _ _ e]; exact h i (by omega)
theorem tl_2 {n : Nat} {cP cQ : Nat → Nat} {c : Nat} (h : knd n cP cQ c = 2) : tellV n cP cQ c = 10 * cP c + cQ c + 100 * (bitsN (lrn n cP cQ c (cP c)) 16 + bitsN (lrn n cP cQ c (cQ c)) 16) + (10 * cP c + cQ c) := by
  unfold tellV newsN; rw [h, if_neg (by decide), if_pos rfl]; omega
theorem tl_1 {n : Nat} {cP cQ : Nat → Nat} {c : Nat} (h : knd n cP cQ c = 1) : tellV n cP cQ c = 10 * cP c + cQ c + 100 * (bitsN (lrn n cP cQ c (cP c)) 16 + bitsN (lrn n cP cQ c (cQ c)) 16) := by
  unfold tellV newsN; rw [h, if_pos rfl]
theorem tl_0 {n : Nat} {cP cQ : Nat → Nat} {c : Nat} (h : knd n cP cQ c = 0) : tellV n cP cQ c = 10 * cP c + cQ c := by
  unfold tellV; rw [h, if_neg (by decide), if_neg (by decide)]
