/-! Objects: reading. -/
theorem l64 {n : Nat} (h : n < 2147483648) : (nI n).toInt64 = Int64.ofNat n := by
  apply Int64.toInt_inj.mp
  rw [Int32.toInt_toInt64, nI_toInt h, Int64.toInt_ofNat_of_lt (by omega)]
theorem ofN32 {n : Nat} (h : n < 2147483648) : (Int64.ofNat n).toInt32 = nI n := by
  apply Int32.toInt_inj.mp
  rw [Int64.toInt_toInt32, nI_toInt h, Int64.toInt_ofNat_of_lt (by omega)]
  rw [Int.bmod_eq_of_le] <;> omega
theorem idx64 {v : Int64} {z : Nat} (hz : z < 2147483648) (h0 : ¬ v < 0) (h1 : v < Int64.ofNat z) : ∃ i, i < z ∧ v = Int64.ofNat i := by
  have a := Int64.lt_iff_toInt_lt.mp h1
  have b : ¬ v.toInt < (0 : Int64).toInt := fun q => h0 (Int64.lt_iff_toInt_lt.mpr q)
  rw [Int64.toInt_ofNat_of_lt (by omega)] at a
  have b2 : ¬ v.toInt < 0 := b
  refine ⟨v.toInt.toNat, by omega, ?_⟩
  apply Int64.toInt_inj.mp
  rw [Int64.toInt_ofNat_of_lt (by omega)]
  omega
theorem nlt0 (n : Nat) (h : n < 2147483648) : ¬ Int64.ofNat n < 0 := fun q => by
  have := Int64.lt_iff_toInt_lt.mp q
  rw [Int64.toInt_ofNat_of_lt (by omega)] at this
  have h2 : (n : Int) < 0 := this
  omega
theorem lt64 {a b : Nat} (ha : a < 2147483648) (hb : b < 2147483648) : Int64.ofNat a < Int64.ofNat b ↔ a < b := by
  rw [Int64.lt_iff_toInt_lt, Int64.toInt_ofNat_of_lt (by omega), Int64.toInt_ofNat_of_lt (by omega)]
  omega
theorem le64 {a b : Nat} (ha : a < 2147483648) (hb : b < 2147483648) : Int64.ofNat a ≤ Int64.ofNat b ↔ a ≤ b := by
  rw [Int64.le_iff_toInt_le, Int64.toInt_ofNat_of_lt (by omega), Int64.toInt_ofNat_of_lt (by omega)]
  omega
theorem eq64 {a b : Nat} (ha : a < 2147483648) (hb : b < 2147483648) : Int64.ofNat a = Int64.ofNat b ↔ a = b := by
  rw [← Int64.toInt_inj, Int64.toInt_ofNat_of_lt (by omega), Int64.toInt_ofNat_of_lt (by omega)]
  omega
theorem f_58n {G : jG} {t g : Nat} {S : sS} (hg : g < 2) : F_58 G t (nI g - nI 2) S = some (none, S) := by
  rcases (show g = 0 ∨ g = 1 by omega) with rfl | rfl <;> rfl
set_option maxHeartbeats 4000000 in
set_option linter.unusedSimpArgs false in
theorem f_58o {G : jG} {t h : Nat} {S : sS} (hh : h < 600) : F_58 G t (nI (h + 2) - nI 2) S = some ((S.2.2.1.2 h).map fun p => (p, 0), S) := by
  unfold F_58
  simp (disch := first | assumption | omega) only [gI, gI2, gL, gL1, gL2, jcLT, jcGE, jcGT, jcLE, jcEQ, jcNE, dEQ, nIt, lgNE, lgEQ, lgGE, lgLT, lgGT, lgLE, jinT, nIc, nI0, nI1, nIo, nIs, nI_add, nIm, nIn0, szl0, szl1, szl2, szl3, szl4, szl5, Nat.add_sub_assoc, Nat.add_zero, Nat.reduceSub, Nat.reduceAdd, Nat.reduceMul, Nat.reduceEqDiff,  jifT, bdS, sifN, sifS, omN, omS, cdI, x25, x26, x27, x28, x29, x30, x31, x32, xr0, xr1, xr2, xr3, xr4, xr5, if_pos, if_neg, true_and, and_true, false_and, and_false, and_self, Bool.and_true, if_true, if_false, reduceIte, cond_true, cond_false, not_true_eq_false, not_false_eq_true]
theorem f_87n {G : jG} {t g : Nat} {ty : Int32} {S : sS} (hg : g < 2) : F_87 G t (nI g) ty S = some (none, S) := by
  unfold F_87
  rw [f_58n hg]
  rfl
set_option maxHeartbeats 4000000 in
set_option linter.unusedSimpArgs false in
theorem f_87o {G : jG} {t h p k ty : Nat} {S : sS} (hh : h < 600) (hp : S.2.2.1.2 h = some p) (hM : S.2.2.2.1.2 p = true) (hk : S.1 32 p 0 1 = nI k) (hk2 : k ≤ 3) (hty : ty ≤ 3) : F_87 G t (nI (h + 2)) (nI ty) S = some (if k = ty then some (p, 0) else none, S) := by
  unfold F_87
  rw [f_58o hh, hp]
  by_cases c : k = ty
  · simp (disch := first | assumption | omega) only [gI, gI2, gL, gL1, gL2, jcLT, jcGE, jcGT, jcLE, jcEQ, jcNE, dEQ, nIt, lgNE, lgEQ, lgGE, lgLT, lgGT, lgLE, jinT, nIc, nI0, nI1, nIo, nIs, nI_add, nIm, nIn0, szl0, szl1, szl2, szl3, szl4, szl5, Nat.add_sub_assoc, Nat.add_zero, Nat.reduceSub, Nat.reduceAdd, Nat.reduceMul, Nat.reduceEqDiff,  jifT, bdS, sifN, sifS, omN, omS, cdI, x25, x26, x27, x28, x29, x30, x31, x32, xr0, xr1, xr2, xr3, xr4, xr5, if_pos, if_neg, true_and, and_true, false_and, and_false, and_self, Bool.and_true, if_true, if_false, reduceIte, cond_true, cond_false, not_true_eq_false, not_false_eq_true, hM, hk]
  · simp (disch := first | assumption | omega) only [gI, gI2, gL, gL1, gL2, jcLT, jcGE, jcGT, jcLE, jcEQ, jcNE, dEQ, nIt, lgNE, lgEQ, lgGE, lgLT, lgGT, lgLE, jinT, nIc, nI0, nI1, nIo, nIs, nI_add, nIm, nIn0, szl0, szl1, szl2, szl3, szl4, szl5, Nat.add_sub_assoc, Nat.add_zero, Nat.reduceSub, Nat.reduceAdd, Nat.reduceMul, Nat.reduceEqDiff,  jifT, bdS, sifN, sifS, omN, omS, cdI, x25, x26, x27, x28, x29, x30, x31, x32, xr0, xr1, xr2, xr3, xr4, xr5, if_pos, if_neg, true_and, and_true, false_and, and_false, and_self, Bool.and_true, if_true, if_false, reduceIte, cond_true, cond_false, not_true_eq_false, not_false_eq_true, hM, hk]
set_option maxHeartbeats 4000000 in
set_option linter.unusedSimpArgs false in
theorem f_170n {G : jG} {t k : Nat} {v : Int64} {ty : Int32} {T : sS} (hk : k < 2) : F_170 G t (nI k) v ty T = some (nI 0, T) := by
  unfold F_170
  simp (disch := first | assumption | omega) only [gI, gI2, gL, gL1, gL2, jcLT, jcGE, jcGT, jcLE, jcEQ, jcNE, dEQ, nIt, lgNE, lgEQ, lgGE, lgLT, lgGT, lgLE, jinT, nIc, nI0, nI1, nIo, nIs, nI_add, nIm, nIn0, szl0, szl1, szl2, szl3, szl4, szl5, Nat.add_sub_assoc, Nat.add_zero, Nat.reduceSub, Nat.reduceAdd, Nat.reduceMul, Nat.reduceEqDiff,  jifT, bdS, sifN, sifS, omN, omS, cdI, x25, x26, x27, x28, x29, x30, x31, x32, xr0, xr1, xr2, xr3, xr4, xr5, if_pos, if_neg, true_and, and_true, false_and, and_false, and_self, Bool.and_true, if_true, if_false, reduceIte, cond_true, cond_false, not_true_eq_false, not_false_eq_true, x51, x52, x53, x54, x55, x56, x57, x58, x59, x60, x61, x62, x63]
set_option maxHeartbeats 4000000 in
set_option linter.unusedSimpArgs false in
theorem f_170o {G : jG} {t k q ty : Nat} {T : sS} (hq : q < 1300) (hk : T.1 51 q 0 0 = nI k) (hk2 : k ≤ 3) (hty : ty ≤ 3) : F_170 G t (nI 2) (Int64.ofNat q) (nI ty) T = some (nI (if k = ty then 1 else 0), T) := by
  unfold F_170
  by_cases c : k = ty
  · simp (disch := first | assumption | omega) only [gI, gI2, gL, gL1, gL2, jcLT, jcGE, jcGT, jcLE, jcEQ, jcNE, dEQ, nIt, lgNE, lgEQ, lgGE, lgLT, lgGT, lgLE, jinT, nIc, nI0, nI1, nIo, nIs, nI_add, nIm, nIn0, szl0, szl1, szl2, szl3, szl4, szl5, Nat.add_sub_assoc, Nat.add_zero, Nat.reduceSub, Nat.reduceAdd, Nat.reduceMul, Nat.reduceEqDiff,  jifT, bdS, sifN, sifS, omN, omS, cdI, x25, x26, x27, x28, x29, x30, x31, x32, xr0, xr1, xr2, xr3, xr4, xr5, if_pos, if_neg, true_and, and_true, false_and, and_false, and_self, Bool.and_true, if_true, if_false, reduceIte, cond_true, cond_false, not_true_eq_false, not_false_eq_true, x51, x52, x53, x54, x55, x56, x57, x58, x59, x60, x61, x62, x63, ofN32, hk]
  · simp (disch := first | assumption | omega) only [gI, gI2, gL, gL1, gL2, jcLT, jcGE, jcGT, jcLE, jcEQ, jcNE, dEQ, nIt, lgNE, lgEQ, lgGE, lgLT, lgGT, lgLE, jinT, nIc, nI0, nI1, nIo, nIs, nI_add, nIm, nIn0, szl0, szl1, szl2, szl3, szl4, szl5, Nat.add_sub_assoc, Nat.add_zero, Nat.reduceSub, Nat.reduceAdd, Nat.reduceMul, Nat.reduceEqDiff,  jifT, bdS, sifN, sifS, omN, omS, cdI, x25, x26, x27, x28, x29, x30, x31, x32, xr0, xr1, xr2, xr3, xr4, xr5, if_pos, if_neg, true_and, and_true, false_and, and_false, and_self, Bool.and_true, if_true, if_false, reduceIte, cond_true, cond_false, not_true_eq_false, not_false_eq_true, x51, x52, x53, x54, x55, x56, x57, x58, x59, x60, x61, x62, x63, ofN32, hk]
/-! a value is an object or not -/
theorem vr.obj {φ : Nat → Nat} {D : Nat → Prop} {S T : sS} {x v : Int64} {g k : Int32} (h : vr φ D x g k v) (hD : ∀ h, D h → obR φ D S T h) (hE : ∀ h, D h → h < 600 ∧ φ h < 1300) : (∃ q, q < 2 ∧ g = nI q ∧ k = nI q ∧ (q = 0 → x = v) ∧ (q = 1 → x = 0)) ∨ ∃ h, D h ∧ h < 600 ∧ φ h < 1300 ∧ g = nI (h + 2) ∧ k = nI 2 ∧ x = 0 ∧ v = Int64.ofNat (φ h) ∧ obR φ D S T h := by
  rcases h with ⟨h1, h2, h3⟩ | ⟨h1, h2, h3⟩ | ⟨q, h0, h1, h2, h3, h4⟩
  · exact Or.inl ⟨0, by omega, h1, h2, fun _ => h3, fun z => by omega⟩
  · exact Or.inl ⟨1, by omega, h1, h2, fun z => by omega, fun _ => h3⟩
  · exact Or.inr ⟨q, h0, (hE q h0).1, (hE q h0).2, h1, h2, h3, h4, hD q h0⟩
section OBJ
variable {φ : Nat → Nat} {D : Nat → Prop} {F N : Nat} {P : aP} {S S' T T' : sS} {A : aS} {r d p f pc n m e b k : Nat} {G : jG} {t : Nat}
theorem cx.ob (h : cx φ D F N P S T A r d p f pc n m) {x v : Int64} {g k : Int32} (hv : vr φ D x g k v) : (∃ q, q < 2 ∧ g = nI q ∧ k = nI q ∧ (q = 0 → x = v) ∧ (q = 1 → x = 0)) ∨ ∃ h, D h ∧ h < 600 ∧ φ h < 1300 ∧ g = nI (h + 2) ∧ k = nI 2 ∧ x = 0 ∧ v = Int64.ofNat (φ h) ∧ obR φ D S T h := hv.obj h.1.2.2.2.1 h.1.2.2.2.2.1.1
/-! SIZE -/
set_option maxHeartbeats 4000000 in
set_option linter.unusedSimpArgs false in
theorem x_26n (hG : gG G) {a : Int32} {q : Nat} (hM : S.2.2.2.1.1 p = true) (o1 : S.1 29 p 1 2 = nI (k + 1)) (hn : k < 16) (g1 : S.1 31 p 1 k = nI q) (hq : q < 2) : X_26 G t r p a S = some (-2, S) := by
  have rw1 : rwS S p 1 (k + 1) := ⟨xr1 hM, o1, show k + 1 ≤ 16 by omega⟩
  have e1 := f_27 (G := G) (t := t) rw1 (i := k) (by omega)
  rw [g1] at e1
  have e2 := fun ty => f_87n (G := G) (t := t) (ty := ty) (S := S) hq
  have y1 := hG.1
  have y2 : (G 1).2 26 = nI 1 := (hG.2.2 26 (by omega)).1
  clear hG
  unfold X_26
  simp (disch := first | assumption | omega) only [gI, gI2, gL, gL1, gL2, jcLT, jcGE, jcGT, jcLE, jcEQ, jcNE, dEQ, nIt, lgNE, lgEQ, lgGE, lgLT, lgGT, lgLE, jinT, nIc, nI0, nI1, nIo, nIs, nI_add, nIm, nIn0, szl0, szl1, szl2, szl3, szl4, szl5, Nat.add_sub_assoc, Nat.add_zero, Nat.reduceSub, Nat.reduceAdd, Nat.reduceMul, Nat.reduceEqDiff,  jifT, bdS, sifN, sifS, omN, omS, cdI, x25, x26, x27, x28, x29, x30, x31, x32, xr0, xr1, xr2, xr3, xr4, xr5, if_pos, if_neg, true_and, and_true, false_and, and_false, and_self, Bool.and_true, if_true, if_false, reduceIte, cond_true, cond_false, not_true_eq_false, not_false_eq_true, F_116_314, F_115, F_115_58, hM, o1, y1, y2, e1, e2]
set_option maxHeartbeats 4000000 in
set_option linter.unusedSimpArgs false in
theorem x_26 (hG : gG G) {a : Int32} {h p1 kd w : Nat} (hM : S.2.2.2.1.1 p = true) (o1 : S.1 29 p 1 2 = nI (k + 1)) (hn : k < 16) (g1 : S.1 31 p 1 k = nI (h + 2)) (hh : h < 600) (hp : S.2.2.1.2 h = some p1) (hM1 : S.2.2.2.1.2 p1 = true) (hk : S.1 32 p1 0 1 = nI kd) (hk2 : kd = 2 ∨ kd = 3) (hw : S.1 29 p1 4 2 = nI w) (hw2 : w ≤ 16) : X_26 G t r p a S = some (nI 0, siI (siL S 30 p 1 k (Int64.ofNat w)) 31 p 1 k (nI 0)) := by
  have rw1 : rwS S p 1 (k + 1) := ⟨xr1 hM, o1, show k + 1 ≤ 16 by omega⟩
  have e1 := f_27 (G := G) (t := t) rw1 (i := k) (by omega)
  rw [g1] at e1
  have e2 := f_87o (G := G) (t := t) (ty := 2) hh hp hM1 hk (by omega) (by omega)
  have e3 := f_87o (G := G) (t := t) (ty := 3) hh hp hM1 hk (by omega) (by omega)
  have y1 := hG.1
  have y2 : (G 1).2 26 = nI 1 := (hG.2.2 26 (by omega)).1
  have y3 := l64 (n := w) (by omega)
  clear hG
  unfold X_26
  rcases hk2 with rfl | rfl
  · rw [if_pos rfl] at e2
    simp (disch := first | assumption | omega) only [gI, gI2, gL, gL1, gL2, jcLT, jcGE, jcGT, jcLE, jcEQ, jcNE, dEQ, nIt, lgNE, lgEQ, lgGE, lgLT, lgGT, lgLE, jinT, nIc, nI0, nI1, nIo, nIs, nI_add, nIm, nIn0, szl0, szl1, szl2, szl3, szl4, szl5, Nat.add_sub_assoc, Nat.add_zero, Nat.reduceSub, Nat.reduceAdd, Nat.reduceMul, Nat.reduceEqDiff,  jifT, bdS, sifN, sifS, omN, omS, cdI, x25, x26, x27, x28, x29, x30, x31, x32, xr0, xr1, xr2, xr3, xr4, xr5, if_pos, if_neg, true_and, and_true, false_and, and_false, and_self, Bool.and_true, if_true, if_false, reduceIte, cond_true, cond_false, not_true_eq_false, not_false_eq_true, F_116_314, F_115, F_115_58, F_28, hM, o1, y1, y2, e1, e2, hM1, hw, y3]
  · rw [if_neg (by omega)] at e2
    rw [if_pos rfl] at e3
    simp (disch := first | assumption | omega) only [gI, gI2, gL, gL1, gL2, jcLT, jcGE, jcGT, jcLE, jcEQ, jcNE, dEQ, nIt, lgNE, lgEQ, lgGE, lgLT, lgGT, lgLE, jinT, nIc, nI0, nI1, nIo, nIs, nI_add, nIm, nIn0, szl0, szl1, szl2, szl3, szl4, szl5, Nat.add_sub_assoc, Nat.add_zero, Nat.reduceSub, Nat.reduceAdd, Nat.reduceMul, Nat.reduceEqDiff,  jifT, bdS, sifN, sifS, omN, omS, cdI, x25, x26, x27, x28, x29, x30, x31, x32, xr0, xr1, xr2, xr3, xr4, xr5, if_pos, if_neg, true_and, and_true, false_and, and_false, and_self, Bool.and_true, if_true, if_false, reduceIte, cond_true, cond_false, not_true_eq_false, not_false_eq_true, F_116_314, F_115, F_115_58, F_28, hM, o1, y1, y2, e1, e2, e3, hM1, hw, y3]
set_option maxHeartbeats 4000000 in
set_option linter.unusedSimpArgs false in
theorem w_26n {T1 T2 : sS} {a : Int32} {q : Nat} (q0 : F_156 G t (r, 0) (nI 1) T = some (nI 1, T1)) (v1 : T1.1 47 0 0 0 = nI q) (hq : q < 2) (q1 : F_155 G t (r, 0) (-2) T1 = some ((), T2)) : W_26 G t r d a T = some ((), T2) := by
  unfold W_26
  simp (disch := first | assumption | omega) only [gI, gI2, gL, gL1, gL2, jcLT, jcGE, jcGT, jcLE, jcEQ, jcNE, dEQ, nIt, lgNE, lgEQ, lgGE, lgLT, lgGT, lgLE, jinT, nIc, nI0, nI1, nIo, nIs, nI_add, nIm, nIn0, szl0, szl1, szl2, szl3, szl4, szl5, Nat.add_sub_assoc, Nat.add_zero, Nat.reduceSub, Nat.reduceAdd, Nat.reduceMul, Nat.reduceEqDiff,  jifT, bdS, sifN, sifS, omN, omS, cdI, x25, x26, x27, x28, x29, x30, x31, x32, xr0, xr1, xr2, xr3, xr4, xr5, if_pos, if_neg, true_and, and_true, false_and, and_false, and_self, Bool.and_true, if_true, if_false, reduceIte, cond_true, cond_false, not_true_eq_false, not_false_eq_true, x51, x52, x53, x54, x55, x56, x57, x58, x59, x60, x61, x62, x63, F_188_849, F_158, jfb, q0, v1, q1]
set_option maxHeartbeats 4000000 in
set_option linter.unusedSimpArgs false in
theorem w_26 {T1 T2 : sS} {a : Int32} {q kd w : Nat} (q0 : F_156 G t (r, 0) (nI 1) T = some (nI 1, T1)) (v1 : T1.1 47 0 0 0 = nI 2) (v2 : T1.2.1 48 0 0 0 = Int64.ofNat q) (hq : q < 1300) (hk : T1.1 51 q 0 0 = nI kd) (hk2 : kd = 2 ∨ kd = 3) (h2 : kd = 2 → T1.1 51 q 0 1 = nI w) (h3 : kd = 3 → T1.1 51 q 0 2 = nI w) (hw : w ≤ 16) (q1 : F_157 G t (r, 0) (nI 0) (Int64.ofNat w) T1 = some (nI 1, T2)) : W_26 G t r d a T = some ((), T2) := by
  have y3 := l64 (n := w) (by omega)
  unfold W_26
  rcases hk2 with rfl | rfl
  · have h2 := h2 rfl
    simp (disch := first | assumption | omega) only [gI, gI2, gL, gL1, gL2, jcLT, jcGE, jcGT, jcLE, jcEQ, jcNE, dEQ, nIt, lgNE, lgEQ, lgGE, lgLT, lgGT, lgLE, jinT, nIc, nI0, nI1, nIo, nIs, nI_add, nIm, nIn0, szl0, szl1, szl2, szl3, szl4, szl5, Nat.add_sub_assoc, Nat.add_zero, Nat.reduceSub, Nat.reduceAdd, Nat.reduceMul, Nat.reduceEqDiff,  jifT, bdS, sifN, sifS, omN, omS, cdI, x25, x26, x27, x28, x29, x30, x31, x32, xr0, xr1, xr2, xr3, xr4, xr5, if_pos, if_neg, true_and, and_true, false_and, and_false, and_self, Bool.and_true, if_true, if_false, reduceIte, cond_true, cond_false, not_true_eq_false, not_false_eq_true, x51, x52, x53, x54, x55, x56, x57, x58, x59, x60, x61, x62, x63, F_188_849, F_188_913, F_158, jfb, q0, v1, v2, ofN32, hk, h2, y3, q1]
  · have h3 := h3 rfl
    simp (disch := first | assumption | omega) only [gI, gI2, gL, gL1, gL2, jcLT, jcGE, jcGT, jcLE, jcEQ, jcNE, dEQ, nIt, lgNE, lgEQ, lgGE, lgLT, lgGT, lgLE, jinT, nIc, nI0, nI1, nIo, nIs, nI_add, nIm, nIn0, szl0, szl1, szl2, szl3, szl4, szl5, Nat.add_sub_assoc, Nat.add_zero, Nat.reduceSub, Nat.reduceAdd, Nat.reduceMul, Nat.reduceEqDiff,  jifT, bdS, sifN, sifS, omN, omS, cdI, x25, x26, x27, x28, x29, x30, x31, x32, xr0, xr1, xr2, xr3, xr4, xr5, if_pos, if_neg, true_and, and_true, false_and, and_false, and_self, Bool.and_true, if_true, if_false, reduceIte, cond_true, cond_false, not_true_eq_false, not_false_eq_true, x51, x52, x53, x54, x55, x56, x57, x58, x59, x60, x61, x62, x63, F_188_849, F_188_913, F_158, jfb, q0, v1, v2, ofN32, hk, h3, y3, q1]
/-! the top is replaced in place on the class's side -/
set_option maxHeartbeats 4000000 in
set_option linter.unusedSimpArgs false in
theorem cx.tput (ht : 1000 < t) (h : cx φ D F N P S T A r d p f pc (k + 1) m) (hpc : pc < P.2.2.2.1 f) {x v : Int64} {g kk : Int32} (hv : vr φ D x g kk v) {kt : Nat} {X : Option (Int32 × sS)} {W : Option (Unit × sS)} (hX : X = some (nI 0, siI (siL S 30 p 1 k x) 31 p 1 k g)) (hW : W = some ((), mpu (mpS T r d (k + 1) 1) r d k kk v)) : insR φ D F N P S T A r p G t kt X W := by
  obtain ⟨hM, o1, o2, hn, hr, d2, d3⟩ := h.rd
  have o4 := h.fr.2.2.2.1.2.2.2
  refine ⟨_, _, cD_ok hX, hW, h.ok (agr.i (agr.l (agr.refl _ _) _ _ (by omega)) _ _ (by omega)) rfl ((mp_ag T r d (k + 1) 1).trans (mu_ag _ _ _ _ _ _)) (mpS_2 _ _ _ _ _) (pc' := pc) (n' := k + 1) (m' := m) ?_ hpc⟩
  refine h.fr.ops (agr.i (agr.l (agr.refl _ _) _ _ (by omega)) _ _ (by omega)) hM ((tk.pops _ _ _ _ _).trans (tk.push _ _ _ _ _ _)) (by omega) ?_ (mpu_r _ _ _ _ _ _ 0).2.2.1 (fun i hi => ?_)
  · rw [siI_ne _ _ _ (by omega)]
    exact o1
  · rw [(mpu_r _ _ _ _ _ _ i).1, (mpu_r _ _ _ _ _ _ i).2.1, (mpS_r _ _ _ _ _).1, (mpS_r _ _ _ _ _).2.1]
    clear h hX hW
    by_cases c : i = k
    · subst c
      simp (disch := first | assumption | omega) only [gI, gI2, gL, gL1, gL2, jcLT, jcGE, jcGT, jcLE, jcEQ, jcNE, dEQ, nIt, lgNE, lgEQ, lgGE, lgLT, lgGT, lgLE, jinT, nIc, nI0, nI1, nIo, nIs, nI_add, nIm, nIn0, szl0, szl1, szl2, szl3, szl4, szl5, Nat.add_sub_assoc, Nat.add_zero, Nat.reduceSub, Nat.reduceAdd, Nat.reduceMul, Nat.reduceEqDiff,  jifT, bdS, sifN, sifS, omN, omS, cdI, x25, x26, x27, x28, x29, x30, x31, x32, xr0, xr1, xr2, xr3, xr4, xr5, if_pos, if_neg, true_and, and_true, false_and, and_false, and_self, Bool.and_true, if_true, if_false, reduceIte, cond_true, cond_false, not_true_eq_false, not_false_eq_true]
      exact hv
    · simp (disch := first | assumption | omega) only [gI, gI2, gL, gL1, gL2, jcLT, jcGE, jcGT, jcLE, jcEQ, jcNE, dEQ, nIt, lgNE, lgEQ, lgGE, lgLT, lgGT, lgLE, jinT, nIc, nI0, nI1, nIo, nIs, nI_add, nIm, nIn0, szl0, szl1, szl2, szl3, szl4, szl5, Nat.add_sub_assoc, Nat.add_zero, Nat.reduceSub, Nat.reduceAdd, Nat.reduceMul, Nat.reduceEqDiff,  jifT, bdS, sifN, sifS, omN, omS, cdI, x25, x26, x27, x28, x29, x30, x31, x32, xr0, xr1, xr2, xr3, xr4, xr5, if_pos, if_neg, true_and, and_true, false_and, and_false, and_self, Bool.and_true, if_true, if_false, reduceIte, cond_true, cond_false, not_true_eq_false, not_false_eq_true]
      exact o4 i (by omega)
theorem mp51 (T : sS) (r d n k q i : Nat) (t : Nat) (h1 : 51 ≤ t) (h2 : t ≤ 53) : (mpS T r d n k).1 t q 0 i = T.1 t q 0 i ∧ (mpS T r d n k).2.1 t q 0 i = T.2.1 t q 0 i := by rw [mpS_I _ _ _ _ (by omega) (by omega), mpS_L _ _ _ _ (by omega)]; exact ⟨rfl, rfl⟩
theorem i_26 (hG : gG G) (ht : 1000 < t) (h : cx φ D F N P S T A r d p f pc (k + 1) m) (hpc : pc < P.2.2.2.1 f) (a : Int32) : insR φ D F N P S T A r p G t 1 (X_26 G t r p a S) (W_26 G t r d a T) := by
  obtain ⟨hM, o1, o2, hn, hr, d2, d3⟩ := h.rd
  obtain ⟨g, kn, a1, a2, a3, a4, a5, v1, v2, q0, hv⟩ := h.top (G := G) ht
  have v1 : (mpS T r d (k + 1) 1).1 47 0 0 0 = T.1 58 r d k := v1.trans a2.symm
  rcases h.ob hv with ⟨q, b1, b2, b3, b4, b5⟩ | ⟨x, b0, b1, b2, b3, b4, b5, b6, b7⟩
  · obtain ⟨S', T', r1, r2, r3⟩ := h.panp (G := G) ht 1 (by omega) neg2.1 neg2.2 (x_26n (r := r) (a := a) hG hM o1 (by omega) b2 b1)
    exact ⟨S', T', r1, w_26n q0 (v1.trans b3) b1 r2, r3⟩
  · obtain ⟨p1, kd, z, w, c, c1, c2, ⟨c3, c4, c5⟩, ⟨c6, c7, c8, _⟩, ⟨c9, c10, c11, c12⟩, _⟩ := b7
    refine h.tput ht hpc (v := Int64.ofNat w) (kk := nI 0) (Or.inl ⟨rfl, rfl, rfl⟩) (x_26 hG hM o1 (by omega) b3 b1 c1 c2 c3 c5 c9 (by omega)) (w_26 q0 (v1.trans b4) (v2.trans b6) b2 ?_ c5 (fun z' => ?_) (fun z' => ?_) (by omega) (e_157p (k := 1) ht hr d3 hn d2 o2 (by omega)))
    · rw [(mp51 T r d (k + 1) 1 (φ x) 0 51 (by omega) (by omega)).1]; exact c4
    · rw [(mp51 T r d (k + 1) 1 (φ x) 1 51 (by omega) (by omega)).1, c12 z']; exact c7
    · rw [(mp51 T r d (k + 1) 1 (φ x) 2 51 (by omega) (by omega)).1]; exact c10 z'
end OBJ
