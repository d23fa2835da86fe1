/-! Objects: their values are read. printed by gen74.py -/
section OBG
variable {φ : Nat → Nat} {D : Nat → Prop} {F N : Nat} {P : aP} {S S' T T' : sS} {A : aS} {r d p f pc n m e b k : Nat} {G : jG} {t : Nat}
set_option maxHeartbeats 4000000 in
set_option linter.unusedSimpArgs false in
theorem e146_22 (hG : gG G) {p1 w i : Nat} (hM : S.2.2.2.1.1 p = true) (o1 : S.1 29 p 1 2 = nI (k + 1)) (hn : k + 1 ≤ 16) (hM1 : S.2.2.2.1.2 p1 = true) (hw : S.1 29 p1 4 2 = nI w) (hw2 : w ≤ 16) (hi : i < w) : F_115_146 G t (nI 22) (p, 1) (p1, 0) (Int64.ofNat i) S = some (nI 0, rpush (siI S 29 p 1 2 (nI k)) p 1 k (S.2.1 30 p1 4 i) (S.1 31 p1 4 i)) := by
  have e6 : F_76 G t (p, 1) (nI 1) S = some ((), siI S 29 p 1 2 (nI k)) := f_76 (sz := k + 1) ⟨xr1 hM, o1, show k + 1 ≤ 16 by omega⟩ (by omega)
  have rw1 : rwS (siI S 29 p 1 2 (nI k)) p1 4 w := ⟨xr4 hM1, by rw [siI_ne _ _ _ (by omega)]; exact hw, hw2⟩
  have e1 := f_26 (G := G) (t := t) rw1 (i := i) hi
  have e2 := f_27 (G := G) (t := t) rw1 (i := i) hi
  have e8 : F_78 G t (p, 1) (S.2.1 30 p1 4 i) (S.1 31 p1 4 i) (siI S 29 p 1 2 (nI k)) = some ((), rpush (siI S 29 p 1 2 (nI k)) p 1 k (S.2.1 30 p1 4 i) (S.1 31 p1 4 i)) := f_78 (sz := k) ⟨xr1 hM, siI_at _ _ _ _ _ _, show k ≤ 16 by omega⟩ (show k < 16 by omega)
  rw [gI2] at e1
  rw [siI_ne _ _ _ (by omega)] at e2
  have y1 := hG.1
  have y2 : (G 1).2 22 = nI 1 := (hG.2.2 22 (by omega)).1
  have y3 := l64 (n := w) (by omega)
  have y4 := nlt0 i (by omega)
  have y5 : Int64.ofNat i < Int64.ofNat w := (lt64 (by omega) (by omega)).mpr hi
  have y6 := ofN32 (n := i) (by omega)
  clear hG
  unfold F_115_146
  simp (disch := first | assumption | omega) only [gI, gI2, gL, gL1, gL2, jcLT, jcGE, jcGT, jcLE, jcEQ, jcNE, dEQ, nIt, lgNE, lgEQ, lgGE, lgLT, lgGT, lgLE, jinT, nIc, nI0, nI1, nIo, nIs, nI_add, nIm, nIn0, szl0, szl1, szl2, szl3, szl4, szl5, Nat.add_sub_assoc, Nat.add_zero, Nat.reduceSub, Nat.reduceAdd, Nat.reduceMul, Nat.reduceEqDiff,  jifT, bdS, sifN, sifS, omN, omS, cdI, x25, x26, x27, x28, x29, x30, x31, x32, xr0, xr1, xr2, xr3, xr4, xr5, if_pos, if_neg, true_and, and_true, false_and, and_false, and_self, Bool.and_true, if_true, if_false, reduceIte, cond_true, cond_false, not_true_eq_false, not_false_eq_true, F_115_188, hM, hM1, o1, hw, y1, y2, y3, eq_false y4, eq_true y5, y6, e6, e1, e2, e8]
set_option maxHeartbeats 4000000 in
set_option linter.unusedSimpArgs false in
theorem e146n_22 {p1 w : Nat} {v : Int64} (hM1 : S.2.2.2.1.2 p1 = true) (hw : S.1 29 p1 4 2 = nI w) (hw2 : w ≤ 16) (hv : ¬ (¬ v < 0 ∧ v < Int64.ofNat w)) : F_115_146 G t (nI 22) (p, 1) (p1, 0) v S = some (-2, S) := by
  have y3 := l64 (n := w) (by omega)
  unfold F_115_146
  by_cases c : v < 0
  · simp (disch := first | assumption | omega) only [gI, gI2, gL, gL1, gL2, jcLT, jcGE, jcGT, jcLE, jcEQ, jcNE, dEQ, nIt, lgNE, lgEQ, lgGE, lgLT, lgGT, lgLE, jinT, nIc, nI0, nI1, nIo, nIs, nI_add, nIm, nIn0, szl0, szl1, szl2, szl3, szl4, szl5, Nat.add_sub_assoc, Nat.add_zero, Nat.reduceSub, Nat.reduceAdd, Nat.reduceMul, Nat.reduceEqDiff,  jifT, bdS, sifN, sifS, omN, omS, cdI, x25, x26, x27, x28, x29, x30, x31, x32, xr0, xr1, xr2, xr3, xr4, xr5, if_pos, if_neg, true_and, and_true, false_and, and_false, and_self, Bool.and_true, if_true, if_false, reduceIte, cond_true, cond_false, not_true_eq_false, not_false_eq_true, eq_true c]
  · have c2 : ¬ v < Int64.ofNat w := fun z => hv ⟨c, z⟩
    simp (disch := first | assumption | omega) only [gI, gI2, gL, gL1, gL2, jcLT, jcGE, jcGT, jcLE, jcEQ, jcNE, dEQ, nIt, lgNE, lgEQ, lgGE, lgLT, lgGT, lgLE, jinT, nIc, nI0, nI1, nIo, nIs, nI_add, nIm, nIn0, szl0, szl1, szl2, szl3, szl4, szl5, Nat.add_sub_assoc, Nat.add_zero, Nat.reduceSub, Nat.reduceAdd, Nat.reduceMul, Nat.reduceEqDiff,  jifT, bdS, sifN, sifS, omN, omS, cdI, x25, x26, x27, x28, x29, x30, x31, x32, xr0, xr1, xr2, xr3, xr4, xr5, if_pos, if_neg, true_and, and_true, false_and, and_false, and_self, Bool.and_true, if_true, if_false, reduceIte, cond_true, cond_false, not_true_eq_false, not_false_eq_true, eq_false c, eq_false c2, hM1, hw, y3]
set_option maxHeartbeats 4000000 in
set_option linter.unusedSimpArgs false in
theorem e146_24 (hG : gG G) {p1 w i : Nat} (hM : S.2.2.2.1.1 p = true) (o1 : S.1 29 p 1 2 = nI (k + 2)) (hn : k + 2 ≤ 16) (hM1 : S.2.2.2.1.2 p1 = true) (hw : S.1 29 p1 4 2 = nI w) (hw2 : w ≤ 16) (hi : i < w) : F_115_146 G t (nI 24) (p, 1) (p1, 0) (Int64.ofNat i) S = some (nI 0, rpush (siI S 29 p 1 2 (nI k)) p 1 k (S.2.1 30 p1 4 i) (S.1 31 p1 4 i)) := by
  have e6 : F_76 G t (p, 1) (nI 2) S = some ((), siI S 29 p 1 2 (nI k)) := f_76 (sz := k + 2) ⟨xr1 hM, o1, show k + 2 ≤ 16 by omega⟩ (by omega)
  have rw1 : rwS (siI S 29 p 1 2 (nI k)) p1 4 w := ⟨xr4 hM1, by rw [siI_ne _ _ _ (by omega)]; exact hw, hw2⟩
  have e1 := f_26 (G := G) (t := t) rw1 (i := i) hi
  have e2 := f_27 (G := G) (t := t) rw1 (i := i) hi
  have e8 : F_78 G t (p, 1) (S.2.1 30 p1 4 i) (S.1 31 p1 4 i) (siI S 29 p 1 2 (nI k)) = some ((), rpush (siI S 29 p 1 2 (nI k)) p 1 k (S.2.1 30 p1 4 i) (S.1 31 p1 4 i)) := f_78 (sz := k) ⟨xr1 hM, siI_at _ _ _ _ _ _, show k ≤ 16 by omega⟩ (show k < 16 by omega)
  rw [gI2] at e1
  rw [siI_ne _ _ _ (by omega)] at e2
  have y1 := hG.1
  have y2 : (G 1).2 24 = nI 2 := (hG.2.2 24 (by omega)).1
  have y3 := l64 (n := w) (by omega)
  have y4 := nlt0 i (by omega)
  have y5 : Int64.ofNat i < Int64.ofNat w := (lt64 (by omega) (by omega)).mpr hi
  have y6 := ofN32 (n := i) (by omega)
  clear hG
  unfold F_115_146
  simp (disch := first | assumption | omega) only [gI, gI2, gL, gL1, gL2, jcLT, jcGE, jcGT, jcLE, jcEQ, jcNE, dEQ, nIt, lgNE, lgEQ, lgGE, lgLT, lgGT, lgLE, jinT, nIc, nI0, nI1, nIo, nIs, nI_add, nIm, nIn0, szl0, szl1, szl2, szl3, szl4, szl5, Nat.add_sub_assoc, Nat.add_zero, Nat.reduceSub, Nat.reduceAdd, Nat.reduceMul, Nat.reduceEqDiff,  jifT, bdS, sifN, sifS, omN, omS, cdI, x25, x26, x27, x28, x29, x30, x31, x32, xr0, xr1, xr2, xr3, xr4, xr5, if_pos, if_neg, true_and, and_true, false_and, and_false, and_self, Bool.and_true, if_true, if_false, reduceIte, cond_true, cond_false, not_true_eq_false, not_false_eq_true, F_115_188, hM, hM1, o1, hw, y1, y2, y3, eq_false y4, eq_true y5, y6, e6, e1, e2, e8]
set_option maxHeartbeats 4000000 in
set_option linter.unusedSimpArgs false in
theorem e146n_24 {p1 w : Nat} {v : Int64} (hM1 : S.2.2.2.1.2 p1 = true) (hw : S.1 29 p1 4 2 = nI w) (hw2 : w ≤ 16) (hv : ¬ (¬ v < 0 ∧ v < Int64.ofNat w)) : F_115_146 G t (nI 24) (p, 1) (p1, 0) v S = some (-2, S) := by
  have y3 := l64 (n := w) (by omega)
  unfold F_115_146
  by_cases c : v < 0
  · simp (disch := first | assumption | omega) only [gI, gI2, gL, gL1, gL2, jcLT, jcGE, jcGT, jcLE, jcEQ, jcNE, dEQ, nIt, lgNE, lgEQ, lgGE, lgLT, lgGT, lgLE, jinT, nIc, nI0, nI1, nIo, nIs, nI_add, nIm, nIn0, szl0, szl1, szl2, szl3, szl4, szl5, Nat.add_sub_assoc, Nat.add_zero, Nat.reduceSub, Nat.reduceAdd, Nat.reduceMul, Nat.reduceEqDiff,  jifT, bdS, sifN, sifS, omN, omS, cdI, x25, x26, x27, x28, x29, x30, x31, x32, xr0, xr1, xr2, xr3, xr4, xr5, if_pos, if_neg, true_and, and_true, false_and, and_false, and_self, Bool.and_true, if_true, if_false, reduceIte, cond_true, cond_false, not_true_eq_false, not_false_eq_true, eq_true c]
  · have c2 : ¬ v < Int64.ofNat w := fun z => hv ⟨c, z⟩
    simp (disch := first | assumption | omega) only [gI, gI2, gL, gL1, gL2, jcLT, jcGE, jcGT, jcLE, jcEQ, jcNE, dEQ, nIt, lgNE, lgEQ, lgGE, lgLT, lgGT, lgLE, jinT, nIc, nI0, nI1, nIo, nIs, nI_add, nIm, nIn0, szl0, szl1, szl2, szl3, szl4, szl5, Nat.add_sub_assoc, Nat.add_zero, Nat.reduceSub, Nat.reduceAdd, Nat.reduceMul, Nat.reduceEqDiff,  jifT, bdS, sifN, sifS, omN, omS, cdI, x25, x26, x27, x28, x29, x30, x31, x32, xr0, xr1, xr2, xr3, xr4, xr5, if_pos, if_neg, true_and, and_true, false_and, and_false, and_self, Bool.and_true, if_true, if_false, reduceIte, cond_true, cond_false, not_true_eq_false, not_false_eq_true, eq_false c, eq_false c2, hM1, hw, y3]
set_option maxHeartbeats 4000000 in
set_option linter.unusedSimpArgs false in
theorem x_22 (hG : gG G) {j : Nat} (hj : j < 16) {R : Option (Int32 × sS)} {o : Option (Nat × Nat)} (hM : S.2.2.2.1.1 p = true) (o1 : S.1 29 p 1 2 = nI (k + 1)) (hn : k + 1 ≤ 16) (e3 : F_87 G t (S.1 31 p 1 k) (nI 2) S = some (o, S)) (hR : R = sif o (some (-2, S)) (fun p1 => F_115_146 G t (nI 22) (p, 1) p1 (Int64.ofNat j) S)) : X_22 G t r p (nI j) S = R := by
  have rw1 : rwS S p 1 (k + 1) := ⟨xr1 hM, o1, show k + 1 ≤ 16 by omega⟩
  have e1 := f_27 (G := G) (t := t) rw1 (i := k) (by omega)
  have y3 := l64 (n := j) (by omega)
  have y1 := hG.1
  have y2 : (G 1).2 22 = nI 1 := (hG.2.2 22 (by omega)).1
  clear hG
  subst hR
  unfold X_22
  have key : ∀ Q : Option (Int32 × sS), (Q.bind fun q1 => some (q1.1, q1.2)) = Q := fun Q => by cases Q <;> rfl
  cases o with
  | none =>
    simp (disch := first | assumption | omega) only [gI, gI2, gL, gL1, gL2, jcLT, jcGE, jcGT, jcLE, jcEQ, jcNE, dEQ, nIt, lgNE, lgEQ, lgGE, lgLT, lgGT, lgLE, jinT, nIc, nI0, nI1, nIo, nIs, nI_add, nIm, nIn0, szl0, szl1, szl2, szl3, szl4, szl5, Nat.add_sub_assoc, Nat.add_zero, Nat.reduceSub, Nat.reduceAdd, Nat.reduceMul, Nat.reduceEqDiff,  jifT, bdS, sifN, sifS, omN, omS, cdI, x25, x26, x27, x28, x29, x30, x31, x32, xr0, xr1, xr2, xr3, xr4, xr5, if_pos, if_neg, true_and, and_true, false_and, and_false, and_self, Bool.and_true, if_true, if_false, reduceIte, cond_true, cond_false, not_true_eq_false, not_false_eq_true, F_116_314, F_115, F_115_103, F_115_123, hM, o1, y1, y2, y3, e1, e3, key]
  | some p1 =>
    simp (disch := first | assumption | omega) only [gI, gI2, gL, gL1, gL2, jcLT, jcGE, jcGT, jcLE, jcEQ, jcNE, dEQ, nIt, lgNE, lgEQ, lgGE, lgLT, lgGT, lgLE, jinT, nIc, nI0, nI1, nIo, nIs, nI_add, nIm, nIn0, szl0, szl1, szl2, szl3, szl4, szl5, Nat.add_sub_assoc, Nat.add_zero, Nat.reduceSub, Nat.reduceAdd, Nat.reduceMul, Nat.reduceEqDiff,  jifT, bdS, sifN, sifS, omN, omS, cdI, x25, x26, x27, x28, x29, x30, x31, x32, xr0, xr1, xr2, xr3, xr4, xr5, if_pos, if_neg, true_and, and_true, false_and, and_false, and_self, Bool.and_true, if_true, if_false, reduceIte, cond_true, cond_false, not_true_eq_false, not_false_eq_true, F_116_314, F_115, F_115_103, F_115_123, hM, o1, y1, y2, y3, e1, e3, key]
set_option maxHeartbeats 4000000 in
set_option linter.unusedSimpArgs false in
theorem x_24 (hG : gG G) {a : Int32} {ga : Nat} (ga2 : ga < 602) (ga1 : S.1 31 p 1 (k + 1) = nI ga) {R : Option (Int32 × sS)} {o : Option (Nat × Nat)} (hM : S.2.2.2.1.1 p = true) (o1 : S.1 29 p 1 2 = nI (k + 2)) (hn : k + 2 ≤ 16) (e3 : F_87 G t (S.1 31 p 1 k) (nI 2) S = some (o, S)) (hR : R = sif o (some (-2, S)) (fun p1 => if ga = 0 then F_115_146 G t (nI 24) (p, 1) p1 (S.2.1 30 p 1 (k + 1)) S else some (-2, S))) : X_24 G t r p a S = R := by
  have rw1 : rwS S p 1 (k + 2) := ⟨xr1 hM, o1, show k + 2 ≤ 16 by omega⟩
  have e1 := f_27 (G := G) (t := t) rw1 (i := k) (by omega)
  have e2 := f_26 (G := G) (t := t) rw1 (i := k + 1) (by omega)
  have e4 := f_103 (G := G) (t := t) rw1 (i := k + 1) (by omega) ga1 (by omega)
  have y1 := hG.1
  have y2 : (G 1).2 24 = nI 2 := (hG.2.2 24 (by omega)).1
  clear hG
  subst hR
  unfold X_24
  have key : ∀ Q : Option (Int32 × sS), (Q.bind fun q1 => some (q1.1, q1.2)) = Q := fun Q => by cases Q <;> rfl
  cases o with
  | none =>
    simp (disch := first | assumption | omega) only [gI, gI2, gL, gL1, gL2, jcLT, jcGE, jcGT, jcLE, jcEQ, jcNE, dEQ, nIt, lgNE, lgEQ, lgGE, lgLT, lgGT, lgLE, jinT, nIc, nI0, nI1, nIo, nIs, nI_add, nIm, nIn0, szl0, szl1, szl2, szl3, szl4, szl5, Nat.add_sub_assoc, Nat.add_zero, Nat.reduceSub, Nat.reduceAdd, Nat.reduceMul, Nat.reduceEqDiff,  jifT, bdS, sifN, sifS, omN, omS, cdI, x25, x26, x27, x28, x29, x30, x31, x32, xr0, xr1, xr2, xr3, xr4, xr5, if_pos, if_neg, true_and, and_true, false_and, and_false, and_self, Bool.and_true, if_true, if_false, reduceIte, cond_true, cond_false, not_true_eq_false, not_false_eq_true, F_116_314, F_115, F_115_98, F_115_103, F_115_123, hM, o1, y1, y2, e1, e2, e3, e4, key]
  | some p1 =>
    by_cases c : ga = 0
    · subst c
      simp (disch := first | assumption | omega) only [gI, gI2, gL, gL1, gL2, jcLT, jcGE, jcGT, jcLE, jcEQ, jcNE, dEQ, nIt, lgNE, lgEQ, lgGE, lgLT, lgGT, lgLE, jinT, nIc, nI0, nI1, nIo, nIs, nI_add, nIm, nIn0, szl0, szl1, szl2, szl3, szl4, szl5, Nat.add_sub_assoc, Nat.add_zero, Nat.reduceSub, Nat.reduceAdd, Nat.reduceMul, Nat.reduceEqDiff,  jifT, bdS, sifN, sifS, omN, omS, cdI, x25, x26, x27, x28, x29, x30, x31, x32, xr0, xr1, xr2, xr3, xr4, xr5, if_pos, if_neg, true_and, and_true, false_and, and_false, and_self, Bool.and_true, if_true, if_false, reduceIte, cond_true, cond_false, not_true_eq_false, not_false_eq_true, F_116_314, F_115, F_115_98, F_115_103, F_115_123, hM, o1, y1, y2, e1, e2, e3, e4, key]
    · simp (disch := first | assumption | omega) only [gI, gI2, gL, gL1, gL2, jcLT, jcGE, jcGT, jcLE, jcEQ, jcNE, dEQ, nIt, lgNE, lgEQ, lgGE, lgLT, lgGT, lgLE, jinT, nIc, nI0, nI1, nIo, nIs, nI_add, nIm, nIn0, szl0, szl1, szl2, szl3, szl4, szl5, Nat.add_sub_assoc, Nat.add_zero, Nat.reduceSub, Nat.reduceAdd, Nat.reduceMul, Nat.reduceEqDiff,  jifT, bdS, sifN, sifS, omN, omS, cdI, x25, x26, x27, x28, x29, x30, x31, x32, xr0, xr1, xr2, xr3, xr4, xr5, if_pos, if_neg, true_and, and_true, false_and, and_false, and_self, Bool.and_true, if_true, if_false, reduceIte, cond_true, cond_false, not_true_eq_false, not_false_eq_true, F_116_314, F_115, F_115_98, F_115_103, F_115_123, hM, o1, y1, y2, e1, e2, e3, e4, key]
set_option maxHeartbeats 4000000 in
set_option linter.unusedSimpArgs false in
theorem e171 {T1 T2 : sS} {j q kd z i : Nat} (hj : j < 16) (v1 : T.1 47 0 0 j = nI 2) (v2 : T.2.1 48 0 0 j = Int64.ofNat q) (hq : q < 1300) (hk : T.1 51 q 0 0 = nI 2) (hz : T.1 51 q 0 1 = nI z) (hz2 : z ≤ 16) (hi : i < z) (q1 : F_157 G t (r, 0) (T.1 52 q 0 i) (T.2.1 53 q 0 i) T = some (nI 1, T2)) : F_171 G t (r, 0) (nI j) (Int64.ofNat i) T = some ((), T2) := by
  have e1 := f_170o (G := G) (t := t) (ty := 2) hq hk (by omega) (by omega)
  rw [if_pos rfl] at e1
  have y3 := l64 (n := z) (by omega)
  have y4 := nlt0 i (by omega)
  have y5 : ¬ Int64.ofNat z ≤ Int64.ofNat i := fun w => by have := (le64 (by omega) (by omega)).mp w; omega
  have y6 := ofN32 (n := i) (by omega)
  have y7 := ofN32 (n := q) (by omega)
  unfold F_171
  simp (disch := first | assumption | omega) only [gI, gI2, gL, gL1, gL2, jcLT, jcGE, jcGT, jcLE, jcEQ, jcNE, dEQ, nIt, lgNE, lgEQ, lgGE, lgLT, lgGT, lgLE, jinT, nIc, nI0, nI1, nIo, nIs, nI_add, nIm, nIn0, szl0, szl1, szl2, szl3, szl4, szl5, Nat.add_sub_assoc, Nat.add_zero, Nat.reduceSub, Nat.reduceAdd, Nat.reduceMul, Nat.reduceEqDiff,  jifT, bdS, sifN, sifS, omN, omS, cdI, x25, x26, x27, x28, x29, x30, x31, x32, xr0, xr1, xr2, xr3, xr4, xr5, if_pos, if_neg, true_and, and_true, false_and, and_false, and_self, Bool.and_true, if_true, if_false, reduceIte, cond_true, cond_false, not_true_eq_false, not_false_eq_true, x51, x52, x53, x54, x55, x56, x57, x58, x59, x60, x61, x62, x63, F_171_54, F_158, jfb, v1, v2, e1, y7, hz, y3, eq_false y4, eq_false y5, y6, q1]
set_option maxHeartbeats 4000000 in
set_option linter.unusedSimpArgs false in
theorem e171n {T2 : sS} {j q : Nat} {v : Int64} (hj : j < 16) (v1 : T.1 47 0 0 j = nI q) (hq : q < 2) (q1 : F_155 G t (r, 0) (-2) T = some ((), T2)) : F_171 G t (r, 0) (nI j) v T = some ((), T2) := by
  have e1 := f_170n (G := G) (t := t) (v := T.2.1 48 0 0 j) (ty := nI 2) (T := T) hq
  unfold F_171
  simp (disch := first | assumption | omega) only [gI, gI2, gL, gL1, gL2, jcLT, jcGE, jcGT, jcLE, jcEQ, jcNE, dEQ, nIt, lgNE, lgEQ, lgGE, lgLT, lgGT, lgLE, jinT, nIc, nI0, nI1, nIo, nIs, nI_add, nIm, nIn0, szl0, szl1, szl2, szl3, szl4, szl5, Nat.add_sub_assoc, Nat.add_zero, Nat.reduceSub, Nat.reduceAdd, Nat.reduceMul, Nat.reduceEqDiff,  jifT, bdS, sifN, sifS, omN, omS, cdI, x25, x26, x27, x28, x29, x30, x31, x32, xr0, xr1, xr2, xr3, xr4, xr5, if_pos, if_neg, true_and, and_true, false_and, and_false, and_self, Bool.and_true, if_true, if_false, reduceIte, cond_true, cond_false, not_true_eq_false, not_false_eq_true, x51, x52, x53, x54, x55, x56, x57, x58, x59, x60, x61, x62, x63, F_171_53, F_171_54, F_158, jfb, v1, e1, q1]
set_option maxHeartbeats 4000000 in
set_option linter.unusedSimpArgs false in
theorem e171m {T2 : sS} {j q kd z : Nat} {v : Int64} (hj : j < 16) (v1 : T.1 47 0 0 j = nI 2) (v2 : T.2.1 48 0 0 j = Int64.ofNat q) (hq : q < 1300) (hk : T.1 51 q 0 0 = nI kd) (hk2 : kd ≤ 3) (hz : T.1 51 q 0 1 = nI z) (hz2 : z ≤ 16) (hv : ¬ (kd = 2 ∧ ¬ v < 0 ∧ v < Int64.ofNat z)) (q1 : F_155 G t (r, 0) (-2) T = some ((), T2)) : F_171 G t (r, 0) (nI j) v T = some ((), T2) := by
  have e1 := f_170o (G := G) (t := t) (ty := 2) hq hk (by omega) (by omega)
  have y3 := l64 (n := z) (by omega)
  have y7 := ofN32 (n := q) (by omega)
  unfold F_171
  by_cases c : kd = 2
  · rw [if_pos c] at e1
    by_cases c1 : v < 0
    · simp (disch := first | assumption | omega) only [gI, gI2, gL, gL1, gL2, jcLT, jcGE, jcGT, jcLE, jcEQ, jcNE, dEQ, nIt, lgNE, lgEQ, lgGE, lgLT, lgGT, lgLE, jinT, nIc, nI0, nI1, nIo, nIs, nI_add, nIm, nIn0, szl0, szl1, szl2, szl3, szl4, szl5, Nat.add_sub_assoc, Nat.add_zero, Nat.reduceSub, Nat.reduceAdd, Nat.reduceMul, Nat.reduceEqDiff,  jifT, bdS, sifN, sifS, omN, omS, cdI, x25, x26, x27, x28, x29, x30, x31, x32, xr0, xr1, xr2, xr3, xr4, xr5, if_pos, if_neg, true_and, and_true, false_and, and_false, and_self, Bool.and_true, if_true, if_false, reduceIte, cond_true, cond_false, not_true_eq_false, not_false_eq_true, x51, x52, x53, x54, x55, x56, x57, x58, x59, x60, x61, x62, x63, F_171_53, F_171_54, F_158, jfb, v1, v2, e1, eq_true c1, q1]
    · have c2 : Int64.ofNat z ≤ v := Int64.not_lt.mp (fun w => hv ⟨c, c1, w⟩)
      simp (disch := first | assumption | omega) only [gI, gI2, gL, gL1, gL2, jcLT, jcGE, jcGT, jcLE, jcEQ, jcNE, dEQ, nIt, lgNE, lgEQ, lgGE, lgLT, lgGT, lgLE, jinT, nIc, nI0, nI1, nIo, nIs, nI_add, nIm, nIn0, szl0, szl1, szl2, szl3, szl4, szl5, Nat.add_sub_assoc, Nat.add_zero, Nat.reduceSub, Nat.reduceAdd, Nat.reduceMul, Nat.reduceEqDiff,  jifT, bdS, sifN, sifS, omN, omS, cdI, x25, x26, x27, x28, x29, x30, x31, x32, xr0, xr1, xr2, xr3, xr4, xr5, if_pos, if_neg, true_and, and_true, false_and, and_false, and_self, Bool.and_true, if_true, if_false, reduceIte, cond_true, cond_false, not_true_eq_false, not_false_eq_true, x51, x52, x53, x54, x55, x56, x57, x58, x59, x60, x61, x62, x63, F_171_53, F_171_54, F_158, jfb, v1, v2, e1, y7, hz, y3, eq_false c1, eq_true c2, q1]
  · rw [if_neg c] at e1
    simp (disch := first | assumption | omega) only [gI, gI2, gL, gL1, gL2, jcLT, jcGE, jcGT, jcLE, jcEQ, jcNE, dEQ, nIt, lgNE, lgEQ, lgGE, lgLT, lgGT, lgLE, jinT, nIc, nI0, nI1, nIo, nIs, nI_add, nIm, nIn0, szl0, szl1, szl2, szl3, szl4, szl5, Nat.add_sub_assoc, Nat.add_zero, Nat.reduceSub, Nat.reduceAdd, Nat.reduceMul, Nat.reduceEqDiff,  jifT, bdS, sifN, sifS, omN, omS, cdI, x25, x26, x27, x28, x29, x30, x31, x32, xr0, xr1, xr2, xr3, xr4, xr5, if_pos, if_neg, true_and, and_true, false_and, and_false, and_self, Bool.and_true, if_true, if_false, reduceIte, cond_true, cond_false, not_true_eq_false, not_false_eq_true, x51, x52, x53, x54, x55, x56, x57, x58, x59, x60, x61, x62, x63, F_171_53, F_171_54, F_158, jfb, v1, v2, e1, q1]
set_option maxHeartbeats 4000000 in
set_option linter.unusedSimpArgs false in
theorem i_22 (hG : gG G) (ht : 1000 < t) (h : cx φ D F N P S T A r d p f pc (k + 1) m) (hpc : pc < P.2.2.2.1 f) {j : Nat} (hj : j < 16) : insR φ D F N P S T A r p G t 1 (X_22 G t r p (nI j) S) (W_22 G t r d (nI j) T) := by
  obtain ⟨hM, o1, o2, hn, hr, d2, d3⟩ := h.rd
  obtain ⟨g, kn, a1, a2, a3, a4, a5, v1, v2, q0, hv⟩ := h.top (G := G) ht
  have v1 : (mpS T r d (k + 1) 1).1 47 0 0 0 = T.1 58 r d k := v1.trans a2.symm
  have W1 : ∀ T2, F_171 G t (r, 0) (nI 0) (Int64.ofNat j) (mpS T r d (k + 1) 1) = some ((), T2) → W_22 G t r d (nI j) T = some ((), T2) := fun T2 e => by
    have y := l64 (n := j) (by omega)
    clear h hv a5 v1 v2
    unfold W_22
    simp (disch := first | assumption | omega) only [gI, gI2, gL, gL1, gL2, jcLT, jcGE, jcGT, jcLE, jcEQ, jcNE, dEQ, nIt, lgNE, lgEQ, lgGE, lgLT, lgGT, lgLE, jinT, nIc, nI0, nI1, nIo, nIs, nI_add, nIm, nIn0, szl0, szl1, szl2, szl3, szl4, szl5, Nat.add_sub_assoc, Nat.add_zero, Nat.reduceSub, Nat.reduceAdd, Nat.reduceMul, Nat.reduceEqDiff,  jifT, bdS, sifN, sifS, omN, omS, cdI, x25, x26, x27, x28, x29, x30, x31, x32, xr0, xr1, xr2, xr3, xr4, xr5, if_pos, if_neg, true_and, and_true, false_and, and_false, and_self, Bool.and_true, if_true, if_false, reduceIte, cond_true, cond_false, not_true_eq_false, not_false_eq_true, x51, x52, x53, x54, x55, x56, x57, x58, x59, x60, x61, x62, x63, q0, y, e]
  rcases h.ob hv with ⟨q, b1, b2, b3, b4, b5⟩ | ⟨x, b0, b1, b2, b3, b4, b5, b6, b7⟩
  · have ec : X_22 G t r p (nI j) S = some (-2, S) := x_22 (o := none) hG hj hM o1 hn (by rw [b2]; exact f_87n b1) rfl
    obtain ⟨S', T', r1, r2, r3⟩ := h.panp (G := G) ht 1 (by omega) neg2.1 neg2.2 ec
    exact ⟨S', T', r1, W1 _ (e171n (by omega) (v1.trans b3) b1 r2), r3⟩
  · obtain ⟨p1, kd, z, w, c, c1, c2, ⟨c3, c4, c5⟩, ⟨c6, c7, c8, _⟩, ⟨c9, c10, c11, c12⟩, _, _, vv⟩ := b7
    have t0 : (mpS T r d (k + 1) 1).1 51 (φ x) 0 0 = nI kd := by rw [(mp51 T r d (k + 1) 1 (φ x) 0 51 (by omega) (by omega)).1]; exact c4
    have t1 : (mpS T r d (k + 1) 1).1 51 (φ x) 0 1 = nI z := by rw [(mp51 T r d (k + 1) 1 (φ x) 1 51 (by omega) (by omega)).1]; exact c7
    have e3 : F_87 G t (S.1 31 p 1 k) (nI 2) S = some (if kd = 2 then some (p1, 0) else none, S) := by
      rw [b3]; exact f_87o b1 c1 c2 c3 (by omega) (by omega)
    by_cases ck : kd = 2 ∧ j < w
    · obtain ⟨rfl, cj⟩ := ck
      have cz := c12 rfl
      have ec := x_22 (r := r) (R := _) hG hj hM o1 hn e3 rfl
      rw [if_pos rfl, sifS, e146_22 hG hM o1 hn c2 c9 (by omega) cj] at ec
      refine h.repl hpc (k := 1) (by omega) (by omega) (vv j cj) ec (W1 _ (e171 (q := φ x) (kd := 2) (z := z) (T1 := T) (by omega) (v1.trans b4) (v2.trans b6) b2 t0 t1 c8 (by omega) ?_))
      rw [(mp51 T r d (k + 1) 1 (φ x) j 52 (by omega) (by omega)).1, (mp51 T r d (k + 1) 1 (φ x) j 53 (by omega) (by omega)).2]
      exact e_157p (k := 1) ht hr d3 hn d2 o2 (by omega)
    · have ec : X_22 G t r p (nI j) S = some (-2, S) := by
        have ec := x_22 (r := r) (R := _) hG hj hM o1 hn e3 rfl
        by_cases c2' : kd = 2
        · rw [if_pos c2', sifS, e146n_22 c2 c9 (by omega) (fun z => ck ⟨c2', (lt64 (by omega) (by omega)).mp z.2⟩)] at ec
          exact ec
        · rw [if_neg c2'] at ec
          exact ec
      obtain ⟨S', T', r1, r2, r3⟩ := h.panp (G := G) ht 1 (by omega) neg2.1 neg2.2 ec
      refine ⟨S', T', r1, W1 _ (e171m (by omega) (v1.trans b4) (v2.trans b6) b2 t0 (by omega) t1 c8 (fun y => ck ⟨y.1, ?_⟩) r2), r3⟩
      have := (lt64 (by omega) (by omega)).mp y.2.2
      have := c12 y.1
      omega
set_option maxHeartbeats 4000000 in
set_option linter.unusedSimpArgs false in
theorem i_24 (hG : gG G) (ht : 1000 < t) (h : cx φ D F N P S T A r d p f pc (k + 2) m) (hpc : pc < P.2.2.2.1 f) (a : Int32) : insR φ D F N P S T A r p G t 2 (X_24 G t r p a S) (W_24 G t r d a T) := by
  obtain ⟨hM, o1, o2, hn, hr, d2, d3⟩ := h.rd
  have o4 := h.fr.2.2.2.1.2.2.2
  have hv := o4 k (by omega)
  obtain ⟨ga, ka, a1, a2, a3, a4, a5, a6, a7, a8⟩ := (o4 (k + 1) (by omega)).ix h.D6
  obtain ⟨v1, v2⟩ := mpS_v T r d (k + 2) (i := 0) 2 (by omega)
  obtain ⟨u1, u2⟩ := mpS_v T r d (k + 2) (i := 1) 2 (by omega)
  have v1 : (mpS T r d (k + 2) 2).1 47 0 0 0 = nI ka := v1.trans a2
  have u1 : (mpS T r d (k + 2) 2).1 47 0 0 1 = T.1 58 r d k := u1
  have v2 : (mpS T r d (k + 2) 2).2.1 48 0 0 0 = T.2.1 62 r d (k + 1) := v2
  have u2 : (mpS T r d (k + 2) 2).2.1 48 0 0 1 = T.2.1 62 r d k := u2
  have q0 := e_156 (G := G) (t := t) (k := 2) (by omega) hr d3 hn d2 o2 (by omega)
  have W0 : ∀ T2, ka ≠ 0 → F_155 G t (r, 0) (-2) (mpS T r d (k + 2) 2) = some ((), T2) → W_24 G t r d a T = some ((), T2) := fun T2 z e => by
    clear h hv o4 u1 u2 v2 a5 a6 a7 a8
    unfold W_24
    simp (disch := first | assumption | omega) only [gI, gI2, gL, gL1, gL2, jcLT, jcGE, jcGT, jcLE, jcEQ, jcNE, dEQ, nIt, lgNE, lgEQ, lgGE, lgLT, lgGT, lgLE, jinT, nIc, nI0, nI1, nIo, nIs, nI_add, nIm, nIn0, szl0, szl1, szl2, szl3, szl4, szl5, Nat.add_sub_assoc, Nat.add_zero, Nat.reduceSub, Nat.reduceAdd, Nat.reduceMul, Nat.reduceEqDiff,  jifT, bdS, sifN, sifS, omN, omS, cdI, x25, x26, x27, x28, x29, x30, x31, x32, xr0, xr1, xr2, xr3, xr4, xr5, if_pos, if_neg, true_and, and_true, false_and, and_false, and_self, Bool.and_true, if_true, if_false, reduceIte, cond_true, cond_false, not_true_eq_false, not_false_eq_true, x51, x52, x53, x54, x55, x56, x57, x58, x59, x60, x61, x62, x63, F_188_760, F_158, jfb, q0, v1, e]
  have W1 : ∀ T2, ka = 0 → F_171 G t (r, 0) (nI 1) (T.2.1 62 r d (k + 1)) (mpS T r d (k + 2) 2) = some ((), T2) → W_24 G t r d a T = some ((), T2) := fun T2 z e => by
    subst z
    clear h hv o4 u1 u2 a5 a6 a7 a8
    unfold W_24
    simp (disch := first | assumption | omega) only [gI, gI2, gL, gL1, gL2, jcLT, jcGE, jcGT, jcLE, jcEQ, jcNE, dEQ, nIt, lgNE, lgEQ, lgGE, lgLT, lgGT, lgLE, jinT, nIc, nI0, nI1, nIo, nIs, nI_add, nIm, nIn0, szl0, szl1, szl2, szl3, szl4, szl5, Nat.add_sub_assoc, Nat.add_zero, Nat.reduceSub, Nat.reduceAdd, Nat.reduceMul, Nat.reduceEqDiff,  jifT, bdS, sifN, sifS, omN, omS, cdI, x25, x26, x27, x28, x29, x30, x31, x32, xr0, xr1, xr2, xr3, xr4, xr5, if_pos, if_neg, true_and, and_true, false_and, and_false, and_self, Bool.and_true, if_true, if_false, reduceIte, cond_true, cond_false, not_true_eq_false, not_false_eq_true, x51, x52, x53, x54, x55, x56, x57, x58, x59, x60, x61, x62, x63, F_188_760, F_158, jfb, q0, v1, v2, e]
  have PAN : X_24 G t r p a S = some (-2, S) → (∀ T2, F_155 G t (r, 0) (-2) (mpS T r d (k + 2) 2) = some ((), T2) → W_24 G t r d a T = some ((), T2)) → insR φ D F N P S T A r p G t 2 (X_24 G t r p a S) (W_24 G t r d a T) := fun ec ew => by
    obtain ⟨S', T', r1, r2, r3⟩ := h.panp (G := G) ht 2 (by omega) neg2.1 neg2.2 ec
    exact ⟨S', T', r1, ew _ r2, r3⟩
  rcases h.ob hv with ⟨q, b1, b2, b3, b4, b5⟩ | ⟨x, b0, b1, b2, b3, b4, b5, b6, b7⟩
  · have ec : X_24 G t r p a S = some (-2, S) := x_24 (o := none) hG a3 a1 hM o1 hn (by rw [b2]; exact f_87n b1) rfl
    refine PAN ec (fun T2 e => ?_)
    by_cases c : ka = 0
    · exact W1 T2 c (e171n (by omega) (u1.trans b3) b1 e)
    · exact W0 T2 c e
  · obtain ⟨p1, kd, z, w, c, c1, c2, ⟨c3, c4, c5⟩, ⟨c6, c7, c8, _⟩, ⟨c9, c10, c11, c12⟩, _, _, vv⟩ := b7
    have t0 : (mpS T r d (k + 2) 2).1 51 (φ x) 0 0 = nI kd := by rw [(mp51 T r d (k + 2) 2 (φ x) 0 51 (by omega) (by omega)).1]; exact c4
    have t1 : (mpS T r d (k + 2) 2).1 51 (φ x) 0 1 = nI z := by rw [(mp51 T r d (k + 2) 2 (φ x) 1 51 (by omega) (by omega)).1]; exact c7
    have e3 : F_87 G t (S.1 31 p 1 k) (nI 2) S = some (if kd = 2 then some (p1, 0) else none, S) := by
      rw [b3]; exact f_87o b1 c1 c2 c3 (by omega) (by omega)
    have ec := x_24 (r := r) (a := a) (R := _) hG a3 a1 hM o1 hn e3 rfl
    by_cases cg : ga = 0
    · have ck0 := a5.mp cg
      have cx := a7 cg
      by_cases ck : kd = 2 ∧ ¬ S.2.1 30 p 1 (k + 1) < 0 ∧ S.2.1 30 p 1 (k + 1) < Int64.ofNat w
      · obtain ⟨rfl, cj⟩ := ck
        have cz := c12 rfl
        obtain ⟨i, hi, ei⟩ := idx64 (by omega) cj.1 cj.2
        rw [if_pos rfl, sifS, if_pos cg, ei, e146_24 hG hM o1 hn c2 c9 (by omega) hi] at ec
        rw [← cx, ei] at W1
        refine h.repl hpc (k := 2) (by omega) (by omega) (vv i hi) ec (W1 _ ck0 (e171 (q := φ x) (kd := 2) (z := z) (T1 := T) (by omega) (u1.trans b4) (u2.trans b6) b2 t0 t1 c8 (by omega) ?_))
        rw [(mp51 T r d (k + 2) 2 (φ x) i 52 (by omega) (by omega)).1, (mp51 T r d (k + 2) 2 (φ x) i 53 (by omega) (by omega)).2]
        exact e_157p (k := 2) ht hr d3 hn d2 o2 (by omega)
      · have ec : X_24 G t r p a S = some (-2, S) := by
          by_cases c2' : kd = 2
          · rw [if_pos c2', sifS, if_pos cg, e146n_24 c2 c9 (by omega) (fun z => ck ⟨c2', z⟩)] at ec
            exact ec
          · rw [if_neg c2'] at ec
            exact ec
        refine PAN ec (fun T2 e => W1 T2 ck0 (e171m (by omega) (u1.trans b4) (u2.trans b6) b2 t0 (by omega) t1 c8 (fun y => ck ⟨y.1, ?_⟩) e))
        rw [← cx, ← c12 y.1] at y
        exact y.2
    · have ec : X_24 G t r p a S = some (-2, S) := by
        by_cases c2' : kd = 2
        · rw [if_pos c2', sifS, if_neg cg] at ec
          exact ec
        · rw [if_neg c2'] at ec
          exact ec
      exact PAN ec (fun T2 e => W0 T2 (fun z => cg (a5.mpr z)) e)
end OBG
