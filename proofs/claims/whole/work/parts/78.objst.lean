/-! Objects: SET_VALUE and SET_AT. printed by gen78.py -/
section OST
variable {φ : Nat → Nat} {D : Nat → Prop} {F N : Nat} {P : aP} {S S' T T' : sS} {A : aS} {r d p f pc n m e b k : Nat} {G : jG} {t : Nat}
set_option maxHeartbeats 4000000 in
set_option linter.unusedSimpArgs false in
theorem e146_23 (hG : gG G) {p1 w i : Nat} {S1 : sS} (hM : S.2.2.2.1.1 p = true) (o1 : S.1 29 p 1 2 = nI (k + 2)) (hn : k + 2 ≤ 16) (hM1 : S.2.2.2.1.2 p1 = true) (hw : S.1 29 p1 4 2 = nI w) (hw2 : w ≤ 16) (hi : i < w) (q1 : F_96 G t (p1, 4) (nI i) S = some ((), S1)) (aS : agr (fun t a b => 15 ≤ t ∧ t ≤ 17 ∧ a = 0 ∧ b = 0) S S1) (hX : S1.2.2 = S.2.2) : F_115_146 G t (nI 23) (p, 1) (p1, 0) (Int64.ofNat i) S = some (nI 0, siI (siI (siL S1 30 p1 4 i (S.2.1 30 p 1 (k + 1))) 31 p1 4 i (S.1 31 p 1 (k + 1))) 29 p 1 2 (nI k)) := by
  have hM' : S1.2.2.2.1.1 p = true := by rw [hX]; exact hM
  have hM1' : S1.2.2.2.1.2 p1 = true := by rw [hX]; exact hM1
  have o1' : S1.1 29 p 1 2 = nI (k + 2) := by rw [(aS 29 p 1 (by omega)).1]; exact o1
  have hw' : S1.1 29 p1 4 2 = nI w := by rw [(aS 29 p1 4 (by omega)).1]; exact hw
  have rw1 : rwS S1 p 1 (k + 2) := ⟨xr1 hM', o1', show k + 2 ≤ 16 by omega⟩
  have e1 := f_26 (G := G) (t := t) rw1 (i := k + 1) (by omega)
  have e2 := f_27 (G := G) (t := t) rw1 (i := k + 1) (by omega)
  rw [(aS 30 p 1 (by omega)).2] at e1
  rw [(aS 31 p 1 (by omega)).1] at e2
  have e6 : F_76 G t (p, 1) (nI 2) (siI (siL S1 30 p1 4 i (S.2.1 30 p 1 (k + 1))) 31 p1 4 i (S.1 31 p 1 (k + 1))) = some ((), siI (siI (siL S1 30 p1 4 i (S.2.1 30 p 1 (k + 1))) 31 p1 4 i (S.1 31 p 1 (k + 1))) 29 p 1 2 (nI k)) := f_76 (sz := k + 2) ⟨xr1 hM', by rw [siI_ne _ _ _ (by omega)]; exact o1', show k + 2 ≤ 16 by omega⟩ (by omega)
  have y1 := hG.1
  have y2 : (G 1).2 23 = nI 2 := (hG.2.2 23 (by omega)).1
  have y3 := l64 (n := w) (by omega)
  have y4 := nlt0 i (by omega)
  have y5 : Int64.ofNat i < Int64.ofNat w := (lt64 (by omega) (by omega)).mpr hi
  have y6 := ofN32 (n := i) (by omega)
  clear hG aS rw1
  unfold F_115_146
  simp (disch := first | assumption | omega) only [gI, gI2, gL, gL1, gL2, jcLT, jcGE, jcGT, jcLE, jcEQ, jcNE, dEQ, nIt, lgNE, lgEQ, lgGE, lgLT, lgGT, lgLE, jinT, nIc, nI0, nI1, nIo, nIs, nI_add, nIm, nIn0, szl0, szl1, szl2, szl3, szl4, szl5, Nat.add_sub_assoc, Nat.add_zero, Nat.reduceSub, Nat.reduceAdd, Nat.reduceMul, Nat.reduceEqDiff,  jifT, bdS, sifN, sifS, omN, omS, cdI, x25, x26, x27, x28, x29, x30, x31, x32, xr0, xr1, xr2, xr3, xr4, xr5, if_pos, if_neg, true_and, and_true, false_and, and_false, and_self, Bool.and_true, if_true, if_false, reduceIte, cond_true, cond_false, not_true_eq_false, not_false_eq_true, F_28, hM, hM1, hM', hM1', o1, hw, hw', y1, y2, y3, eq_false y4, eq_true y5, y6, q1, e1, e2, e6]
set_option maxHeartbeats 4000000 in
set_option linter.unusedSimpArgs false in
theorem e146n_23 {p1 w : Nat} {v : Int64} (hM1 : S.2.2.2.1.2 p1 = true) (hw : S.1 29 p1 4 2 = nI w) (hw2 : w ≤ 16) (hv : ¬ (¬ v < 0 ∧ v < Int64.ofNat w)) : F_115_146 G t (nI 23) (p, 1) (p1, 0) v S = some (-2, S) := by
  have y3 := l64 (n := w) (by omega)
  unfold F_115_146
  by_cases c : v < 0
  · simp (disch := first | assumption | omega) only [gI, gI2, gL, gL1, gL2, jcLT, jcGE, jcGT, jcLE, jcEQ, jcNE, dEQ, nIt, lgNE, lgEQ, lgGE, lgLT, lgGT, lgLE, jinT, nIc, nI0, nI1, nIo, nIs, nI_add, nIm, nIn0, szl0, szl1, szl2, szl3, szl4, szl5, Nat.add_sub_assoc, Nat.add_zero, Nat.reduceSub, Nat.reduceAdd, Nat.reduceMul, Nat.reduceEqDiff,  jifT, bdS, sifN, sifS, omN, omS, cdI, x25, x26, x27, x28, x29, x30, x31, x32, xr0, xr1, xr2, xr3, xr4, xr5, if_pos, if_neg, true_and, and_true, false_and, and_false, and_self, Bool.and_true, if_true, if_false, reduceIte, cond_true, cond_false, not_true_eq_false, not_false_eq_true, eq_true c]
  · have c2 : ¬ v < Int64.ofNat w := fun z => hv ⟨c, z⟩
    simp (disch := first | assumption | omega) only [gI, gI2, gL, gL1, gL2, jcLT, jcGE, jcGT, jcLE, jcEQ, jcNE, dEQ, nIt, lgNE, lgEQ, lgGE, lgLT, lgGT, lgLE, jinT, nIc, nI0, nI1, nIo, nIs, nI_add, nIm, nIn0, szl0, szl1, szl2, szl3, szl4, szl5, Nat.add_sub_assoc, Nat.add_zero, Nat.reduceSub, Nat.reduceAdd, Nat.reduceMul, Nat.reduceEqDiff,  jifT, bdS, sifN, sifS, omN, omS, cdI, x25, x26, x27, x28, x29, x30, x31, x32, xr0, xr1, xr2, xr3, xr4, xr5, if_pos, if_neg, true_and, and_true, false_and, and_false, and_self, Bool.and_true, if_true, if_false, reduceIte, cond_true, cond_false, not_true_eq_false, not_false_eq_true, eq_false c, eq_false c2, hM1, hw, y3]
set_option maxHeartbeats 4000000 in
set_option linter.unusedSimpArgs false in
theorem x_23 (hG : gG G) {j : Nat} (hj : j < 16) {R : Option (Int32 × sS)} {o : Option (Nat × Nat)} (hM : S.2.2.2.1.1 p = true) (o1 : S.1 29 p 1 2 = nI (k + 2)) (hn : k + 2 ≤ 16) (e3 : F_87 G t (S.1 31 p 1 k) (nI 2) S = some (o, S)) (hR : R = sif o (some (-2, S)) (fun p1 => F_115_146 G t (nI 23) (p, 1) p1 (Int64.ofNat j) S)) : X_23 G t r p (nI j) S = R := by
  have rw1 : rwS S p 1 (k + 2) := ⟨xr1 hM, o1, show k + 2 ≤ 16 by omega⟩
  have e1 := f_27 (G := G) (t := t) rw1 (i := k) (by omega)
  have y3 := l64 (n := j) (by omega)
  have y1 := hG.1
  have y2 : (G 1).2 23 = nI 2 := (hG.2.2 23 (by omega)).1
  clear hG
  subst hR
  unfold X_23
  have key : ∀ Q : Option (Int32 × sS), (Q.bind fun q1 => some (q1.1, q1.2)) = Q := fun Q => by cases Q <;> rfl
  cases o with
  | none =>
    simp (disch := first | assumption | omega) only [gI, gI2, gL, gL1, gL2, jcLT, jcGE, jcGT, jcLE, jcEQ, jcNE, dEQ, nIt, lgNE, lgEQ, lgGE, lgLT, lgGT, lgLE, jinT, nIc, nI0, nI1, nIo, nIs, nI_add, nIm, nIn0, szl0, szl1, szl2, szl3, szl4, szl5, Nat.add_sub_assoc, Nat.add_zero, Nat.reduceSub, Nat.reduceAdd, Nat.reduceMul, Nat.reduceEqDiff,  jifT, bdS, sifN, sifS, omN, omS, cdI, x25, x26, x27, x28, x29, x30, x31, x32, xr0, xr1, xr2, xr3, xr4, xr5, if_pos, if_neg, true_and, and_true, false_and, and_false, and_self, Bool.and_true, if_true, if_false, reduceIte, cond_true, cond_false, not_true_eq_false, not_false_eq_true, F_116_314, F_115, F_115_103, F_115_123, hM, o1, y1, y2, y3, e1, e3, key]
  | some p1 =>
    simp (disch := first | assumption | omega) only [gI, gI2, gL, gL1, gL2, jcLT, jcGE, jcGT, jcLE, jcEQ, jcNE, dEQ, nIt, lgNE, lgEQ, lgGE, lgLT, lgGT, lgLE, jinT, nIc, nI0, nI1, nIo, nIs, nI_add, nIm, nIn0, szl0, szl1, szl2, szl3, szl4, szl5, Nat.add_sub_assoc, Nat.add_zero, Nat.reduceSub, Nat.reduceAdd, Nat.reduceMul, Nat.reduceEqDiff,  jifT, bdS, sifN, sifS, omN, omS, cdI, x25, x26, x27, x28, x29, x30, x31, x32, xr0, xr1, xr2, xr3, xr4, xr5, if_pos, if_neg, true_and, and_true, false_and, and_false, and_self, Bool.and_true, if_true, if_false, reduceIte, cond_true, cond_false, not_true_eq_false, not_false_eq_true, F_116_314, F_115, F_115_103, F_115_123, hM, o1, y1, y2, y3, e1, e3, key]
set_option maxHeartbeats 4000000 in
set_option linter.unusedSimpArgs false in
theorem e146_25 (hG : gG G) {p1 w i : Nat} {S1 : sS} (hM : S.2.2.2.1.1 p = true) (o1 : S.1 29 p 1 2 = nI (k + 3)) (hn : k + 3 ≤ 16) (hM1 : S.2.2.2.1.2 p1 = true) (hw : S.1 29 p1 4 2 = nI w) (hw2 : w ≤ 16) (hi : i < w) (q1 : F_96 G t (p1, 4) (nI i) S = some ((), S1)) (aS : agr (fun t a b => 15 ≤ t ∧ t ≤ 17 ∧ a = 0 ∧ b = 0) S S1) (hX : S1.2.2 = S.2.2) : F_115_146 G t (nI 25) (p, 1) (p1, 0) (Int64.ofNat i) S = some (nI 0, siI (siI (siL S1 30 p1 4 i (S.2.1 30 p 1 (k + 2))) 31 p1 4 i (S.1 31 p 1 (k + 2))) 29 p 1 2 (nI k)) := by
  have hM' : S1.2.2.2.1.1 p = true := by rw [hX]; exact hM
  have hM1' : S1.2.2.2.1.2 p1 = true := by rw [hX]; exact hM1
  have o1' : S1.1 29 p 1 2 = nI (k + 3) := by rw [(aS 29 p 1 (by omega)).1]; exact o1
  have hw' : S1.1 29 p1 4 2 = nI w := by rw [(aS 29 p1 4 (by omega)).1]; exact hw
  have rw1 : rwS S1 p 1 (k + 3) := ⟨xr1 hM', o1', show k + 3 ≤ 16 by omega⟩
  have e1 := f_26 (G := G) (t := t) rw1 (i := k + 2) (by omega)
  have e2 := f_27 (G := G) (t := t) rw1 (i := k + 2) (by omega)
  rw [(aS 30 p 1 (by omega)).2] at e1
  rw [(aS 31 p 1 (by omega)).1] at e2
  have e6 : F_76 G t (p, 1) (nI 3) (siI (siL S1 30 p1 4 i (S.2.1 30 p 1 (k + 2))) 31 p1 4 i (S.1 31 p 1 (k + 2))) = some ((), siI (siI (siL S1 30 p1 4 i (S.2.1 30 p 1 (k + 2))) 31 p1 4 i (S.1 31 p 1 (k + 2))) 29 p 1 2 (nI k)) := f_76 (sz := k + 3) ⟨xr1 hM', by rw [siI_ne _ _ _ (by omega)]; exact o1', show k + 3 ≤ 16 by omega⟩ (by omega)
  have y1 := hG.1
  have y2 : (G 1).2 25 = nI 3 := (hG.2.2 25 (by omega)).1
  have y3 := l64 (n := w) (by omega)
  have y4 := nlt0 i (by omega)
  have y5 : Int64.ofNat i < Int64.ofNat w := (lt64 (by omega) (by omega)).mpr hi
  have y6 := ofN32 (n := i) (by omega)
  clear hG aS rw1
  unfold F_115_146
  simp (disch := first | assumption | omega) only [gI, gI2, gL, gL1, gL2, jcLT, jcGE, jcGT, jcLE, jcEQ, jcNE, dEQ, nIt, lgNE, lgEQ, lgGE, lgLT, lgGT, lgLE, jinT, nIc, nI0, nI1, nIo, nIs, nI_add, nIm, nIn0, szl0, szl1, szl2, szl3, szl4, szl5, Nat.add_sub_assoc, Nat.add_zero, Nat.reduceSub, Nat.reduceAdd, Nat.reduceMul, Nat.reduceEqDiff,  jifT, bdS, sifN, sifS, omN, omS, cdI, x25, x26, x27, x28, x29, x30, x31, x32, xr0, xr1, xr2, xr3, xr4, xr5, if_pos, if_neg, true_and, and_true, false_and, and_false, and_self, Bool.and_true, if_true, if_false, reduceIte, cond_true, cond_false, not_true_eq_false, not_false_eq_true, F_28, hM, hM1, hM', hM1', o1, hw, hw', y1, y2, y3, eq_false y4, eq_true y5, y6, q1, e1, e2, e6]
set_option maxHeartbeats 4000000 in
set_option linter.unusedSimpArgs false in
theorem e146n_25 {p1 w : Nat} {v : Int64} (hM1 : S.2.2.2.1.2 p1 = true) (hw : S.1 29 p1 4 2 = nI w) (hw2 : w ≤ 16) (hv : ¬ (¬ v < 0 ∧ v < Int64.ofNat w)) : F_115_146 G t (nI 25) (p, 1) (p1, 0) v S = some (-2, S) := by
  have y3 := l64 (n := w) (by omega)
  unfold F_115_146
  by_cases c : v < 0
  · simp (disch := first | assumption | omega) only [gI, gI2, gL, gL1, gL2, jcLT, jcGE, jcGT, jcLE, jcEQ, jcNE, dEQ, nIt, lgNE, lgEQ, lgGE, lgLT, lgGT, lgLE, jinT, nIc, nI0, nI1, nIo, nIs, nI_add, nIm, nIn0, szl0, szl1, szl2, szl3, szl4, szl5, Nat.add_sub_assoc, Nat.add_zero, Nat.reduceSub, Nat.reduceAdd, Nat.reduceMul, Nat.reduceEqDiff,  jifT, bdS, sifN, sifS, omN, omS, cdI, x25, x26, x27, x28, x29, x30, x31, x32, xr0, xr1, xr2, xr3, xr4, xr5, if_pos, if_neg, true_and, and_true, false_and, and_false, and_self, Bool.and_true, if_true, if_false, reduceIte, cond_true, cond_false, not_true_eq_false, not_false_eq_true, eq_true c]
  · have c2 : ¬ v < Int64.ofNat w := fun z => hv ⟨c, z⟩
    simp (disch := first | assumption | omega) only [gI, gI2, gL, gL1, gL2, jcLT, jcGE, jcGT, jcLE, jcEQ, jcNE, dEQ, nIt, lgNE, lgEQ, lgGE, lgLT, lgGT, lgLE, jinT, nIc, nI0, nI1, nIo, nIs, nI_add, nIm, nIn0, szl0, szl1, szl2, szl3, szl4, szl5, Nat.add_sub_assoc, Nat.add_zero, Nat.reduceSub, Nat.reduceAdd, Nat.reduceMul, Nat.reduceEqDiff,  jifT, bdS, sifN, sifS, omN, omS, cdI, x25, x26, x27, x28, x29, x30, x31, x32, xr0, xr1, xr2, xr3, xr4, xr5, if_pos, if_neg, true_and, and_true, false_and, and_false, and_self, Bool.and_true, if_true, if_false, reduceIte, cond_true, cond_false, not_true_eq_false, not_false_eq_true, eq_false c, eq_false c2, hM1, hw, y3]
set_option maxHeartbeats 4000000 in
set_option linter.unusedSimpArgs false in
theorem x_25 (hG : gG G) {a : Int32} {ga : Nat} (ga2 : ga < 602) (ga1 : S.1 31 p 1 (k + 1) = nI ga) {R : Option (Int32 × sS)} {o : Option (Nat × Nat)} (hM : S.2.2.2.1.1 p = true) (o1 : S.1 29 p 1 2 = nI (k + 3)) (hn : k + 3 ≤ 16) (e3 : F_87 G t (S.1 31 p 1 k) (nI 2) S = some (o, S)) (hR : R = sif o (some (-2, S)) (fun p1 => if ga = 0 then F_115_146 G t (nI 25) (p, 1) p1 (S.2.1 30 p 1 (k + 1)) S else some (-2, S))) : X_25 G t r p a S = R := by
  have rw1 : rwS S p 1 (k + 3) := ⟨xr1 hM, o1, show k + 3 ≤ 16 by omega⟩
  have e1 := f_27 (G := G) (t := t) rw1 (i := k) (by omega)
  have e2 := f_26 (G := G) (t := t) rw1 (i := k + 1) (by omega)
  have e4 := f_103 (G := G) (t := t) rw1 (i := k + 1) (by omega) ga1 (by omega)
  have y1 := hG.1
  have y2 : (G 1).2 25 = nI 3 := (hG.2.2 25 (by omega)).1
  clear hG
  subst hR
  unfold X_25
  have key : ∀ Q : Option (Int32 × sS), (Q.bind fun q1 => some (q1.1, q1.2)) = Q := fun Q => by cases Q <;> rfl
  cases o with
  | none =>
    simp (disch := first | assumption | omega) only [gI, gI2, gL, gL1, gL2, jcLT, jcGE, jcGT, jcLE, jcEQ, jcNE, dEQ, nIt, lgNE, lgEQ, lgGE, lgLT, lgGT, lgLE, jinT, nIc, nI0, nI1, nIo, nIs, nI_add, nIm, nIn0, szl0, szl1, szl2, szl3, szl4, szl5, Nat.add_sub_assoc, Nat.add_zero, Nat.reduceSub, Nat.reduceAdd, Nat.reduceMul, Nat.reduceEqDiff,  jifT, bdS, sifN, sifS, omN, omS, cdI, x25, x26, x27, x28, x29, x30, x31, x32, xr0, xr1, xr2, xr3, xr4, xr5, if_pos, if_neg, true_and, and_true, false_and, and_false, and_self, Bool.and_true, if_true, if_false, reduceIte, cond_true, cond_false, not_true_eq_false, not_false_eq_true, F_116_314, F_115, F_115_98, F_115_103, F_115_123, hM, o1, y1, y2, e1, e2, e3, e4, key]
  | some p1 =>
    by_cases c : ga = 0
    · subst c
      simp (disch := first | assumption | omega) only [gI, gI2, gL, gL1, gL2, jcLT, jcGE, jcGT, jcLE, jcEQ, jcNE, dEQ, nIt, lgNE, lgEQ, lgGE, lgLT, lgGT, lgLE, jinT, nIc, nI0, nI1, nIo, nIs, nI_add, nIm, nIn0, szl0, szl1, szl2, szl3, szl4, szl5, Nat.add_sub_assoc, Nat.add_zero, Nat.reduceSub, Nat.reduceAdd, Nat.reduceMul, Nat.reduceEqDiff,  jifT, bdS, sifN, sifS, omN, omS, cdI, x25, x26, x27, x28, x29, x30, x31, x32, xr0, xr1, xr2, xr3, xr4, xr5, if_pos, if_neg, true_and, and_true, false_and, and_false, and_self, Bool.and_true, if_true, if_false, reduceIte, cond_true, cond_false, not_true_eq_false, not_false_eq_true, F_116_314, F_115, F_115_98, F_115_103, F_115_123, hM, o1, y1, y2, e1, e2, e3, e4, key]
    · simp (disch := first | assumption | omega) only [gI, gI2, gL, gL1, gL2, jcLT, jcGE, jcGT, jcLE, jcEQ, jcNE, dEQ, nIt, lgNE, lgEQ, lgGE, lgLT, lgGT, lgLE, jinT, nIc, nI0, nI1, nIo, nIs, nI_add, nIm, nIn0, szl0, szl1, szl2, szl3, szl4, szl5, Nat.add_sub_assoc, Nat.add_zero, Nat.reduceSub, Nat.reduceAdd, Nat.reduceMul, Nat.reduceEqDiff,  jifT, bdS, sifN, sifS, omN, omS, cdI, x25, x26, x27, x28, x29, x30, x31, x32, xr0, xr1, xr2, xr3, xr4, xr5, if_pos, if_neg, true_and, and_true, false_and, and_false, and_self, Bool.and_true, if_true, if_false, reduceIte, cond_true, cond_false, not_true_eq_false, not_false_eq_true, F_116_314, F_115, F_115_98, F_115_103, F_115_123, hM, o1, y1, y2, e1, e2, e3, e4, key]
set_option maxHeartbeats 4000000 in
set_option linter.unusedSimpArgs false in
theorem e172 {j q z i : Nat} (hj : j < 16) (v1 : T.1 47 0 0 j = nI 2) (v2 : T.2.1 48 0 0 j = Int64.ofNat q) (hq : q < 1300) (hk : T.1 51 q 0 0 = nI 2) (hz : T.1 51 q 0 1 = nI z) (hz2 : z ≤ 16) (hi : i < z) : F_172 G t (r, 0) (nI j) (Int64.ofNat i) T = some ((), siL (siI T 52 q 0 i (T.1 47 0 0 0)) 53 q 0 i (T.2.1 48 0 0 0)) := by
  have e1 := f_170o (G := G) (t := t) (ty := 2) hq hk (by omega) (by omega)
  rw [if_pos rfl] at e1
  have y3 := l64 (n := z) (by omega)
  have y4 := nlt0 i (by omega)
  have y5 : ¬ Int64.ofNat z ≤ Int64.ofNat i := fun w => by have := (le64 (by omega) (by omega)).mp w; omega
  have y6 := ofN32 (n := i) (by omega)
  have y7 := ofN32 (n := q) (by omega)
  unfold F_172
  simp (disch := first | assumption | omega) only [gI, gI2, gL, gL1, gL2, jcLT, jcGE, jcGT, jcLE, jcEQ, jcNE, dEQ, nIt, lgNE, lgEQ, lgGE, lgLT, lgGT, lgLE, jinT, nIc, nI0, nI1, nIo, nIs, nI_add, nIm, nIn0, szl0, szl1, szl2, szl3, szl4, szl5, Nat.add_sub_assoc, Nat.add_zero, Nat.reduceSub, Nat.reduceAdd, Nat.reduceMul, Nat.reduceEqDiff,  jifT, bdS, sifN, sifS, omN, omS, cdI, x25, x26, x27, x28, x29, x30, x31, x32, xr0, xr1, xr2, xr3, xr4, xr5, if_pos, if_neg, true_and, and_true, false_and, and_false, and_self, Bool.and_true, if_true, if_false, reduceIte, cond_true, cond_false, not_true_eq_false, not_false_eq_true, x51, x52, x53, x54, x55, x56, x57, x58, x59, x60, x61, x62, x63, F_172_54, F_158, jfb, v1, v2, e1, y7, hz, y3, eq_false y4, eq_false y5, y6]
set_option maxHeartbeats 4000000 in
set_option linter.unusedSimpArgs false in
theorem e172n {T2 : sS} {j q : Nat} {v : Int64} (hj : j < 16) (v1 : T.1 47 0 0 j = nI q) (hq : q < 2) (q1 : F_155 G t (r, 0) (-2) T = some ((), T2)) : F_172 G t (r, 0) (nI j) v T = some ((), T2) := by
  have e1 := f_170n (G := G) (t := t) (v := T.2.1 48 0 0 j) (ty := nI 2) (T := T) hq
  unfold F_172
  simp (disch := first | assumption | omega) only [gI, gI2, gL, gL1, gL2, jcLT, jcGE, jcGT, jcLE, jcEQ, jcNE, dEQ, nIt, lgNE, lgEQ, lgGE, lgLT, lgGT, lgLE, jinT, nIc, nI0, nI1, nIo, nIs, nI_add, nIm, nIn0, szl0, szl1, szl2, szl3, szl4, szl5, Nat.add_sub_assoc, Nat.add_zero, Nat.reduceSub, Nat.reduceAdd, Nat.reduceMul, Nat.reduceEqDiff,  jifT, bdS, sifN, sifS, omN, omS, cdI, x25, x26, x27, x28, x29, x30, x31, x32, xr0, xr1, xr2, xr3, xr4, xr5, if_pos, if_neg, true_and, and_true, false_and, and_false, and_self, Bool.and_true, if_true, if_false, reduceIte, cond_true, cond_false, not_true_eq_false, not_false_eq_true, x51, x52, x53, x54, x55, x56, x57, x58, x59, x60, x61, x62, x63, F_172_53, F_172_54, F_158, jfb, v1, e1, q1]
set_option maxHeartbeats 4000000 in
set_option linter.unusedSimpArgs false in
theorem e172m {T2 : sS} {j q kd z : Nat} {v : Int64} (hj : j < 16) (v1 : T.1 47 0 0 j = nI 2) (v2 : T.2.1 48 0 0 j = Int64.ofNat q) (hq : q < 1300) (hk : T.1 51 q 0 0 = nI kd) (hk2 : kd ≤ 3) (hz : T.1 51 q 0 1 = nI z) (hz2 : z ≤ 16) (hv : ¬ (kd = 2 ∧ ¬ v < 0 ∧ v < Int64.ofNat z)) (q1 : F_155 G t (r, 0) (-2) T = some ((), T2)) : F_172 G t (r, 0) (nI j) v T = some ((), T2) := by
  have e1 := f_170o (G := G) (t := t) (ty := 2) hq hk (by omega) (by omega)
  have y3 := l64 (n := z) (by omega)
  have y7 := ofN32 (n := q) (by omega)
  unfold F_172
  by_cases c : kd = 2
  · rw [if_pos c] at e1
    by_cases c1 : v < 0
    · simp (disch := first | assumption | omega) only [gI, gI2, gL, gL1, gL2, jcLT, jcGE, jcGT, jcLE, jcEQ, jcNE, dEQ, nIt, lgNE, lgEQ, lgGE, lgLT, lgGT, lgLE, jinT, nIc, nI0, nI1, nIo, nIs, nI_add, nIm, nIn0, szl0, szl1, szl2, szl3, szl4, szl5, Nat.add_sub_assoc, Nat.add_zero, Nat.reduceSub, Nat.reduceAdd, Nat.reduceMul, Nat.reduceEqDiff,  jifT, bdS, sifN, sifS, omN, omS, cdI, x25, x26, x27, x28, x29, x30, x31, x32, xr0, xr1, xr2, xr3, xr4, xr5, if_pos, if_neg, true_and, and_true, false_and, and_false, and_self, Bool.and_true, if_true, if_false, reduceIte, cond_true, cond_false, not_true_eq_false, not_false_eq_true, x51, x52, x53, x54, x55, x56, x57, x58, x59, x60, x61, x62, x63, F_172_53, F_172_54, F_158, jfb, v1, v2, e1, eq_true c1, q1]
    · have c2 : Int64.ofNat z ≤ v := Int64.not_lt.mp (fun w => hv ⟨c, c1, w⟩)
      simp (disch := first | assumption | omega) only [gI, gI2, gL, gL1, gL2, jcLT, jcGE, jcGT, jcLE, jcEQ, jcNE, dEQ, nIt, lgNE, lgEQ, lgGE, lgLT, lgGT, lgLE, jinT, nIc, nI0, nI1, nIo, nIs, nI_add, nIm, nIn0, szl0, szl1, szl2, szl3, szl4, szl5, Nat.add_sub_assoc, Nat.add_zero, Nat.reduceSub, Nat.reduceAdd, Nat.reduceMul, Nat.reduceEqDiff,  jifT, bdS, sifN, sifS, omN, omS, cdI, x25, x26, x27, x28, x29, x30, x31, x32, xr0, xr1, xr2, xr3, xr4, xr5, if_pos, if_neg, true_and, and_true, false_and, and_false, and_self, Bool.and_true, if_true, if_false, reduceIte, cond_true, cond_false, not_true_eq_false, not_false_eq_true, x51, x52, x53, x54, x55, x56, x57, x58, x59, x60, x61, x62, x63, F_172_53, F_172_54, F_158, jfb, v1, v2, e1, y7, hz, y3, eq_false c1, eq_true c2, q1]
  · rw [if_neg c] at e1
    simp (disch := first | assumption | omega) only [gI, gI2, gL, gL1, gL2, jcLT, jcGE, jcGT, jcLE, jcEQ, jcNE, dEQ, nIt, lgNE, lgEQ, lgGE, lgLT, lgGT, lgLE, jinT, nIc, nI0, nI1, nIo, nIs, nI_add, nIm, nIn0, szl0, szl1, szl2, szl3, szl4, szl5, Nat.add_sub_assoc, Nat.add_zero, Nat.reduceSub, Nat.reduceAdd, Nat.reduceMul, Nat.reduceEqDiff,  jifT, bdS, sifN, sifS, omN, omS, cdI, x25, x26, x27, x28, x29, x30, x31, x32, xr0, xr1, xr2, xr3, xr4, xr5, if_pos, if_neg, true_and, and_true, false_and, and_false, and_self, Bool.and_true, if_true, if_false, reduceIte, cond_true, cond_false, not_true_eq_false, not_false_eq_true, x51, x52, x53, x54, x55, x56, x57, x58, x59, x60, x61, x62, x63, F_172_53, F_172_54, F_158, jfb, v1, v2, e1, q1]
/-! a value is set, in all: tk operands are dropped, q is the value's place among them -/
theorem cx.set (ht : 1000 < t) (h : cx φ D F N P S T A r d p f pc n m) (g : gcR D S) (q : iqR P A r False) (hy : T.1 33 0 0 38 = nI 0) (hpc : pc < P.2.2.2.1 f) {tk : Nat} (htk : tk ≤ n) (htk2 : 1 ≤ tk) {x p1 w z i : Nat} (b0 : D x) (c1 : S.2.2.1.2 x = some p1) (c9 : S.1 29 p1 4 2 = nI w) (cw : w ≤ 16) (hi : i < w) {X : Option (Int32 × sS)} {W : Option (Unit × sS)}
    (hX : ∀ S1, F_96 G t (p1, 4) (nI i) S = some ((), S1) → agr (fun t a b => 15 ≤ t ∧ t ≤ 17 ∧ a = 0 ∧ b = 0) S S1 → S1.2.2 = S.2.2 → X = some (nI 0, siI (siI (siL S1 30 p1 4 i (S.2.1 30 p 1 (n - 1))) 31 p1 4 i (S.1 31 p 1 (n - 1))) 29 p 1 2 (nI (n - tk)))) (hW : W = some ((), siL (siI (mpS T r d n tk) 52 (φ x) 0 i (T.1 58 r d (n - 1))) 53 (φ x) 0 i (T.2.1 62 r d (n - 1)))) : insY D F N P S T A r p G t tk 0 X W := by
  obtain ⟨hM, o1, o2, hn, hr, d2, d3⟩ := h.rd
  have hv := h.fr.2.2.2.1.2.2.2 (n - 1) (by omega)
  have ow := h.1.2.2.2.2.2.2.2.2.2
  have hE := h.D6
  obtain ⟨gn, kn, a1, a2, a3, a4, a5, a6, a7, a8⟩ := hv.ix hE
  have ob := h.1.2.2.2.1 x b0
  have htg := ob.tg hE c1 c9 cw
  have hM1 := (ow.2.2.1 x p1 c1).2
  have hgD : ∀ y, gn = y + 2 → D y := fun y hy => by
    rcases hv with ⟨z1, _⟩ | ⟨z1, _⟩ | ⟨u, z0, z1, _⟩
    · rw [a1] at z1
      have := (nI_eq (by omega) (by omega)).mp z1
      omega
    · rw [a1] at z1
      have := (nI_eq (by omega) (by omega)).mp z1
      omega
    · have := hE u z0
      rw [a1] at z1
      have := (nI_eq (by omega) (by omega)).mp z1
      have : u = y := by omega
      exact this ▸ z0
  obtain ⟨S1, r1, r2, r3, r4⟩ := gcR.put (G := G) (t := t) (x := S.2.1 30 p 1 (n - 1)) ht g ow b0 c1 hM1 c9 cw hi htg a3 hgD
  have ec := hX S1 r1 r2 r3
  rw [← a1] at r4
  obtain ⟨w0, w1, hr', a1', a2', a3', a4'⟩ := id h
  obtain ⟨v1, k1, m1, ow1⟩ := w0.frm hr' a1' a2' a3' (dr_ag S p (n - tk)) rfl (mp_ag T r d n tk) (mpS_2 _ _ _ _ _) (h.fr.pops tk)
  have aS3 : agr (fun t i j => (11 ≤ t ∧ t ≤ 17) ∨ (29 ≤ t ∧ t ≤ 31 ∧ i = p1 ∧ j = 4) ∨ (t = 32 ∧ i = p1)) (siI S 29 p 1 2 (nI (n - tk))) (siI (siI (siL S1 30 p1 4 i (S.2.1 30 p 1 (n - 1))) 31 p1 4 i (S.1 31 p 1 (n - 1))) 29 p 1 2 (nI (n - tk))) := by
    intro t' i' j' z
    have z2 := r2 t' i' j' (by omega)
    constructor
    · by_cases c : t' = 29 ∧ i' = p ∧ j' = 1
      · obtain ⟨rfl, rfl, rfl⟩ := c
        rw [siI_self, siI_self, siI_ne _ _ _ (by omega)]
        show upd (S1.1 29 i' 1) 2 _ = _
        rw [z2.1]
      · rw [siI_ne _ _ _ c, siI_ne _ _ _ c, siI_ne _ _ _ (by omega)]
        exact z2.1
    · show (siL S1 30 p1 4 i _).2.1 t' i' j' = S.2.1 t' i' j'
      rw [siL_ne _ _ _ (by omega)]
      exact z2.2
  have aT3 : agr (fun t i j => (51 ≤ t ∧ t ≤ 53 ∧ i = φ x) ∨ (46 ≤ t ∧ t ≤ 50)) (mpS T r d n tk) (siL (siI (mpS T r d n tk) 52 (φ x) 0 i (T.1 58 r d (n - 1))) 53 (φ x) 0 i (T.2.1 62 r d (n - 1))) := agr.l (agr.i (agr.refl _ _) _ _ (by omega)) _ _ (by omega)
  have ob' : obR φ D (siI (siI (siL S1 30 p1 4 i (S.2.1 30 p 1 (n - 1))) 31 p1 4 i (S.1 31 p 1 (n - 1))) 29 p 1 2 (nI (n - tk))) (siL (siI (mpS T r d n tk) 52 (φ x) 0 i (T.1 58 r d (n - 1))) 53 (φ x) 0 i (T.2.1 62 r d (n - 1))) x := by
    obtain ⟨p', kd, z, w', c, y1, y2, y3, y4, y5, y6, y7, y8⟩ := ob
    have : p1 = p' := by rw [c1] at y1; exact Option.some.inj y1
    subst this
    have e29 := (r2 29 p1 4 (by omega)).1
    have e31 := (r2 31 p1 4 (by omega)).1
    have e30 := (r2 30 p1 4 (by omega)).2
    have e32 := (r2 32 p1 0 (by omega)).1
    have t51 : (siL (siI (mpS T r d n tk) 52 (φ x) 0 i (T.1 58 r d (n - 1))) 53 (φ x) 0 i (T.2.1 62 r d (n - 1))).1 51 (φ x) 0 = T.1 51 (φ x) 0 := by
      rw [gL1, siI_ne _ _ _ (by omega), mpS_I _ _ _ _ (by omega) (by omega)]
    have s32 : (siI (siI (siL S1 30 p1 4 i (S.2.1 30 p 1 (n - 1))) 31 p1 4 i (S.1 31 p 1 (n - 1))) 29 p 1 2 (nI (n - tk))).1 32 p1 0 = S.1 32 p1 0 := by
      rw [siI_ne _ _ _ (by omega), siI_ne _ _ _ (by omega)]; exact e32
    have s29 : (siI (siI (siL S1 30 p1 4 i (S.2.1 30 p 1 (n - 1))) 31 p1 4 i (S.1 31 p 1 (n - 1))) 29 p 1 2 (nI (n - tk))).1 29 p1 4 = S.1 29 p1 4 := by
      rw [siI_ne _ _ _ (by omega), siI_ne _ _ _ (by omega)]; exact e29
    refine ⟨p1, kd, z, w', c, by show S1.2.2.1.2 x = _; rw [r3]; exact c1, by show S1.2.2.2.1.2 p1 = _; rw [r3]; exact y2, by rw [s32, t51]; exact y3, by rw [s32, t51]; exact y4, by rw [s29, t51]; exact y5, by rw [s32, t51]; exact y6, by rw [s32]; exact y7, fun q' hq' => ?_⟩
    have z8 := y8 q' hq'
    rw [siI_ne _ _ _ (show ¬ (31 = 29 ∧ p1 = p ∧ 4 = 1) by omega)]
    show vr φ D ((siL S1 30 p1 4 i (S.2.1 30 p 1 (n - 1))).2.1 30 p1 4 q') ((siI (siL S1 30 p1 4 i (S.2.1 30 p 1 (n - 1))) 31 p1 4 i (S.1 31 p 1 (n - 1))).1 31 p1 4 q') ((siI (mpS T r d n tk) 52 (φ x) 0 i (T.1 58 r d (n - 1))).1 52 (φ x) 0 q') ((siL (siI (mpS T r d n tk) 52 (φ x) 0 i (T.1 58 r d (n - 1))) 53 (φ x) 0 i (T.2.1 62 r d (n - 1))).2.1 53 (φ x) 0 q')
    by_cases c' : q' = i
    · subst c'
      rw [gL, if_pos ⟨rfl, rfl, rfl, rfl⟩, siI_at, siI_at, gL, if_pos ⟨rfl, rfl, rfl, rfl⟩]
      exact hv
    · rw [gL, if_neg (by omega), gI, if_neg (by omega), gI, if_neg (by omega), gL, if_neg (by omega), gL1, e31, e30, gI2, mpS_I _ _ _ _ (by omega) (by omega), mpS_L _ _ _ _ (by omega)]
      exact z8
  have v2 := v1.thing b0 c1 aS3 r3 (by rw [siI_ne _ _ _ (by omega), siI_ne _ _ _ (by omega), siI_ne _ _ _ (by omega)]; show S1.1 11 0 0 10 = _; rw [(r2 11 0 0 (by omega)).1]) aT3 ob'
  have g4 : gcR D (siI (siI (siL S1 30 p1 4 i (S.2.1 30 p 1 (n - 1))) 31 p1 4 i (S.1 31 p 1 (n - 1))) 29 p 1 2 (nI (n - tk))) := r4.keep ⟨fun t i j _ _ => ⟨siI_ne _ _ _ (by omega), rfl⟩, fun h p _ t _ _ => ⟨siI_ne _ _ _ (by omega), rfl⟩, fun h p _ => siI_ne _ _ _ (by omega), rfl, rfl⟩
  obtain ⟨q1, q2, q3, q9⟩ := q
  refine ⟨_, _, φ, D, _, cD_ok ec, hW, v2, g4, ⟨fun s hs _ => ?_, q2, fun s => ?_, ?_⟩, fun y hy => hy.same r3, ?_, ⟨Nat.le_succ _, rfl⟩, fun z => ?_⟩
  · by_cases c : s = r
    · subst c
      rw [aset_2, aset_3]
      intro y hy
      have : y = d := by omega
      subst this
      rw [fset_at]
      exact ⟨rfl, hpc⟩
    · rw [aset_2n _ _ _ _ c, aset_3n _ _ _ _ c]
      exact q1 s hs (Or.inl c)
  · by_cases c : s = r
    · subst c
      constructor
      · intro z
        exact absurd rfl ((q3 s).mp z).2.2
      · intro z
        exact absurd rfl z.2.2
    · rw [aset_1n _ _ _ _ c]
      exact q3 s
  · by_cases c : 0 = r
    · subst c
      rw [aset_1]
      omega
    · rw [aset_1n _ _ _ _ c]
      exact q9
  · rw [gL1, siI_ne _ _ _ (by omega), mpS_I _ _ _ _ (by omega) (by omega)]
    exact hy
  · rw [aset_1] at z
    cases z
set_option maxHeartbeats 4000000 in
set_option linter.unusedSimpArgs false in
theorem i_23 (hG : gG G) (ht : 1000 < t) (h : cx φ D F N P S T A r d p f pc (k + 2) m) (g : gcR D S) (q : iqR P A r False) (hy : T.1 33 0 0 38 = nI 0) (hpc : pc < P.2.2.2.1 f) {j : Nat} (hj : j < 16) : insY D F N P S T A r p G t 2 0 (X_23 G t r p (nI j) S) (W_23 G t r d (nI j) T) := by
  obtain ⟨hM, o1, o2, hn, hr, d2, d3⟩ := h.rd
  have hv := h.fr.2.2.2.1.2.2.2 k (by omega)
  obtain ⟨v1, v2⟩ := mpS_v T r d (k + 2) (i := 0) 2 (by omega)
  obtain ⟨u1, u2⟩ := mpS_v T r d (k + 2) (i := 1) 2 (by omega)
  have u1 : (mpS T r d (k + 2) 2).1 47 0 0 1 = T.1 58 r d k := u1
  have u2 : (mpS T r d (k + 2) 2).2.1 48 0 0 1 = T.2.1 62 r d k := u2
  have q0 := e_156 (G := G) (t := t) (k := 2) (by omega) hr d3 hn d2 o2 (by omega)
  have W1 : ∀ T2, F_172 G t (r, 0) (nI 1) (Int64.ofNat j) (mpS T r d (k + 2) 2) = some ((), T2) → W_23 G t r d (nI j) T = some ((), T2) := fun T2 e => by
    have y := l64 (n := j) (by omega)
    clear h hv v1 v2 u1 u2 g q
    unfold W_23
    simp (disch := first | assumption | omega) only [gI, gI2, gL, gL1, gL2, jcLT, jcGE, jcGT, jcLE, jcEQ, jcNE, dEQ, nIt, lgNE, lgEQ, lgGE, lgLT, lgGT, lgLE, jinT, nIc, nI0, nI1, nIo, nIs, nI_add, nIm, nIn0, szl0, szl1, szl2, szl3, szl4, szl5, Nat.add_sub_assoc, Nat.add_zero, Nat.reduceSub, Nat.reduceAdd, Nat.reduceMul, Nat.reduceEqDiff,  jifT, bdS, sifN, sifS, omN, omS, cdI, x25, x26, x27, x28, x29, x30, x31, x32, xr0, xr1, xr2, xr3, xr4, xr5, if_pos, if_neg, true_and, and_true, false_and, and_false, and_self, Bool.and_true, if_true, if_false, reduceIte, cond_true, cond_false, not_true_eq_false, not_false_eq_true, x51, x52, x53, x54, x55, x56, x57, x58, x59, x60, x61, x62, x63, q0, y, e]
  have PAN : X_23 G t r p (nI j) S = some (-2, S) → (∀ T2, F_155 G t (r, 0) (-2) (mpS T r d (k + 2) 2) = some ((), T2) → W_23 G t r d (nI j) T = some ((), T2)) → insY D F N P S T A r p G t 2 0 (X_23 G t r p (nI j) S) (W_23 G t r d (nI j) T) := fun ec ew => by
    obtain ⟨S', T', r1, r2, r3⟩ := h.panp (G := G) ht 2 (by omega) neg2.1 neg2.2 ec
    exact insR.y ⟨S', T', r1, ew _ r2, r3⟩ g q hr hy
  rcases h.ob hv with ⟨q', b1, b2, b3, b4, b5⟩ | ⟨x, b0, b1, b2, b3, b4, b5, b6, b7⟩
  · have ec : X_23 G t r p (nI j) S = some (-2, S) := x_23 (o := none) hG hj hM o1 hn (by rw [b2]; exact f_87n b1) rfl
    exact PAN ec (fun T2 e => W1 T2 (e172n (by omega) (u1.trans b3) b1 e))
  · obtain ⟨p1, kd, z, w, c, c1, c2, ⟨c3, c4, c5⟩, ⟨c6, c7, c8, _⟩, ⟨c9, c10, c11, c12⟩, _, _, vv⟩ := b7
    have t0 : (mpS T r d (k + 2) 2).1 51 (φ x) 0 0 = nI kd := by rw [(mp51 T r d (k + 2) 2 (φ x) 0 51 (by omega) (by omega)).1]; exact c4
    have t1 : (mpS T r d (k + 2) 2).1 51 (φ x) 0 1 = nI z := by rw [(mp51 T r d (k + 2) 2 (φ x) 1 51 (by omega) (by omega)).1]; exact c7
    have e3 : F_87 G t (S.1 31 p 1 k) (nI 2) S = some (if kd = 2 then some (p1, 0) else none, S) := by
      rw [b3]; exact f_87o b1 c1 c2 c3 (by omega) (by omega)
    have ec := x_23 (r := r) (R := _) hG hj hM o1 hn e3 rfl
    by_cases ck : kd = 2 ∧ j < w
    · obtain ⟨rfl, cj⟩ := ck
      have cz := c12 rfl
      rw [if_pos rfl, sifS] at ec
      refine h.set ht g q hy hpc (tk := 2) (by omega) (by omega) b0 c1 c9 (by omega) cj (z := z) (fun S1 r1 r2 r3 => ?_) ?_
      · rw [ec]
        exact e146_23 hG hM o1 hn c2 c9 (by omega) cj r1 r2 r3
      · have e1 := e172 (G := G) (t := t) (r := r) (T := mpS T r d (k + 2) 2) (j := 1) (i := j) (by omega) (u1.trans b4) (u2.trans b6) b2 t0 t1 c8 (by omega)
        rw [v1, v2] at e1
        exact W1 _ e1
    · have ec : X_23 G t r p (nI j) S = some (-2, S) := by
        by_cases c2' : kd = 2
        · rw [if_pos c2', sifS, e146n_23 c2 c9 (by omega) (fun z => ck ⟨c2', (lt64 (by omega) (by omega)).mp z.2⟩)] at ec
          exact ec
        · rw [if_neg c2'] at ec
          exact ec
      refine PAN ec (fun T2 e => W1 T2 (e172m (by omega) (u1.trans b4) (u2.trans b6) b2 t0 (by omega) t1 c8 (fun y => ck ⟨y.1, ?_⟩) e))
      have := (lt64 (by omega) (by omega)).mp y.2.2
      have := c12 y.1
      omega
set_option maxHeartbeats 4000000 in
set_option linter.unusedSimpArgs false in
theorem i_25 (hG : gG G) (ht : 1000 < t) (h : cx φ D F N P S T A r d p f pc (k + 3) m) (g : gcR D S) (q : iqR P A r False) (hy : T.1 33 0 0 38 = nI 0) (hpc : pc < P.2.2.2.1 f) (a : Int32) : insY D F N P S T A r p G t 3 0 (X_25 G t r p a S) (W_25 G t r d a T) := by
  obtain ⟨hM, o1, o2, hn, hr, d2, d3⟩ := h.rd
  have o4 := h.fr.2.2.2.1.2.2.2
  have hv := o4 k (by omega)
  obtain ⟨ga, ka, a1, a2, a3, a4, a5, a6, a7, a8⟩ := (o4 (k + 1) (by omega)).ix h.D6
  obtain ⟨v1, v2⟩ := mpS_v T r d (k + 3) (i := 1) 3 (by omega)
  obtain ⟨u1, u2⟩ := mpS_v T r d (k + 3) (i := 2) 3 (by omega)
  obtain ⟨t1', t2'⟩ := mpS_v T r d (k + 3) (i := 0) 3 (by omega)
  have v1 : (mpS T r d (k + 3) 3).1 47 0 0 1 = nI ka := v1.trans a2
  have u1 : (mpS T r d (k + 3) 3).1 47 0 0 2 = T.1 58 r d k := u1
  have v2 : (mpS T r d (k + 3) 3).2.1 48 0 0 1 = T.2.1 62 r d (k + 1) := v2
  have u2 : (mpS T r d (k + 3) 3).2.1 48 0 0 2 = T.2.1 62 r d k := u2
  have q0 := e_156 (G := G) (t := t) (k := 3) (by omega) hr d3 hn d2 o2 (by omega)
  have W0 : ∀ T2, ka ≠ 0 → F_155 G t (r, 0) (-2) (mpS T r d (k + 3) 3) = some ((), T2) → W_25 G t r d a T = some ((), T2) := fun T2 z e => by
    clear h hv o4 u1 u2 v2 a5 a6 a7 a8 g q t1' t2'
    unfold W_25
    simp (disch := first | assumption | omega) only [gI, gI2, gL, gL1, gL2, jcLT, jcGE, jcGT, jcLE, jcEQ, jcNE, dEQ, nIt, lgNE, lgEQ, lgGE, lgLT, lgGT, lgLE, jinT, nIc, nI0, nI1, nIo, nIs, nI_add, nIm, nIn0, szl0, szl1, szl2, szl3, szl4, szl5, Nat.add_sub_assoc, Nat.add_zero, Nat.reduceSub, Nat.reduceAdd, Nat.reduceMul, Nat.reduceEqDiff,  jifT, bdS, sifN, sifS, omN, omS, cdI, x25, x26, x27, x28, x29, x30, x31, x32, xr0, xr1, xr2, xr3, xr4, xr5, if_pos, if_neg, true_and, and_true, false_and, and_false, and_self, Bool.and_true, if_true, if_false, reduceIte, cond_true, cond_false, not_true_eq_false, not_false_eq_true, x51, x52, x53, x54, x55, x56, x57, x58, x59, x60, x61, x62, x63, F_188_804, F_158, jfb, q0, v1, e]
  have W1 : ∀ T2, ka = 0 → F_172 G t (r, 0) (nI 2) (T.2.1 62 r d (k + 1)) (mpS T r d (k + 3) 3) = some ((), T2) → W_25 G t r d a T = some ((), T2) := fun T2 z e => by
    subst z
    clear h hv o4 u1 u2 a5 a6 a7 a8 g q t1' t2'
    unfold W_25
    simp (disch := first | assumption | omega) only [gI, gI2, gL, gL1, gL2, jcLT, jcGE, jcGT, jcLE, jcEQ, jcNE, dEQ, nIt, lgNE, lgEQ, lgGE, lgLT, lgGT, lgLE, jinT, nIc, nI0, nI1, nIo, nIs, nI_add, nIm, nIn0, szl0, szl1, szl2, szl3, szl4, szl5, Nat.add_sub_assoc, Nat.add_zero, Nat.reduceSub, Nat.reduceAdd, Nat.reduceMul, Nat.reduceEqDiff,  jifT, bdS, sifN, sifS, omN, omS, cdI, x25, x26, x27, x28, x29, x30, x31, x32, xr0, xr1, xr2, xr3, xr4, xr5, if_pos, if_neg, true_and, and_true, false_and, and_false, and_self, Bool.and_true, if_true, if_false, reduceIte, cond_true, cond_false, not_true_eq_false, not_false_eq_true, x51, x52, x53, x54, x55, x56, x57, x58, x59, x60, x61, x62, x63, F_188_804, F_158, jfb, q0, v1, v2, e]
  have PAN : X_25 G t r p a S = some (-2, S) → (∀ T2, F_155 G t (r, 0) (-2) (mpS T r d (k + 3) 3) = some ((), T2) → W_25 G t r d a T = some ((), T2)) → insY D F N P S T A r p G t 3 0 (X_25 G t r p a S) (W_25 G t r d a T) := fun ec ew => by
    obtain ⟨S', T', r1, r2, r3⟩ := h.panp (G := G) ht 3 (by omega) neg2.1 neg2.2 ec
    exact insR.y ⟨S', T', r1, ew _ r2, r3⟩ g q hr hy
  rcases h.ob hv with ⟨q', b1, b2, b3, b4, b5⟩ | ⟨x, b0, b1, b2, b3, b4, b5, b6, b7⟩
  · have ec : X_25 G t r p a S = some (-2, S) := x_25 (o := none) hG a3 a1 hM o1 hn (by rw [b2]; exact f_87n b1) rfl
    refine PAN ec (fun T2 e => ?_)
    by_cases c : ka = 0
    · exact W1 T2 c (e172n (by omega) (u1.trans b3) b1 e)
    · exact W0 T2 c e
  · obtain ⟨p1, kd, z, w, c, c1, c2, ⟨c3, c4, c5⟩, ⟨c6, c7, c8, _⟩, ⟨c9, c10, c11, c12⟩, _, _, vv⟩ := b7
    have t0 : (mpS T r d (k + 3) 3).1 51 (φ x) 0 0 = nI kd := by rw [(mp51 T r d (k + 3) 3 (φ x) 0 51 (by omega) (by omega)).1]; exact c4
    have t1 : (mpS T r d (k + 3) 3).1 51 (φ x) 0 1 = nI z := by rw [(mp51 T r d (k + 3) 3 (φ x) 1 51 (by omega) (by omega)).1]; exact c7
    have e3 : F_87 G t (S.1 31 p 1 k) (nI 2) S = some (if kd = 2 then some (p1, 0) else none, S) := by
      rw [b3]; exact f_87o b1 c1 c2 c3 (by omega) (by omega)
    have ec := x_25 (r := r) (a := a) (R := _) hG a3 a1 hM o1 hn e3 rfl
    by_cases cg : ga = 0
    · have ck0 := a5.mp cg
      have cx := a7 cg
      by_cases ck : kd = 2 ∧ ¬ S.2.1 30 p 1 (k + 1) < 0 ∧ S.2.1 30 p 1 (k + 1) < Int64.ofNat w
      · obtain ⟨rfl, cj⟩ := ck
        have cz := c12 rfl
        obtain ⟨i, hi, ei⟩ := idx64 (by omega) cj.1 cj.2
        rw [if_pos rfl, sifS, if_pos cg, ei] at ec
        rw [← cx, ei] at W1
        refine h.set ht g q hy hpc (tk := 3) (by omega) (by omega) b0 c1 c9 (by omega) hi (z := z) (fun S1 r1 r2 r3 => ?_) ?_
        · rw [ec]
          exact e146_25 hG hM o1 hn c2 c9 (by omega) hi r1 r2 r3
        · have e1 := e172 (G := G) (t := t) (r := r) (T := mpS T r d (k + 3) 3) (j := 2) (i := i) (by omega) (u1.trans b4) (u2.trans b6) b2 t0 t1 c8 (by omega)
          rw [t1', t2'] at e1
          exact W1 _ ck0 e1
      · have ec : X_25 G t r p a S = some (-2, S) := by
          by_cases c2' : kd = 2
          · rw [if_pos c2', sifS, if_pos cg, e146n_25 c2 c9 (by omega) (fun z => ck ⟨c2', z⟩)] at ec
            exact ec
          · rw [if_neg c2'] at ec
            exact ec
        refine PAN ec (fun T2 e => W1 T2 ck0 (e172m (by omega) (u1.trans b4) (u2.trans b6) b2 t0 (by omega) t1 c8 (fun y => ck ⟨y.1, ?_⟩) e))
        rw [← cx, ← c12 y.1] at y
        exact y.2
    · have ec : X_25 G t r p a S = some (-2, S) := by
        by_cases c2' : kd = 2
        · rw [if_pos c2', sifS, if_neg cg] at ec
          exact ec
        · rw [if_neg c2'] at ec
          exact ec
      exact PAN ec (fun T2 e => W0 T2 (fun z => cg (a5.mpr z)) e)
end OST
