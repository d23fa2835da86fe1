/-! The class's plain instructions, evaluated. -/
section OPS
variable {S : sS} {G : jG} {t r p n k lo j : Nat}
theorem top26 (hM : S.2.2.2.1.1 p = true) (o1 : S.1 29 p 1 2 = nI n) (hn : n ≤ 16) : (∃ x, F_26 G t (p, 1) (nI n - nI 1) S = some (x, S)) ∧ ∃ g, F_27 G t (p, 1) (nI n - nI 1) S = some (g, S) := by
  cases n with
  | zero => exact ⟨⟨0, rfl⟩, ⟨nI 0, rfl⟩⟩
  | succ k =>
    rw [show nI (k + 1) - nI 1 = nI k from nI_pred k]
    exact ⟨⟨_, f_26 (sz := k + 1) ⟨xr1 hM, o1, hn⟩ (by omega)⟩, ⟨_, f_27 (sz := k + 1) ⟨xr1 hM, o1, hn⟩ (by omega)⟩⟩
set_option maxHeartbeats 4000000 in
set_option linter.unusedSimpArgs false in
theorem x_0 (a : Int32) (hM : S.2.2.2.1.1 p = true) (o1 : S.1 29 p 1 2 = nI n) (hn : n < 16) : X_0 G t r p a S = some (nI 0, rpush S p 1 n a.toInt64 (nI 0)) := by
  obtain ⟨⟨x, hx⟩, ⟨g, hg⟩⟩ := top26 (G := G) (t := t) hM o1 (by omega)
  unfold X_0
  simp (disch := first | assumption | omega) only [gI, gI2, gL, gL1, gL2, jcLT, jcGE, jcGT, jcLE, jcEQ, jcNE, dEQ, nIt, lgNE, lgEQ, lgGE, lgLT, lgGT, lgLE, jinT, nIc, nI0, nI1, nIo, nIs, nI_add, nIm, nIn0, szl0, szl1, szl2, szl3, szl4, szl5, Nat.add_sub_assoc, Nat.add_zero, Nat.reduceSub, Nat.reduceAdd, Nat.reduceMul, Nat.reduceEqDiff,  jifT, bdS, sifN, sifS, omN, omS, cdI, x25, x26, x27, x28, x29, x30, x31, x32, xr0, xr1, xr2, xr3, xr4, xr5, if_pos, if_neg, true_and, and_true, false_and, and_false, and_self, Bool.and_true, if_true, if_false, reduceIte, cond_true, cond_false, not_true_eq_false, not_false_eq_true, F_116_314, F_112, F_112_30, F_78, hM, o1, hx, hg]
  rfl
set_option maxHeartbeats 4000000 in
set_option linter.unusedSimpArgs false in
theorem x_1 (a : Int32) (hM : S.2.2.2.1.1 p = true) (o1 : S.1 29 p 1 2 = nI n) (hn : n < 16) : X_1 G t r p a S = some (nI 0, rpush S p 1 n 0 (nI 1)) := by
  obtain ⟨⟨x, hx⟩, ⟨g, hg⟩⟩ := top26 (G := G) (t := t) hM o1 (by omega)
  unfold X_1
  simp (disch := first | assumption | omega) only [gI, gI2, gL, gL1, gL2, jcLT, jcGE, jcGT, jcLE, jcEQ, jcNE, dEQ, nIt, lgNE, lgEQ, lgGE, lgLT, lgGT, lgLE, jinT, nIc, nI0, nI1, nIo, nIs, nI_add, nIm, nIn0, szl0, szl1, szl2, szl3, szl4, szl5, Nat.add_sub_assoc, Nat.add_zero, Nat.reduceSub, Nat.reduceAdd, Nat.reduceMul, Nat.reduceEqDiff,  jifT, bdS, sifN, sifS, omN, omS, cdI, x25, x26, x27, x28, x29, x30, x31, x32, xr0, xr1, xr2, xr3, xr4, xr5, if_pos, if_neg, true_and, and_true, false_and, and_false, and_self, Bool.and_true, if_true, if_false, reduceIte, cond_true, cond_false, not_true_eq_false, not_false_eq_true, F_116_314, F_112, F_112_30, F_78, hM, o1, hx, hg]
  rfl
set_option maxHeartbeats 4000000 in
set_option linter.unusedSimpArgs false in
theorem x_2 (hM : S.2.2.2.1.1 p = true) (o1 : S.1 29 p 1 2 = nI n) (hn : n < 16) (l1 : S.1 29 p 0 2 = nI lo) (hl : lo ≤ 12) (hj : j < lo) : X_2 G t r p (nI j) S = some (nI 0, rpush S p 1 n (S.2.1 30 p 0 j) (S.1 31 p 0 j)) := by
  obtain ⟨⟨x, hx⟩, ⟨g, hg⟩⟩ := top26 (G := G) (t := t) hM o1 (by omega)
  have e1 := f_26 (G := G) (t := t) (S := S) (p := p) (k := 0) (sz := lo) (i := j) ⟨xr0 hM, l1, hl⟩ hj
  have e2 := f_27 (G := G) (t := t) (S := S) (p := p) (k := 0) (sz := lo) (i := j) ⟨xr0 hM, l1, hl⟩ hj
  unfold X_2
  simp (disch := first | assumption | omega) only [gI, gI2, gL, gL1, gL2, jcLT, jcGE, jcGT, jcLE, jcEQ, jcNE, dEQ, nIt, lgNE, lgEQ, lgGE, lgLT, lgGT, lgLE, jinT, nIc, nI0, nI1, nIo, nIs, nI_add, nIm, nIn0, szl0, szl1, szl2, szl3, szl4, szl5, Nat.add_sub_assoc, Nat.add_zero, Nat.reduceSub, Nat.reduceAdd, Nat.reduceMul, Nat.reduceEqDiff,  jifT, bdS, sifN, sifS, omN, omS, cdI, x25, x26, x27, x28, x29, x30, x31, x32, xr0, xr1, xr2, xr3, xr4, xr5, if_pos, if_neg, true_and, and_true, false_and, and_false, and_self, Bool.and_true, if_true, if_false, reduceIte, cond_true, cond_false, not_true_eq_false, not_false_eq_true, F_116_314, F_112, F_112_30, F_112_133, F_78, hM, o1, hx, hg, e1, e2]
  rfl
set_option maxHeartbeats 4000000 in
set_option linter.unusedSimpArgs false in
theorem x_4 (hM : S.2.2.2.1.1 p = true) (o1 : S.1 29 p 1 2 = nI n) (hn : n < 16) (l1 : S.1 29 0 5 2 = nI 16) (hj : j < 16) : X_4 G t r p (nI j) S = some (nI 0, rpush S p 1 n (S.2.1 30 0 5 j) (S.1 31 0 5 j)) := by
  obtain ⟨⟨x, hx⟩, ⟨g, hg⟩⟩ := top26 (G := G) (t := t) hM o1 (by omega)
  have e1 := f_26 (G := G) (t := t) (S := S) (p := 0) (k := 5) (sz := 16) (i := j) ⟨rfl, l1, by decide⟩ hj
  have e2 := f_27 (G := G) (t := t) (S := S) (p := 0) (k := 5) (sz := 16) (i := j) ⟨rfl, l1, by decide⟩ hj
  unfold X_4
  simp (disch := first | assumption | omega) only [gI, gI2, gL, gL1, gL2, jcLT, jcGE, jcGT, jcLE, jcEQ, jcNE, dEQ, nIt, lgNE, lgEQ, lgGE, lgLT, lgGT, lgLE, jinT, nIc, nI0, nI1, nIo, nIs, nI_add, nIm, nIn0, szl0, szl1, szl2, szl3, szl4, szl5, Nat.add_sub_assoc, Nat.add_zero, Nat.reduceSub, Nat.reduceAdd, Nat.reduceMul, Nat.reduceEqDiff,  jifT, bdS, sifN, sifS, omN, omS, cdI, x25, x26, x27, x28, x29, x30, x31, x32, xr0, xr1, xr2, xr3, xr4, xr5, if_pos, if_neg, true_and, and_true, false_and, and_false, and_self, Bool.and_true, if_true, if_false, reduceIte, cond_true, cond_false, not_true_eq_false, not_false_eq_true, F_116_314, F_112, F_112_16, F_112_30, F_112_133, F_78, hM, o1, hx, hg, e1, e2]
  rfl
set_option maxHeartbeats 4000000 in
set_option linter.unusedSimpArgs false in
theorem x_3 (hM : S.2.2.2.1.1 p = true) (o1 : S.1 29 p 1 2 = nI (k + 1)) (hn : k < 16) (l1 : S.1 29 p 0 2 = nI lo) (hl : lo ≤ 12) (hj : j < lo) : X_3 G t r p (nI j) S = some (nI 0, siI (siI (siL S 30 p 0 j (S.2.1 30 p 1 k)) 31 p 0 j (S.1 31 p 1 k)) 29 p 1 2 (nI k)) := by
  have e6 : F_76 G t (p, 1) (nI 1) (siI (siL S 30 p 0 j (S.2.1 30 p 1 k)) 31 p 0 j (S.1 31 p 1 k)) = some ((), siI (siI (siL S 30 p 0 j (S.2.1 30 p 1 k)) 31 p 0 j (S.1 31 p 1 k)) 29 p 1 2 (nI k)) := f_76 (sz := k + 1) ⟨xr1 hM, by rw [siI_ne _ _ _ (by omega)]; exact o1, show k + 1 ≤ 16 by omega⟩ (by omega)
  unfold X_3
  simp (disch := first | assumption | omega) only [gI, gI2, gL, gL1, gL2, jcLT, jcGE, jcGT, jcLE, jcEQ, jcNE, dEQ, nIt, lgNE, lgEQ, lgGE, lgLT, lgGT, lgLE, jinT, nIc, nI0, nI1, nIo, nIs, nI_add, nIm, nIn0, szl0, szl1, szl2, szl3, szl4, szl5, Nat.add_sub_assoc, Nat.add_zero, Nat.reduceSub, Nat.reduceAdd, Nat.reduceMul, Nat.reduceEqDiff,  jifT, bdS, sifN, sifS, omN, omS, cdI, x25, x26, x27, x28, x29, x30, x31, x32, xr0, xr1, xr2, xr3, xr4, xr5, if_pos, if_neg, true_and, and_true, false_and, and_false, and_self, Bool.and_true, if_true, if_false, reduceIte, cond_true, cond_false, not_true_eq_false, not_false_eq_true, F_116_314, F_112, F_112_30, F_112_153, F_26, F_27, F_28, hM, o1, l1, e6]
set_option maxHeartbeats 4000000 in
set_option linter.unusedSimpArgs false in
theorem x_5 (hM : S.2.2.2.1.1 p = true) (o1 : S.1 29 p 1 2 = nI (k + 1)) (hn : k < 16) (l1 : S.1 29 0 5 2 = nI 16) (hj : j < 16) : X_5 G t r p (nI j) S = some (nI 0, siI (siI (siL S 30 0 5 j (S.2.1 30 p 1 k)) 31 0 5 j (S.1 31 p 1 k)) 29 p 1 2 (nI k)) := by
  have e6 : F_76 G t (p, 1) (nI 1) (siI (siL S 30 0 5 j (S.2.1 30 p 1 k)) 31 0 5 j (S.1 31 p 1 k)) = some ((), siI (siI (siL S 30 0 5 j (S.2.1 30 p 1 k)) 31 0 5 j (S.1 31 p 1 k)) 29 p 1 2 (nI k)) := f_76 (sz := k + 1) ⟨xr1 hM, by rw [siI_ne _ _ _ (by omega)]; exact o1, show k + 1 ≤ 16 by omega⟩ (by omega)
  unfold X_5
  simp (disch := first | assumption | omega) only [gI, gI2, gL, gL1, gL2, jcLT, jcGE, jcGT, jcLE, jcEQ, jcNE, dEQ, nIt, lgNE, lgEQ, lgGE, lgLT, lgGT, lgLE, jinT, nIc, nI0, nI1, nIo, nIs, nI_add, nIm, nIn0, szl0, szl1, szl2, szl3, szl4, szl5, Nat.add_sub_assoc, Nat.add_zero, Nat.reduceSub, Nat.reduceAdd, Nat.reduceMul, Nat.reduceEqDiff,  jifT, bdS, sifN, sifS, omN, omS, cdI, x25, x26, x27, x28, x29, x30, x31, x32, xr0, xr1, xr2, xr3, xr4, xr5, if_pos, if_neg, true_and, and_true, false_and, and_false, and_self, Bool.and_true, if_true, if_false, reduceIte, cond_true, cond_false, not_true_eq_false, not_false_eq_true, F_116_314, F_112, F_112_16, F_112_30, F_112_153, F_26, F_27, F_28, hM, o1, l1, e6]
set_option maxHeartbeats 4000000 in
set_option linter.unusedSimpArgs false in
theorem x_6 (a : Int32) (hM : S.2.2.2.1.1 p = true) (o1 : S.1 29 p 1 2 = nI (k + 1)) (hn : k < 15) : X_6 G t r p a S = some (nI 0, rpush S p 1 (k + 1) (S.2.1 30 p 1 k) (S.1 31 p 1 k)) := by
  unfold X_6
  simp (disch := first | assumption | omega) only [gI, gI2, gL, gL1, gL2, jcLT, jcGE, jcGT, jcLE, jcEQ, jcNE, dEQ, nIt, lgNE, lgEQ, lgGE, lgLT, lgGT, lgLE, jinT, nIc, nI0, nI1, nIo, nIs, nI_add, nIm, nIn0, szl0, szl1, szl2, szl3, szl4, szl5, Nat.add_sub_assoc, Nat.add_zero, Nat.reduceSub, Nat.reduceAdd, Nat.reduceMul, Nat.reduceEqDiff,  jifT, bdS, sifN, sifS, omN, omS, cdI, x25, x26, x27, x28, x29, x30, x31, x32, xr0, xr1, xr2, xr3, xr4, xr5, if_pos, if_neg, true_and, and_true, false_and, and_false, and_self, Bool.and_true, if_true, if_false, reduceIte, cond_true, cond_false, not_true_eq_false, not_false_eq_true, F_116_314, F_112, F_112_30, F_26, F_27, F_78, hM, o1]
  rfl
set_option maxHeartbeats 4000000 in
set_option linter.unusedSimpArgs false in
theorem x_7 (a : Int32) (hM : S.2.2.2.1.1 p = true) (o1 : S.1 29 p 1 2 = nI (k + 1)) (hn : k < 16) : X_7 G t r p a S = some (nI 0, siI S 29 p 1 2 (nI k)) := by
  have e6 : F_76 G t (p, 1) (nI 1) S = some ((), siI S 29 p 1 2 (nI k)) := f_76 (sz := k + 1) ⟨xr1 hM, o1, show k + 1 ≤ 16 by omega⟩ (by omega)
  unfold X_7
  simp (disch := first | assumption | omega) only [gI, gI2, gL, gL1, gL2, jcLT, jcGE, jcGT, jcLE, jcEQ, jcNE, dEQ, nIt, lgNE, lgEQ, lgGE, lgLT, lgGT, lgLE, jinT, nIc, nI0, nI1, nIo, nIs, nI_add, nIm, nIn0, szl0, szl1, szl2, szl3, szl4, szl5, Nat.add_sub_assoc, Nat.add_zero, Nat.reduceSub, Nat.reduceAdd, Nat.reduceMul, Nat.reduceEqDiff,  jifT, bdS, sifN, sifS, omN, omS, cdI, x25, x26, x27, x28, x29, x30, x31, x32, xr0, xr1, xr2, xr3, xr4, xr5, if_pos, if_neg, true_and, and_true, false_and, and_false, and_self, Bool.and_true, if_true, if_false, reduceIte, cond_true, cond_false, not_true_eq_false, not_false_eq_true, F_116_314, F_112, F_112_30, F_26, F_27, hM, o1, e6]
set_option maxHeartbeats 4000000 in
set_option linter.unusedSimpArgs false in
theorem x_8 (a : Int32) (hM : S.2.2.2.1.1 p = true) (o1 : S.1 29 p 1 2 = nI (k + 2)) (hn : k < 15) : X_8 G t r p a S = some (nI 0, siI (siL (siI (siL S 30 p 1 (k + 1) (S.2.1 30 p 1 k)) 31 p 1 (k + 1) (S.1 31 p 1 k)) 30 p 1 k (S.2.1 30 p 1 (k + 1))) 31 p 1 k (S.1 31 p 1 (k + 1))) := by
  unfold X_8
  simp (disch := first | assumption | omega) only [gI, gI2, gL, gL1, gL2, jcLT, jcGE, jcGT, jcLE, jcEQ, jcNE, dEQ, nIt, lgNE, lgEQ, lgGE, lgLT, lgGT, lgLE, jinT, nIc, nI0, nI1, nIo, nIs, nI_add, nIm, nIn0, szl0, szl1, szl2, szl3, szl4, szl5, Nat.add_sub_assoc, Nat.add_zero, Nat.reduceSub, Nat.reduceAdd, Nat.reduceMul, Nat.reduceEqDiff,  jifT, bdS, sifN, sifS, omN, omS, cdI, x25, x26, x27, x28, x29, x30, x31, x32, xr0, xr1, xr2, xr3, xr4, xr5, if_pos, if_neg, true_and, and_true, false_and, and_false, and_self, Bool.and_true, if_true, if_false, reduceIte, cond_true, cond_false, not_true_eq_false, not_false_eq_true, F_116_314, F_112, F_112_30, F_26, F_27, F_28, hM, o1]
end OPS
