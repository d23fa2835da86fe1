/-! Plain instructions: comparisons, jumps, locals. -/
theorem tl0 : (nI 0).toInt64 = 0 := by decide
theorem tl1 : (nI 1).toInt64 = 1 := by decide
section PLB
variable {φ : Nat → Nat} {D : Nat → Prop} {F N : Nat} {P : aP} {S S' T T' : sS} {A : aS} {r d p f pc n m e b k : Nat} {G : jG} {t : Nat}
set_option maxHeartbeats 4000000 in
set_option linter.unusedSimpArgs false in
theorem f_103 {g i sz : Nat} (h : rwS S p k sz) (hi : i < sz) (hg : S.1 31 p k i = nI g) (hg2 : g < 2147483648) : F_103 G t (p, k) (nI i) S = some (nI (if g = 0 then 1 else 0), S) := by
  obtain ⟨h1, h2, h3⟩ := h
  have h4 := srl_le k
  unfold F_103
  by_cases c : g = 0
  · simp (disch := first | assumption | omega) only [gI, gI2, gL, gL1, gL2, jcLT, jcGE, jcGT, jcLE, jcEQ, jcNE, dEQ, nIt, lgNE, lgEQ, lgGE, lgLT, lgGT, lgLE, jinT, nIc, nI0, nI1, nIo, nIs, nI_add, nIm, nIn0, szl0, szl1, szl2, szl3, szl4, szl5, Nat.add_sub_assoc, Nat.add_zero, Nat.reduceSub, Nat.reduceAdd, Nat.reduceMul, Nat.reduceEqDiff,  jifT, bdS, sifN, sifS, omN, omS, cdI, x25, x26, x27, x28, x29, x30, x31, x32, xr0, xr1, xr2, xr3, xr4, xr5, if_pos, if_neg, true_and, and_true, false_and, and_false, and_self, Bool.and_true, if_true, if_false, reduceIte, cond_true, cond_false, not_true_eq_false, not_false_eq_true, h1, h2, hg]
  · simp (disch := first | assumption | omega) only [gI, gI2, gL, gL1, gL2, jcLT, jcGE, jcGT, jcLE, jcEQ, jcNE, dEQ, nIt, lgNE, lgEQ, lgGE, lgLT, lgGT, lgLE, jinT, nIc, nI0, nI1, nIo, nIs, nI_add, nIm, nIn0, szl0, szl1, szl2, szl3, szl4, szl5, Nat.add_sub_assoc, Nat.add_zero, Nat.reduceSub, Nat.reduceAdd, Nat.reduceMul, Nat.reduceEqDiff,  jifT, bdS, sifN, sifS, omN, omS, cdI, x25, x26, x27, x28, x29, x30, x31, x32, xr0, xr1, xr2, xr3, xr4, xr5, if_pos, if_neg, true_and, and_true, false_and, and_false, and_self, Bool.and_true, if_true, if_false, reduceIte, cond_true, cond_false, not_true_eq_false, not_false_eq_true, h1, h2, hg]
set_option maxHeartbeats 4000000 in
set_option linter.unusedSimpArgs false in
theorem f_110 {g i sz : Nat} (h : rwS S p k sz) (hi : i < sz) (hg : S.1 31 p k i = nI g) (hg2 : g < 2147483648) : F_110 G t (p, k) (nI i) S = some (nI (if S.2.1 30 p k i = 0 ∧ g < 2 then 1 else 0), S) := by
  obtain ⟨h1, h2, h3⟩ := h
  have h4 := srl_le k
  unfold F_110
  by_cases c : S.2.1 30 p k i = 0
  · by_cases c2 : g < 2
    · simp (disch := first | assumption | omega) only [gI, gI2, gL, gL1, gL2, jcLT, jcGE, jcGT, jcLE, jcEQ, jcNE, dEQ, nIt, lgNE, lgEQ, lgGE, lgLT, lgGT, lgLE, jinT, nIc, nI0, nI1, nIo, nIs, nI_add, nIm, nIn0, szl0, szl1, szl2, szl3, szl4, szl5, Nat.add_sub_assoc, Nat.add_zero, Nat.reduceSub, Nat.reduceAdd, Nat.reduceMul, Nat.reduceEqDiff,  jifT, bdS, sifN, sifS, omN, omS, cdI, x25, x26, x27, x28, x29, x30, x31, x32, xr0, xr1, xr2, xr3, xr4, xr5, if_pos, if_neg, true_and, and_true, false_and, and_false, and_self, Bool.and_true, if_true, if_false, reduceIte, cond_true, cond_false, not_true_eq_false, not_false_eq_true, h1, h2, hg, eq_true c]
    · simp (disch := first | assumption | omega) only [gI, gI2, gL, gL1, gL2, jcLT, jcGE, jcGT, jcLE, jcEQ, jcNE, dEQ, nIt, lgNE, lgEQ, lgGE, lgLT, lgGT, lgLE, jinT, nIc, nI0, nI1, nIo, nIs, nI_add, nIm, nIn0, szl0, szl1, szl2, szl3, szl4, szl5, Nat.add_sub_assoc, Nat.add_zero, Nat.reduceSub, Nat.reduceAdd, Nat.reduceMul, Nat.reduceEqDiff,  jifT, bdS, sifN, sifS, omN, omS, cdI, x25, x26, x27, x28, x29, x30, x31, x32, xr0, xr1, xr2, xr3, xr4, xr5, if_pos, if_neg, true_and, and_true, false_and, and_false, and_self, Bool.and_true, if_true, if_false, reduceIte, cond_true, cond_false, not_true_eq_false, not_false_eq_true, h1, h2, hg, eq_true c]
  · simp (disch := first | assumption | omega) only [gI, gI2, gL, gL1, gL2, jcLT, jcGE, jcGT, jcLE, jcEQ, jcNE, dEQ, nIt, lgNE, lgEQ, lgGE, lgLT, lgGT, lgLE, jinT, nIc, nI0, nI1, nIo, nIs, nI_add, nIm, nIn0, szl0, szl1, szl2, szl3, szl4, szl5, Nat.add_sub_assoc, Nat.add_zero, Nat.reduceSub, Nat.reduceAdd, Nat.reduceMul, Nat.reduceEqDiff,  jifT, bdS, sifN, sifS, omN, omS, cdI, x25, x26, x27, x28, x29, x30, x31, x32, xr0, xr1, xr2, xr3, xr4, xr5, if_pos, if_neg, true_and, and_true, false_and, and_false, and_self, Bool.and_true, if_true, if_false, reduceIte, cond_true, cond_false, not_true_eq_false, not_false_eq_true, h1, h2, hg, eq_false c]
set_option maxHeartbeats 4000000 in
set_option linter.unusedSimpArgs false in
theorem x_14 (a : Int32) {ga gb : Nat} (hM : S.2.2.2.1.1 p = true) (o1 : S.1 29 p 1 2 = nI (k + 2)) (hn : k < 15) (g1 : S.1 31 p 1 (k + 1) = nI ga) (g0 : S.1 31 p 1 k = nI gb) (ha : ga < 602) (hb : gb < 602) : X_14 G t r p a S = some (nI 0, rpush (siI S 29 p 1 2 (nI k)) p 1 k (if S.2.1 30 p 1 k = S.2.1 30 p 1 (k + 1) ∧ gb = ga then 1 else 0) (nI 0)) := by
  have e6 : F_76 G t (p, 1) (nI 2) S = some ((), siI S 29 p 1 2 (nI k)) := f_76 (sz := k + 2) ⟨xr1 hM, o1, show k + 2 ≤ 16 by omega⟩ (by omega)
  have rw1 : rwS S p 1 (k + 2) := ⟨xr1 hM, o1, show k + 2 ≤ 16 by omega⟩
  have e1 := f_26 (G := G) (t := t) rw1 (i := k + 1) (by omega)
  have e2 := f_26 (G := G) (t := t) rw1 (i := k) (by omega)
  have e3 := f_27 (G := G) (t := t) rw1 (i := k + 1) (by omega)
  have e4 := f_27 (G := G) (t := t) rw1 (i := k) (by omega)
  have e5 := f_103 (G := G) (t := t) rw1 (i := k + 1) (by omega) g1 (by omega)
  have e7 := f_103 (G := G) (t := t) rw1 (i := k) (by omega) g0 (by omega)
  have e8 : ∀ v, F_78 G t (p, 1) v (nI 0) (siI S 29 p 1 2 (nI k)) = some ((), rpush (siI S 29 p 1 2 (nI k)) p 1 k v (nI 0)) := fun v => f_78 (S := siI S 29 p 1 2 (nI k)) (sz := k) ⟨xr1 hM, siI_at _ _ _ _ _ _, show k ≤ 16 by omega⟩ (show k < 16 by omega)
  rw [g1] at e3
  rw [g0] at e4
  have q : F_114_89 G t (nI 14) (p, 1) (nI (k + 1)) (S.2.1 30 p 1 (k + 1)) (S.2.1 30 p 1 k) S = some (nI 0, rpush (siI S 29 p 1 2 (nI k)) p 1 k (if S.2.1 30 p 1 k = S.2.1 30 p 1 (k + 1) ∧ gb = ga then 1 else 0) (nI 0)) := by
    by_cases c : S.2.1 30 p 1 k = S.2.1 30 p 1 (k + 1)
    · by_cases c2 : gb = ga
      · simp (disch := first | assumption | omega) only [gI, gI2, gL, gL1, gL2, jcLT, jcGE, jcGT, jcLE, jcEQ, jcNE, dEQ, nIt, lgNE, lgEQ, lgGE, lgLT, lgGT, lgLE, jinT, nIc, nI0, nI1, nIo, nIs, nI_add, nIm, nIn0, szl0, szl1, szl2, szl3, szl4, szl5, Nat.add_sub_assoc, Nat.add_zero, Nat.reduceSub, Nat.reduceAdd, Nat.reduceMul, Nat.reduceEqDiff,  jifT, bdS, sifN, sifS, omN, omS, cdI, x25, x26, x27, x28, x29, x30, x31, x32, xr0, xr1, xr2, xr3, xr4, xr5, if_pos, if_neg, true_and, and_true, false_and, and_false, and_self, Bool.and_true, if_true, if_false, reduceIte, cond_true, cond_false, not_true_eq_false, not_false_eq_true, F_114_89, F_114_104, F_114_131, F_114_132, F_114_169, F_114_156, hM, e3, e4, e6, e8, eq_true c, tl0, tl1]
      · simp (disch := first | assumption | omega) only [gI, gI2, gL, gL1, gL2, jcLT, jcGE, jcGT, jcLE, jcEQ, jcNE, dEQ, nIt, lgNE, lgEQ, lgGE, lgLT, lgGT, lgLE, jinT, nIc, nI0, nI1, nIo, nIs, nI_add, nIm, nIn0, szl0, szl1, szl2, szl3, szl4, szl5, Nat.add_sub_assoc, Nat.add_zero, Nat.reduceSub, Nat.reduceAdd, Nat.reduceMul, Nat.reduceEqDiff,  jifT, bdS, sifN, sifS, omN, omS, cdI, x25, x26, x27, x28, x29, x30, x31, x32, xr0, xr1, xr2, xr3, xr4, xr5, if_pos, if_neg, true_and, and_true, false_and, and_false, and_self, Bool.and_true, if_true, if_false, reduceIte, cond_true, cond_false, not_true_eq_false, not_false_eq_true, F_114_89, F_114_104, F_114_131, F_114_132, F_114_169, F_114_156, hM, e3, e4, e6, e8, eq_true c, tl0, tl1]
    · simp (disch := first | assumption | omega) only [gI, gI2, gL, gL1, gL2, jcLT, jcGE, jcGT, jcLE, jcEQ, jcNE, dEQ, nIt, lgNE, lgEQ, lgGE, lgLT, lgGT, lgLE, jinT, nIc, nI0, nI1, nIo, nIs, nI_add, nIm, nIn0, szl0, szl1, szl2, szl3, szl4, szl5, Nat.add_sub_assoc, Nat.add_zero, Nat.reduceSub, Nat.reduceAdd, Nat.reduceMul, Nat.reduceEqDiff,  jifT, bdS, sifN, sifS, omN, omS, cdI, x25, x26, x27, x28, x29, x30, x31, x32, xr0, xr1, xr2, xr3, xr4, xr5, if_pos, if_neg, true_and, and_true, false_and, and_false, and_self, Bool.and_true, if_true, if_false, reduceIte, cond_true, cond_false, not_true_eq_false, not_false_eq_true, F_114_89, F_114_104, F_114_131, F_114_132, F_114_169, F_114_156, hM, e3, e4, e6, e8, eq_false c, tl0, tl1]
  clear e6 e8 e3 e4
  unfold X_14
  by_cases c1 : ga = 0
  · by_cases c2 : gb = 0
    · simp (disch := first | assumption | omega) only [gI, gI2, gL, gL1, gL2, jcLT, jcGE, jcGT, jcLE, jcEQ, jcNE, dEQ, nIt, lgNE, lgEQ, lgGE, lgLT, lgGT, lgLE, jinT, nIc, nI0, nI1, nIo, nIs, nI_add, nIm, nIn0, szl0, szl1, szl2, szl3, szl4, szl5, Nat.add_sub_assoc, Nat.add_zero, Nat.reduceSub, Nat.reduceAdd, Nat.reduceMul, Nat.reduceEqDiff,  jifT, bdS, sifN, sifS, omN, omS, cdI, x25, x26, x27, x28, x29, x30, x31, x32, xr0, xr1, xr2, xr3, xr4, xr5, if_pos, if_neg, true_and, and_true, false_and, and_false, and_self, Bool.and_true, if_true, if_false, reduceIte, cond_true, cond_false, not_true_eq_false, not_false_eq_true, F_116_314, F_114, F_114_72, F_114_73, hM, o1, e1, e2, e5, e7, q]
    · simp (disch := first | assumption | omega) only [gI, gI2, gL, gL1, gL2, jcLT, jcGE, jcGT, jcLE, jcEQ, jcNE, dEQ, nIt, lgNE, lgEQ, lgGE, lgLT, lgGT, lgLE, jinT, nIc, nI0, nI1, nIo, nIs, nI_add, nIm, nIn0, szl0, szl1, szl2, szl3, szl4, szl5, Nat.add_sub_assoc, Nat.add_zero, Nat.reduceSub, Nat.reduceAdd, Nat.reduceMul, Nat.reduceEqDiff,  jifT, bdS, sifN, sifS, omN, omS, cdI, x25, x26, x27, x28, x29, x30, x31, x32, xr0, xr1, xr2, xr3, xr4, xr5, if_pos, if_neg, true_and, and_true, false_and, and_false, and_self, Bool.and_true, if_true, if_false, reduceIte, cond_true, cond_false, not_true_eq_false, not_false_eq_true, F_116_314, F_114, F_114_72, F_114_73, hM, o1, e1, e2, e5, e7, q]
  · simp (disch := first | assumption | omega) only [gI, gI2, gL, gL1, gL2, jcLT, jcGE, jcGT, jcLE, jcEQ, jcNE, dEQ, nIt, lgNE, lgEQ, lgGE, lgLT, lgGT, lgLE, jinT, nIc, nI0, nI1, nIo, nIs, nI_add, nIm, nIn0, szl0, szl1, szl2, szl3, szl4, szl5, Nat.add_sub_assoc, Nat.add_zero, Nat.reduceSub, Nat.reduceAdd, Nat.reduceMul, Nat.reduceEqDiff,  jifT, bdS, sifN, sifS, omN, omS, cdI, x25, x26, x27, x28, x29, x30, x31, x32, xr0, xr1, xr2, xr3, xr4, xr5, if_pos, if_neg, true_and, and_true, false_and, and_false, and_self, Bool.and_true, if_true, if_false, reduceIte, cond_true, cond_false, not_true_eq_false, not_false_eq_true, F_116_314, F_114, F_114_72, F_114_73, hM, o1, e1, e2, e5, e7, q]
set_option maxHeartbeats 4000000 in
set_option linter.unusedSimpArgs false in
theorem w_14 {T1 : sS} {TT : Int64 → sS} {ya yb : Int64} {ka kb : Nat} (a : Int32) (hr : r < 16) (d3 : d < 30) (q0 : F_156 G t (r, 0) (nI 2) T = some (nI 1, T1)) (v1 : T1.1 47 0 0 0 = nI ka) (v2 : T1.2.1 48 0 0 0 = ya) (u1 : T1.1 47 0 0 1 = nI kb) (u2 : T1.2.1 48 0 0 1 = yb) (ha : ka ≤ 2) (hb : kb ≤ 2) (q1 : ∀ v, F_157 G t (r, 0) (nI 0) v T1 = some (nI 1, TT v)) : W_14 G t r d a T = some ((), TT (if ka = kb ∧ (ka = 1 ∨ ya = yb) then 1 else 0)) := by
  unfold W_14
  by_cases c : ka = kb
  · by_cases c1 : ka = 1
    · simp (disch := first | assumption | omega) only [gI, gI2, gL, gL1, gL2, jcLT, jcGE, jcGT, jcLE, jcEQ, jcNE, dEQ, nIt, lgNE, lgEQ, lgGE, lgLT, lgGT, lgLE, jinT, nIc, nI0, nI1, nIo, nIs, nI_add, nIm, nIn0, szl0, szl1, szl2, szl3, szl4, szl5, Nat.add_sub_assoc, Nat.add_zero, Nat.reduceSub, Nat.reduceAdd, Nat.reduceMul, Nat.reduceEqDiff,  jifT, bdS, sifN, sifS, omN, omS, cdI, x25, x26, x27, x28, x29, x30, x31, x32, xr0, xr1, xr2, xr3, xr4, xr5, if_pos, if_neg, true_and, and_true, false_and, and_false, and_self, Bool.and_true, if_true, if_false, reduceIte, cond_true, cond_false, not_true_eq_false, not_false_eq_true, x51, x52, x53, x54, x55, x56, x57, x58, x59, x60, x61, x62, x63, F_188_513, F_188_509, F_188_514, F_160, F_160_12, q0, v1, v2, u1, u2, q1, true_or]
    · by_cases c2 : ya = yb
      · simp (disch := first | assumption | omega) only [gI, gI2, gL, gL1, gL2, jcLT, jcGE, jcGT, jcLE, jcEQ, jcNE, dEQ, nIt, lgNE, lgEQ, lgGE, lgLT, lgGT, lgLE, jinT, nIc, nI0, nI1, nIo, nIs, nI_add, nIm, nIn0, szl0, szl1, szl2, szl3, szl4, szl5, Nat.add_sub_assoc, Nat.add_zero, Nat.reduceSub, Nat.reduceAdd, Nat.reduceMul, Nat.reduceEqDiff,  jifT, bdS, sifN, sifS, omN, omS, cdI, x25, x26, x27, x28, x29, x30, x31, x32, xr0, xr1, xr2, xr3, xr4, xr5, if_pos, if_neg, true_and, and_true, false_and, and_false, and_self, Bool.and_true, if_true, if_false, reduceIte, cond_true, cond_false, not_true_eq_false, not_false_eq_true, x51, x52, x53, x54, x55, x56, x57, x58, x59, x60, x61, x62, x63, F_188_513, F_188_509, F_188_514, F_160, F_160_12, q0, v1, v2, u1, u2, q1, eq_true c2, eq_true c, eq_false c1, or_true]
      · simp (disch := first | assumption | omega) only [gI, gI2, gL, gL1, gL2, jcLT, jcGE, jcGT, jcLE, jcEQ, jcNE, dEQ, nIt, lgNE, lgEQ, lgGE, lgLT, lgGT, lgLE, jinT, nIc, nI0, nI1, nIo, nIs, nI_add, nIm, nIn0, szl0, szl1, szl2, szl3, szl4, szl5, Nat.add_sub_assoc, Nat.add_zero, Nat.reduceSub, Nat.reduceAdd, Nat.reduceMul, Nat.reduceEqDiff,  jifT, bdS, sifN, sifS, omN, omS, cdI, x25, x26, x27, x28, x29, x30, x31, x32, xr0, xr1, xr2, xr3, xr4, xr5, if_pos, if_neg, true_and, and_true, false_and, and_false, and_self, Bool.and_true, if_true, if_false, reduceIte, cond_true, cond_false, not_true_eq_false, not_false_eq_true, x51, x52, x53, x54, x55, x56, x57, x58, x59, x60, x61, x62, x63, F_188_513, F_188_509, F_188_514, F_160, F_160_12, q0, v1, v2, u1, u2, q1, eq_false c2, eq_true c, eq_false c1, or_false]
  · simp (disch := first | assumption | omega) only [gI, gI2, gL, gL1, gL2, jcLT, jcGE, jcGT, jcLE, jcEQ, jcNE, dEQ, nIt, lgNE, lgEQ, lgGE, lgLT, lgGT, lgLE, jinT, nIc, nI0, nI1, nIo, nIs, nI_add, nIm, nIn0, szl0, szl1, szl2, szl3, szl4, szl5, Nat.add_sub_assoc, Nat.add_zero, Nat.reduceSub, Nat.reduceAdd, Nat.reduceMul, Nat.reduceEqDiff,  jifT, bdS, sifN, sifS, omN, omS, cdI, x25, x26, x27, x28, x29, x30, x31, x32, xr0, xr1, xr2, xr3, xr4, xr5, if_pos, if_neg, true_and, and_true, false_and, and_false, and_self, Bool.and_true, if_true, if_false, reduceIte, cond_true, cond_false, not_true_eq_false, not_false_eq_true, x51, x52, x53, x54, x55, x56, x57, x58, x59, x60, x61, x62, x63, F_188_513, F_188_509, F_188_514, F_160, F_160_12, q0, v1, v2, u1, u2, q1]
theorem i_14 (ht : 1000 < t) (h : cx φ D F N P S T A r d p f pc (k + 2) m) (hpc : pc < P.2.2.2.1 f) (a : Int32) : insR φ D F N P S T A r p G t 2 (X_14 G t r p a S) (W_14 G t r d a T) := by
  obtain ⟨hM, o1, o2, hn, hr, d2, d3⟩ := h.rd
  have o4 := h.fr.2.2.2.1.2.2.2
  have va := o4 (k + 1) (by omega)
  have vb := o4 k (by omega)
  obtain ⟨ga, ka, a1, a2, a3, a4, a5, a6, a7, a8⟩ := va.ix h.D6
  obtain ⟨gb, kb, b1, b2, b3, b4, b5, b6, b7, b8⟩ := vb.ix h.D6
  obtain ⟨v1, v2⟩ := mpS_v T r d (k + 2) (i := 0) 2 (by omega)
  obtain ⟨u1, u2⟩ := mpS_v T r d (k + 2) (i := 1) 2 (by omega)
  have v1 : (mpS T r d (k + 2) 2).1 47 0 0 0 = nI ka := v1.trans a2
  have u1 : (mpS T r d (k + 2) 2).1 47 0 0 1 = nI kb := u1.trans b2
  have v2 : (mpS T r d (k + 2) 2).2.1 48 0 0 0 = T.2.1 62 r d (k + 1) := v2
  have u2 : (mpS T r d (k + 2) 2).2.1 48 0 0 1 = T.2.1 62 r d k := u2
  have q0 := e_156 (G := G) (t := t) (k := 2) (by omega) hr d3 hn d2 o2 (by omega)
  have key : (S.2.1 30 p 1 k = S.2.1 30 p 1 (k + 1) ∧ gb = ga) ↔ (ka = kb ∧ (ka = 1 ∨ T.2.1 62 r d (k + 1) = T.2.1 62 r d k)) := by
    have inj := h.1.2.2.2.2.1
    rw [a1, a2] at va
    rw [b1, b2] at vb
    have hD := h.D6
    clear h o4 v1 u1 v2 u2 q0 o1 o2 d2
    rcases va with ⟨x1, x2, x3⟩ | ⟨x1, x2, x3⟩ | ⟨ha, x0, x1, x2, x3, x4⟩
    · have x1 := (nI_eq (by omega) (by omega)).mp x1
      have x2 := (nI_eq (by omega) (by omega)).mp x2
      subst x1 x2
      rw [x3]
      constructor
      · intro z
        have z2 : gb = 0 := z.2
        exact ⟨by omega, Or.inr (by rw [← b7 z2]; exact z.1.symm)⟩
      · intro z
        have z1 : kb = 0 := z.1.symm
        have z2 : gb = 0 := b5.mpr z1
        refine ⟨?_, z2⟩
        rcases z.2 with y | y
        · omega
        · rw [b7 z2, y]
    · have x1 := (nI_eq (by omega) (by omega)).mp x1
      have x2 := (nI_eq (by omega) (by omega)).mp x2
      subst x1 x2
      rw [x3]
      constructor
      · intro z
        exact ⟨by omega, Or.inl rfl⟩
      · intro z
        have z2 : gb = 1 := by omega
        exact ⟨b8 (by omega), z2⟩
    · have := hD ha x0
      have x1 := (nI_eq (by omega) (by omega)).mp x1
      have x2 := (nI_eq (by omega) (by omega)).mp x2
      subst x1 x2
      rw [x3, x4]
      rcases vb with ⟨y1, y2, y3⟩ | ⟨y1, y2, y3⟩ | ⟨hb, y0, y1, y2, y3, y4⟩
      · have y2 := (nI_eq (by omega) (by omega)).mp y2
        constructor
        · intro z; omega
        · intro z; omega
      · have y2 := (nI_eq (by omega) (by omega)).mp y2
        constructor
        · intro z; omega
        · intro z; omega
      · have := hD hb y0
        have y1 := (nI_eq (by omega) (by omega)).mp y1
        have y2 := (nI_eq (by omega) (by omega)).mp y2
        rw [y3, y4]
        constructor
        · intro z
          have : hb = ha := by omega
          subst this
          exact ⟨by omega, Or.inr rfl⟩
        · intro z
          refine ⟨rfl, ?_⟩
          rcases z.2 with y | y
          · omega
          · have p1 := (inj.1 ha x0).2
            have p2 := (inj.1 hb y0).2
            have e1 : (Int64.ofNat (φ ha)).toInt = (Int64.ofNat (φ hb)).toInt := by rw [y]
            rw [Int64.toInt_ofNat_of_lt (by omega), Int64.toInt_ofNat_of_lt (by omega)] at e1
            have := inj.2 ha hb x0 y0 (by omega)
            omega
  refine h.repl hpc (k := 2) (by omega) (by omega) (kk := nI 0) (v := _) (Or.inl ⟨rfl, rfl, ?_⟩) (x_14 (k := k) a hM o1 (by omega) a1 b1 a3 b3) (w_14 (TT := fun v => mpu (mpS T r d (k + 2) 2) r d k (nI 0) v) a hr d3 q0 v1 v2 u1 u2 a4 b4 (fun v => e_157p (k := 2) ht hr d3 hn d2 o2 (by omega)))
  exact ite_congr (propext key) (fun _ => rfl) (fun _ => rfl)
end PLB
