/-! SEND. -/
section SN2
variable {φ : Nat → Nat} {D : Nat → Prop} {F N : Nat} {P : aP} {S S' T T' : sS} {A : aS} {r d p f pc n m e b k y : Nat} {G : jG} {t : Nat}
set_option maxHeartbeats 4000000 in
set_option linter.unusedSimpArgs false in
theorem x_28n {a : Int32} {g : Nat} (hM : S.2.2.2.1.1 p = true) (o1 : S.1 29 p 1 2 = nI (k + 2)) (hn : k + 2 ≤ 16) (g1 : S.1 31 p 1 k = nI g) (hg : g < 602) (hg1 : g ≠ 1) (e3 : F_87 G t (nI g) (nI 3) S = some (none, S)) : X_28 G t r p a S = some (-2, S) := by
  have rw1 : rwS S p 1 (k + 2) := ⟨xr1 hM, o1, hn⟩
  have e1 := f_27 (G := G) (t := t) rw1 (i := k) (by omega)
  rw [g1] at e1
  unfold X_28
  simp (disch := first | assumption | omega) only [gI, gI2, gL, gL1, gL2, jcLT, jcGE, jcGT, jcLE, jcEQ, jcNE, dEQ, nIt, lgNE, lgEQ, lgGE, lgLT, lgGT, lgLE, jinT, nIc, nI0, nI1, nIo, nIs, nI_add, nIm, nIn0, szl0, szl1, szl2, szl3, szl4, szl5, Nat.add_sub_assoc, Nat.add_zero, Nat.reduceSub, Nat.reduceAdd, Nat.reduceMul, Nat.reduceEqDiff,  jifT, bdS, sifN, sifS, omN, omS, cdI, x25, x26, x27, x28, x29, x30, x31, x32, xr0, xr1, xr2, xr3, xr4, xr5, if_pos, if_neg, true_and, and_true, false_and, and_false, and_self, Bool.and_true, if_true, if_false, reduceIte, cond_true, cond_false, not_true_eq_false, not_false_eq_true, F_94, hM, o1, e1, e3]
set_option maxHeartbeats 4000000 in
set_option linter.unusedSimpArgs false in
theorem x_28w {a : Int32} {S1 : sS} (hM : S.2.2.2.1.1 p = true) (o1 : S.1 29 p 1 2 = nI (k + 2)) (hn : k + 2 ≤ 16) (g1 : S.1 31 p 1 k = nI 1) (e4 : F_93 G t (r, 0) (nI 2) (nI 0) S = some ((), S1)) : X_28 G t r p a S = some (nI 0, S1) := by
  have rw1 : rwS S p 1 (k + 2) := ⟨xr1 hM, o1, hn⟩
  have e1 := f_27 (G := G) (t := t) rw1 (i := k) (by omega)
  rw [g1] at e1
  have e3 := f_87n (G := G) (t := t) (g := 1) (ty := nI 3) (S := S) (by omega)
  unfold X_28
  simp (disch := first | assumption | omega) only [gI, gI2, gL, gL1, gL2, jcLT, jcGE, jcGT, jcLE, jcEQ, jcNE, dEQ, nIt, lgNE, lgEQ, lgGE, lgLT, lgGT, lgLE, jinT, nIc, nI0, nI1, nIo, nIs, nI_add, nIm, nIn0, szl0, szl1, szl2, szl3, szl4, szl5, Nat.add_sub_assoc, Nat.add_zero, Nat.reduceSub, Nat.reduceAdd, Nat.reduceMul, Nat.reduceEqDiff,  jifT, bdS, sifN, sifS, omN, omS, cdI, x25, x26, x27, x28, x29, x30, x31, x32, xr0, xr1, xr2, xr3, xr4, xr5, if_pos, if_neg, true_and, and_true, false_and, and_false, and_self, Bool.and_true, if_true, if_false, reduceIte, cond_true, cond_false, not_true_eq_false, not_false_eq_true, F_94, F_94_40, F_94_56, F_94_84, hM, o1, e1, e3, e4]
set_option maxHeartbeats 4000000 in
set_option linter.unusedSimpArgs false in
theorem x_28c {a : Int32} {x p1 : Nat} (hM : S.2.2.2.1.1 p = true) (o1 : S.1 29 p 1 2 = nI (k + 2)) (hn : k + 2 ≤ 16) (g1 : S.1 31 p 1 k = nI (x + 2)) (hx : x < 600) (hM1 : S.2.2.2.1.2 p1 = true) (e3 : F_87 G t (nI (x + 2)) (nI 3) S = some (some (p1, 0), S)) (hc : S.1 32 p1 0 4 = nI 1) : X_28 G t r p a S = some (-4, S) := by
  have rw1 : rwS S p 1 (k + 2) := ⟨xr1 hM, o1, hn⟩
  have e1 := f_27 (G := G) (t := t) rw1 (i := k) (by omega)
  rw [g1] at e1
  unfold X_28
  simp (disch := first | assumption | omega) only [gI, gI2, gL, gL1, gL2, jcLT, jcGE, jcGT, jcLE, jcEQ, jcNE, dEQ, nIt, lgNE, lgEQ, lgGE, lgLT, lgGT, lgLE, jinT, nIc, nI0, nI1, nIo, nIs, nI_add, nIm, nIn0, szl0, szl1, szl2, szl3, szl4, szl5, Nat.add_sub_assoc, Nat.add_zero, Nat.reduceSub, Nat.reduceAdd, Nat.reduceMul, Nat.reduceEqDiff,  jifT, bdS, sifN, sifS, omN, omS, cdI, x25, x26, x27, x28, x29, x30, x31, x32, xr0, xr1, xr2, xr3, xr4, xr5, if_pos, if_neg, true_and, and_true, false_and, and_false, and_self, Bool.and_true, if_true, if_false, reduceIte, cond_true, cond_false, not_true_eq_false, not_false_eq_true, F_94, F_94_40, hM, o1, e1, e3, hM1, hc]
set_option maxHeartbeats 4000000 in
set_option linter.unusedSimpArgs false in
theorem x_28d {a : Int32} {x p1 : Nat} {S1 : sS} (hM : S.2.2.2.1.1 p = true) (o1 : S.1 29 p 1 2 = nI (k + 2)) (hn : k + 2 ≤ 16) (g1 : S.1 31 p 1 k = nI (x + 2)) (hx : x < 600) (hM1 : S.2.2.2.1.2 p1 = true) (e3 : F_87 G t (nI (x + 2)) (nI 3) S = some (some (p1, 0), S)) (hc : S.1 32 p1 0 4 = nI 0) (e4 : F_92 G t (p1, 0) (nI (x + 2)) (p, 1) (nI (k + 1)) S = some (nI 1, S1)) (hMS : S1.2.2.2.1.1 p = true) (oS : S1.1 29 p 1 2 = nI (k + 2)) : X_28 G t r p a S = some (nI 0, siI S1 29 p 1 2 (nI k)) := by
  have rw1 : rwS S p 1 (k + 2) := ⟨xr1 hM, o1, hn⟩
  have e1 := f_27 (G := G) (t := t) rw1 (i := k) (by omega)
  rw [g1] at e1
  have e6 : F_76 G t (p, 1) (nI 2) S1 = some ((), siI S1 29 p 1 2 (nI k)) := f_76 (sz := k + 2) ⟨xr1 hMS, oS, show k + 2 ≤ 16 by omega⟩ (by omega)
  unfold X_28
  simp (disch := first | assumption | omega) only [gI, gI2, gL, gL1, gL2, jcLT, jcGE, jcGT, jcLE, jcEQ, jcNE, dEQ, nIt, lgNE, lgEQ, lgGE, lgLT, lgGT, lgLE, jinT, nIc, nI0, nI1, nIo, nIs, nI_add, nIm, nIn0, szl0, szl1, szl2, szl3, szl4, szl5, Nat.add_sub_assoc, Nat.add_zero, Nat.reduceSub, Nat.reduceAdd, Nat.reduceMul, Nat.reduceEqDiff,  jifT, bdS, sifN, sifS, omN, omS, cdI, x25, x26, x27, x28, x29, x30, x31, x32, xr0, xr1, xr2, xr3, xr4, xr5, if_pos, if_neg, true_and, and_true, false_and, and_false, and_self, Bool.and_true, if_true, if_false, reduceIte, cond_true, cond_false, not_true_eq_false, not_false_eq_true, F_94, F_94_40, F_94_56, hM, o1, e1, e3, hM1, hc, e4, hMS, e6]
set_option maxHeartbeats 4000000 in
set_option linter.unusedSimpArgs false in
theorem x_28e {a : Int32} {x p1 : Nat} {S1 : sS} (hM : S.2.2.2.1.1 p = true) (o1 : S.1 29 p 1 2 = nI (k + 2)) (hn : k + 2 ≤ 16) (g1 : S.1 31 p 1 k = nI (x + 2)) (hx : x < 600) (hM1 : S.2.2.2.1.2 p1 = true) (e3 : F_87 G t (nI (x + 2)) (nI 3) S = some (some (p1, 0), S)) (hc : S.1 32 p1 0 4 = nI 0) (e4 : F_92 G t (p1, 0) (nI (x + 2)) (p, 1) (nI (k + 1)) S = some (nI 0, S)) (e5 : F_93 G t (r, 0) (nI 2) (nI 0) S = some ((), S1)) : X_28 G t r p a S = some (nI 0, S1) := by
  have rw1 : rwS S p 1 (k + 2) := ⟨xr1 hM, o1, hn⟩
  have e1 := f_27 (G := G) (t := t) rw1 (i := k) (by omega)
  rw [g1] at e1
  unfold X_28
  simp (disch := first | assumption | omega) only [gI, gI2, gL, gL1, gL2, jcLT, jcGE, jcGT, jcLE, jcEQ, jcNE, dEQ, nIt, lgNE, lgEQ, lgGE, lgLT, lgGT, lgLE, jinT, nIc, nI0, nI1, nIo, nIs, nI_add, nIm, nIn0, szl0, szl1, szl2, szl3, szl4, szl5, Nat.add_sub_assoc, Nat.add_zero, Nat.reduceSub, Nat.reduceAdd, Nat.reduceMul, Nat.reduceEqDiff,  jifT, bdS, sifN, sifS, omN, omS, cdI, x25, x26, x27, x28, x29, x30, x31, x32, xr0, xr1, xr2, xr3, xr4, xr5, if_pos, if_neg, true_and, and_true, false_and, and_false, and_self, Bool.and_true, if_true, if_false, reduceIte, cond_true, cond_false, not_true_eq_false, not_false_eq_true, F_94, F_94_40, F_94_56, F_94_84, hM, o1, e1, e3, hM1, hc, e4, e5]
set_option maxHeartbeats 4000000 in
set_option linter.unusedSimpArgs false in
theorem w_28n {a : Int32} {q : Nat} {T1 T2 : sS} (hr : r < 16) (d3 : d < 30) (h3 : T.1 54 r 0 1 = nI (d + 1)) (o2 : T.1 56 r d 2 = nI (k + 2)) (hn : k + 2 ≤ 16) (g1 : T.1 58 r d k = nI q) (hq : q ≤ 2) (hq1 : q ≠ 1) (e1 : F_170 G t (nI q) (((T.2.1 62 r d k).toInt32).toInt64) (nI 3) T = some (nI 0, T)) (q0 : F_156 G t (r, 0) (nI 2) T = some (nI 1, T1)) (q1 : F_155 G t (r, 0) (-2) T1 = some ((), T2)) : W_28 G t r d a T = some ((), T2) := by
  unfold W_28
  simp (disch := first | assumption | omega) only [gI, gI2, gL, gL1, gL2, jcLT, jcGE, jcGT, jcLE, jcEQ, jcNE, dEQ, nIt, lgNE, lgEQ, lgGE, lgLT, lgGT, lgLE, jinT, nIc, nI0, nI1, nIo, nIs, nI_add, nIm, nIn0, szl0, szl1, szl2, szl3, szl4, szl5, Nat.add_sub_assoc, Nat.add_zero, Nat.reduceSub, Nat.reduceAdd, Nat.reduceMul, Nat.reduceEqDiff,  jifT, bdS, sifN, sifS, omN, omS, cdI, x25, x26, x27, x28, x29, x30, x31, x32, xr0, xr1, xr2, xr3, xr4, xr5, if_pos, if_neg, true_and, and_true, false_and, and_false, and_self, Bool.and_true, if_true, if_false, reduceIte, cond_true, cond_false, not_true_eq_false, not_false_eq_true, x51, x52, x53, x54, x55, x56, x57, x58, x59, x60, x61, x62, x63, F_181, F_151, h3, o2, g1, e1, q0, q1]
set_option maxHeartbeats 4000000 in
set_option linter.unusedSimpArgs false in
theorem w_28w {a : Int32} {T1 : sS} (hr : r < 16) (d3 : d < 30) (h3 : T.1 54 r 0 1 = nI (d + 1)) (o2 : T.1 56 r d 2 = nI (k + 2)) (hn : k + 2 ≤ 16) (g1 : T.1 58 r d k = nI 1) (e1 : F_177 G t (r, 0) (nI 2) T = some ((), T1)) : W_28 G t r d a T = some ((), T1) := by
  unfold W_28
  simp (disch := first | assumption | omega) only [gI, gI2, gL, gL1, gL2, jcLT, jcGE, jcGT, jcLE, jcEQ, jcNE, dEQ, nIt, lgNE, lgEQ, lgGE, lgLT, lgGT, lgLE, jinT, nIc, nI0, nI1, nIo, nIs, nI_add, nIm, nIn0, szl0, szl1, szl2, szl3, szl4, szl5, Nat.add_sub_assoc, Nat.add_zero, Nat.reduceSub, Nat.reduceAdd, Nat.reduceMul, Nat.reduceEqDiff,  jifT, bdS, sifN, sifS, omN, omS, cdI, x25, x26, x27, x28, x29, x30, x31, x32, xr0, xr1, xr2, xr3, xr4, xr5, if_pos, if_neg, true_and, and_true, false_and, and_false, and_self, Bool.and_true, if_true, if_false, reduceIte, cond_true, cond_false, not_true_eq_false, not_false_eq_true, x51, x52, x53, x54, x55, x56, x57, x58, x59, x60, x61, x62, x63, F_181, F_181_66, F_181_81, F_151, h3, o2, g1, e1]
set_option maxHeartbeats 4000000 in
set_option linter.unusedSimpArgs false in
theorem w_28x {a : Int32} {x : Nat} {R : Option (Unit × sS)} (hr : r < 16) (d3 : d < 30) (h3 : T.1 54 r 0 1 = nI (d + 1)) (o2 : T.1 56 r d 2 = nI (k + 2)) (hn : k + 2 ≤ 16) (g1 : T.1 58 r d k = nI 2) (g2 : T.2.1 62 r d k = Int64.ofNat x) (hx : x < 1300) (hk : T.1 51 x 0 0 = nI 3) (hR : F_181_66 G t (r, 0) (nI 2) (nI x) T = R) : W_28 G t r d a T = R.bind fun q => some ((), q.2) := by
  have y1 := ofN32 (n := x) (by omega)
  have y2 := l64 (n := x) (by omega)
  have e1 := f_170o (G := G) (t := t) (ty := 3) hx hk (by omega) (by omega)
  rw [if_pos rfl] at e1
  subst hR
  unfold W_28
  simp (disch := first | assumption | omega) only [gI, gI2, gL, gL1, gL2, jcLT, jcGE, jcGT, jcLE, jcEQ, jcNE, dEQ, nIt, lgNE, lgEQ, lgGE, lgLT, lgGT, lgLE, jinT, nIc, nI0, nI1, nIo, nIs, nI_add, nIm, nIn0, szl0, szl1, szl2, szl3, szl4, szl5, Nat.add_sub_assoc, Nat.add_zero, Nat.reduceSub, Nat.reduceAdd, Nat.reduceMul, Nat.reduceEqDiff,  jifT, bdS, sifN, sifS, omN, omS, cdI, x25, x26, x27, x28, x29, x30, x31, x32, xr0, xr1, xr2, xr3, xr4, xr5, if_pos, if_neg, true_and, and_true, false_and, and_false, and_self, Bool.and_true, if_true, if_false, reduceIte, cond_true, cond_false, not_true_eq_false, not_false_eq_true, x51, x52, x53, x54, x55, x56, x57, x58, x59, x60, x61, x62, x63, F_181, F_151, h3, o2, g1, g2, y1, y2, e1]
/-! may, for a sender -/
set_option maxHeartbeats 4000000 in
set_option linter.unusedSimpArgs false in
theorem e176s {x w z c : Nat} {o : Option Nat} (hx : x < 1300) (hc : T.1 51 x 0 4 = nI c) (hc2 : c ≤ 1) (hz : T.1 51 x 0 1 = nI z) (hw : T.1 51 x 0 2 = nI w) (hz2 : z ≤ 16) (hw2 : w ≤ 16) (ho : ∀ s, o = some s → s < 16) (e1 : F_175 G t (nI x) (nI 0) T = some (oI o, T)) : F_176 G t (nI x) (nI 1) T = some (nI (if c = 1 ∨ o ≠ none ∨ w < z then 1 else 0), T) := by
  unfold F_176
  by_cases c1 : c = 1
  · rw [if_pos (Or.inl c1)]
    subst c1
    simp (disch := first | assumption | omega) only [gI, gI2, gL, gL1, gL2, jcLT, jcGE, jcGT, jcLE, jcEQ, jcNE, dEQ, nIt, lgNE, lgEQ, lgGE, lgLT, lgGT, lgLE, jinT, nIc, nI0, nI1, nIo, nIs, nI_add, nIm, nIn0, szl0, szl1, szl2, szl3, szl4, szl5, Nat.add_sub_assoc, Nat.add_zero, Nat.reduceSub, Nat.reduceAdd, Nat.reduceMul, Nat.reduceEqDiff,  jifT, bdS, sifN, sifS, omN, omS, cdI, x25, x26, x27, x28, x29, x30, x31, x32, xr0, xr1, xr2, xr3, xr4, xr5, if_pos, if_neg, true_and, and_true, false_and, and_false, and_self, Bool.and_true, if_true, if_false, reduceIte, cond_true, cond_false, not_true_eq_false, not_false_eq_true, x51, x52, x53, x54, x55, x56, x57, x58, x59, x60, x61, x62, x63, hc]
  · have : c = 0 := by omega
    subst this
    cases o with
    | some s =>
      have := ho s rfl
      rw [oI_s] at e1
      rw [if_pos (Or.inr (Or.inl (fun z => by cases z)))]
      simp (disch := first | assumption | omega) only [gI, gI2, gL, gL1, gL2, jcLT, jcGE, jcGT, jcLE, jcEQ, jcNE, dEQ, nIt, lgNE, lgEQ, lgGE, lgLT, lgGT, lgLE, jinT, nIc, nI0, nI1, nIo, nIs, nI_add, nIm, nIn0, szl0, szl1, szl2, szl3, szl4, szl5, Nat.add_sub_assoc, Nat.add_zero, Nat.reduceSub, Nat.reduceAdd, Nat.reduceMul, Nat.reduceEqDiff,  jifT, bdS, sifN, sifS, omN, omS, cdI, x25, x26, x27, x28, x29, x30, x31, x32, xr0, xr1, xr2, xr3, xr4, xr5, if_pos, if_neg, true_and, and_true, false_and, and_false, and_self, Bool.and_true, if_true, if_false, reduceIte, cond_true, cond_false, not_true_eq_false, not_false_eq_true, x51, x52, x53, x54, x55, x56, x57, x58, x59, x60, x61, x62, x63, hc, e1, F_176_40]
    | none =>
      rw [oI_n] at e1
      have jg : jcmp .ge (-1) (nI 0) = false := by rw [← nI0]; decide
      by_cases cw : w < z
      · rw [if_pos (Or.inr (Or.inr cw))]
        simp (disch := first | assumption | omega) only [gI, gI2, gL, gL1, gL2, jcLT, jcGE, jcGT, jcLE, jcEQ, jcNE, dEQ, nIt, lgNE, lgEQ, lgGE, lgLT, lgGT, lgLE, jinT, nIc, nI0, nI1, nIo, nIs, nI_add, nIm, nIn0, szl0, szl1, szl2, szl3, szl4, szl5, Nat.add_sub_assoc, Nat.add_zero, Nat.reduceSub, Nat.reduceAdd, Nat.reduceMul, Nat.reduceEqDiff,  jifT, bdS, sifN, sifS, omN, omS, cdI, x25, x26, x27, x28, x29, x30, x31, x32, xr0, xr1, xr2, xr3, xr4, xr5, if_pos, if_neg, true_and, and_true, false_and, and_false, and_self, Bool.and_true, if_true, if_false, reduceIte, cond_true, cond_false, not_true_eq_false, not_false_eq_true, x51, x52, x53, x54, x55, x56, x57, x58, x59, x60, x61, x62, x63, hc, e1, jg, hz, hw, F_176_40]
      · rw [if_neg (fun q => by
          rcases q with q | q | q
          · omega
          · exact q rfl
          · exact cw q)]
        simp (disch := first | assumption | omega) only [gI, gI2, gL, gL1, gL2, jcLT, jcGE, jcGT, jcLE, jcEQ, jcNE, dEQ, nIt, lgNE, lgEQ, lgGE, lgLT, lgGT, lgLE, jinT, nIc, nI0, nI1, nIo, nIs, nI_add, nIm, nIn0, szl0, szl1, szl2, szl3, szl4, szl5, Nat.add_sub_assoc, Nat.add_zero, Nat.reduceSub, Nat.reduceAdd, Nat.reduceMul, Nat.reduceEqDiff,  jifT, bdS, sifN, sifS, omN, omS, cdI, x25, x26, x27, x28, x29, x30, x31, x32, xr0, xr1, xr2, xr3, xr4, xr5, if_pos, if_neg, true_and, and_true, false_and, and_false, and_self, Bool.and_true, if_true, if_false, reduceIte, cond_true, cond_false, not_true_eq_false, not_false_eq_true, x51, x52, x53, x54, x55, x56, x57, x58, x59, x60, x61, x62, x63, hc, e1, jg, hz, hw, F_176_40]
theorem cx.done (h : cx φ D F N P S' T' A r d p f pc n m) (g : gcR D S') (q : iqR P A r False) (hpc : pc < P.2.2.2.1 f) (hy : T'.1 33 0 0 38 = nI 0) {A0 : aS} (hA : A.2.2.2.2 = A0.2.2.2.2) (rm : ∀ x, rmR S x → rmR S' x) {kt : Nat} {X : Option (Int32 × sS)} {W : Option (Unit × sS)} (hXX : X = some (nI 0, S')) (hW : W = some ((), T')) : insY D F N P S T A0 r p G t kt 0 X W := by
  obtain ⟨w0, w1, hr, a1, a2, a3, a4⟩ := h
  obtain ⟨q1, q2, q3⟩ := q
  refine ⟨S', T', φ, D, A, cD_ok hXX, hW, w0, g, ⟨fun s hs _ => ?_, q2, q3⟩, rm, hy, ⟨by rw [hA]; exact Nat.le_succ _, by rw [hA]⟩, fun z => by omega⟩
  by_cases c : s = r
  · subst c
    intro y hy
    have : y = d := by omega
    subst this
    rw [a4]
    exact ⟨rfl, hpc⟩
  · exact q1 s hs (Or.inl c)
set_option maxHeartbeats 4000000 in
set_option linter.unusedSimpArgs false in
theorem i_28 (ht : 1000 < t) (h : cx φ D F N P S T A r d p f pc (k + 2) m) (gc : gcR D S) (iq : iqR P A r False) (hy : T.1 33 0 0 38 = nI 0) (hpc : pc < P.2.2.2.1 f) (hW : A.2.2.2.2.2.1 + A.2.2.2.2.2.2 < 2147483648) (a : Int32) : insY D F N P S T A r p G t 2 0 (X_28 G t r p a S) (W_28 G t r d a T) := by
  obtain ⟨hM, o1, o2, hn, hr, d2, d3⟩ := h.rd
  have hv := h.fr.2.2.2.1.2.2.2 k (by omega)
  have q0 := e_156 (G := G) (t := t) (k := 2) (by omega) hr d3 hn d2 o2 (by omega)
  have wt := h.1.2.2.2.2.2.2.1.1
  have a93 := f_93 (G := G) (t := t) (st := 2) (c := 0) hr wt.1
  have a177 := f_177 (G := G) (t := t) (st := 2) hr wt.2
  rcases h.ob hv with ⟨q, b1, b2, b3, b4, b5⟩ | ⟨x, b0, b1, b2, b3, b4, b5, b6, b7⟩
  · by_cases cq : q = 1
    · subst cq
      exact h.awt gc iq hy hpc (st := 2) (c := 0) (by omega) (fun _ => by omega) (fun z => by omega) (fun z => by omega) (x_28w hM o1 hn b2 a93) (w_28w hr d3 d2 o2 hn b3 a177)
    · obtain ⟨S', T', r1, r2, r3⟩ := h.panp (G := G) ht 2 (by omega) neg2.1 neg2.2 (x_28n (r := r) (a := a) hM o1 hn b2 (by omega) cq (f_87n b1))
      exact insR.y ⟨S', T', r1, w_28n hr d3 d2 o2 hn b3 (by omega) cq (f_170n b1) q0 r2, r3⟩ gc iq hr hy
  · obtain ⟨p1, kd, z, w, c, c1, c2, ⟨c3, c4, c5⟩, ⟨c6, c7, c8, c8'⟩, ⟨c9, c10, c11, c12⟩, ⟨c13, c14, c15⟩, c16, vv⟩ := b7
    have e3 : F_87 G t (nI (x + 2)) (nI 3) S = some (if kd = 3 then some (p1, 0) else none, S) := f_87o b1 c1 c2 c3 (by omega) (by omega)
    by_cases ck : kd = 3
    · subst ck
      rw [if_pos rfl] at e3
      have t2 := c10 rfl
      have lwM := h.1.lwM (G := G) (t := t) (y := x) (snd := 0) (by omega) b0 c4 (by omega) hW
      rw [show 1 - 0 = 1 from rfl] at lwM
      have e176 := e176s (G := G) (t := t) (o := lw S A x 0 1) b2 c14 c15 c7 t2 (by omega) (by omega) (fun s hs => (h.1.lwS (t := t) (by omega) b1 (by omega) (by omega) hs).1) lwM
      have W1 : ∀ R, F_181_66 G t (r, 0) (nI 2) (nI (φ x)) T = R → W_28 G t r d a T = R.bind fun q => some ((), q.2) := fun R hR => w_28x hr d3 d2 o2 hn b4 b6 b2 c4 hR
      have m4 : (mpS T r d (k + 2) 2).1 51 (φ x) 0 4 = nI c := by rw [(mp51 T r d (k + 2) 2 (φ x) 4 51 (by omega) (by omega)).1]; exact c14
      obtain ⟨v1, v2⟩ := mpS_v T r d (k + 2) (i := 0) 2 (by omega)
      have v1 : (mpS T r d (k + 2) 2).1 47 0 0 0 = T.1 58 r d (k + 1) := v1
      have v2 : (mpS T r d (k + 2) 2).2.1 48 0 0 0 = T.2.1 62 r d (k + 1) := v2
      by_cases cc : c = 1
      · subst cc
        obtain ⟨S', T', r1, r2, r3⟩ := h.panp (G := G) ht 2 (by omega) neg4.1 neg4.2 (x_28c (r := r) (a := a) hM o1 hn b3 b1 c2 e3 c13)
        refine insR.y ⟨S', T', r1, ?_, r3⟩ gc iq hr hy
        rw [if_pos (Or.inl rfl)] at e176
        refine W1 (some ((), T')) ?_
        clear h gc iq vv lwM W1 hv r1 r3 wt a93 a177
        unfold F_181_66
        simp (disch := first | assumption | omega) only [gI, gI2, gL, gL1, gL2, jcLT, jcGE, jcGT, jcLE, jcEQ, jcNE, dEQ, nIt, lgNE, lgEQ, lgGE, lgLT, lgGT, lgLE, jinT, nIc, nI0, nI1, nIo, nIs, nI_add, nIm, nIn0, szl0, szl1, szl2, szl3, szl4, szl5, Nat.add_sub_assoc, Nat.add_zero, Nat.reduceSub, Nat.reduceAdd, Nat.reduceMul, Nat.reduceEqDiff,  jifT, bdS, sifN, sifS, omN, omS, cdI, x25, x26, x27, x28, x29, x30, x31, x32, xr0, xr1, xr2, xr3, xr4, xr5, if_pos, if_neg, true_and, and_true, false_and, and_false, and_self, Bool.and_true, if_true, if_false, reduceIte, cond_true, cond_false, not_true_eq_false, not_false_eq_true, x51, x52, x53, x54, x55, x56, x57, x58, x59, x60, x61, x62, x63, e176, q0, m4, r2]
      · have : c = 0 := by omega
        subst this
        have PASS : paR φ D F N P S T A r d p f pc (k + 2) m 2 (F_92 G t (p1, 0) (nI (x + 2)) (p, 1) (nI (k + 1)) S) (F_180 G t (nI (φ x)) (T.1 58 r d (k + 1)) (T.2.1 62 r d (k + 1)) (mpS T r d (k + 2) 2)) → F_176 G t (nI (φ x)) (nI 1) T = some (nI 1, T) → insY D F N P S T A r p G t 2 0 (X_28 G t r p a S) (W_28 G t r d a T) := fun pa e176 => by
          obtain ⟨S1, T2, A', p1', p2', p3', p4', p5', p6', p7', p8', p9', p10'⟩ := pa
          refine cx.done (A0 := A) p5' p7' p6' hpc (by rw [p9']; exact hy) p10' (fun u hu => hu.same p8') (x_28d hM o1 hn b3 b1 c2 e3 c13 p1' p2' p3') ?_
          refine W1 (some ((), T2)) ?_
          clear h gc iq vv lwM W1 hv p5' p6' p7' p1' wt a93 a177
          unfold F_181_66
          simp (disch := first | assumption | omega) only [gI, gI2, gL, gL1, gL2, jcLT, jcGE, jcGT, jcLE, jcEQ, jcNE, dEQ, nIt, lgNE, lgEQ, lgGE, lgLT, lgGT, lgLE, jinT, nIc, nI0, nI1, nIo, nIs, nI_add, nIm, nIn0, szl0, szl1, szl2, szl3, szl4, szl5, Nat.add_sub_assoc, Nat.add_zero, Nat.reduceSub, Nat.reduceAdd, Nat.reduceMul, Nat.reduceEqDiff,  jifT, bdS, sifN, sifS, omN, omS, cdI, x25, x26, x27, x28, x29, x30, x31, x32, xr0, xr1, xr2, xr3, xr4, xr5, if_pos, if_neg, true_and, and_true, false_and, and_false, and_self, Bool.and_true, if_true, if_false, reduceIte, cond_true, cond_false, not_true_eq_false, not_false_eq_true, x51, x52, x53, x54, x55, x56, x57, x58, x59, x60, x61, x62, x63, e176, q0, m4, v1, v2, p4']
        cases hl : lw S A x 0 1 with
        | some s =>
          rw [hl, if_pos (Or.inr (Or.inl (fun z => by cases z)))] at e176
          exact PASS (h.pass1 ht gc iq hpc hW (by omega) (by omega) b0 c4 hl) e176
        | none =>
          rw [hl] at e176
          by_cases cw : w < z
          · rw [if_pos (Or.inr (Or.inr cw))] at e176
            exact PASS (h.pass2 ht gc iq hpc hW (by omega) (by omega) b0 c1 c2 ⟨c3, c4⟩ ⟨c6, c7, c8' rfl⟩ ⟨c9, t2⟩ ⟨c13, c14, by omega⟩ c16 vv cw hl) e176
          · rw [if_neg (fun q => by
              rcases q with q | q | q
              · omega
              · exact q rfl
              · exact cw q)] at e176
            have lwC := h.1.lwC (G := G) (t := t) (y := x) (sn := 0) (rc := 1) (by omega) b1 (by omega) (by omega) hW
            rw [hl] at lwC
            have e92 := e92n (G := G) (t := t) (S := S) (p := p) (p1 := p1) (w := w) (z := z) (n2 := k + 2) (at_ := k + 1) lwC c2 c9 c6 (by omega) c11 hM o1 hn (by omega)
            rw [if_neg cw] at e92
            refine h.awt gc iq hy hpc (st := 2) (c := 0) (by omega) (fun _ => by omega) (fun z => by omega) (fun z => by omega) (x_28e hM o1 hn b3 b1 c2 e3 c13 e92 a93) ?_
            refine W1 (some ((), awT T r 2 (A.2.2.2.2.2.1 + A.2.2.2.2.2.2))) ?_
            clear h gc iq vv lwM W1 hv wt a93 PASS
            unfold F_181_66
            simp (disch := first | assumption | omega) only [gI, gI2, gL, gL1, gL2, jcLT, jcGE, jcGT, jcLE, jcEQ, jcNE, dEQ, nIt, lgNE, lgEQ, lgGE, lgLT, lgGT, lgLE, jinT, nIc, nI0, nI1, nIo, nIs, nI_add, nIm, nIn0, szl0, szl1, szl2, szl3, szl4, szl5, Nat.add_sub_assoc, Nat.add_zero, Nat.reduceSub, Nat.reduceAdd, Nat.reduceMul, Nat.reduceEqDiff,  jifT, bdS, sifN, sifS, omN, omS, cdI, x25, x26, x27, x28, x29, x30, x31, x32, xr0, xr1, xr2, xr3, xr4, xr5, if_pos, if_neg, true_and, and_true, false_and, and_false, and_self, Bool.and_true, if_true, if_false, reduceIte, cond_true, cond_false, not_true_eq_false, not_false_eq_true, x51, x52, x53, x54, x55, x56, x57, x58, x59, x60, x61, x62, x63, e176, F_181_81, a177]
    · rw [if_neg ck] at e3
      obtain ⟨S', T', r1, r2, r3⟩ := h.panp (G := G) ht 2 (by omega) neg2.1 neg2.2 (x_28n (r := r) (a := a) hM o1 hn b3 (by omega) (by omega) e3)
      refine insR.y ⟨S', T', r1, w_28n hr d3 d2 o2 hn b4 (by omega) (by omega) ?_ q0 r2, r3⟩ gc iq hr hy
      have e170 := f_170o (G := G) (t := t) (ty := 3) b2 c4 (by omega) (by omega)
      rw [if_neg ck] at e170
      rw [b6, ofN32 (by omega), l64 (by omega)]
      exact e170
end SN2
