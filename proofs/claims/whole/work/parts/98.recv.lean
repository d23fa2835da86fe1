/-! RECEIVE. -/
section RCV
variable {φ : Nat → Nat} {D : Nat → Prop} {F N : Nat} {P : aP} {S S' T T' : sS} {A : aS} {r d p f pc n m e b k y : Nat} {G : jG} {t : Nat}
set_option maxHeartbeats 4000000 in
set_option linter.unusedSimpArgs false in
theorem x_29n {a : Int32} {g : Nat} (hM : S.2.2.2.1.1 p = true) (o1 : S.1 29 p 1 2 = nI (k + 1)) (hn : k + 1 ≤ 16) (g1 : S.1 31 p 1 k = nI g) (hg : g < 602) (hg1 : g ≠ 1) (e3 : F_87 G t (nI g) (nI 3) S = some (none, S)) : X_29 G t r p a S = some (-2, S) := by
  have rw1 : rwS S p 1 (k + 1) := ⟨xr1 hM, o1, hn⟩
  have e1 := f_27 (G := G) (t := t) rw1 (i := k) (by omega)
  rw [g1] at e1
  unfold X_29
  simp (disch := first | assumption | omega) only [gI, gI2, gL, gL1, gL2, jcLT, jcGE, jcGT, jcLE, jcEQ, jcNE, dEQ, nIt, lgNE, lgEQ, lgGE, lgLT, lgGT, lgLE, jinT, nIc, nI0, nI1, nIo, nIs, nI_add, nIm, nIn0, szl0, szl1, szl2, szl3, szl4, szl5, Nat.add_sub_assoc, Nat.add_zero, Nat.reduceSub, Nat.reduceAdd, Nat.reduceMul, Nat.reduceEqDiff,  jifT, bdS, sifN, sifS, omN, omS, cdI, x25, x26, x27, x28, x29, x30, x31, x32, xr0, xr1, xr2, xr3, xr4, xr5, if_pos, if_neg, true_and, and_true, false_and, and_false, and_self, Bool.and_true, if_true, if_false, reduceIte, cond_true, cond_false, not_true_eq_false, not_false_eq_true, F_100, hM, o1, e1, e3]
set_option maxHeartbeats 4000000 in
set_option linter.unusedSimpArgs false in
theorem x_29w {a : Int32} {S1 : sS} (hM : S.2.2.2.1.1 p = true) (o1 : S.1 29 p 1 2 = nI (k + 1)) (hn : k + 1 ≤ 16) (g1 : S.1 31 p 1 k = nI 1) (e4 : F_93 G t (r, 0) (nI 3) (nI 0) S = some ((), S1)) : X_29 G t r p a S = some (nI 0, S1) := by
  have rw1 : rwS S p 1 (k + 1) := ⟨xr1 hM, o1, hn⟩
  have e1 := f_27 (G := G) (t := t) rw1 (i := k) (by omega)
  rw [g1] at e1
  have e3 := f_87n (G := G) (t := t) (g := 1) (ty := nI 3) (S := S) (by omega)
  unfold X_29
  simp (disch := first | assumption | omega) only [gI, gI2, gL, gL1, gL2, jcLT, jcGE, jcGT, jcLE, jcEQ, jcNE, dEQ, nIt, lgNE, lgEQ, lgGE, lgLT, lgGT, lgLE, jinT, nIc, nI0, nI1, nIo, nIs, nI_add, nIm, nIn0, szl0, szl1, szl2, szl3, szl4, szl5, Nat.add_sub_assoc, Nat.add_zero, Nat.reduceSub, Nat.reduceAdd, Nat.reduceMul, Nat.reduceEqDiff,  jifT, bdS, sifN, sifS, omN, omS, cdI, x25, x26, x27, x28, x29, x30, x31, x32, xr0, xr1, xr2, xr3, xr4, xr5, if_pos, if_neg, true_and, and_true, false_and, and_false, and_self, Bool.and_true, if_true, if_false, reduceIte, cond_true, cond_false, not_true_eq_false, not_false_eq_true, F_100, F_100_35, F_100_72, hM, o1, e1, e3, e4]
set_option maxHeartbeats 4000000 in
set_option linter.unusedSimpArgs false in
theorem x_29d {a : Int32} {x p1 fl : Nat} {S2 : sS} (hM : S.2.2.2.1.1 p = true) (o1 : S.1 29 p 1 2 = nI (k + 1)) (hn : k + 2 ≤ 16) (g1 : S.1 31 p 1 k = nI (x + 2)) (hx : x < 600) (e3 : F_87 G t (nI (x + 2)) (nI 3) S = some (some (p1, 0), S)) (e4 : F_95 G t (p1, 0) (nI (x + 2)) S = some (nI 1, S)) (e5 : F_99 G t (p1, 0) (nI (x + 2)) (p, 1) (siI S 29 p 1 2 (nI k)) = some (nI fl, S2)) (hM2 : S2.2.2.2.1.1 p = true) (o2 : S2.1 29 p 1 2 = nI (k + 1)) : X_29 G t r p a S = some (nI 0, rpush S2 p 1 (k + 1) (nI fl).toInt64 (nI 0)) := by
  have rw1 : rwS S p 1 (k + 1) := ⟨xr1 hM, o1, show k + 1 ≤ 16 by omega⟩
  have e1 := f_27 (G := G) (t := t) rw1 (i := k) (by omega)
  rw [g1] at e1
  have e6 : F_76 G t (p, 1) (nI 1) S = some ((), siI S 29 p 1 2 (nI k)) := f_76 (sz := k + 1) rw1 (by omega)
  have e7 : F_78 G t (p, 1) (nI fl).toInt64 (nI 0) S2 = some ((), rpush S2 p 1 (k + 1) (nI fl).toInt64 (nI 0)) := f_78 ⟨xr1 hM2, o2, show k + 1 ≤ 16 by omega⟩ (show k + 1 < 16 by omega)
  unfold X_29
  simp (disch := first | assumption | omega) only [gI, gI2, gL, gL1, gL2, jcLT, jcGE, jcGT, jcLE, jcEQ, jcNE, dEQ, nIt, lgNE, lgEQ, lgGE, lgLT, lgGT, lgLE, jinT, nIc, nI0, nI1, nIo, nIs, nI_add, nIm, nIn0, szl0, szl1, szl2, szl3, szl4, szl5, Nat.add_sub_assoc, Nat.add_zero, Nat.reduceSub, Nat.reduceAdd, Nat.reduceMul, Nat.reduceEqDiff,  jifT, bdS, sifN, sifS, omN, omS, cdI, x25, x26, x27, x28, x29, x30, x31, x32, xr0, xr1, xr2, xr3, xr4, xr5, if_pos, if_neg, true_and, and_true, false_and, and_false, and_self, Bool.and_true, if_true, if_false, reduceIte, cond_true, cond_false, not_true_eq_false, not_false_eq_true, F_100, F_100_35, hM, o1, e1, e3, e4, e6, e5, hM2, e7]
set_option maxHeartbeats 4000000 in
set_option linter.unusedSimpArgs false in
theorem x_29e {a : Int32} {x p1 : Nat} {S1 : sS} (hM : S.2.2.2.1.1 p = true) (o1 : S.1 29 p 1 2 = nI (k + 1)) (hn : k + 1 ≤ 16) (g1 : S.1 31 p 1 k = nI (x + 2)) (hx : x < 600) (e3 : F_87 G t (nI (x + 2)) (nI 3) S = some (some (p1, 0), S)) (e4 : F_95 G t (p1, 0) (nI (x + 2)) S = some (nI 0, S)) (e5 : F_93 G t (r, 0) (nI 3) (nI 0) S = some ((), S1)) : X_29 G t r p a S = some (nI 0, S1) := by
  have rw1 : rwS S p 1 (k + 1) := ⟨xr1 hM, o1, hn⟩
  have e1 := f_27 (G := G) (t := t) rw1 (i := k) (by omega)
  rw [g1] at e1
  unfold X_29
  simp (disch := first | assumption | omega) only [gI, gI2, gL, gL1, gL2, jcLT, jcGE, jcGT, jcLE, jcEQ, jcNE, dEQ, nIt, lgNE, lgEQ, lgGE, lgLT, lgGT, lgLE, jinT, nIc, nI0, nI1, nIo, nIs, nI_add, nIm, nIn0, szl0, szl1, szl2, szl3, szl4, szl5, Nat.add_sub_assoc, Nat.add_zero, Nat.reduceSub, Nat.reduceAdd, Nat.reduceMul, Nat.reduceEqDiff,  jifT, bdS, sifN, sifS, omN, omS, cdI, x25, x26, x27, x28, x29, x30, x31, x32, xr0, xr1, xr2, xr3, xr4, xr5, if_pos, if_neg, true_and, and_true, false_and, and_false, and_self, Bool.and_true, if_true, if_false, reduceIte, cond_true, cond_false, not_true_eq_false, not_false_eq_true, F_100, F_100_35, F_100_72, hM, o1, e1, e3, e4, e5]
/-! hasForReceiver -/
set_option maxHeartbeats 4000000 in
set_option linter.unusedSimpArgs false in
theorem e95 {p1 w c : Nat} {o : Option Nat} (hM1 : S.2.2.2.1.2 p1 = true) (hw : S.1 29 p1 4 2 = nI w) (hw2 : w ≤ 16) (hc : S.1 32 p1 0 4 = nI c) (hc2 : c ≤ 1) (e1 : F_90 G t (nI (y + 2)) (nI 1) (nI 0) S = some (o.map fun x => (x, 0), S)) : F_95 G t (p1, 0) (nI (y + 2)) S = some (nI (if 0 < w ∨ c = 1 ∨ o ≠ none then 1 else 0), S) := by
  unfold F_95
  by_cases c0 : 0 < w
  · rw [if_pos (Or.inl c0)]
    simp (disch := first | assumption | omega) only [gI, gI2, gL, gL1, gL2, jcLT, jcGE, jcGT, jcLE, jcEQ, jcNE, dEQ, nIt, lgNE, lgEQ, lgGE, lgLT, lgGT, lgLE, jinT, nIc, nI0, nI1, nIo, nIs, nI_add, nIm, nIn0, szl0, szl1, szl2, szl3, szl4, szl5, Nat.add_sub_assoc, Nat.add_zero, Nat.reduceSub, Nat.reduceAdd, Nat.reduceMul, Nat.reduceEqDiff,  jifT, bdS, sifN, sifS, omN, omS, cdI, x25, x26, x27, x28, x29, x30, x31, x32, xr0, xr1, xr2, xr3, xr4, xr5, if_pos, if_neg, true_and, and_true, false_and, and_false, and_self, Bool.and_true, if_true, if_false, reduceIte, cond_true, cond_false, not_true_eq_false, not_false_eq_true, hM1, hw, F_95_27]
  · by_cases c1 : c = 1
    · rw [if_pos (Or.inr (Or.inl c1))]
      subst c1
      simp (disch := first | assumption | omega) only [gI, gI2, gL, gL1, gL2, jcLT, jcGE, jcGT, jcLE, jcEQ, jcNE, dEQ, nIt, lgNE, lgEQ, lgGE, lgLT, lgGT, lgLE, jinT, nIc, nI0, nI1, nIo, nIs, nI_add, nIm, nIn0, szl0, szl1, szl2, szl3, szl4, szl5, Nat.add_sub_assoc, Nat.add_zero, Nat.reduceSub, Nat.reduceAdd, Nat.reduceMul, Nat.reduceEqDiff,  jifT, bdS, sifN, sifS, omN, omS, cdI, x25, x26, x27, x28, x29, x30, x31, x32, xr0, xr1, xr2, xr3, xr4, xr5, if_pos, if_neg, true_and, and_true, false_and, and_false, and_self, Bool.and_true, if_true, if_false, reduceIte, cond_true, cond_false, not_true_eq_false, not_false_eq_true, hM1, hw, hc, F_95_27]
    · have : c = 0 := by omega
      subst this
      cases o with
      | none =>
        rw [if_neg (fun q => by
          rcases q with q | q | q
          · exact c0 q
          · exact c1 q
          · exact q rfl)]
        simp (disch := first | assumption | omega) only [gI, gI2, gL, gL1, gL2, jcLT, jcGE, jcGT, jcLE, jcEQ, jcNE, dEQ, nIt, lgNE, lgEQ, lgGE, lgLT, lgGT, lgLE, jinT, nIc, nI0, nI1, nIo, nIs, nI_add, nIm, nIn0, szl0, szl1, szl2, szl3, szl4, szl5, Nat.add_sub_assoc, Nat.add_zero, Nat.reduceSub, Nat.reduceAdd, Nat.reduceMul, Nat.reduceEqDiff,  jifT, bdS, sifN, sifS, omN, omS, cdI, x25, x26, x27, x28, x29, x30, x31, x32, xr0, xr1, xr2, xr3, xr4, xr5, if_pos, if_neg, true_and, and_true, false_and, and_false, and_self, Bool.and_true, if_true, if_false, reduceIte, cond_true, cond_false, not_true_eq_false, not_false_eq_true, hM1, hw, hc, e1, F_95_27]
      | some s =>
        rw [if_pos (Or.inr (Or.inr (fun z => by cases z)))]
        simp (disch := first | assumption | omega) only [gI, gI2, gL, gL1, gL2, jcLT, jcGE, jcGT, jcLE, jcEQ, jcNE, dEQ, nIt, lgNE, lgEQ, lgGE, lgLT, lgGT, lgLE, jinT, nIc, nI0, nI1, nIo, nIs, nI_add, nIm, nIn0, szl0, szl1, szl2, szl3, szl4, szl5, Nat.add_sub_assoc, Nat.add_zero, Nat.reduceSub, Nat.reduceAdd, Nat.reduceMul, Nat.reduceEqDiff,  jifT, bdS, sifN, sifS, omN, omS, cdI, x25, x26, x27, x28, x29, x30, x31, x32, xr0, xr1, xr2, xr3, xr4, xr5, if_pos, if_neg, true_and, and_true, false_and, and_false, and_self, Bool.and_true, if_true, if_false, reduceIte, cond_true, cond_false, not_true_eq_false, not_false_eq_true, hM1, hw, hc, e1, F_95_27]
/-! may, for a receiver -/
set_option maxHeartbeats 4000000 in
set_option linter.unusedSimpArgs false in
theorem e176r {x w c : Nat} {o : Option Nat} (hx : x < 1300) (hc : T.1 51 x 0 4 = nI c) (hc2 : c ≤ 1) (hw : T.1 51 x 0 2 = nI w) (hw2 : w ≤ 16) (ho : ∀ s, o = some s → s < 16) (e1 : F_175 G t (nI x) (nI 1) T = some (oI o, T)) : F_176 G t (nI x) (nI 0) T = some (nI (if 0 < w ∨ c = 1 ∨ o ≠ none then 1 else 0), T) := by
  unfold F_176
  by_cases c1 : c = 1
  · rw [if_pos (Or.inr (Or.inl c1))]
    subst c1
    simp (disch := first | assumption | omega) only [gI, gI2, gL, gL1, gL2, jcLT, jcGE, jcGT, jcLE, jcEQ, jcNE, dEQ, nIt, lgNE, lgEQ, lgGE, lgLT, lgGT, lgLE, jinT, nIc, nI0, nI1, nIo, nIs, nI_add, nIm, nIn0, szl0, szl1, szl2, szl3, szl4, szl5, Nat.add_sub_assoc, Nat.add_zero, Nat.reduceSub, Nat.reduceAdd, Nat.reduceMul, Nat.reduceEqDiff,  jifT, bdS, sifN, sifS, omN, omS, cdI, x25, x26, x27, x28, x29, x30, x31, x32, xr0, xr1, xr2, xr3, xr4, xr5, if_pos, if_neg, true_and, and_true, false_and, and_false, and_self, Bool.and_true, if_true, if_false, reduceIte, cond_true, cond_false, not_true_eq_false, not_false_eq_true, x51, x52, x53, x54, x55, x56, x57, x58, x59, x60, x61, x62, x63, hc]
  · have : c = 0 := by omega
    subst this
    by_cases c0 : 0 < w
    · rw [if_pos (Or.inl c0)]
      simp (disch := first | assumption | omega) only [gI, gI2, gL, gL1, gL2, jcLT, jcGE, jcGT, jcLE, jcEQ, jcNE, dEQ, nIt, lgNE, lgEQ, lgGE, lgLT, lgGT, lgLE, jinT, nIc, nI0, nI1, nIo, nIs, nI_add, nIm, nIn0, szl0, szl1, szl2, szl3, szl4, szl5, Nat.add_sub_assoc, Nat.add_zero, Nat.reduceSub, Nat.reduceAdd, Nat.reduceMul, Nat.reduceEqDiff,  jifT, bdS, sifN, sifS, omN, omS, cdI, x25, x26, x27, x28, x29, x30, x31, x32, xr0, xr1, xr2, xr3, xr4, xr5, if_pos, if_neg, true_and, and_true, false_and, and_false, and_self, Bool.and_true, if_true, if_false, reduceIte, cond_true, cond_false, not_true_eq_false, not_false_eq_true, x51, x52, x53, x54, x55, x56, x57, x58, x59, x60, x61, x62, x63, hc, hw, F_176_64]
    · cases o with
      | some s =>
        have := ho s rfl
        rw [oI_s] at e1
        rw [if_pos (Or.inr (Or.inr (fun z => by cases z)))]
        simp (disch := first | assumption | omega) only [gI, gI2, gL, gL1, gL2, jcLT, jcGE, jcGT, jcLE, jcEQ, jcNE, dEQ, nIt, lgNE, lgEQ, lgGE, lgLT, lgGT, lgLE, jinT, nIc, nI0, nI1, nIo, nIs, nI_add, nIm, nIn0, szl0, szl1, szl2, szl3, szl4, szl5, Nat.add_sub_assoc, Nat.add_zero, Nat.reduceSub, Nat.reduceAdd, Nat.reduceMul, Nat.reduceEqDiff,  jifT, bdS, sifN, sifS, omN, omS, cdI, x25, x26, x27, x28, x29, x30, x31, x32, xr0, xr1, xr2, xr3, xr4, xr5, if_pos, if_neg, true_and, and_true, false_and, and_false, and_self, Bool.and_true, if_true, if_false, reduceIte, cond_true, cond_false, not_true_eq_false, not_false_eq_true, x51, x52, x53, x54, x55, x56, x57, x58, x59, x60, x61, x62, x63, hc, hw, e1, F_176_64]
      | none =>
        rw [oI_n] at e1
        have jl := jLm1
        rw [nI0] at jl
        rw [if_neg (fun q => by
          rcases q with q | q | q
          · exact c0 q
          · exact c1 q
          · exact q rfl)]
        simp (disch := first | assumption | omega) only [gI, gI2, gL, gL1, gL2, jcLT, jcGE, jcGT, jcLE, jcEQ, jcNE, dEQ, nIt, lgNE, lgEQ, lgGE, lgLT, lgGT, lgLE, jinT, nIc, nI0, nI1, nIo, nIs, nI_add, nIm, nIn0, szl0, szl1, szl2, szl3, szl4, szl5, Nat.add_sub_assoc, Nat.add_zero, Nat.reduceSub, Nat.reduceAdd, Nat.reduceMul, Nat.reduceEqDiff,  jifT, bdS, sifN, sifS, omN, omS, cdI, x25, x26, x27, x28, x29, x30, x31, x32, xr0, xr1, xr2, xr3, xr4, xr5, if_pos, if_neg, true_and, and_true, false_and, and_false, and_self, Bool.and_true, if_true, if_false, reduceIte, cond_true, cond_false, not_true_eq_false, not_false_eq_true, x51, x52, x53, x54, x55, x56, x57, x58, x59, x60, x61, x62, x63, hc, hw, e1, jl, F_176_64]
set_option maxHeartbeats 4000000 in
set_option linter.unusedSimpArgs false in
theorem w_29n {a : Int32} {q : Nat} {T1 T2 : sS} (hr : r < 16) (d3 : d < 30) (h3 : T.1 54 r 0 1 = nI (d + 1)) (o2 : T.1 56 r d 2 = nI (k + 1)) (hn : k + 1 ≤ 16) (g1 : T.1 58 r d k = nI q) (hq : q ≤ 2) (hq1 : q ≠ 1) (e1 : F_170 G t (nI q) (((T.2.1 62 r d k).toInt32).toInt64) (nI 3) T = some (nI 0, T)) (q0 : F_156 G t (r, 0) (nI 1) T = some (nI 1, T1)) (q1 : F_155 G t (r, 0) (-2) T1 = some ((), T2)) : W_29 G t r d a T = some ((), T2) := by
  unfold W_29
  simp (disch := first | assumption | omega) only [gI, gI2, gL, gL1, gL2, jcLT, jcGE, jcGT, jcLE, jcEQ, jcNE, dEQ, nIt, lgNE, lgEQ, lgGE, lgLT, lgGT, lgLE, jinT, nIc, nI0, nI1, nIo, nIs, nI_add, nIm, nIn0, szl0, szl1, szl2, szl3, szl4, szl5, Nat.add_sub_assoc, Nat.add_zero, Nat.reduceSub, Nat.reduceAdd, Nat.reduceMul, Nat.reduceEqDiff,  jifT, bdS, sifN, sifS, omN, omS, cdI, x25, x26, x27, x28, x29, x30, x31, x32, xr0, xr1, xr2, xr3, xr4, xr5, if_pos, if_neg, true_and, and_true, false_and, and_false, and_self, Bool.and_true, if_true, if_false, reduceIte, cond_true, cond_false, not_true_eq_false, not_false_eq_true, x51, x52, x53, x54, x55, x56, x57, x58, x59, x60, x61, x62, x63, F_184, F_151, h3, o2, g1, e1, q0, q1]
set_option maxHeartbeats 4000000 in
set_option linter.unusedSimpArgs false in
theorem w_29w {a : Int32} {T1 : sS} (hr : r < 16) (d3 : d < 30) (h3 : T.1 54 r 0 1 = nI (d + 1)) (o2 : T.1 56 r d 2 = nI (k + 1)) (hn : k + 1 ≤ 16) (g1 : T.1 58 r d k = nI 1) (e1 : F_177 G t (r, 0) (nI 3) T = some ((), T1)) : W_29 G t r d a T = some ((), T1) := by
  unfold W_29
  simp (disch := first | assumption | omega) only [gI, gI2, gL, gL1, gL2, jcLT, jcGE, jcGT, jcLE, jcEQ, jcNE, dEQ, nIt, lgNE, lgEQ, lgGE, lgLT, lgGT, lgLE, jinT, nIc, nI0, nI1, nIo, nIs, nI_add, nIm, nIn0, szl0, szl1, szl2, szl3, szl4, szl5, Nat.add_sub_assoc, Nat.add_zero, Nat.reduceSub, Nat.reduceAdd, Nat.reduceMul, Nat.reduceEqDiff,  jifT, bdS, sifN, sifS, omN, omS, cdI, x25, x26, x27, x28, x29, x30, x31, x32, xr0, xr1, xr2, xr3, xr4, xr5, if_pos, if_neg, true_and, and_true, false_and, and_false, and_self, Bool.and_true, if_true, if_false, reduceIte, cond_true, cond_false, not_true_eq_false, not_false_eq_true, x51, x52, x53, x54, x55, x56, x57, x58, x59, x60, x61, x62, x63, F_184, F_184_66, F_184_81, F_151, h3, o2, g1, e1]
set_option maxHeartbeats 4000000 in
set_option linter.unusedSimpArgs false in
theorem w_29x {a : Int32} {x : Nat} {R : Option (Unit × sS)} (hr : r < 16) (d3 : d < 30) (h3 : T.1 54 r 0 1 = nI (d + 1)) (o2 : T.1 56 r d 2 = nI (k + 1)) (hn : k + 1 ≤ 16) (g1 : T.1 58 r d k = nI 2) (g2 : T.2.1 62 r d k = Int64.ofNat x) (hx : x < 1300) (hk : T.1 51 x 0 0 = nI 3) (hR : F_184_66 G t (r, 0) (nI 2) (nI x) T = R) : W_29 G t r d a T = R.bind fun q => some ((), q.2) := by
  have y1 := ofN32 (n := x) (by omega)
  have y2 := l64 (n := x) (by omega)
  have e1 := f_170o (G := G) (t := t) (ty := 3) hx hk (by omega) (by omega)
  rw [if_pos rfl] at e1
  subst hR
  unfold W_29
  simp (disch := first | assumption | omega) only [gI, gI2, gL, gL1, gL2, jcLT, jcGE, jcGT, jcLE, jcEQ, jcNE, dEQ, nIt, lgNE, lgEQ, lgGE, lgLT, lgGT, lgLE, jinT, nIc, nI0, nI1, nIo, nIs, nI_add, nIm, nIn0, szl0, szl1, szl2, szl3, szl4, szl5, Nat.add_sub_assoc, Nat.add_zero, Nat.reduceSub, Nat.reduceAdd, Nat.reduceMul, Nat.reduceEqDiff,  jifT, bdS, sifN, sifS, omN, omS, cdI, x25, x26, x27, x28, x29, x30, x31, x32, xr0, xr1, xr2, xr3, xr4, xr5, if_pos, if_neg, true_and, and_true, false_and, and_false, and_self, Bool.and_true, if_true, if_false, reduceIte, cond_true, cond_false, not_true_eq_false, not_false_eq_true, x51, x52, x53, x54, x55, x56, x57, x58, x59, x60, x61, x62, x63, F_184, F_151, h3, o2, g1, g2, y1, y2, e1]
/-! what a receiver gets: all ways -/
theorem cx.pull (ht : 1000 < t) (h : cx φ D F N P S T A r d p f pc k m) (gc : gcR D S) (iq : iqR P A r False) (hW : A.2.2.2.2.2.1 + A.2.2.2.2.2.2 < 2147483648) (hk : k < 16) (hy : D y) {p1 z w c : Nat} (hc : chR φ D S T y p1 z w c) :
    plR φ D F N P S T A r d p f pc k m (F_99 G t (p1, 0) (nI (y + 2)) (p, 1) S) (F_183 G t (nI (φ y)) T) := by
  cases w with
  | zero =>
    cases hl : lw S A y 1 0 with
    | none => exact h.pullA ht gc iq hW hk hy hc hl
    | some s => exact h.pullB ht gc iq hW hk hy hc hl
  | succ w =>
    cases hl : lw S A y 1 0 with
    | none => exact h.pullC ht gc iq hW hk hy hc hl
    | some s => exact h.pullD ht gc iq hW hk hy hc hl
/-! tk operands of the running strand's frame are dropped: the context goes on -/
theorem cx.dr (h : cx φ D F N P S T A r d p f pc n m) (tk : Nat) : cx φ D F N P (siI S 29 p 1 2 (nI (n - tk))) (mpS T r d n tk) (aset A r 1 (d + 1) (fset (A.2.2.1 r) d (f, pc, n - tk, m, 0))) r d p f pc (n - tk) m ∧ hk S (siI S 29 p 1 2 (nI (n - tk))) := by
  have fr := h.fr
  obtain ⟨w0, w1, hr, a1, a2, a3, a4⟩ := h
  obtain ⟨v1, k1, _, _⟩ := w0.frm hr a1 a2 a3 (dr_ag S p (n - tk)) rfl (mp_ag T r d n tk) (mpS_2 _ _ _ _ _) (fr.pops tk)
  exact ⟨⟨v1, w1, hr, aset_1 _ _ _ _ _, aset_2 _ _ _ _ _, a3, by rw [aset_3, fset_at]⟩, k1.hk⟩
set_option maxHeartbeats 4000000 in
set_option linter.unusedSimpArgs false in
theorem i_29 (ht : 1000 < t) (h : cx φ D F N P S T A r d p f pc (k + 1) m) (gc : gcR D S) (iq : iqR P A r False) (hy : T.1 33 0 0 38 = nI 0) (hpc : pc < P.2.2.2.1 f) (hW : A.2.2.2.2.2.1 + A.2.2.2.2.2.2 < 2147483648) (hk2 : k + 2 ≤ 16) (a : Int32) : insY D F N P S T A r p G t 1 0 (X_29 G t r p a S) (W_29 G t r d a T) := by
  obtain ⟨hM, o1, o2, hn, hr, d2, d3⟩ := h.rd
  have hv := h.fr.2.2.2.1.2.2.2 k (by omega)
  have q0 := e_156 (G := G) (t := t) (k := 1) (by omega) hr d3 hn d2 o2 (by omega)
  have wt := h.1.2.2.2.2.2.2.1.1
  have a93 := f_93 (G := G) (t := t) (st := 3) (c := 0) hr wt.1
  have a177 := f_177 (G := G) (t := t) (st := 3) hr wt.2
  rcases h.ob hv with ⟨q, b1, b2, b3, b4, b5⟩ | ⟨x, b0, b1, b2, b3, b4, b5, b6, b7⟩
  · by_cases cq : q = 1
    · subst cq
      exact h.awt gc iq hy hpc (st := 3) (c := 0) (by omega) (fun z => by omega) (fun _ => by omega) (fun z => by omega) (x_29w hM o1 hn b2 a93) (w_29w hr d3 d2 o2 hn b3 a177)
    · obtain ⟨S', T', r1, r2, r3⟩ := h.panp (G := G) ht 1 (by omega) neg2.1 neg2.2 (x_29n (r := r) (a := a) hM o1 hn b2 (by omega) cq (f_87n b1))
      exact insR.y ⟨S', T', r1, w_29n hr d3 d2 o2 hn b3 (by omega) cq (f_170n b1) q0 r2, r3⟩ gc iq hr hy
  · obtain ⟨p1, kd, z, w, c, c1, c2, ⟨c3, c4, c5⟩, ⟨c6, c7, c8, c8'⟩, ⟨c9, c10, c11, c12⟩, ⟨c13, c14, c15⟩, c16, vv⟩ := b7
    have e3 : F_87 G t (nI (x + 2)) (nI 3) S = some (if kd = 3 then some (p1, 0) else none, S) := f_87o b1 c1 c2 c3 (by omega) (by omega)
    by_cases ck : kd = 3
    · subst ck
      rw [if_pos rfl] at e3
      have t2 := c10 rfl
      have hc : chR φ D S T x p1 z w c := ⟨c1, c2, ⟨c3, c4⟩, ⟨c6, c7, c8' rfl⟩, ⟨c9, t2, c11⟩, ⟨c13, c14, c15⟩, c16, vv⟩
      have lwM := h.1.lwM (G := G) (t := t) (y := x) (snd := 1) (by omega) b0 c4 (by omega) hW
      rw [show 1 - 1 = 0 from rfl] at lwM
      have lwC := h.1.lwC (G := G) (t := t) (y := x) (sn := 1) (rc := 0) (by omega) b1 (by omega) (by omega) hW
      have e176 := e176r (G := G) (t := t) (o := lw S A x 1 0) b2 c14 c15 t2 (by omega) (fun s hs => (h.1.lwS (t := t) (by omega) b1 (by omega) (by omega) hs).1) lwM
      have ecls := e95 (G := G) (t := t) (y := x) (o := lw S A x 1 0) c2 c9 (by omega) c13 c15 lwC
      have W1 : ∀ R, F_184_66 G t (r, 0) (nI 2) (nI (φ x)) T = R → W_29 G t r d a T = R.bind fun q => some ((), q.2) := fun R hR => w_29x hr d3 d2 o2 hn b4 b6 b2 c4 hR
      by_cases cc : 0 < w ∨ c = 1 ∨ lw S A x 1 0 ≠ none
      · rw [if_pos cc] at e176 ecls
        obtain ⟨h2, k2⟩ := h.dr 1
        have hc2 : chR φ D (siI S 29 p 1 2 (nI (k + 1 - 1))) (mpS T r d (k + 1) 1) x p1 z w c := hc.mv ((dr_ag _ _ _).mono (fun t i j q => by omega)) rfl ((mp_ag _ _ _ _ _).mono (fun t i j q => by omega))
        obtain ⟨S2, T1, A', fl, p1', p2', p3', p4', p5', p6', p7', p8', p9', p10', p11', p12'⟩ := h2.pull (G := G) ht (gc.keep k2) iq.set hW (by omega) b0 hc2
        obtain ⟨h5, k5⟩ := p5'.pu (x := (nI fl).toInt64) (v := (nI fl).toInt64) (g := nI 0) (kk := nI 0) (by omega) (Or.inl ⟨rfl, rfl, rfl⟩)
        have ec := x_29d (G := G) (t := t) (r := r) (a := a) (fl := fl) hM o1 hk2 b3 b1 e3 ecls p1' p5'.fr.1 p5'.fr.2.2.2.1.1
        have m1 := e_157 (G := G) (t := t) (T := T1) (s := r) (d := d) (n := k) (k := T1.1 33 0 0 35) (v := T1.2.1 33 0 0 37) hr d3 (by omega) p12' p11'
        have m36 : (mpu T1 r d k (T1.1 33 0 0 35) (T1.2.1 33 0 0 37)).1 33 0 0 36 = nI fl := by rw [(mu_ag _ _ _ _ _ _ 33 0 0 (by omega)).1]; exact p4'
        have m2 := e_157 (G := G) (t := t) (T := mpu T1 r d k (T1.1 33 0 0 35) (T1.2.1 33 0 0 37)) (s := r) (d := d) (n := k + 1) (k := nI 0) (v := (nI fl).toInt64) hr d3 (by omega) (by rw [(mpu_r _ _ _ _ _ _ 0).2.2.2]; exact p12') (mpu_r _ _ _ _ _ _ 0).2.2.1
        refine cx.done (A0 := A) h5 (p6'.keep k5) p7'.set hpc ?_ ?_ (fun u hu => (hu.same rfl).same (by show S2.2.2 = S.2.2; rw [p8']; rfl)) ec ?_
        · rw [(mu_ag _ _ _ _ _ _ 33 0 0 (by omega)).1, (mu_ag _ _ _ _ _ _ 33 0 0 (by omega)).1, p9', mpS_I _ _ _ _ (by omega) (by omega)]
          exact hy
        · show A'.2.2.2.2 = A.2.2.2.2
          rw [p10']
          rfl
        · refine W1 (some ((), _)) ?_
          clear h gc iq vv lwM W1 hv wt a93 h2 p5' p6' p7' h5 hc hc2 ec lwC ecls
          unfold F_184_66
          simp (disch := first | assumption | omega) only [gI, gI2, gL, gL1, gL2, jcLT, jcGE, jcGT, jcLE, jcEQ, jcNE, dEQ, nIt, lgNE, lgEQ, lgGE, lgLT, lgGT, lgLE, jinT, nIc, nI0, nI1, nIo, nIs, nI_add, nIm, nIn0, szl0, szl1, szl2, szl3, szl4, szl5, Nat.add_sub_assoc, Nat.add_zero, Nat.reduceSub, Nat.reduceAdd, Nat.reduceMul, Nat.reduceEqDiff,  jifT, bdS, sifN, sifS, omN, omS, cdI, x25, x26, x27, x28, x29, x30, x31, x32, xr0, xr1, xr2, xr3, xr4, xr5, if_pos, if_neg, true_and, and_true, false_and, and_false, and_self, Bool.and_true, if_true, if_false, reduceIte, cond_true, cond_false, not_true_eq_false, not_false_eq_true, x51, x52, x53, x54, x55, x56, x57, x58, x59, x60, x61, x62, x63, e176, q0, p3', m1, m36, m2]
          rfl
      · rw [if_neg cc] at e176 ecls
        refine h.awt gc iq hy hpc (st := 3) (c := 0) (by omega) (fun z => by omega) (fun _ => by omega) (fun z => by omega) (x_29e hM o1 hn b3 b1 e3 ecls a93) ?_
        refine W1 (some ((), awT T r 3 (A.2.2.2.2.2.1 + A.2.2.2.2.2.2))) ?_
        clear h gc iq vv lwM W1 hv wt a93 hc lwC ecls
        unfold F_184_66
        simp (disch := first | assumption | omega) only [gI, gI2, gL, gL1, gL2, jcLT, jcGE, jcGT, jcLE, jcEQ, jcNE, dEQ, nIt, lgNE, lgEQ, lgGE, lgLT, lgGT, lgLE, jinT, nIc, nI0, nI1, nIo, nIs, nI_add, nIm, nIn0, szl0, szl1, szl2, szl3, szl4, szl5, Nat.add_sub_assoc, Nat.add_zero, Nat.reduceSub, Nat.reduceAdd, Nat.reduceMul, Nat.reduceEqDiff,  jifT, bdS, sifN, sifS, omN, omS, cdI, x25, x26, x27, x28, x29, x30, x31, x32, xr0, xr1, xr2, xr3, xr4, xr5, if_pos, if_neg, true_and, and_true, false_and, and_false, and_self, Bool.and_true, if_true, if_false, reduceIte, cond_true, cond_false, not_true_eq_false, not_false_eq_true, x51, x52, x53, x54, x55, x56, x57, x58, x59, x60, x61, x62, x63, e176, F_184_81, a177]
    · rw [if_neg ck] at e3
      obtain ⟨S', T', r1, r2, r3⟩ := h.panp (G := G) ht 1 (by omega) neg2.1 neg2.2 (x_29n (r := r) (a := a) hM o1 hn b3 (by omega) (by omega) e3)
      refine insR.y ⟨S', T', r1, w_29n hr d3 d2 o2 hn b4 (by omega) (by omega) ?_ q0 r2, r3⟩ gc iq hr hy
      have e170 := f_170o (G := G) (t := t) (ty := 3) b2 c4 (by omega) (by omega)
      rw [if_neg ck] at e170
      rw [b6, ofN32 (by omega), l64 (by omega)]
      exact e170
end RCV
