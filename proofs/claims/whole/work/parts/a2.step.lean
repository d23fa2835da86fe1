/-! A step: before and after the instruction. -/
section STR
variable {φ φ' : Nat → Nat} {D D' : Nat → Prop} {F N : Nat} {P : aP} {S S' T T' T1 : sS} {A : aS} {r s d p f pc n m e b k y g q o : Nat} {G : jG} {t j : Nat} {a : Int32}
theorem st_all (hG : gG G) (ht : 2000 < t) (h : stC φ D F N P S T A r d p f q n m) (ha : P.2.2.2.2.2 (P.2.2.1 f + q) = a) (h36 : o ≤ 36) (ho : P.2.2.2.2.1 (P.2.2.1 f + q) = o) : stQ D F N P S T A r d p n G t o a := by
  match o, h36, ho with
  | 0, _, ho => exact st_0 hG ht h ho ha
  | 1, _, ho => exact st_1 hG ht h ho ha
  | 2, _, ho => exact st_2 hG ht h ho ha
  | 3, _, ho => exact st_3 hG ht h ho ha
  | 4, _, ho => exact st_4 hG ht h ho ha
  | 5, _, ho => exact st_5 hG ht h ho ha
  | 6, _, ho => exact st_6 hG ht h ho ha
  | 7, _, ho => exact st_7 hG ht h ho ha
  | 8, _, ho => exact st_8 hG ht h ho ha
  | 9, _, ho => exact st_9 hG ht h ho ha
  | 10, _, ho => exact st_10 hG ht h ho ha
  | 11, _, ho => exact st_11 hG ht h ho ha
  | 12, _, ho => exact st_12 hG ht h ho ha
  | 13, _, ho => exact st_13 hG ht h ho ha
  | 14, _, ho => exact st_14 hG ht h ho ha
  | 15, _, ho => exact st_15 hG ht h ho ha
  | 16, _, ho => exact st_16 hG ht h ho ha
  | 17, _, ho => exact st_17 hG ht h ho ha
  | 18, _, ho => exact st_18 hG ht h ho ha
  | 19, _, ho => exact st_19 hG ht h ho ha
  | 20, _, ho => exact st_20 hG ht h ho ha
  | 21, _, ho => exact st_21 hG ht h ho ha
  | 22, _, ho => exact st_22 hG ht h ho ha
  | 23, _, ho => exact st_23 hG ht h ho ha
  | 24, _, ho => exact st_24 hG ht h ho ha
  | 25, _, ho => exact st_25 hG ht h ho ha
  | 26, _, ho => exact st_26 hG ht h ho ha
  | 27, _, ho => exact st_27 hG ht h ho ha
  | 28, _, ho => exact st_28 hG ht h ho ha
  | 29, _, ho => exact st_29 hG ht h ho ha
  | 30, _, ho => exact st_30 hG ht h ho ha
  | 31, _, ho => exact st_31 hG ht h ho ha
  | 32, _, ho => exact st_32 hG ht h ho ha
  | 33, _, ho => exact st_33 hG ht h ho ha
  | 34, _, ho => exact st_34 hG ht h ho ha
  | 35, _, ho => exact st_35 hG ht h ho ha
  | 36, _, ho => exact st_36 hG ht h ho ha
  | n + 37, h, _ => omega
/-! numbers alone change -/
theorem wR.sca (h : wR φ D F N P S T A) (aS : agr (fun t i j => t = 8 ∨ t = 23) S S') (hX : S'.2.2 = S.2.2) (h8 : ∀ k, k = 3 ∨ k = 4 ∨ k = 8 → S'.1 8 0 0 k = S.1 8 0 0 k) (h23 : ∀ k, k = 5 ∨ k = 6 → S'.1 23 0 0 k = S.1 23 0 0 k)
    (aT : agr (fun t i j => t = 33) T T') (hT : ∀ k, k = 13 ∨ k = 14 ∨ k = 15 ∨ k = 24 → T'.1 33 0 0 k = T.1 33 0 0 k) (hL : T'.2.1 33 0 0 28 = T.2.1 33 0 0 28) (sc : scaR S' T') : wR φ D F N P S' T' A ∧ hk S S' :=
  h.wld (Q := A.2.2.2.1) (aS.mono (fun t i j z => by omega)) hX (aT.mono (fun t i j z => by omega)) ⟨hT 13 (by omega), hT 14 (by omega)⟩ (h.2.2.1.keep (fun t x y => aS t 0 5 (by omega)) ⟨(aT 36 0 0 (by omega)).1, (aT 43 0 0 (by omega)).2⟩)
    (h.2.2.2.2.2.1.keep ⟨h8 3 (by omega), h8 4 (by omega), (aS 10 0 0 (by omega)).1⟩ ⟨hT 15 (by omega), (aT 45 0 0 (by omega)).1⟩) ⟨h8 8 (by omega), hL⟩ sc (h.2.2.2.2.2.2.2.2.1.keep ⟨h23 5 (by omega), h23 6 (by omega), (aS 24 0 0 (by omega)).2⟩ ⟨hT 24 (by omega), (aT 44 0 0 (by omega)).2⟩)
/-! the strands run, r now -/
def runR (φ : Nat → Nat) (D : Nat → Prop) (F N : Nat) (P : aP) (S T : sS) (A : aS) (r : Nat) : Prop := wR φ D F N P S T A ∧ gcR D S ∧ iqR P A r True ∧ (whR F P ∧ whS F P) ∧ r < 16 ∧ A.1 r = 1 ∧ S.1 8 0 0 5 = nI r ∧ S.1 23 0 0 7 = nI 1 ∧ A.1 0 < 5
def skS (S : sS) (p q : Nat) : sS := siI (siI (siI S 27 p 0 6 (nI (q + 1))) 23 0 0 8 (S.1 23 0 0 8 + nI 1)) 8 0 0 6 (S.1 8 0 0 6 + nI 1)
def skT (T : sS) (r d q : Nat) : sS := siI (siI (siI (siI T 56 r d 1 (nI (q + 1))) 33 0 0 21 (T.1 33 0 0 21 + nI 1)) 33 0 0 20 (T.1 33 0 0 20 + nI 1)) 33 0 0 38 (nI 0)
set_option maxHeartbeats 4000000 in
set_option linter.unusedSimpArgs false in
theorem runR.tak (R : runR φ D F N P S T A r) (hW : A.2.2.2.2.2.1 + A.2.2.2.2.2.2 < 2147483648) : ∃ d p f q n m, A.2.1 r = d + 1 ∧ S.2.2.1.1 r d = some p ∧ A.2.2.1 r d = (f, q, n, m, 0) ∧ frR φ D F P S p T r d f q n m 0 (dfb (A.2.2.1 r) d) ∧ stC φ D F N P (skS S p q) (skT T r d q) (aset A r 1 (d + 1) (fset (A.2.2.1 r) d (f, q + 1, n, m, 0))) r d p f q n m := by
  obtain ⟨w, gc, iq, ⟨wh, ws⟩, hr, h1, h5, h7, h0⟩ := R
  have st := w.2.1 r hr
  rw [h1] at st
  obtain ⟨d, hd⟩ : ∃ d, A.2.1 r = d + 1 := ⟨A.2.1 r - 1, by
    have : A.2.1 r ≠ 0 := fun z => by
      have := st.2.2.2.1.mp z
      omega
    omega⟩
  rw [hd] at st
  obtain ⟨p, hp, fr⟩ := st.fr (d := d) (by omega)
  have tp := iq.1 r hr (Or.inr trivial) d hd
  have hd30 : d < 30 := by have := st.2.2.1.2.2; omega
  obtain ⟨f, q, n, m, e, hf⟩ : ∃ f q n m e, A.2.2.1 r d = (f, q, n, m, e) := ⟨_, _, _, _, _, rfl⟩
  rw [hf] at tp fr
  obtain ⟨te, tq⟩ := tp
  dsimp only at te tq fr
  subst te
  refine ⟨d, p, f, q, n, m, hd, hp, hf, fr, ?_⟩
  have fr1 : frR φ D F P (siI S 27 p 0 6 (nI (q + 1))) p (siI T 56 r d 1 (nI (q + 1))) r d f (q + 1) n m 0 (dfb (A.2.2.1 r) d) := by
    clear w gc iq wh ws st
    obtain ⟨hM, ⟨f1, f2, f3⟩, ⟨p1, p2, p3⟩, ⟨o1, o2, o3, o4⟩, ⟨d1, d2, d3, d4⟩, ⟨l1, l2⟩, ⟨e1, e2, e3, e4, e5⟩⟩ := fr
    refine ⟨hM, ⟨?_, ?_, f3⟩, ⟨?_, ?_, by omega⟩, ⟨?_, ?_, o3, fun i hi => ?_⟩, ⟨?_, ?_, d3, fun i hi => ?_⟩, ⟨?_, fun i hi => ?_⟩, ⟨?_, ?_, ?_, e4, ?_⟩⟩
    · simp (disch := first | assumption | omega) only [gI, gI2, gL, gL1, gL2, jcLT, jcGE, jcGT, jcLE, jcEQ, jcNE, dEQ, nIt, lgNE, lgEQ, lgGE, lgLT, lgGT, lgLE, jinT, nIc, nI0, nI1, nIo, nIs, nI_add, nIm, nIn0, szl0, szl1, szl2, szl3, szl4, szl5, Nat.add_sub_assoc, Nat.add_zero, Nat.reduceSub, Nat.reduceAdd, Nat.reduceMul, Nat.reduceEqDiff,  jifT, bdS, sifN, sifS, omN, omS, cdI, x25, x26, x27, x28, x29, x30, x31, x32, xr0, xr1, xr2, xr3, xr4, xr5, if_pos, if_neg, true_and, and_true, false_and, and_false, and_self, Bool.and_true, if_true, if_false, reduceIte, cond_true, cond_false, not_true_eq_false, not_false_eq_true, f1]
    · simp (disch := first | assumption | omega) only [gI, gI2, gL, gL1, gL2, jcLT, jcGE, jcGT, jcLE, jcEQ, jcNE, dEQ, nIt, lgNE, lgEQ, lgGE, lgLT, lgGT, lgLE, jinT, nIc, nI0, nI1, nIo, nIs, nI_add, nIm, nIn0, szl0, szl1, szl2, szl3, szl4, szl5, Nat.add_sub_assoc, Nat.add_zero, Nat.reduceSub, Nat.reduceAdd, Nat.reduceMul, Nat.reduceEqDiff,  jifT, bdS, sifN, sifS, omN, omS, cdI, x25, x26, x27, x28, x29, x30, x31, x32, xr0, xr1, xr2, xr3, xr4, xr5, if_pos, if_neg, true_and, and_true, false_and, and_false, and_self, Bool.and_true, if_true, if_false, reduceIte, cond_true, cond_false, not_true_eq_false, not_false_eq_true, f2]
    · simp (disch := first | assumption | omega) only [gI, gI2, gL, gL1, gL2, jcLT, jcGE, jcGT, jcLE, jcEQ, jcNE, dEQ, nIt, lgNE, lgEQ, lgGE, lgLT, lgGT, lgLE, jinT, nIc, nI0, nI1, nIo, nIs, nI_add, nIm, nIn0, szl0, szl1, szl2, szl3, szl4, szl5, Nat.add_sub_assoc, Nat.add_zero, Nat.reduceSub, Nat.reduceAdd, Nat.reduceMul, Nat.reduceEqDiff,  jifT, bdS, sifN, sifS, omN, omS, cdI, x25, x26, x27, x28, x29, x30, x31, x32, xr0, xr1, xr2, xr3, xr4, xr5, if_pos, if_neg, true_and, and_true, false_and, and_false, and_self, Bool.and_true, if_true, if_false, reduceIte, cond_true, cond_false, not_true_eq_false, not_false_eq_true]
    · simp (disch := first | assumption | omega) only [gI, gI2, gL, gL1, gL2, jcLT, jcGE, jcGT, jcLE, jcEQ, jcNE, dEQ, nIt, lgNE, lgEQ, lgGE, lgLT, lgGT, lgLE, jinT, nIc, nI0, nI1, nIo, nIs, nI_add, nIm, nIn0, szl0, szl1, szl2, szl3, szl4, szl5, Nat.add_sub_assoc, Nat.add_zero, Nat.reduceSub, Nat.reduceAdd, Nat.reduceMul, Nat.reduceEqDiff,  jifT, bdS, sifN, sifS, omN, omS, cdI, x25, x26, x27, x28, x29, x30, x31, x32, xr0, xr1, xr2, xr3, xr4, xr5, if_pos, if_neg, true_and, and_true, false_and, and_false, and_self, Bool.and_true, if_true, if_false, reduceIte, cond_true, cond_false, not_true_eq_false, not_false_eq_true]
    · simp (disch := first | assumption | omega) only [gI, gI2, gL, gL1, gL2, jcLT, jcGE, jcGT, jcLE, jcEQ, jcNE, dEQ, nIt, lgNE, lgEQ, lgGE, lgLT, lgGT, lgLE, jinT, nIc, nI0, nI1, nIo, nIs, nI_add, nIm, nIn0, szl0, szl1, szl2, szl3, szl4, szl5, Nat.add_sub_assoc, Nat.add_zero, Nat.reduceSub, Nat.reduceAdd, Nat.reduceMul, Nat.reduceEqDiff,  jifT, bdS, sifN, sifS, omN, omS, cdI, x25, x26, x27, x28, x29, x30, x31, x32, xr0, xr1, xr2, xr3, xr4, xr5, if_pos, if_neg, true_and, and_true, false_and, and_false, and_self, Bool.and_true, if_true, if_false, reduceIte, cond_true, cond_false, not_true_eq_false, not_false_eq_true, o1]
    · simp (disch := first | assumption | omega) only [gI, gI2, gL, gL1, gL2, jcLT, jcGE, jcGT, jcLE, jcEQ, jcNE, dEQ, nIt, lgNE, lgEQ, lgGE, lgLT, lgGT, lgLE, jinT, nIc, nI0, nI1, nIo, nIs, nI_add, nIm, nIn0, szl0, szl1, szl2, szl3, szl4, szl5, Nat.add_sub_assoc, Nat.add_zero, Nat.reduceSub, Nat.reduceAdd, Nat.reduceMul, Nat.reduceEqDiff,  jifT, bdS, sifN, sifS, omN, omS, cdI, x25, x26, x27, x28, x29, x30, x31, x32, xr0, xr1, xr2, xr3, xr4, xr5, if_pos, if_neg, true_and, and_true, false_and, and_false, and_self, Bool.and_true, if_true, if_false, reduceIte, cond_true, cond_false, not_true_eq_false, not_false_eq_true, o2]
    · have := o4 i hi
      simp (disch := first | assumption | omega) only [gI, gI2, gL, gL1, gL2, jcLT, jcGE, jcGT, jcLE, jcEQ, jcNE, dEQ, nIt, lgNE, lgEQ, lgGE, lgLT, lgGT, lgLE, jinT, nIc, nI0, nI1, nIo, nIs, nI_add, nIm, nIn0, szl0, szl1, szl2, szl3, szl4, szl5, Nat.add_sub_assoc, Nat.add_zero, Nat.reduceSub, Nat.reduceAdd, Nat.reduceMul, Nat.reduceEqDiff,  jifT, bdS, sifN, sifS, omN, omS, cdI, x25, x26, x27, x28, x29, x30, x31, x32, xr0, xr1, xr2, xr3, xr4, xr5, if_pos, if_neg, true_and, and_true, false_and, and_false, and_self, Bool.and_true, if_true, if_false, reduceIte, cond_true, cond_false, not_true_eq_false, not_false_eq_true]
      exact this
    · simp (disch := first | assumption | omega) only [gI, gI2, gL, gL1, gL2, jcLT, jcGE, jcGT, jcLE, jcEQ, jcNE, dEQ, nIt, lgNE, lgEQ, lgGE, lgLT, lgGT, lgLE, jinT, nIc, nI0, nI1, nIo, nIs, nI_add, nIm, nIn0, szl0, szl1, szl2, szl3, szl4, szl5, Nat.add_sub_assoc, Nat.add_zero, Nat.reduceSub, Nat.reduceAdd, Nat.reduceMul, Nat.reduceEqDiff,  jifT, bdS, sifN, sifS, omN, omS, cdI, x25, x26, x27, x28, x29, x30, x31, x32, xr0, xr1, xr2, xr3, xr4, xr5, if_pos, if_neg, true_and, and_true, false_and, and_false, and_self, Bool.and_true, if_true, if_false, reduceIte, cond_true, cond_false, not_true_eq_false, not_false_eq_true, d1]
    · simp (disch := first | assumption | omega) only [gI, gI2, gL, gL1, gL2, jcLT, jcGE, jcGT, jcLE, jcEQ, jcNE, dEQ, nIt, lgNE, lgEQ, lgGE, lgLT, lgGT, lgLE, jinT, nIc, nI0, nI1, nIo, nIs, nI_add, nIm, nIn0, szl0, szl1, szl2, szl3, szl4, szl5, Nat.add_sub_assoc, Nat.add_zero, Nat.reduceSub, Nat.reduceAdd, Nat.reduceMul, Nat.reduceEqDiff,  jifT, bdS, sifN, sifS, omN, omS, cdI, x25, x26, x27, x28, x29, x30, x31, x32, xr0, xr1, xr2, xr3, xr4, xr5, if_pos, if_neg, true_and, and_true, false_and, and_false, and_self, Bool.and_true, if_true, if_false, reduceIte, cond_true, cond_false, not_true_eq_false, not_false_eq_true, d2]
    · have := d4 i hi
      simp (disch := first | assumption | omega) only [gI, gI2, gL, gL1, gL2, jcLT, jcGE, jcGT, jcLE, jcEQ, jcNE, dEQ, nIt, lgNE, lgEQ, lgGE, lgLT, lgGT, lgLE, jinT, nIc, nI0, nI1, nIo, nIs, nI_add, nIm, nIn0, szl0, szl1, szl2, szl3, szl4, szl5, Nat.add_sub_assoc, Nat.add_zero, Nat.reduceSub, Nat.reduceAdd, Nat.reduceMul, Nat.reduceEqDiff,  jifT, bdS, sifN, sifS, omN, omS, cdI, x25, x26, x27, x28, x29, x30, x31, x32, xr0, xr1, xr2, xr3, xr4, xr5, if_pos, if_neg, true_and, and_true, false_and, and_false, and_self, Bool.and_true, if_true, if_false, reduceIte, cond_true, cond_false, not_true_eq_false, not_false_eq_true]
      exact this
    · simp (disch := first | assumption | omega) only [gI, gI2, gL, gL1, gL2, jcLT, jcGE, jcGT, jcLE, jcEQ, jcNE, dEQ, nIt, lgNE, lgEQ, lgGE, lgLT, lgGT, lgLE, jinT, nIc, nI0, nI1, nIo, nIs, nI_add, nIm, nIn0, szl0, szl1, szl2, szl3, szl4, szl5, Nat.add_sub_assoc, Nat.add_zero, Nat.reduceSub, Nat.reduceAdd, Nat.reduceMul, Nat.reduceEqDiff,  jifT, bdS, sifN, sifS, omN, omS, cdI, x25, x26, x27, x28, x29, x30, x31, x32, xr0, xr1, xr2, xr3, xr4, xr5, if_pos, if_neg, true_and, and_true, false_and, and_false, and_self, Bool.and_true, if_true, if_false, reduceIte, cond_true, cond_false, not_true_eq_false, not_false_eq_true, l1]
    · have := l2 i hi
      simp (disch := first | assumption | omega) only [gI, gI2, gL, gL1, gL2, jcLT, jcGE, jcGT, jcLE, jcEQ, jcNE, dEQ, nIt, lgNE, lgEQ, lgGE, lgLT, lgGT, lgLE, jinT, nIc, nI0, nI1, nIo, nIs, nI_add, nIm, nIn0, szl0, szl1, szl2, szl3, szl4, szl5, Nat.add_sub_assoc, Nat.add_zero, Nat.reduceSub, Nat.reduceAdd, Nat.reduceMul, Nat.reduceEqDiff,  jifT, bdS, sifN, sifS, omN, omS, cdI, x25, x26, x27, x28, x29, x30, x31, x32, xr0, xr1, xr2, xr3, xr4, xr5, if_pos, if_neg, true_and, and_true, false_and, and_false, and_self, Bool.and_true, if_true, if_false, reduceIte, cond_true, cond_false, not_true_eq_false, not_false_eq_true]
      exact this
    · simp (disch := first | assumption | omega) only [gI, gI2, gL, gL1, gL2, jcLT, jcGE, jcGT, jcLE, jcEQ, jcNE, dEQ, nIt, lgNE, lgEQ, lgGE, lgLT, lgGT, lgLE, jinT, nIc, nI0, nI1, nIo, nIs, nI_add, nIm, nIn0, szl0, szl1, szl2, szl3, szl4, szl5, Nat.add_sub_assoc, Nat.add_zero, Nat.reduceSub, Nat.reduceAdd, Nat.reduceMul, Nat.reduceEqDiff,  jifT, bdS, sifN, sifS, omN, omS, cdI, x25, x26, x27, x28, x29, x30, x31, x32, xr0, xr1, xr2, xr3, xr4, xr5, if_pos, if_neg, true_and, and_true, false_and, and_false, and_self, Bool.and_true, if_true, if_false, reduceIte, cond_true, cond_false, not_true_eq_false, not_false_eq_true, e1]
    · simp (disch := first | assumption | omega) only [gI, gI2, gL, gL1, gL2, jcLT, jcGE, jcGT, jcLE, jcEQ, jcNE, dEQ, nIt, lgNE, lgEQ, lgGE, lgLT, lgGT, lgLE, jinT, nIc, nI0, nI1, nIo, nIs, nI_add, nIm, nIn0, szl0, szl1, szl2, szl3, szl4, szl5, Nat.add_sub_assoc, Nat.add_zero, Nat.reduceSub, Nat.reduceAdd, Nat.reduceMul, Nat.reduceEqDiff,  jifT, bdS, sifN, sifS, omN, omS, cdI, x25, x26, x27, x28, x29, x30, x31, x32, xr0, xr1, xr2, xr3, xr4, xr5, if_pos, if_neg, true_and, and_true, false_and, and_false, and_self, Bool.and_true, if_true, if_false, reduceIte, cond_true, cond_false, not_true_eq_false, not_false_eq_true, e2]
    · simp (disch := first | assumption | omega) only [gI, gI2, gL, gL1, gL2, jcLT, jcGE, jcGT, jcLE, jcEQ, jcNE, dEQ, nIt, lgNE, lgEQ, lgGE, lgLT, lgGT, lgLE, jinT, nIc, nI0, nI1, nIo, nIs, nI_add, nIm, nIn0, szl0, szl1, szl2, szl3, szl4, szl5, Nat.add_sub_assoc, Nat.add_zero, Nat.reduceSub, Nat.reduceAdd, Nat.reduceMul, Nat.reduceEqDiff,  jifT, bdS, sifN, sifS, omN, omS, cdI, x25, x26, x27, x28, x29, x30, x31, x32, xr0, xr1, xr2, xr3, xr4, xr5, if_pos, if_neg, true_and, and_true, false_and, and_false, and_self, Bool.and_true, if_true, if_false, reduceIte, cond_true, cond_false, not_true_eq_false, not_false_eq_true, e3]
    · rcases e5 with z | z | z
      · refine Or.inl ⟨rfl, ?_⟩
        have z2 := z.2
        simp (disch := first | assumption | omega) only [gI, gI2, gL, gL1, gL2, jcLT, jcGE, jcGT, jcLE, jcEQ, jcNE, dEQ, nIt, lgNE, lgEQ, lgGE, lgLT, lgGT, lgLE, jinT, nIc, nI0, nI1, nIo, nIs, nI_add, nIm, nIn0, szl0, szl1, szl2, szl3, szl4, szl5, Nat.add_sub_assoc, Nat.add_zero, Nat.reduceSub, Nat.reduceAdd, Nat.reduceMul, Nat.reduceEqDiff,  jifT, bdS, sifN, sifS, omN, omS, cdI, x25, x26, x27, x28, x29, x30, x31, x32, xr0, xr1, xr2, xr3, xr4, xr5, if_pos, if_neg, true_and, and_true, false_and, and_false, and_self, Bool.and_true, if_true, if_false, reduceIte, cond_true, cond_false, not_true_eq_false, not_false_eq_true]
        exact z2
      · exact absurd z.1 (by omega)
      · exact absurd z.1 (by omega)
  obtain ⟨w1, k1, m1, ow1⟩ := w.frm hr h1 hd hp (agr.i (agr.refl _ _) _ _ (by omega)) rfl (agr.i (agr.refl _ _) _ _ (by omega)) rfl fr1
  have sc := w.2.2.2.2.2.2.2.1
  have aS : agr (fun t i j => t = 8 ∨ t = 23) (siI S 27 p 0 6 (nI (q + 1))) (skS S p q) := agr.i (agr.i (agr.refl _ _) _ _ (by omega)) _ _ (by omega)
  have aT : agr (fun t i j => t = 33) (siI T 56 r d 1 (nI (q + 1))) (skT T r d q) := agr.i (agr.i (agr.i (agr.refl _ _) _ _ (by omega)) _ _ (by omega)) _ _ (by omega)
  have s8 : ∀ k, (skS S p q).1 8 0 0 k = if k = 6 then S.1 8 0 0 6 + nI 1 else S.1 8 0 0 k := fun k => by
    unfold skS
    simp [gI]
  have s23 : ∀ k, (skS S p q).1 23 0 0 k = if k = 8 then S.1 23 0 0 8 + nI 1 else S.1 23 0 0 k := fun k => by
    unfold skS
    simp [gI]
  have t33 : ∀ k, (skT T r d q).1 33 0 0 k = if k = 38 then nI 0 else if k = 20 then T.1 33 0 0 20 + nI 1 else if k = 21 then T.1 33 0 0 21 + nI 1 else T.1 33 0 0 k := fun k => by
    unfold skT
    simp [gI]
  have s11 : (skS S p q).1 11 0 0 = S.1 11 0 0 := by
    unfold skS
    rw [siI_ne _ _ _ (by omega), siI_ne _ _ _ (by omega), siI_ne _ _ _ (by omega)]
  obtain ⟨w2, k2⟩ := w1.sca (S' := skS S p q) (T' := skT T r d q) aS rfl (fun k hk => by
    rw [s8, if_neg (by omega), siI_ne _ _ _ (by omega)]) (fun k hk => by
    rw [s23, if_neg (by omega), siI_ne _ _ _ (by omega)]) aT (fun k hk => by
    rw [t33, if_neg (by omega), if_neg (by omega), if_neg (by omega), siI_ne _ _ _ (by omega)]) rfl (by
    obtain ⟨c1, c2, c3, c4, c5, c6, c7, c8⟩ := sc
    unfold scaR
    rw [s8, s8, s8, s23, s23, s23, s23, t33, t33, t33, t33, t33, t33, t33, t33, s11]
    simp only [Nat.reduceEqDiff, if_false, if_true]
    exact ⟨c1, by rw [c2], c3, c4, by rw [c5], c6, c7, c8⟩)
  refine ⟨⟨w2, wh, hr, aset_1 _ _ _ _ _, aset_2 _ _ _ _ _, hp, ?_⟩, (gc.keep k1.hk).keep k2, ?_, ?_, fr.2.1.2.2, tq, hW, ws⟩
  · rw [aset_3, fset_at]
  · obtain ⟨q1, q2, q3, q9⟩ := iq
    refine ⟨fun s hs z => ?_, q2, fun s => ?_, ?_⟩
    · rcases z with z | z
      · rw [aset_2n _ _ _ _ z, aset_3n _ _ _ _ z]
        exact q1 s hs (Or.inl z)
      · exact absurd z id
    · by_cases c : s = r
      · subst c
        exact ⟨fun z => absurd rfl ((q3 s).mp z).2.2, fun z => absurd rfl z.2.2⟩
      · rw [aset_1n _ _ _ _ c]
        exact q3 s
    · by_cases c : 0 = r
      · subst c
        rw [aset_1]
        omega
      · rw [aset_1n _ _ _ _ c]
        exact q9
  · rw [t33, if_pos rfl]
end STR
