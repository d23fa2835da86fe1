/-! SPAWN. -/
theorem siI_idem (S : sS) (t i j k : Nat) (x y : Int32) : siI (siI S t i j k x) t i j k y = siI S t i j k y := by
  refine Prod.ext (funext fun a => funext fun b => funext fun c => funext fun q => ?_) rfl
  rw [gI, gI, gI]
  by_cases h : a = t ∧ b = i ∧ c = j ∧ q = k
  · rw [if_pos h, if_pos h]
  · rw [if_neg h, if_neg h, if_neg h]
section SPW
variable {φ : Nat → Nat} {D : Nat → Prop} {F N : Nat} {P : aP} {S S' T T' : sS} {A : aS} {r d p f pc n m e b k : Nat} {G : jG} {t : Nat}
set_option maxHeartbeats 4000000 in
set_option linter.unusedSimpArgs false in
theorem f_22 {s st : Nat} (hs : s < 16) (h : S.1 25 s 0 4 = nI st) (hst : st ≤ 6) : F_22 G t (s, 0) S = some (nI (if st = 0 ∨ 5 ≤ st then 0 else 1), S) := by
  unfold F_22
  by_cases c : st = 0
  · subst c
    simp (disch := first | assumption | omega) only [gI, gI2, gL, gL1, gL2, jcLT, jcGE, jcGT, jcLE, jcEQ, jcNE, dEQ, nIt, lgNE, lgEQ, lgGE, lgLT, lgGT, lgLE, jinT, nIc, nI0, nI1, nIo, nIs, nI_add, nIm, nIn0, szl0, szl1, szl2, szl3, szl4, szl5, Nat.add_sub_assoc, Nat.add_zero, Nat.reduceSub, Nat.reduceAdd, Nat.reduceMul, Nat.reduceEqDiff,  jifT, bdS, sifN, sifS, omN, omS, cdI, x25, x26, x27, x28, x29, x30, x31, x32, xr0, xr1, xr2, xr3, xr4, xr5, if_pos, if_neg, true_and, and_true, false_and, and_false, and_self, Bool.and_true, if_true, if_false, reduceIte, cond_true, cond_false, not_true_eq_false, not_false_eq_true, h]
    rfl
  · by_cases c5 : st = 5
    · subst c5
      simp (disch := first | assumption | omega) only [gI, gI2, gL, gL1, gL2, jcLT, jcGE, jcGT, jcLE, jcEQ, jcNE, dEQ, nIt, lgNE, lgEQ, lgGE, lgLT, lgGT, lgLE, jinT, nIc, nI0, nI1, nIo, nIs, nI_add, nIm, nIn0, szl0, szl1, szl2, szl3, szl4, szl5, Nat.add_sub_assoc, Nat.add_zero, Nat.reduceSub, Nat.reduceAdd, Nat.reduceMul, Nat.reduceEqDiff,  jifT, bdS, sifN, sifS, omN, omS, cdI, x25, x26, x27, x28, x29, x30, x31, x32, xr0, xr1, xr2, xr3, xr4, xr5, if_pos, if_neg, true_and, and_true, false_and, and_false, and_self, Bool.and_true, if_true, if_false, reduceIte, cond_true, cond_false, not_true_eq_false, not_false_eq_true, h]
    · by_cases c6 : st = 6
      · subst c6
        simp (disch := first | assumption | omega) only [gI, gI2, gL, gL1, gL2, jcLT, jcGE, jcGT, jcLE, jcEQ, jcNE, dEQ, nIt, lgNE, lgEQ, lgGE, lgLT, lgGT, lgLE, jinT, nIc, nI0, nI1, nIo, nIs, nI_add, nIm, nIn0, szl0, szl1, szl2, szl3, szl4, szl5, Nat.add_sub_assoc, Nat.add_zero, Nat.reduceSub, Nat.reduceAdd, Nat.reduceMul, Nat.reduceEqDiff,  jifT, bdS, sifN, sifS, omN, omS, cdI, x25, x26, x27, x28, x29, x30, x31, x32, xr0, xr1, xr2, xr3, xr4, xr5, if_pos, if_neg, true_and, and_true, false_and, and_false, and_self, Bool.and_true, if_true, if_false, reduceIte, cond_true, cond_false, not_true_eq_false, not_false_eq_true, h]
      · rw [if_neg (by omega)]
        simp (disch := first | assumption | omega) only [gI, gI2, gL, gL1, gL2, jcLT, jcGE, jcGT, jcLE, jcEQ, jcNE, dEQ, nIt, lgNE, lgEQ, lgGE, lgLT, lgGT, lgLE, jinT, nIc, nI0, nI1, nIo, nIs, nI_add, nIm, nIn0, szl0, szl1, szl2, szl3, szl4, szl5, Nat.add_sub_assoc, Nat.add_zero, Nat.reduceSub, Nat.reduceAdd, Nat.reduceMul, Nat.reduceEqDiff,  jifT, bdS, sifN, sifS, omN, omS, cdI, x25, x26, x27, x28, x29, x30, x31, x32, xr0, xr1, xr2, xr3, xr4, xr5, if_pos, if_neg, true_and, and_true, false_and, and_false, and_self, Bool.and_true, if_true, if_false, reduceIte, cond_true, cond_false, not_true_eq_false, not_false_eq_true, h]
/-! the first strand that is not there -/
def fst0 (st : Nat → Nat) (s : Nat) : Prop := (st s = 0 ∨ 5 ≤ st s) ∧ ∀ y, y < s → ¬ (st y = 0 ∨ 5 ≤ st y)
theorem fst_or (st : Nat → Nat) : ∀ n, (∃ s, s < n ∧ fst0 st s) ∨ ∀ y, y < n → ¬ (st y = 0 ∨ 5 ≤ st y) := by
  intro n
  induction n with
  | zero => exact Or.inr fun y h => by omega
  | succ n ih =>
    rcases ih with ⟨s, h1, h2⟩ | h
    · exact Or.inl ⟨s, by omega, h2⟩
    · by_cases c : st n = 0 ∨ 5 ≤ st n
      · exact Or.inl ⟨n, by omega, c, h⟩
      · refine Or.inr fun y hy => ?_
        by_cases e : y = n
        · subst e; exact c
        · exact h y (by omega)
set_option maxHeartbeats 4000000 in
set_option linter.unusedSimpArgs false in
theorem l_31 {g a : Int32} {st : Nat → Nat} (hst : ∀ s, s < 16 → S.1 25 s 0 4 = nI (st s) ∧ st s ≤ 6) {z : Nat} (hz : z ≤ 16) (hz2 : ∀ y, y < z → ¬ (st y = 0 ∨ 5 ≤ st y)) : ∀ j i tt, i + j = z → j < tt → F_31_3 G t tt g (p, 1) a (nI i) S = F_31_3 G t (tt - j) g (p, 1) a (nI z) S := by
  intro j
  induction j with
  | zero => intro i tt h1 h2; have : i = z := by omega
            subst this; rfl
  | succ j ih =>
    intro i tt h1 h2
    obtain ⟨u, rfl⟩ : ∃ u, tt = u + 1 := ⟨tt - 1, by omega⟩
    have e := ih (i + 1) u (by omega) (by omega)
    have e2 := f_22 (G := G) (t := t) (s := i) (by omega) (hst i (by omega)).1 (hst i (by omega)).2
    rw [if_neg (hz2 i (by omega))] at e2
    rw [show u + 1 - (j + 1) = u - j by omega, ← e]
    rw [F_31_3]
    clear ih e hst hz2
    simp (disch := first | assumption | omega) only [gI, gI2, gL, gL1, gL2, jcLT, jcGE, jcGT, jcLE, jcEQ, jcNE, dEQ, nIt, lgNE, lgEQ, lgGE, lgLT, lgGT, lgLE, jinT, nIc, nI0, nI1, nIo, nIs, nI_add, nIm, nIn0, szl0, szl1, szl2, szl3, szl4, szl5, Nat.add_sub_assoc, Nat.add_zero, Nat.reduceSub, Nat.reduceAdd, Nat.reduceMul, Nat.reduceEqDiff,  jifT, bdS, sifN, sifS, omN, omS, cdI, x25, x26, x27, x28, x29, x30, x31, x32, xr0, xr1, xr2, xr3, xr4, xr5, if_pos, if_neg, true_and, and_true, false_and, and_false, and_self, Bool.and_true, if_true, if_false, reduceIte, cond_true, cond_false, not_true_eq_false, not_false_eq_true, e2]
set_option maxHeartbeats 4000000 in
set_option linter.unusedSimpArgs false in
theorem e31z {g a : Int32} {tt : Nat} : F_31_3 G t (tt + 1) g (p, 1) a (nI 16) S = some (nI 0, S) := by
  rw [F_31_3]
  simp (disch := first | assumption | omega) only [gI, gI2, gL, gL1, gL2, jcLT, jcGE, jcGT, jcLE, jcEQ, jcNE, dEQ, nIt, lgNE, lgEQ, lgGE, lgLT, lgGT, lgLE, jinT, nIc, nI0, nI1, nIo, nIs, nI_add, nIm, nIn0, szl0, szl1, szl2, szl3, szl4, szl5, Nat.add_sub_assoc, Nat.add_zero, Nat.reduceSub, Nat.reduceAdd, Nat.reduceMul, Nat.reduceEqDiff,  jifT, bdS, sifN, sifS, omN, omS, cdI, x25, x26, x27, x28, x29, x30, x31, x32, xr0, xr1, xr2, xr3, xr4, xr5, if_pos, if_neg, true_and, and_true, false_and, and_false, and_self, Bool.and_true, if_true, if_false, reduceIte, cond_true, cond_false, not_true_eq_false, not_false_eq_true]
def rnS (S : sS) (s : Nat) : sS := siL (siI (siI S 25 s 0 3 (nI 0)) 25 s 0 4 (nI 1)) 25 s 0 7 0
set_option maxHeartbeats 4000000 in
set_option linter.unusedSimpArgs false in
theorem e31s {g a : Int32} {tt s st q1 q2 : Nat} {S1 : sS} (hs : s < 16) (h4 : S.1 25 s 0 4 = nI st) (hst : st ≤ 6) (hst2 : st = 0 ∨ 5 ≤ st) (e1 : F_29 G t (s, 0) g (p, 1) a (rnS S s) = some (nI 1, S1)) (h1 : (siI S1 8 0 0 7 (S1.1 8 0 0 7 + nI 1)).1 8 0 0 3 = nI q1) (h2 : (siI S1 8 0 0 7 (S1.1 8 0 0 7 + nI 1)).1 8 0 0 4 = nI q2) (hq1 : q1 < 16) (hq2 : q2 < 16) (h3 : (siI S1 8 0 0 7 (S1.1 8 0 0 7 + nI 1)).1 25 s 0 1 = nI s) : F_31_3 G t (tt + 1) g (p, 1) a (nI s) S = some (nI 1, luS (siI S1 8 0 0 7 (S1.1 8 0 0 7 + nI 1)) s q1 q2) := by
  have e2 := f_22 (G := G) (t := t) (s := s) hs h4 hst
  rw [if_pos hst2] at e2
  have e3 := f_30 (G := G) (t := t) (S := siI S1 8 0 0 7 (S1.1 8 0 0 7 + nI 1)) (s := s) hs h1 h2 hq1 hq2 h3
  have e4 : F_4 G t (s, 0) (nI 1) S = some ((), rnS S s) := by
    unfold F_4 rnS
    simp (disch := first | assumption | omega) only [gI, gI2, gL, gL1, gL2, jcLT, jcGE, jcGT, jcLE, jcEQ, jcNE, dEQ, nIt, lgNE, lgEQ, lgGE, lgLT, lgGT, lgLE, jinT, nIc, nI0, nI1, nIo, nIs, nI_add, nIm, nIn0, szl0, szl1, szl2, szl3, szl4, szl5, Nat.add_sub_assoc, Nat.add_zero, Nat.reduceSub, Nat.reduceAdd, Nat.reduceMul, Nat.reduceEqDiff,  jifT, bdS, sifN, sifS, omN, omS, cdI, x25, x26, x27, x28, x29, x30, x31, x32, xr0, xr1, xr2, xr3, xr4, xr5, if_pos, if_neg, true_and, and_true, false_and, and_false, and_self, Bool.and_true, if_true, if_false, reduceIte, cond_true, cond_false, not_true_eq_false, not_false_eq_true]
  rw [F_31_3]
  clear h1 h2 h3
  simp (disch := first | assumption | omega) only [gI, gI2, gL, gL1, gL2, jcLT, jcGE, jcGT, jcLE, jcEQ, jcNE, dEQ, nIt, lgNE, lgEQ, lgGE, lgLT, lgGT, lgLE, jinT, nIc, nI0, nI1, nIo, nIs, nI_add, nIm, nIn0, szl0, szl1, szl2, szl3, szl4, szl5, Nat.add_sub_assoc, Nat.add_zero, Nat.reduceSub, Nat.reduceAdd, Nat.reduceMul, Nat.reduceEqDiff,  jifT, bdS, sifN, sifS, omN, omS, cdI, x25, x26, x27, x28, x29, x30, x31, x32, xr0, xr1, xr2, xr3, xr4, xr5, if_pos, if_neg, true_and, and_true, false_and, and_false, and_self, Bool.and_true, if_true, if_false, reduceIte, cond_true, cond_false, not_true_eq_false, not_false_eq_true, e2, e4, e1, e3]
set_option maxHeartbeats 4000000 in
set_option linter.unusedSimpArgs false in
theorem l_164 {v2 v3 : Int32} {st : Nat → Nat} (hst : ∀ s, s < 16 → T.1 54 s 0 0 = nI (st s) ∧ st s ≤ 6) {z : Nat} (hz : z ≤ 16) (hz2 : ∀ y, y < z → ¬ (st y = 0 ∨ 5 ≤ st y)) (hz3 : z < 16 → st z = 0 ∨ 5 ≤ st z) : ∀ j i tt, i + j = z → j < tt → F_164_20 G t tt (r, 0) v2 v3 (nI i) T = F_164_60 G t (r, 0) v2 v3 (nI z) T := by
  intro j
  induction j with
  | zero =>
    intro i tt h1 h2
    obtain ⟨u, rfl⟩ : ∃ u, tt = u + 1 := ⟨tt - 1, by omega⟩
    have : i = z := by omega
    subst this
    rw [F_164_20]
    by_cases c : i = 16
    · subst c
      simp (disch := first | assumption | omega) only [gI, gI2, gL, gL1, gL2, jcLT, jcGE, jcGT, jcLE, jcEQ, jcNE, dEQ, nIt, lgNE, lgEQ, lgGE, lgLT, lgGT, lgLE, jinT, nIc, nI0, nI1, nIo, nIs, nI_add, nIm, nIn0, szl0, szl1, szl2, szl3, szl4, szl5, Nat.add_sub_assoc, Nat.add_zero, Nat.reduceSub, Nat.reduceAdd, Nat.reduceMul, Nat.reduceEqDiff,  jifT, bdS, sifN, sifS, omN, omS, cdI, x25, x26, x27, x28, x29, x30, x31, x32, xr0, xr1, xr2, xr3, xr4, xr5, if_pos, if_neg, true_and, and_true, false_and, and_false, and_self, Bool.and_true, if_true, if_false, reduceIte, cond_true, cond_false, not_true_eq_false, not_false_eq_true, x51, x52, x53, x54, x55, x56, x57, x58, x59, x60, x61, x62, x63]
    · have h3 := hz3 (by omega)
      have h4 := hst i (by omega)
      clear hst hz2 hz3
      have h5 := h4.1
      by_cases c0 : st i = 0
      · rw [c0] at h5
        simp (disch := first | assumption | omega) only [gI, gI2, gL, gL1, gL2, jcLT, jcGE, jcGT, jcLE, jcEQ, jcNE, dEQ, nIt, lgNE, lgEQ, lgGE, lgLT, lgGT, lgLE, jinT, nIc, nI0, nI1, nIo, nIs, nI_add, nIm, nIn0, szl0, szl1, szl2, szl3, szl4, szl5, Nat.add_sub_assoc, Nat.add_zero, Nat.reduceSub, Nat.reduceAdd, Nat.reduceMul, Nat.reduceEqDiff,  jifT, bdS, sifN, sifS, omN, omS, cdI, x25, x26, x27, x28, x29, x30, x31, x32, xr0, xr1, xr2, xr3, xr4, xr5, if_pos, if_neg, true_and, and_true, false_and, and_false, and_self, Bool.and_true, if_true, if_false, reduceIte, cond_true, cond_false, not_true_eq_false, not_false_eq_true, x51, x52, x53, x54, x55, x56, x57, x58, x59, x60, x61, x62, x63, h5]
      · have : 5 ≤ st i := by omega
        have : st i ≤ 6 := h4.2
        simp (disch := first | assumption | omega) only [gI, gI2, gL, gL1, gL2, jcLT, jcGE, jcGT, jcLE, jcEQ, jcNE, dEQ, nIt, lgNE, lgEQ, lgGE, lgLT, lgGT, lgLE, jinT, nIc, nI0, nI1, nIo, nIs, nI_add, nIm, nIn0, szl0, szl1, szl2, szl3, szl4, szl5, Nat.add_sub_assoc, Nat.add_zero, Nat.reduceSub, Nat.reduceAdd, Nat.reduceMul, Nat.reduceEqDiff,  jifT, bdS, sifN, sifS, omN, omS, cdI, x25, x26, x27, x28, x29, x30, x31, x32, xr0, xr1, xr2, xr3, xr4, xr5, if_pos, if_neg, true_and, and_true, false_and, and_false, and_self, Bool.and_true, if_true, if_false, reduceIte, cond_true, cond_false, not_true_eq_false, not_false_eq_true, x51, x52, x53, x54, x55, x56, x57, x58, x59, x60, x61, x62, x63, h5]
  | succ j ih =>
    intro i tt h1 h2
    obtain ⟨u, rfl⟩ : ∃ u, tt = u + 1 := ⟨tt - 1, by omega⟩
    have e := ih (i + 1) u (by omega) (by omega)
    have h3 := hz2 i (by omega)
    have h4 := hst i (by omega)
    have h5 := h4.1
    rw [← e, F_164_20]
    clear ih e hst hz2 hz3
    have : st i ≤ 6 := h4.2
    have : st i < 5 := by omega
    have : 0 < st i := by omega
    simp (disch := first | assumption | omega) only [gI, gI2, gL, gL1, gL2, jcLT, jcGE, jcGT, jcLE, jcEQ, jcNE, dEQ, nIt, lgNE, lgEQ, lgGE, lgLT, lgGT, lgLE, jinT, nIc, nI0, nI1, nIo, nIs, nI_add, nIm, nIn0, szl0, szl1, szl2, szl3, szl4, szl5, Nat.add_sub_assoc, Nat.add_zero, Nat.reduceSub, Nat.reduceAdd, Nat.reduceMul, Nat.reduceEqDiff,  jifT, bdS, sifN, sifS, omN, omS, cdI, x25, x26, x27, x28, x29, x30, x31, x32, xr0, xr1, xr2, xr3, xr4, xr5, if_pos, if_neg, true_and, and_true, false_and, and_false, and_self, Bool.and_true, if_true, if_false, reduceIte, cond_true, cond_false, not_true_eq_false, not_false_eq_true, x51, x52, x53, x54, x55, x56, x57, x58, x59, x60, x61, x62, x63, h5]
set_option maxHeartbeats 4000000 in
set_option linter.unusedSimpArgs false in
theorem w_20f {g pa : Nat} {T1 T2 : sS} (ht : 100 < t) (hg : g < 32) (hpa : T.1 37 0 0 g = nI pa) (q0 : F_156 G t (r, 0) (nI pa) T = some (nI 1, T1)) {st : Nat → Nat} (hst : ∀ s, s < 16 → T1.1 54 s 0 0 = nI (st s) ∧ st s ≤ 6) (hz2 : ∀ y, y < 16 → ¬ (st y = 0 ∨ 5 ≤ st y)) (q1 : F_155 G t (r, 0) (-3) T1 = some ((), T2)) : W_20 G t r d (nI g) T = some ((), T2) := by
  have e := l_164 (G := G) (t := t) (r := r) (v2 := nI g) (v3 := nI pa) hst (Nat.le_refl _) hz2 (fun z => by omega) 16 0 t (by omega) (by omega)
  clear hst hz2
  unfold W_20
  simp (disch := first | assumption | omega) only [gI, gI2, gL, gL1, gL2, jcLT, jcGE, jcGT, jcLE, jcEQ, jcNE, dEQ, nIt, lgNE, lgEQ, lgGE, lgLT, lgGT, lgLE, jinT, nIc, nI0, nI1, nIo, nIs, nI_add, nIm, nIn0, szl0, szl1, szl2, szl3, szl4, szl5, Nat.add_sub_assoc, Nat.add_zero, Nat.reduceSub, Nat.reduceAdd, Nat.reduceMul, Nat.reduceEqDiff,  jifT, bdS, sifN, sifS, omN, omS, cdI, x25, x26, x27, x28, x29, x30, x31, x32, xr0, xr1, xr2, xr3, xr4, xr5, if_pos, if_neg, true_and, and_true, false_and, and_false, and_self, Bool.and_true, if_true, if_false, reduceIte, cond_true, cond_false, not_true_eq_false, not_false_eq_true, x51, x52, x53, x54, x55, x56, x57, x58, x59, x60, x61, x62, x63, F_164, hpa, q0, e, F_164_60, q1]
set_option maxHeartbeats 4000000 in
set_option linter.unusedSimpArgs false in
theorem w_20 {g pa z q : Nat} {T1 T2 T3 : sS} (ht : 100 < t) (hg : g < 32) (hpa : T.1 37 0 0 g = nI pa) (q0 : F_156 G t (r, 0) (nI pa) T = some (nI 1, T1)) {st : Nat → Nat} (hst : ∀ s, s < 16 → T1.1 54 s 0 0 = nI (st s) ∧ st s ≤ 6) (hz : z < 16) (hz2 : fst0 st z) (q1 : F_142 G t (z, 0) (nI g) (nI 0) (siI (siI T1 54 z 0 1 (nI 0)) 54 z 0 2 (nI 0)) = some ((), T2)) (q2 : F_161 G t (z, 0) (nI pa) T2 = some ((), T3)) (hq : (siI T3 33 0 0 22 (T3.1 33 0 0 22 + nI 1)).1 33 0 0 15 = nI q) (hq2 : q < 17) : W_20 G t r d (nI g) T = some ((), rdT (siI T3 33 0 0 22 (T3.1 33 0 0 22 + nI 1)) z q) := by
  have e := l_164 (G := G) (t := t) (r := r) (v2 := nI g) (v3 := nI pa) hst (by omega) hz2.2 (fun _ => hz2.1) z 0 t (by omega) (by omega)
  have e2 := f_163 (G := G) (t := t) hz hq hq2
  clear hst hz2
  unfold W_20
  simp (disch := first | assumption | omega) only [gI, gI2, gL, gL1, gL2, jcLT, jcGE, jcGT, jcLE, jcEQ, jcNE, dEQ, nIt, lgNE, lgEQ, lgGE, lgLT, lgGT, lgLE, jinT, nIc, nI0, nI1, nIo, nIs, nI_add, nIm, nIn0, szl0, szl1, szl2, szl3, szl4, szl5, Nat.add_sub_assoc, Nat.add_zero, Nat.reduceSub, Nat.reduceAdd, Nat.reduceMul, Nat.reduceEqDiff,  jifT, bdS, sifN, sifS, omN, omS, cdI, x25, x26, x27, x28, x29, x30, x31, x32, xr0, xr1, xr2, xr3, xr4, xr5, if_pos, if_neg, true_and, and_true, false_and, and_false, and_self, Bool.and_true, if_true, if_false, reduceIte, cond_true, cond_false, not_true_eq_false, not_false_eq_true, x51, x52, x53, x54, x55, x56, x57, x58, x59, x60, x61, x62, x63, F_164, hpa, q0, e, F_164_60, q1, q2, e2]
set_option maxHeartbeats 4000000 in
set_option linter.unusedSimpArgs false in
theorem x_20 {g pa : Nat} {S1 : sS} (hM : S.2.2.2.1.1 p = true) (o1 : S.1 29 p 1 2 = nI n) (hn : n ≤ 16) (hF : S.1 1 0 0 6 = nI F) (hF2 : F ≤ 32) (hg : g < F) (hpa : S.1 2 0 0 g = nI pa) (hpn : pa ≤ n) (q1 : F_31_3 G t t (nI g) (p, 1) (nI (n - pa)) (nI 0) S = some (nI 1, S1)) (hM1 : S1.2.2.2.1.1 p = true) (o1' : S1.1 29 p 1 2 = nI n) : X_20 G t r p (nI g) S = some (nI 0, siI S1 29 p 1 2 (nI (n - pa))) := by
  have e1 := f_17 (G := G) (t := t) hF hF2 hg
  rw [hpa] at e1
  have e7 : F_76 G t (p, 1) (nI pa) S1 = some ((), siI S1 29 p 1 2 (nI (n - pa))) := f_76 (sz := n) ⟨xr1 hM1, o1', hn⟩ (by omega)
  unfold X_20
  simp (disch := first | assumption | omega) only [gI, gI2, gL, gL1, gL2, jcLT, jcGE, jcGT, jcLE, jcEQ, jcNE, dEQ, nIt, lgNE, lgEQ, lgGE, lgLT, lgGT, lgLE, jinT, nIc, nI0, nI1, nIo, nIs, nI_add, nIm, nIn0, szl0, szl1, szl2, szl3, szl4, szl5, Nat.add_sub_assoc, Nat.add_zero, Nat.reduceSub, Nat.reduceAdd, Nat.reduceMul, Nat.reduceEqDiff,  jifT, bdS, sifN, sifS, omN, omS, cdI, x25, x26, x27, x28, x29, x30, x31, x32, xr0, xr1, xr2, xr3, xr4, xr5, if_pos, if_neg, true_and, and_true, false_and, and_false, and_self, Bool.and_true, if_true, if_false, reduceIte, cond_true, cond_false, not_true_eq_false, not_false_eq_true, F_116_116, F_77, F_77_50, F_31, hM, o1, e1, q1, e7, hM1]
set_option maxHeartbeats 4000000 in
set_option linter.unusedSimpArgs false in
theorem x_20f {g pa : Nat} (hM : S.2.2.2.1.1 p = true) (o1 : S.1 29 p 1 2 = nI n) (hn : n ≤ 16) (hF : S.1 1 0 0 6 = nI F) (hF2 : F ≤ 32) (hg : g < F) (hpa : S.1 2 0 0 g = nI pa) (hpn : pa ≤ n) (q1 : F_31_3 G t t (nI g) (p, 1) (nI (n - pa)) (nI 0) S = some (nI 0, S)) : X_20 G t r p (nI g) S = some (-3, S) := by
  have e1 := f_17 (G := G) (t := t) hF hF2 hg
  rw [hpa] at e1
  unfold X_20
  simp (disch := first | assumption | omega) only [gI, gI2, gL, gL1, gL2, jcLT, jcGE, jcGT, jcLE, jcEQ, jcNE, dEQ, nIt, lgNE, lgEQ, lgGE, lgLT, lgGT, lgLE, jinT, nIc, nI0, nI1, nIo, nIs, nI_add, nIm, nIn0, szl0, szl1, szl2, szl3, szl4, szl5, Nat.add_sub_assoc, Nat.add_zero, Nat.reduceSub, Nat.reduceAdd, Nat.reduceMul, Nat.reduceEqDiff,  jifT, bdS, sifN, sifS, omN, omS, cdI, x25, x26, x27, x28, x29, x30, x31, x32, xr0, xr1, xr2, xr3, xr4, xr5, if_pos, if_neg, true_and, and_true, false_and, and_false, and_self, Bool.and_true, if_true, if_false, reduceIte, cond_true, cond_false, not_true_eq_false, not_false_eq_true, F_116_116, F_77, F_77_50, F_31, hM, o1, e1, q1]
theorem i_20 (ht : 1000 < t) (h : cx φ D F N P S T A r d p f pc n m) (gc : gcR D S) (iq : iqR P A r False) (hy : T.1 33 0 0 38 = nI 0) (hpc : pc < P.2.2.2.1 f) {g : Nat} (hg : g < F) (hkn : P.1 g ≤ n) : insY D F N P S T A r p G t (P.1 g) 0 (X_20 G t r p (nI g) S) (W_20 G t r d (nI g) T) := by
  obtain ⟨hM, o1, o2, hn, hr, d2, d3⟩ := h.rd
  obtain ⟨⟨F1, F2, F3⟩, _, pg, _⟩ := h.1.1.1
  obtain ⟨⟨b1, b2, b3, b4⟩, ⟨b5, b6, b7⟩, _⟩ := pg g hg
  obtain ⟨⟨l, hl, _⟩, _⟩ := h.2.1 g hg
  have q0 := e_156 (G := G) (t := t) (k := P.1 g) (by omega) hr d3 hn d2 o2 hkn
  have hS4 : ∀ s, s < 16 → S.1 25 s 0 4 = nI (A.1 s) ∧ A.1 s ≤ 6 := fun s hs => ⟨(h.1.2.1 s hs).2.1.1, (h.1.2.1 s hs).2.1.2.2⟩
  have hT0 : ∀ s, s < 16 → (mpS T r d n (P.1 g)).1 54 s 0 0 = nI (A.1 s) ∧ A.1 s ≤ 6 := fun s hs => ⟨by rw [mpS_I _ _ _ _ (by omega) (by omega)]; exact (h.1.2.1 s hs).2.1.2.1, (h.1.2.1 s hs).2.1.2.2⟩
  rcases fst_or A.1 16 with ⟨z, hz, hz2⟩ | hz
  · have hzr : z ≠ r := fun c => by
      have := hz2.1
      rw [c, h.2.2.2.1] at this
      omega
    have ow := h.1.2.2.2.2.2.2.2.2.2
    have hp := h.2.2.2.2.2.1
    have Rz := h.1.2.1 z hz
    have dz : A.2.1 z = 0 := Rz.2.2.2.1.mpr hz2.1
    obtain ⟨qa, qa1, qa2, qa3, qa4, qa5, qa6⟩ := h.1.2.2.2.2.2.1
    obtain ⟨iq1, iq2, iq3, iq9⟩ := iq
    have hlen : A.2.2.2.1.length < 16 := by
      have := nd_len 16 (r :: A.2.2.2.1) (List.nodup_cons.mpr ⟨fun c => ((iq3 r).mp c).2.2 rfl, iq2⟩) (fun y hy => by
        rcases List.mem_cons.mp hy with rfl | hy
        · exact hr
        · exact ((iq3 y).mp hy).1)
      rw [List.length_cons] at this
      omega
    have rn : ∀ t' i' j' k', ¬ (t' = 25 ∧ i' = z ∧ j' = 0) → (rnS S z).1 t' i' j' k' = S.1 t' i' j' k' := fun t' i' j' k' c => by
      unfold rnS
      rw [gL1, siI_ne _ _ _ c, siI_ne _ _ _ c]
    have rnL : ∀ t' i' j' k', ¬ (t' = 25 ∧ i' = z ∧ j' = 0) → (rnS S z).2.1 t' i' j' k' = S.2.1 t' i' j' k' := fun t' i' j' k' c => by
      unfold rnS
      rw [siL_ne _ _ _ c]
      rfl
    obtain ⟨p', S1, hF, en⟩ := f_29 (G := G) (t := t) (S := rnS S z) (s := z) (dp := 0) (f := g) (lo := P.2.1 g) (pa := P.1 g) (q := p) (kq := 1) (a := n - P.1 g) (sz := n) (F := F) (by omega) hz (by omega) (ow.same rfl) (by rw [rn _ _ _ _ (by omega)]; exact F1) F3 hg (by rw [rn _ _ _ _ (by omega)]; exact b1) (by rw [rn _ _ _ _ (by omega)]; exact b5) b4 b7 (xr1 hM) (by rw [rn _ _ _ _ (by omega)]; exact o1) hn (by omega) (fun _ c => hzr (ow.2.1 _ _ _ _ _ c hp).1) (ow.2.2.2.2.1 p hM).1.1 (by
      unfold rnS
      rw [gL1, gI, if_neg (by omega), siI_at])
    have hpp : p ≠ p' := fun c => by
      subst c
      exact hzr (en.2.1.1 _ _ hp).1.symm
    have hM1 : S1.2.2.2.1.1 p = true := en.1.2.2.2.1 p hM
    have en2 := en.sz (k := 1) (nI (n - P.1 g)) hpp
    have eag := en.2.2.1
    have s1 : ∀ t' i' j', ¬ (t' = 25 ∧ i' = z ∧ j' = 0) → ¬ (27 ≤ t' ∧ t' ≤ 32 ∧ i' = p') → S1.1 t' i' j' = S.1 t' i' j' := fun t' i' j' c c2 => by
      rw [(eag t' i' j' (by omega)).1]
      funext k'
      exact rn t' i' j' k' c
    have e8 : S1.1 8 0 0 = S.1 8 0 0 := s1 8 0 0 (by omega) (by omega)
    have ec31 := e31s (G := G) (t := t) (p := p) (g := nI g) (a := nI (n - P.1 g)) (tt := t - z - 1) (s := z) (q1 := qa) (q2 := A.2.2.2.1.length) (S1 := S1) hz (hS4 z hz).1 (hS4 z hz).2 hz2.1 hF (by rw [gI, if_neg (by omega), e8]; exact qa1) (by rw [gI, if_neg (by omega), e8]; exact qa3) qa2 hlen (by
      rw [siI_ne _ _ _ (by omega), en.2.2.2.1.1, if_neg (by omega)]
      unfold rnS
      rw [gL1, gI, if_neg (by omega), gI, if_neg (by omega)]
      exact Rz.1)
    have el := l_31 (G := G) (t := t) (p := p) (g := nI g) (a := nI (n - P.1 g)) (st := A.1) hS4 (z := z) (by omega) hz2.2 z 0 t (by omega) (by omega)
    rw [show t - z = t - z - 1 + 1 by omega, ec31] at el
    have hMl : (luS (siI S1 8 0 0 7 (S1.1 8 0 0 7 + nI 1)) z qa A.2.2.2.1.length).2.2.2.1.1 p = true := hM1
    have o1l : (luS (siI S1 8 0 0 7 (S1.1 8 0 0 7 + nI 1)) z qa A.2.2.2.1.length).1 29 p 1 2 = nI n := by
      unfold luS
      rw [siI_ne _ _ _ (by omega), siI_ne _ _ _ (by omega), siI_ne _ _ _ (by omega), siI_ne _ _ _ (by omega), s1 29 p 1 (by omega) (by omega)]
      exact o1
    have ec := x_20 (r := r) hM o1 hn F1 F3 hg b1 hkn el hMl o1l
    -- the reference
    have t3 : (siI (siI (mpS T r d n (P.1 g)) 54 z 0 1 (nI 0)) 54 z 0 2 (nI 0)).1 54 z 0 1 = nI 0 := by rw [gI, if_neg (by omega), siI_at]
    have u1 := f_142 (G := G) (t := t) (T := siI (siI (mpS T r d n (P.1 g)) 54 z 0 1 (nI 0)) 54 z 0 2 (nI 0)) (s := z) (dp := 0) (f := g) (b := 0) (by omega) hz (by omega) (by omega) t3
    have u2 := f_161 (G := G) (t := t) (T := meT (siI (siI (mpS T r d n (P.1 g)) 54 z 0 1 (nI 0)) 54 z 0 2 (nI 0)) z 0 g 0) (r := z) (d := 0) (pa := P.1 g) (by omega) hz (by omega) b3 (by rw [meT_54, if_pos rfl])
    generalize hT2 : siI (siI (mpS T r d n (P.1 g)) 54 z 0 1 (nI 0)) 54 z 0 2 (nI 0) = T2 at u1 u2 t3
    generalize hT3 : agT (meT T2 z 0 g 0) z 0 (P.1 g) (P.1 g) = T3 at u2
    have aT2 : agr (fun t i j => (t = 54 ∧ i = z ∧ j = 0) ∨ (56 ≤ t ∧ t ≤ 63 ∧ i = z ∧ j = 0)) (mpS T r d n (P.1 g)) T3 := by
      subst hT2 hT3
      exact ((agr.i (agr.i (agr.refl _ _) _ _ (by omega)) _ _ (by omega)).trans (meT_ag _ _ _ _ _)).trans (fun t i j c => ⟨agT_I _ _ _ _ (by omega) _, agT_L _ _ _ _ (by omega) _⟩)
    have hq15 : (siI T3 33 0 0 22 (T3.1 33 0 0 22 + nI 1)).1 33 0 0 15 = nI A.2.2.2.1.length := by
      rw [gI, if_neg (by omega), (aT2 33 0 0 (by omega)).1, mpS_I _ _ _ _ (by omega) (by omega)]
      exact qa4
    have ew := w_20 (d := d) (by omega) (by omega) b2 q0 hT0 hz hz2 (by rw [hT2]; exact u1) u2 hq15 (by omega)
    -- what holds then
    obtain ⟨w0, w1, hr', a1', a2', a3', a4'⟩ := id h
    obtain ⟨v1, k1, m1, ow1⟩ := w0.frm hr' a1' a2' a3' (dr_ag S p (n - P.1 g)) rfl (mp_ag T r d n (P.1 g)) (mpS_2 _ _ _ _ _) (h.fr.pops (P.1 g))
    have ernS : siI (rnS S z) 29 p 1 2 (nI (n - P.1 g)) = rnS (siI S 29 p 1 2 (nI (n - P.1 g))) z := by
      unfold rnS
      show siL (siI (siI (siI S 25 z 0 3 (nI 0)) 25 z 0 4 (nI 1)) 29 p 1 2 (nI (n - P.1 g))) 25 z 0 7 0 = _
      rw [siI_comm (siI S 25 z 0 3 (nI 0)) _ _ _ _ (show ¬ (25 = 29 ∧ z = p ∧ 0 = 1) by omega), siI_comm S _ _ _ _ (show ¬ (25 = 29 ∧ z = p ∧ 0 = 1) by omega)]
    rw [ernS] at en2
    have kz : kp (siI S 29 p 1 2 (nI (n - P.1 g))) (siI S1 29 p 1 2 (nI (n - P.1 g))) z := by
      have k0 : kp (siI S 29 p 1 2 (nI (n - P.1 g))) (rnS (siI S 29 p 1 2 (nI (n - P.1 g))) z) z := by
        have ag0 : agr (fun t i j => t = 25 ∧ i = z ∧ j = 0) (siI S 29 p 1 2 (nI (n - P.1 g))) (rnS (siI S 29 p 1 2 (nI (n - P.1 g))) z) := agr.l (agr.i (agr.i (agr.refl _ _) _ _ (by omega)) _ _ (by omega)) _ _ (by omega)
        refine ⟨fun t i j c c2 => ag0 t i j c, fun s' d p c c2 t j u v => ag0 t p j (by omega), fun h p c t j u v => ag0 t p j (by omega), fun t j u v => ag0 t 0 j (by omega), fun _ _ _ => rfl, rfl, fun _ c => c, rfl, fun k' c c2 => ?_⟩
        unfold rnS
        rw [gL1, gI, if_neg (by omega), gI, if_neg (by omega)]
      refine k0.trans (kp.of (ow1.same rfl) (fun s' d' c => (en2.2.1.1 s' d' c).1) en2.1.2.2.2.2.2.2 en2.2.1.2 en2.2.2.1 (fun s' d' c => en2.1.2.1 s' d' (by omega)) en2.1.2.2.1 en2.1.2.2.2.1 en2.1.2.2.2.2.1 (fun k' c c2 => ?_))
      rw [en2.2.2.2.1.1, if_neg c]
    have mz : km (mpS T r d n (P.1 g)) (siI T3 54 z 0 0 (nI 1)) z := by
      refine ⟨(aT2.mono (fun t i j c => by omega)).trans (agr.i (agr.refl _ _) _ _ (by omega)), fun k' c => by rw [siI_ne _ _ _ (by omega), (aT2 33 0 0 (by omega)).1], by rw [gI2, (aT2 33 0 0 (by omega)).2], ?_, ?_⟩
      · subst hT2 hT3
        rw [gI2, agT_2, meT_2]
        rfl
      · subst hT2 hT3
        rw [gI2, agT_L _ _ _ _ (by omega)]
        unfold meT
        rw [mzT_L _ _ _ (by omega)]
        rfl
    have R0 : stR φ D F P (siI S1 29 p 1 2 (nI (n - P.1 g))) (siI T3 54 z 0 0 (nI 1)) z 1 1 (fun _ => (g, 0, 0, 0, 0)) := by
      have t54 : ∀ k', T3.1 54 z 0 k' = if k' = 1 then nI 1 else T2.1 54 z 0 k' := fun k' => by
        subst hT3
        rw [agT_I _ _ _ _ (by omega), meT_54]
      have rn4 : (rnS (siI S 29 p 1 2 (nI (n - P.1 g))) z).1 25 z 0 4 = nI 1 := by unfold rnS; rw [gL1, siI_at]
      have rn1 : (rnS (siI S 29 p 1 2 (nI (n - P.1 g))) z).1 25 z 0 1 = nI z := by
        unfold rnS
        rw [gL1, gI, if_neg (by omega), gI, if_neg (by omega), siI_ne _ _ _ (by omega)]
        exact Rz.1
      refine ⟨by rw [en2.2.2.2.1.1, if_neg (by omega)]; exact rn1, ⟨by rw [en2.2.2.2.1.1, if_neg (by omega)]; exact rn4, ?_, by omega⟩, ⟨by rw [en2.2.2.2.1.1, if_pos rfl], by rw [gI, if_neg (by omega), t54, if_pos rfl], by omega⟩, by omega, fun _ => ?_, fun c => by omega, fun y hy => ?_, fun y hy => by omega⟩
      · exact siI_at _ _ _ _ _ _
      · rw [en2.2.2.2.1.2]
        unfold rnS
        rw [gL, if_pos ⟨rfl, rfl, rfl, rfl⟩]
      · have : y = 0 := by omega
        subst this
        refine ⟨p', en2.1.1, ?_⟩
        show frR φ D F P _ p' (siI T3 54 z 0 0 (nI 1)) z 0 g 0 0 0 0 0
        refine frR.keep (T := T3) ?_ en2.1.2.2.2.2.2.1 (fun _ _ _ _ _ => ⟨rfl, rfl⟩) (fun t _ _ => ⟨siI_ne _ _ _ (by omega), rfl⟩)
        obtain ⟨t0, t1, t2, t3', t4, t5⟩ := meT_56 T2 z 0 g 0
        have e56 := agT_I (meT T2 z 0 g 0) z 0 (P.1 g) (t := 56) (x := z) (y := 0) (by omega) (P.1 g)
        refine frR.new (q := 0) (kq := 0) (a := 0) en2.2.2.2.2.1 en2.1.2.2.2.2.2.1 hg ?_ (by omega) (fun i hi => ?_)
        · rw [← hT3, e56]
          exact ⟨t0, t1, t2, t3', t4, t5⟩
        · obtain ⟨x1, x2⟩ := en2.2.2.2.2.2.1
          rw [← hT3, (agT_v _ _ _ _ i _).1, (agT_v _ _ _ _ i _).2]
          by_cases ci : i < P.1 g
          · rw [(x1 i ci).1, (x1 i ci).2, if_pos ci, if_pos ci]
            have a47 : agr (fun t i j => (t = 54 ∧ i = z ∧ j = 0) ∨ (56 ≤ t ∧ t ≤ 63 ∧ i = z ∧ j = 0)) (mpS T r d n (P.1 g)) (meT T2 z 0 g 0) := by
              subst hT2
              exact (agr.i (agr.i (agr.refl _ _) _ _ (by omega)) _ _ (by omega)).trans (meT_ag _ _ _ _ _)
            have mv := mpS_v T r d n (i := P.1 g - 1 - i) (P.1 g) (by omega)
            have rsS : ∀ j', (rnS (siI S 29 p 1 2 (nI (n - P.1 g))) z).2.1 30 p 1 j' = S.2.1 30 p 1 j' := fun j' => by
              unfold rnS
              rw [siL_ne _ _ _ (by omega)]
              rfl
            have rsT : ∀ j', (rnS (siI S 29 p 1 2 (nI (n - P.1 g))) z).1 31 p 1 j' = S.1 31 p 1 j' := fun j' => by
              unfold rnS
              rw [gL1, siI_ne _ _ _ (by omega), siI_ne _ _ _ (by omega), siI_ne _ _ _ (by omega)]
            rw [(a47 47 0 0 (by omega)).1, (a47 48 0 0 (by omega)).2, mv.1, mv.2, show n - (P.1 g - 1 - i + 1) = n - P.1 g + i by omega, rsS, rsT]
            exact h.fr.2.2.2.1.2.2.2 (n - P.1 g + i) (by omega)
          · rw [(x2 i ci hi).1, (x2 i ci hi).2, if_neg ci, if_neg ci]
            obtain ⟨y1, y2⟩ := meT_z T2 z 0 g 0 i (by omega)
            rw [y1, y2]
            exact Or.inl ⟨rfl, rfl, rfl⟩
    have w2 := v1.one hz kz mz en2.2.2.2.2.2.2.1 R0 (by omega)
    have w3 := w2.made
    have e87 : (siI S1 29 p 1 2 (nI (n - P.1 g))).1 8 0 0 7 = S1.1 8 0 0 7 := by rw [siI_ne _ _ _ (by omega)]
    have e22 : (siI T3 54 z 0 0 (nI 1)).1 33 0 0 22 = T3.1 33 0 0 22 := by rw [siI_ne _ _ _ (by omega)]
    rw [e87, e22] at w3
    have w4 := w3.1.line (s := z) (a := qa) hz (by rw [aset_2]; omega) (by rw [aset_1]; omega) (by rw [gI, if_neg (by omega), siI_ne _ _ _ (by omega), e8]; exact qa1) qa2 hlen
    have eS : luS (siI (siI S1 29 p 1 2 (nI (n - P.1 g))) 8 0 0 7 (S1.1 8 0 0 7 + nI 1)) z qa A.2.2.2.1.length = siI (luS (siI S1 8 0 0 7 (S1.1 8 0 0 7 + nI 1)) z qa A.2.2.2.1.length) 29 p 1 2 (nI (n - P.1 g)) := by
      unfold luS
      rw [siI_comm S1 _ _ _ _ (show ¬ (29 = 8 ∧ p = 0 ∧ 1 = 0) by omega), siI_comm (siI S1 8 0 0 7 _) _ _ _ _ (show ¬ (29 = 25 ∧ p = z ∧ 1 = 0) by omega), siI_comm (siI (siI S1 8 0 0 7 _) 25 z 0 4 _) _ _ _ _ (show ¬ (29 = 10 ∧ p = 0 ∧ 1 = 0) by omega), siI_comm (siI (siI (siI S1 8 0 0 7 _) 25 z 0 4 _) 10 0 0 _ _) _ _ _ _ (show ¬ (29 = 8 ∧ p = 0 ∧ 1 = 0) by omega)]
    have eT : rdT (siI (siI T3 54 z 0 0 (nI 1)) 33 0 0 22 (T3.1 33 0 0 22 + nI 1)) z A.2.2.2.1.length = rdT (siI T3 33 0 0 22 (T3.1 33 0 0 22 + nI 1)) z A.2.2.2.1.length := by
      unfold rdT
      rw [siI_comm T3 _ _ _ _ (show ¬ (54 = 33 ∧ z = 0 ∧ 0 = 0) by omega), siI_idem]
    have k5 := ((k1.hk.trans kz.hk).trans w3.2).trans w4.2
    have w5 : wR φ D F N P (siI (luS (siI S1 8 0 0 7 (S1.1 8 0 0 7 + nI 1)) z qa A.2.2.2.1.length) 29 p 1 2 (nI (n - P.1 g))) (rdT (siI T3 33 0 0 22 (T3.1 33 0 0 22 + nI 1)) z A.2.2.2.1.length) (va_up (aset (aset A r 1 (d + 1) (fset (A.2.2.1 r) d (f, pc, n - P.1 g, m, 0))) z 1 1 (fun _ => (g, 0, 0, 0, 0))).1 z 1, (aset (aset A r 1 (d + 1) (fset (A.2.2.1 r) d (f, pc, n - P.1 g, m, 0))) z 1 1 (fun _ => (g, 0, 0, 0, 0))).2.1, (aset (aset A r 1 (d + 1) (fset (A.2.2.1 r) d (f, pc, n - P.1 g, m, 0))) z 1 1 (fun _ => (g, 0, 0, 0, 0))).2.2.1, A.2.2.2.1 ++ [z], A.2.2.2.2) := by
      rw [← eS, ← eT]
      exact w4.1
    have k6 : hk S (siI (luS (siI S1 8 0 0 7 (S1.1 8 0 0 7 + nI 1)) z qa A.2.2.2.1.length) 29 p 1 2 (nI (n - P.1 g))) := by
      rw [← eS]
      exact k5
    refine ⟨_, _, φ, D, _, cD_ok ec, ew, w5, gc.keep k6, ⟨fun s hs _ => ?_, ?_, fun s => ?_, ?_⟩, fun x hx => ?_, ?_, ⟨Nat.le_succ _, rfl⟩, fun c => ?_⟩
    · show tpR P ((aset (aset A r 1 (d + 1) (fset (A.2.2.1 r) d (f, pc, n - P.1 g, m, 0))) z 1 1 (fun _ => (g, 0, 0, 0, 0))).2.1 s) ((aset (aset A r 1 (d + 1) (fset (A.2.2.1 r) d (f, pc, n - P.1 g, m, 0))) z 1 1 (fun _ => (g, 0, 0, 0, 0))).2.2.1 s)
      by_cases c : s = z
      · subst c
        rw [aset_2, aset_3]
        exact fun y hy => ⟨rfl, by show 0 < P.2.2.2.1 g; omega⟩
      · rw [aset_2n _ _ _ _ c, aset_3n _ _ _ _ c]
        by_cases c2 : s = r
        · subst c2
          rw [aset_2, aset_3]
          intro y hy
          have : y = d := by omega
          subst this
          rw [fset_at]
          exact ⟨rfl, hpc⟩
        · rw [aset_2n _ _ _ _ c2, aset_3n _ _ _ _ c2]
          exact iq1 s hs (Or.inl c2)
    · show (A.2.2.2.1 ++ [z]).Nodup
      rw [List.nodup_append]
      refine ⟨iq2, List.nodup_cons.mpr ⟨List.not_mem_nil, List.nodup_nil⟩, fun a ha b hb => ?_⟩
      rw [List.mem_singleton] at hb
      subst hb
      intro c
      subst c
      have := ((iq3 a).mp ha).2.1
      have := hz2.1
      omega
    · show s ∈ A.2.2.2.1 ++ [z] ↔ s < 16 ∧ va_up (aset (aset A r 1 (d + 1) (fset (A.2.2.1 r) d (f, pc, n - P.1 g, m, 0))) z 1 1 (fun _ => (g, 0, 0, 0, 0))).1 z 1 s = 1 ∧ s ≠ r
      rw [List.mem_append, List.mem_singleton]
      by_cases c : s = z
      · subst c
        rw [va_up_self]
        exact ⟨fun _ => ⟨hz, rfl, hzr⟩, fun _ => Or.inr rfl⟩
      · rw [va_up_ne _ _ c, aset_1n _ _ _ _ c]
        by_cases c2 : s = r
        · subst c2
          exact ⟨fun y => y.elim (fun y => absurd rfl ((iq3 s).mp y).2.2) (fun y => absurd y c), fun y => absurd rfl y.2.2⟩
        · rw [aset_1n _ _ _ _ c2]
          exact ⟨fun y => y.elim (iq3 s).mp (fun y => absurd y c), fun y => Or.inl ((iq3 s).mpr y)⟩
    · show va_up (aset (aset A r 1 (d + 1) (fset (A.2.2.1 r) d (f, pc, n - P.1 g, m, 0))) z 1 1 (fun _ => (g, 0, 0, 0, 0))).1 z 1 0 ≠ 0
      by_cases c : 0 = z
      · subst c
        rw [va_up_self]
        omega
      · rw [va_up_ne _ _ c, aset_1n _ _ _ _ c]
        by_cases c2 : 0 = r
        · subst c2
          rw [aset_1]
          omega
        · rw [aset_1n _ _ _ _ c2]
          exact iq9
    · exact (en.2.2.2.2.2.2.2.1 x (hx.same rfl)).same rfl
    · show (rdT (siI T3 33 0 0 22 (T3.1 33 0 0 22 + nI 1)) z A.2.2.2.1.length).1 33 0 0 38 = nI 0
      unfold rdT
      rw [gI, if_neg (by omega), siI_ne _ _ _ (by omega), siI_ne _ _ _ (by omega), gI, if_neg (by omega), (aT2 33 0 0 (by omega)).1, mpS_I _ _ _ _ (by omega) (by omega)]
      exact hy
    · have c : va_up (aset (aset A r 1 (d + 1) (fset (A.2.2.1 r) d (f, pc, n - P.1 g, m, 0))) z 1 1 (fun _ => (g, 0, 0, 0, 0))).1 z 1 r = 0 := c
      rw [va_up_ne _ _ hzr.symm, aset_1n _ _ _ _ hzr.symm, aset_1] at c
      cases c
  · have el := l_31 (G := G) (t := t) (p := p) (g := nI g) (a := nI (n - P.1 g)) (st := A.1) hS4 (Nat.le_refl _) hz 16 0 t (by omega) (by omega)
    rw [show t - 16 = t - 17 + 1 by omega, e31z] at el
    obtain ⟨S', T', r1, r2, r3⟩ := h.panp (G := G) ht (P.1 g) (by omega) neg3.1 neg3.2 (x_20f (r := r) hM o1 hn F1 F3 hg b1 hkn el)
    exact insR.y ⟨S', T', r1, w_20f (by omega) (by omega) b2 q0 hT0 hz r2, r3⟩ gc iq hr hy
end SPW
