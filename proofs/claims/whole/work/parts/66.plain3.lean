/-! Plain instructions: zero or nil, jumps, locals, deferred calls. -/
theorem siI_comm (S : sS) {t i j t' i' j' : Nat} (k k' : Nat) (x x' : Int32) (h : ¬ (t = t' ∧ i = i' ∧ j = j')) : siI (siI S t i j k x) t' i' j' k' x' = siI (siI S t' i' j' k' x') t i j k x := by
  refine Prod.ext (funext fun a => funext fun b => funext fun c => funext fun q => ?_) rfl
  rw [gI, gI, gI, gI]
  by_cases h1 : a = t' ∧ b = i' ∧ c = j' ∧ q = k'
  · rw [if_pos h1, if_neg (by omega), if_pos h1]
  · rw [if_neg h1, if_neg h1]
section PLC
variable {φ : Nat → Nat} {D : Nat → Prop} {F N : Nat} {P : aP} {S S' T T' : sS} {A : aS} {r d p f pc n m e b k : Nat} {G : jG} {t : Nat}
set_option maxHeartbeats 4000000 in
set_option linter.unusedSimpArgs false in
theorem frR.jump (h : frR φ D F P S p T r d f pc n m e b) {j : Nat} (hj : j ≤ P.2.2.2.1 f) : frR φ D F P (siI S 27 p 0 6 (nI j)) p (siI T 56 r d 1 (nI j)) r d f j n m e b := by
  obtain ⟨hM, ⟨f1, f2, f3⟩, ⟨p1, p2, p3⟩, ⟨o1, o2, o3, o4⟩, ⟨d1, d2, d3, d4⟩, ⟨l1, l2⟩, ⟨e1, e2, e3, e4, e5⟩⟩ := h
  refine ⟨?_, ⟨?_, ?_, ?_⟩, ⟨?_, ?_, ?_⟩, ⟨?_, ?_, ?_, fun i hi => ?_⟩, ⟨?_, ?_, ?_, fun i hi => ?_⟩, ⟨?_, fun i hi => ?_⟩, ⟨?_, ?_, ?_, ?_, ?_⟩⟩
  all_goals try simp (disch := first | assumption | omega) only [gI, gI2, gL, gL1, gL2, jcLT, jcGE, jcGT, jcLE, jcEQ, jcNE, dEQ, nIt, lgNE, lgEQ, lgGE, lgLT, lgGT, lgLE, jinT, nIc, nI0, nI1, nIo, nIs, nI_add, nIm, nIn0, szl0, szl1, szl2, szl3, szl4, szl5, Nat.add_sub_assoc, Nat.add_zero, Nat.reduceSub, Nat.reduceAdd, Nat.reduceMul, Nat.reduceEqDiff,  jifT, bdS, sifN, sifS, omN, omS, cdI, x25, x26, x27, x28, x29, x30, x31, x32, xr0, xr1, xr2, xr3, xr4, xr5, if_pos, if_neg, true_and, and_true, false_and, and_false, and_self, Bool.and_true, if_true, if_false, reduceIte, cond_true, cond_false, not_true_eq_false, not_false_eq_true]
  all_goals first | assumption | omega | exact o4 i hi | exact d4 i hi | exact l2 i hi | skip
set_option maxHeartbeats 4000000 in
set_option linter.unusedSimpArgs false in
theorem frR.setl (h : frR φ D F P S p T r d f pc n m e b) {j : Nat} {x v : Int64} {g kk : Int32} (hv : vr φ D x g kk v) : frR φ D F P (siI (siL S 30 p 0 j x) 31 p 0 j g) p (siL (siI T 57 r d j kk) 61 r d j v) r d f pc n m e b := by
  obtain ⟨hM, ⟨f1, f2, f3⟩, ⟨p1, p2, p3⟩, ⟨o1, o2, o3, o4⟩, ⟨d1, d2, d3, d4⟩, ⟨l1, l2⟩, ⟨e1, e2, e3, e4, e5⟩⟩ := h
  refine ⟨?_, ⟨?_, ?_, ?_⟩, ⟨?_, ?_, ?_⟩, ⟨?_, ?_, ?_, fun i hi => ?_⟩, ⟨?_, ?_, ?_, fun i hi => ?_⟩, ⟨?_, fun i hi => ?_⟩, ⟨?_, ?_, ?_, ?_, ?_⟩⟩
  all_goals try simp (disch := first | assumption | omega) only [gI, gI2, gL, gL1, gL2, jcLT, jcGE, jcGT, jcLE, jcEQ, jcNE, dEQ, nIt, lgNE, lgEQ, lgGE, lgLT, lgGT, lgLE, jinT, nIc, nI0, nI1, nIo, nIs, nI_add, nIm, nIn0, szl0, szl1, szl2, szl3, szl4, szl5, Nat.add_sub_assoc, Nat.add_zero, Nat.reduceSub, Nat.reduceAdd, Nat.reduceMul, Nat.reduceEqDiff,  jifT, bdS, sifN, sifS, omN, omS, cdI, x25, x26, x27, x28, x29, x30, x31, x32, xr0, xr1, xr2, xr3, xr4, xr5, if_pos, if_neg, true_and, and_true, false_and, and_false, and_self, Bool.and_true, if_true, if_false, reduceIte, cond_true, cond_false, not_true_eq_false, not_false_eq_true]
  all_goals first | assumption | omega | exact o4 i hi | exact d4 i hi | skip
  by_cases c : i = j
  · subst c
    simp (disch := first | assumption | omega) only [gI, gI2, gL, gL1, gL2, jcLT, jcGE, jcGT, jcLE, jcEQ, jcNE, dEQ, nIt, lgNE, lgEQ, lgGE, lgLT, lgGT, lgLE, jinT, nIc, nI0, nI1, nIo, nIs, nI_add, nIm, nIn0, szl0, szl1, szl2, szl3, szl4, szl5, Nat.add_sub_assoc, Nat.add_zero, Nat.reduceSub, Nat.reduceAdd, Nat.reduceMul, Nat.reduceEqDiff,  jifT, bdS, sifN, sifS, omN, omS, cdI, x25, x26, x27, x28, x29, x30, x31, x32, xr0, xr1, xr2, xr3, xr4, xr5, if_pos, if_neg, true_and, and_true, false_and, and_false, and_self, Bool.and_true, if_true, if_false, reduceIte, cond_true, cond_false, not_true_eq_false, not_false_eq_true]
    exact hv
  · simp (disch := first | assumption | omega) only [gI, gI2, gL, gL1, gL2, jcLT, jcGE, jcGT, jcLE, jcEQ, jcNE, dEQ, nIt, lgNE, lgEQ, lgGE, lgLT, lgGT, lgLE, jinT, nIc, nI0, nI1, nIo, nIs, nI_add, nIm, nIn0, szl0, szl1, szl2, szl3, szl4, szl5, Nat.add_sub_assoc, Nat.add_zero, Nat.reduceSub, Nat.reduceAdd, Nat.reduceMul, Nat.reduceEqDiff,  jifT, bdS, sifN, sifS, omN, omS, cdI, x25, x26, x27, x28, x29, x30, x31, x32, xr0, xr1, xr2, xr3, xr4, xr5, if_pos, if_neg, true_and, and_true, false_and, and_false, and_self, Bool.and_true, if_true, if_false, reduceIte, cond_true, cond_false, not_true_eq_false, not_false_eq_true]
    exact l2 i hi
set_option maxHeartbeats 4000000 in
set_option linter.unusedSimpArgs false in
theorem frR.defr (h : frR φ D F P S p T r d f pc n m e b) (hm : m < 6) {q : Nat} (hq : q < F) (hq1 : P.1 q = 1) {x v : Int64} {g kk : Int32} (hv : vr φ D x g kk v) : frR φ D F P (rpush (siI S 28 p 0 m (nI q)) p 2 m x g) p (siI (siL (siI (siI T 60 r d m (nI q)) 59 r d m kk) 63 r d m v) 56 r d 3 (nI (m + 1))) r d f pc n (m + 1) e b := by
  obtain ⟨hM, ⟨f1, f2, f3⟩, ⟨p1, p2, p3⟩, ⟨o1, o2, o3, o4⟩, ⟨d1, d2, d3, d4⟩, ⟨l1, l2⟩, ⟨e1, e2, e3, e4, e5⟩⟩ := h
  unfold rpush
  refine ⟨?_, ⟨?_, ?_, ?_⟩, ⟨?_, ?_, ?_⟩, ⟨?_, ?_, ?_, fun i hi => ?_⟩, ⟨?_, ?_, ?_, fun i hi => ?_⟩, ⟨?_, fun i hi => ?_⟩, ⟨?_, ?_, ?_, ?_, ?_⟩⟩
  all_goals try simp (disch := first | assumption | omega) only [gI, gI2, gL, gL1, gL2, jcLT, jcGE, jcGT, jcLE, jcEQ, jcNE, dEQ, nIt, lgNE, lgEQ, lgGE, lgLT, lgGT, lgLE, jinT, nIc, nI0, nI1, nIo, nIs, nI_add, nIm, nIn0, szl0, szl1, szl2, szl3, szl4, szl5, Nat.add_sub_assoc, Nat.add_zero, Nat.reduceSub, Nat.reduceAdd, Nat.reduceMul, Nat.reduceEqDiff,  jifT, bdS, sifN, sifS, omN, omS, cdI, x25, x26, x27, x28, x29, x30, x31, x32, xr0, xr1, xr2, xr3, xr4, xr5, if_pos, if_neg, true_and, and_true, false_and, and_false, and_self, Bool.and_true, if_true, if_false, reduceIte, cond_true, cond_false, not_true_eq_false, not_false_eq_true]
  all_goals first | assumption | omega | exact o4 i hi | exact l2 i hi | skip
  by_cases c : i = m
  · subst c
    simp (disch := first | assumption | omega) only [gI, gI2, gL, gL1, gL2, jcLT, jcGE, jcGT, jcLE, jcEQ, jcNE, dEQ, nIt, lgNE, lgEQ, lgGE, lgLT, lgGT, lgLE, jinT, nIc, nI0, nI1, nIo, nIs, nI_add, nIm, nIn0, szl0, szl1, szl2, szl3, szl4, szl5, Nat.add_sub_assoc, Nat.add_zero, Nat.reduceSub, Nat.reduceAdd, Nat.reduceMul, Nat.reduceEqDiff,  jifT, bdS, sifN, sifS, omN, omS, cdI, x25, x26, x27, x28, x29, x30, x31, x32, xr0, xr1, xr2, xr3, xr4, xr5, if_pos, if_neg, true_and, and_true, false_and, and_false, and_self, Bool.and_true, if_true, if_false, reduceIte, cond_true, cond_false, not_true_eq_false, not_false_eq_true]
    exact ⟨hv, q, rfl, rfl, hq, hq1⟩
  · simp (disch := first | assumption | omega) only [gI, gI2, gL, gL1, gL2, jcLT, jcGE, jcGT, jcLE, jcEQ, jcNE, dEQ, nIt, lgNE, lgEQ, lgGE, lgLT, lgGT, lgLE, jinT, nIc, nI0, nI1, nIo, nIs, nI_add, nIm, nIn0, szl0, szl1, szl2, szl3, szl4, szl5, Nat.add_sub_assoc, Nat.add_zero, Nat.reduceSub, Nat.reduceAdd, Nat.reduceMul, Nat.reduceEqDiff,  jifT, bdS, sifN, sifS, omN, omS, cdI, x25, x26, x27, x28, x29, x30, x31, x32, xr0, xr1, xr2, xr3, xr4, xr5, if_pos, if_neg, true_and, and_true, false_and, and_false, and_self, Bool.and_true, if_true, if_false, reduceIte, cond_true, cond_false, not_true_eq_false, not_false_eq_true]
    exact d4 i (by omega)
theorem zkey {x v : Int64} {g kk : Int32} {gn kn : Nat} (h1 : g = nI gn) (h2 : kk = nI kn) (h : (gn = 0 ↔ kn = 0) ∧ (gn = 1 ↔ kn = 1) ∧ (gn = 0 → x = v) ∧ (gn ≠ 0 → x = 0)) : (x = 0 ∧ gn < 2) ↔ (kn = 1 ∨ kn = 0 ∧ v = 0) := by
  obtain ⟨h3, h4, h5, h6⟩ := h
  constructor
  · intro z
    by_cases c : gn = 0
    · exact Or.inr ⟨h3.mp c, by rw [← h5 c]; exact z.1⟩
    · exact Or.inl (h4.mp (by omega))
  · intro z
    rcases z with z | z
    · have := h4.mpr z
      exact ⟨h6 (by omega), by omega⟩
    · have := h3.mpr z.1
      exact ⟨by rw [h5 this]; exact z.2, by omega⟩
set_option maxHeartbeats 4000000 in
set_option linter.unusedSimpArgs false in
theorem x_15 (a : Int32) {g : Nat} (hM : S.2.2.2.1.1 p = true) (o1 : S.1 29 p 1 2 = nI (k + 1)) (hn : k < 16) (g1 : S.1 31 p 1 k = nI g) (hg : g < 602) : X_15 G t r p a S = some (nI 0, siI (siL S 30 p 1 k (if S.2.1 30 p 1 k = 0 ∧ g < 2 then 1 else 0)) 31 p 1 k (nI 0)) := by
  have rw1 : rwS S p 1 (k + 1) := ⟨xr1 hM, o1, show k + 1 ≤ 16 by omega⟩
  have e1 := f_110 (G := G) (t := t) rw1 (i := k) (by omega) g1 (by omega)
  unfold X_15
  by_cases c : S.2.1 30 p 1 k = 0 ∧ g < 2
  · rw [if_pos c] at e1 ⊢
    simp (disch := first | assumption | omega) only [gI, gI2, gL, gL1, gL2, jcLT, jcGE, jcGT, jcLE, jcEQ, jcNE, dEQ, nIt, lgNE, lgEQ, lgGE, lgLT, lgGT, lgLE, jinT, nIc, nI0, nI1, nIo, nIs, nI_add, nIm, nIn0, szl0, szl1, szl2, szl3, szl4, szl5, Nat.add_sub_assoc, Nat.add_zero, Nat.reduceSub, Nat.reduceAdd, Nat.reduceMul, Nat.reduceEqDiff,  jifT, bdS, sifN, sifS, omN, omS, cdI, x25, x26, x27, x28, x29, x30, x31, x32, xr0, xr1, xr2, xr3, xr4, xr5, if_pos, if_neg, true_and, and_true, false_and, and_false, and_self, Bool.and_true, if_true, if_false, reduceIte, cond_true, cond_false, not_true_eq_false, not_false_eq_true, F_116_314, F_114, F_114_28, F_28, hM, o1, e1]
  · rw [if_neg c] at e1 ⊢
    simp (disch := first | assumption | omega) only [gI, gI2, gL, gL1, gL2, jcLT, jcGE, jcGT, jcLE, jcEQ, jcNE, dEQ, nIt, lgNE, lgEQ, lgGE, lgLT, lgGT, lgLE, jinT, nIc, nI0, nI1, nIo, nIs, nI_add, nIm, nIn0, szl0, szl1, szl2, szl3, szl4, szl5, Nat.add_sub_assoc, Nat.add_zero, Nat.reduceSub, Nat.reduceAdd, Nat.reduceMul, Nat.reduceEqDiff,  jifT, bdS, sifN, sifS, omN, omS, cdI, x25, x26, x27, x28, x29, x30, x31, x32, xr0, xr1, xr2, xr3, xr4, xr5, if_pos, if_neg, true_and, and_true, false_and, and_false, and_self, Bool.and_true, if_true, if_false, reduceIte, cond_true, cond_false, not_true_eq_false, not_false_eq_true, F_116_314, F_114, F_114_28, F_28, hM, o1, e1]
set_option maxHeartbeats 4000000 in
set_option linter.unusedSimpArgs false in
theorem w_15 {T1 : sS} {TT : Int64 → sS} {y : Int64} {kn : Nat} (a : Int32) (q0 : F_156 G t (r, 0) (nI 1) T = some (nI 1, T1)) (v1 : T1.1 47 0 0 0 = nI kn) (v2 : T1.2.1 48 0 0 0 = y) (ha : kn ≤ 2) (q1 : ∀ v, F_157 G t (r, 0) (nI 0) v T1 = some (nI 1, TT v)) : W_15 G t r d a T = some ((), TT (if kn = 1 ∨ kn = 0 ∧ y = 0 then 1 else 0)) := by
  unfold W_15
  by_cases c : kn = 1
  · simp (disch := first | assumption | omega) only [gI, gI2, gL, gL1, gL2, jcLT, jcGE, jcGT, jcLE, jcEQ, jcNE, dEQ, nIt, lgNE, lgEQ, lgGE, lgLT, lgGT, lgLE, jinT, nIc, nI0, nI1, nIo, nIs, nI_add, nIm, nIn0, szl0, szl1, szl2, szl3, szl4, szl5, Nat.add_sub_assoc, Nat.add_zero, Nat.reduceSub, Nat.reduceAdd, Nat.reduceMul, Nat.reduceEqDiff,  jifT, bdS, sifN, sifS, omN, omS, cdI, x25, x26, x27, x28, x29, x30, x31, x32, xr0, xr1, xr2, xr3, xr4, xr5, if_pos, if_neg, true_and, and_true, false_and, and_false, and_self, Bool.and_true, if_true, if_false, reduceIte, cond_true, cond_false, not_true_eq_false, not_false_eq_true, x51, x52, x53, x54, x55, x56, x57, x58, x59, x60, x61, x62, x63, F_188_559, F_188_563, F_188_564, F_160, F_160_12, q0, v1, v2, q1, true_or]
  · by_cases c1 : kn = 0
    · by_cases c2 : y = 0
      · simp (disch := first | assumption | omega) only [gI, gI2, gL, gL1, gL2, jcLT, jcGE, jcGT, jcLE, jcEQ, jcNE, dEQ, nIt, lgNE, lgEQ, lgGE, lgLT, lgGT, lgLE, jinT, nIc, nI0, nI1, nIo, nIs, nI_add, nIm, nIn0, szl0, szl1, szl2, szl3, szl4, szl5, Nat.add_sub_assoc, Nat.add_zero, Nat.reduceSub, Nat.reduceAdd, Nat.reduceMul, Nat.reduceEqDiff,  jifT, bdS, sifN, sifS, omN, omS, cdI, x25, x26, x27, x28, x29, x30, x31, x32, xr0, xr1, xr2, xr3, xr4, xr5, if_pos, if_neg, true_and, and_true, false_and, and_false, and_self, Bool.and_true, if_true, if_false, reduceIte, cond_true, cond_false, not_true_eq_false, not_false_eq_true, x51, x52, x53, x54, x55, x56, x57, x58, x59, x60, x61, x62, x63, F_188_559, F_188_563, F_188_564, F_160, F_160_12, q0, v1, v2, q1, eq_true c2, eq_true c1, eq_false c, or_true]
      · simp (disch := first | assumption | omega) only [gI, gI2, gL, gL1, gL2, jcLT, jcGE, jcGT, jcLE, jcEQ, jcNE, dEQ, nIt, lgNE, lgEQ, lgGE, lgLT, lgGT, lgLE, jinT, nIc, nI0, nI1, nIo, nIs, nI_add, nIm, nIn0, szl0, szl1, szl2, szl3, szl4, szl5, Nat.add_sub_assoc, Nat.add_zero, Nat.reduceSub, Nat.reduceAdd, Nat.reduceMul, Nat.reduceEqDiff,  jifT, bdS, sifN, sifS, omN, omS, cdI, x25, x26, x27, x28, x29, x30, x31, x32, xr0, xr1, xr2, xr3, xr4, xr5, if_pos, if_neg, true_and, and_true, false_and, and_false, and_self, Bool.and_true, if_true, if_false, reduceIte, cond_true, cond_false, not_true_eq_false, not_false_eq_true, x51, x52, x53, x54, x55, x56, x57, x58, x59, x60, x61, x62, x63, F_188_559, F_188_563, F_188_564, F_160, F_160_12, q0, v1, v2, q1, eq_false c2, eq_true c1, eq_false c, or_false]
    · simp (disch := first | assumption | omega) only [gI, gI2, gL, gL1, gL2, jcLT, jcGE, jcGT, jcLE, jcEQ, jcNE, dEQ, nIt, lgNE, lgEQ, lgGE, lgLT, lgGT, lgLE, jinT, nIc, nI0, nI1, nIo, nIs, nI_add, nIm, nIn0, szl0, szl1, szl2, szl3, szl4, szl5, Nat.add_sub_assoc, Nat.add_zero, Nat.reduceSub, Nat.reduceAdd, Nat.reduceMul, Nat.reduceEqDiff,  jifT, bdS, sifN, sifS, omN, omS, cdI, x25, x26, x27, x28, x29, x30, x31, x32, xr0, xr1, xr2, xr3, xr4, xr5, if_pos, if_neg, true_and, and_true, false_and, and_false, and_self, Bool.and_true, if_true, if_false, reduceIte, cond_true, cond_false, not_true_eq_false, not_false_eq_true, x51, x52, x53, x54, x55, x56, x57, x58, x59, x60, x61, x62, x63, F_188_559, F_188_563, F_188_564, F_160, F_160_12, q0, v1, v2, q1, eq_false c1, eq_false c, or_false]
theorem cx.top (ht : 1000 < t) (h : cx φ D F N P S T A r d p f pc (k + 1) m) : ∃ g kn, S.1 31 p 1 k = nI g ∧ T.1 58 r d k = nI kn ∧ g < 602 ∧ kn ≤ 2 ∧ ((g = 0 ↔ kn = 0) ∧ (g = 1 ↔ kn = 1) ∧ (g = 0 → S.2.1 30 p 1 k = T.2.1 62 r d k) ∧ (g ≠ 0 → S.2.1 30 p 1 k = 0)) ∧
    (mpS T r d (k + 1) 1).1 47 0 0 0 = nI kn ∧ (mpS T r d (k + 1) 1).2.1 48 0 0 0 = T.2.1 62 r d k ∧ F_156 G t (r, 0) (nI 1) T = some (nI 1, mpS T r d (k + 1) 1) ∧ vr φ D (S.2.1 30 p 1 k) (S.1 31 p 1 k) (T.1 58 r d k) (T.2.1 62 r d k) := by
  obtain ⟨hM, o1, o2, hn, hr, d2, d3⟩ := h.rd
  have o4 := h.fr.2.2.2.1.2.2.2
  obtain ⟨ga, ka, a1, a2, a3, a4, a5, a6, a7, a8⟩ := (o4 k (by omega)).ix h.D6
  obtain ⟨v1, v2⟩ := mpS_v T r d (k + 1) (i := 0) 1 (by omega)
  exact ⟨ga, ka, a1, a2, a3, a4, ⟨a5, a6, a7, a8⟩, v1.trans a2, v2, e_156 (by omega) hr d3 hn d2 o2 (by omega), o4 k (by omega)⟩
set_option maxHeartbeats 4000000 in
set_option linter.unusedSimpArgs false in
theorem i_15 (ht : 1000 < t) (h : cx φ D F N P S T A r d p f pc (k + 1) m) (hpc : pc < P.2.2.2.1 f) (a : Int32) : insR φ D F N P S T A r p G t 1 (X_15 G t r p a S) (W_15 G t r d a T) := by
  obtain ⟨hM, o1, o2, hn, hr, d2, d3⟩ := h.rd
  obtain ⟨g, kn, a1, a2, a3, a4, a5, v1, v2, q0, hv⟩ := h.top (G := G) ht
  have o4 := h.fr.2.2.2.1.2.2.2
  have key := zkey a1 a2 a5
  have e1 := w_15 (d := d) (TT := fun v => mpu (mpS T r d (k + 1) 1) r d k (nI 0) v) a q0 v1 v2 a4 (fun v => e_157p (k := 1) ht hr d3 hn d2 o2 (by omega))
  have ev : (if (kn = 1 ∨ kn = 0 ∧ T.2.1 62 r d k = 0) then (1 : Int64) else 0) = (if (S.2.1 30 p 1 k = 0 ∧ g < 2) then 1 else 0) := ite_congr (propext key.symm) (fun _ => rfl) (fun _ => rfl)
  rw [ev] at e1
  have ec := x_15 (G := G) (t := t) (r := r) a hM o1 (by omega) a1 a3
  generalize (if (S.2.1 30 p 1 k = 0 ∧ g < 2) then (1 : Int64) else 0) = vv at e1 ec
  refine ⟨_, _, cD_ok ec, e1, h.ok (agr.i (agr.l (agr.refl _ _) _ _ (by omega)) _ _ (by omega)) rfl ((mp_ag T r d (k + 1) 1).trans (mu_ag _ _ _ _ _ _)) (mpS_2 _ _ _ _ _) (pc' := pc) (n' := k + 1) (m' := m) ?_ hpc⟩
  refine h.fr.ops (agr.i (agr.l (agr.refl _ _) _ _ (by omega)) _ _ (by omega)) hM ((tk.pops _ _ _ _ _).trans (tk.push _ _ _ _ _ _)) (by omega) ?_ (mpu_r _ _ _ _ _ _ 0).2.2.1 (fun i hi => ?_)
  · rw [siI_ne _ _ _ (by omega)]
    exact o1
  · rw [(mpu_r _ _ _ _ _ _ i).1, (mpu_r _ _ _ _ _ _ i).2.1, (mpS_r _ _ _ _ _).1, (mpS_r _ _ _ _ _).2.1]
    clear h q0 v1 v2 e1 key ev ec
    by_cases c : i = k
    · subst c
      simp (disch := first | assumption | omega) only [gI, gI2, gL, gL1, gL2, jcLT, jcGE, jcGT, jcLE, jcEQ, jcNE, dEQ, nIt, lgNE, lgEQ, lgGE, lgLT, lgGT, lgLE, jinT, nIc, nI0, nI1, nIo, nIs, nI_add, nIm, nIn0, szl0, szl1, szl2, szl3, szl4, szl5, Nat.add_sub_assoc, Nat.add_zero, Nat.reduceSub, Nat.reduceAdd, Nat.reduceMul, Nat.reduceEqDiff,  jifT, bdS, sifN, sifS, omN, omS, cdI, x25, x26, x27, x28, x29, x30, x31, x32, xr0, xr1, xr2, xr3, xr4, xr5, if_pos, if_neg, true_and, and_true, false_and, and_false, and_self, Bool.and_true, if_true, if_false, reduceIte, cond_true, cond_false, not_true_eq_false, not_false_eq_true]
      exact Or.inl ⟨rfl, rfl, rfl⟩
    · simp (disch := first | assumption | omega) only [gI, gI2, gL, gL1, gL2, jcLT, jcGE, jcGT, jcLE, jcEQ, jcNE, dEQ, nIt, lgNE, lgEQ, lgGE, lgLT, lgGT, lgLE, jinT, nIc, nI0, nI1, nIo, nIs, nI_add, nIm, nIn0, szl0, szl1, szl2, szl3, szl4, szl5, Nat.add_sub_assoc, Nat.add_zero, Nat.reduceSub, Nat.reduceAdd, Nat.reduceMul, Nat.reduceEqDiff,  jifT, bdS, sifN, sifS, omN, omS, cdI, x25, x26, x27, x28, x29, x30, x31, x32, xr0, xr1, xr2, xr3, xr4, xr5, if_pos, if_neg, true_and, and_true, false_and, and_false, and_self, Bool.and_true, if_true, if_false, reduceIte, cond_true, cond_false, not_true_eq_false, not_false_eq_true]
      exact o4 i (by omega)
set_option maxHeartbeats 4000000 in
set_option linter.unusedSimpArgs false in
theorem i_3 (ht : 1000 < t) (h : cx φ D F N P S T A r d p f pc (k + 1) m) (hpc : pc < P.2.2.2.1 f) {j : Nat} (hl : P.2.1 f ≤ 12) (hj : j < P.2.1 f) : insR φ D F N P S T A r p G t 1 (X_3 G t r p (nI j) S) (W_3 G t r d (nI j) T) := by
  obtain ⟨hM, o1, o2, hn, hr, d2, d3⟩ := h.rd
  obtain ⟨g, kn, a1, a2, a3, a4, a5, v1, v2, q0, hv⟩ := h.top (G := G) ht
  have l1 := h.fr.2.2.2.2.2.1.1
  have e1 := x_3 (G := G) (t := t) (r := r) hM o1 (by omega) l1 hl hj
  rw [siI_comm _ _ _ _ _ (by omega)] at e1
  refine ⟨_, siL (siI (mpS T r d (k + 1) 1) 57 r d j (T.1 58 r d k)) 61 r d j (T.2.1 62 r d k), cD_ok e1, ?_, h.ok ?_ rfl ?_ (mpS_2 _ _ _ _ _) (pc' := pc) (n' := k) (m' := m) ((h.fr.pops 1).setl hv) hpc⟩
  · clear h hv l1 e1 a5
    rw [a2]
    unfold W_3
    simp (disch := first | assumption | omega) only [gI, gI2, gL, gL1, gL2, jcLT, jcGE, jcGT, jcLE, jcEQ, jcNE, dEQ, nIt, lgNE, lgEQ, lgGE, lgLT, lgGT, lgLE, jinT, nIc, nI0, nI1, nIo, nIs, nI_add, nIm, nIn0, szl0, szl1, szl2, szl3, szl4, szl5, Nat.add_sub_assoc, Nat.add_zero, Nat.reduceSub, Nat.reduceAdd, Nat.reduceMul, Nat.reduceEqDiff,  jifT, bdS, sifN, sifS, omN, omS, cdI, x25, x26, x27, x28, x29, x30, x31, x32, xr0, xr1, xr2, xr3, xr4, xr5, if_pos, if_neg, true_and, and_true, false_and, and_false, and_self, Bool.and_true, if_true, if_false, reduceIte, cond_true, cond_false, not_true_eq_false, not_false_eq_true, x51, x52, x53, x54, x55, x56, x57, x58, x59, x60, x61, x62, x63, q0, v1, v2]
  · exact agr.i (agr.i (agr.l (agr.refl _ _) _ _ (by omega)) _ _ (by omega)) _ _ (by omega)
  · exact (mp_ag T r d (k + 1) 1).trans (agr.l (agr.i (agr.refl _ _) _ _ (by omega)) _ _ (by omega))
end PLC
