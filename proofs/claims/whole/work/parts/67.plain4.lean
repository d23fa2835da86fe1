/-! Plain instructions: jumps, deferred calls, returns, panics, recovery. -/
def tkL : List Nat := [0, 0, 0, 1, 0, 1, 1, 1, 2, 2, 2, 2, 2, 2, 2, 1, 0, 1, 0, 1, 0, 0, 1, 2, 2, 3, 1, 0, 2, 1, 1, 0, 0, 1, 1, 1, 0]
def gvL : List Nat := [1, 1, 1, 0, 1, 0, 2, 0, 2, 1, 1, 1, 1, 1, 1, 1, 0, 0, 1, 0, 0, 1, 1, 0, 1, 0, 1, 1, 0, 2, 0, 2, 0, 0, 0, 0, 1]
/-! the class's tables of how many operands are taken and pushed -/
def gG (G : jG) : Prop := (G 1).1 = 37 ∧ (G 2).1 = 37 ∧ ∀ o, o < 37 → (G 1).2 o = nI (tkL.getD o 0) ∧ (G 2).2 o = nI (gvL.getD o 0)
section PLD
variable {φ : Nat → Nat} {D : Nat → Prop} {F N : Nat} {P : aP} {S S' T T' : sS} {A : aS} {r d p f pc n m e b k : Nat} {G : jG} {t : Nat}
set_option maxHeartbeats 4000000 in
set_option linter.unusedSimpArgs false in
theorem x_16 (hG : gG G) {j : Nat} (hM : S.2.2.2.1.1 p = true) (o1 : S.1 29 p 1 2 = nI n) (hn : n ≤ 16) : X_16 G t r p (nI j) S = some (nI 0, siI (siI S 27 p 0 6 (nI j)) 29 p 1 2 (nI n)) := by
  have e6 : F_76 G t (p, 1) (nI 0) (siI S 27 p 0 6 (nI j)) = some ((), siI (siI S 27 p 0 6 (nI j)) 29 p 1 2 (nI n)) := f_76 (sz := n) ⟨xr1 hM, by rw [siI_ne _ _ _ (by omega)]; exact o1, hn⟩ (by omega)
  have g1 := hG.1
  have g2 : (G 1).2 16 = nI 0 := (hG.2.2 16 (by omega)).1
  clear hG
  unfold X_16
  simp (disch := first | assumption | omega) only [gI, gI2, gL, gL1, gL2, jcLT, jcGE, jcGT, jcLE, jcEQ, jcNE, dEQ, nIt, lgNE, lgEQ, lgGE, lgLT, lgGT, lgLE, jinT, nIc, nI0, nI1, nIo, nIs, nI_add, nIm, nIn0, szl0, szl1, szl2, szl3, szl4, szl5, Nat.add_sub_assoc, Nat.add_zero, Nat.reduceSub, Nat.reduceAdd, Nat.reduceMul, Nat.reduceEqDiff,  jifT, bdS, sifN, sifS, omN, omS, cdI, x25, x26, x27, x28, x29, x30, x31, x32, xr0, xr1, xr2, xr3, xr4, xr5, if_pos, if_neg, true_and, and_true, false_and, and_false, and_self, Bool.and_true, if_true, if_false, reduceIte, cond_true, cond_false, not_true_eq_false, not_false_eq_true, F_116_303, F_111, F_111_27, F_111_32, hM, g1, g2, e6]
set_option maxHeartbeats 4000000 in
set_option linter.unusedSimpArgs false in
theorem i_16 (hG : gG G) (h : cx φ D F N P S T A r d p f pc n m) {j : Nat} (hj : j < P.2.2.2.1 f) : insR φ D F N P S T A r p G t 0 (X_16 G t r p (nI j) S) (W_16 G t r d (nI j) T) := by
  obtain ⟨hM, o1, o2, hn, hr, d2, d3⟩ := h.rd
  refine ⟨_, siI T 56 r d 1 (nI j), cD_ok (x_16 hG hM o1 hn), ?_, h.ok (agr.i (agr.i (agr.refl _ _) _ _ (by omega)) _ _ (by omega)) rfl (agr.i (agr.refl _ _) _ _ (by omega)) rfl (pc' := j) (n' := n) (m' := m) ?_ hj⟩
  · clear h
    unfold W_16
    simp (disch := first | assumption | omega) only [gI, gI2, gL, gL1, gL2, jcLT, jcGE, jcGT, jcLE, jcEQ, jcNE, dEQ, nIt, lgNE, lgEQ, lgGE, lgLT, lgGT, lgLE, jinT, nIc, nI0, nI1, nIo, nIs, nI_add, nIm, nIn0, szl0, szl1, szl2, szl3, szl4, szl5, Nat.add_sub_assoc, Nat.add_zero, Nat.reduceSub, Nat.reduceAdd, Nat.reduceMul, Nat.reduceEqDiff,  jifT, bdS, sifN, sifS, omN, omS, cdI, x25, x26, x27, x28, x29, x30, x31, x32, xr0, xr1, xr2, xr3, xr4, xr5, if_pos, if_neg, true_and, and_true, false_and, and_false, and_self, Bool.and_true, if_true, if_false, reduceIte, cond_true, cond_false, not_true_eq_false, not_false_eq_true, x51, x52, x53, x54, x55, x56, x57, x58, x59, x60, x61, x62, x63]
  · have fr := h.fr.jump (j := j) (by omega)
    refine fr.ops (agr.i (agr.refl _ _) _ _ (by omega)) hM ⟨fun _ _ _ _ _ _ => ⟨rfl, rfl⟩, fun _ _ => rfl, rfl⟩ hn (siI_at _ _ _ _ _ _) fr.2.2.2.1.2.1 (fun i hi => ?_)
    rw [siI_ne _ _ _ (by omega)]
    exact fr.2.2.2.1.2.2.2 i hi
set_option maxHeartbeats 4000000 in
set_option linter.unusedSimpArgs false in
theorem x_17 (hG : gG G) {j g : Nat} (hM : S.2.2.2.1.1 p = true) (o1 : S.1 29 p 1 2 = nI (k + 1)) (hn : k < 16) (g1 : S.1 31 p 1 k = nI g) (hg : g < 602) : X_17 G t r p (nI j) S = some (nI 0, if S.2.1 30 p 1 k = 0 ∧ g < 2 then siI (siI S 27 p 0 6 (nI j)) 29 p 1 2 (nI k) else siI S 29 p 1 2 (nI k)) := by
  have rw1 : rwS S p 1 (k + 1) := ⟨xr1 hM, o1, show k + 1 ≤ 16 by omega⟩
  have e1 := f_110 (G := G) (t := t) rw1 (i := k) (by omega) g1 (by omega)
  have e6 : F_76 G t (p, 1) (nI 1) (siI S 27 p 0 6 (nI j)) = some ((), siI (siI S 27 p 0 6 (nI j)) 29 p 1 2 (nI k)) := f_76 (sz := k + 1) ⟨xr1 hM, by rw [siI_ne _ _ _ (by omega)]; exact o1, show k + 1 ≤ 16 by omega⟩ (by omega)
  have e7 : F_76 G t (p, 1) (nI 1) S = some ((), siI S 29 p 1 2 (nI k)) := f_76 (sz := k + 1) rw1 (by omega)
  have y1 := hG.1
  have y2 : (G 1).2 17 = nI 1 := (hG.2.2 17 (by omega)).1
  clear hG
  unfold X_17
  by_cases c : S.2.1 30 p 1 k = 0 ∧ g < 2
  · rw [if_pos c] at e1 ⊢
    simp (disch := first | assumption | omega) only [gI, gI2, gL, gL1, gL2, jcLT, jcGE, jcGT, jcLE, jcEQ, jcNE, dEQ, nIt, lgNE, lgEQ, lgGE, lgLT, lgGT, lgLE, jinT, nIc, nI0, nI1, nIo, nIs, nI_add, nIm, nIn0, szl0, szl1, szl2, szl3, szl4, szl5, Nat.add_sub_assoc, Nat.add_zero, Nat.reduceSub, Nat.reduceAdd, Nat.reduceMul, Nat.reduceEqDiff,  jifT, bdS, sifN, sifS, omN, omS, cdI, x25, x26, x27, x28, x29, x30, x31, x32, xr0, xr1, xr2, xr3, xr4, xr5, if_pos, if_neg, true_and, and_true, false_and, and_false, and_self, Bool.and_true, if_true, if_false, reduceIte, cond_true, cond_false, not_true_eq_false, not_false_eq_true, F_116_303, F_111, F_111_27, F_111_32, hM, o1, y1, y2, e1, e6]
  · rw [if_neg c] at e1 ⊢
    simp (disch := first | assumption | omega) only [gI, gI2, gL, gL1, gL2, jcLT, jcGE, jcGT, jcLE, jcEQ, jcNE, dEQ, nIt, lgNE, lgEQ, lgGE, lgLT, lgGT, lgLE, jinT, nIc, nI0, nI1, nIo, nIs, nI_add, nIm, nIn0, szl0, szl1, szl2, szl3, szl4, szl5, Nat.add_sub_assoc, Nat.add_zero, Nat.reduceSub, Nat.reduceAdd, Nat.reduceMul, Nat.reduceEqDiff,  jifT, bdS, sifN, sifS, omN, omS, cdI, x25, x26, x27, x28, x29, x30, x31, x32, xr0, xr1, xr2, xr3, xr4, xr5, if_pos, if_neg, true_and, and_true, false_and, and_false, and_self, Bool.and_true, if_true, if_false, reduceIte, cond_true, cond_false, not_true_eq_false, not_false_eq_true, F_116_303, F_111, F_111_27, F_111_32, hM, o1, y1, y2, e1, e7]
set_option maxHeartbeats 4000000 in
set_option linter.unusedSimpArgs false in
theorem w_17 {T1 : sS} {y : Int64} {kn j : Nat} (hr : r < 16) (d3 : d < 30) (q0 : F_156 G t (r, 0) (nI 1) T = some (nI 1, T1)) (v1 : T1.1 47 0 0 0 = nI kn) (v2 : T1.2.1 48 0 0 0 = y) (ha : kn ≤ 2) : W_17 G t r d (nI j) T = some ((), if kn = 1 ∨ kn = 0 ∧ y = 0 then siI T1 56 r d 1 (nI j) else T1) := by
  unfold W_17
  by_cases c : kn = 1
  · simp (disch := first | assumption | omega) only [gI, gI2, gL, gL1, gL2, jcLT, jcGE, jcGT, jcLE, jcEQ, jcNE, dEQ, nIt, lgNE, lgEQ, lgGE, lgLT, lgGT, lgLE, jinT, nIc, nI0, nI1, nIo, nIs, nI_add, nIm, nIn0, szl0, szl1, szl2, szl3, szl4, szl5, Nat.add_sub_assoc, Nat.add_zero, Nat.reduceSub, Nat.reduceAdd, Nat.reduceMul, Nat.reduceEqDiff,  jifT, bdS, sifN, sifS, omN, omS, cdI, x25, x26, x27, x28, x29, x30, x31, x32, xr0, xr1, xr2, xr3, xr4, xr5, if_pos, if_neg, true_and, and_true, false_and, and_false, and_self, Bool.and_true, if_true, if_false, reduceIte, cond_true, cond_false, not_true_eq_false, not_false_eq_true, x51, x52, x53, x54, x55, x56, x57, x58, x59, x60, x61, x62, x63, F_188_614, q0, v1, v2, true_or]
  · by_cases c1 : kn = 0
    · by_cases c2 : y = 0
      · simp (disch := first | assumption | omega) only [gI, gI2, gL, gL1, gL2, jcLT, jcGE, jcGT, jcLE, jcEQ, jcNE, dEQ, nIt, lgNE, lgEQ, lgGE, lgLT, lgGT, lgLE, jinT, nIc, nI0, nI1, nIo, nIs, nI_add, nIm, nIn0, szl0, szl1, szl2, szl3, szl4, szl5, Nat.add_sub_assoc, Nat.add_zero, Nat.reduceSub, Nat.reduceAdd, Nat.reduceMul, Nat.reduceEqDiff,  jifT, bdS, sifN, sifS, omN, omS, cdI, x25, x26, x27, x28, x29, x30, x31, x32, xr0, xr1, xr2, xr3, xr4, xr5, if_pos, if_neg, true_and, and_true, false_and, and_false, and_self, Bool.and_true, if_true, if_false, reduceIte, cond_true, cond_false, not_true_eq_false, not_false_eq_true, x51, x52, x53, x54, x55, x56, x57, x58, x59, x60, x61, x62, x63, F_188_614, q0, v1, v2, eq_true c2, eq_true c1, eq_false c, or_true]
      · simp (disch := first | assumption | omega) only [gI, gI2, gL, gL1, gL2, jcLT, jcGE, jcGT, jcLE, jcEQ, jcNE, dEQ, nIt, lgNE, lgEQ, lgGE, lgLT, lgGT, lgLE, jinT, nIc, nI0, nI1, nIo, nIs, nI_add, nIm, nIn0, szl0, szl1, szl2, szl3, szl4, szl5, Nat.add_sub_assoc, Nat.add_zero, Nat.reduceSub, Nat.reduceAdd, Nat.reduceMul, Nat.reduceEqDiff,  jifT, bdS, sifN, sifS, omN, omS, cdI, x25, x26, x27, x28, x29, x30, x31, x32, xr0, xr1, xr2, xr3, xr4, xr5, if_pos, if_neg, true_and, and_true, false_and, and_false, and_self, Bool.and_true, if_true, if_false, reduceIte, cond_true, cond_false, not_true_eq_false, not_false_eq_true, x51, x52, x53, x54, x55, x56, x57, x58, x59, x60, x61, x62, x63, F_188_614, q0, v1, v2, eq_false c2, eq_true c1, eq_false c, or_false]
    · simp (disch := first | assumption | omega) only [gI, gI2, gL, gL1, gL2, jcLT, jcGE, jcGT, jcLE, jcEQ, jcNE, dEQ, nIt, lgNE, lgEQ, lgGE, lgLT, lgGT, lgLE, jinT, nIc, nI0, nI1, nIo, nIs, nI_add, nIm, nIn0, szl0, szl1, szl2, szl3, szl4, szl5, Nat.add_sub_assoc, Nat.add_zero, Nat.reduceSub, Nat.reduceAdd, Nat.reduceMul, Nat.reduceEqDiff,  jifT, bdS, sifN, sifS, omN, omS, cdI, x25, x26, x27, x28, x29, x30, x31, x32, xr0, xr1, xr2, xr3, xr4, xr5, if_pos, if_neg, true_and, and_true, false_and, and_false, and_self, Bool.and_true, if_true, if_false, reduceIte, cond_true, cond_false, not_true_eq_false, not_false_eq_true, x51, x52, x53, x54, x55, x56, x57, x58, x59, x60, x61, x62, x63, F_188_614, q0, v1, v2, eq_false c1, eq_false c, or_false]
theorem i_17 (hG : gG G) (ht : 1000 < t) (h : cx φ D F N P S T A r d p f pc (k + 1) m) (hpc : pc < P.2.2.2.1 f) {j : Nat} (hj : j < P.2.2.2.1 f) : insR φ D F N P S T A r p G t 1 (X_17 G t r p (nI j) S) (W_17 G t r d (nI j) T) := by
  obtain ⟨hM, o1, o2, hn, hr, d2, d3⟩ := h.rd
  obtain ⟨g, kn, a1, a2, a3, a4, a5, v1, v2, q0, hv⟩ := h.top (G := G) ht
  have key := zkey a1 a2 a5
  have e1 := w_17 (j := j) hr d3 q0 v1 v2 a4
  have ec := x_17 (t := t) (r := r) (j := j) hG hM o1 (by omega) a1 a3
  by_cases c : S.2.1 30 p 1 k = 0 ∧ g < 2
  · rw [if_pos c] at ec
    rw [if_pos (key.mp c)] at e1
    refine ⟨_, _, cD_ok ec, e1, h.ok (agr.i (agr.i (agr.refl _ _) _ _ (by omega)) _ _ (by omega)) rfl ((mp_ag T r d (k + 1) 1).trans (agr.i (agr.refl _ _) _ _ (by omega))) (mpS_2 _ _ _ _ _) (pc' := j) (n' := k) (m' := m) ?_ hj⟩
    rw [siI_comm _ _ _ _ _ (by omega)]
    exact (h.fr.pops 1).jump (by omega)
  · rw [if_neg c] at ec
    rw [if_neg (fun z => c (key.mpr z))] at e1
    exact ⟨_, _, cD_ok ec, e1, h.ok (dr_ag S p k) rfl (mp_ag T r d (k + 1) 1) (mpS_2 _ _ _ _ _) (h.fr.pops 1) hpc⟩
set_option maxHeartbeats 4000000 in
set_option linter.unusedSimpArgs false in
theorem x_34 {q : Nat} (hM : S.2.2.2.1.1 p = true) (o1 : S.1 29 p 1 2 = nI (k + 1)) (hn : k < 16) (d1 : S.1 29 p 2 2 = nI m) (hm : m < 6) : X_34 G t r p (nI q) S = some (nI 0, siI (rpush (siI S 28 p 0 m (nI q)) p 2 m (S.2.1 30 p 1 k) (S.1 31 p 1 k)) 29 p 1 2 (nI k)) := by
  have e6 : F_76 G t (p, 1) (nI 1) (rpush (siI S 28 p 0 m (nI q)) p 2 m (S.2.1 30 p 1 k) (S.1 31 p 1 k)) = some ((), siI (rpush (siI S 28 p 0 m (nI q)) p 2 m (S.2.1 30 p 1 k) (S.1 31 p 1 k)) 29 p 1 2 (nI k)) := f_76 (sz := k + 1) ⟨xr1 hM, by unfold rpush; simp (disch := first | assumption | omega) only [gI, gI2, gL, gL1, gL2, jcLT, jcGE, jcGT, jcLE, jcEQ, jcNE, dEQ, nIt, lgNE, lgEQ, lgGE, lgLT, lgGT, lgLE, jinT, nIc, nI0, nI1, nIo, nIs, nI_add, nIm, nIn0, szl0, szl1, szl2, szl3, szl4, szl5, Nat.add_sub_assoc, Nat.add_zero, Nat.reduceSub, Nat.reduceAdd, Nat.reduceMul, Nat.reduceEqDiff,  jifT, bdS, sifN, sifS, omN, omS, cdI, x25, x26, x27, x28, x29, x30, x31, x32, xr0, xr1, xr2, xr3, xr4, xr5, if_pos, if_neg, true_and, and_true, false_and, and_false, and_self, Bool.and_true, if_true, if_false, reduceIte, cond_true, cond_false, not_true_eq_false, not_false_eq_true, o1], show k + 1 ≤ 16 by omega⟩ (by omega)
  have e8 : F_78 G t (p, 2) (S.2.1 30 p 1 k) (S.1 31 p 1 k) (siI S 28 p 0 m (nI q)) = some ((), rpush (siI S 28 p 0 m (nI q)) p 2 m (S.2.1 30 p 1 k) (S.1 31 p 1 k)) := f_78 (sz := m) ⟨xr2 hM, by rw [siI_ne _ _ _ (by omega)]; exact d1, show m ≤ 6 by omega⟩ (show m < 6 by omega)
  have e9 : (rpush (siI S 28 p 0 m (nI q)) p 2 m (S.2.1 30 p 1 k) (S.1 31 p 1 k)).2.2 = S.2.2 := rfl
  unfold X_34
  simp (disch := first | assumption | omega) only [gI, gI2, gL, gL1, gL2, jcLT, jcGE, jcGT, jcLE, jcEQ, jcNE, dEQ, nIt, lgNE, lgEQ, lgGE, lgLT, lgGT, lgLE, jinT, nIc, nI0, nI1, nIo, nIs, nI_add, nIm, nIn0, szl0, szl1, szl2, szl3, szl4, szl5, Nat.add_sub_assoc, Nat.add_zero, Nat.reduceSub, Nat.reduceAdd, Nat.reduceMul, Nat.reduceEqDiff,  jifT, bdS, sifN, sifS, omN, omS, cdI, x25, x26, x27, x28, x29, x30, x31, x32, xr0, xr1, xr2, xr3, xr4, xr5, if_pos, if_neg, true_and, and_true, false_and, and_false, and_self, Bool.and_true, if_true, if_false, reduceIte, cond_true, cond_false, not_true_eq_false, not_false_eq_true, F_108, F_26, F_27, hM, o1, d1, e8, e6, e9]
set_option maxHeartbeats 4000000 in
set_option linter.unusedSimpArgs false in
theorem x_34f {a : Int32} (hM : S.2.2.2.1.1 p = true) (d1 : S.1 29 p 2 2 = nI 6) : X_34 G t r p a S = some (-3, S) := by
  unfold X_34
  simp (disch := first | assumption | omega) only [gI, gI2, gL, gL1, gL2, jcLT, jcGE, jcGT, jcLE, jcEQ, jcNE, dEQ, nIt, lgNE, lgEQ, lgGE, lgLT, lgGT, lgLE, jinT, nIc, nI0, nI1, nIo, nIs, nI_add, nIm, nIn0, szl0, szl1, szl2, szl3, szl4, szl5, Nat.add_sub_assoc, Nat.add_zero, Nat.reduceSub, Nat.reduceAdd, Nat.reduceMul, Nat.reduceEqDiff,  jifT, bdS, sifN, sifS, omN, omS, cdI, x25, x26, x27, x28, x29, x30, x31, x32, xr0, xr1, xr2, xr3, xr4, xr5, if_pos, if_neg, true_and, and_true, false_and, and_false, and_self, Bool.and_true, if_true, if_false, reduceIte, cond_true, cond_false, not_true_eq_false, not_false_eq_true, F_108, hM, d1]
set_option maxHeartbeats 4000000 in
set_option linter.unusedSimpArgs false in
theorem w_34 {T1 : sS} {y : Int64} {kk : Int32} {q : Nat} (hr : r < 16) (d3 : d < 30) (q0 : F_156 G t (r, 0) (nI 1) T = some (nI 1, T1)) (v1 : T1.1 47 0 0 0 = kk) (v2 : T1.2.1 48 0 0 0 = y) (hm : T1.1 56 r d 3 = nI m) (hm2 : m < 6) : W_34 G t r d (nI q) T = some ((), siI (siL (siI (siI T1 60 r d m (nI q)) 59 r d m kk) 63 r d m y) 56 r d 3 (nI (m + 1))) := by
  unfold W_34
  simp (disch := first | assumption | omega) only [gI, gI2, gL, gL1, gL2, jcLT, jcGE, jcGT, jcLE, jcEQ, jcNE, dEQ, nIt, lgNE, lgEQ, lgGE, lgLT, lgGT, lgLE, jinT, nIc, nI0, nI1, nIo, nIs, nI_add, nIm, nIn0, szl0, szl1, szl2, szl3, szl4, szl5, Nat.add_sub_assoc, Nat.add_zero, Nat.reduceSub, Nat.reduceAdd, Nat.reduceMul, Nat.reduceEqDiff,  jifT, bdS, sifN, sifS, omN, omS, cdI, x25, x26, x27, x28, x29, x30, x31, x32, xr0, xr1, xr2, xr3, xr4, xr5, if_pos, if_neg, true_and, and_true, false_and, and_false, and_self, Bool.and_true, if_true, if_false, reduceIte, cond_true, cond_false, not_true_eq_false, not_false_eq_true, x51, x52, x53, x54, x55, x56, x57, x58, x59, x60, x61, x62, x63, q0, v1, v2, hm]
set_option maxHeartbeats 4000000 in
set_option linter.unusedSimpArgs false in
theorem w_34f {T1 T2 : sS} {a : Int32} (hr : r < 16) (d3 : d < 30) (q0 : F_156 G t (r, 0) (nI 1) T = some (nI 1, T1)) (hm : T1.1 56 r d 3 = nI 6) (q1 : F_155 G t (r, 0) (-3) T1 = some ((), T2)) : W_34 G t r d a T = some ((), T2) := by
  unfold W_34
  simp (disch := first | assumption | omega) only [gI, gI2, gL, gL1, gL2, jcLT, jcGE, jcGT, jcLE, jcEQ, jcNE, dEQ, nIt, lgNE, lgEQ, lgGE, lgLT, lgGT, lgLE, jinT, nIc, nI0, nI1, nIo, nIs, nI_add, nIm, nIn0, szl0, szl1, szl2, szl3, szl4, szl5, Nat.add_sub_assoc, Nat.add_zero, Nat.reduceSub, Nat.reduceAdd, Nat.reduceMul, Nat.reduceEqDiff,  jifT, bdS, sifN, sifS, omN, omS, cdI, x25, x26, x27, x28, x29, x30, x31, x32, xr0, xr1, xr2, xr3, xr4, xr5, if_pos, if_neg, true_and, and_true, false_and, and_false, and_self, Bool.and_true, if_true, if_false, reduceIte, cond_true, cond_false, not_true_eq_false, not_false_eq_true, x51, x52, x53, x54, x55, x56, x57, x58, x59, x60, x61, x62, x63, q0, hm, q1]
theorem i_34 (ht : 1000 < t) (h : cx φ D F N P S T A r d p f pc (k + 1) m) (hpc : pc < P.2.2.2.1 f) {q : Nat} (hq : q < F) (hq1 : P.1 q = 1) : insR φ D F N P S T A r p G t 1 (X_34 G t r p (nI q) S) (W_34 G t r d (nI q) T) := by
  obtain ⟨hM, o1, o2, hn, hr, d2, d3⟩ := h.rd
  obtain ⟨g, kn, a1, a2, a3, a4, a5, v1, v2, q0, hv⟩ := h.top (G := G) ht
  have dd := h.fr.2.2.2.2.1
  have hm3 : (mpS T r d (k + 1) 1).1 56 r d 3 = nI m := by rw [mpS_56 _ _ _ _ (by omega)]; exact dd.2.1
  have hm6 := dd.2.2.1
  by_cases c : m = 6
  · subst c
    obtain ⟨S', T', r1, r2, r3⟩ := h.panp (G := G) ht 1 (by omega) neg3.1 neg3.2 (x_34f (r := r) hM dd.1)
    exact ⟨S', T', r1, w_34f hr d3 q0 hm3 r2, r3⟩
  · have ec := x_34 (G := G) (t := t) (r := r) (q := q) hM o1 (by omega) dd.1 (by omega)
    have e1 := w_34 (q := q) hr d3 q0 (v1.trans a2.symm) v2 hm3 (by omega)
    refine ⟨_, _, cD_ok ec, e1, h.ok ?_ rfl ?_ (mpS_2 _ _ _ _ _) (pc' := pc) (n' := k) (m' := m + 1) ?_ hpc⟩
    · exact agr.i (agr.i (agr.i (agr.l (agr.i (agr.refl _ _) _ _ (by omega)) _ _ (by omega)) _ _ (by omega)) _ _ (by omega)) _ _ (by omega)
    · exact (mp_ag T r d (k + 1) 1).trans (agr.i (agr.l (agr.i (agr.i (agr.refl _ _) _ _ (by omega)) _ _ (by omega)) _ _ (by omega)) _ _ (by omega))
    · have e2 := (h.fr.pops 1).defr (by omega) hq hq1 hv
      have e3 : siI (rpush (siI S 28 p 0 m (nI q)) p 2 m (S.2.1 30 p 1 k) (S.1 31 p 1 k)) 29 p 1 2 (nI k) = rpush (siI (siI S 29 p 1 2 (nI (k + 1 - 1))) 28 p 0 m (nI q)) p 2 m (S.2.1 30 p 1 k) (S.1 31 p 1 k) := by
        unfold rpush
        rw [siI_comm (siI (siL (siI S 28 p 0 m (nI q)) 30 p 2 m (S.2.1 30 p 1 k)) 31 p 2 m (S.1 31 p 1 k)) 2 2 (nI (m + 1)) (nI k) (show ¬ (29 = 29 ∧ p = p ∧ 2 = 1) by omega), siI_comm (siL (siI S 28 p 0 m (nI q)) 30 p 2 m (S.2.1 30 p 1 k)) m 2 (S.1 31 p 1 k) (nI k) (show ¬ (31 = 29 ∧ p = p ∧ 2 = 1) by omega)]
        show siI (siI (siL (siI (siI S 28 p 0 m (nI q)) 29 p 1 2 (nI k)) 30 p 2 m _) 31 p 2 m _) 29 p 2 2 _ = _
        rw [siI_comm S _ _ _ _ (show ¬ (28 = 29 ∧ p = p ∧ 0 = 1) by omega)]
        rfl
      rw [e3]
      exact e2
set_option maxHeartbeats 4000000 in
set_option linter.unusedSimpArgs false in
theorem x_35 {a : Int32} (hr : r < 16) (hM : S.2.2.2.1.1 p = true) (o1 : S.1 29 p 1 2 = nI (k + 1)) (hn : k < 16) (g1 : S.1 31 p 1 k = nI 0) {S2 : sS} (q1 : F_81 G t (r, 0) (nI 2) (S.2.1 30 p 1 k) (nI 0) (siI S 29 p 1 2 (nI k)) = some ((), S2)) : X_35 G t r p a S = some (nI 0, S2) := by
  have rw1 : rwS S p 1 (k + 1) := ⟨xr1 hM, o1, show k + 1 ≤ 16 by omega⟩
  have e1 := f_103 (G := G) (t := t) rw1 (i := k) (by omega) g1 (by omega)
  have e2 := f_26 (G := G) (t := t) rw1 (i := k) (by omega)
  have e7 : F_76 G t (p, 1) (nI 1) S = some ((), siI S 29 p 1 2 (nI k)) := f_76 (sz := k + 1) rw1 (by omega)
  unfold X_35
  simp (disch := first | assumption | omega) only [gI, gI2, gL, gL1, gL2, jcLT, jcGE, jcGT, jcLE, jcEQ, jcNE, dEQ, nIt, lgNE, lgEQ, lgGE, lgLT, lgGT, lgLE, jinT, nIc, nI0, nI1, nIo, nIs, nI_add, nIm, nIn0, szl0, szl1, szl2, szl3, szl4, szl5, Nat.add_sub_assoc, Nat.add_zero, Nat.reduceSub, Nat.reduceAdd, Nat.reduceMul, Nat.reduceEqDiff,  jifT, bdS, sifN, sifS, omN, omS, cdI, x25, x26, x27, x28, x29, x30, x31, x32, xr0, xr1, xr2, xr3, xr4, xr5, if_pos, if_neg, true_and, and_true, false_and, and_false, and_self, Bool.and_true, if_true, if_false, reduceIte, cond_true, cond_false, not_true_eq_false, not_false_eq_true, F_116_272, F_107, hM, o1, e1, e2, e7, q1]
set_option maxHeartbeats 4000000 in
set_option linter.unusedSimpArgs false in
theorem x_35n {a : Int32} {g : Nat} (hM : S.2.2.2.1.1 p = true) (o1 : S.1 29 p 1 2 = nI (k + 1)) (hn : k < 16) (g1 : S.1 31 p 1 k = nI g) (hg : g < 602) (h0 : g ≠ 0) : X_35 G t r p a S = some (-2, S) := by
  have rw1 : rwS S p 1 (k + 1) := ⟨xr1 hM, o1, show k + 1 ≤ 16 by omega⟩
  have e1 := f_103 (G := G) (t := t) rw1 (i := k) (by omega) g1 (by omega)
  unfold X_35
  simp (disch := first | assumption | omega) only [gI, gI2, gL, gL1, gL2, jcLT, jcGE, jcGT, jcLE, jcEQ, jcNE, dEQ, nIt, lgNE, lgEQ, lgGE, lgLT, lgGT, lgLE, jinT, nIc, nI0, nI1, nIo, nIs, nI_add, nIm, nIn0, szl0, szl1, szl2, szl3, szl4, szl5, Nat.add_sub_assoc, Nat.add_zero, Nat.reduceSub, Nat.reduceAdd, Nat.reduceMul, Nat.reduceEqDiff,  jifT, bdS, sifN, sifS, omN, omS, cdI, x25, x26, x27, x28, x29, x30, x31, x32, xr0, xr1, xr2, xr3, xr4, xr5, if_pos, if_neg, true_and, and_true, false_and, and_false, and_self, Bool.and_true, if_true, if_false, reduceIte, cond_true, cond_false, not_true_eq_false, not_false_eq_true, F_116_272, F_107, hM, o1, e1]
set_option maxHeartbeats 4000000 in
set_option linter.unusedSimpArgs false in
theorem w_35 {T1 T2 : sS} {a : Int32} (q0 : F_156 G t (r, 0) (nI 1) T = some (nI 1, T1)) (v1 : T1.1 47 0 0 0 = nI 0) (q1 : F_155 G t (r, 0) (T1.2.1 48 0 0 0) T1 = some ((), T2)) : W_35 G t r d a T = some ((), T2) := by
  unfold W_35
  simp (disch := first | assumption | omega) only [gI, gI2, gL, gL1, gL2, jcLT, jcGE, jcGT, jcLE, jcEQ, jcNE, dEQ, nIt, lgNE, lgEQ, lgGE, lgLT, lgGT, lgLE, jinT, nIc, nI0, nI1, nIo, nIs, nI_add, nIm, nIn0, szl0, szl1, szl2, szl3, szl4, szl5, Nat.add_sub_assoc, Nat.add_zero, Nat.reduceSub, Nat.reduceAdd, Nat.reduceMul, Nat.reduceEqDiff,  jifT, bdS, sifN, sifS, omN, omS, cdI, x25, x26, x27, x28, x29, x30, x31, x32, xr0, xr1, xr2, xr3, xr4, xr5, if_pos, if_neg, true_and, and_true, false_and, and_false, and_self, Bool.and_true, if_true, if_false, reduceIte, cond_true, cond_false, not_true_eq_false, not_false_eq_true, x51, x52, x53, x54, x55, x56, x57, x58, x59, x60, x61, x62, x63, F_188_1120, F_158, jfb, q0, v1, q1]
set_option maxHeartbeats 4000000 in
set_option linter.unusedSimpArgs false in
theorem w_35n {T1 T2 : sS} {a : Int32} {kn : Nat} (q0 : F_156 G t (r, 0) (nI 1) T = some (nI 1, T1)) (v1 : T1.1 47 0 0 0 = nI kn) (hk : kn ≤ 2) (h0 : kn ≠ 0) (q1 : F_155 G t (r, 0) (-2) T1 = some ((), T2)) : W_35 G t r d a T = some ((), T2) := by
  unfold W_35
  simp (disch := first | assumption | omega) only [gI, gI2, gL, gL1, gL2, jcLT, jcGE, jcGT, jcLE, jcEQ, jcNE, dEQ, nIt, lgNE, lgEQ, lgGE, lgLT, lgGT, lgLE, jinT, nIc, nI0, nI1, nIo, nIs, nI_add, nIm, nIn0, szl0, szl1, szl2, szl3, szl4, szl5, Nat.add_sub_assoc, Nat.add_zero, Nat.reduceSub, Nat.reduceAdd, Nat.reduceMul, Nat.reduceEqDiff,  jifT, bdS, sifN, sifS, omN, omS, cdI, x25, x26, x27, x28, x29, x30, x31, x32, xr0, xr1, xr2, xr3, xr4, xr5, if_pos, if_neg, true_and, and_true, false_and, and_false, and_self, Bool.and_true, if_true, if_false, reduceIte, cond_true, cond_false, not_true_eq_false, not_false_eq_true, x51, x52, x53, x54, x55, x56, x57, x58, x59, x60, x61, x62, x63, F_188_1120, F_158, jfb, q0, v1, q1]
theorem i_35 (ht : 1000 < t) (h : cx φ D F N P S T A r d p f pc (k + 1) m) (a : Int32) : insR φ D F N P S T A r p G t 1 (X_35 G t r p a S) (W_35 G t r d a T) := by
  obtain ⟨hM, o1, o2, hn, hr, d2, d3⟩ := h.rd
  obtain ⟨g, kn, a1, a2, a3, a4, a5, v1, v2, q0, hv⟩ := h.top (G := G) ht
  by_cases c : g = 0
  · have c1 := a5.1.mp c
    have c2 := a5.2.2.1 c
    rw [c] at a1
    rw [c1] at v1
    obtain ⟨h1, h2, h3, h4, h5, h6, h7⟩ := id h
    obtain ⟨S', T', r1, r2, r3⟩ := h1.panic (G := G) ht h2 h3 h4 h5 h6 (dr_ag S p k) rfl (mp_ag T r d (k + 1) 1) (mpS_2 _ _ _ _ _) (h.fr.pops 1) (S.2.1 30 p 1 k)
    refine ⟨S', T', cD_ok (x_35 hr hM o1 (by omega) a1 r1), w_35 q0 v1 ?_, r3⟩
    rw [v2, ← c2]
    exact r2
  · obtain ⟨S', T', r1, r2, r3⟩ := h.panp (G := G) ht 1 (by omega) neg2.1 neg2.2 (x_35n (r := r) (a := a) hM o1 (by omega) a1 a3 c)
    exact ⟨S', T', r1, w_35n q0 v1 a4 (by omega) r2, r3⟩
set_option maxHeartbeats 4000000 in
set_option linter.unusedSimpArgs false in
theorem x_19 {a : Int32} (hr : r < 16) (hM : S.2.2.2.1.1 p = true) (o1 : S.1 29 p 1 2 = nI (k + 1)) (hn : k < 16) {S2 : sS} (q1 : F_81 G t (r, 0) (nI 1) (S.2.1 30 p 1 k) (S.1 31 p 1 k) (siI S 29 p 1 2 (nI k)) = some ((), S2)) : X_19 G t r p a S = some (nI 0, S2) := by
  have rw1 : rwS S p 1 (k + 1) := ⟨xr1 hM, o1, show k + 1 ≤ 16 by omega⟩
  have e2 := f_26 (G := G) (t := t) rw1 (i := k) (by omega)
  have e3 := f_27 (G := G) (t := t) rw1 (i := k) (by omega)
  have e7 : F_76 G t (p, 1) (nI 1) S = some ((), siI S 29 p 1 2 (nI k)) := f_76 (sz := k + 1) rw1 (by omega)
  unfold X_19
  simp (disch := first | assumption | omega) only [gI, gI2, gL, gL1, gL2, jcLT, jcGE, jcGT, jcLE, jcEQ, jcNE, dEQ, nIt, lgNE, lgEQ, lgGE, lgLT, lgGT, lgLE, jinT, nIc, nI0, nI1, nIo, nIs, nI_add, nIm, nIn0, szl0, szl1, szl2, szl3, szl4, szl5, Nat.add_sub_assoc, Nat.add_zero, Nat.reduceSub, Nat.reduceAdd, Nat.reduceMul, Nat.reduceEqDiff,  jifT, bdS, sifN, sifS, omN, omS, cdI, x25, x26, x27, x28, x29, x30, x31, x32, xr0, xr1, xr2, xr3, xr4, xr5, if_pos, if_neg, true_and, and_true, false_and, and_false, and_self, Bool.and_true, if_true, if_false, reduceIte, cond_true, cond_false, not_true_eq_false, not_false_eq_true, hM, o1, e2, e3, e7, q1]
set_option maxHeartbeats 4000000 in
set_option linter.unusedSimpArgs false in
theorem w_19 {T1 T2 : sS} {a : Int32} (hr : r < 16) (d3 : d < 30) (q0 : F_156 G t (r, 0) (nI 1) T = some (nI 1, T1)) (q1 : F_154_0 G t t (r, 0) (siL (siI (siI T1 56 r d 4 (nI 1)) 56 r d 7 (T1.1 47 0 0 0)) 56 r d 8 (T1.2.1 48 0 0 0)) = some ((), T2)) : W_19 G t r d a T = some ((), T2) := by
  unfold W_19
  simp (disch := first | assumption | omega) only [gI, gI2, gL, gL1, gL2, jcLT, jcGE, jcGT, jcLE, jcEQ, jcNE, dEQ, nIt, lgNE, lgEQ, lgGE, lgLT, lgGT, lgLE, jinT, nIc, nI0, nI1, nIo, nIs, nI_add, nIm, nIn0, szl0, szl1, szl2, szl3, szl4, szl5, Nat.add_sub_assoc, Nat.add_zero, Nat.reduceSub, Nat.reduceAdd, Nat.reduceMul, Nat.reduceEqDiff,  jifT, bdS, sifN, sifS, omN, omS, cdI, x25, x26, x27, x28, x29, x30, x31, x32, xr0, xr1, xr2, xr3, xr4, xr5, if_pos, if_neg, true_and, and_true, false_and, and_false, and_self, Bool.and_true, if_true, if_false, reduceIte, cond_true, cond_false, not_true_eq_false, not_false_eq_true, x51, x52, x53, x54, x55, x56, x57, x58, x59, x60, x61, x62, x63, F_154, q0, q1]
theorem i_19 (ht : 1000 < t) (h : cx φ D F N P S T A r d p f pc (k + 1) m) (a : Int32) : insR φ D F N P S T A r p G t 1 (X_19 G t r p a S) (W_19 G t r d a T) := by
  obtain ⟨hM, o1, o2, hn, hr, d2, d3⟩ := h.rd
  obtain ⟨g, kn, a1, a2, a3, a4, a5, v1, v2, q0, hv⟩ := h.top (G := G) ht
  have d1 := h.d3.1
  obtain ⟨h1, h2, h3, h4, h5, h6, h7⟩ := id h
  obtain ⟨S', T', r1, r2, r3⟩ := h1.ended (G := G) ht h2 h3 h4 h5 h6 (S1 := endS (siI S 29 p 1 2 (nI k)) p 1 (S.2.1 30 p 1 k) (S.1 31 p 1 k)) (T1 := siL (siI (siI (mpS T r d (k + 1) 1) 56 r d 4 (nI 1)) 56 r d 7 (T.1 58 r d k)) 56 r d 8 (T.2.1 62 r d k)) ((dr_ag S p k).trans (endS_ag _ _ _ _ _)) rfl ((mp_ag T r d (k + 1) 1).trans (agr.l (agr.i (agr.i (agr.refl _ _) _ _ (by omega)) _ _ (by omega)) _ _ (by omega))) (mpS_2 _ _ _ _ _) ((h.fr.pops 1).end1 hv) (by omega)
  refine ⟨S', T', cD_ok (x_19 hr hM o1 (by omega) ?_), w_19 hr d3 q0 ?_, r3⟩
  · rw [e_81 (S := siI S 29 p 1 2 (nI k)) (d := d) (p := p) hr (by rw [siI_ne _ _ _ (by omega)]; exact d1) d3 h6 hM]
    exact r1
  · rw [v1, v2, ← a2]
    exact r2
end PLD
