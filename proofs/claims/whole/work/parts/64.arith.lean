/-! Plain instructions: arithmetic. printed by gen64.py -/
theorem vr.ix {φ : Nat → Nat} {D : Nat → Prop} {x v : Int64} {g k : Int32} (h : vr φ D x g k v) (hD : ∀ h, D h → h < 600) : ∃ gn kn, g = nI gn ∧ k = nI kn ∧ gn < 602 ∧ kn ≤ 2 ∧ (gn = 0 ↔ kn = 0) ∧ (gn = 1 ↔ kn = 1) ∧ (gn = 0 → x = v) ∧ (gn ≠ 0 → x = 0) := by
  rcases h with ⟨h1, h2, h3⟩ | ⟨h1, h2, h3⟩ | ⟨q, h0, h1, h2, h3, h4⟩
  · exact ⟨0, 0, h1, h2, by omega, by omega, by omega, by omega, fun _ => h3, fun z => absurd rfl z⟩
  · exact ⟨1, 1, h1, h2, by omega, by omega, by omega, by omega, fun z => by omega, fun _ => h3⟩
  · have := hD q h0
    exact ⟨q + 2, 2, h1, h2, by omega, by omega, by omega, by omega, fun z => by omega, fun _ => h3⟩
section ARI
variable {φ : Nat → Nat} {D : Nat → Prop} {F N : Nat} {P : aP} {S S' T T' : sS} {A : aS} {r d p f pc n m e b k : Nat} {G : jG} {t : Nat}
theorem cx.D6 (h : cx φ D F N P S T A r d p f pc n m) : ∀ x, D x → x < 600 := fun x hx => (h.1.2.2.2.2.1.1 x hx).1
set_option maxHeartbeats 4000000 in
set_option linter.unusedSimpArgs false in
theorem x_9 (a : Int32) (hM : S.2.2.2.1.1 p = true) (o1 : S.1 29 p 1 2 = nI (k + 2)) (hn : k < 15) (g1 : S.1 31 p 1 (k + 1) = nI 0) (g0 : S.1 31 p 1 k = nI 0) : X_9 G t r p a S = some (nI 0, rpush (siI S 29 p 1 2 (nI k)) p 1 k (S.2.1 30 p 1 k + S.2.1 30 p 1 (k + 1)) (nI 0)) := by
  have e6 : F_76 G t (p, 1) (nI 2) S = some ((), siI S 29 p 1 2 (nI k)) := f_76 (sz := k + 2) ⟨xr1 hM, o1, show k + 2 ≤ 16 by omega⟩ (by omega)
  unfold X_9
  simp (disch := first | assumption | omega) only [gI, gI2, gL, gL1, gL2, jcLT, jcGE, jcGT, jcLE, jcEQ, jcNE, dEQ, nIt, lgNE, lgEQ, lgGE, lgLT, lgGT, lgLE, jinT, nIc, nI0, nI1, nIo, nIs, nI_add, nIm, nIn0, szl0, szl1, szl2, szl3, szl4, szl5, Nat.add_sub_assoc, Nat.add_zero, Nat.reduceSub, Nat.reduceAdd, Nat.reduceMul, Nat.reduceEqDiff,  jifT, bdS, sifN, sifS, omN, omS, cdI, x25, x26, x27, x28, x29, x30, x31, x32, xr0, xr1, xr2, xr3, xr4, xr5, if_pos, if_neg, true_and, and_true, false_and, and_false, and_self, Bool.and_true, if_true, if_false, reduceIte, cond_true, cond_false, not_true_eq_false, not_false_eq_true, F_116_314, F_114, F_114_73, F_114_89, F_114_104, F_114_131, F_114_132, F_114_169, F_113, F_26, F_27, F_103, F_78, hM, o1, g1, g0, e6, ite_self]
  rfl
set_option maxHeartbeats 4000000 in
set_option linter.unusedSimpArgs false in
theorem x_9n (a : Int32) {ga gb : Nat} (hM : S.2.2.2.1.1 p = true) (o1 : S.1 29 p 1 2 = nI (k + 2)) (hn : k < 15) (g1 : S.1 31 p 1 (k + 1) = nI ga) (g0 : S.1 31 p 1 k = nI gb) (ha : ga < 602) (hb : gb < 602) (hg : ¬ (ga = 0 ∧ gb = 0)) : X_9 G t r p a S = some (-2, S) := by
  unfold X_9
  by_cases c : ga = 0
  · subst c
    simp (disch := first | assumption | omega) only [gI, gI2, gL, gL1, gL2, jcLT, jcGE, jcGT, jcLE, jcEQ, jcNE, dEQ, nIt, lgNE, lgEQ, lgGE, lgLT, lgGT, lgLE, jinT, nIc, nI0, nI1, nIo, nIs, nI_add, nIm, nIn0, szl0, szl1, szl2, szl3, szl4, szl5, Nat.add_sub_assoc, Nat.add_zero, Nat.reduceSub, Nat.reduceAdd, Nat.reduceMul, Nat.reduceEqDiff,  jifT, bdS, sifN, sifS, omN, omS, cdI, x25, x26, x27, x28, x29, x30, x31, x32, xr0, xr1, xr2, xr3, xr4, xr5, if_pos, if_neg, true_and, and_true, false_and, and_false, and_self, Bool.and_true, if_true, if_false, reduceIte, cond_true, cond_false, not_true_eq_false, not_false_eq_true, F_116_314, F_114, F_114_72, F_114_73, F_26, F_103, hM, o1, g1, g0]
  · simp (disch := first | assumption | omega) only [gI, gI2, gL, gL1, gL2, jcLT, jcGE, jcGT, jcLE, jcEQ, jcNE, dEQ, nIt, lgNE, lgEQ, lgGE, lgLT, lgGT, lgLE, jinT, nIc, nI0, nI1, nIo, nIs, nI_add, nIm, nIn0, szl0, szl1, szl2, szl3, szl4, szl5, Nat.add_sub_assoc, Nat.add_zero, Nat.reduceSub, Nat.reduceAdd, Nat.reduceMul, Nat.reduceEqDiff,  jifT, bdS, sifN, sifS, omN, omS, cdI, x25, x26, x27, x28, x29, x30, x31, x32, xr0, xr1, xr2, xr3, xr4, xr5, if_pos, if_neg, true_and, and_true, false_and, and_false, and_self, Bool.and_true, if_true, if_false, reduceIte, cond_true, cond_false, not_true_eq_false, not_false_eq_true, F_116_314, F_114, F_114_72, F_114_73, F_26, F_103, hM, o1, g1, g0]
set_option maxHeartbeats 4000000 in
set_option linter.unusedSimpArgs false in
theorem w_9 {T1 T2 : sS} {ya yb : Int64} {ka kb : Nat} (a : Int32) (hr : r < 16) (d3 : d < 30) (q0 : F_156 G t (r, 0) (nI 2) T = some (nI 1, T1)) (v1 : T1.1 47 0 0 0 = nI ka) (v2 : T1.2.1 48 0 0 0 = ya) (u1 : T1.1 47 0 0 1 = nI kb) (u2 : T1.2.1 48 0 0 1 = yb) (ha : ka ≤ 2) (hb : kb ≤ 2) (h0 : ka = 0) (h1 : kb = 0) (q1 : F_157 G t (r, 0) (nI 0) (yb + ya) T1 = some (nI 1, T2)) : W_9 G t r d a T = some ((), T2) := by
  subst h0 h1
  unfold W_9
  simp (disch := first | assumption | omega) only [gI, gI2, gL, gL1, gL2, jcLT, jcGE, jcGT, jcLE, jcEQ, jcNE, dEQ, nIt, lgNE, lgEQ, lgGE, lgLT, lgGT, lgLE, jinT, nIc, nI0, nI1, nIo, nIs, nI_add, nIm, nIn0, szl0, szl1, szl2, szl3, szl4, szl5, Nat.add_sub_assoc, Nat.add_zero, Nat.reduceSub, Nat.reduceAdd, Nat.reduceMul, Nat.reduceEqDiff,  jifT, bdS, sifN, sifS, omN, omS, cdI, x25, x26, x27, x28, x29, x30, x31, x32, xr0, xr1, xr2, xr3, xr4, xr5, if_pos, if_neg, true_and, and_true, false_and, and_false, and_self, Bool.and_true, if_true, if_false, reduceIte, cond_true, cond_false, not_true_eq_false, not_false_eq_true, x51, x52, x53, x54, x55, x56, x57, x58, x59, x60, x61, x62, x63, F_188_450, F_159, F_159_33, F_159_34, F_158, F_159_78, F_159_145, q0, v1, v2, u1, u2, jfb, q1]
set_option maxHeartbeats 4000000 in
set_option linter.unusedSimpArgs false in
theorem w_9n {T1 T2 : sS} {ya yb : Int64} {ka kb : Nat} (a : Int32) (hr : r < 16) (d3 : d < 30) (q0 : F_156 G t (r, 0) (nI 2) T = some (nI 1, T1)) (v1 : T1.1 47 0 0 0 = nI ka) (v2 : T1.2.1 48 0 0 0 = ya) (u1 : T1.1 47 0 0 1 = nI kb) (u2 : T1.2.1 48 0 0 1 = yb) (ha : ka ≤ 2) (hb : kb ≤ 2) (h0 : ¬ (ka = 0 ∧ kb = 0)) (q1 : F_155 G t (r, 0) (-2) T1 = some ((), T2)) : W_9 G t r d a T = some ((), T2) := by
  unfold W_9
  by_cases c1 : ka = 0
  · have c2 : ¬ kb = 0 := by omega
    subst c1
    simp (disch := first | assumption | omega) only [gI, gI2, gL, gL1, gL2, jcLT, jcGE, jcGT, jcLE, jcEQ, jcNE, dEQ, nIt, lgNE, lgEQ, lgGE, lgLT, lgGT, lgLE, jinT, nIc, nI0, nI1, nIo, nIs, nI_add, nIm, nIn0, szl0, szl1, szl2, szl3, szl4, szl5, Nat.add_sub_assoc, Nat.add_zero, Nat.reduceSub, Nat.reduceAdd, Nat.reduceMul, Nat.reduceEqDiff,  jifT, bdS, sifN, sifS, omN, omS, cdI, x25, x26, x27, x28, x29, x30, x31, x32, xr0, xr1, xr2, xr3, xr4, xr5, if_pos, if_neg, true_and, and_true, false_and, and_false, and_self, Bool.and_true, if_true, if_false, reduceIte, cond_true, cond_false, not_true_eq_false, not_false_eq_true, x51, x52, x53, x54, x55, x56, x57, x58, x59, x60, x61, x62, x63, F_188_450, F_159, F_159_33, F_159_34, F_158, F_159_78, F_159_145, q0, v1, v2, u1, u2, jfb, q1]
  · simp (disch := first | assumption | omega) only [gI, gI2, gL, gL1, gL2, jcLT, jcGE, jcGT, jcLE, jcEQ, jcNE, dEQ, nIt, lgNE, lgEQ, lgGE, lgLT, lgGT, lgLE, jinT, nIc, nI0, nI1, nIo, nIs, nI_add, nIm, nIn0, szl0, szl1, szl2, szl3, szl4, szl5, Nat.add_sub_assoc, Nat.add_zero, Nat.reduceSub, Nat.reduceAdd, Nat.reduceMul, Nat.reduceEqDiff,  jifT, bdS, sifN, sifS, omN, omS, cdI, x25, x26, x27, x28, x29, x30, x31, x32, xr0, xr1, xr2, xr3, xr4, xr5, if_pos, if_neg, true_and, and_true, false_and, and_false, and_self, Bool.and_true, if_true, if_false, reduceIte, cond_true, cond_false, not_true_eq_false, not_false_eq_true, x51, x52, x53, x54, x55, x56, x57, x58, x59, x60, x61, x62, x63, F_188_450, F_159, F_159_33, F_159_34, F_158, F_159_78, F_159_145, q0, v1, v2, u1, u2, jfb, q1]
theorem i_9 (ht : 1000 < t) (h : cx φ D F N P S T A r d p f pc (k + 2) m) (hpc : pc < P.2.2.2.1 f) (a : Int32) : insR φ D F N P S T A r p G t 2 (X_9 G t r p a S) (W_9 G t r d a T) := by
  obtain ⟨hM, o1, o2, hn, hr, d2, d3⟩ := h.rd
  have o4 := h.fr.2.2.2.1.2.2.2
  obtain ⟨ga, ka, a1, a2, a3, a4, a5, a6, a7, a8⟩ := (o4 (k + 1) (by omega)).ix h.D6
  obtain ⟨gb, kb, b1, b2, b3, b4, b5, b6, b7, b8⟩ := (o4 k (by omega)).ix h.D6
  obtain ⟨v1, v2⟩ := mpS_v T r d (k + 2) (i := 0) 2 (by omega)
  obtain ⟨u1, u2⟩ := mpS_v T r d (k + 2) (i := 1) 2 (by omega)
  have v1 : (mpS T r d (k + 2) 2).1 47 0 0 0 = nI ka := v1.trans a2
  have u1 : (mpS T r d (k + 2) 2).1 47 0 0 1 = nI kb := u1.trans b2
  have v2 : (mpS T r d (k + 2) 2).2.1 48 0 0 0 = T.2.1 62 r d (k + 1) := v2
  have u2 : (mpS T r d (k + 2) 2).2.1 48 0 0 1 = T.2.1 62 r d k := u2
  have q0 := e_156 (G := G) (t := t) (k := 2) (by omega) hr d3 hn d2 o2 (by omega)
  by_cases c : ga = 0 ∧ gb = 0
  · have ka0 : ka = 0 := a5.mp c.1
    have kb0 : kb = 0 := b5.mp c.2
    have a7 := a7 c.1
    have b7 := b7 c.2
    rw [c.1] at a1
    rw [c.2] at b1
    refine h.repl hpc (k := 2) (by omega) (by omega) (kk := nI 0) (v := (T.2.1 62 r d k + T.2.1 62 r d (k + 1))) (Or.inl ⟨rfl, rfl, ?_⟩) (x_9 (k := k) a hM o1 (by omega) a1 b1) ?_
    · show (S.2.1 30 p 1 k + S.2.1 30 p 1 (k + 1)) = _
      rw [a7, b7]
    · exact w_9 a hr d3 q0 v1 v2 u1 u2 a4 b4 ka0 kb0 (e_157p (k := 2) ht hr d3 hn d2 o2 (by omega))
  · obtain ⟨S', T', r1, r2, r3⟩ := h.panp (G := G) ht 2 (by omega) neg2.1 neg2.2 (x_9n (r := r) a hM o1 (by omega) a1 b1 a3 b3 c)
    exact ⟨S', T', r1, w_9n a hr d3 q0 v1 v2 u1 u2 a4 b4 (by omega) r2, r3⟩
set_option maxHeartbeats 4000000 in
set_option linter.unusedSimpArgs false in
theorem x_10 (a : Int32) (hM : S.2.2.2.1.1 p = true) (o1 : S.1 29 p 1 2 = nI (k + 2)) (hn : k < 15) (g1 : S.1 31 p 1 (k + 1) = nI 0) (g0 : S.1 31 p 1 k = nI 0) : X_10 G t r p a S = some (nI 0, rpush (siI S 29 p 1 2 (nI k)) p 1 k (S.2.1 30 p 1 k - S.2.1 30 p 1 (k + 1)) (nI 0)) := by
  have e6 : F_76 G t (p, 1) (nI 2) S = some ((), siI S 29 p 1 2 (nI k)) := f_76 (sz := k + 2) ⟨xr1 hM, o1, show k + 2 ≤ 16 by omega⟩ (by omega)
  unfold X_10
  simp (disch := first | assumption | omega) only [gI, gI2, gL, gL1, gL2, jcLT, jcGE, jcGT, jcLE, jcEQ, jcNE, dEQ, nIt, lgNE, lgEQ, lgGE, lgLT, lgGT, lgLE, jinT, nIc, nI0, nI1, nIo, nIs, nI_add, nIm, nIn0, szl0, szl1, szl2, szl3, szl4, szl5, Nat.add_sub_assoc, Nat.add_zero, Nat.reduceSub, Nat.reduceAdd, Nat.reduceMul, Nat.reduceEqDiff,  jifT, bdS, sifN, sifS, omN, omS, cdI, x25, x26, x27, x28, x29, x30, x31, x32, xr0, xr1, xr2, xr3, xr4, xr5, if_pos, if_neg, true_and, and_true, false_and, and_false, and_self, Bool.and_true, if_true, if_false, reduceIte, cond_true, cond_false, not_true_eq_false, not_false_eq_true, F_116_314, F_114, F_114_73, F_114_89, F_114_104, F_114_131, F_114_132, F_114_169, F_113, F_26, F_27, F_103, F_78, hM, o1, g1, g0, e6, ite_self]
  rfl
set_option maxHeartbeats 4000000 in
set_option linter.unusedSimpArgs false in
theorem x_10n (a : Int32) {ga gb : Nat} (hM : S.2.2.2.1.1 p = true) (o1 : S.1 29 p 1 2 = nI (k + 2)) (hn : k < 15) (g1 : S.1 31 p 1 (k + 1) = nI ga) (g0 : S.1 31 p 1 k = nI gb) (ha : ga < 602) (hb : gb < 602) (hg : ¬ (ga = 0 ∧ gb = 0)) : X_10 G t r p a S = some (-2, S) := by
  unfold X_10
  by_cases c : ga = 0
  · subst c
    simp (disch := first | assumption | omega) only [gI, gI2, gL, gL1, gL2, jcLT, jcGE, jcGT, jcLE, jcEQ, jcNE, dEQ, nIt, lgNE, lgEQ, lgGE, lgLT, lgGT, lgLE, jinT, nIc, nI0, nI1, nIo, nIs, nI_add, nIm, nIn0, szl0, szl1, szl2, szl3, szl4, szl5, Nat.add_sub_assoc, Nat.add_zero, Nat.reduceSub, Nat.reduceAdd, Nat.reduceMul, Nat.reduceEqDiff,  jifT, bdS, sifN, sifS, omN, omS, cdI, x25, x26, x27, x28, x29, x30, x31, x32, xr0, xr1, xr2, xr3, xr4, xr5, if_pos, if_neg, true_and, and_true, false_and, and_false, and_self, Bool.and_true, if_true, if_false, reduceIte, cond_true, cond_false, not_true_eq_false, not_false_eq_true, F_116_314, F_114, F_114_72, F_114_73, F_26, F_103, hM, o1, g1, g0]
  · simp (disch := first | assumption | omega) only [gI, gI2, gL, gL1, gL2, jcLT, jcGE, jcGT, jcLE, jcEQ, jcNE, dEQ, nIt, lgNE, lgEQ, lgGE, lgLT, lgGT, lgLE, jinT, nIc, nI0, nI1, nIo, nIs, nI_add, nIm, nIn0, szl0, szl1, szl2, szl3, szl4, szl5, Nat.add_sub_assoc, Nat.add_zero, Nat.reduceSub, Nat.reduceAdd, Nat.reduceMul, Nat.reduceEqDiff,  jifT, bdS, sifN, sifS, omN, omS, cdI, x25, x26, x27, x28, x29, x30, x31, x32, xr0, xr1, xr2, xr3, xr4, xr5, if_pos, if_neg, true_and, and_true, false_and, and_false, and_self, Bool.and_true, if_true, if_false, reduceIte, cond_true, cond_false, not_true_eq_false, not_false_eq_true, F_116_314, F_114, F_114_72, F_114_73, F_26, F_103, hM, o1, g1, g0]
set_option maxHeartbeats 4000000 in
set_option linter.unusedSimpArgs false in
theorem w_10 {T1 T2 : sS} {ya yb : Int64} {ka kb : Nat} (a : Int32) (hr : r < 16) (d3 : d < 30) (q0 : F_156 G t (r, 0) (nI 2) T = some (nI 1, T1)) (v1 : T1.1 47 0 0 0 = nI ka) (v2 : T1.2.1 48 0 0 0 = ya) (u1 : T1.1 47 0 0 1 = nI kb) (u2 : T1.2.1 48 0 0 1 = yb) (ha : ka ≤ 2) (hb : kb ≤ 2) (h0 : ka = 0) (h1 : kb = 0) (q1 : F_157 G t (r, 0) (nI 0) (yb - ya) T1 = some (nI 1, T2)) : W_10 G t r d a T = some ((), T2) := by
  subst h0 h1
  unfold W_10
  simp (disch := first | assumption | omega) only [gI, gI2, gL, gL1, gL2, jcLT, jcGE, jcGT, jcLE, jcEQ, jcNE, dEQ, nIt, lgNE, lgEQ, lgGE, lgLT, lgGT, lgLE, jinT, nIc, nI0, nI1, nIo, nIs, nI_add, nIm, nIn0, szl0, szl1, szl2, szl3, szl4, szl5, Nat.add_sub_assoc, Nat.add_zero, Nat.reduceSub, Nat.reduceAdd, Nat.reduceMul, Nat.reduceEqDiff,  jifT, bdS, sifN, sifS, omN, omS, cdI, x25, x26, x27, x28, x29, x30, x31, x32, xr0, xr1, xr2, xr3, xr4, xr5, if_pos, if_neg, true_and, and_true, false_and, and_false, and_self, Bool.and_true, if_true, if_false, reduceIte, cond_true, cond_false, not_true_eq_false, not_false_eq_true, x51, x52, x53, x54, x55, x56, x57, x58, x59, x60, x61, x62, x63, F_188_450, F_159, F_159_33, F_159_34, F_158, F_159_78, F_159_145, q0, v1, v2, u1, u2, jfb, q1]
set_option maxHeartbeats 4000000 in
set_option linter.unusedSimpArgs false in
theorem w_10n {T1 T2 : sS} {ya yb : Int64} {ka kb : Nat} (a : Int32) (hr : r < 16) (d3 : d < 30) (q0 : F_156 G t (r, 0) (nI 2) T = some (nI 1, T1)) (v1 : T1.1 47 0 0 0 = nI ka) (v2 : T1.2.1 48 0 0 0 = ya) (u1 : T1.1 47 0 0 1 = nI kb) (u2 : T1.2.1 48 0 0 1 = yb) (ha : ka ≤ 2) (hb : kb ≤ 2) (h0 : ¬ (ka = 0 ∧ kb = 0)) (q1 : F_155 G t (r, 0) (-2) T1 = some ((), T2)) : W_10 G t r d a T = some ((), T2) := by
  unfold W_10
  by_cases c1 : ka = 0
  · have c2 : ¬ kb = 0 := by omega
    subst c1
    simp (disch := first | assumption | omega) only [gI, gI2, gL, gL1, gL2, jcLT, jcGE, jcGT, jcLE, jcEQ, jcNE, dEQ, nIt, lgNE, lgEQ, lgGE, lgLT, lgGT, lgLE, jinT, nIc, nI0, nI1, nIo, nIs, nI_add, nIm, nIn0, szl0, szl1, szl2, szl3, szl4, szl5, Nat.add_sub_assoc, Nat.add_zero, Nat.reduceSub, Nat.reduceAdd, Nat.reduceMul, Nat.reduceEqDiff,  jifT, bdS, sifN, sifS, omN, omS, cdI, x25, x26, x27, x28, x29, x30, x31, x32, xr0, xr1, xr2, xr3, xr4, xr5, if_pos, if_neg, true_and, and_true, false_and, and_false, and_self, Bool.and_true, if_true, if_false, reduceIte, cond_true, cond_false, not_true_eq_false, not_false_eq_true, x51, x52, x53, x54, x55, x56, x57, x58, x59, x60, x61, x62, x63, F_188_450, F_159, F_159_33, F_159_34, F_158, F_159_78, F_159_145, q0, v1, v2, u1, u2, jfb, q1]
  · simp (disch := first | assumption | omega) only [gI, gI2, gL, gL1, gL2, jcLT, jcGE, jcGT, jcLE, jcEQ, jcNE, dEQ, nIt, lgNE, lgEQ, lgGE, lgLT, lgGT, lgLE, jinT, nIc, nI0, nI1, nIo, nIs, nI_add, nIm, nIn0, szl0, szl1, szl2, szl3, szl4, szl5, Nat.add_sub_assoc, Nat.add_zero, Nat.reduceSub, Nat.reduceAdd, Nat.reduceMul, Nat.reduceEqDiff,  jifT, bdS, sifN, sifS, omN, omS, cdI, x25, x26, x27, x28, x29, x30, x31, x32, xr0, xr1, xr2, xr3, xr4, xr5, if_pos, if_neg, true_and, and_true, false_and, and_false, and_self, Bool.and_true, if_true, if_false, reduceIte, cond_true, cond_false, not_true_eq_false, not_false_eq_true, x51, x52, x53, x54, x55, x56, x57, x58, x59, x60, x61, x62, x63, F_188_450, F_159, F_159_33, F_159_34, F_158, F_159_78, F_159_145, q0, v1, v2, u1, u2, jfb, q1]
theorem i_10 (ht : 1000 < t) (h : cx φ D F N P S T A r d p f pc (k + 2) m) (hpc : pc < P.2.2.2.1 f) (a : Int32) : insR φ D F N P S T A r p G t 2 (X_10 G t r p a S) (W_10 G t r d a T) := by
  obtain ⟨hM, o1, o2, hn, hr, d2, d3⟩ := h.rd
  have o4 := h.fr.2.2.2.1.2.2.2
  obtain ⟨ga, ka, a1, a2, a3, a4, a5, a6, a7, a8⟩ := (o4 (k + 1) (by omega)).ix h.D6
  obtain ⟨gb, kb, b1, b2, b3, b4, b5, b6, b7, b8⟩ := (o4 k (by omega)).ix h.D6
  obtain ⟨v1, v2⟩ := mpS_v T r d (k + 2) (i := 0) 2 (by omega)
  obtain ⟨u1, u2⟩ := mpS_v T r d (k + 2) (i := 1) 2 (by omega)
  have v1 : (mpS T r d (k + 2) 2).1 47 0 0 0 = nI ka := v1.trans a2
  have u1 : (mpS T r d (k + 2) 2).1 47 0 0 1 = nI kb := u1.trans b2
  have v2 : (mpS T r d (k + 2) 2).2.1 48 0 0 0 = T.2.1 62 r d (k + 1) := v2
  have u2 : (mpS T r d (k + 2) 2).2.1 48 0 0 1 = T.2.1 62 r d k := u2
  have q0 := e_156 (G := G) (t := t) (k := 2) (by omega) hr d3 hn d2 o2 (by omega)
  by_cases c : ga = 0 ∧ gb = 0
  · have ka0 : ka = 0 := a5.mp c.1
    have kb0 : kb = 0 := b5.mp c.2
    have a7 := a7 c.1
    have b7 := b7 c.2
    rw [c.1] at a1
    rw [c.2] at b1
    refine h.repl hpc (k := 2) (by omega) (by omega) (kk := nI 0) (v := (T.2.1 62 r d k - T.2.1 62 r d (k + 1))) (Or.inl ⟨rfl, rfl, ?_⟩) (x_10 (k := k) a hM o1 (by omega) a1 b1) ?_
    · show (S.2.1 30 p 1 k - S.2.1 30 p 1 (k + 1)) = _
      rw [a7, b7]
    · exact w_10 a hr d3 q0 v1 v2 u1 u2 a4 b4 ka0 kb0 (e_157p (k := 2) ht hr d3 hn d2 o2 (by omega))
  · obtain ⟨S', T', r1, r2, r3⟩ := h.panp (G := G) ht 2 (by omega) neg2.1 neg2.2 (x_10n (r := r) a hM o1 (by omega) a1 b1 a3 b3 c)
    exact ⟨S', T', r1, w_10n a hr d3 q0 v1 v2 u1 u2 a4 b4 (by omega) r2, r3⟩
set_option maxHeartbeats 4000000 in
set_option linter.unusedSimpArgs false in
theorem x_11 (a : Int32) (hM : S.2.2.2.1.1 p = true) (o1 : S.1 29 p 1 2 = nI (k + 2)) (hn : k < 15) (g1 : S.1 31 p 1 (k + 1) = nI 0) (g0 : S.1 31 p 1 k = nI 0) : X_11 G t r p a S = some (nI 0, rpush (siI S 29 p 1 2 (nI k)) p 1 k (S.2.1 30 p 1 k * S.2.1 30 p 1 (k + 1)) (nI 0)) := by
  have e6 : F_76 G t (p, 1) (nI 2) S = some ((), siI S 29 p 1 2 (nI k)) := f_76 (sz := k + 2) ⟨xr1 hM, o1, show k + 2 ≤ 16 by omega⟩ (by omega)
  unfold X_11
  simp (disch := first | assumption | omega) only [gI, gI2, gL, gL1, gL2, jcLT, jcGE, jcGT, jcLE, jcEQ, jcNE, dEQ, nIt, lgNE, lgEQ, lgGE, lgLT, lgGT, lgLE, jinT, nIc, nI0, nI1, nIo, nIs, nI_add, nIm, nIn0, szl0, szl1, szl2, szl3, szl4, szl5, Nat.add_sub_assoc, Nat.add_zero, Nat.reduceSub, Nat.reduceAdd, Nat.reduceMul, Nat.reduceEqDiff,  jifT, bdS, sifN, sifS, omN, omS, cdI, x25, x26, x27, x28, x29, x30, x31, x32, xr0, xr1, xr2, xr3, xr4, xr5, if_pos, if_neg, true_and, and_true, false_and, and_false, and_self, Bool.and_true, if_true, if_false, reduceIte, cond_true, cond_false, not_true_eq_false, not_false_eq_true, F_116_314, F_114, F_114_73, F_114_89, F_114_104, F_114_131, F_114_132, F_114_169, F_113, F_26, F_27, F_103, F_78, hM, o1, g1, g0, e6, ite_self]
  rfl
set_option maxHeartbeats 4000000 in
set_option linter.unusedSimpArgs false in
theorem x_11n (a : Int32) {ga gb : Nat} (hM : S.2.2.2.1.1 p = true) (o1 : S.1 29 p 1 2 = nI (k + 2)) (hn : k < 15) (g1 : S.1 31 p 1 (k + 1) = nI ga) (g0 : S.1 31 p 1 k = nI gb) (ha : ga < 602) (hb : gb < 602) (hg : ¬ (ga = 0 ∧ gb = 0)) : X_11 G t r p a S = some (-2, S) := by
  unfold X_11
  by_cases c : ga = 0
  · subst c
    simp (disch := first | assumption | omega) only [gI, gI2, gL, gL1, gL2, jcLT, jcGE, jcGT, jcLE, jcEQ, jcNE, dEQ, nIt, lgNE, lgEQ, lgGE, lgLT, lgGT, lgLE, jinT, nIc, nI0, nI1, nIo, nIs, nI_add, nIm, nIn0, szl0, szl1, szl2, szl3, szl4, szl5, Nat.add_sub_assoc, Nat.add_zero, Nat.reduceSub, Nat.reduceAdd, Nat.reduceMul, Nat.reduceEqDiff,  jifT, bdS, sifN, sifS, omN, omS, cdI, x25, x26, x27, x28, x29, x30, x31, x32, xr0, xr1, xr2, xr3, xr4, xr5, if_pos, if_neg, true_and, and_true, false_and, and_false, and_self, Bool.and_true, if_true, if_false, reduceIte, cond_true, cond_false, not_true_eq_false, not_false_eq_true, F_116_314, F_114, F_114_72, F_114_73, F_26, F_103, hM, o1, g1, g0]
  · simp (disch := first | assumption | omega) only [gI, gI2, gL, gL1, gL2, jcLT, jcGE, jcGT, jcLE, jcEQ, jcNE, dEQ, nIt, lgNE, lgEQ, lgGE, lgLT, lgGT, lgLE, jinT, nIc, nI0, nI1, nIo, nIs, nI_add, nIm, nIn0, szl0, szl1, szl2, szl3, szl4, szl5, Nat.add_sub_assoc, Nat.add_zero, Nat.reduceSub, Nat.reduceAdd, Nat.reduceMul, Nat.reduceEqDiff,  jifT, bdS, sifN, sifS, omN, omS, cdI, x25, x26, x27, x28, x29, x30, x31, x32, xr0, xr1, xr2, xr3, xr4, xr5, if_pos, if_neg, true_and, and_true, false_and, and_false, and_self, Bool.and_true, if_true, if_false, reduceIte, cond_true, cond_false, not_true_eq_false, not_false_eq_true, F_116_314, F_114, F_114_72, F_114_73, F_26, F_103, hM, o1, g1, g0]
set_option maxHeartbeats 4000000 in
set_option linter.unusedSimpArgs false in
theorem w_11 {T1 T2 : sS} {ya yb : Int64} {ka kb : Nat} (a : Int32) (hr : r < 16) (d3 : d < 30) (q0 : F_156 G t (r, 0) (nI 2) T = some (nI 1, T1)) (v1 : T1.1 47 0 0 0 = nI ka) (v2 : T1.2.1 48 0 0 0 = ya) (u1 : T1.1 47 0 0 1 = nI kb) (u2 : T1.2.1 48 0 0 1 = yb) (ha : ka ≤ 2) (hb : kb ≤ 2) (h0 : ka = 0) (h1 : kb = 0) (q1 : F_157 G t (r, 0) (nI 0) (yb * ya) T1 = some (nI 1, T2)) : W_11 G t r d a T = some ((), T2) := by
  subst h0 h1
  unfold W_11
  simp (disch := first | assumption | omega) only [gI, gI2, gL, gL1, gL2, jcLT, jcGE, jcGT, jcLE, jcEQ, jcNE, dEQ, nIt, lgNE, lgEQ, lgGE, lgLT, lgGT, lgLE, jinT, nIc, nI0, nI1, nIo, nIs, nI_add, nIm, nIn0, szl0, szl1, szl2, szl3, szl4, szl5, Nat.add_sub_assoc, Nat.add_zero, Nat.reduceSub, Nat.reduceAdd, Nat.reduceMul, Nat.reduceEqDiff,  jifT, bdS, sifN, sifS, omN, omS, cdI, x25, x26, x27, x28, x29, x30, x31, x32, xr0, xr1, xr2, xr3, xr4, xr5, if_pos, if_neg, true_and, and_true, false_and, and_false, and_self, Bool.and_true, if_true, if_false, reduceIte, cond_true, cond_false, not_true_eq_false, not_false_eq_true, x51, x52, x53, x54, x55, x56, x57, x58, x59, x60, x61, x62, x63, F_188_450, F_159, F_159_33, F_159_34, F_158, F_159_78, F_159_145, q0, v1, v2, u1, u2, jfb, q1]
set_option maxHeartbeats 4000000 in
set_option linter.unusedSimpArgs false in
theorem w_11n {T1 T2 : sS} {ya yb : Int64} {ka kb : Nat} (a : Int32) (hr : r < 16) (d3 : d < 30) (q0 : F_156 G t (r, 0) (nI 2) T = some (nI 1, T1)) (v1 : T1.1 47 0 0 0 = nI ka) (v2 : T1.2.1 48 0 0 0 = ya) (u1 : T1.1 47 0 0 1 = nI kb) (u2 : T1.2.1 48 0 0 1 = yb) (ha : ka ≤ 2) (hb : kb ≤ 2) (h0 : ¬ (ka = 0 ∧ kb = 0)) (q1 : F_155 G t (r, 0) (-2) T1 = some ((), T2)) : W_11 G t r d a T = some ((), T2) := by
  unfold W_11
  by_cases c1 : ka = 0
  · have c2 : ¬ kb = 0 := by omega
    subst c1
    simp (disch := first | assumption | omega) only [gI, gI2, gL, gL1, gL2, jcLT, jcGE, jcGT, jcLE, jcEQ, jcNE, dEQ, nIt, lgNE, lgEQ, lgGE, lgLT, lgGT, lgLE, jinT, nIc, nI0, nI1, nIo, nIs, nI_add, nIm, nIn0, szl0, szl1, szl2, szl3, szl4, szl5, Nat.add_sub_assoc, Nat.add_zero, Nat.reduceSub, Nat.reduceAdd, Nat.reduceMul, Nat.reduceEqDiff,  jifT, bdS, sifN, sifS, omN, omS, cdI, x25, x26, x27, x28, x29, x30, x31, x32, xr0, xr1, xr2, xr3, xr4, xr5, if_pos, if_neg, true_and, and_true, false_and, and_false, and_self, Bool.and_true, if_true, if_false, reduceIte, cond_true, cond_false, not_true_eq_false, not_false_eq_true, x51, x52, x53, x54, x55, x56, x57, x58, x59, x60, x61, x62, x63, F_188_450, F_159, F_159_33, F_159_34, F_158, F_159_78, F_159_145, q0, v1, v2, u1, u2, jfb, q1]
  · simp (disch := first | assumption | omega) only [gI, gI2, gL, gL1, gL2, jcLT, jcGE, jcGT, jcLE, jcEQ, jcNE, dEQ, nIt, lgNE, lgEQ, lgGE, lgLT, lgGT, lgLE, jinT, nIc, nI0, nI1, nIo, nIs, nI_add, nIm, nIn0, szl0, szl1, szl2, szl3, szl4, szl5, Nat.add_sub_assoc, Nat.add_zero, Nat.reduceSub, Nat.reduceAdd, Nat.reduceMul, Nat.reduceEqDiff,  jifT, bdS, sifN, sifS, omN, omS, cdI, x25, x26, x27, x28, x29, x30, x31, x32, xr0, xr1, xr2, xr3, xr4, xr5, if_pos, if_neg, true_and, and_true, false_and, and_false, and_self, Bool.and_true, if_true, if_false, reduceIte, cond_true, cond_false, not_true_eq_false, not_false_eq_true, x51, x52, x53, x54, x55, x56, x57, x58, x59, x60, x61, x62, x63, F_188_450, F_159, F_159_33, F_159_34, F_158, F_159_78, F_159_145, q0, v1, v2, u1, u2, jfb, q1]
theorem i_11 (ht : 1000 < t) (h : cx φ D F N P S T A r d p f pc (k + 2) m) (hpc : pc < P.2.2.2.1 f) (a : Int32) : insR φ D F N P S T A r p G t 2 (X_11 G t r p a S) (W_11 G t r d a T) := by
  obtain ⟨hM, o1, o2, hn, hr, d2, d3⟩ := h.rd
  have o4 := h.fr.2.2.2.1.2.2.2
  obtain ⟨ga, ka, a1, a2, a3, a4, a5, a6, a7, a8⟩ := (o4 (k + 1) (by omega)).ix h.D6
  obtain ⟨gb, kb, b1, b2, b3, b4, b5, b6, b7, b8⟩ := (o4 k (by omega)).ix h.D6
  obtain ⟨v1, v2⟩ := mpS_v T r d (k + 2) (i := 0) 2 (by omega)
  obtain ⟨u1, u2⟩ := mpS_v T r d (k + 2) (i := 1) 2 (by omega)
  have v1 : (mpS T r d (k + 2) 2).1 47 0 0 0 = nI ka := v1.trans a2
  have u1 : (mpS T r d (k + 2) 2).1 47 0 0 1 = nI kb := u1.trans b2
  have v2 : (mpS T r d (k + 2) 2).2.1 48 0 0 0 = T.2.1 62 r d (k + 1) := v2
  have u2 : (mpS T r d (k + 2) 2).2.1 48 0 0 1 = T.2.1 62 r d k := u2
  have q0 := e_156 (G := G) (t := t) (k := 2) (by omega) hr d3 hn d2 o2 (by omega)
  by_cases c : ga = 0 ∧ gb = 0
  · have ka0 : ka = 0 := a5.mp c.1
    have kb0 : kb = 0 := b5.mp c.2
    have a7 := a7 c.1
    have b7 := b7 c.2
    rw [c.1] at a1
    rw [c.2] at b1
    refine h.repl hpc (k := 2) (by omega) (by omega) (kk := nI 0) (v := (T.2.1 62 r d k * T.2.1 62 r d (k + 1))) (Or.inl ⟨rfl, rfl, ?_⟩) (x_11 (k := k) a hM o1 (by omega) a1 b1) ?_
    · show (S.2.1 30 p 1 k * S.2.1 30 p 1 (k + 1)) = _
      rw [a7, b7]
    · exact w_11 a hr d3 q0 v1 v2 u1 u2 a4 b4 ka0 kb0 (e_157p (k := 2) ht hr d3 hn d2 o2 (by omega))
  · obtain ⟨S', T', r1, r2, r3⟩ := h.panp (G := G) ht 2 (by omega) neg2.1 neg2.2 (x_11n (r := r) a hM o1 (by omega) a1 b1 a3 b3 c)
    exact ⟨S', T', r1, w_11n a hr d3 q0 v1 v2 u1 u2 a4 b4 (by omega) r2, r3⟩
set_option maxHeartbeats 4000000 in
set_option linter.unusedSimpArgs false in
theorem x_12 (a : Int32) (hM : S.2.2.2.1.1 p = true) (o1 : S.1 29 p 1 2 = nI (k + 2)) (hn : k < 15) (g1 : S.1 31 p 1 (k + 1) = nI 0) (g0 : S.1 31 p 1 k = nI 0) (hz : ¬ S.2.1 30 p 1 (k + 1) = 0) : X_12 G t r p a S = some (nI 0, rpush (siI S 29 p 1 2 (nI k)) p 1 k (S.2.1 30 p 1 k / S.2.1 30 p 1 (k + 1)) (nI 0)) := by
  have e6 : F_76 G t (p, 1) (nI 2) S = some ((), siI S 29 p 1 2 (nI k)) := f_76 (sz := k + 2) ⟨xr1 hM, o1, show k + 2 ≤ 16 by omega⟩ (by omega)
  unfold X_12
  simp (disch := first | assumption | omega) only [gI, gI2, gL, gL1, gL2, jcLT, jcGE, jcGT, jcLE, jcEQ, jcNE, dEQ, nIt, lgNE, lgEQ, lgGE, lgLT, lgGT, lgLE, jinT, nIc, nI0, nI1, nIo, nIs, nI_add, nIm, nIn0, szl0, szl1, szl2, szl3, szl4, szl5, Nat.add_sub_assoc, Nat.add_zero, Nat.reduceSub, Nat.reduceAdd, Nat.reduceMul, Nat.reduceEqDiff,  jifT, bdS, sifN, sifS, omN, omS, cdI, x25, x26, x27, x28, x29, x30, x31, x32, xr0, xr1, xr2, xr3, xr4, xr5, if_pos, if_neg, true_and, and_true, false_and, and_false, and_self, Bool.and_true, if_true, if_false, reduceIte, cond_true, cond_false, not_true_eq_false, not_false_eq_true, F_116_314, F_114, F_114_73, F_114_89, F_114_104, F_114_131, F_114_132, F_114_169, F_113, F_26, F_27, F_103, F_78, hM, o1, g1, g0, e6, ite_self, eq_false hz, decide_true]
  rfl
set_option maxHeartbeats 4000000 in
set_option linter.unusedSimpArgs false in
theorem x_12n (a : Int32) {ga gb : Nat} (hM : S.2.2.2.1.1 p = true) (o1 : S.1 29 p 1 2 = nI (k + 2)) (hn : k < 15) (g1 : S.1 31 p 1 (k + 1) = nI ga) (g0 : S.1 31 p 1 k = nI gb) (ha : ga < 602) (hb : gb < 602) (hg : ¬ (ga = 0 ∧ gb = 0)) : X_12 G t r p a S = some (-2, S) := by
  unfold X_12
  by_cases c : ga = 0
  · subst c
    simp (disch := first | assumption | omega) only [gI, gI2, gL, gL1, gL2, jcLT, jcGE, jcGT, jcLE, jcEQ, jcNE, dEQ, nIt, lgNE, lgEQ, lgGE, lgLT, lgGT, lgLE, jinT, nIc, nI0, nI1, nIo, nIs, nI_add, nIm, nIn0, szl0, szl1, szl2, szl3, szl4, szl5, Nat.add_sub_assoc, Nat.add_zero, Nat.reduceSub, Nat.reduceAdd, Nat.reduceMul, Nat.reduceEqDiff,  jifT, bdS, sifN, sifS, omN, omS, cdI, x25, x26, x27, x28, x29, x30, x31, x32, xr0, xr1, xr2, xr3, xr4, xr5, if_pos, if_neg, true_and, and_true, false_and, and_false, and_self, Bool.and_true, if_true, if_false, reduceIte, cond_true, cond_false, not_true_eq_false, not_false_eq_true, F_116_314, F_114, F_114_72, F_114_73, F_26, F_103, hM, o1, g1, g0]
  · simp (disch := first | assumption | omega) only [gI, gI2, gL, gL1, gL2, jcLT, jcGE, jcGT, jcLE, jcEQ, jcNE, dEQ, nIt, lgNE, lgEQ, lgGE, lgLT, lgGT, lgLE, jinT, nIc, nI0, nI1, nIo, nIs, nI_add, nIm, nIn0, szl0, szl1, szl2, szl3, szl4, szl5, Nat.add_sub_assoc, Nat.add_zero, Nat.reduceSub, Nat.reduceAdd, Nat.reduceMul, Nat.reduceEqDiff,  jifT, bdS, sifN, sifS, omN, omS, cdI, x25, x26, x27, x28, x29, x30, x31, x32, xr0, xr1, xr2, xr3, xr4, xr5, if_pos, if_neg, true_and, and_true, false_and, and_false, and_self, Bool.and_true, if_true, if_false, reduceIte, cond_true, cond_false, not_true_eq_false, not_false_eq_true, F_116_314, F_114, F_114_72, F_114_73, F_26, F_103, hM, o1, g1, g0]
set_option maxHeartbeats 4000000 in
set_option linter.unusedSimpArgs false in
theorem x_12z (a : Int32) (hM : S.2.2.2.1.1 p = true) (o1 : S.1 29 p 1 2 = nI (k + 2)) (hn : k < 15) (g1 : S.1 31 p 1 (k + 1) = nI 0) (g0 : S.1 31 p 1 k = nI 0) (hz : S.2.1 30 p 1 (k + 1) = 0) : X_12 G t r p a S = some (-1, S) := by
  unfold X_12
  simp (disch := first | assumption | omega) only [gI, gI2, gL, gL1, gL2, jcLT, jcGE, jcGT, jcLE, jcEQ, jcNE, dEQ, nIt, lgNE, lgEQ, lgGE, lgLT, lgGT, lgLE, jinT, nIc, nI0, nI1, nIo, nIs, nI_add, nIm, nIn0, szl0, szl1, szl2, szl3, szl4, szl5, Nat.add_sub_assoc, Nat.add_zero, Nat.reduceSub, Nat.reduceAdd, Nat.reduceMul, Nat.reduceEqDiff,  jifT, bdS, sifN, sifS, omN, omS, cdI, x25, x26, x27, x28, x29, x30, x31, x32, xr0, xr1, xr2, xr3, xr4, xr5, if_pos, if_neg, true_and, and_true, false_and, and_false, and_self, Bool.and_true, if_true, if_false, reduceIte, cond_true, cond_false, not_true_eq_false, not_false_eq_true, F_116_314, F_114, F_114_73, F_114_89, F_26, F_103, hM, o1, g1, g0, eq_true hz]
set_option maxHeartbeats 4000000 in
set_option linter.unusedSimpArgs false in
theorem w_12 {T1 T2 : sS} {ya yb : Int64} {ka kb : Nat} (a : Int32) (hr : r < 16) (d3 : d < 30) (q0 : F_156 G t (r, 0) (nI 2) T = some (nI 1, T1)) (v1 : T1.1 47 0 0 0 = nI ka) (v2 : T1.2.1 48 0 0 0 = ya) (u1 : T1.1 47 0 0 1 = nI kb) (u2 : T1.2.1 48 0 0 1 = yb) (ha : ka ≤ 2) (hb : kb ≤ 2) (h0 : ka = 0) (h1 : kb = 0) (hz : ¬ ya = 0) (q1 : F_157 G t (r, 0) (nI 0) (yb / ya) T1 = some (nI 1, T2)) : W_12 G t r d a T = some ((), T2) := by
  subst h0 h1
  unfold W_12
  simp (disch := first | assumption | omega) only [gI, gI2, gL, gL1, gL2, jcLT, jcGE, jcGT, jcLE, jcEQ, jcNE, dEQ, nIt, lgNE, lgEQ, lgGE, lgLT, lgGT, lgLE, jinT, nIc, nI0, nI1, nIo, nIs, nI_add, nIm, nIn0, szl0, szl1, szl2, szl3, szl4, szl5, Nat.add_sub_assoc, Nat.add_zero, Nat.reduceSub, Nat.reduceAdd, Nat.reduceMul, Nat.reduceEqDiff,  jifT, bdS, sifN, sifS, omN, omS, cdI, x25, x26, x27, x28, x29, x30, x31, x32, xr0, xr1, xr2, xr3, xr4, xr5, if_pos, if_neg, true_and, and_true, false_and, and_false, and_self, Bool.and_true, if_true, if_false, reduceIte, cond_true, cond_false, not_true_eq_false, not_false_eq_true, x51, x52, x53, x54, x55, x56, x57, x58, x59, x60, x61, x62, x63, F_188_450, F_159, F_159_33, F_159_34, F_158, F_159_78, F_159_145, q0, v1, v2, u1, u2, jfb, q1, eq_false hz, decide_true]
set_option maxHeartbeats 4000000 in
set_option linter.unusedSimpArgs false in
theorem w_12n {T1 T2 : sS} {ya yb : Int64} {ka kb : Nat} (a : Int32) (hr : r < 16) (d3 : d < 30) (q0 : F_156 G t (r, 0) (nI 2) T = some (nI 1, T1)) (v1 : T1.1 47 0 0 0 = nI ka) (v2 : T1.2.1 48 0 0 0 = ya) (u1 : T1.1 47 0 0 1 = nI kb) (u2 : T1.2.1 48 0 0 1 = yb) (ha : ka ≤ 2) (hb : kb ≤ 2) (h0 : ¬ (ka = 0 ∧ kb = 0)) (q1 : F_155 G t (r, 0) (-2) T1 = some ((), T2)) : W_12 G t r d a T = some ((), T2) := by
  unfold W_12
  by_cases c1 : ka = 0
  · have c2 : ¬ kb = 0 := by omega
    subst c1
    simp (disch := first | assumption | omega) only [gI, gI2, gL, gL1, gL2, jcLT, jcGE, jcGT, jcLE, jcEQ, jcNE, dEQ, nIt, lgNE, lgEQ, lgGE, lgLT, lgGT, lgLE, jinT, nIc, nI0, nI1, nIo, nIs, nI_add, nIm, nIn0, szl0, szl1, szl2, szl3, szl4, szl5, Nat.add_sub_assoc, Nat.add_zero, Nat.reduceSub, Nat.reduceAdd, Nat.reduceMul, Nat.reduceEqDiff,  jifT, bdS, sifN, sifS, omN, omS, cdI, x25, x26, x27, x28, x29, x30, x31, x32, xr0, xr1, xr2, xr3, xr4, xr5, if_pos, if_neg, true_and, and_true, false_and, and_false, and_self, Bool.and_true, if_true, if_false, reduceIte, cond_true, cond_false, not_true_eq_false, not_false_eq_true, x51, x52, x53, x54, x55, x56, x57, x58, x59, x60, x61, x62, x63, F_188_450, F_159, F_159_33, F_159_34, F_158, F_159_78, F_159_145, q0, v1, v2, u1, u2, jfb, q1]
  · simp (disch := first | assumption | omega) only [gI, gI2, gL, gL1, gL2, jcLT, jcGE, jcGT, jcLE, jcEQ, jcNE, dEQ, nIt, lgNE, lgEQ, lgGE, lgLT, lgGT, lgLE, jinT, nIc, nI0, nI1, nIo, nIs, nI_add, nIm, nIn0, szl0, szl1, szl2, szl3, szl4, szl5, Nat.add_sub_assoc, Nat.add_zero, Nat.reduceSub, Nat.reduceAdd, Nat.reduceMul, Nat.reduceEqDiff,  jifT, bdS, sifN, sifS, omN, omS, cdI, x25, x26, x27, x28, x29, x30, x31, x32, xr0, xr1, xr2, xr3, xr4, xr5, if_pos, if_neg, true_and, and_true, false_and, and_false, and_self, Bool.and_true, if_true, if_false, reduceIte, cond_true, cond_false, not_true_eq_false, not_false_eq_true, x51, x52, x53, x54, x55, x56, x57, x58, x59, x60, x61, x62, x63, F_188_450, F_159, F_159_33, F_159_34, F_158, F_159_78, F_159_145, q0, v1, v2, u1, u2, jfb, q1]
set_option maxHeartbeats 4000000 in
set_option linter.unusedSimpArgs false in
theorem w_12z {T1 T2 : sS} {ya yb : Int64} {ka kb : Nat} (a : Int32) (hr : r < 16) (d3 : d < 30) (q0 : F_156 G t (r, 0) (nI 2) T = some (nI 1, T1)) (v1 : T1.1 47 0 0 0 = nI ka) (v2 : T1.2.1 48 0 0 0 = ya) (u1 : T1.1 47 0 0 1 = nI kb) (u2 : T1.2.1 48 0 0 1 = yb) (ha : ka ≤ 2) (hb : kb ≤ 2) (h0 : ka = 0) (h1 : kb = 0) (hz : ya = 0) (q1 : F_155 G t (r, 0) (-1) T1 = some ((), T2)) : W_12 G t r d a T = some ((), T2) := by
  subst h0 h1
  unfold W_12
  simp (disch := first | assumption | omega) only [gI, gI2, gL, gL1, gL2, jcLT, jcGE, jcGT, jcLE, jcEQ, jcNE, dEQ, nIt, lgNE, lgEQ, lgGE, lgLT, lgGT, lgLE, jinT, nIc, nI0, nI1, nIo, nIs, nI_add, nIm, nIn0, szl0, szl1, szl2, szl3, szl4, szl5, Nat.add_sub_assoc, Nat.add_zero, Nat.reduceSub, Nat.reduceAdd, Nat.reduceMul, Nat.reduceEqDiff,  jifT, bdS, sifN, sifS, omN, omS, cdI, x25, x26, x27, x28, x29, x30, x31, x32, xr0, xr1, xr2, xr3, xr4, xr5, if_pos, if_neg, true_and, and_true, false_and, and_false, and_self, Bool.and_true, if_true, if_false, reduceIte, cond_true, cond_false, not_true_eq_false, not_false_eq_true, x51, x52, x53, x54, x55, x56, x57, x58, x59, x60, x61, x62, x63, F_188_450, F_159, F_159_33, F_159_34, F_158, F_159_78, F_159_145, q0, v1, v2, u1, u2, jfb, eq_true hz, q1]
theorem i_12 (ht : 1000 < t) (h : cx φ D F N P S T A r d p f pc (k + 2) m) (hpc : pc < P.2.2.2.1 f) (a : Int32) : insR φ D F N P S T A r p G t 2 (X_12 G t r p a S) (W_12 G t r d a T) := by
  obtain ⟨hM, o1, o2, hn, hr, d2, d3⟩ := h.rd
  have o4 := h.fr.2.2.2.1.2.2.2
  obtain ⟨ga, ka, a1, a2, a3, a4, a5, a6, a7, a8⟩ := (o4 (k + 1) (by omega)).ix h.D6
  obtain ⟨gb, kb, b1, b2, b3, b4, b5, b6, b7, b8⟩ := (o4 k (by omega)).ix h.D6
  obtain ⟨v1, v2⟩ := mpS_v T r d (k + 2) (i := 0) 2 (by omega)
  obtain ⟨u1, u2⟩ := mpS_v T r d (k + 2) (i := 1) 2 (by omega)
  have v1 : (mpS T r d (k + 2) 2).1 47 0 0 0 = nI ka := v1.trans a2
  have u1 : (mpS T r d (k + 2) 2).1 47 0 0 1 = nI kb := u1.trans b2
  have v2 : (mpS T r d (k + 2) 2).2.1 48 0 0 0 = T.2.1 62 r d (k + 1) := v2
  have u2 : (mpS T r d (k + 2) 2).2.1 48 0 0 1 = T.2.1 62 r d k := u2
  have q0 := e_156 (G := G) (t := t) (k := 2) (by omega) hr d3 hn d2 o2 (by omega)
  by_cases c : ga = 0 ∧ gb = 0
  · have ka0 : ka = 0 := a5.mp c.1
    have kb0 : kb = 0 := b5.mp c.2
    have a7 := a7 c.1
    have b7 := b7 c.2
    rw [c.1] at a1
    rw [c.2] at b1
    by_cases cz : S.2.1 30 p 1 (k + 1) = 0
    · obtain ⟨S', T', r1, r2, r3⟩ := h.panp (G := G) ht 2 (by omega) neg1.1 neg1.2 (x_12z (r := r) a hM o1 (by omega) a1 b1 cz)
      exact ⟨S', T', r1, w_12z a hr d3 q0 v1 v2 u1 u2 a4 b4 ka0 kb0 (by rw [← a7]; exact cz) r2, r3⟩
    · refine h.repl hpc (k := 2) (by omega) (by omega) (kk := nI 0) (v := (T.2.1 62 r d k / T.2.1 62 r d (k + 1))) (Or.inl ⟨rfl, rfl, ?_⟩) (x_12 (k := k) a hM o1 (by omega) a1 b1 cz) ?_
      · show (S.2.1 30 p 1 k / S.2.1 30 p 1 (k + 1)) = _
        rw [a7, b7]
      · exact w_12 a hr d3 q0 v1 v2 u1 u2 a4 b4 ka0 kb0 (by rw [← a7]; exact cz) (e_157p (k := 2) ht hr d3 hn d2 o2 (by omega))
  · obtain ⟨S', T', r1, r2, r3⟩ := h.panp (G := G) ht 2 (by omega) neg2.1 neg2.2 (x_12n (r := r) a hM o1 (by omega) a1 b1 a3 b3 c)
    exact ⟨S', T', r1, w_12n a hr d3 q0 v1 v2 u1 u2 a4 b4 (by omega) r2, r3⟩
set_option maxHeartbeats 4000000 in
set_option linter.unusedSimpArgs false in
theorem x_13 (a : Int32) (hM : S.2.2.2.1.1 p = true) (o1 : S.1 29 p 1 2 = nI (k + 2)) (hn : k < 15) (g1 : S.1 31 p 1 (k + 1) = nI 0) (g0 : S.1 31 p 1 k = nI 0) : X_13 G t r p a S = some (nI 0, rpush (siI S 29 p 1 2 (nI k)) p 1 k (if S.2.1 30 p 1 k < S.2.1 30 p 1 (k + 1) then 1 else 0) (nI 0)) := by
  have e6 : F_76 G t (p, 1) (nI 2) S = some ((), siI S 29 p 1 2 (nI k)) := f_76 (sz := k + 2) ⟨xr1 hM, o1, show k + 2 ≤ 16 by omega⟩ (by omega)
  unfold X_13
  by_cases c2 : S.2.1 30 p 1 (k + 1) ≤ S.2.1 30 p 1 k
  · have c3 : ¬ S.2.1 30 p 1 k < S.2.1 30 p 1 (k + 1) := Int64.not_lt.mpr c2
    simp (disch := first | assumption | omega) only [gI, gI2, gL, gL1, gL2, jcLT, jcGE, jcGT, jcLE, jcEQ, jcNE, dEQ, nIt, lgNE, lgEQ, lgGE, lgLT, lgGT, lgLE, jinT, nIc, nI0, nI1, nIo, nIs, nI_add, nIm, nIn0, szl0, szl1, szl2, szl3, szl4, szl5, Nat.add_sub_assoc, Nat.add_zero, Nat.reduceSub, Nat.reduceAdd, Nat.reduceMul, Nat.reduceEqDiff,  jifT, bdS, sifN, sifS, omN, omS, cdI, x25, x26, x27, x28, x29, x30, x31, x32, xr0, xr1, xr2, xr3, xr4, xr5, if_pos, if_neg, true_and, and_true, false_and, and_false, and_self, Bool.and_true, if_true, if_false, reduceIte, cond_true, cond_false, not_true_eq_false, not_false_eq_true, F_116_314, F_114, F_114_73, F_114_89, F_114_104, F_114_131, F_114_132, F_114_169, F_113, F_26, F_27, F_103, F_78, hM, o1, g1, g0, e6, ite_self, eq_true c2, eq_false c3]
    rfl
  · have c3 : S.2.1 30 p 1 k < S.2.1 30 p 1 (k + 1) := Int64.not_le.mp c2
    simp (disch := first | assumption | omega) only [gI, gI2, gL, gL1, gL2, jcLT, jcGE, jcGT, jcLE, jcEQ, jcNE, dEQ, nIt, lgNE, lgEQ, lgGE, lgLT, lgGT, lgLE, jinT, nIc, nI0, nI1, nIo, nIs, nI_add, nIm, nIn0, szl0, szl1, szl2, szl3, szl4, szl5, Nat.add_sub_assoc, Nat.add_zero, Nat.reduceSub, Nat.reduceAdd, Nat.reduceMul, Nat.reduceEqDiff,  jifT, bdS, sifN, sifS, omN, omS, cdI, x25, x26, x27, x28, x29, x30, x31, x32, xr0, xr1, xr2, xr3, xr4, xr5, if_pos, if_neg, true_and, and_true, false_and, and_false, and_self, Bool.and_true, if_true, if_false, reduceIte, cond_true, cond_false, not_true_eq_false, not_false_eq_true, F_116_314, F_114, F_114_73, F_114_89, F_114_104, F_114_131, F_114_132, F_114_169, F_113, F_26, F_27, F_103, F_78, hM, o1, g1, g0, e6, ite_self, eq_false c2, eq_true c3]
    rfl
set_option maxHeartbeats 4000000 in
set_option linter.unusedSimpArgs false in
theorem x_13n (a : Int32) {ga gb : Nat} (hM : S.2.2.2.1.1 p = true) (o1 : S.1 29 p 1 2 = nI (k + 2)) (hn : k < 15) (g1 : S.1 31 p 1 (k + 1) = nI ga) (g0 : S.1 31 p 1 k = nI gb) (ha : ga < 602) (hb : gb < 602) (hg : ¬ (ga = 0 ∧ gb = 0)) : X_13 G t r p a S = some (-2, S) := by
  unfold X_13
  by_cases c : ga = 0
  · subst c
    simp (disch := first | assumption | omega) only [gI, gI2, gL, gL1, gL2, jcLT, jcGE, jcGT, jcLE, jcEQ, jcNE, dEQ, nIt, lgNE, lgEQ, lgGE, lgLT, lgGT, lgLE, jinT, nIc, nI0, nI1, nIo, nIs, nI_add, nIm, nIn0, szl0, szl1, szl2, szl3, szl4, szl5, Nat.add_sub_assoc, Nat.add_zero, Nat.reduceSub, Nat.reduceAdd, Nat.reduceMul, Nat.reduceEqDiff,  jifT, bdS, sifN, sifS, omN, omS, cdI, x25, x26, x27, x28, x29, x30, x31, x32, xr0, xr1, xr2, xr3, xr4, xr5, if_pos, if_neg, true_and, and_true, false_and, and_false, and_self, Bool.and_true, if_true, if_false, reduceIte, cond_true, cond_false, not_true_eq_false, not_false_eq_true, F_116_314, F_114, F_114_72, F_114_73, F_26, F_103, hM, o1, g1, g0]
  · simp (disch := first | assumption | omega) only [gI, gI2, gL, gL1, gL2, jcLT, jcGE, jcGT, jcLE, jcEQ, jcNE, dEQ, nIt, lgNE, lgEQ, lgGE, lgLT, lgGT, lgLE, jinT, nIc, nI0, nI1, nIo, nIs, nI_add, nIm, nIn0, szl0, szl1, szl2, szl3, szl4, szl5, Nat.add_sub_assoc, Nat.add_zero, Nat.reduceSub, Nat.reduceAdd, Nat.reduceMul, Nat.reduceEqDiff,  jifT, bdS, sifN, sifS, omN, omS, cdI, x25, x26, x27, x28, x29, x30, x31, x32, xr0, xr1, xr2, xr3, xr4, xr5, if_pos, if_neg, true_and, and_true, false_and, and_false, and_self, Bool.and_true, if_true, if_false, reduceIte, cond_true, cond_false, not_true_eq_false, not_false_eq_true, F_116_314, F_114, F_114_72, F_114_73, F_26, F_103, hM, o1, g1, g0]
set_option maxHeartbeats 4000000 in
set_option linter.unusedSimpArgs false in
theorem w_13 {T1 : sS} {TT : Int64 → sS} {ya yb : Int64} {ka kb : Nat} (a : Int32) (hr : r < 16) (d3 : d < 30) (q0 : F_156 G t (r, 0) (nI 2) T = some (nI 1, T1)) (v1 : T1.1 47 0 0 0 = nI ka) (v2 : T1.2.1 48 0 0 0 = ya) (u1 : T1.1 47 0 0 1 = nI kb) (u2 : T1.2.1 48 0 0 1 = yb) (ha : ka ≤ 2) (hb : kb ≤ 2) (h0 : ka = 0) (h1 : kb = 0) (q1 : ∀ v, F_157 G t (r, 0) (nI 0) v T1 = some (nI 1, TT v)) : W_13 G t r d a T = some ((), TT (if yb < ya then 1 else 0)) := by
  subst h0 h1
  unfold W_13
  by_cases c2 : ya ≤ yb
  · have c3 : ¬ yb < ya := Int64.not_lt.mpr c2
    have q1 := q1 0
    simp (disch := first | assumption | omega) only [gI, gI2, gL, gL1, gL2, jcLT, jcGE, jcGT, jcLE, jcEQ, jcNE, dEQ, nIt, lgNE, lgEQ, lgGE, lgLT, lgGT, lgLE, jinT, nIc, nI0, nI1, nIo, nIs, nI_add, nIm, nIn0, szl0, szl1, szl2, szl3, szl4, szl5, Nat.add_sub_assoc, Nat.add_zero, Nat.reduceSub, Nat.reduceAdd, Nat.reduceMul, Nat.reduceEqDiff,  jifT, bdS, sifN, sifS, omN, omS, cdI, x25, x26, x27, x28, x29, x30, x31, x32, xr0, xr1, xr2, xr3, xr4, xr5, if_pos, if_neg, true_and, and_true, false_and, and_false, and_self, Bool.and_true, if_true, if_false, reduceIte, cond_true, cond_false, not_true_eq_false, not_false_eq_true, x51, x52, x53, x54, x55, x56, x57, x58, x59, x60, x61, x62, x63, F_188_450, F_159, F_159_33, F_159_34, F_158, F_159_78, F_159_145, q0, v1, v2, u1, u2, jfb, q1, eq_true c2, eq_false c3]
  · have c3 : yb < ya := Int64.not_le.mp c2
    have q1 := q1 1
    simp (disch := first | assumption | omega) only [gI, gI2, gL, gL1, gL2, jcLT, jcGE, jcGT, jcLE, jcEQ, jcNE, dEQ, nIt, lgNE, lgEQ, lgGE, lgLT, lgGT, lgLE, jinT, nIc, nI0, nI1, nIo, nIs, nI_add, nIm, nIn0, szl0, szl1, szl2, szl3, szl4, szl5, Nat.add_sub_assoc, Nat.add_zero, Nat.reduceSub, Nat.reduceAdd, Nat.reduceMul, Nat.reduceEqDiff,  jifT, bdS, sifN, sifS, omN, omS, cdI, x25, x26, x27, x28, x29, x30, x31, x32, xr0, xr1, xr2, xr3, xr4, xr5, if_pos, if_neg, true_and, and_true, false_and, and_false, and_self, Bool.and_true, if_true, if_false, reduceIte, cond_true, cond_false, not_true_eq_false, not_false_eq_true, x51, x52, x53, x54, x55, x56, x57, x58, x59, x60, x61, x62, x63, F_188_450, F_159, F_159_33, F_159_34, F_158, F_159_78, F_159_145, q0, v1, v2, u1, u2, jfb, q1, eq_false c2, eq_true c3]
set_option maxHeartbeats 4000000 in
set_option linter.unusedSimpArgs false in
theorem w_13n {T1 T2 : sS} {ya yb : Int64} {ka kb : Nat} (a : Int32) (hr : r < 16) (d3 : d < 30) (q0 : F_156 G t (r, 0) (nI 2) T = some (nI 1, T1)) (v1 : T1.1 47 0 0 0 = nI ka) (v2 : T1.2.1 48 0 0 0 = ya) (u1 : T1.1 47 0 0 1 = nI kb) (u2 : T1.2.1 48 0 0 1 = yb) (ha : ka ≤ 2) (hb : kb ≤ 2) (h0 : ¬ (ka = 0 ∧ kb = 0)) (q1 : F_155 G t (r, 0) (-2) T1 = some ((), T2)) : W_13 G t r d a T = some ((), T2) := by
  unfold W_13
  by_cases c1 : ka = 0
  · have c2 : ¬ kb = 0 := by omega
    subst c1
    simp (disch := first | assumption | omega) only [gI, gI2, gL, gL1, gL2, jcLT, jcGE, jcGT, jcLE, jcEQ, jcNE, dEQ, nIt, lgNE, lgEQ, lgGE, lgLT, lgGT, lgLE, jinT, nIc, nI0, nI1, nIo, nIs, nI_add, nIm, nIn0, szl0, szl1, szl2, szl3, szl4, szl5, Nat.add_sub_assoc, Nat.add_zero, Nat.reduceSub, Nat.reduceAdd, Nat.reduceMul, Nat.reduceEqDiff,  jifT, bdS, sifN, sifS, omN, omS, cdI, x25, x26, x27, x28, x29, x30, x31, x32, xr0, xr1, xr2, xr3, xr4, xr5, if_pos, if_neg, true_and, and_true, false_and, and_false, and_self, Bool.and_true, if_true, if_false, reduceIte, cond_true, cond_false, not_true_eq_false, not_false_eq_true, x51, x52, x53, x54, x55, x56, x57, x58, x59, x60, x61, x62, x63, F_188_450, F_159, F_159_33, F_159_34, F_158, F_159_78, F_159_145, q0, v1, v2, u1, u2, jfb, q1]
  · simp (disch := first | assumption | omega) only [gI, gI2, gL, gL1, gL2, jcLT, jcGE, jcGT, jcLE, jcEQ, jcNE, dEQ, nIt, lgNE, lgEQ, lgGE, lgLT, lgGT, lgLE, jinT, nIc, nI0, nI1, nIo, nIs, nI_add, nIm, nIn0, szl0, szl1, szl2, szl3, szl4, szl5, Nat.add_sub_assoc, Nat.add_zero, Nat.reduceSub, Nat.reduceAdd, Nat.reduceMul, Nat.reduceEqDiff,  jifT, bdS, sifN, sifS, omN, omS, cdI, x25, x26, x27, x28, x29, x30, x31, x32, xr0, xr1, xr2, xr3, xr4, xr5, if_pos, if_neg, true_and, and_true, false_and, and_false, and_self, Bool.and_true, if_true, if_false, reduceIte, cond_true, cond_false, not_true_eq_false, not_false_eq_true, x51, x52, x53, x54, x55, x56, x57, x58, x59, x60, x61, x62, x63, F_188_450, F_159, F_159_33, F_159_34, F_158, F_159_78, F_159_145, q0, v1, v2, u1, u2, jfb, q1]
theorem i_13 (ht : 1000 < t) (h : cx φ D F N P S T A r d p f pc (k + 2) m) (hpc : pc < P.2.2.2.1 f) (a : Int32) : insR φ D F N P S T A r p G t 2 (X_13 G t r p a S) (W_13 G t r d a T) := by
  obtain ⟨hM, o1, o2, hn, hr, d2, d3⟩ := h.rd
  have o4 := h.fr.2.2.2.1.2.2.2
  obtain ⟨ga, ka, a1, a2, a3, a4, a5, a6, a7, a8⟩ := (o4 (k + 1) (by omega)).ix h.D6
  obtain ⟨gb, kb, b1, b2, b3, b4, b5, b6, b7, b8⟩ := (o4 k (by omega)).ix h.D6
  obtain ⟨v1, v2⟩ := mpS_v T r d (k + 2) (i := 0) 2 (by omega)
  obtain ⟨u1, u2⟩ := mpS_v T r d (k + 2) (i := 1) 2 (by omega)
  have v1 : (mpS T r d (k + 2) 2).1 47 0 0 0 = nI ka := v1.trans a2
  have u1 : (mpS T r d (k + 2) 2).1 47 0 0 1 = nI kb := u1.trans b2
  have v2 : (mpS T r d (k + 2) 2).2.1 48 0 0 0 = T.2.1 62 r d (k + 1) := v2
  have u2 : (mpS T r d (k + 2) 2).2.1 48 0 0 1 = T.2.1 62 r d k := u2
  have q0 := e_156 (G := G) (t := t) (k := 2) (by omega) hr d3 hn d2 o2 (by omega)
  by_cases c : ga = 0 ∧ gb = 0
  · have ka0 : ka = 0 := a5.mp c.1
    have kb0 : kb = 0 := b5.mp c.2
    have a7 := a7 c.1
    have b7 := b7 c.2
    rw [c.1] at a1
    rw [c.2] at b1
    refine h.repl hpc (k := 2) (by omega) (by omega) (kk := nI 0) (v := (if T.2.1 62 r d k < T.2.1 62 r d (k + 1) then 1 else 0)) (Or.inl ⟨rfl, rfl, ?_⟩) (x_13 (k := k) a hM o1 (by omega) a1 b1) ?_
    · show (if S.2.1 30 p 1 k < S.2.1 30 p 1 (k + 1) then 1 else 0) = _
      rw [a7, b7]
    · exact w_13 a hr d3 q0 v1 v2 u1 u2 a4 b4 ka0 kb0 (fun v => e_157p (k := 2) ht hr d3 hn d2 o2 (by omega))
  · obtain ⟨S', T', r1, r2, r3⟩ := h.panp (G := G) ht 2 (by omega) neg2.1 neg2.2 (x_13n (r := r) a hM o1 (by omega) a1 b1 a3 b3 c)
    exact ⟨S', T', r1, w_13n a hr d3 q0 v1 v2 u1 u2 a4 b4 (by omega) r2, r3⟩
end ARI
