/-! SELECT. -/
section SE3
variable {φ : Nat → Nat} {D : Nat → Prop} {F N : Nat} {P : aP} {S S' T T' : sS} {A : aS} {r d p f pc n m e b k y : Nat} {G : jG} {t : Nat}
set_option maxHeartbeats 4000000 in
set_option linter.unusedSimpArgs false in
theorem x_31 {a c B : Nat} {w : Int32} (h7 : nI a &&& nI 7 = nI c) (hM : S.2.2.2.1.1 p = true) (o1 : S.1 29 p 1 2 = nI n) (hB : B + 3 * c = n) (hn : n ≤ 16) (e1 : F_104_3 G t t (p, 1) (nI B) (nI c) (nI 0) S = some (w, S)) : X_31 G t r p (nI a) S = (bif jcmp .ne w 0 then F_105_35 G t t (r, 0) (p, 1) (nI a) (nI c) (nI B) (nI 0) S else some (-2, S)).bind fun q => some (q.1, q.2) := by
  have q3 : nI n - nI 3 * nI c = nI B := by rw [nIml, nIs (by omega), show n - 3 * c = B by omega]
  unfold X_31
  simp (disch := first | assumption | omega) only [gI, gI2, gL, gL1, gL2, jcLT, jcGE, jcGT, jcLE, jcEQ, jcNE, dEQ, nIt, lgNE, lgEQ, lgGE, lgLT, lgGT, lgLE, jinT, nIc, nI0, nI1, nIo, nIs, nI_add, nIm, nIn0, szl0, szl1, szl2, szl3, szl4, szl5, Nat.add_sub_assoc, Nat.add_zero, Nat.reduceSub, Nat.reduceAdd, Nat.reduceMul, Nat.reduceEqDiff,  jifT, bdS, sifN, sifS, omN, omS, cdI, x25, x26, x27, x28, x29, x30, x31, x32, xr0, xr1, xr2, xr3, xr4, xr5, if_pos, if_neg, true_and, and_true, false_and, and_false, and_self, Bool.and_true, if_true, if_false, reduceIte, cond_true, cond_false, not_true_eq_false, not_false_eq_true, F_105, F_104, hM, o1, h7, q3, e1]
set_option maxHeartbeats 4000000 in
set_option linter.unusedSimpArgs false in
theorem w_31 {a c B : Nat} (h7 : nI a &&& nI 7 = nI c) (hr : r < 16) (d3 : d < 30) (h3 : T.1 54 r 0 1 = nI (d + 1)) (o2 : T.1 56 r d 2 = nI n) (hB : B + 3 * c = n) (hn : n ≤ 16) : W_31 G t r d (nI a) T = (F_186_25 G t t (r, 0) (nI a) (nI c) (r, d) (nI B) (nI 0) T).bind fun q => some ((), q.2) := by
  have q3 : nI n - nI 3 * nI c = nI B := by rw [nIml, nIs (by omega), show n - 3 * c = B by omega]
  unfold W_31
  simp (disch := first | assumption | omega) only [gI, gI2, gL, gL1, gL2, jcLT, jcGE, jcGT, jcLE, jcEQ, jcNE, dEQ, nIt, lgNE, lgEQ, lgGE, lgLT, lgGT, lgLE, jinT, nIc, nI0, nI1, nIo, nIs, nI_add, nIm, nIn0, szl0, szl1, szl2, szl3, szl4, szl5, Nat.add_sub_assoc, Nat.add_zero, Nat.reduceSub, Nat.reduceAdd, Nat.reduceMul, Nat.reduceEqDiff,  jifT, bdS, sifN, sifS, omN, omS, cdI, x25, x26, x27, x28, x29, x30, x31, x32, xr0, xr1, xr2, xr3, xr4, xr5, if_pos, if_neg, true_and, and_true, false_and, and_false, and_self, Bool.and_true, if_true, if_false, reduceIte, cond_true, cond_false, not_true_eq_false, not_false_eq_true, x51, x52, x53, x54, x55, x56, x57, x58, x59, x60, x61, x62, x63, F_186, F_151, h3, o2, h7, q3]
theorem bd1 {α β : Type} (X : Option (α × β)) : (X.bind fun q => some (q.1, q.2)) = X := by
  cases X <;> rfl
theorem bd2 {β : Type} (X : Option (Unit × β)) : (X.bind fun q => some ((), q.2)) = X := by
  cases X <;> rfl
set_option maxHeartbeats 4000000 in
set_option linter.unusedSimpArgs false in
theorem i_31 (ht : 1000 < t) (h : cx φ D F N P S T A r d p f pc n m) (gc : gcR D S) (iq : iqR P A r False) (hy : T.1 33 0 0 38 = nI 0) (hpc : pc < P.2.2.2.1 f) (hW : A.2.2.2.2.2.1 + A.2.2.2.2.2.2 < 2147483648) {c B a : Nat} (hc : 1 ≤ c ∧ c ≤ 4) (hB : B + 3 * c = n) (hB2 : B + 2 ≤ 16) (ha : a < 2147483648) (h7 : nI a &&& nI 7 = nI c) (hsel : ∃ q, pc = q + 1 ∧ P.2.2.2.2.2 (P.2.2.1 f + q) &&& nI 7 = nI c) : insY D F N P S T A r p G t (3 * c) 0 (X_31 G t r p (nI a) S) (W_31 G t r d (nI a) T) := by
  obtain ⟨hM, o1, o2, hn, hr, d2, d3⟩ := h.rd
  rw [w_31 h7 hr d3 d2 o2 hB hn, bd2]
  rcases h.are (G := G) (t := t) (a := nI a) hc hB c 0 t t (by omega) (by omega) (by omega) with ⟨ok, e1, e2⟩ | ⟨e1, e2⟩
  · rw [x_31 h7 hM o1 hB hn e1, e2, bd1]
    show insY D F N P S T A r p G t (3 * c) 0 (F_105_35 G t t (r, 0) (p, 1) (nI a) (nI c) (nI B) (nI 0) S) _
    exact h.sel ht gc iq hy hpc hW hc hB hB2 ha hsel (fun i hi => ok i (Nat.zero_le _) hi) c 0 t t (by omega) (by omega) (by omega)
  · have ec := x_31 (r := r) h7 hM o1 hB hn e1
    rw [bd1] at ec
    obtain ⟨S', T', r1, r2, r3⟩ := h.panp (G := G) ht (3 * c) (by omega) neg2.1 neg2.2 ec
    refine insR.y ⟨S', T', r1, ?_, r3⟩ gc iq hr hy
    have q0 := e_156 (G := G) (t := t) (k := 3 * c) (by omega) hr d3 hn d2 o2 (by omega)
    rw [← nIml] at q0
    rw [e2]
    clear h gc iq hsel e1 e2 r3 r1 ec
    simp (disch := first | assumption | omega) only [gI, gI2, gL, gL1, gL2, jcLT, jcGE, jcGT, jcLE, jcEQ, jcNE, dEQ, nIt, lgNE, lgEQ, lgGE, lgLT, lgGT, lgLE, jinT, nIc, nI0, nI1, nIo, nIs, nI_add, nIm, nIn0, szl0, szl1, szl2, szl3, szl4, szl5, Nat.add_sub_assoc, Nat.add_zero, Nat.reduceSub, Nat.reduceAdd, Nat.reduceMul, Nat.reduceEqDiff,  jifT, bdS, sifN, sifS, omN, omS, cdI, x25, x26, x27, x28, x29, x30, x31, x32, xr0, xr1, xr2, xr3, xr4, xr5, if_pos, if_neg, true_and, and_true, false_and, and_false, and_self, Bool.and_true, if_true, if_false, reduceIte, cond_true, cond_false, not_true_eq_false, not_false_eq_true, x51, x52, x53, x54, x55, x56, x57, x58, x59, x60, x61, x62, x63, F_186_89, q0, r2]
end SE3
