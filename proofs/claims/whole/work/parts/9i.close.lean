/-! CLOSE: the instruction. -/
set_option maxHeartbeats 4000000 in
set_option linter.unusedSimpArgs false in
theorem gcR.ext {D : Nat → Prop} {S S' : sS} (g : gcR D S) (h1 : ∀ t, (11 ≤ t ∧ t ≤ 17) ∨ t = 29 ∨ t = 31 → S'.1 t = S.1 t) (h2 : ∀ p, S'.1 32 p 0 1 = S.1 32 p 0 1 ∧ S'.1 32 p 0 3 = S.1 32 p 0 3) (h3 : S'.2.2 = S.2.2) : gcR D S' := by
  have e11 := h1 11 (by omega)
  have e13 := h1 13 (by omega)
  have e15 := h1 15 (by omega)
  have e16 := h1 16 (by omega)
  have e17 := h1 17 (by omega)
  have e29 := h1 29 (by omega)
  have e31 := h1 31 (by omega)
  have a1 : ∀ p, S'.1 32 p 0 1 = S.1 32 p 0 1 := fun p => (h2 p).1
  have a3 : ∀ p, S'.1 32 p 0 3 = S.1 32 p 0 3 := fun p => (h2 p).2
  unfold gcR thC gwC rfC at g ⊢
  simp only [e11, e13, e15, e16, e17, e29, e31, a1, a3, h3]
  exact g
section CL4
variable {φ : Nat → Nat} {D : Nat → Prop} {F N : Nat} {P : aP} {S S' T T' : sS} {A : aS} {r d p f pc n m e b k y : Nat} {G : jG} {t : Nat}
set_option maxHeartbeats 4000000 in
set_option linter.unusedSimpArgs false in
theorem x_30n {a : Int32} {g : Nat} {R : Int32} (hM : S.2.2.2.1.1 p = true) (o1 : S.1 29 p 1 2 = nI (k + 1)) (hn : k + 1 ≤ 16) (g1 : S.1 31 p 1 k = nI g) (hg : g < 602) (e3 : F_87 G t (nI g) (nI 3) S = some (none, S)) (hR : R = if g = 1 then -4 else -2) : X_30 G t r p a S = some (R, S) := by
  have rw1 : rwS S p 1 (k + 1) := ⟨xr1 hM, o1, hn⟩
  have e1 := f_27 (G := G) (t := t) rw1 (i := k) (by omega)
  rw [g1] at e1
  subst hR
  unfold X_30
  by_cases c : g = 1
  · subst c
    simp (disch := first | assumption | omega) only [gI, gI2, gL, gL1, gL2, jcLT, jcGE, jcGT, jcLE, jcEQ, jcNE, dEQ, nIt, lgNE, lgEQ, lgGE, lgLT, lgGT, lgLE, jinT, nIc, nI0, nI1, nIo, nIs, nI_add, nIm, nIn0, szl0, szl1, szl2, szl3, szl4, szl5, Nat.add_sub_assoc, Nat.add_zero, Nat.reduceSub, Nat.reduceAdd, Nat.reduceMul, Nat.reduceEqDiff,  jifT, bdS, sifN, sifS, omN, omS, cdI, x25, x26, x27, x28, x29, x30, x31, x32, xr0, xr1, xr2, xr3, xr4, xr5, if_pos, if_neg, true_and, and_true, false_and, and_false, and_self, Bool.and_true, if_true, if_false, reduceIte, cond_true, cond_false, not_true_eq_false, not_false_eq_true, F_102, hM, o1, e1, e3]
  · rw [if_neg c]
    simp (disch := first | assumption | omega) only [gI, gI2, gL, gL1, gL2, jcLT, jcGE, jcGT, jcLE, jcEQ, jcNE, dEQ, nIt, lgNE, lgEQ, lgGE, lgLT, lgGT, lgLE, jinT, nIc, nI0, nI1, nIo, nIs, nI_add, nIm, nIn0, szl0, szl1, szl2, szl3, szl4, szl5, Nat.add_sub_assoc, Nat.add_zero, Nat.reduceSub, Nat.reduceAdd, Nat.reduceMul, Nat.reduceEqDiff,  jifT, bdS, sifN, sifS, omN, omS, cdI, x25, x26, x27, x28, x29, x30, x31, x32, xr0, xr1, xr2, xr3, xr4, xr5, if_pos, if_neg, true_and, and_true, false_and, and_false, and_self, Bool.and_true, if_true, if_false, reduceIte, cond_true, cond_false, not_true_eq_false, not_false_eq_true, F_102, hM, o1, e1, e3]
set_option maxHeartbeats 4000000 in
set_option linter.unusedSimpArgs false in
theorem x_30c {a : Int32} {x p1 : Nat} (hM : S.2.2.2.1.1 p = true) (o1 : S.1 29 p 1 2 = nI (k + 1)) (hn : k + 1 ≤ 16) (g1 : S.1 31 p 1 k = nI (x + 2)) (hx : x < 600) (hM1 : S.2.2.2.1.2 p1 = true) (e3 : F_87 G t (nI (x + 2)) (nI 3) S = some (some (p1, 0), S)) (hc : S.1 32 p1 0 4 = nI 1) : X_30 G t r p a S = some (-4, S) := by
  have rw1 : rwS S p 1 (k + 1) := ⟨xr1 hM, o1, hn⟩
  have e1 := f_27 (G := G) (t := t) rw1 (i := k) (by omega)
  rw [g1] at e1
  unfold X_30
  simp (disch := first | assumption | omega) only [gI, gI2, gL, gL1, gL2, jcLT, jcGE, jcGT, jcLE, jcEQ, jcNE, dEQ, nIt, lgNE, lgEQ, lgGE, lgLT, lgGT, lgLE, jinT, nIc, nI0, nI1, nIo, nIs, nI_add, nIm, nIn0, szl0, szl1, szl2, szl3, szl4, szl5, Nat.add_sub_assoc, Nat.add_zero, Nat.reduceSub, Nat.reduceAdd, Nat.reduceMul, Nat.reduceEqDiff,  jifT, bdS, sifN, sifS, omN, omS, cdI, x25, x26, x27, x28, x29, x30, x31, x32, xr0, xr1, xr2, xr3, xr4, xr5, if_pos, if_neg, true_and, and_true, false_and, and_false, and_self, Bool.and_true, if_true, if_false, reduceIte, cond_true, cond_false, not_true_eq_false, not_false_eq_true, F_102, hM, hM1, o1, e1, e3, hc]
set_option maxHeartbeats 4000000 in
set_option linter.unusedSimpArgs false in
theorem x_30o {a : Int32} {x p1 : Nat} (hM : S.2.2.2.1.1 p = true) (o1 : S.1 29 p 1 2 = nI (k + 1)) (hn : k + 1 ≤ 16) (g1 : S.1 31 p 1 k = nI (x + 2)) (hx : x < 600) (hM1 : S.2.2.2.1.2 p1 = true) (e3 : F_87 G t (nI (x + 2)) (nI 3) S = some (some (p1, 0), S)) (hc : S.1 32 p1 0 4 = nI 0) {S' : sS} (e4 : F_102_61 G t t (nI (x + 2)) (nI 0) (siI (siI S 29 p 1 2 (nI k)) 32 p1 0 4 (nI 1)) = some (nI 0, S')) : X_30 G t r p a S = some (nI 0, S') := by
  have rw1 : rwS S p 1 (k + 1) := ⟨xr1 hM, o1, hn⟩
  have e1 := f_27 (G := G) (t := t) rw1 (i := k) (by omega)
  rw [g1] at e1
  have e6 : F_76 G t (p, 1) (nI 1) (siI S 32 p1 0 4 (nI 1)) = some ((), siI (siI S 32 p1 0 4 (nI 1)) 29 p 1 2 (nI k)) := f_76 (sz := k + 1) ⟨xr1 hM, by rw [siI_ne _ _ _ (by omega)]; exact o1, hn⟩ (by omega)
  have e7 : siI (siI S 32 p1 0 4 (nI 1)) 29 p 1 2 (nI k) = siI (siI S 29 p 1 2 (nI k)) 32 p1 0 4 (nI 1) := siI_comm _ _ _ _ _ (by omega)
  rw [e7] at e6
  unfold X_30
  simp (disch := first | assumption | omega) only [gI, gI2, gL, gL1, gL2, jcLT, jcGE, jcGT, jcLE, jcEQ, jcNE, dEQ, nIt, lgNE, lgEQ, lgGE, lgLT, lgGT, lgLE, jinT, nIc, nI0, nI1, nIo, nIs, nI_add, nIm, nIn0, szl0, szl1, szl2, szl3, szl4, szl5, Nat.add_sub_assoc, Nat.add_zero, Nat.reduceSub, Nat.reduceAdd, Nat.reduceMul, Nat.reduceEqDiff,  jifT, bdS, sifN, sifS, omN, omS, cdI, x25, x26, x27, x28, x29, x30, x31, x32, xr0, xr1, xr2, xr3, xr4, xr5, if_pos, if_neg, true_and, and_true, false_and, and_false, and_self, Bool.and_true, if_true, if_false, reduceIte, cond_true, cond_false, not_true_eq_false, not_false_eq_true, F_102, hM, hM1, o1, e1, e3, hc, e6, e4]
set_option maxHeartbeats 4000000 in
set_option linter.unusedSimpArgs false in
theorem w_30n {T1 T2 : sS} {a : Int32} {q : Nat} {R : Int64} (q0 : F_156 G t (r, 0) (nI 1) T = some (nI 1, T1)) (v1 : T1.1 47 0 0 0 = nI q) (hq : q ≤ 2) (e1 : q ≠ 1 → F_170 G t (nI q) (T1.2.1 48 0 0 0) (nI 3) T1 = some (nI 0, T1)) (hR : R = if q = 1 then -4 else -2) (q1 : F_155 G t (r, 0) R T1 = some ((), T2)) : W_30 G t r d a T = some ((), T2) := by
  unfold W_30
  by_cases c : q = 1
  · rw [if_pos c] at hR
    subst c hR
    clear e1
    simp (disch := first | assumption | omega) only [gI, gI2, gL, gL1, gL2, jcLT, jcGE, jcGT, jcLE, jcEQ, jcNE, dEQ, nIt, lgNE, lgEQ, lgGE, lgLT, lgGT, lgLE, jinT, nIc, nI0, nI1, nIo, nIs, nI_add, nIm, nIn0, szl0, szl1, szl2, szl3, szl4, szl5, Nat.add_sub_assoc, Nat.add_zero, Nat.reduceSub, Nat.reduceAdd, Nat.reduceMul, Nat.reduceEqDiff,  jifT, bdS, sifN, sifS, omN, omS, cdI, x25, x26, x27, x28, x29, x30, x31, x32, xr0, xr1, xr2, xr3, xr4, xr5, if_pos, if_neg, true_and, and_true, false_and, and_false, and_self, Bool.and_true, if_true, if_false, reduceIte, cond_true, cond_false, not_true_eq_false, not_false_eq_true, x51, x52, x53, x54, x55, x56, x57, x58, x59, x60, x61, x62, x63, F_185, F_158, jfb, q0, v1, q1]
  · rw [if_neg c] at hR
    subst hR
    have e1 := e1 c
    simp (disch := first | assumption | omega) only [gI, gI2, gL, gL1, gL2, jcLT, jcGE, jcGT, jcLE, jcEQ, jcNE, dEQ, nIt, lgNE, lgEQ, lgGE, lgLT, lgGT, lgLE, jinT, nIc, nI0, nI1, nIo, nIs, nI_add, nIm, nIn0, szl0, szl1, szl2, szl3, szl4, szl5, Nat.add_sub_assoc, Nat.add_zero, Nat.reduceSub, Nat.reduceAdd, Nat.reduceMul, Nat.reduceEqDiff,  jifT, bdS, sifN, sifS, omN, omS, cdI, x25, x26, x27, x28, x29, x30, x31, x32, xr0, xr1, xr2, xr3, xr4, xr5, if_pos, if_neg, true_and, and_true, false_and, and_false, and_self, Bool.and_true, if_true, if_false, reduceIte, cond_true, cond_false, not_true_eq_false, not_false_eq_true, x51, x52, x53, x54, x55, x56, x57, x58, x59, x60, x61, x62, x63, F_185, F_158, jfb, q0, v1, e1, q1]
set_option maxHeartbeats 4000000 in
set_option linter.unusedSimpArgs false in
theorem w_30c {T1 T2 : sS} {a : Int32} {q : Nat} (q0 : F_156 G t (r, 0) (nI 1) T = some (nI 1, T1)) (v1 : T1.1 47 0 0 0 = nI 2) (v2 : T1.2.1 48 0 0 0 = Int64.ofNat q) (hq : q < 1300) (hk : T1.1 51 q 0 0 = nI 3) (hc : T1.1 51 q 0 4 = nI 1) (q1 : F_155 G t (r, 0) (-4) T1 = some ((), T2)) : W_30 G t r d a T = some ((), T2) := by
  have y1 := ofN32 (n := q) (by omega)
  unfold W_30
  simp (disch := first | assumption | omega) only [gI, gI2, gL, gL1, gL2, jcLT, jcGE, jcGT, jcLE, jcEQ, jcNE, dEQ, nIt, lgNE, lgEQ, lgGE, lgLT, lgGT, lgLE, jinT, nIc, nI0, nI1, nIo, nIs, nI_add, nIm, nIn0, szl0, szl1, szl2, szl3, szl4, szl5, Nat.add_sub_assoc, Nat.add_zero, Nat.reduceSub, Nat.reduceAdd, Nat.reduceMul, Nat.reduceEqDiff,  jifT, bdS, sifN, sifS, omN, omS, cdI, x25, x26, x27, x28, x29, x30, x31, x32, xr0, xr1, xr2, xr3, xr4, xr5, if_pos, if_neg, true_and, and_true, false_and, and_false, and_self, Bool.and_true, if_true, if_false, reduceIte, cond_true, cond_false, not_true_eq_false, not_false_eq_true, x51, x52, x53, x54, x55, x56, x57, x58, x59, x60, x61, x62, x63, F_185, F_158, F_170, jfb, q0, v1, v2, y1, hk, hc, q1]
set_option maxHeartbeats 4000000 in
set_option linter.unusedSimpArgs false in
theorem w_30o {T1 T2 : sS} {a : Int32} {q : Nat} (q0 : F_156 G t (r, 0) (nI 1) T = some (nI 1, T1)) (v1 : T1.1 47 0 0 0 = nI 2) (v2 : T1.2.1 48 0 0 0 = Int64.ofNat q) (hq : q < 1300) (hk : T1.1 51 q 0 0 = nI 3) (hc : T1.1 51 q 0 4 = nI 0) (q1 : F_185_94 G t t (nI q) (siI T1 51 q 0 4 (nI 1)) = some ((), T2)) : W_30 G t r d a T = some ((), T2) := by
  have y1 := ofN32 (n := q) (by omega)
  unfold W_30
  simp (disch := first | assumption | omega) only [gI, gI2, gL, gL1, gL2, jcLT, jcGE, jcGT, jcLE, jcEQ, jcNE, dEQ, nIt, lgNE, lgEQ, lgGE, lgLT, lgGT, lgLE, jinT, nIc, nI0, nI1, nIo, nIs, nI_add, nIm, nIn0, szl0, szl1, szl2, szl3, szl4, szl5, Nat.add_sub_assoc, Nat.add_zero, Nat.reduceSub, Nat.reduceAdd, Nat.reduceMul, Nat.reduceEqDiff,  jifT, bdS, sifN, sifS, omN, omS, cdI, x25, x26, x27, x28, x29, x30, x31, x32, xr0, xr1, xr2, xr3, xr4, xr5, if_pos, if_neg, true_and, and_true, false_and, and_false, and_self, Bool.and_true, if_true, if_false, reduceIte, cond_true, cond_false, not_true_eq_false, not_false_eq_true, x51, x52, x53, x54, x55, x56, x57, x58, x59, x60, x61, x62, x63, F_185, F_158, F_170, jfb, q0, v1, v2, y1, hk, hc, q1]
theorem i_30 (ht : 1000 < t) (h : cx φ D F N P S T A r d p f pc (k + 1) m) (gc : gcR D S) (iq : iqR P A r False) (hy : T.1 33 0 0 38 = nI 0) (hpc : pc < P.2.2.2.1 f) (hW : A.2.2.2.2.2.1 + A.2.2.2.2.2.2 < 2147483648) (a : Int32) : insY D F N P S T A r p G t 1 0 (X_30 G t r p a S) (W_30 G t r d a T) := by
  obtain ⟨hM, o1, o2, hn, hr, d2, d3⟩ := h.rd
  obtain ⟨g, kn, a1, a2, a3, a4, a5, v1, v2, q0, hv⟩ := h.top (G := G) ht
  have v1 : (mpS T r d (k + 1) 1).1 47 0 0 0 = T.1 58 r d k := v1.trans a2.symm
  rcases h.ob hv with ⟨q, b1, b2, b3, b4, b5⟩ | ⟨x, b0, b1, b2, b3, b4, b5, b6, b7⟩
  · have ec := x_30n (G := G) (t := t) (r := r) (a := a) hM o1 hn b2 (by omega) (f_87n b1) rfl
    by_cases cq : q = 1
    · rw [if_pos cq] at ec
      obtain ⟨S', T', r1, r2, r3⟩ := h.panp (G := G) ht 1 (by omega) neg4.1 neg4.2 ec
      exact insR.y ⟨S', T', r1, w_30n q0 (v1.trans b3) (by omega) (fun z => absurd cq z) (by rw [if_pos cq]) r2, r3⟩ gc iq hr hy
    · rw [if_neg cq] at ec
      obtain ⟨S', T', r1, r2, r3⟩ := h.panp (G := G) ht 1 (by omega) neg2.1 neg2.2 ec
      exact insR.y ⟨S', T', r1, w_30n q0 (v1.trans b3) (by omega) (fun z => f_170n b1) (by rw [if_neg cq]) r2, r3⟩ gc iq hr hy
  · obtain ⟨p1, kd, z, w, c, c1, c2, ⟨c3, c4, c5⟩, ⟨c6, c7, c8, c8'⟩, ⟨c9, c10, c11, c12⟩, ⟨c13, c14, c15⟩, c16, vv⟩ := b7
    have e3 : F_87 G t (nI (x + 2)) (nI 3) S = some (if kd = 3 then some (p1, 0) else none, S) := f_87o b1 c1 c2 c3 (by omega) (by omega)
    have m0 : (mpS T r d (k + 1) 1).1 51 (φ x) 0 0 = nI kd := by rw [(mp51 T r d (k + 1) 1 (φ x) 0 51 (by omega) (by omega)).1]; exact c4
    have m4 : (mpS T r d (k + 1) 1).1 51 (φ x) 0 4 = nI c := by rw [(mp51 T r d (k + 1) 1 (φ x) 4 51 (by omega) (by omega)).1]; exact c14
    by_cases ck : kd = 3
    · subst ck
      rw [if_pos rfl] at e3
      by_cases cc : c = 1
      · subst cc
        obtain ⟨S', T', r1, r2, r3⟩ := h.panp (G := G) ht 1 (by omega) neg4.1 neg4.2 (x_30c (r := r) (a := a) hM o1 hn b3 b1 c2 e3 c13)
        exact insR.y ⟨S', T', r1, w_30c q0 (v1.trans b4) (v2.trans b6) b2 m0 m4 r2, r3⟩ gc iq hr hy
      · have : c = 0 := by omega
        subst this
        obtain ⟨h2, k2⟩ := h.dr 1
        have ow := h.1.2.2.2.2.2.2.2.2.2
        have iq2 : iqR P (aset A r 1 (d + 1) (fset (A.2.2.1 r) d (f, pc, k + 1 - 1, m, 0))) r False := iq.set
        have w2 := h2.1
        have aSS : agr (fun t i j => t = 32 ∧ i = p1) (siI S 29 p 1 2 (nI k)) (siI (siI S 29 p 1 2 (nI k)) 32 p1 0 4 (nI 1)) := agr.i (agr.refl _ _) _ _ ⟨rfl, rfl⟩
        have aTT : agr (fun t i j => t = 51 ∧ i = φ x) (mpS T r d (k + 1) 1) (siI (mpS T r d (k + 1) 1) 51 (φ x) 0 4 (nI 1)) := agr.i (agr.refl _ _) _ _ ⟨rfl, rfl⟩
        have w3 := w2.thing (S' := siI (siI S 29 p 1 2 (nI k)) 32 p1 0 4 (nI 1)) (T' := siI (mpS T r d (k + 1) 1) 51 (φ x) 0 4 (nI 1)) (h0 := x) (p1 := p1) b0 c1 (aSS.mono (fun t i j z => by omega)) rfl (by rw [siI_ne _ _ _ (by omega)]; rfl) (aTT.mono (fun t i j z => by omega)) (by
          obtain ⟨p1', kd', z', w', c', d1, d2', ⟨d3', d4, d5⟩, ⟨d6, d7, d8, d8'⟩, ⟨d9, d10, d11, d12⟩, ⟨d13, d14, d15⟩, d16, dv⟩ := w2.2.2.2.1 x b0
          have : p1' = p1 := by
            have q : S.2.2.1.2 x = some p1' := d1
            rw [c1] at q
            exact (Option.some.inj q).symm
          subst this
          refine ⟨p1', kd', z', w', 1, d1, d2', ⟨?_, ?_, d5⟩, ⟨?_, ?_, d8, d8'⟩, ⟨?_, fun z => ?_, d11, d12⟩, ⟨siI_at _ _ _ _ _ _, siI_at _ _ _ _ _ _, by omega⟩, ?_, fun i hi => ?_⟩
          · rw [gI, if_neg (by omega)]; exact d3'
          · rw [gI, if_neg (by omega)]; exact d4
          · rw [gI, if_neg (by omega)]; exact d6
          · rw [gI, if_neg (by omega)]; exact d7
          · rw [siI_ne _ _ _ (by omega)]; exact d9
          · rw [gI, if_neg (by omega)]; exact d10 z
          · rw [gI, if_neg (by omega)]; exact d16
          · rw [siI_ne _ _ _ (by omega), siI_ne _ _ _ (by omega)]; exact dv i hi)
        have gc3 : gcR D (siI (siI S 29 p 1 2 (nI k)) 32 p1 0 4 (nI 1)) := (gc.keep k2).ext (fun t ht => by
          funext i j
          rw [siI_ne _ _ _ (by omega)]
          rfl) (fun p => ⟨by rw [gI, if_neg (by omega)]; rfl, by rw [gI, if_neg (by omega)]; rfl⟩) rfl
        have h3 : cx φ D F N P (siI (siI S 29 p 1 2 (nI k)) 32 p1 0 4 (nI 1)) (siI (mpS T r d (k + 1) 1) 51 (φ x) 0 4 (nI 1)) (aset A r 1 (d + 1) (fset (A.2.2.1 r) d (f, pc, k + 1 - 1, m, 0))) r d p f pc k m := ⟨w3, h2.2⟩
        obtain ⟨S', T', A', g1, g2, g3, g4, g5, g6, g7, g8⟩ := cx.cls (G := G) (t := t) (y := x) ht b0 True 15 _ _ _ 0 t t h3 gc3 iq2 hW (by rw [gI, if_neg (by omega)]; exact m0) (by
          have := wcn_lt (g := (aset A r 1 (d + 1) (fset (A.2.2.1 r) d (f, pc, k + 1 - 1, m, 0))).1) (s := r) (by rw [aset_1]; omega) 16 hr
          omega) (by omega) (by omega) (by omega)
        refine cx.done (S := S) (T := T) (A0 := A) g3 g4 g5 hpc ?_ g8 (fun u hu => g6 u (hu.same rfl)) (x_30o hM o1 hn b3 b1 c2 e3 c13 g1) (w_30o q0 (v1.trans b4) (v2.trans b6) b2 m0 m4 g2)
        rw [g7, siI_ne _ _ _ (by omega), mpS_I _ _ _ _ (by omega) (by omega)]
        exact hy
    · rw [if_neg ck] at e3
      have ec := x_30n (G := G) (t := t) (r := r) (a := a) hM o1 hn b3 (by omega) e3 rfl
      rw [if_neg (by omega)] at ec
      obtain ⟨S', T', r1, r2, r3⟩ := h.panp (G := G) ht 1 (by omega) neg2.1 neg2.2 ec
      refine insR.y ⟨S', T', r1, w_30n q0 (v1.trans b4) (by omega) (fun _ => ?_) (by rw [if_neg (by omega)]) r2, r3⟩ gc iq hr hy
      have e170 := f_170o (G := G) (t := t) (T := mpS T r d (k + 1) 1) (ty := 3) b2 m0 (by omega) (by omega)
      rw [if_neg ck] at e170
      rw [v2, b6]
      exact e170
end CL4
