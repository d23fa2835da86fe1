/-! What is reached: the reference's reachAll. -/
section MO2
variable {φ : Nat → Nat} {D : Nat → Prop} {F N : Nat} {P : aP} {S S' T0 T T' : sS} {A : aS} {r s d p f pc n m e b k y : Nat} {G : jG} {t j : Nat} {op : List Nat}
theorem rowM {q : Nat} (hn : S.1 29 p k 2 = nI n) (h16 : n ≤ 16) : (∃ i h, 0 ≤ i ∧ i < n ∧ D h ∧ S.1 31 p k i = nI (h + 2) ∧ q = φ h) ↔ ∃ h, D h ∧ rowR S p k h ∧ q = φ h := by
  constructor
  · rintro ⟨i, h, _, a, b, c, d⟩
    exact ⟨h, b, ⟨n, i, hn, h16, a, c⟩, d⟩
  · rintro ⟨h, b, ⟨n', i, q1, q2, q3, q4⟩, d⟩
    rw [hn] at q1
    have := (nI_eq (by omega) (by omega)).mp q1
    exact ⟨i, h, Nat.zero_le _, by omega, b, q4, d⟩
/-! one frame -/
set_option maxHeartbeats 4000000 in
set_option linter.unusedSimpArgs false in
theorem l_167f {k72 : Int32 → sS → Option (Unit × sS)} {k80 : Int32 → Int32 → sS → Option (Unit × sS)} (ht : 1000 < t) (hO : mkO φ D T0) (hE : ∀ h, D h → h < 600) (fr : frR φ D F P S p T0 s d f pc n m e b) (hs : s < 16) (hd : d < 30) (hl : P.2.1 f ≤ 12) (hf : f < 32) (h38 : T0.1 38 0 0 f = nI (P.2.1 f)) (h : moR T0 T op) : ∃ T' op', F_167_108 G t k72 k80 t (nI s) (nI d) (s, d) (nI 0) T = k80 (nI s) (nI (d + 1)) T' ∧ moR T0 T' op' ∧ moX op op' (fun q => ∃ h k, D h ∧ k < 4 ∧ rowR S p k h ∧ q = φ h) := by
  obtain ⟨hM, ⟨f1, f2, f3⟩, ⟨p1, p2, p3⟩, ⟨o1, o2, o3, o4⟩, ⟨d1, d2, d3, d4⟩, ⟨l1, l2⟩, ⟨e1, e2, e3, e4, e5⟩⟩ := fr
  obtain ⟨T1, op1, a1, a2, a3⟩ := l_167l (G := G) (t := t) (k72 := k72) (k80 := k80) (v1 := nI s) (v2 := nI d) hO hE hs hd hf f2 h38 hl l2 (P.2.1 f) 0 t T op (by omega) (by omega) h
  obtain ⟨T2, op2, b1, b2, b3⟩ := l_167o (G := G) (t := t) (k72 := k72) (k80 := k80) (v1 := nI s) (v2 := nI d) hO hE hs hd o2 o3 o4 n 0 t T1 op1 (by omega) (by omega) a2
  obtain ⟨T3, op3, c1, c2, c3⟩ := l_167d (G := G) (t := t) (k72 := k72) (k80 := k80) (v1 := nI s) (v2 := nI d) hO hE hs hd d2 d3 (fun i hi => (d4 i hi).1) m 0 t T2 op2 (by omega) (by omega) b2
  have a3 := a3.iff (fun q => rowM (φ := φ) (D := D) (q := q) l1 (by omega))
  have b3 := b3.iff (fun q => rowM (φ := φ) (D := D) (q := q) o1 (by omega))
  have c3 := c3.iff (fun q => rowM (φ := φ) (D := D) (q := q) d1 (by omega))
  have r0 : T3.1 56 s d 3 = nI m := by rw [c2.1.1 _ _ _ (by omega) (by omega) (by omega)]; exact d2
  have r1 : T3.1 56 s d 4 = nI e := by rw [c2.1.1 _ _ _ (by omega) (by omega) (by omega)]; exact e2
  have fin : ∀ T' op', F_167_185 G t k72 k80 1 (nI s) (nI d) (s, d) (nI m) T3 = k80 (nI s) (nI (d + 1)) T' → moR T0 T' op' → moX op3 op' (fun q => ∃ h, D h ∧ rowR S p 3 h ∧ q = φ h) → ∃ T' op', F_167_108 G t k72 k80 t (nI s) (nI d) (s, d) (nI 0) T = k80 (nI s) (nI (d + 1)) T' ∧ moR T0 T' op' ∧ moX op op' (fun q => ∃ h k, D h ∧ k < 4 ∧ rowR S p k h ∧ q = φ h) := fun T' op' x1 x2 x3 => by
    refine ⟨T', op', by rw [a1, b1, c1, x1], x2, (((a3.trans b3).trans c3).trans x3).iff (fun q => ?_)⟩
    constructor
    · rintro (((⟨h, q1, q2, q3⟩ | ⟨h, q1, q2, q3⟩) | ⟨h, q1, q2, q3⟩) | ⟨h, q1, q2, q3⟩)
      · exact ⟨h, 0, q1, by omega, q2, q3⟩
      · exact ⟨h, 1, q1, by omega, q2, q3⟩
      · exact ⟨h, 2, q1, by omega, q2, q3⟩
      · exact ⟨h, 3, q1, by omega, q2, q3⟩
    · rintro ⟨h, k, q1, q2, q3, q4⟩
      rcases (show k = 0 ∨ k = 1 ∨ k = 2 ∨ k = 3 by omega) with rfl | rfl | rfl | rfl
      · exact Or.inl (Or.inl (Or.inl ⟨h, q1, q3, q4⟩))
      · exact Or.inl (Or.inl (Or.inr ⟨h, q1, q3, q4⟩))
      · exact Or.inl (Or.inr ⟨h, q1, q3, q4⟩)
      · exact Or.inr ⟨h, q1, q3, q4⟩
  by_cases ce : e = 1
  · subst ce
    rcases e5 with ⟨z, _⟩ | ⟨_, z1, z2⟩ | ⟨z, _⟩
    · omega
    · obtain ⟨T4, op4, x1, x2, x3⟩ := e166 (G := G) (t := t) hO c2 z2 hE
      have r7 : T3.1 56 s d 7 = T0.1 56 s d 7 := by rw [c2.1.1 _ _ _ (by omega) (by omega) (by omega)]
      have r8 : T3.2.1 56 s d 8 = T0.2.1 56 s d 8 := by rw [c2.1.2.1]
      refine fin T4 op4 ?_ x2 (x3.iff (fun q => ?_))
      · rw [F_167_185]
        clear fin hO hE h a3 b3 c3 a1 b1 c1 a2 b2 c2 x2 x3 l2 o4 d4 z2
        simp (disch := first | assumption | omega) only [gI, gI2, gL, gL1, gL2, jcLT, jcGE, jcGT, jcLE, jcEQ, jcNE, dEQ, nIt, lgNE, lgEQ, lgGE, lgLT, lgGT, lgLE, jinT, nIc, nI0, nI1, nIo, nIs, nI_add, nIm, nIn0, szl0, szl1, szl2, szl3, szl4, szl5, Nat.add_sub_assoc, Nat.add_zero, Nat.reduceSub, Nat.reduceAdd, Nat.reduceMul, Nat.reduceEqDiff,  jifT, bdS, sifN, sifS, omN, omS, cdI, x25, x26, x27, x28, x29, x30, x31, x32, xr0, xr1, xr2, xr3, xr4, xr5, if_pos, if_neg, true_and, and_true, false_and, and_false, and_self, Bool.and_true, if_true, if_false, reduceIte, cond_true, cond_false, not_true_eq_false, not_false_eq_true, x51, x52, x53, x54, x55, x56, x57, x58, x59, x60, x61, x62, x63, F_167_238, r0, r1, r7, r8, x1]
      · constructor
        · rintro ⟨h, q1, q2, q3⟩
          exact ⟨h, q1, ⟨1, 0, z1, by omega, by omega, q2⟩, q3⟩
        · rintro ⟨h, q1, ⟨n', i, y1, y2, y3, y4⟩, q3⟩
          rw [z1] at y1
          have := (nI_eq (by omega) (by omega)).mp y1
          have : i = 0 := by omega
          subst this
          exact ⟨h, q1, y4, q3⟩
    · omega
  · refine fin T3 op3 ?_ c2 (moX.refl (fun q ⟨h, q1, ⟨n', i, y1, y2, y3, y4⟩, q3⟩ => ?_))
    · rw [F_167_185]
      have : e ≤ 2 := by omega
      clear fin hO hE h a3 b3 c3 a1 b1 c1 a2 b2 c2 l2 o4 d4
      simp (disch := first | assumption | omega) only [gI, gI2, gL, gL1, gL2, jcLT, jcGE, jcGT, jcLE, jcEQ, jcNE, dEQ, nIt, lgNE, lgEQ, lgGE, lgLT, lgGT, lgLE, jinT, nIc, nI0, nI1, nIo, nIs, nI_add, nIm, nIn0, szl0, szl1, szl2, szl3, szl4, szl5, Nat.add_sub_assoc, Nat.add_zero, Nat.reduceSub, Nat.reduceAdd, Nat.reduceMul, Nat.reduceEqDiff,  jifT, bdS, sifN, sifS, omN, omS, cdI, x25, x26, x27, x28, x29, x30, x31, x32, xr0, xr1, xr2, xr3, xr4, xr5, if_pos, if_neg, true_and, and_true, false_and, and_false, and_self, Bool.and_true, if_true, if_false, reduceIte, cond_true, cond_false, not_true_eq_false, not_false_eq_true, x51, x52, x53, x54, x55, x56, x57, x58, x59, x60, x61, x62, x63, F_167_238, r0, r1]
    · have h6 := hE h q1
      rcases e5 with ⟨_, z⟩ | ⟨z, _⟩ | ⟨_, z, _, z2⟩
      · rw [z] at y1
        have := (nI_eq (by omega) (by omega)).mp y1
        omega
      · exact ce z
      · rw [z] at y1
        have := (nI_eq (by omega) (by omega)).mp y1
        have : i = 0 := by omega
        subst this
        rw [z2] at y4
        have := (nI_eq (by omega) (by omega)).mp y4
        omega
/-! the frames of a strand -/
set_option maxHeartbeats 4000000 in
set_option linter.unusedSimpArgs false in
theorem l_167s {k72 : Int32 → sS → Option (Unit × sS)} {st dp : Nat} {fs : aFs} (ht : 1000 < t) (hO : mkO φ D T0) (hE : ∀ h, D h → h < 600) (R : stR φ D F P S T0 s st dp fs) (hs : s < 16) (hF : F ≤ 32) (h38 : ∀ f, f < F → T0.1 38 0 0 f = nI (P.2.1 f) ∧ P.2.1 f ≤ 12) : ∀ j d tt T op, d + j = dp → j < tt → moR T0 T op → ∃ T' op', F_167_80 G t k72 tt (nI s) (nI d) T = k72 (nI (s + 1)) T' ∧ moR T0 T' op' ∧ moX op op' (fun q => ∃ h, D h ∧ frA S s d dp h ∧ q = φ h) := by
  have d30 := R.2.2.1.2.2
  intro j
  induction j with
  | zero =>
    intro d tt T op h1 h2 h
    obtain ⟨u, rfl⟩ : ∃ u, tt = u + 1 := ⟨tt - 1, by omega⟩
    have r1 : T.1 54 s 0 1 = nI dp := by rw [h.1.1 _ _ _ (by omega) (by omega) (by omega)]; exact R.2.2.1.2.1
    refine ⟨T, op, ?_, h, moX.refl (fun q ⟨x, _, ⟨d', _, _, a, b, _⟩, _⟩ => by omega)⟩
    rw [F_167_80]
    clear h hO hE R h38
    simp (disch := first | assumption | omega) only [gI, gI2, gL, gL1, gL2, jcLT, jcGE, jcGT, jcLE, jcEQ, jcNE, dEQ, nIt, lgNE, lgEQ, lgGE, lgLT, lgGT, lgLE, jinT, nIc, nI0, nI1, nIo, nIs, nI_add, nIm, nIn0, szl0, szl1, szl2, szl3, szl4, szl5, Nat.add_sub_assoc, Nat.add_zero, Nat.reduceSub, Nat.reduceAdd, Nat.reduceMul, Nat.reduceEqDiff,  jifT, bdS, sifN, sifS, omN, omS, cdI, x25, x26, x27, x28, x29, x30, x31, x32, xr0, xr1, xr2, xr3, xr4, xr5, if_pos, if_neg, true_and, and_true, false_and, and_false, and_self, Bool.and_true, if_true, if_false, reduceIte, cond_true, cond_false, not_true_eq_false, not_false_eq_true, x51, x52, x53, x54, x55, x56, x57, x58, x59, x60, x61, x62, x63, r1]
  | succ j ih =>
    intro d tt T op h1 h2 h
    obtain ⟨u, rfl⟩ : ∃ u, tt = u + 1 := ⟨tt - 1, by omega⟩
    have r1 : T.1 54 s 0 1 = nI dp := by rw [h.1.1 _ _ _ (by omega) (by omega) (by omega)]; exact R.2.2.1.2.1
    obtain ⟨p, hp, fr⟩ := R.fr (d := d) (by omega)
    have hf := fr.2.1.2.2
    obtain ⟨T1, op1, a1, a2, a3⟩ := l_167f (G := G) (t := t) (k72 := k72) (k80 := F_167_80 G t k72 u) ht hO hE fr hs (by omega) (h38 _ hf).2 (by omega) (h38 _ hf).1 h
    obtain ⟨T', op', b1, b2, b3⟩ := ih (d + 1) u T1 op1 (by omega) (by omega) a2
    refine ⟨T', op', ?_, b2, (a3.trans b3).iff (fun q => ?_)⟩
    · rw [← b1, ← a1, F_167_80]
      clear h hO hE R h38 a1 a2 a3 b1 b2 b3 ih fr
      simp (disch := first | assumption | omega) only [gI, gI2, gL, gL1, gL2, jcLT, jcGE, jcGT, jcLE, jcEQ, jcNE, dEQ, nIt, lgNE, lgEQ, lgGE, lgLT, lgGT, lgLE, jinT, nIc, nI0, nI1, nIo, nIs, nI_add, nIm, nIn0, szl0, szl1, szl2, szl3, szl4, szl5, Nat.add_sub_assoc, Nat.add_zero, Nat.reduceSub, Nat.reduceAdd, Nat.reduceMul, Nat.reduceEqDiff,  jifT, bdS, sifN, sifS, omN, omS, cdI, x25, x26, x27, x28, x29, x30, x31, x32, xr0, xr1, xr2, xr3, xr4, xr5, if_pos, if_neg, true_and, and_true, false_and, and_false, and_self, Bool.and_true, if_true, if_false, reduceIte, cond_true, cond_false, not_true_eq_false, not_false_eq_true, x51, x52, x53, x54, x55, x56, x57, x58, x59, x60, x61, x62, x63, r1]
    · constructor
      · rintro (⟨h, k, q1, q2, q3, q4⟩ | ⟨h, q1, ⟨d', p', k', z1, z2⟩, q4⟩)
        · exact ⟨h, q1, ⟨d, p, k, Nat.le_refl _, by omega, hp, q2, q3⟩, q4⟩
        · exact ⟨h, q1, ⟨d', p', k', by omega, z2⟩, q4⟩
      · rintro ⟨h, q1, ⟨d', p', k', z1, z2, z3, z4, z5⟩, q4⟩
        by_cases c : d' = d
        · subst c
          rw [hp] at z3
          cases z3
          exact Or.inl ⟨h, k', q1, z4, z5, q4⟩
        · exact Or.inr ⟨h, q1, ⟨d', p', k', by omega, z2, z3, z4, z5⟩, q4⟩
theorem wR.mkO (h : wR φ D F N P S T A) : mkO φ D T := fun x hx => by
  obtain ⟨k, z, a, b, c, d, _⟩ := h.cells hx
  exact ⟨(h.2.2.2.2.1.1 x hx).2, k, z, a, b, c, d⟩
set_option maxHeartbeats 4000000 in
set_option linter.unusedSimpArgs false in
theorem wR.l167t (ht : 1000 < t) (w : wR φ D F N P S T0 A) : ∀ j s tt T op, s + j = 16 → j < tt → moR T0 T op → ∃ T' op', F_167_72 G t tt (nI s) T = F_167_252 G t t (nI 0) T' ∧ moR T0 T' op' ∧ moX op op' (fun q => ∃ h, D h ∧ stA S A.2.1 s h ∧ q = φ h) := by
  intro j
  induction j with
  | zero =>
    intro s tt T op h1 h2 h
    obtain ⟨u, rfl⟩ : ∃ u, tt = u + 1 := ⟨tt - 1, by omega⟩
    refine ⟨T, op, ?_, h, moX.refl (fun q ⟨x, _, ⟨s', a, b, _⟩, _⟩ => by omega)⟩
    rw [F_167_72]
    clear w h
    simp (disch := first | assumption | omega) only [gI, gI2, gL, gL1, gL2, jcLT, jcGE, jcGT, jcLE, jcEQ, jcNE, dEQ, nIt, lgNE, lgEQ, lgGE, lgLT, lgGT, lgLE, jinT, nIc, nI0, nI1, nIo, nIs, nI_add, nIm, nIn0, szl0, szl1, szl2, szl3, szl4, szl5, Nat.add_sub_assoc, Nat.add_zero, Nat.reduceSub, Nat.reduceAdd, Nat.reduceMul, Nat.reduceEqDiff,  jifT, bdS, sifN, sifS, omN, omS, cdI, x25, x26, x27, x28, x29, x30, x31, x32, xr0, xr1, xr2, xr3, xr4, xr5, if_pos, if_neg, true_and, and_true, false_and, and_false, and_self, Bool.and_true, if_true, if_false, reduceIte, cond_true, cond_false, not_true_eq_false, not_false_eq_true, x51, x52, x53, x54, x55, x56, x57, x58, x59, x60, x61, x62, x63]
  | succ j ih =>
    intro s tt T op h1 h2 h
    obtain ⟨u, rfl⟩ : ∃ u, tt = u + 1 := ⟨tt - 1, by omega⟩
    have R := w.2.1 s (by omega)
    have d30 := R.2.2.1.2.2
    obtain ⟨T1, op1, a1, a2, a3⟩ := l_167s (G := G) (t := t) (k72 := F_167_72 G t u) ht w.mkO w.D6 R (by omega) w.1.1.1.2.2 (fun f hf => ⟨(w.1.1.2.2.1 f hf).2.1.2.1, (w.1.1.2.2.1 f hf).2.1.2.2⟩) (A.2.1 s) 0 t T op (by omega) (by omega) h
    obtain ⟨T', op', b1, b2, b3⟩ := ih (s + 1) u T1 op1 (by omega) (by omega) a2
    refine ⟨T', op', ?_, b2, (a3.trans b3).iff (fun q => ?_)⟩
    · rw [← b1, ← a1, F_167_72]
      clear h w R a1 a2 a3 b1 b2 b3 ih
      simp (disch := first | assumption | omega) only [gI, gI2, gL, gL1, gL2, jcLT, jcGE, jcGT, jcLE, jcEQ, jcNE, dEQ, nIt, lgNE, lgEQ, lgGE, lgLT, lgGT, lgLE, jinT, nIc, nI0, nI1, nIo, nIs, nI_add, nIm, nIn0, szl0, szl1, szl2, szl3, szl4, szl5, Nat.add_sub_assoc, Nat.add_zero, Nat.reduceSub, Nat.reduceAdd, Nat.reduceMul, Nat.reduceEqDiff,  jifT, bdS, sifN, sifS, omN, omS, cdI, x25, x26, x27, x28, x29, x30, x31, x32, xr0, xr1, xr2, xr3, xr4, xr5, if_pos, if_neg, true_and, and_true, false_and, and_false, and_self, Bool.and_true, if_true, if_false, reduceIte, cond_true, cond_false, not_true_eq_false, not_false_eq_true, x51, x52, x53, x54, x55, x56, x57, x58, x59, x60, x61, x62, x63]
    · constructor
      · rintro (⟨h, q1, q2, q3⟩ | ⟨h, q1, ⟨s', z1, z2, z3⟩, q3⟩)
        · exact ⟨h, q1, ⟨s, Nat.le_refl _, by omega, q2⟩, q3⟩
        · exact ⟨h, q1, ⟨s', by omega, z2, z3⟩, q3⟩
      · rintro ⟨h, q1, ⟨s', z1, z2, z3⟩, q3⟩
        by_cases c : s' = s
        · subst c
          exact Or.inl ⟨h, q1, z3, q3⟩
        · exact Or.inr ⟨h, q1, ⟨s', by omega, z2, z3⟩, q3⟩
/-! the marks are taken away -/
set_option maxHeartbeats 4000000 in
set_option linter.unusedSimpArgs false in
theorem l_167r : ∀ j k tt T, k + j = 1300 → j < tt → ∃ T1, F_167_2 G t tt (nI k) T = F_167_42 G t t (nI 0) (siI (siI (siI T1 33 0 0 30 (nI 0)) 33 0 0 27 (nI 0)) 33 0 0 26 (nI 0)) ∧ (∀ t i j, t ≠ 51 → T1.1 t i j = T.1 t i j) ∧ T1.2 = T.2 ∧ (∀ i j q, q ≠ 5 → T1.1 51 i j q = T.1 51 i j q) ∧ (∀ q, k ≤ q → q < 1300 → T1.1 51 q 0 5 = nI 0) ∧ ∀ q, q < k → T1.1 51 q 0 5 = T.1 51 q 0 5 := by
  intro j
  induction j with
  | zero =>
    intro k tt T h1 h2
    obtain ⟨u, rfl⟩ : ∃ u, tt = u + 1 := ⟨tt - 1, by omega⟩
    refine ⟨T, ?_, fun _ _ _ _ => rfl, rfl, fun _ _ _ _ => rfl, fun q a b => by omega, fun _ _ => rfl⟩
    rw [F_167_2]
    simp (disch := first | assumption | omega) only [gI, gI2, gL, gL1, gL2, jcLT, jcGE, jcGT, jcLE, jcEQ, jcNE, dEQ, nIt, lgNE, lgEQ, lgGE, lgLT, lgGT, lgLE, jinT, nIc, nI0, nI1, nIo, nIs, nI_add, nIm, nIn0, szl0, szl1, szl2, szl3, szl4, szl5, Nat.add_sub_assoc, Nat.add_zero, Nat.reduceSub, Nat.reduceAdd, Nat.reduceMul, Nat.reduceEqDiff,  jifT, bdS, sifN, sifS, omN, omS, cdI, x25, x26, x27, x28, x29, x30, x31, x32, xr0, xr1, xr2, xr3, xr4, xr5, if_pos, if_neg, true_and, and_true, false_and, and_false, and_self, Bool.and_true, if_true, if_false, reduceIte, cond_true, cond_false, not_true_eq_false, not_false_eq_true, x51, x52, x53, x54, x55, x56, x57, x58, x59, x60, x61, x62, x63]
  | succ j ih =>
    intro k tt T h1 h2
    obtain ⟨u, rfl⟩ : ∃ u, tt = u + 1 := ⟨tt - 1, by omega⟩
    obtain ⟨T1, a1, a2, a3, a4, a5, a6⟩ := ih (k + 1) u (siI T 51 k 0 5 (nI 0)) (by omega) (by omega)
    refine ⟨T1, ?_, fun t i j x => ?_, a3, fun i j q x => ?_, fun q x z => ?_, fun q x => ?_⟩
    · rw [← a1, F_167_2]
      clear ih a1 a2 a3 a4 a5 a6
      simp (disch := first | assumption | omega) only [gI, gI2, gL, gL1, gL2, jcLT, jcGE, jcGT, jcLE, jcEQ, jcNE, dEQ, nIt, lgNE, lgEQ, lgGE, lgLT, lgGT, lgLE, jinT, nIc, nI0, nI1, nIo, nIs, nI_add, nIm, nIn0, szl0, szl1, szl2, szl3, szl4, szl5, Nat.add_sub_assoc, Nat.add_zero, Nat.reduceSub, Nat.reduceAdd, Nat.reduceMul, Nat.reduceEqDiff,  jifT, bdS, sifN, sifS, omN, omS, cdI, x25, x26, x27, x28, x29, x30, x31, x32, xr0, xr1, xr2, xr3, xr4, xr5, if_pos, if_neg, true_and, and_true, false_and, and_false, and_self, Bool.and_true, if_true, if_false, reduceIte, cond_true, cond_false, not_true_eq_false, not_false_eq_true, x51, x52, x53, x54, x55, x56, x57, x58, x59, x60, x61, x62, x63]
    · rw [a2 t i j x, siI_ne _ _ _ (by omega)]
    · rw [a4 i j q x, gI, if_neg (by omega)]
    · by_cases c : q = k
      · subst c
        rw [a6 q (by omega), siI_at]
      · exact a5 q (by omega) z
    · rw [a6 q (by omega), gI, if_neg (by omega)]
end MO2
