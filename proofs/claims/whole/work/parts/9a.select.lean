/-! SELECT: its cases. -/
section SEL
variable {φ : Nat → Nat} {D : Nat → Prop} {F N : Nat} {P : aP} {S S' T T' : sS} {A : aS} {r d p f pc n m e b k y : Nat} {G : jG} {t : Nat}
/-! a case is one: nil or a channel, and a number -/
def okC (D : Nat → Prop) (S T : sS) (φ : Nat → Nat) (p B k : Nat) : Prop := (S.1 31 p 1 (B + 3 * k) = nI 1 ∨ ∃ x, D x ∧ S.1 31 p 1 (B + 3 * k) = nI (x + 2) ∧ T.1 51 (φ x) 0 0 = nI 3) ∧ S.1 31 p 1 (B + 3 * k + 1) = nI 0
set_option maxHeartbeats 4000000 in
set_option linter.unusedSimpArgs false in
theorem cx.are (h : cx φ D F N P S T A r d p f pc n m) {c B : Nat} (hc : 1 ≤ c ∧ c ≤ 4) (hB : B + 3 * c = n) {a : Int32} : ∀ j k tt tt', k + j = c → j < tt → j < tt' →
    ((∀ i, k ≤ i → i < c → okC D S T φ p B i) ∧ F_104_3 G t tt (p, 1) (nI B) (nI c) (nI k) S = some (nI 1, S) ∧ F_186_25 G t tt' (r, 0) a (nI c) (r, d) (nI B) (nI k) T = F_186_116 G t t (r, 0) a (nI c) (r, d) (nI B) (nI 0) T) ∨ (F_104_3 G t tt (p, 1) (nI B) (nI c) (nI k) S = some (nI 0, S) ∧ F_186_25 G t tt' (r, 0) a (nI c) (r, d) (nI B) (nI k) T = F_186_89 G t (r, 0) (nI c) T) := by
  obtain ⟨hM, o1, o2, hn, hr, d2, d3⟩ := h.rd
  have o4 := h.fr.2.2.2.1.2.2.2
  have hE := h.D6
  have hob := fun (i : Nat) (hi : i < n) => h.ob (o4 i hi)
  have hix := fun (i : Nat) (hi : i < n) => (o4 i hi).ix hE
  have rw1 : rwS S p 1 n := ⟨xr1 hM, o1, hn⟩
  clear h
  intro j
  induction j with
  | zero =>
    intro k tt tt' h1 h2 h3
    obtain ⟨u, rfl⟩ : ∃ u, tt = u + 1 := ⟨tt - 1, by omega⟩
    obtain ⟨u', rfl⟩ : ∃ u, tt' = u + 1 := ⟨tt' - 1, by omega⟩
    refine Or.inl ⟨fun i a b => by omega, ?_, ?_⟩
    · rw [F_104_3]
      clear o4 hE hob hix
      simp (disch := first | assumption | omega) only [gI, gI2, gL, gL1, gL2, jcLT, jcGE, jcGT, jcLE, jcEQ, jcNE, dEQ, nIt, lgNE, lgEQ, lgGE, lgLT, lgGT, lgLE, jinT, nIc, nI0, nI1, nIo, nIs, nI_add, nIm, nIn0, szl0, szl1, szl2, szl3, szl4, szl5, Nat.add_sub_assoc, Nat.add_zero, Nat.reduceSub, Nat.reduceAdd, Nat.reduceMul, Nat.reduceEqDiff,  jifT, bdS, sifN, sifS, omN, omS, cdI, x25, x26, x27, x28, x29, x30, x31, x32, xr0, xr1, xr2, xr3, xr4, xr5, if_pos, if_neg, true_and, and_true, false_and, and_false, and_self, Bool.and_true, if_true, if_false, reduceIte, cond_true, cond_false, not_true_eq_false, not_false_eq_true]
    · rw [F_186_25]
      clear o4 hE hob hix
      simp (disch := first | assumption | omega) only [gI, gI2, gL, gL1, gL2, jcLT, jcGE, jcGT, jcLE, jcEQ, jcNE, dEQ, nIt, lgNE, lgEQ, lgGE, lgLT, lgGT, lgLE, jinT, nIc, nI0, nI1, nIo, nIs, nI_add, nIm, nIn0, szl0, szl1, szl2, szl3, szl4, szl5, Nat.add_sub_assoc, Nat.add_zero, Nat.reduceSub, Nat.reduceAdd, Nat.reduceMul, Nat.reduceEqDiff,  jifT, bdS, sifN, sifS, omN, omS, cdI, x25, x26, x27, x28, x29, x30, x31, x32, xr0, xr1, xr2, xr3, xr4, xr5, if_pos, if_neg, true_and, and_true, false_and, and_false, and_self, Bool.and_true, if_true, if_false, reduceIte, cond_true, cond_false, not_true_eq_false, not_false_eq_true]
  | succ j ih =>
    intro k tt tt' h1 h2 h3
    obtain ⟨u, rfl⟩ : ∃ u, tt = u + 1 := ⟨tt - 1, by omega⟩
    obtain ⟨u', rfl⟩ : ∃ u, tt' = u + 1 := ⟨tt' - 1, by omega⟩
    have ih := ih (k + 1) u u' (by omega) (by omega) (by omega)
    have e1 := f_27 (G := G) (t := t) rw1 (i := B + 3 * k) (by omega)
    obtain ⟨ga, ka, a1, a2, a3, a4, a5, _⟩ := hix (B + 3 * k + 1) (by omega)
    have e2 := f_103 (G := G) (t := t) rw1 (i := B + 3 * k + 1) (by omega) a1 (by omega)
    have q3 : nI B + nI 3 * nI k = nI (B + 3 * k) := by rw [nIml, nI_add]
    have oc := hob (B + 3 * k) (by omega)
    have hb2 : B + 3 * k + 1 < 16 := by omega
    clear o4 hE hob hix rw1
    -- the number beside
    have num : (ga = 0 ∧ ((∀ i, k + 1 ≤ i → i < c → okC D S T φ p B i) → okC D S T φ p B k → ∀ i, k ≤ i → i < c → okC D S T φ p B i)) ∨ ga ≠ 0 := by
      by_cases c0 : ga = 0
      · refine Or.inl ⟨c0, fun q1 q2 i x y => ?_⟩
        by_cases ci : i = k
        · subst ci; exact q2
        · exact q1 i (by omega) y
      · exact Or.inr c0
    have main : (S.1 31 p 1 (B + 3 * k) = nI 1 ∨ ∃ x, D x ∧ S.1 31 p 1 (B + 3 * k) = nI (x + 2) ∧ T.1 51 (φ x) 0 0 = nI 3) → F_104_3 G t (u + 1) (p, 1) (nI B) (nI c) (nI k) S = F_104_44 G t (F_104_3 G t u) (p, 1) (nI B) (nI c) (nI k) (nI (B + 3 * k)) S → F_186_25 G t (u' + 1) (r, 0) a (nI c) (r, d) (nI B) (nI k) T = F_186_76 G t (F_186_25 G t u') (r, 0) a (nI c) (r, d) (nI B) (nI k) (nI (B + 3 * k)) T →
        ((∀ i, k ≤ i → i < c → okC D S T φ p B i) ∧ F_104_3 G t (u + 1) (p, 1) (nI B) (nI c) (nI k) S = some (nI 1, S) ∧ F_186_25 G t (u' + 1) (r, 0) a (nI c) (r, d) (nI B) (nI k) T = F_186_116 G t t (r, 0) a (nI c) (r, d) (nI B) (nI 0) T) ∨ (F_104_3 G t (u + 1) (p, 1) (nI B) (nI c) (nI k) S = some (nI 0, S) ∧ F_186_25 G t (u' + 1) (r, 0) a (nI c) (r, d) (nI B) (nI k) T = F_186_89 G t (r, 0) (nI c) T) := by
      intro ok x1 x2
      rw [x1, x2]
      rcases num with ⟨n0, n1⟩ | n0
      · subst n0
        have ka0 := a5.mp rfl
        subst ka0
        rw [if_pos rfl] at e2
        have y1 : F_104_44 G t (F_104_3 G t u) (p, 1) (nI B) (nI c) (nI k) (nI (B + 3 * k)) S = F_104_3 G t u (p, 1) (nI B) (nI c) (nI (k + 1)) S := by
          clear ih n1 ok x1 x2 oc
          unfold F_104_44
          simp (disch := first | assumption | omega) only [gI, gI2, gL, gL1, gL2, jcLT, jcGE, jcGT, jcLE, jcEQ, jcNE, dEQ, nIt, lgNE, lgEQ, lgGE, lgLT, lgGT, lgLE, jinT, nIc, nI0, nI1, nIo, nIs, nI_add, nIm, nIn0, szl0, szl1, szl2, szl3, szl4, szl5, Nat.add_sub_assoc, Nat.add_zero, Nat.reduceSub, Nat.reduceAdd, Nat.reduceMul, Nat.reduceEqDiff,  jifT, bdS, sifN, sifS, omN, omS, cdI, x25, x26, x27, x28, x29, x30, x31, x32, xr0, xr1, xr2, xr3, xr4, xr5, if_pos, if_neg, true_and, and_true, false_and, and_false, and_self, Bool.and_true, if_true, if_false, reduceIte, cond_true, cond_false, not_true_eq_false, not_false_eq_true, hM, e2]
        have y2 : F_186_76 G t (F_186_25 G t u') (r, 0) a (nI c) (r, d) (nI B) (nI k) (nI (B + 3 * k)) T = F_186_25 G t u' (r, 0) a (nI c) (r, d) (nI B) (nI (k + 1)) T := by
          clear ih n1 ok x1 x2 oc
          unfold F_186_76
          simp (disch := first | assumption | omega) only [gI, gI2, gL, gL1, gL2, jcLT, jcGE, jcGT, jcLE, jcEQ, jcNE, dEQ, nIt, lgNE, lgEQ, lgGE, lgLT, lgGT, lgLE, jinT, nIc, nI0, nI1, nIo, nIs, nI_add, nIm, nIn0, szl0, szl1, szl2, szl3, szl4, szl5, Nat.add_sub_assoc, Nat.add_zero, Nat.reduceSub, Nat.reduceAdd, Nat.reduceMul, Nat.reduceEqDiff,  jifT, bdS, sifN, sifS, omN, omS, cdI, x25, x26, x27, x28, x29, x30, x31, x32, xr0, xr1, xr2, xr3, xr4, xr5, if_pos, if_neg, true_and, and_true, false_and, and_false, and_self, Bool.and_true, if_true, if_false, reduceIte, cond_true, cond_false, not_true_eq_false, not_false_eq_true, x51, x52, x53, x54, x55, x56, x57, x58, x59, x60, x61, x62, x63, a2]
        rw [y1, y2]
        rcases ih with ⟨z1, z2, z3⟩ | ⟨z2, z3⟩
        · exact Or.inl ⟨n1 z1 ⟨ok, a1⟩, z2, z3⟩
        · exact Or.inr ⟨z2, z3⟩
      · right
        have kan : ka ≠ 0 := fun z => n0 (a5.mpr z)
        rw [if_neg n0] at e2
        constructor
        · clear ih ok x1 x2 oc
          unfold F_104_44
          simp (disch := first | assumption | omega) only [gI, gI2, gL, gL1, gL2, jcLT, jcGE, jcGT, jcLE, jcEQ, jcNE, dEQ, nIt, lgNE, lgEQ, lgGE, lgLT, lgGT, lgLE, jinT, nIc, nI0, nI1, nIo, nIs, nI_add, nIm, nIn0, szl0, szl1, szl2, szl3, szl4, szl5, Nat.add_sub_assoc, Nat.add_zero, Nat.reduceSub, Nat.reduceAdd, Nat.reduceMul, Nat.reduceEqDiff,  jifT, bdS, sifN, sifS, omN, omS, cdI, x25, x26, x27, x28, x29, x30, x31, x32, xr0, xr1, xr2, xr3, xr4, xr5, if_pos, if_neg, true_and, and_true, false_and, and_false, and_self, Bool.and_true, if_true, if_false, reduceIte, cond_true, cond_false, not_true_eq_false, not_false_eq_true, hM, e2]
        · clear ih ok x1 x2 oc
          unfold F_186_76
          simp (disch := first | assumption | omega) only [gI, gI2, gL, gL1, gL2, jcLT, jcGE, jcGT, jcLE, jcEQ, jcNE, dEQ, nIt, lgNE, lgEQ, lgGE, lgLT, lgGT, lgLE, jinT, nIc, nI0, nI1, nIo, nIs, nI_add, nIm, nIn0, szl0, szl1, szl2, szl3, szl4, szl5, Nat.add_sub_assoc, Nat.add_zero, Nat.reduceSub, Nat.reduceAdd, Nat.reduceMul, Nat.reduceEqDiff,  jifT, bdS, sifN, sifS, omN, omS, cdI, x25, x26, x27, x28, x29, x30, x31, x32, xr0, xr1, xr2, xr3, xr4, xr5, if_pos, if_neg, true_and, and_true, false_and, and_false, and_self, Bool.and_true, if_true, if_false, reduceIte, cond_true, cond_false, not_true_eq_false, not_false_eq_true, x51, x52, x53, x54, x55, x56, x57, x58, x59, x60, x61, x62, x63, a2]
    clear ih num
    rcases oc with ⟨q, b1, b2, b3, b4, b5⟩ | ⟨x, b0, b1, b2, b3, b4, b5, b6, b7⟩
    · rw [b2] at e1
      by_cases cq : q = 1
      · subst cq
        refine main (Or.inl b2) ?_ ?_
        · rw [F_104_3]
          clear main
          simp (disch := first | assumption | omega) only [gI, gI2, gL, gL1, gL2, jcLT, jcGE, jcGT, jcLE, jcEQ, jcNE, dEQ, nIt, lgNE, lgEQ, lgGE, lgLT, lgGT, lgLE, jinT, nIc, nI0, nI1, nIo, nIs, nI_add, nIm, nIn0, szl0, szl1, szl2, szl3, szl4, szl5, Nat.add_sub_assoc, Nat.add_zero, Nat.reduceSub, Nat.reduceAdd, Nat.reduceMul, Nat.reduceEqDiff,  jifT, bdS, sifN, sifS, omN, omS, cdI, x25, x26, x27, x28, x29, x30, x31, x32, xr0, xr1, xr2, xr3, xr4, xr5, if_pos, if_neg, true_and, and_true, false_and, and_false, and_self, Bool.and_true, if_true, if_false, reduceIte, cond_true, cond_false, not_true_eq_false, not_false_eq_true, hM, q3, e1]
        · rw [F_186_25]
          clear main
          simp (disch := first | assumption | omega) only [gI, gI2, gL, gL1, gL2, jcLT, jcGE, jcGT, jcLE, jcEQ, jcNE, dEQ, nIt, lgNE, lgEQ, lgGE, lgLT, lgGT, lgLE, jinT, nIc, nI0, nI1, nIo, nIs, nI_add, nIm, nIn0, szl0, szl1, szl2, szl3, szl4, szl5, Nat.add_sub_assoc, Nat.add_zero, Nat.reduceSub, Nat.reduceAdd, Nat.reduceMul, Nat.reduceEqDiff,  jifT, bdS, sifN, sifS, omN, omS, cdI, x25, x26, x27, x28, x29, x30, x31, x32, xr0, xr1, xr2, xr3, xr4, xr5, if_pos, if_neg, true_and, and_true, false_and, and_false, and_self, Bool.and_true, if_true, if_false, reduceIte, cond_true, cond_false, not_true_eq_false, not_false_eq_true, x51, x52, x53, x54, x55, x56, x57, x58, x59, x60, x61, x62, x63, q3, b3]
      · right
        have e87 := f_87n (G := G) (t := t) (g := q) (ty := nI 3) (S := S) b1
        have e170 := f_170n (G := G) (t := t) (k := q) (v := T.2.1 62 r d (B + 3 * k)) (ty := nI 3) (T := T) b1
        have q0 : q = 0 := by omega
        subst q0
        constructor
        · rw [F_104_3]
          clear main
          simp (disch := first | assumption | omega) only [gI, gI2, gL, gL1, gL2, jcLT, jcGE, jcGT, jcLE, jcEQ, jcNE, dEQ, nIt, lgNE, lgEQ, lgGE, lgLT, lgGT, lgLE, jinT, nIc, nI0, nI1, nIo, nIs, nI_add, nIm, nIn0, szl0, szl1, szl2, szl3, szl4, szl5, Nat.add_sub_assoc, Nat.add_zero, Nat.reduceSub, Nat.reduceAdd, Nat.reduceMul, Nat.reduceEqDiff,  jifT, bdS, sifN, sifS, omN, omS, cdI, x25, x26, x27, x28, x29, x30, x31, x32, xr0, xr1, xr2, xr3, xr4, xr5, if_pos, if_neg, true_and, and_true, false_and, and_false, and_self, Bool.and_true, if_true, if_false, reduceIte, cond_true, cond_false, not_true_eq_false, not_false_eq_true, hM, q3, e1, e87]
        · rw [F_186_25]
          clear main
          simp (disch := first | assumption | omega) only [gI, gI2, gL, gL1, gL2, jcLT, jcGE, jcGT, jcLE, jcEQ, jcNE, dEQ, nIt, lgNE, lgEQ, lgGE, lgLT, lgGT, lgLE, jinT, nIc, nI0, nI1, nIo, nIs, nI_add, nIm, nIn0, szl0, szl1, szl2, szl3, szl4, szl5, Nat.add_sub_assoc, Nat.add_zero, Nat.reduceSub, Nat.reduceAdd, Nat.reduceMul, Nat.reduceEqDiff,  jifT, bdS, sifN, sifS, omN, omS, cdI, x25, x26, x27, x28, x29, x30, x31, x32, xr0, xr1, xr2, xr3, xr4, xr5, if_pos, if_neg, true_and, and_true, false_and, and_false, and_self, Bool.and_true, if_true, if_false, reduceIte, cond_true, cond_false, not_true_eq_false, not_false_eq_true, x51, x52, x53, x54, x55, x56, x57, x58, x59, x60, x61, x62, x63, q3, b3, e170]
    · rw [b3] at e1
      obtain ⟨p1, kd, z, w, cc, c1, c2, ⟨c3, c4, c5⟩, _⟩ := b7
      have e87 := f_87o (G := G) (t := t) (ty := 3) b1 c1 c2 c3 (by omega) (by omega)
      have e170 := f_170o (G := G) (t := t) (ty := 3) b2 c4 (by omega) (by omega)
      by_cases ck : kd = 3
      · subst ck
        rw [if_pos rfl] at e87 e170
        refine main (Or.inr ⟨x, b0, b3, c4⟩) ?_ ?_
        · rw [F_104_3]
          clear main
          simp (disch := first | assumption | omega) only [gI, gI2, gL, gL1, gL2, jcLT, jcGE, jcGT, jcLE, jcEQ, jcNE, dEQ, nIt, lgNE, lgEQ, lgGE, lgLT, lgGT, lgLE, jinT, nIc, nI0, nI1, nIo, nIs, nI_add, nIm, nIn0, szl0, szl1, szl2, szl3, szl4, szl5, Nat.add_sub_assoc, Nat.add_zero, Nat.reduceSub, Nat.reduceAdd, Nat.reduceMul, Nat.reduceEqDiff,  jifT, bdS, sifN, sifS, omN, omS, cdI, x25, x26, x27, x28, x29, x30, x31, x32, xr0, xr1, xr2, xr3, xr4, xr5, if_pos, if_neg, true_and, and_true, false_and, and_false, and_self, Bool.and_true, if_true, if_false, reduceIte, cond_true, cond_false, not_true_eq_false, not_false_eq_true, hM, q3, e1, e87]
        · rw [F_186_25]
          clear main
          simp (disch := first | assumption | omega) only [gI, gI2, gL, gL1, gL2, jcLT, jcGE, jcGT, jcLE, jcEQ, jcNE, dEQ, nIt, lgNE, lgEQ, lgGE, lgLT, lgGT, lgLE, jinT, nIc, nI0, nI1, nIo, nIs, nI_add, nIm, nIn0, szl0, szl1, szl2, szl3, szl4, szl5, Nat.add_sub_assoc, Nat.add_zero, Nat.reduceSub, Nat.reduceAdd, Nat.reduceMul, Nat.reduceEqDiff,  jifT, bdS, sifN, sifS, omN, omS, cdI, x25, x26, x27, x28, x29, x30, x31, x32, xr0, xr1, xr2, xr3, xr4, xr5, if_pos, if_neg, true_and, and_true, false_and, and_false, and_self, Bool.and_true, if_true, if_false, reduceIte, cond_true, cond_false, not_true_eq_false, not_false_eq_true, x51, x52, x53, x54, x55, x56, x57, x58, x59, x60, x61, x62, x63, q3, b4, b6, e170]
      · rw [if_neg ck] at e87 e170
        right
        constructor
        · rw [F_104_3]
          clear main
          simp (disch := first | assumption | omega) only [gI, gI2, gL, gL1, gL2, jcLT, jcGE, jcGT, jcLE, jcEQ, jcNE, dEQ, nIt, lgNE, lgEQ, lgGE, lgLT, lgGT, lgLE, jinT, nIc, nI0, nI1, nIo, nIs, nI_add, nIm, nIn0, szl0, szl1, szl2, szl3, szl4, szl5, Nat.add_sub_assoc, Nat.add_zero, Nat.reduceSub, Nat.reduceAdd, Nat.reduceMul, Nat.reduceEqDiff,  jifT, bdS, sifN, sifS, omN, omS, cdI, x25, x26, x27, x28, x29, x30, x31, x32, xr0, xr1, xr2, xr3, xr4, xr5, if_pos, if_neg, true_and, and_true, false_and, and_false, and_self, Bool.and_true, if_true, if_false, reduceIte, cond_true, cond_false, not_true_eq_false, not_false_eq_true, hM, q3, e1, e87]
        · rw [F_186_25]
          clear main
          simp (disch := first | assumption | omega) only [gI, gI2, gL, gL1, gL2, jcLT, jcGE, jcGT, jcLE, jcEQ, jcNE, dEQ, nIt, lgNE, lgEQ, lgGE, lgLT, lgGT, lgLE, jinT, nIc, nI0, nI1, nIo, nIs, nI_add, nIm, nIn0, szl0, szl1, szl2, szl3, szl4, szl5, Nat.add_sub_assoc, Nat.add_zero, Nat.reduceSub, Nat.reduceAdd, Nat.reduceMul, Nat.reduceEqDiff,  jifT, bdS, sifN, sifS, omN, omS, cdI, x25, x26, x27, x28, x29, x30, x31, x32, xr0, xr1, xr2, xr3, xr4, xr5, if_pos, if_neg, true_and, and_true, false_and, and_false, and_self, Bool.and_true, if_true, if_false, reduceIte, cond_true, cond_false, not_true_eq_false, not_false_eq_true, x51, x52, x53, x54, x55, x56, x57, x58, x59, x60, x61, x62, x63, q3, b4, b6, e170]
end SEL
