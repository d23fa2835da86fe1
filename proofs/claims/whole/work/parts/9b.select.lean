/-! SELECT: one case after the other. -/
section SE2
variable {φ : Nat → Nat} {D : Nat → Prop} {F N : Nat} {P : aP} {S S' T T' : sS} {A : aS} {r d p f pc n m e b k y : Nat} {G : jG} {t : Nat}
/-! where no case goes -/
set_option maxHeartbeats 4000000 in
set_option linter.unusedSimpArgs false in
theorem cx.selz (ht : 1000 < t) (h : cx φ D F N P S T A r d p f pc n m) (gc : gcR D S) (iq : iqR P A r False) (hy : T.1 33 0 0 38 = nI 0) (hpc : pc < P.2.2.2.1 f) {c B a : Nat} (hc : 1 ≤ c ∧ c ≤ 4) (hB : B + 3 * c = n) (hB2 : B + 2 ≤ 16) (ha : a < 2147483648) (hsel : ∃ q, pc = q + 1 ∧ P.2.2.2.2.2 (P.2.2.1 f + q) &&& nI 7 = nI c) (hok : ∀ i, i < c → okC D S T φ p B i) {u u' : Nat} : insY D F N P S T A r p G t (3 * c) 0 (F_105_35 G t (u + 1) (r, 0) (p, 1) (nI a) (nI c) (nI B) (nI c) S) (F_186_116 G t (u' + 1) (r, 0) (nI a) (nI c) (r, d) (nI B) (nI c) T) := by
  obtain ⟨hM, o1, o2, hn, hr, d2, d3⟩ := h.rd
  have q0 := e_156 (G := G) (t := t) (k := 3 * c) (by omega) hr d3 hn d2 o2 (by omega)
  rw [← nIml] at q0
  have wt := h.1.2.2.2.2.2.2.1.1
  have a93 := f_93 (G := G) (t := t) (st := 4) (c := c) hr wt.1
  have a177 := f_177 (G := G) (t := t) (st := 4) hr wt.2
  by_cases c8 : a < 8
  · refine h.awt gc iq hy hpc (st := 4) (c := c) (by omega) (fun z => by omega) (fun z => by omega) (fun _ => ⟨hc.1, hc.2, by omega, by omega, hsel, fun k hk => ?_⟩) ?_ ?_
    · rw [show n - 3 * c = B by omega]
      exact (hok k hk).2
    · rw [F_105_35]
      clear h gc iq hok hsel wt a177 q0
      simp (disch := first | assumption | omega) only [gI, gI2, gL, gL1, gL2, jcLT, jcGE, jcGT, jcLE, jcEQ, jcNE, dEQ, nIt, lgNE, lgEQ, lgGE, lgLT, lgGT, lgLE, jinT, nIc, nI0, nI1, nIo, nIs, nI_add, nIm, nIn0, szl0, szl1, szl2, szl3, szl4, szl5, Nat.add_sub_assoc, Nat.add_zero, Nat.reduceSub, Nat.reduceAdd, Nat.reduceMul, Nat.reduceEqDiff,  jifT, bdS, sifN, sifS, omN, omS, cdI, x25, x26, x27, x28, x29, x30, x31, x32, xr0, xr1, xr2, xr3, xr4, xr5, if_pos, if_neg, true_and, and_true, false_and, and_false, and_self, Bool.and_true, if_true, if_false, reduceIte, cond_true, cond_false, not_true_eq_false, not_false_eq_true, a93]
    · rw [F_186_116]
      clear h gc iq hok hsel wt a93 q0
      simp (disch := first | assumption | omega) only [gI, gI2, gL, gL1, gL2, jcLT, jcGE, jcGT, jcLE, jcEQ, jcNE, dEQ, nIt, lgNE, lgEQ, lgGE, lgLT, lgGT, lgLE, jinT, nIc, nI0, nI1, nIo, nIs, nI_add, nIm, nIn0, szl0, szl1, szl2, szl3, szl4, szl5, Nat.add_sub_assoc, Nat.add_zero, Nat.reduceSub, Nat.reduceAdd, Nat.reduceMul, Nat.reduceEqDiff,  jifT, bdS, sifN, sifS, omN, omS, cdI, x25, x26, x27, x28, x29, x30, x31, x32, xr0, xr1, xr2, xr3, xr4, xr5, if_pos, if_neg, true_and, and_true, false_and, and_false, and_self, Bool.and_true, if_true, if_false, reduceIte, cond_true, cond_false, not_true_eq_false, not_false_eq_true, x51, x52, x53, x54, x55, x56, x57, x58, x59, x60, x61, x62, x63, a177]
  · obtain ⟨h2, k2⟩ := h.dr (3 * c)
    rw [show n - 3 * c = B by omega] at h2 k2
    obtain ⟨h3, k3⟩ := h2.pu (x := 0) (v := 0) (g := nI 0) (kk := nI 0) (by omega) (Or.inl ⟨rfl, rfl, rfl⟩)
    obtain ⟨h4, k4⟩ := h3.pu (x := -1) (v := -1) (g := nI 0) (kk := nI 0) (by omega) (Or.inl ⟨rfl, rfl, rfl⟩)
    have e6 : F_76 G t (p, 1) (nI 3 * nI c) S = some ((), siI S 29 p 1 2 (nI B)) := by
      rw [nIml]
      have := f76d (G := G) (t := t) (k := 3 * c) hM o1 hn (by omega)
      rw [show n - 3 * c = B by omega] at this
      exact this
    have e7 : F_78 G t (p, 1) 0 (nI 0) (siI S 29 p 1 2 (nI B)) = some ((), rpush (siI S 29 p 1 2 (nI B)) p 1 B 0 (nI 0)) := f_78 ⟨xr1 hM, siI_at _ _ _ _ _ _, show B ≤ 16 by omega⟩ (show B < 16 by omega)
    have e8 : F_78 G t (p, 1) (-1) (nI 0) (rpush (siI S 29 p 1 2 (nI B)) p 1 B 0 (nI 0)) = some ((), rpush (rpush (siI S 29 p 1 2 (nI B)) p 1 B 0 (nI 0)) p 1 (B + 1) (-1) (nI 0)) := f_78 ⟨xr1 hM, siI_at _ _ _ _ _ _, show B + 1 ≤ 16 by omega⟩ (show B + 1 < 16 by omega)
    have e9 : (rpush (siI S 29 p 1 2 (nI B)) p 1 B 0 (nI 0)).2.2 = S.2.2 := rfl
    have m1 := e_157 (G := G) (t := t) (T := mpS T r d n (3 * c)) (s := r) (d := d) (n := B) (k := nI 0) (v := 0) hr d3 (by omega) (by rw [(mpS_r _ _ _ _ _).2.2]; exact d2) (by rw [mpS_sz o2, show n - 3 * c = B by omega])
    have m2 := e_157 (G := G) (t := t) (T := mpu (mpS T r d n (3 * c)) r d B (nI 0) 0) (s := r) (d := d) (n := B + 1) (k := nI 0) (v := -1) hr d3 (by omega) (by rw [(mpu_r _ _ _ _ _ _ 0).2.2.2, (mpS_r _ _ _ _ _).2.2]; exact d2) (mpu_r _ _ _ _ _ _ 0).2.2.1
    refine cx.done (S := S) (T := T) (A0 := A) h4 (((gc.keep k2).keep k3).keep k4) iq.set.set.set hpc ?_ rfl (fun u hu => hu.same rfl) ?_ ?_
    · rw [(mu_ag _ _ _ _ _ _ 33 0 0 (by omega)).1, (mu_ag _ _ _ _ _ _ 33 0 0 (by omega)).1, mpS_I _ _ _ _ (by omega) (by omega)]
      exact hy
    · rw [F_105_35]
      clear h gc iq hok hsel wt a177 a93 q0 h2 h3 h4 m1 m2 k2 k3 k4
      simp (disch := first | assumption | omega) only [gI, gI2, gL, gL1, gL2, jcLT, jcGE, jcGT, jcLE, jcEQ, jcNE, dEQ, nIt, lgNE, lgEQ, lgGE, lgLT, lgGT, lgLE, jinT, nIc, nI0, nI1, nIo, nIs, nI_add, nIm, nIn0, szl0, szl1, szl2, szl3, szl4, szl5, Nat.add_sub_assoc, Nat.add_zero, Nat.reduceSub, Nat.reduceAdd, Nat.reduceMul, Nat.reduceEqDiff,  jifT, bdS, sifN, sifS, omN, omS, cdI, x25, x26, x27, x28, x29, x30, x31, x32, xr0, xr1, xr2, xr3, xr4, xr5, if_pos, if_neg, true_and, and_true, false_and, and_false, and_self, Bool.and_true, if_true, if_false, reduceIte, cond_true, cond_false, not_true_eq_false, not_false_eq_true, hM, e6, e7, e8, e9]
    · rw [F_186_116]
      clear h gc iq hok hsel wt a177 a93 h2 h3 h4 k2 k3 k4 e6 e7 e8 e9
      simp (disch := first | assumption | omega) only [gI, gI2, gL, gL1, gL2, jcLT, jcGE, jcGT, jcLE, jcEQ, jcNE, dEQ, nIt, lgNE, lgEQ, lgGE, lgLT, lgGT, lgLE, jinT, nIc, nI0, nI1, nIo, nIs, nI_add, nIm, nIn0, szl0, szl1, szl2, szl3, szl4, szl5, Nat.add_sub_assoc, Nat.add_zero, Nat.reduceSub, Nat.reduceAdd, Nat.reduceMul, Nat.reduceEqDiff,  jifT, bdS, sifN, sifS, omN, omS, cdI, x25, x26, x27, x28, x29, x30, x31, x32, xr0, xr1, xr2, xr3, xr4, xr5, if_pos, if_neg, true_and, and_true, false_and, and_false, and_self, Bool.and_true, if_true, if_false, reduceIte, cond_true, cond_false, not_true_eq_false, not_false_eq_true, x51, x52, x53, x54, x55, x56, x57, x58, x59, x60, x61, x62, x63, q0, m1, m2]
set_option maxHeartbeats 4000000 in
set_option linter.unusedSimpArgs false in
theorem cx.sel (ht : 1000 < t) (h : cx φ D F N P S T A r d p f pc n m) (gc : gcR D S) (iq : iqR P A r False) (hy : T.1 33 0 0 38 = nI 0) (hpc : pc < P.2.2.2.1 f) (hW : A.2.2.2.2.2.1 + A.2.2.2.2.2.2 < 2147483648) {c B a : Nat} (hc : 1 ≤ c ∧ c ≤ 4) (hB : B + 3 * c = n) (hB2 : B + 2 ≤ 16) (ha : a < 2147483648) (hsel : ∃ q, pc = q + 1 ∧ P.2.2.2.2.2 (P.2.2.1 f + q) &&& nI 7 = nI c) (hok : ∀ i, i < c → okC D S T φ p B i) : ∀ j k tt tt', k + j = c → j < tt → j < tt' → insY D F N P S T A r p G t (3 * c) 0 (F_105_35 G t tt (r, 0) (p, 1) (nI a) (nI c) (nI B) (nI k) S) (F_186_116 G t tt' (r, 0) (nI a) (nI c) (r, d) (nI B) (nI k) T) := by
  intro j
  induction j with
  | zero =>
    intro k tt tt' h1 h2 h3
    obtain ⟨u, rfl⟩ : ∃ u, tt = u + 1 := ⟨tt - 1, by omega⟩
    obtain ⟨u', rfl⟩ : ∃ u, tt' = u + 1 := ⟨tt' - 1, by omega⟩
    have : k = c := by omega
    subst this
    exact h.selz ht gc iq hy hpc hc hB hB2 ha hsel hok
  | succ j ih =>
    intro k tt tt' h1 h2 h3
    obtain ⟨u, rfl⟩ : ∃ u, tt = u + 1 := ⟨tt - 1, by omega⟩
    obtain ⟨u', rfl⟩ : ∃ u, tt' = u + 1 := ⟨tt' - 1, by omega⟩
    have ih := ih (k + 1) u u' (by omega) (by omega) (by omega)
    obtain ⟨hM, o1, o2, hn, hr, d2, d3⟩ := h.rd
    have o4 := h.fr.2.2.2.1.2.2.2
    have rw1 : rwS S p 1 n := ⟨xr1 hM, o1, hn⟩
    have f1 := f_27 (G := G) (t := t) rw1 (i := B + 3 * k) (by omega)
    have f2 := f_26 (G := G) (t := t) rw1 (i := B + 3 * k + 1) (by omega)
    have q3 : nI B + nI 3 * nI k = nI (B + 3 * k) := by rw [nIml, nI_add]
    have hb3 : B + 3 * k + 2 < 16 := by omega
    have ok := hok k (by omega)
    -- the number beside is the same
    have nm : S.2.1 30 p 1 (B + 3 * k + 1) = T.2.1 62 r d (B + 3 * k + 1) := by
      obtain ⟨ga, ka, a1, a2, a3, a4, a5, a6, a7, a8⟩ := (o4 (B + 3 * k + 1) (by omega)).ix h.D6
      rw [ok.2] at a1
      have := (nI_eq (by omega) (by omega)).mp a1
      exact a7 this.symm
    have NEXT : F_105_35 G t (u + 1) (r, 0) (p, 1) (nI a) (nI c) (nI B) (nI k) S = F_105_35 G t u (r, 0) (p, 1) (nI a) (nI c) (nI B) (nI (k + 1)) S → F_186_116 G t (u' + 1) (r, 0) (nI a) (nI c) (r, d) (nI B) (nI k) T = F_186_116 G t u' (r, 0) (nI a) (nI c) (r, d) (nI B) (nI (k + 1)) T → insY D F N P S T A r p G t (3 * c) 0 (F_105_35 G t (u + 1) (r, 0) (p, 1) (nI a) (nI c) (nI B) (nI k) S) (F_186_116 G t (u' + 1) (r, 0) (nI a) (nI c) (r, d) (nI B) (nI k) T) := fun x1 x2 => by
      rw [x1, x2]
      exact ih
    clear ih
    rcases h.ob (o4 (B + 3 * k) (by omega)) with ⟨q, b1, b2, b3, b4, b5⟩ | ⟨x, b0, b1, b2, b3, b4, b5, b6, b7⟩
    · -- nil
      have cq : q = 1 := by
        rcases ok.1 with z | ⟨x, z0, z, _⟩
        · rw [b2] at z
          have := (nI_eq (by omega) (by omega)).mp z
          omega
        · have := h.D6 x z0
          rw [b2] at z
          have := (nI_eq (by omega) (by omega)).mp z
          omega
      subst cq
      rw [b2] at f1
      have e87 := f_87n (G := G) (t := t) (g := 1) (ty := nI 3) (S := S) (by omega)
      refine NEXT ?_ ?_
      · rw [F_105_35]
        clear h gc iq hok hsel NEXT o4 ok rw1
        simp (disch := first | assumption | omega) only [gI, gI2, gL, gL1, gL2, jcLT, jcGE, jcGT, jcLE, jcEQ, jcNE, dEQ, nIt, lgNE, lgEQ, lgGE, lgLT, lgGT, lgLE, jinT, nIc, nI0, nI1, nIo, nIs, nI_add, nIm, nIn0, szl0, szl1, szl2, szl3, szl4, szl5, Nat.add_sub_assoc, Nat.add_zero, Nat.reduceSub, Nat.reduceAdd, Nat.reduceMul, Nat.reduceEqDiff,  jifT, bdS, sifN, sifS, omN, omS, cdI, x25, x26, x27, x28, x29, x30, x31, x32, xr0, xr1, xr2, xr3, xr4, xr5, if_pos, if_neg, true_and, and_true, false_and, and_false, and_self, Bool.and_true, if_true, if_false, reduceIte, cond_true, cond_false, not_true_eq_false, not_false_eq_true, hM, q3, f1, e87, F_105_204]
      · rw [F_186_116]
        clear h gc iq hok hsel NEXT o4 ok rw1 f1 f2 nm
        by_cases cz : T.2.1 62 r d (B + 3 * k + 1) = 0
        · simp (disch := first | assumption | omega) only [gI, gI2, gL, gL1, gL2, jcLT, jcGE, jcGT, jcLE, jcEQ, jcNE, dEQ, nIt, lgNE, lgEQ, lgGE, lgLT, lgGT, lgLE, jinT, nIc, nI0, nI1, nIo, nIs, nI_add, nIm, nIn0, szl0, szl1, szl2, szl3, szl4, szl5, Nat.add_sub_assoc, Nat.add_zero, Nat.reduceSub, Nat.reduceAdd, Nat.reduceMul, Nat.reduceEqDiff,  jifT, bdS, sifN, sifS, omN, omS, cdI, x25, x26, x27, x28, x29, x30, x31, x32, xr0, xr1, xr2, xr3, xr4, xr5, if_pos, if_neg, true_and, and_true, false_and, and_false, and_self, Bool.and_true, if_true, if_false, reduceIte, cond_true, cond_false, not_true_eq_false, not_false_eq_true, x51, x52, x53, x54, x55, x56, x57, x58, x59, x60, x61, x62, x63, q3, eq_true cz, F_186_186, b3, F_186_311]
        · simp (disch := first | assumption | omega) only [gI, gI2, gL, gL1, gL2, jcLT, jcGE, jcGT, jcLE, jcEQ, jcNE, dEQ, nIt, lgNE, lgEQ, lgGE, lgLT, lgGT, lgLE, jinT, nIc, nI0, nI1, nIo, nIs, nI_add, nIm, nIn0, szl0, szl1, szl2, szl3, szl4, szl5, Nat.add_sub_assoc, Nat.add_zero, Nat.reduceSub, Nat.reduceAdd, Nat.reduceMul, Nat.reduceEqDiff,  jifT, bdS, sifN, sifS, omN, omS, cdI, x25, x26, x27, x28, x29, x30, x31, x32, xr0, xr1, xr2, xr3, xr4, xr5, if_pos, if_neg, true_and, and_true, false_and, and_false, and_self, Bool.and_true, if_true, if_false, reduceIte, cond_true, cond_false, not_true_eq_false, not_false_eq_true, x51, x52, x53, x54, x55, x56, x57, x58, x59, x60, x61, x62, x63, q3, eq_false cz, F_186_186, b3, F_186_311]
    · rw [b3] at f1
      obtain ⟨p1, kd, z, w, cl, c1, c2, ⟨c3, c4, c5⟩, ⟨c6, c7, c8, c8'⟩, ⟨c9, c10, c11, c12⟩, ⟨c13, c14, c15⟩, c16, vv⟩ := b7
      have ck : kd = 3 := by
        rcases ok.1 with q | ⟨x', z0, q, kx⟩
        · rw [b3] at q
          have := (nI_eq (by omega) (by omega)).mp q
          omega
        · have := h.D6 x' z0
          rw [b3] at q
          have := (nI_eq (by omega) (by omega)).mp q
          have : x' = x := by omega
          subst this
          exact (nI_eq (by omega) (by omega)).mp (c4.symm.trans kx)
      subst ck
      have e87 : F_87 G t (nI (x + 2)) (nI 3) S = some (some (p1, 0), S) := by
        have := f_87o (G := G) (t := t) (ty := 3) b1 c1 c2 c3 (by omega) (by omega)
        rw [if_pos rfl] at this
        exact this
      have t2 := c10 rfl
      have hch : chR φ D S T x p1 z w cl := ⟨c1, c2, ⟨c3, c4⟩, ⟨c6, c7, c8' rfl⟩, ⟨c9, t2, c11⟩, ⟨c13, c14, c15⟩, c16, vv⟩
      have v32 : (T.2.1 62 r d (B + 3 * k)).toInt32 = nI (φ x) := by rw [b6]; exact ofN32 (by omega)
      have q0 := e_156 (G := G) (t := t) (k := 3 * c) (by omega) hr d3 hn d2 o2 (by omega)
      rw [← nIml] at q0
      have hnB : n - 3 * c = B := by omega
      have k64 : k < 2147483648 := by omega
      by_cases cz : S.2.1 30 p 1 (B + 3 * k + 1) = 0
      · -- it receives
        have czT : T.2.1 62 r d (B + 3 * k + 1) = 0 := by rw [← nm]; exact cz
        have lwM := h.1.lwM (G := G) (t := t) (y := x) (snd := 1) (by omega) b0 c4 (by omega) hW
        rw [show 1 - 1 = 0 from rfl] at lwM
        have lwC := h.1.lwC (G := G) (t := t) (y := x) (sn := 1) (rc := 0) (by omega) b1 (by omega) (by omega) hW
        have e176 := e176r (G := G) (t := t) (o := lw S A x 1 0) b2 c14 c15 t2 (by omega) (fun s hs => (h.1.lwS (t := t) (by omega) b1 (by omega) (by omega) hs).1) lwM
        have e95' := e95 (G := G) (t := t) (y := x) (o := lw S A x 1 0) c2 c9 (by omega) c13 c15 lwC
        by_cases cc : 0 < w ∨ cl = 1 ∨ lw S A x 1 0 ≠ none
        · rw [if_pos cc] at e176 e95'
          obtain ⟨h2', k2⟩ := h.dr (3 * c)
          have hc2 : chR φ D (siI S 29 p 1 2 (nI (n - 3 * c))) (mpS T r d n (3 * c)) x p1 z w cl := hch.mv ((dr_ag _ _ _).mono (fun t i j q => by omega)) rfl ((mp_ag _ _ _ _ _).mono (fun t i j q => by omega))
          rw [hnB] at h2' k2 hc2
          obtain ⟨S2, T1, A', fl, p1', p2', p3', p4', p5', p6', p7', p8', p9', p10', p11', p12'⟩ := h2'.pull (G := G) ht (gc.keep k2) iq.set hW (by omega) b0 hc2
          obtain ⟨h5, k5⟩ := p5'.pu (x := (nI k).toInt64) (v := (nI k).toInt64) (g := nI 0) (kk := nI 0) (by omega) (Or.inl ⟨rfl, rfl, rfl⟩)
          have e6 : F_76 G t (p, 1) (nI 3 * nI c) S = some ((), siI S 29 p 1 2 (nI B)) := by
            rw [nIml]
            have := f76d (G := G) (t := t) (k := 3 * c) hM o1 hn (by omega)
            rw [hnB] at this
            exact this
          have hM2 := p5'.fr.1
          have e7 : F_78 G t (p, 1) (nI k).toInt64 (nI 0) S2 = some ((), rpush S2 p 1 (B + 1) (nI k).toInt64 (nI 0)) := f_78 ⟨xr1 hM2, p5'.fr.2.2.2.1.1, show B + 1 ≤ 16 by omega⟩ (show B + 1 < 16 by omega)
          have m1 := e_157 (G := G) (t := t) (T := T1) (s := r) (d := d) (n := B) (k := T1.1 33 0 0 35) (v := T1.2.1 33 0 0 37) hr d3 (by omega) p12' p11'
          have m2 := e_157 (G := G) (t := t) (T := mpu T1 r d B (T1.1 33 0 0 35) (T1.2.1 33 0 0 37)) (s := r) (d := d) (n := B + 1) (k := nI 0) (v := (nI k).toInt64) hr d3 (by omega) (by rw [(mpu_r _ _ _ _ _ _ 0).2.2.2]; exact p12') (mpu_r _ _ _ _ _ _ 0).2.2.1
          refine cx.done (S := S) (T := T) (A0 := A) h5 (p6'.keep k5) p7'.set hpc ?_ ?_ (fun u hu => (hu.same rfl).same (by show S2.2.2 = S.2.2; rw [p8']; rfl)) ?_ ?_
          · rw [(mu_ag _ _ _ _ _ _ 33 0 0 (by omega)).1, (mu_ag _ _ _ _ _ _ 33 0 0 (by omega)).1, p9', mpS_I _ _ _ _ (by omega) (by omega)]
            exact hy
          · show A'.2.2.2.2 = A.2.2.2.2
            rw [p10']
            rfl
          · rw [F_105_35]
            clear h gc iq vv lwM h2' p5' p6' p7' h5 hch hc2 lwC hok hsel NEXT o4 ok rw1 e176 m1 m2
            simp (disch := first | assumption | omega) only [gI, gI2, gL, gL1, gL2, jcLT, jcGE, jcGT, jcLE, jcEQ, jcNE, dEQ, nIt, lgNE, lgEQ, lgGE, lgLT, lgGT, lgLE, jinT, nIc, nI0, nI1, nIo, nIs, nI_add, nIm, nIn0, szl0, szl1, szl2, szl3, szl4, szl5, Nat.add_sub_assoc, Nat.add_zero, Nat.reduceSub, Nat.reduceAdd, Nat.reduceMul, Nat.reduceEqDiff,  jifT, bdS, sifN, sifS, omN, omS, cdI, x25, x26, x27, x28, x29, x30, x31, x32, xr0, xr1, xr2, xr3, xr4, xr5, if_pos, if_neg, true_and, and_true, false_and, and_false, and_self, Bool.and_true, if_true, if_false, reduceIte, cond_true, cond_false, not_true_eq_false, not_false_eq_true, hM, q3, f1, e87, f2, eq_true cz, F_105_97, F_105_115, F_105_160, e95', e6, p1', hM2, e7]
          · rw [F_186_116]
            clear h gc iq vv lwM h2' p5' p6' p7' h5 hch hc2 lwC hok hsel NEXT o4 ok rw1 e95' e6 e7 f1 f2
            simp (disch := first | assumption | omega) only [gI, gI2, gL, gL1, gL2, jcLT, jcGE, jcGT, jcLE, jcEQ, jcNE, dEQ, nIt, lgNE, lgEQ, lgGE, lgLT, lgGT, lgLE, jinT, nIc, nI0, nI1, nIo, nIs, nI_add, nIm, nIn0, szl0, szl1, szl2, szl3, szl4, szl5, Nat.add_sub_assoc, Nat.add_zero, Nat.reduceSub, Nat.reduceAdd, Nat.reduceMul, Nat.reduceEqDiff,  jifT, bdS, sifN, sifS, omN, omS, cdI, x25, x26, x27, x28, x29, x30, x31, x32, xr0, xr1, xr2, xr3, xr4, xr5, if_pos, if_neg, true_and, and_true, false_and, and_false, and_self, Bool.and_true, if_true, if_false, reduceIte, cond_true, cond_false, not_true_eq_false, not_false_eq_true, x51, x52, x53, x54, x55, x56, x57, x58, x59, x60, x61, x62, x63, q3, eq_true czT, F_186_186, b4, v32, e176, q0, F_186_250, p3', F_186_284, m1, m2]
        · rw [if_neg cc] at e176 e95'
          refine NEXT ?_ ?_
          · rw [F_105_35]
            clear h gc iq vv lwM hch lwC hok hsel NEXT o4 ok rw1 e176
            simp (disch := first | assumption | omega) only [gI, gI2, gL, gL1, gL2, jcLT, jcGE, jcGT, jcLE, jcEQ, jcNE, dEQ, nIt, lgNE, lgEQ, lgGE, lgLT, lgGT, lgLE, jinT, nIc, nI0, nI1, nIo, nIs, nI_add, nIm, nIn0, szl0, szl1, szl2, szl3, szl4, szl5, Nat.add_sub_assoc, Nat.add_zero, Nat.reduceSub, Nat.reduceAdd, Nat.reduceMul, Nat.reduceEqDiff,  jifT, bdS, sifN, sifS, omN, omS, cdI, x25, x26, x27, x28, x29, x30, x31, x32, xr0, xr1, xr2, xr3, xr4, xr5, if_pos, if_neg, true_and, and_true, false_and, and_false, and_self, Bool.and_true, if_true, if_false, reduceIte, cond_true, cond_false, not_true_eq_false, not_false_eq_true, hM, q3, f1, e87, f2, eq_true cz, F_105_97, F_105_115, F_105_160, e95', F_105_204]
          · rw [F_186_116]
            clear h gc iq vv lwM hch lwC hok hsel NEXT o4 ok rw1 e95' f1 f2
            simp (disch := first | assumption | omega) only [gI, gI2, gL, gL1, gL2, jcLT, jcGE, jcGT, jcLE, jcEQ, jcNE, dEQ, nIt, lgNE, lgEQ, lgGE, lgLT, lgGT, lgLE, jinT, nIc, nI0, nI1, nIo, nIs, nI_add, nIm, nIn0, szl0, szl1, szl2, szl3, szl4, szl5, Nat.add_sub_assoc, Nat.add_zero, Nat.reduceSub, Nat.reduceAdd, Nat.reduceMul, Nat.reduceEqDiff,  jifT, bdS, sifN, sifS, omN, omS, cdI, x25, x26, x27, x28, x29, x30, x31, x32, xr0, xr1, xr2, xr3, xr4, xr5, if_pos, if_neg, true_and, and_true, false_and, and_false, and_self, Bool.and_true, if_true, if_false, reduceIte, cond_true, cond_false, not_true_eq_false, not_false_eq_true, x51, x52, x53, x54, x55, x56, x57, x58, x59, x60, x61, x62, x63, q3, eq_true czT, F_186_186, b4, v32, e176, F_186_311]
      · -- it sends
        have czT : ¬ T.2.1 62 r d (B + 3 * k + 1) = 0 := by rw [← nm]; exact cz
        have lwM := h.1.lwM (G := G) (t := t) (y := x) (snd := 0) (by omega) b0 c4 (by omega) hW
        rw [show 1 - 0 = 1 from rfl] at lwM
        have e176 := e176s (G := G) (t := t) (o := lw S A x 0 1) b2 c14 c15 c7 t2 (by omega) (by omega) (fun s hs => (h.1.lwS (t := t) (by omega) b1 (by omega) (by omega) hs).1) lwM
        have m4 : (mpS T r d n (3 * c)).1 51 (φ x) 0 4 = nI cl := by rw [(mp51 T r d n (3 * c) (φ x) 4 51 (by omega) (by omega)).1]; exact c14
        by_cases cc : cl = 1
        · subst cc
          rw [if_pos (Or.inl rfl)] at e176
          have ec : F_105_35 G t (u + 1) (r, 0) (p, 1) (nI a) (nI c) (nI B) (nI k) S = some (-4, S) := by
            rw [F_105_35]
            clear h gc iq vv lwM hch hok hsel NEXT o4 ok rw1 e176
            simp (disch := first | assumption | omega) only [gI, gI2, gL, gL1, gL2, jcLT, jcGE, jcGT, jcLE, jcEQ, jcNE, dEQ, nIt, lgNE, lgEQ, lgGE, lgLT, lgGT, lgLE, jinT, nIc, nI0, nI1, nIo, nIs, nI_add, nIm, nIn0, szl0, szl1, szl2, szl3, szl4, szl5, Nat.add_sub_assoc, Nat.add_zero, Nat.reduceSub, Nat.reduceAdd, Nat.reduceMul, Nat.reduceEqDiff,  jifT, bdS, sifN, sifS, omN, omS, cdI, x25, x26, x27, x28, x29, x30, x31, x32, xr0, xr1, xr2, xr3, xr4, xr5, if_pos, if_neg, true_and, and_true, false_and, and_false, and_self, Bool.and_true, if_true, if_false, reduceIte, cond_true, cond_false, not_true_eq_false, not_false_eq_true, hM, q3, f1, e87, f2, eq_false cz, F_105_97, c2, c13]
          obtain ⟨S', T', r1, r2, r3⟩ := h.panp (G := G) ht (3 * c) (by omega) neg4.1 neg4.2 ec
          refine insR.y ⟨S', T', r1, ?_, r3⟩ gc iq hr hy
          rw [F_186_116]
          clear h gc iq vv lwM hch hok hsel NEXT o4 ok rw1 f1 f2 r1 r3 ec
          simp (disch := first | assumption | omega) only [gI, gI2, gL, gL1, gL2, jcLT, jcGE, jcGT, jcLE, jcEQ, jcNE, dEQ, nIt, lgNE, lgEQ, lgGE, lgLT, lgGT, lgLE, jinT, nIc, nI0, nI1, nIo, nIs, nI_add, nIm, nIn0, szl0, szl1, szl2, szl3, szl4, szl5, Nat.add_sub_assoc, Nat.add_zero, Nat.reduceSub, Nat.reduceAdd, Nat.reduceMul, Nat.reduceEqDiff,  jifT, bdS, sifN, sifS, omN, omS, cdI, x25, x26, x27, x28, x29, x30, x31, x32, xr0, xr1, xr2, xr3, xr4, xr5, if_pos, if_neg, true_and, and_true, false_and, and_false, and_self, Bool.and_true, if_true, if_false, reduceIte, cond_true, cond_false, not_true_eq_false, not_false_eq_true, x51, x52, x53, x54, x55, x56, x57, x58, x59, x60, x61, x62, x63, q3, eq_false czT, F_186_186, b4, v32, e176, q0, m4, r2]
        · have : cl = 0 := by omega
          subst this
          have PASS : paR φ D F N P S T A r d p f pc n m (3 * c) (F_92 G t (p1, 0) (nI (x + 2)) (p, 1) (nI (B + 3 * k + 2)) S) (F_180 G t (nI (φ x)) (T.1 58 r d (B + 3 * k + 2)) (T.2.1 62 r d (B + 3 * k + 2)) (mpS T r d n (3 * c))) → F_176 G t (nI (φ x)) (nI 1) T = some (nI 1, T) → insY D F N P S T A r p G t (3 * c) 0 (F_105_35 G t (u + 1) (r, 0) (p, 1) (nI a) (nI c) (nI B) (nI k) S) (F_186_116 G t (u' + 1) (r, 0) (nI a) (nI c) (r, d) (nI B) (nI k) T) := fun pa e176 => by
            obtain ⟨S1, T2, A', p1', p2', p3', p4', p5', p6', p7', p8', p9', p10'⟩ := pa
            rw [hnB] at p5' p7'
            have x6 := p5'.tmp (T' := siL (siI T2 33 0 0 35 (nI 0)) 33 0 0 37 0) (agr.l (agr.i (agr.refl _ _) _ _ (Or.inl rfl)) _ _ (Or.inl rfl)) (fun k' hk' => by rw [gL1, gI, if_neg (by omega)]) (by rw [gL, if_neg (by omega)]; rfl)
            obtain ⟨h5, k5⟩ := x6.pu (x := 0) (v := 0) (g := nI 0) (kk := nI 0) (by omega) (Or.inl ⟨rfl, rfl, rfl⟩)
            obtain ⟨h6, k6⟩ := h5.pu (x := (nI k).toInt64) (v := (nI k).toInt64) (g := nI 0) (kk := nI 0) (by omega) (Or.inl ⟨rfl, rfl, rfl⟩)
            have g35 : (siL (siI T2 33 0 0 35 (nI 0)) 33 0 0 37 0).1 33 0 0 35 = nI 0 := by rw [gL1, siI_at]
            have g37 : (siL (siI T2 33 0 0 35 (nI 0)) 33 0 0 37 0).2.1 33 0 0 37 = 0 := by rw [gL, if_pos ⟨rfl, rfl, rfl, rfl⟩]
            obtain ⟨_, _, y2, _, _, y3, _⟩ := x6.rd
            have e6 : F_76 G t (p, 1) (nI 3 * nI c) S1 = some ((), siI S1 29 p 1 2 (nI B)) := by
              rw [nIml]
              have := f76d (G := G) (t := t) (S := S1) (p := p) (n := n) (k := 3 * c) p2' p3' hn (by omega)
              rw [hnB] at this
              exact this
            have e7 : F_78 G t (p, 1) 0 (nI 0) (siI S1 29 p 1 2 (nI B)) = some ((), rpush (siI S1 29 p 1 2 (nI B)) p 1 B 0 (nI 0)) := f_78 ⟨xr1 p2', siI_at _ _ _ _ _ _, show B ≤ 16 by omega⟩ (show B < 16 by omega)
            have e8 : F_78 G t (p, 1) (nI k).toInt64 (nI 0) (rpush (siI S1 29 p 1 2 (nI B)) p 1 B 0 (nI 0)) = some ((), rpush (rpush (siI S1 29 p 1 2 (nI B)) p 1 B 0 (nI 0)) p 1 (B + 1) (nI k).toInt64 (nI 0)) := f_78 ⟨xr1 p2', siI_at _ _ _ _ _ _, show B + 1 ≤ 16 by omega⟩ (show B + 1 < 16 by omega)
            have e9 : (rpush (siI S1 29 p 1 2 (nI B)) p 1 B 0 (nI 0)).2.2 = S1.2.2 := rfl
            have m1 := e_157 (G := G) (t := t) (T := siL (siI T2 33 0 0 35 (nI 0)) 33 0 0 37 0) (s := r) (d := d) (n := B) (k := nI 0) (v := 0) hr d3 (by omega) y3 y2
            have m2 := e_157 (G := G) (t := t) (T := mpu (siL (siI T2 33 0 0 35 (nI 0)) 33 0 0 37 0) r d B (nI 0) 0) (s := r) (d := d) (n := B + 1) (k := nI 0) (v := (nI k).toInt64) hr d3 (by omega) (by rw [(mpu_r _ _ _ _ _ _ 0).2.2.2]; exact y3) (mpu_r _ _ _ _ _ _ 0).2.2.1
            refine cx.done (S := S) (T := T) (A0 := A) h6 ((p7'.keep k5).keep k6) p6'.set.set hpc ?_ p10' (fun u hu => (hu.same rfl).same p8') ?_ ?_
            · rw [(mu_ag _ _ _ _ _ _ 33 0 0 (by omega)).1, (mu_ag _ _ _ _ _ _ 33 0 0 (by omega)).1, gL1, gI, if_neg (by omega), p9']
              exact hy
            · rw [F_105_35]
              clear h gc iq vv lwM hch hok hsel NEXT o4 ok rw1 e176 p5' p6' p7' x6 h5 h6 m1 m2
              simp (disch := first | assumption | omega) only [gI, gI2, gL, gL1, gL2, jcLT, jcGE, jcGT, jcLE, jcEQ, jcNE, dEQ, nIt, lgNE, lgEQ, lgGE, lgLT, lgGT, lgLE, jinT, nIc, nI0, nI1, nIo, nIs, nI_add, nIm, nIn0, szl0, szl1, szl2, szl3, szl4, szl5, Nat.add_sub_assoc, Nat.add_zero, Nat.reduceSub, Nat.reduceAdd, Nat.reduceMul, Nat.reduceEqDiff,  jifT, bdS, sifN, sifS, omN, omS, cdI, x25, x26, x27, x28, x29, x30, x31, x32, xr0, xr1, xr2, xr3, xr4, xr5, if_pos, if_neg, true_and, and_true, false_and, and_false, and_self, Bool.and_true, if_true, if_false, reduceIte, cond_true, cond_false, not_true_eq_false, not_false_eq_true, hM, q3, f1, e87, f2, eq_false cz, F_105_97, c2, c13, F_105_115, p1', p2', e6, e7, e8, e9]
            · rw [F_186_116]
              clear h gc iq vv lwM hch hok hsel NEXT o4 ok rw1 f1 f2 p5' p6' p7' x6 h5 h6 p1' e6 e7 e8 e9
              simp (disch := first | assumption | omega) only [gI, gI2, gL, gL1, gL2, jcLT, jcGE, jcGT, jcLE, jcEQ, jcNE, dEQ, nIt, lgNE, lgEQ, lgGE, lgLT, lgGT, lgLE, jinT, nIc, nI0, nI1, nIo, nIs, nI_add, nIm, nIn0, szl0, szl1, szl2, szl3, szl4, szl5, Nat.add_sub_assoc, Nat.add_zero, Nat.reduceSub, Nat.reduceAdd, Nat.reduceMul, Nat.reduceEqDiff,  jifT, bdS, sifN, sifS, omN, omS, cdI, x25, x26, x27, x28, x29, x30, x31, x32, xr0, xr1, xr2, xr3, xr4, xr5, if_pos, if_neg, true_and, and_true, false_and, and_false, and_self, Bool.and_true, if_true, if_false, reduceIte, cond_true, cond_false, not_true_eq_false, not_false_eq_true, x51, x52, x53, x54, x55, x56, x57, x58, x59, x60, x61, x62, x63, q3, eq_false czT, F_186_186, b4, v32, e176, q0, m4, F_186_250, p4', F_186_284, g35, g37, m1, m2]
          cases hl : lw S A x 0 1 with
          | some s =>
            rw [hl, if_pos (Or.inr (Or.inl (fun z => by cases z)))] at e176
            exact PASS (h.pass1 ht gc iq hpc hW (by omega) (by omega) b0 c4 hl) e176
          | none =>
            rw [hl] at e176
            by_cases cw : w < z
            · rw [if_pos (Or.inr (Or.inr cw))] at e176
              exact PASS (h.pass2 ht gc iq hpc hW (by omega) (by omega) b0 c1 c2 ⟨c3, c4⟩ ⟨c6, c7, c8' rfl⟩ ⟨c9, t2⟩ ⟨c13, c14, by omega⟩ c16 vv cw hl) e176
            · rw [if_neg (fun q => by
                rcases q with q | q | q
                · omega
                · exact q rfl
                · exact cw q)] at e176
              have lwC := h.1.lwC (G := G) (t := t) (y := x) (sn := 0) (rc := 1) (by omega) b1 (by omega) (by omega) hW
              rw [hl] at lwC
              have e92' := e92n (G := G) (t := t) (S := S) (p := p) (p1 := p1) (w := w) (z := z) (n2 := n) (at_ := B + 3 * k + 2) lwC c2 c9 c6 (by omega) c11 hM o1 hn (by omega)
              rw [if_neg cw] at e92'
              refine NEXT ?_ ?_
              · rw [F_105_35]
                clear h gc iq vv lwM hch lwC hok hsel NEXT o4 ok rw1 e176 PASS
                simp (disch := first | assumption | omega) only [gI, gI2, gL, gL1, gL2, jcLT, jcGE, jcGT, jcLE, jcEQ, jcNE, dEQ, nIt, lgNE, lgEQ, lgGE, lgLT, lgGT, lgLE, jinT, nIc, nI0, nI1, nIo, nIs, nI_add, nIm, nIn0, szl0, szl1, szl2, szl3, szl4, szl5, Nat.add_sub_assoc, Nat.add_zero, Nat.reduceSub, Nat.reduceAdd, Nat.reduceMul, Nat.reduceEqDiff,  jifT, bdS, sifN, sifS, omN, omS, cdI, x25, x26, x27, x28, x29, x30, x31, x32, xr0, xr1, xr2, xr3, xr4, xr5, if_pos, if_neg, true_and, and_true, false_and, and_false, and_self, Bool.and_true, if_true, if_false, reduceIte, cond_true, cond_false, not_true_eq_false, not_false_eq_true, hM, q3, f1, e87, f2, eq_false cz, F_105_97, c2, c13, F_105_115, e92', F_105_160, F_105_204]
              · rw [F_186_116]
                clear h gc iq vv lwM hch lwC hok hsel NEXT o4 ok rw1 f1 f2 PASS e92'
                simp (disch := first | assumption | omega) only [gI, gI2, gL, gL1, gL2, jcLT, jcGE, jcGT, jcLE, jcEQ, jcNE, dEQ, nIt, lgNE, lgEQ, lgGE, lgLT, lgGT, lgLE, jinT, nIc, nI0, nI1, nIo, nIs, nI_add, nIm, nIn0, szl0, szl1, szl2, szl3, szl4, szl5, Nat.add_sub_assoc, Nat.add_zero, Nat.reduceSub, Nat.reduceAdd, Nat.reduceMul, Nat.reduceEqDiff,  jifT, bdS, sifN, sifS, omN, omS, cdI, x25, x26, x27, x28, x29, x30, x31, x32, xr0, xr1, xr2, xr3, xr4, xr5, if_pos, if_neg, true_and, and_true, false_and, and_false, and_self, Bool.and_true, if_true, if_false, reduceIte, cond_true, cond_false, not_true_eq_false, not_false_eq_true, x51, x52, x53, x54, x55, x56, x57, x58, x59, x60, x61, x62, x63, q3, eq_false czT, F_186_186, b4, v32, e176, F_186_311]
end SE2
