/-! SET_GLOBAL, YIELD, WRITE. -/
section WRT
variable {φ : Nat → Nat} {D : Nat → Prop} {F N : Nat} {P : aP} {S S' T T' : sS} {A : aS} {r d p f pc n m e b k : Nat} {G : jG} {t : Nat}
/-! from a changed top frame of the running strand, and then a change of the world's rest -/
theorem cx.fin (h : cx φ D F N P S T A r d p f pc n m) (g : gcR D S) (q : iqR P A r False) {S1 T1 S2 T2 : sS} {y k : Nat} (aSS : agr (fun t i j => 27 ≤ t ∧ t ≤ 31 ∧ i = p ∧ j < 4) S S1) (hX : S1.2.2 = S.2.2) (aT : agr (fun t i j => (56 ≤ t ∧ t ≤ 63 ∧ i = r ∧ j = d) ∨ (46 ≤ t ∧ t ≤ 50)) T T1) (hT : T1.2.2 = T.2.2) {pc' n' m' : Nat} (fr : frR φ D F P S1 p T1 r d f pc' n' m' 0 (dfb (A.2.2.1 r) d)) (hpc : pc' < P.2.2.2.1 f)
    (h2 : ∀ B : aS, B.2.2.2 = A.2.2.2 → wR φ D F N P S1 T1 B → wR φ D F N P S2 T2 B ∧ hk S1 S2) (hX2 : S2.2.2 = S1.2.2) (hy : T2.1 33 0 0 38 = nI y) {X : Option (Int32 × sS)} {W : Option (Unit × sS)} (hXX : X = some (nI 0, S2)) (hW : W = some ((), T2)) : insY D F N P S T A r p G t k y X W := by
  obtain ⟨w0, w1, hr, a1, a2, a3, a4⟩ := h
  obtain ⟨v1, k1, m1, ow1⟩ := w0.frm hr a1 a2 a3 aSS hX aT hT fr
  obtain ⟨v2, k2⟩ := h2 (aset A r 1 (d + 1) (fset (A.2.2.1 r) d (f, pc', n', m', 0))) rfl v1
  obtain ⟨q1, q2, q3, q9⟩ := q
  refine ⟨S2, T2, φ, D, _, cD_ok hXX, hW, v2, (g.keep k1.hk).keep k2, ⟨fun s hs _ => ?_, q2, fun s => ?_, ?_⟩, fun x hx => (hx.same hX).same hX2, hy, ⟨Nat.le_succ _, rfl⟩, fun z => ?_⟩
  · by_cases c : s = r
    · subst c
      rw [aset_2, aset_3]
      intro y hy
      have : y = d := by omega
      subst this
      rw [fset_at]
      exact ⟨rfl, hpc⟩
    · rw [aset_2n _ _ _ _ c, aset_3n _ _ _ _ c]
      exact q1 s hs (Or.inl c)
  · by_cases c : s = r
    · subst c
      constructor
      · intro z
        exact absurd rfl ((q3 s).mp z).2.2
      · intro z
        exact absurd rfl z.2.2
    · rw [aset_1n _ _ _ _ c]
      exact q3 s
  · by_cases c : 0 = r
    · subst c
      rw [aset_1]
      omega
    · rw [aset_1n _ _ _ _ c]
      exact q9
  · rw [aset_1] at z
    cases z
set_option maxHeartbeats 4000000 in
set_option linter.unusedSimpArgs false in
theorem w_5 {j : Nat} {T1 : sS} (hj : j < 16) (q0 : F_156 G t (r, 0) (nI 1) T = some (nI 1, T1)) : W_5 G t r d (nI j) T = some ((), siL (siI T1 36 0 0 j (T1.1 47 0 0 0)) 43 0 0 j (T1.2.1 48 0 0 0)) := by
  unfold W_5
  simp (disch := first | assumption | omega) only [gI, gI2, gL, gL1, gL2, jcLT, jcGE, jcGT, jcLE, jcEQ, jcNE, dEQ, nIt, lgNE, lgEQ, lgGE, lgLT, lgGT, lgLE, jinT, nIc, nI0, nI1, nIo, nIs, nI_add, nIm, nIn0, szl0, szl1, szl2, szl3, szl4, szl5, Nat.add_sub_assoc, Nat.add_zero, Nat.reduceSub, Nat.reduceAdd, Nat.reduceMul, Nat.reduceEqDiff,  jifT, bdS, sifN, sifS, omN, omS, cdI, x25, x26, x27, x28, x29, x30, x31, x32, xr0, xr1, xr2, xr3, xr4, xr5, if_pos, if_neg, true_and, and_true, false_and, and_false, and_self, Bool.and_true, if_true, if_false, reduceIte, cond_true, cond_false, not_true_eq_false, not_false_eq_true, x51, x52, x53, x54, x55, x56, x57, x58, x59, x60, x61, x62, x63, q0]
theorem i_5 (ht : 1000 < t) (h : cx φ D F N P S T A r d p f pc (k + 1) m) (g : gcR D S) (q : iqR P A r False) (hy : T.1 33 0 0 38 = nI 0) (hpc : pc < P.2.2.2.1 f) {j : Nat} (hj : j < 16) : insY D F N P S T A r p G t 1 0 (X_5 G t r p (nI j) S) (W_5 G t r d (nI j) T) := by
  obtain ⟨hM, o1, o2, hn, hr, d2, d3⟩ := h.rd
  obtain ⟨gg, kn, a1, a2, a3, a4, a5, v1, v2, q0, hv⟩ := h.top (G := G) ht
  have e1 := x_5 (G := G) (t := t) (r := r) hM o1 (by omega) h.1.2.2.1.1 hj
  rw [siI_comm _ _ _ _ _ (by omega)] at e1
  have e2 := w_5 (d := d) hj q0
  rw [v1, v2, ← a2] at e2
  refine h.fin g q (dr_ag S p k) rfl (mp_ag T r d (k + 1) 1) (mpS_2 _ _ _ _ _) (h.fr.pops 1) hpc (fun B _ w => w.glob hj hv) rfl ?_ e1 e2
  rw [gL1, siI_ne _ _ _ (by omega), mpS_I _ _ _ _ (by omega) (by omega)]
  exact hy
theorem i_32 (h : cx φ D F N P S T A r d p f pc n m) (g : gcR D S) (q : iqR P A r False) (hpc : pc < P.2.2.2.1 f) (a : Int32) : insY D F N P S T A r p G t 0 1 (X_32 G t r p a S) (W_32 G t r d a T) := by
  refine h.fin g q (agr.refl _ _) rfl (agr.refl _ _) rfl h.fr hpc (T2 := siI T 33 0 0 38 (nI 1)) (fun B _ w => ?_) rfl (siI_at _ _ _ _ _ _) rfl rfl
  have gl := w.2.2.1
  have qu := w.2.2.2.2.2.1
  have sc := w.2.2.2.2.2.2.2.1
  have wr := w.2.2.2.2.2.2.2.2.1
  have z : ∀ k, k ≠ 38 → (siI T 33 0 0 38 (nI 1)).1 33 0 0 k = T.1 33 0 0 k := fun k hk => by rw [gI, if_neg (by omega)]
  refine w.wld (agr.refl _ _) rfl (agr.i (agr.refl _ _) _ _ (by omega)) ⟨z 13 (by omega), z 14 (by omega)⟩ (gl.keep (fun _ _ _ => ⟨rfl, rfl⟩) ⟨siI_ne _ _ _ (by omega), rfl⟩) (qu.keep ⟨rfl, rfl, rfl⟩ ⟨z 15 (by omega), siI_ne _ _ _ (by omega)⟩) ⟨rfl, rfl⟩ ?_ (wr.keep ⟨rfl, rfl, rfl⟩ ⟨z 24 (by omega), rfl⟩)
  unfold scaR
  rw [z 16 (by omega), z 20 (by omega), z 22 (by omega), z 23 (by omega), z 21 (by omega), z 18 (by omega), z 19 (by omega), z 17 (by omega)]
  exact sc
/-! a number is written -/
set_option maxHeartbeats 4000000 in
set_option linter.unusedSimpArgs false in
theorem wR.writ (h : wR φ D F N P S T A) {a w : Nat} (ha : S.1 23 0 0 5 = nI a) (ha2 : a < 2000) (hw : S.1 23 0 0 6 = nI w) (ht : T.1 33 0 0 24 = nI w) (hw2 : w < 2000) (hv : ∀ i, i < w → S.2.1 24 0 0 ((a + i) % 2000) = T.2.1 44 0 0 i) (x : Int64) : wR φ D F N P (siI (siL S 24 0 0 ((a + w) % 2000) x) 23 0 0 6 (nI (w + 1))) (siL (siI T 33 0 0 24 (nI (w + 1))) 44 0 0 w x) A ∧ hk S (siI (siL S 24 0 0 ((a + w) % 2000) x) 23 0 0 6 (nI (w + 1))) := by
  have gl := h.2.2.1
  have qu := h.2.2.2.2.2.1
  have sc := h.2.2.2.2.2.2.2.1
  have aS : agr (fun t _ _ => t = 23 ∨ t = 24) S (siI (siL S 24 0 0 ((a + w) % 2000) x) 23 0 0 6 (nI (w + 1))) := agr.i (agr.l (agr.refl _ _) _ _ (by omega)) _ _ (by omega)
  have aT : agr (fun t _ _ => t = 33 ∨ t = 44) T (siL (siI T 33 0 0 24 (nI (w + 1))) 44 0 0 w x) := agr.l (agr.i (agr.refl _ _) _ _ (by omega)) _ _ (by omega)
  have z : ∀ k, k ≠ 24 → (siL (siI T 33 0 0 24 (nI (w + 1))) 44 0 0 w x).1 33 0 0 k = T.1 33 0 0 k := fun k hk => by rw [gL1, gI, if_neg (by omega)]
  have y : ∀ k, k ≠ 6 → (siI (siL S 24 0 0 ((a + w) % 2000) x) 23 0 0 6 (nI (w + 1))).1 23 0 0 k = S.1 23 0 0 k := fun k hk => by rw [gI, if_neg (by omega)]; rfl
  refine h.wld (aS.mono (fun t i j z => by omega)) rfl (aT.mono (fun t i j z => by omega)) ⟨z 13 (by omega), z 14 (by omega)⟩ (gl.keep (fun t _ _ => aS t 0 5 (by omega)) ⟨(aT 36 0 0 (by omega)).1, (aT 43 0 0 (by omega)).2⟩) (qu.keep ⟨by rw [(aS 8 0 0 (by omega)).1], by rw [(aS 8 0 0 (by omega)).1], (aS 10 0 0 (by omega)).1⟩ ⟨z 15 (by omega), (aT 45 0 0 (by omega)).1⟩) ⟨by rw [(aS 8 0 0 (by omega)).1], by rw [gL, if_neg (by omega)]; rfl⟩ ?_ ⟨a, w + 1, ?_, ha2, ?_, ?_, by omega, fun i hi => ?_⟩
  · unfold scaR
    rw [z 16 (by omega), z 20 (by omega), z 22 (by omega), z 23 (by omega), z 21 (by omega), z 18 (by omega), z 19 (by omega), z 17 (by omega), (aS 8 0 0 (by omega)).1, (aS 11 0 0 (by omega)).1, y 8 (by omega), y 9 (by omega), y 10 (by omega), y 7 (by omega)]
    exact sc
  · rw [y 5 (by omega)]; exact ha
  · exact siI_at _ _ _ _ _ _
  · rw [gL1]; exact siI_at _ _ _ _ _ _
  · clear h gl qu sc aS aT z y
    by_cases c : i = w
    · subst c
      simp (disch := first | assumption | omega) only [gI, gI2, gL, gL1, gL2, jcLT, jcGE, jcGT, jcLE, jcEQ, jcNE, dEQ, nIt, lgNE, lgEQ, lgGE, lgLT, lgGT, lgLE, jinT, nIc, nI0, nI1, nIo, nIs, nI_add, nIm, nIn0, szl0, szl1, szl2, szl3, szl4, szl5, Nat.add_sub_assoc, Nat.add_zero, Nat.reduceSub, Nat.reduceAdd, Nat.reduceMul, Nat.reduceEqDiff,  jifT, bdS, sifN, sifS, omN, omS, cdI, x25, x26, x27, x28, x29, x30, x31, x32, xr0, xr1, xr2, xr3, xr4, xr5, if_pos, if_neg, true_and, and_true, false_and, and_false, and_self, Bool.and_true, if_true, if_false, reduceIte, cond_true, cond_false, not_true_eq_false, not_false_eq_true]
    · have hi2 := hv i (by omega)
      simp (disch := first | assumption | omega) only [gI, gI2, gL, gL1, gL2, jcLT, jcGE, jcGT, jcLE, jcEQ, jcNE, dEQ, nIt, lgNE, lgEQ, lgGE, lgLT, lgGT, lgLE, jinT, nIc, nI0, nI1, nIo, nIs, nI_add, nIm, nIn0, szl0, szl1, szl2, szl3, szl4, szl5, Nat.add_sub_assoc, Nat.add_zero, Nat.reduceSub, Nat.reduceAdd, Nat.reduceMul, Nat.reduceEqDiff,  jifT, bdS, sifN, sifS, omN, omS, cdI, x25, x26, x27, x28, x29, x30, x31, x32, xr0, xr1, xr2, xr3, xr4, xr5, if_pos, if_neg, true_and, and_true, false_and, and_false, and_self, Bool.and_true, if_true, if_false, reduceIte, cond_true, cond_false, not_true_eq_false, not_false_eq_true]
      exact hi2
set_option maxHeartbeats 4000000 in
set_option linter.unusedSimpArgs false in
theorem x_33 {a : Int32} {b w : Nat} (hr : r < 16) (hM : S.2.2.2.1.1 p = true) (o1 : S.1 29 p 1 2 = nI (k + 1)) (hn : k < 16) (g1 : S.1 31 p 1 k = nI 0) (hb : S.1 23 0 0 5 = nI b) (hb2 : b < 2000) (hw : S.1 23 0 0 6 = nI w) (hw2 : w ≤ 2000) : X_33 G t r p a S = some (nI 0, if w < 2000 then siI (siL (siI S 29 p 1 2 (nI k)) 24 0 0 ((b + w) % 2000) (S.2.1 30 p 1 k)) 23 0 0 6 (nI (w + 1)) else siI S 29 p 1 2 (nI k)) := by
  have rw1 : rwS S p 1 (k + 1) := ⟨xr1 hM, o1, show k + 1 ≤ 16 by omega⟩
  have e1 := f_103 (G := G) (t := t) rw1 (i := k) (by omega) g1 (by omega)
  have e2 := f_26 (G := G) (t := t) rw1 (i := k) (by omega)
  have e7 : F_76 G t (p, 1) (nI 1) S = some ((), siI S 29 p 1 2 (nI k)) := f_76 (sz := k + 1) rw1 (by omega)
  unfold X_33
  by_cases c : w < 2000
  · rw [if_pos c]
    simp (disch := first | assumption | omega) only [gI, gI2, gL, gL1, gL2, jcLT, jcGE, jcGT, jcLE, jcEQ, jcNE, dEQ, nIt, lgNE, lgEQ, lgGE, lgLT, lgGT, lgLE, jinT, nIc, nI0, nI1, nIo, nIs, nI_add, nIm, nIn0, szl0, szl1, szl2, szl3, szl4, szl5, Nat.add_sub_assoc, Nat.add_zero, Nat.reduceSub, Nat.reduceAdd, Nat.reduceMul, Nat.reduceEqDiff,  jifT, bdS, sifN, sifS, omN, omS, cdI, x25, x26, x27, x28, x29, x30, x31, x32, xr0, xr1, xr2, xr3, xr4, xr5, if_pos, if_neg, true_and, and_true, false_and, and_false, and_self, Bool.and_true, if_true, if_false, reduceIte, cond_true, cond_false, not_true_eq_false, not_false_eq_true, F_116_272, F_107, F_106, hM, o1, e1, e2, e7, hb, hw]
  · rw [if_neg c]
    simp (disch := first | assumption | omega) only [gI, gI2, gL, gL1, gL2, jcLT, jcGE, jcGT, jcLE, jcEQ, jcNE, dEQ, nIt, lgNE, lgEQ, lgGE, lgLT, lgGT, lgLE, jinT, nIc, nI0, nI1, nIo, nIs, nI_add, nIm, nIn0, szl0, szl1, szl2, szl3, szl4, szl5, Nat.add_sub_assoc, Nat.add_zero, Nat.reduceSub, Nat.reduceAdd, Nat.reduceMul, Nat.reduceEqDiff,  jifT, bdS, sifN, sifS, omN, omS, cdI, x25, x26, x27, x28, x29, x30, x31, x32, xr0, xr1, xr2, xr3, xr4, xr5, if_pos, if_neg, true_and, and_true, false_and, and_false, and_self, Bool.and_true, if_true, if_false, reduceIte, cond_true, cond_false, not_true_eq_false, not_false_eq_true, F_116_272, F_107, F_106, hM, o1, e1, e2, e7, hb, hw]
set_option maxHeartbeats 4000000 in
set_option linter.unusedSimpArgs false in
theorem x_33n {a : Int32} {g : Nat} (hM : S.2.2.2.1.1 p = true) (o1 : S.1 29 p 1 2 = nI (k + 1)) (hn : k < 16) (g1 : S.1 31 p 1 k = nI g) (hg : g < 602) (h0 : g ≠ 0) : X_33 G t r p a S = some (-2, S) := by
  have rw1 : rwS S p 1 (k + 1) := ⟨xr1 hM, o1, show k + 1 ≤ 16 by omega⟩
  have e1 := f_103 (G := G) (t := t) rw1 (i := k) (by omega) g1 (by omega)
  unfold X_33
  simp (disch := first | assumption | omega) only [gI, gI2, gL, gL1, gL2, jcLT, jcGE, jcGT, jcLE, jcEQ, jcNE, dEQ, nIt, lgNE, lgEQ, lgGE, lgLT, lgGT, lgLE, jinT, nIc, nI0, nI1, nIo, nIs, nI_add, nIm, nIn0, szl0, szl1, szl2, szl3, szl4, szl5, Nat.add_sub_assoc, Nat.add_zero, Nat.reduceSub, Nat.reduceAdd, Nat.reduceMul, Nat.reduceEqDiff,  jifT, bdS, sifN, sifS, omN, omS, cdI, x25, x26, x27, x28, x29, x30, x31, x32, xr0, xr1, xr2, xr3, xr4, xr5, if_pos, if_neg, true_and, and_true, false_and, and_false, and_self, Bool.and_true, if_true, if_false, reduceIte, cond_true, cond_false, not_true_eq_false, not_false_eq_true, F_116_272, F_107, hM, o1, e1]
set_option maxHeartbeats 4000000 in
set_option linter.unusedSimpArgs false in
theorem w_33 {T1 : sS} {a : Int32} {w : Nat} (q0 : F_156 G t (r, 0) (nI 1) T = some (nI 1, T1)) (v1 : T1.1 47 0 0 0 = nI 0) (hw : T1.1 33 0 0 24 = nI w) (hw2 : w ≤ 2000) : W_33 G t r d a T = some ((), if w < 2000 then siL (siI T1 33 0 0 24 (nI (w + 1))) 44 0 0 w (T1.2.1 48 0 0 0) else T1) := by
  unfold W_33
  by_cases c : w < 2000
  · rw [if_pos c]
    simp (disch := first | assumption | omega) only [gI, gI2, gL, gL1, gL2, jcLT, jcGE, jcGT, jcLE, jcEQ, jcNE, dEQ, nIt, lgNE, lgEQ, lgGE, lgLT, lgGT, lgLE, jinT, nIc, nI0, nI1, nIo, nIs, nI_add, nIm, nIn0, szl0, szl1, szl2, szl3, szl4, szl5, Nat.add_sub_assoc, Nat.add_zero, Nat.reduceSub, Nat.reduceAdd, Nat.reduceMul, Nat.reduceEqDiff,  jifT, bdS, sifN, sifS, omN, omS, cdI, x25, x26, x27, x28, x29, x30, x31, x32, xr0, xr1, xr2, xr3, xr4, xr5, if_pos, if_neg, true_and, and_true, false_and, and_false, and_self, Bool.and_true, if_true, if_false, reduceIte, cond_true, cond_false, not_true_eq_false, not_false_eq_true, x51, x52, x53, x54, x55, x56, x57, x58, x59, x60, x61, x62, x63, F_188_975, F_158, jfb, q0, v1, hw]
  · rw [if_neg c]
    simp (disch := first | assumption | omega) only [gI, gI2, gL, gL1, gL2, jcLT, jcGE, jcGT, jcLE, jcEQ, jcNE, dEQ, nIt, lgNE, lgEQ, lgGE, lgLT, lgGT, lgLE, jinT, nIc, nI0, nI1, nIo, nIs, nI_add, nIm, nIn0, szl0, szl1, szl2, szl3, szl4, szl5, Nat.add_sub_assoc, Nat.add_zero, Nat.reduceSub, Nat.reduceAdd, Nat.reduceMul, Nat.reduceEqDiff,  jifT, bdS, sifN, sifS, omN, omS, cdI, x25, x26, x27, x28, x29, x30, x31, x32, xr0, xr1, xr2, xr3, xr4, xr5, if_pos, if_neg, true_and, and_true, false_and, and_false, and_self, Bool.and_true, if_true, if_false, reduceIte, cond_true, cond_false, not_true_eq_false, not_false_eq_true, x51, x52, x53, x54, x55, x56, x57, x58, x59, x60, x61, x62, x63, F_188_975, F_158, jfb, q0, v1, hw]
set_option maxHeartbeats 4000000 in
set_option linter.unusedSimpArgs false in
theorem w_33n {T1 T2 : sS} {a : Int32} {kn : Nat} (q0 : F_156 G t (r, 0) (nI 1) T = some (nI 1, T1)) (v1 : T1.1 47 0 0 0 = nI kn) (hk : kn ≤ 2) (h0 : kn ≠ 0) (q1 : F_155 G t (r, 0) (-2) T1 = some ((), T2)) : W_33 G t r d a T = some ((), T2) := by
  unfold W_33
  simp (disch := first | assumption | omega) only [gI, gI2, gL, gL1, gL2, jcLT, jcGE, jcGT, jcLE, jcEQ, jcNE, dEQ, nIt, lgNE, lgEQ, lgGE, lgLT, lgGT, lgLE, jinT, nIc, nI0, nI1, nIo, nIs, nI_add, nIm, nIn0, szl0, szl1, szl2, szl3, szl4, szl5, Nat.add_sub_assoc, Nat.add_zero, Nat.reduceSub, Nat.reduceAdd, Nat.reduceMul, Nat.reduceEqDiff,  jifT, bdS, sifN, sifS, omN, omS, cdI, x25, x26, x27, x28, x29, x30, x31, x32, xr0, xr1, xr2, xr3, xr4, xr5, if_pos, if_neg, true_and, and_true, false_and, and_false, and_self, Bool.and_true, if_true, if_false, reduceIte, cond_true, cond_false, not_true_eq_false, not_false_eq_true, x51, x52, x53, x54, x55, x56, x57, x58, x59, x60, x61, x62, x63, F_188_975, F_158, jfb, q0, v1, q1]
theorem i_33 (ht : 1000 < t) (h : cx φ D F N P S T A r d p f pc (k + 1) m) (g : gcR D S) (q : iqR P A r False) (hy : T.1 33 0 0 38 = nI 0) (hpc : pc < P.2.2.2.1 f) (a : Int32) : insY D F N P S T A r p G t 1 0 (X_33 G t r p a S) (W_33 G t r d a T) := by
  obtain ⟨hM, o1, o2, hn, hr, d2, d3⟩ := h.rd
  obtain ⟨gg, kn, a1, a2, a3, a4, a5, v1, v2, q0, hv⟩ := h.top (G := G) ht
  by_cases c : gg = 0
  · have c1 := a5.1.mp c
    have c2 := a5.2.2.1 c
    rw [c] at a1
    rw [c1] at v1
    obtain ⟨b, w, w1, w2, w3, w4, w5, w6⟩ := h.1.2.2.2.2.2.2.2.2.1
    have ec := x_33 (G := G) (t := t) (a := a) hr hM o1 (by omega) a1 w1 w2 w3 w5
    have t24 : (mpS T r d (k + 1) 1).1 33 0 0 24 = nI w := by rw [mpS_I _ _ _ _ (by omega) (by omega)]; exact w4
    have ew := w_33 (d := d) (a := a) q0 v1 t24 w5
    have y38 : (mpS T r d (k + 1) 1).1 33 0 0 38 = nI 0 := by rw [mpS_I _ _ _ _ (by omega) (by omega)]; exact hy
    by_cases cw : w < 2000
    · rw [if_pos cw] at ec ew
      rw [v2, ← c2] at ew
      refine h.fin g q (dr_ag S p k) rfl (mp_ag T r d (k + 1) 1) (mpS_2 _ _ _ _ _) (h.fr.pops 1) hpc (fun B _ ww => ww.writ (by rw [siI_ne _ _ _ (by omega)]; exact w1) w2 (by rw [siI_ne _ _ _ (by omega)]; exact w3) t24 cw (fun i hi => ?_) _) rfl ?_ ec ew
      · rw [gI2, mpS_L _ _ _ _ (by omega)]
        exact w6 i hi
      · rw [gL1, gI, if_neg (by omega)]
        exact y38
    · rw [if_neg cw] at ec ew
      exact h.fin g q (dr_ag S p k) rfl (mp_ag T r d (k + 1) 1) (mpS_2 _ _ _ _ _) (h.fr.pops 1) hpc (fun B _ ww => ⟨ww, hk.refl _⟩) rfl y38 ec ew
  · obtain ⟨S', T', r1, r2, r3⟩ := h.panp (G := G) ht 1 (by omega) neg2.1 neg2.2 (x_33n (r := r) (a := a) hM o1 (by omega) a1 a3 c)
    exact insR.y ⟨S', T', r1, w_33n q0 v1 a4 (by omega) r2, r3⟩ g q hr hy
end WRT
