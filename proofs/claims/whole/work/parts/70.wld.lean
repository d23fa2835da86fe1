/-! Changes of what is neither strand nor object. -/
section WL2
variable {φ : Nat → Nat} {D : Nat → Prop} {F N : Nat} {P : aP} {S S' T T' : sS} {A : aS} {r d p f pc n m e b k : Nat} {G : jG} {t : Nat}
theorem wR.wld (h : wR φ D F N P S T A) (aS : agr (fun t i j => t = 8 ∨ t = 10 ∨ t = 23 ∨ t = 24 ∨ (29 ≤ t ∧ t ≤ 31 ∧ i = 0 ∧ j = 5)) S S') (hX : S'.2.2 = S.2.2) (aT : agr (fun t i j => t = 33 ∨ t = 36 ∨ t = 43 ∨ t = 44 ∨ t = 45 ∨ (46 ≤ t ∧ t ≤ 50)) T T')
    (hp : T'.1 33 0 0 13 = T.1 33 0 0 13 ∧ T'.1 33 0 0 14 = T.1 33 0 0 14) (gl : glR φ D S' T') {Q : List Nat} (qu : quR S' T' Q) (w8 : S'.1 8 0 0 8 = S.1 8 0 0 8 ∧ T'.2.1 33 0 0 28 = T.2.1 33 0 0 28) (sc : scaR S' T') (wr : wrR S' T') :
    wR φ D F N P S' T' (A.1, A.2.1, A.2.2.1, Q, A.2.2.2.2) ∧ hk S S' := by
  obtain ⟨⟨h1, h1'⟩, h2, h3, h4, h5, h6, h7, h8, h9, h10⟩ := h
  have k : hk S S' := ⟨fun t i j x y => aS t i j (by omega), fun h p x t y z => aS t p 4 (by omega), fun h p x => (aS 32 p 0 (by omega)).1, by rw [hX], by rw [hX]⟩
  refine ⟨⟨⟨h1.keep (fun t x y => (aS t 0 0 (by omega)).1) (fun t x y => (aT t 0 0 (by omega)).1) hp, h1'⟩, fun s hs => ?_, gl, fun x hx => (h4 x hx).keep k (fun t x y => aT t _ 0 (by omega)), h5, qu, ?_, sc, wr, h10.same hX⟩, k⟩
  · exact (h2 s hs).keep (aS 25 s 0 (by omega)) (aT 54 s 0 (by omega)).1 (fun d p hp => ⟨by rw [hX]; exact hp, fun z => by rw [hX]; exact z, fun t x y j z => aS t p j (by omega)⟩) (fun d t x y => aT t s d (by omega))
  · obtain ⟨⟨w1, w2⟩, w3⟩ := h7
    refine ⟨⟨by rw [w8.1]; exact w1, by rw [w8.2]; exact w2⟩, fun s hs hs2 hs4 => ?_⟩
    obtain ⟨⟨q1, q2, q3⟩, q4⟩ := w3 s hs hs2 hs4
    refine ⟨⟨by rw [(aS 25 s 0 (by omega)).1]; exact q1, by rw [(aT 54 s 0 (by omega)).2]; exact q2, q3⟩, fun d hd => ?_⟩
    obtain ⟨y1, y2, y3⟩ := q4 d hd
    refine ⟨y1, y2, fun z => ?_⟩
    obtain ⟨c, c1, c2, c3, c4, c5, c6, p, c7, c8⟩ := y3 z
    exact ⟨c, c1, c2, by rw [(aS 25 s 0 (by omega)).1]; exact c3, c4, c5, c6, p, by rw [hX]; exact c7, fun k hk => by rw [(aS 31 p 1 (by omega)).1]; exact c8 k hk⟩
/-! SET_GLOBAL -/
set_option maxHeartbeats 4000000 in
set_option linter.unusedSimpArgs false in
theorem wR.glob (h : wR φ D F N P S T A) {j : Nat} (hj : j < 16) {x v : Int64} {g kk : Int32} (hv : vr φ D x g kk v) : wR φ D F N P (siI (siL S 30 0 5 j x) 31 0 5 j g) (siL (siI T 36 0 0 j kk) 43 0 0 j v) A ∧ hk S (siI (siL S 30 0 5 j x) 31 0 5 j g) := by
  obtain ⟨g1, g2⟩ := h.2.2.1
  have qu := h.2.2.2.2.2.1
  have sc := h.2.2.2.2.2.2.2.1
  have wr := h.2.2.2.2.2.2.2.2.1
  have aS : agr (fun t i j => t = 8 ∨ t = 10 ∨ t = 23 ∨ t = 24 ∨ (29 ≤ t ∧ t ≤ 31 ∧ i = 0 ∧ j = 5)) S (siI (siL S 30 0 5 j x) 31 0 5 j g) := agr.i (agr.l (agr.refl _ _) _ _ (by omega)) _ _ (by omega)
  have aT : agr (fun t i j => t = 33 ∨ t = 36 ∨ t = 43 ∨ t = 44 ∨ t = 45 ∨ (46 ≤ t ∧ t ≤ 50)) T (siL (siI T 36 0 0 j kk) 43 0 0 j v) := agr.l (agr.i (agr.refl _ _) _ _ (by omega)) _ _ (by omega)
  have aU : agr (fun t _ _ => t = 36 ∨ t = 43) T (siL (siI T 36 0 0 j kk) 43 0 0 j v) := agr.l (agr.i (agr.refl _ _) _ _ (by omega)) _ _ (by omega)
  have t33 := (aU 33 0 0 (by omega)).1
  have t33L := (aU 33 0 0 (by omega)).2
  have s8 : (siI (siL S 30 0 5 j x) 31 0 5 j g).1 8 0 0 = S.1 8 0 0 := siI_ne _ _ _ (by omega)
  have s23 : (siI (siL S 30 0 5 j x) 31 0 5 j g).1 23 0 0 = S.1 23 0 0 := siI_ne _ _ _ (by omega)
  have s11 : (siI (siL S 30 0 5 j x) 31 0 5 j g).1 11 0 0 = S.1 11 0 0 := siI_ne _ _ _ (by omega)
  refine h.wld aS rfl aT ⟨by rw [t33], by rw [t33]⟩ ⟨?_, fun i hi => ?_⟩ (qu.keep ⟨by rw [s8], by rw [s8], siI_ne _ _ _ (by omega)⟩ ⟨by rw [t33], (aU 45 0 0 (by omega)).1⟩) ⟨by rw [s8], by rw [t33L]⟩ ?_ (wr.keep ⟨by rw [s23], by rw [s23], siL_ne _ _ _ (by omega)⟩ ⟨by rw [t33], (aU 44 0 0 (by omega)).2⟩)
  · rw [siI_ne _ _ _ (by omega)]
    exact g1
  · have g3 := g2 i hi
    clear h aS aT aU qu sc wr t33 t33L s8 s23 s11
    by_cases c : i = j
    · subst c
      simp (disch := first | assumption | omega) only [gI, gI2, gL, gL1, gL2, jcLT, jcGE, jcGT, jcLE, jcEQ, jcNE, dEQ, nIt, lgNE, lgEQ, lgGE, lgLT, lgGT, lgLE, jinT, nIc, nI0, nI1, nIo, nIs, nI_add, nIm, nIn0, szl0, szl1, szl2, szl3, szl4, szl5, Nat.add_sub_assoc, Nat.add_zero, Nat.reduceSub, Nat.reduceAdd, Nat.reduceMul, Nat.reduceEqDiff,  jifT, bdS, sifN, sifS, omN, omS, cdI, x25, x26, x27, x28, x29, x30, x31, x32, xr0, xr1, xr2, xr3, xr4, xr5, if_pos, if_neg, true_and, and_true, false_and, and_false, and_self, Bool.and_true, if_true, if_false, reduceIte, cond_true, cond_false, not_true_eq_false, not_false_eq_true]
      exact hv
    · simp (disch := first | assumption | omega) only [gI, gI2, gL, gL1, gL2, jcLT, jcGE, jcGT, jcLE, jcEQ, jcNE, dEQ, nIt, lgNE, lgEQ, lgGE, lgLT, lgGT, lgLE, jinT, nIc, nI0, nI1, nIo, nIs, nI_add, nIm, nIn0, szl0, szl1, szl2, szl3, szl4, szl5, Nat.add_sub_assoc, Nat.add_zero, Nat.reduceSub, Nat.reduceAdd, Nat.reduceMul, Nat.reduceEqDiff,  jifT, bdS, sifN, sifS, omN, omS, cdI, x25, x26, x27, x28, x29, x30, x31, x32, xr0, xr1, xr2, xr3, xr4, xr5, if_pos, if_neg, true_and, and_true, false_and, and_false, and_self, Bool.and_true, if_true, if_false, reduceIte, cond_true, cond_false, not_true_eq_false, not_false_eq_true]
      exact g3
  · unfold scaR
    rw [t33, s8, s23, s11]
    exact sc
end WL2
