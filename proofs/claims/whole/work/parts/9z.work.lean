/-! Sweeping, and the loop. -/
section WRK2
variable {φ φ' : Nat → Nat} {D D' : Nat → Prop} {F N : Nat} {P : aP} {S S' T T' T1 : sS} {A : aS} {r s d p f pc n m e b k y : Nat} {G : jG} {t j : Nat}
/-! what sweeping one place leaves -/
def swS (S : sS) (sw : Nat) : sS := if sw + 1 < 600 then siI (siI S 16 0 0 sw (nI 0)) 11 0 0 12 (nI (sw + 1)) else siI (siI (siI S 16 0 0 sw (nI 0)) 11 0 0 12 (nI (sw + 1))) 11 0 0 11 (nI 0)
set_option maxHeartbeats 4000000 in
set_option linter.unusedSimpArgs false in
theorem e11833 {sw : Nat} (h : S.1 11 0 0 12 = nI sw) (hs : sw < 600) : F_118_33 G t S = some ((), swS S sw) := by
  unfold F_118_33 swS
  by_cases c : sw + 1 < 600
  · rw [if_pos c]
    simp (disch := first | assumption | omega) only [gI, gI2, gL, gL1, gL2, jcLT, jcGE, jcGT, jcLE, jcEQ, jcNE, dEQ, nIt, lgNE, lgEQ, lgGE, lgLT, lgGT, lgLE, jinT, nIc, nI0, nI1, nIo, nIs, nI_add, nIm, nIn0, szl0, szl1, szl2, szl3, szl4, szl5, Nat.add_sub_assoc, Nat.add_zero, Nat.reduceSub, Nat.reduceAdd, Nat.reduceMul, Nat.reduceEqDiff,  jifT, bdS, sifN, sifS, omN, omS, cdI, x25, x26, x27, x28, x29, x30, x31, x32, xr0, xr1, xr2, xr3, xr4, xr5, if_pos, if_neg, true_and, and_true, false_and, and_false, and_self, Bool.and_true, if_true, if_false, reduceIte, cond_true, cond_false, not_true_eq_false, not_false_eq_true, h, F_118_56]
  · rw [if_neg c]
    simp (disch := first | assumption | omega) only [gI, gI2, gL, gL1, gL2, jcLT, jcGE, jcGT, jcLE, jcEQ, jcNE, dEQ, nIt, lgNE, lgEQ, lgGE, lgLT, lgGT, lgLE, jinT, nIc, nI0, nI1, nIo, nIs, nI_add, nIm, nIn0, szl0, szl1, szl2, szl3, szl4, szl5, Nat.add_sub_assoc, Nat.add_zero, Nat.reduceSub, Nat.reduceAdd, Nat.reduceMul, Nat.reduceEqDiff,  jifT, bdS, sifN, sifS, omN, omS, cdI, x25, x26, x27, x28, x29, x30, x31, x32, xr0, xr1, xr2, xr3, xr4, xr5, if_pos, if_neg, true_and, and_true, false_and, and_false, and_self, Bool.and_true, if_true, if_false, reduceIte, cond_true, cond_false, not_true_eq_false, not_false_eq_true, h, F_118_56]
theorem swS_ag (S : sS) (sw : Nat) : agr (fun t i j => t = 11 ∨ (t = 16 ∧ i = 0 ∧ j = 0)) S (swS S sw) ∧ (swS S sw).2.2 = S.2.2 ∧ (∀ q, q ≠ 11 → q ≠ 12 → (swS S sw).1 11 0 0 q = S.1 11 0 0 q) ∧ (swS S sw).1 11 0 0 12 = nI (sw + 1) ∧ (swS S sw).1 11 0 0 11 = (if sw + 1 < 600 then S.1 11 0 0 11 else nI 0) ∧ ∀ h, (swS S sw).1 16 0 0 h = if h = sw then nI 0 else S.1 16 0 0 h := by
  unfold swS
  by_cases c : sw + 1 < 600
  · rw [if_pos c, if_pos c]
    refine ⟨agr.i (agr.i (agr.refl _ _) _ _ (by omega)) _ _ (by omega), rfl, fun q h1 h2 => ?_, ?_, ?_, fun h => ?_⟩
    · rw [gI, if_neg (by omega), gI, if_neg (by omega)]
    · rw [siI_at]
    · rw [gI, if_neg (by omega), gI, if_neg (by omega)]
    · rw [gI, if_neg (by omega), gI]
      by_cases c2 : h = sw
      · rw [if_pos c2, if_pos ⟨rfl, rfl, rfl, c2⟩]
      · rw [if_neg c2, if_neg (fun z => c2 z.2.2.2)]
  · rw [if_neg c, if_neg c]
    refine ⟨agr.i (agr.i (agr.i (agr.refl _ _) _ _ (by omega)) _ _ (by omega)) _ _ (by omega), rfl, fun q h1 h2 => ?_, ?_, ?_, fun h => ?_⟩
    · rw [gI, if_neg (by omega), gI, if_neg (by omega), gI, if_neg (by omega)]
    · rw [gI, if_neg (by omega), siI_at]
    · rw [siI_at]
    · rw [gI, if_neg (by omega), gI, if_neg (by omega), gI]
      by_cases c2 : h = sw
      · rw [if_pos c2, if_pos ⟨rfl, rfl, rfl, c2⟩]
      · rw [if_neg c2, if_neg (fun z => c2 z.2.2.2)]
/-! after a place was released, or kept -/
theorem sw_gc {kd cl co : Nat → Nat} {fl gl : List Nat} {sw : Nat} (H : hpR S kd cl fl) (hs : sw < 600) (hD : ∀ h, D h → h < 600 ∧ kd h ≠ 0) (h11 : S.1 11 0 0 11 = nI 2) (h12 : S.1 11 0 0 12 = nI sw) (g6 : (∀ h, h < 600 → S.1 16 0 0 h = nI (co h) ∧ co h ≤ 2) ∧ S.1 15 0 0 2 = nI gl.length ∧ (∀ (i x : Nat), gl[i]? = some x → S.1 17 0 0 i = nI x) ∧ gl.Nodup ∧ ∀ h, h ∈ gl ↔ h < 600 ∧ co h = 1)
    (z2 : ∀ h, h < 600 → co h ≠ 1 ∧ (h < sw → co h = 0) ∧ (h ≠ sw → co h ≠ 0 → kd h ≠ 0)) (z3 : ∀ h, D h → sw < h → co h = 2) : gcR D (swS S sw) := by
  obtain ⟨ag, hX, e11, e12, e0, e16⟩ := swS_ag S sw
  have eT : ∀ t, t ≠ 11 → t ≠ 16 → (swS S sw).1 t = S.1 t := fun t h1 h2 => by
    funext i j
    exact (ag t i j (by omega)).1
  refine ⟨kd, cl, va_up co sw 0, fl, gl, if sw + 1 < 600 then 2 else 0, sw + 1, fun h hh => (H.1 h hh).ag (eT 29 (by omega) (by omega)) (eT 31 (by omega) (by omega)) (eT 32 (by omega) (by omega)) hX, ⟨?_, ?_, H.2.1.2.2⟩, ⟨?_, ?_, H.2.2.2.2⟩, hD, ⟨?_, e12, by omega⟩, ⟨fun h hh => ?_, ?_, ?_, g6.2.2.2.1, fun h => ?_⟩, ?_⟩
  · rw [e11 7 (by omega) (by omega)]; exact H.2.1.1
  · rw [eT 13 (by omega) (by omega)]; exact H.2.1.2.1
  · rw [e11 8 (by omega) (by omega)]; exact H.2.2.1
  · rw [e11 9 (by omega) (by omega)]; exact H.2.2.2.1
  · rw [e0]
    by_cases c : sw + 1 < 600
    · rw [if_pos c, if_pos c]; exact h11
    · rw [if_neg c, if_neg c]
  · rw [e16]
    by_cases c : h = sw
    · rw [if_pos c, c, va_up_self]
      exact ⟨rfl, by omega⟩
    · rw [if_neg c, va_up_ne _ _ c]
      exact g6.1 h hh
  · rw [eT 15 (by omega) (by omega)]; exact g6.2.1
  · rw [eT 17 (by omega) (by omega)]; exact g6.2.2.1
  · rw [g6.2.2.2.2]
    by_cases c : h = sw
    · rw [c, va_up_self]
      exact ⟨fun z => absurd z.2 (z2 sw z.1).1, fun z => by omega⟩
    · rw [va_up_ne _ _ c]
  · by_cases c : sw + 1 < 600
    · rw [if_pos c]
      refine Or.inr (Or.inr ⟨rfl, fun h hh => ?_, fun h hh hs => ?_⟩)
      · by_cases c : h = sw
        · subst c
          rw [va_up_self]
          exact ⟨by omega, fun _ => rfl, fun z => absurd rfl z⟩
        · rw [va_up_ne _ _ c]
          exact ⟨(z2 h hh).1, fun z => (z2 h hh).2.1 (by omega), (z2 h hh).2.2 c⟩
      · rw [va_up_ne _ _ (by omega)]
        exact z3 h hh (by omega)
    · rw [if_neg c]
      refine Or.inl ⟨rfl, fun h hh => ?_⟩
      by_cases c : h = sw
      · subst c
        rw [va_up_self]
      · rw [va_up_ne _ _ c]
        exact (z2 h hh).2.1 (by omega)
set_option maxHeartbeats 4000000 in
set_option linter.unusedSimpArgs false in
theorem wk_sweep (w : wR φ D F N P S T A) (gc : gcR D S) (h1 : S.1 11 0 0 11 = nI 2) : ∃ S', F_118 G t S = some ((), S') ∧ wkR φ F N P S T A S' := by
  obtain ⟨kd, cl, co, fl, gl, ro, sw, g1, g2, g3, g4, ⟨g5, g5', g5''⟩, g6, g7⟩ := gc
  obtain ⟨z2, z3⟩ : (∀ h, h < 600 → co h ≠ 1 ∧ (h < sw → co h = 0) ∧ (co h ≠ 0 → kd h ≠ 0)) ∧ ∀ h, D h → sw ≤ h → co h = 2 := by
    rcases g7 with ⟨z, _⟩ | ⟨z, _⟩ | ⟨_, z⟩
    · rw [z, h1] at g5
      exact absurd ((nI_eq (by omega) (by omega)).mp g5) (by omega)
    · rw [z, h1] at g5
      exact absurd ((nI_eq (by omega) (by omega)).mp g5) (by omega)
    · exact z
  have H : hpR S kd cl fl := ⟨g1, g2, g3⟩
  by_cases c : sw < 600
  · have c16 := g6.1 sw c
    by_cases c0 : co sw = 0
    · rw [c0] at c16
      have nD : ¬ D sw := fun z => by
        have := z3 sw z (Nat.le_refl _)
        omega
      by_cases k0 : kd sw = 0
      · obtain ⟨ag, hX, e11, _⟩ := swS_ag S sw
        refine ⟨swS S sw, ?_, D, w.mrk (ag.mono (fun t i j z => by omega)) hX (e11 10 (by omega) (by omega)), sw_gc H c g4 h1 g5' g6 (fun h hh => ⟨(z2 h hh).1, (z2 h hh).2.1, fun _ => (z2 h hh).2.2⟩) (fun h hh q => z3 h hh (by omega)), hX, ag.mono (fun t i j z => by omega)⟩
        have e1 := H.rel0 (G := G) (t := t) c k0
        have e2 := e11833 (G := G) (t := t) g5' c
        have e3 := c16.1
        clear w g1 g2 g3 g4 g6 g7 z2 z3 H ag e11
        unfold F_118
        simp (disch := first | assumption | omega) only [gI, gI2, gL, gL1, gL2, jcLT, jcGE, jcGT, jcLE, jcEQ, jcNE, dEQ, nIt, lgNE, lgEQ, lgGE, lgLT, lgGT, lgLE, jinT, nIc, nI0, nI1, nIo, nIs, nI_add, nIm, nIn0, szl0, szl1, szl2, szl3, szl4, szl5, Nat.add_sub_assoc, Nat.add_zero, Nat.reduceSub, Nat.reduceAdd, Nat.reduceMul, Nat.reduceEqDiff,  jifT, bdS, sifN, sifS, omN, omS, cdI, x25, x26, x27, x28, x29, x30, x31, x32, xr0, xr1, xr2, xr3, xr4, xr5, if_pos, if_neg, true_and, and_true, false_and, and_false, and_self, Bool.and_true, if_true, if_false, reduceIte, cond_true, cond_false, not_true_eq_false, not_false_eq_true, g5', e3, e1, e2]
      · obtain ⟨p, S1, a1, a2, a3, a4, a5, a6, a7⟩ := H.rel (G := G) (t := t) w.2.2.2.2.2.2.2.2.2 c k0
        have w1 := w.rel nD a1 (a4.mono (fun t i j z => by omega)) a5 (a6 10 (by omega))
        obtain ⟨ag, hX, e11, _⟩ := swS_ag S1 sw
        have eT : ∀ t, 15 ≤ t → t ≤ 17 → S1.1 t 0 0 = S.1 t 0 0 := fun t h1 h2 => (a4 t 0 0 (by omega)).1
        have s12 : S1.1 11 0 0 12 = nI sw := by rw [a6 12 (by omega)]; exact g5'
        refine ⟨swS S1 sw, ?_, D, w1.mrk (ag.mono (fun t i j z => by omega)) hX (e11 10 (by omega) (by omega)), sw_gc (co := co) (gl := gl) a3 c (fun h hh => ?_) (by rw [a6 11 (by omega)]; exact h1) s12 (by rw [eT 15 (by omega) (by omega), eT 16 (by omega) (by omega), eT 17 (by omega) (by omega)]; exact g6) (fun h hh => ⟨(z2 h hh).1, (z2 h hh).2.1, fun q z => ?_⟩) (fun h hh q => z3 h hh (by omega)), hX.trans a5, (a4.mono (fun t i j z => by omega)).trans (ag.mono (fun t i j z => by omega))⟩
        · have e2 := e11833 (G := G) (t := t) s12 c
          have e3 := c16.1
          clear w g1 g2 g3 g4 g6 g7 z2 z3 H ag e11 w1 a3 a4 a6 a7 eT
          unfold F_118
          simp (disch := first | assumption | omega) only [gI, gI2, gL, gL1, gL2, jcLT, jcGE, jcGT, jcLE, jcEQ, jcNE, dEQ, nIt, lgNE, lgEQ, lgGE, lgLT, lgGT, lgLE, jinT, nIc, nI0, nI1, nIo, nIs, nI_add, nIm, nIn0, szl0, szl1, szl2, szl3, szl4, szl5, Nat.add_sub_assoc, Nat.add_zero, Nat.reduceSub, Nat.reduceAdd, Nat.reduceMul, Nat.reduceEqDiff,  jifT, bdS, sifN, sifS, omN, omS, cdI, x25, x26, x27, x28, x29, x30, x31, x32, xr0, xr1, xr2, xr3, xr4, xr5, if_pos, if_neg, true_and, and_true, false_and, and_false, and_self, Bool.and_true, if_true, if_false, reduceIte, cond_true, cond_false, not_true_eq_false, not_false_eq_true, g5', e3, a2, e2]
        · rw [va_up_ne _ _ (fun z : h = sw => nD (z ▸ hh))]
          exact g4 h hh
        · rw [va_up_ne _ _ q]
          exact (z2 h hh).2.2 z
    · have c2 : co sw = 2 := by have := (z2 sw c).1; omega
      rw [c2] at c16
      obtain ⟨ag, hX, e11, _⟩ := swS_ag S sw
      refine ⟨swS S sw, ?_, D, w.mrk (ag.mono (fun t i j z => by omega)) hX (e11 10 (by omega) (by omega)), sw_gc H c g4 h1 g5' g6 (fun h hh => ⟨(z2 h hh).1, (z2 h hh).2.1, fun _ => (z2 h hh).2.2⟩) (fun h hh q => z3 h hh (by omega)), hX, ag.mono (fun t i j z => by omega)⟩
      have e2 := e11833 (G := G) (t := t) g5' c
      have e3 := c16.1
      clear w g1 g2 g3 g4 g6 g7 z2 z3 H ag e11
      unfold F_118
      simp (disch := first | assumption | omega) only [gI, gI2, gL, gL1, gL2, jcLT, jcGE, jcGT, jcLE, jcEQ, jcNE, dEQ, nIt, lgNE, lgEQ, lgGE, lgLT, lgGT, lgLE, jinT, nIc, nI0, nI1, nIo, nIs, nI_add, nIm, nIn0, szl0, szl1, szl2, szl3, szl4, szl5, Nat.add_sub_assoc, Nat.add_zero, Nat.reduceSub, Nat.reduceAdd, Nat.reduceMul, Nat.reduceEqDiff,  jifT, bdS, sifN, sifS, omN, omS, cdI, x25, x26, x27, x28, x29, x30, x31, x32, xr0, xr1, xr2, xr3, xr4, xr5, if_pos, if_neg, true_and, and_true, false_and, and_false, and_self, Bool.and_true, if_true, if_false, reduceIte, cond_true, cond_false, not_true_eq_false, not_false_eq_true, g5', e3, e2]
  · have : sw = 600 := by omega
    subst this
    have ag0 : agr (fun t i j => t = 11) S (siI S 11 0 0 11 (nI 0)) := agr.i (agr.refl _ _) _ _ rfl
    have eT : ∀ t, t ≠ 11 → (siI S 11 0 0 11 (nI 0)).1 t = S.1 t := fun t h1 => by
      funext i j
      exact (ag0 t i j h1).1
    have e11 : ∀ q, q ≠ 11 → (siI S 11 0 0 11 (nI 0)).1 11 0 0 q = S.1 11 0 0 q := fun q z => by
      rw [gI, if_neg (by omega)]
    refine ⟨siI S 11 0 0 11 (nI 0), ?_, D, w.mrk (ag0.mono (fun t i j z => by omega)) rfl (e11 10 (by omega)), ⟨kd, cl, co, fl, gl, 0, 600, fun h hh => (g1 h hh).ag (eT 29 (by omega)) (eT 31 (by omega)) (eT 32 (by omega)) rfl, ⟨?_, ?_, g2.2.2⟩, ⟨?_, ?_, g3.2.2⟩, g4, ⟨?_, ?_, by omega⟩, ?_, Or.inl ⟨rfl, fun h hh => (z2 h hh).2.1 hh⟩⟩, rfl, ag0.mono (fun t i j z => by omega)⟩
    · clear w g1 g2 g3 g4 g6 g7 z2 z3 H
      unfold F_118
      simp (disch := first | assumption | omega) only [gI, gI2, gL, gL1, gL2, jcLT, jcGE, jcGT, jcLE, jcEQ, jcNE, dEQ, nIt, lgNE, lgEQ, lgGE, lgLT, lgGT, lgLE, jinT, nIc, nI0, nI1, nIo, nIs, nI_add, nIm, nIn0, szl0, szl1, szl2, szl3, szl4, szl5, Nat.add_sub_assoc, Nat.add_zero, Nat.reduceSub, Nat.reduceAdd, Nat.reduceMul, Nat.reduceEqDiff,  jifT, bdS, sifN, sifS, omN, omS, cdI, x25, x26, x27, x28, x29, x30, x31, x32, xr0, xr1, xr2, xr3, xr4, xr5, if_pos, if_neg, true_and, and_true, false_and, and_false, and_self, Bool.and_true, if_true, if_false, reduceIte, cond_true, cond_false, not_true_eq_false, not_false_eq_true, g5', F_118_56]
    · rw [e11 7 (by omega)]; exact g2.1
    · rw [eT 13 (by omega)]; exact g2.2.1
    · rw [e11 8 (by omega)]; exact g3.1
    · rw [e11 9 (by omega)]; exact g3.2.1
    · rw [siI_at]
    · rw [e11 12 (by omega)]; exact g5'
    · rw [eT 15 (by omega), eT 16 (by omega), eT 17 (by omega)]; exact g6
theorem gcR.ro (gc : gcR D S) : S.1 11 0 0 11 = nI 0 ∨ S.1 11 0 0 11 = nI 1 ∨ S.1 11 0 0 11 = nI 2 := by
  obtain ⟨kd, cl, co, fl, gl, ro, sw, g1, g2, g3, g4, ⟨g5, g5', g5''⟩, g6, g7⟩ := gc
  rw [g5]
  rcases g7 with ⟨z, _⟩ | ⟨z, _⟩ | ⟨z, _⟩
  · rw [z]; exact Or.inl rfl
  · rw [z]; exact Or.inr (Or.inl rfl)
  · rw [z]; exact Or.inr (Or.inr rfl)
theorem wkR.trans {S1 S2 : sS} (h : wkR φ F N P S T A S1) (h' : wkR φ F N P S1 T A S2) : wkR φ F N P S T A S2 := by
  obtain ⟨_, _, _, a, b⟩ := h
  obtain ⟨D', w', g', a', b'⟩ := h'
  exact ⟨D', w', g', a'.trans a, b.trans b'⟩
set_option maxHeartbeats 4000000 in
set_option linter.unusedSimpArgs false in
theorem wk_25 (ht : 1000 < t) (w : wR φ D F N P S T A) (gc : gcR D S) (K : Int32 → Int32 → sS → Option (Unit × sS)) (v1 : Int32) (i : Nat) : ∃ S', F_119_25 G t K v1 (nI i) S = K v1 (nI (i + 1)) S' ∧ wkR φ F N P S T A S' := by
  rcases gc.ro with h | h | h
  · obtain ⟨S', e, wk⟩ := w.beg (G := G) ht gc h
    refine ⟨S', ?_, wk⟩
    clear w gc wk
    unfold F_119_25
    simp (disch := first | assumption | omega) only [gI, gI2, gL, gL1, gL2, jcLT, jcGE, jcGT, jcLE, jcEQ, jcNE, dEQ, nIt, lgNE, lgEQ, lgGE, lgLT, lgGT, lgLE, jinT, nIc, nI0, nI1, nIo, nIs, nI_add, nIm, nIn0, szl0, szl1, szl2, szl3, szl4, szl5, Nat.add_sub_assoc, Nat.add_zero, Nat.reduceSub, Nat.reduceAdd, Nat.reduceMul, Nat.reduceEqDiff,  jifT, bdS, sifN, sifS, omN, omS, cdI, x25, x26, x27, x28, x29, x30, x31, x32, xr0, xr1, xr2, xr3, xr4, xr5, if_pos, if_neg, true_and, and_true, false_and, and_false, and_self, Bool.and_true, if_true, if_false, reduceIte, cond_true, cond_false, not_true_eq_false, not_false_eq_true, h, e, F_119_95]
  · rcases wk_one (G := G) ht w gc h with ⟨S', e, wk⟩ | ⟨e, wk⟩
    · refine ⟨S', ?_, wk⟩
      clear w gc wk
      unfold F_119_25
      simp (disch := first | assumption | omega) only [gI, gI2, gL, gL1, gL2, jcLT, jcGE, jcGT, jcLE, jcEQ, jcNE, dEQ, nIt, lgNE, lgEQ, lgGE, lgLT, lgGT, lgLE, jinT, nIc, nI0, nI1, nIo, nIs, nI_add, nIm, nIn0, szl0, szl1, szl2, szl3, szl4, szl5, Nat.add_sub_assoc, Nat.add_zero, Nat.reduceSub, Nat.reduceAdd, Nat.reduceMul, Nat.reduceEqDiff,  jifT, bdS, sifN, sifS, omN, omS, cdI, x25, x26, x27, x28, x29, x30, x31, x32, xr0, xr1, xr2, xr3, xr4, xr5, if_pos, if_neg, true_and, and_true, false_and, and_false, and_self, Bool.and_true, if_true, if_false, reduceIte, cond_true, cond_false, not_true_eq_false, not_false_eq_true, h, e, F_119_95]
    · refine ⟨_, ?_, wk⟩
      clear w gc wk
      unfold F_119_25
      simp (disch := first | assumption | omega) only [gI, gI2, gL, gL1, gL2, jcLT, jcGE, jcGT, jcLE, jcEQ, jcNE, dEQ, nIt, lgNE, lgEQ, lgGE, lgLT, lgGT, lgLE, jinT, nIc, nI0, nI1, nIo, nIs, nI_add, nIm, nIn0, szl0, szl1, szl2, szl3, szl4, szl5, Nat.add_sub_assoc, Nat.add_zero, Nat.reduceSub, Nat.reduceAdd, Nat.reduceMul, Nat.reduceEqDiff,  jifT, bdS, sifN, sifS, omN, omS, cdI, x25, x26, x27, x28, x29, x30, x31, x32, xr0, xr1, xr2, xr3, xr4, xr5, if_pos, if_neg, true_and, and_true, false_and, and_false, and_self, Bool.and_true, if_true, if_false, reduceIte, cond_true, cond_false, not_true_eq_false, not_false_eq_true, h, e, F_119_95]
  · obtain ⟨S', e, wk⟩ := wk_sweep (G := G) (t := t) w gc h
    refine ⟨S', ?_, wk⟩
    clear w gc wk
    unfold F_119_25
    simp (disch := first | assumption | omega) only [gI, gI2, gL, gL1, gL2, jcLT, jcGE, jcGT, jcLE, jcEQ, jcNE, dEQ, nIt, lgNE, lgEQ, lgGE, lgLT, lgGT, lgLE, jinT, nIc, nI0, nI1, nIo, nIs, nI_add, nIm, nIn0, szl0, szl1, szl2, szl3, szl4, szl5, Nat.add_sub_assoc, Nat.add_zero, Nat.reduceSub, Nat.reduceAdd, Nat.reduceMul, Nat.reduceEqDiff,  jifT, bdS, sifN, sifS, omN, omS, cdI, x25, x26, x27, x28, x29, x30, x31, x32, xr0, xr1, xr2, xr3, xr4, xr5, if_pos, if_neg, true_and, and_true, false_and, and_false, and_self, Bool.and_true, if_true, if_false, reduceIte, cond_true, cond_false, not_true_eq_false, not_false_eq_true, h, e, F_119_95]
set_option maxHeartbeats 4000000 in
set_option linter.unusedSimpArgs false in
theorem wk_2 (ht : 1000 < t) {j : Nat} (hj : j < 2147483648) : ∀ w i tt S D, i + w = j → w < tt → wR φ D F N P S T A → gcR D S → ∃ S', F_119_2 G t tt (nI j) (nI i) S = some ((), S') ∧ wkR φ F N P S T A S' := by
  intro w
  induction w with
  | zero =>
    intro i tt S D h1 h2 h3 h4
    obtain ⟨u, rfl⟩ : ∃ u, tt = u + 1 := ⟨tt - 1, by omega⟩
    have : i = j := by omega
    subst this
    refine ⟨S, ?_, D, h3, h4, rfl, agr.refl _ _⟩
    clear h3 h4
    rw [F_119_2]
    simp (disch := first | assumption | omega) only [gI, gI2, gL, gL1, gL2, jcLT, jcGE, jcGT, jcLE, jcEQ, jcNE, dEQ, nIt, lgNE, lgEQ, lgGE, lgLT, lgGT, lgLE, jinT, nIc, nI0, nI1, nIo, nIs, nI_add, nIm, nIn0, szl0, szl1, szl2, szl3, szl4, szl5, Nat.add_sub_assoc, Nat.add_zero, Nat.reduceSub, Nat.reduceAdd, Nat.reduceMul, Nat.reduceEqDiff,  jifT, bdS, sifN, sifS, omN, omS, cdI, x25, x26, x27, x28, x29, x30, x31, x32, xr0, xr1, xr2, xr3, xr4, xr5, if_pos, if_neg, true_and, and_true, false_and, and_false, and_self, Bool.and_true, if_true, if_false, reduceIte, cond_true, cond_false, not_true_eq_false, not_false_eq_true]
  | succ w ih =>
    intro i tt S D h1 h2 h3 h4
    obtain ⟨u, rfl⟩ : ∃ u, tt = u + 1 := ⟨tt - 1, by omega⟩
    obtain ⟨S1, e1, k1⟩ := wk_25 (G := G) ht h3 h4 (F_119_2 G t u) (nI j) i
    have hc := jc_geF (a := i) (b := j) (by omega) (by omega)
    obtain ⟨D1, w1, gc1, _⟩ := id k1
    obtain ⟨S2, e2, k2⟩ := ih (i + 1) u S1 D1 (by omega) (by omega) w1 gc1
    rw [F_119_2]
    dsimp only
    rw [hc, cond_false]
    by_cases c : jcmp .ne (S.1 11 0 0 11) 0 = true
    · rw [c, cond_true, e1, e2]
      exact ⟨S2, rfl, k1.trans k2⟩
    · have c' : jcmp .ne (S.1 11 0 0 11) 0 = false := by
        cases z : jcmp .ne (S.1 11 0 0 11) 0 with
        | false => rfl
        | true => exact absurd z c
      rw [c', cond_false]
      by_cases c2 : jcmp .ge (S.1 11 0 0 13) (nI 150) = true
      · rw [c2, cond_true, e1, e2]
        exact ⟨S2, rfl, k1.trans k2⟩
      · have c2' : jcmp .ge (S.1 11 0 0 13) (nI 150) = false := by
          cases z : jcmp .ge (S.1 11 0 0 13) (nI 150) with
          | false => rfl
          | true => exact absurd z c2
        rw [c2', cond_false]
        exact ⟨S, rfl, D, h3, h4, rfl, agr.refl _ _⟩
set_option maxHeartbeats 4000000 in
set_option linter.unusedSimpArgs false in
theorem wR.work (ht : 2147483648 < t) (w : wR φ D F N P S T A) (gc : gcR D S) (v : Int32) : ∃ S', F_119 G t v S = some ((), S') ∧ wkR φ F N P S T A S' := by
  by_cases c : v < 0
  · refine ⟨S, ?_, D, w, gc, rfl, agr.refl _ _⟩
    obtain ⟨u, rfl⟩ : ∃ u, t = u + 1 := ⟨t - 1, by omega⟩
    unfold F_119
    rw [F_119_2]
    dsimp only
    have : jcmp .ge (nI 0) v = true := by
      unfold jcmp
      simp only [decide_eq_true_eq]
      exact Int32.le_of_lt c
    rw [this, cond_true]
  · obtain ⟨j, hj, rfl⟩ := nI_of c
    exact wk_2 (G := G) (by omega) (by omega) j 0 t S D (by omega) (by omega) w gc
end WRK2
