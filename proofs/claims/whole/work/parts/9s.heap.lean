/-! The whole is collected. -/
section COL
variable {φ φ' : Nat → Nat} {D D' R : Nat → Prop} {F N : Nat} {P : aP} {S S' T T' : sS} {A : aS} {r s d p f pc n m e b k y : Nat} {G : jG} {t j : Nat} {kd cl : Nat → Nat} {fl : List Nat}
theorem thC.ag {h k c : Nat} (H : thC S h k c) (a29 : S'.1 29 = S.1 29) (a31 : S'.1 31 = S.1 31) (a32 : S'.1 32 = S.1 32) (hX : S'.2.2 = S.2.2) : thC S' h k c := by
  unfold thC at H ⊢
  rw [a29, a31, a32, hX]
  exact H
theorem hpR.ag (H : hpR S kd cl fl) (ag : agr (fun t i j => 15 ≤ t ∧ t ≤ 17) S S') (hX : S'.2.2 = S.2.2) : hpR S' kd cl fl := by
  have e : ∀ t, ¬ (15 ≤ t ∧ t ≤ 17) → S'.1 t = S.1 t := fun t ht => by
    funext i j
    exact (ag t i j ht).1
  obtain ⟨h1, h2, h3⟩ := H
  refine ⟨fun h hh => (h1 h hh).ag (e 29 (by omega)) (e 31 (by omega)) (e 32 (by omega)) hX, ?_, ?_⟩
  · rw [e 11 (by omega), e 13 (by omega)]; exact h2
  · rw [e 11 (by omega)]; exact h3
/-! what the loop over the places keeps -/
def l52 (φ : Nat → Nat) (R : Nat → Prop) (F N : Nat) (P : aP) (S T : sS) (A : aS) (kd cl co : Nat → Nat) (i : Nat) (S2 : sS) (kd2 : Nat → Nat) (fl2 : List Nat) : Prop := hpR S2 kd2 cl fl2 ∧ wR φ R F N P S2 T A ∧ (∀ h, h < 600 → (R h → kd2 h = kd h) ∧ (i ≤ h → kd2 h = kd h) ∧ (h < i → ¬ R h → kd2 h = 0)) ∧ (∀ h, h < 600 → S2.1 16 0 1 h = nI (co h)) ∧ S2.2.2 = S.2.2 ∧ (∀ q, 10 ≤ q → S2.1 11 0 0 q = S.1 11 0 0 q) ∧ agr (fun t i j => (11 ≤ t ∧ t ≤ 17) ∨ t = 32) S S2 ∧ ∀ p q, q ≠ 1 → S2.1 32 p 0 q = S.1 32 p 0 q
set_option maxHeartbeats 4000000 in
set_option linter.unusedSimpArgs false in
theorem l_52 {co : Nat → Nat} (hco : ∀ x, x < 600 → (co x = 2 ∧ R x) ∨ (co x = 0 ∧ ¬ R x)) : ∀ n i tt S2 kd2 fl2, i + n = 600 → n < tt → l52 φ R F N P S T A kd cl co i S2 kd2 fl2 → ∃ S' kd' fl', F_52_6 G t tt (nI i) S2 = (F_10 G t S').bind (fun q => some ((), q.2)) ∧ l52 φ R F N P S T A kd cl co 600 S' kd' fl' := by
  intro n
  induction n with
  | zero =>
    intro i tt S2 kd2 fl2 h1 h2 h
    obtain ⟨u, rfl⟩ : ∃ u, tt = u + 1 := ⟨tt - 1, by omega⟩
    have : i = 600 := by omega
    subst this
    refine ⟨S2, kd2, fl2, ?_, h⟩
    rw [F_52_6]
    clear h hco
    simp (disch := first | assumption | omega) only [gI, gI2, gL, gL1, gL2, jcLT, jcGE, jcGT, jcLE, jcEQ, jcNE, dEQ, nIt, lgNE, lgEQ, lgGE, lgLT, lgGT, lgLE, jinT, nIc, nI0, nI1, nIo, nIs, nI_add, nIm, nIn0, szl0, szl1, szl2, szl3, szl4, szl5, Nat.add_sub_assoc, Nat.add_zero, Nat.reduceSub, Nat.reduceAdd, Nat.reduceMul, Nat.reduceEqDiff,  jifT, bdS, sifN, sifS, omN, omS, cdI, x25, x26, x27, x28, x29, x30, x31, x32, xr0, xr1, xr2, xr3, xr4, xr5, if_pos, if_neg, true_and, and_true, false_and, and_false, and_self, Bool.and_true, if_true, if_false, reduceIte, cond_true, cond_false, not_true_eq_false, not_false_eq_true]
  | succ n ih =>
    intro i tt S2 kd2 fl2 h1 h2 h
    obtain ⟨u, rfl⟩ : ∃ u, tt = u + 1 := ⟨tt - 1, by omega⟩
    have hi : i < 600 := by omega
    obtain ⟨a1, a2, a3, a4, a5, a6, a7, a8⟩ := id h
    have c4 := a4 i hi
    rcases hco i hi with ⟨c, hR⟩ | ⟨c, hR⟩
    · obtain ⟨S', kd', fl', e1, e2⟩ := ih (i + 1) u S2 kd2 fl2 (by omega) (by omega) ⟨a1, a2, fun x hx => ⟨(a3 x hx).1, fun z => (a3 x hx).2.1 (by omega), fun z z' => (a3 x hx).2.2 (by
        by_cases cx : x = i
        · subst cx; exact absurd hR z'
        · omega) z'⟩, a4, a5, a6, a7, a8⟩
      refine ⟨S', kd', fl', ?_, e2⟩
      rw [← e1]
      rw [c] at c4
      clear h a1 a2 a3 a4 a7 a8 ih hco e1 e2
      rw [F_52_6]
      simp (disch := first | assumption | omega) only [gI, gI2, gL, gL1, gL2, jcLT, jcGE, jcGT, jcLE, jcEQ, jcNE, dEQ, nIt, lgNE, lgEQ, lgGE, lgLT, lgGT, lgLE, jinT, nIc, nI0, nI1, nIo, nIs, nI_add, nIm, nIn0, szl0, szl1, szl2, szl3, szl4, szl5, Nat.add_sub_assoc, Nat.add_zero, Nat.reduceSub, Nat.reduceAdd, Nat.reduceMul, Nat.reduceEqDiff,  jifT, bdS, sifN, sifS, omN, omS, cdI, x25, x26, x27, x28, x29, x30, x31, x32, xr0, xr1, xr2, xr3, xr4, xr5, if_pos, if_neg, true_and, and_true, false_and, and_false, and_self, Bool.and_true, if_true, if_false, reduceIte, cond_true, cond_false, not_true_eq_false, not_false_eq_true, F_52_30, c4]
    · rw [c] at c4
      by_cases ck : kd2 i = 0
      · obtain ⟨S', kd', fl', e1, e2⟩ := ih (i + 1) u S2 kd2 fl2 (by omega) (by omega) ⟨a1, a2, fun x hx => ⟨(a3 x hx).1, fun z => (a3 x hx).2.1 (by omega), fun z z' => (by
          by_cases cx : x = i
          · subst cx; exact ck
          · exact (a3 x hx).2.2 (by omega) z')⟩, a4, a5, a6, a7, a8⟩
        refine ⟨S', kd', fl', ?_, e2⟩
        rw [← e1]
        have e51 := a1.rel0 (G := G) (t := t) hi ck
        clear h a1 a2 a3 a4 a7 a8 ih hco e1 e2
        rw [F_52_6]
        simp (disch := first | assumption | omega) only [gI, gI2, gL, gL1, gL2, jcLT, jcGE, jcGT, jcLE, jcEQ, jcNE, dEQ, nIt, lgNE, lgEQ, lgGE, lgLT, lgGT, lgLE, jinT, nIc, nI0, nI1, nIo, nIs, nI_add, nIm, nIn0, szl0, szl1, szl2, szl3, szl4, szl5, Nat.add_sub_assoc, Nat.add_zero, Nat.reduceSub, Nat.reduceAdd, Nat.reduceMul, Nat.reduceEqDiff,  jifT, bdS, sifN, sifS, omN, omS, cdI, x25, x26, x27, x28, x29, x30, x31, x32, xr0, xr1, xr2, xr3, xr4, xr5, if_pos, if_neg, true_and, and_true, false_and, and_false, and_self, Bool.and_true, if_true, if_false, reduceIte, cond_true, cond_false, not_true_eq_false, not_false_eq_true, F_52_30, c4, e51]
      · obtain ⟨p, S3, g1, g2, g3, g4, g5, g6, g7⟩ := a1.rel (G := G) (t := t) a2.2.2.2.2.2.2.2.2.2 hi ck
        obtain ⟨S', kd', fl', e1, e2⟩ := ih (i + 1) u S3 (va_up kd2 i 0) (fl2 ++ [i]) (by omega) (by omega) ⟨g3, a2.rel hR g1 (g4.mono (fun t i j z => by omega)) g5 (g6 10 (by omega)), fun x hx => (by
          by_cases cx : x = i
          · subst cx
            rw [va_up_self]
            exact ⟨fun z => absurd z hR, fun z => by omega, fun _ _ => rfl⟩
          · rw [va_up_ne _ _ cx]
            exact ⟨(a3 x hx).1, fun z => (a3 x hx).2.1 (by omega), fun z z' => (a3 x hx).2.2 (by omega) z'⟩), fun x hx => by rw [(g4 16 0 1 (by omega)).1]; exact a4 x hx, g5.trans a5, fun q hq => (g6 q hq).trans (a6 q hq), a7.trans (g4.mono (fun t i j z => by omega)), fun p' q hq => (g7 p' q hq).trans (a8 p' q hq)⟩
        refine ⟨S', kd', fl', ?_, e2⟩
        rw [← e1]
        clear h a1 a2 a3 a4 a7 a8 ih hco e1 e2 g3 g4
        rw [F_52_6]
        simp (disch := first | assumption | omega) only [gI, gI2, gL, gL1, gL2, jcLT, jcGE, jcGT, jcLE, jcEQ, jcNE, dEQ, nIt, lgNE, lgEQ, lgGE, lgLT, lgGT, lgLE, jinT, nIc, nI0, nI1, nIo, nIs, nI_add, nIm, nIn0, szl0, szl1, szl2, szl3, szl4, szl5, Nat.add_sub_assoc, Nat.add_zero, Nat.reduceSub, Nat.reduceAdd, Nat.reduceMul, Nat.reduceEqDiff,  jifT, bdS, sifN, sifS, omN, omS, cdI, x25, x26, x27, x28, x29, x30, x31, x32, xr0, xr1, xr2, xr3, xr4, xr5, if_pos, if_neg, true_and, and_true, false_and, and_false, and_self, Bool.and_true, if_true, if_false, reduceIte, cond_true, cond_false, not_true_eq_false, not_false_eq_true, F_52_30, c4, g2]
/-! cells, as they were counted -/
set_option maxHeartbeats 4000000 in
set_option linter.unusedSimpArgs false in
theorem hpR.cls (H : hpR S kd cl fl) {x : Nat} (hx : x < 600) (hk : kd x ≠ 0) : clC S x = cl x := by
  rcases H.1 x hx with ⟨_, z⟩ | ⟨p, hp, _, _, _, hu⟩
  · exact absurd z hk
  · obtain ⟨w, u1, u2, u3, u4, u5, u6⟩ := hu hk
    unfold clC
    rw [hp]
    dsimp only
    rw [u3, nI_clamp (by omega)]
/-! collecting the whole -/
set_option maxHeartbeats 4000000 in
set_option linter.unusedSimpArgs false in
theorem wR.f52 (ht : 1000 < t) (w : wR φ D F N P S T A) (gc : gcR D S) : ∃ S' bl, F_52 G t S = some ((), S') ∧ wR φ (reC S A.2.1) F N P S' T A ∧ gcR (reC S A.2.1) S' ∧ S'.2.2 = S.2.2 ∧ bl.Nodup ∧ (∀ x, x ∈ bl ↔ reC S A.2.1 x) ∧ S'.1 11 0 0 9 = nI (suL (clC S) bl) ∧ suL (clC S) bl ≤ 1200 ∧ S'.1 11 0 0 8 = nI bl.length ∧ (∀ x, reC S' A.2.1 x ↔ reC S A.2.1 x) ∧ agr (fun t i j => (11 ≤ t ∧ t ≤ 17) ∨ t = 32) S S' ∧ (∀ x, clC S' x = clC S x) := by
  obtain ⟨S1, co, bl, e1, e2, e3, e4, e5, e6, e7, e8, e9⟩ := w.f39 (G := G) ht
  obtain ⟨kd, cl, co0, fl, gl, ro, sw, g1, g2, g3, g4, ⟨g5, g5', g5''⟩, g6, g7⟩ := gc
  have H : hpR S kd cl fl := ⟨g1, g2, g3⟩
  have e3' : agr (fun t i j => 15 ≤ t ∧ t ≤ 17) S S1 := e3.mono (fun t i j z => by omega)
  have H1 := H.ag e3' e4
  have w1 : wR φ (reC S A.2.1) F N P S1 T A := w.re.mrk (e3.mono (fun t i j z => by omega)) e4 (by rw [(e3 11 0 0 (by omega)).1])
  obtain ⟨S2, kd2, fl2, a0, a1, a2, a3, a4, a5, a6, a7, a8⟩ := l_52 (G := G) (t := t) (φ := φ) (R := reC S A.2.1) (F := F) (N := N) (P := P) (S := S) (T := T) (A := A) (kd := kd) (cl := cl) (co := co) e7 600 0 t S1 kd fl (by omega) (by omega) ⟨H1, w1, fun x hx => ⟨fun _ => rfl, fun _ => rfl, fun z => by omega⟩, fun x hx => (e2.1 x hx).1, e4, fun q _ => by rw [(e3 11 0 0 (by omega)).1], e3.mono (fun t i j z => by omega), fun p q _ => by rw [(e3 32 p 0 (by omega)).1]⟩
  have used : ∀ x, x < 600 → (kd2 x ≠ 0 ↔ reC S A.2.1 x) := fun x hx => by
    constructor
    · intro z
      apply Classical.byContradiction
      intro c
      exact z ((a3 x hx).2.2 hx c)
    · intro z
      rw [(a3 x hx).1 z]
      exact (g4 x (w.reD z)).2
  have hbl : ∀ h, h ∈ bl ↔ h < 600 ∧ kd2 h ≠ 0 := fun h => by
    rw [e6]
    constructor
    · intro z
      have := w.D6 h (w.reD z)
      exact ⟨this, (used h this).mpr z⟩
    · rintro ⟨z1, z2⟩
      exact (used h z1).mp z2
  have ec : ∀ x, clC S2 x = clC S x := fun x => by
    unfold clC
    rw [a5]
    cases S.2.2.1.2 x with
    | none => rfl
    | some p =>
      dsimp only
      rw [a8 p 3 (by omega)]
  have us : usC kd2 cl 600 = suL (clC S) bl := by
    rw [usC_list e5 hbl]
    refine suL_cong (fun x hx => ?_)
    obtain ⟨z1, z2⟩ := (hbl x).mp hx
    rw [← ec x]
    exact (a1.cls z1 z2).symm
  obtain ⟨S3, b1, b2, b3, b4, b5, b6⟩ := f_9 (G := G) (t := t) (S := siI (siI S2 11 0 0 11 (nI 0)) 11 0 0 13 (nI 0)) (j := 0) ht (by omega)
  have ag3 : agr (fun t i j => (15 ≤ t ∧ t ≤ 17) ∨ t = 11) S2 S3 := (agr.i (agr.i (agr.refl _ _) _ _ (by omega)) _ _ (by omega)).trans (b3.mono (fun t i j z => by omega))
  have x3 : S3.2.2 = S2.2.2 := b4
  have e11 : ∀ q, q ≠ 11 → q ≠ 13 → S3.1 11 0 0 q = S2.1 11 0 0 q := fun q z z' => by
    rw [(b3 11 0 0 (by omega)).1, gI, if_neg (by omega), gI, if_neg (by omega)]
  have eT : ∀ t, ¬ (15 ≤ t ∧ t ≤ 17) → t ≠ 11 → S3.1 t = S2.1 t := fun t h1 h2 => by
    funext i j
    exact (ag3 t i j (by omega)).1
  refine ⟨S3, bl, ?_, ?_, ⟨kd2, cl, fun _ => 0, fl2, [], 0, sw, fun h hh => (a1.1 h hh).ag (eT 29 (by omega) (by omega)) (eT 31 (by omega) (by omega)) (eT 32 (by omega) (by omega)) x3, ⟨?_, ?_, a1.2.1.2.2⟩, ⟨?_, ?_, a1.2.2.2.2⟩, fun x hx => ⟨w.D6 x (w.reD hx), (used x (w.D6 x (w.reD hx))).mpr hx⟩, ⟨?_, ?_, g5''⟩, b2, Or.inl ⟨rfl, fun _ _ => rfl⟩⟩, x3.trans a5, e5, e6, ?_, ?_, ?_, fun x => ?_, ?_, fun x => ?_⟩
  · unfold F_52
    clear w g1 g2 g3 g4 g6 g7 H H1 w1 e2 e3 e6 e7 a1 a2 a3 a4 a7 a8 used hbl ec us b2 b3 ag3 e11 eT e3'
    simp (disch := first | assumption | omega) only [gI, gI2, gL, gL1, gL2, jcLT, jcGE, jcGT, jcLE, jcEQ, jcNE, dEQ, nIt, lgNE, lgEQ, lgGE, lgLT, lgGT, lgLE, jinT, nIc, nI0, nI1, nIo, nIs, nI_add, nIm, nIn0, szl0, szl1, szl2, szl3, szl4, szl5, Nat.add_sub_assoc, Nat.add_zero, Nat.reduceSub, Nat.reduceAdd, Nat.reduceMul, Nat.reduceEqDiff,  jifT, bdS, sifN, sifS, omN, omS, cdI, x25, x26, x27, x28, x29, x30, x31, x32, xr0, xr1, xr2, xr3, xr4, xr5, if_pos, if_neg, true_and, and_true, false_and, and_false, and_self, Bool.and_true, if_true, if_false, reduceIte, cond_true, cond_false, not_true_eq_false, not_false_eq_true, e1, a0, F_10, b1]
  · exact a2.mrk (ag3.mono (fun t i j z => by omega)) x3 (e11 10 (by omega) (by omega))
  · rw [e11 7 (by omega) (by omega)]; exact a1.2.1.1
  · rw [eT 13 (by omega) (by omega)]; exact a1.2.1.2.1
  · rw [e11 8 (by omega) (by omega)]; exact a1.2.2.1
  · rw [e11 9 (by omega) (by omega)]; exact a1.2.2.2.1
  · rw [(b3 11 0 0 (by omega)).1, gI, if_neg (by omega), siI_at]
  · rw [e11 12 (by omega) (by omega), a6 12 (by omega)]; exact g5'
  · rw [e11 9 (by omega) (by omega), a1.2.2.2.1, us]
  · rw [← us]; exact a1.2.2.2.2
  · rw [e11 8 (by omega) (by omega), a1.2.2.1, obC_list e5 hbl]
  · refine reC.ext ?_ ?_ (x3.trans a5) x
    · rw [eT 29 (by omega) (by omega)]
      funext i j
      exact (a7 29 i j (by omega)).1
    · rw [eT 31 (by omega) (by omega)]
      funext i j
      exact (a7 31 i j (by omega)).1
  · exact a7.trans (ag3.mono (fun t i j z => by omega))
  · rw [← ec x]
    unfold clC
    rw [x3, eT 32 (by omega) (by omega)]
end COL
