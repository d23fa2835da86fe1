/-! What is reached: the whole of the class's tracing. -/
section TR2
variable {φ : Nat → Nat} {D : Nat → Prop} {F N : Nat} {P : aP} {S S' T T' : sS} {A : aS} {r d p f pc n m e b k y : Nat} {G : jG} {t j : Nat}
def suL (cl : Nat → Nat) (l : List Nat) : Nat := (l.map cl).sum
theorem suL_c (cl : Nat → Nat) (x : Nat) (l : List Nat) : suL cl (x :: l) = cl x + suL cl l := by
  unfold suL
  rw [List.map_cons, List.sum_cons]
/-! looking into all: co the colours before, nl those that are new black -/
def loI (S S1 : sS) (j : Nat) (X : Nat → Prop) (cl co co1 : Nat → Nat) (nl : List Nat) (a b : Nat) : Prop :=
  agr (fun t a b => 15 ≤ t ∧ t ≤ 17 ∧ a = 0 ∧ b = j) S S1 ∧ S1.2.2 = S.2.2 ∧ (∀ h, h < 600 → co1 h ≠ 0 → X h) ∧ (∀ h, h < 600 → (co h = 2 → co1 h = 2) ∧ (co h ≠ 0 → co1 h ≠ 0)) ∧ nl.Nodup ∧ (∀ h, h ∈ nl ↔ h < 600 ∧ co1 h = 2 ∧ co h ≠ 2) ∧ (∀ h g, h ∈ nl → rfC S h g → co1 g ≠ 0) ∧ S1.1 15 0 j 3 = nI (a + nl.length) ∧ S1.1 15 0 j 4 = nI (b + suL cl nl)
set_option maxHeartbeats 4000000 in
set_option linter.unusedSimpArgs false in
theorem l_38 {X : Nat → Prop} {cl co : Nat → Nat} {a b : Nat} (ht : 1000 < t) (hj : j < 3) (hX : ∀ h, X h → h < 600 ∧ thU S h (cl h)) (hXc : ∀ h g, X h → rfC S h g → X g) : ∀ n tt S1 co1 gl nl, nl.length + n = 600 → n < tt → trS S1 j co1 gl → loI S S1 j X cl co co1 nl a b →
    ∃ S' co' nl', F_38_2 G t tt (0, j) (nI nl.length) S1 = some ((), S') ∧ trS S' j co' [] ∧ loI S S' j X cl co co' nl' a b := by
  intro n
  induction n with
  | zero =>
    intro tt S1 co1 gl nl h1 h2 hT hI
    obtain ⟨u, rfl⟩ : ∃ u, tt = u + 1 := ⟨tt - 1, by omega⟩
    obtain ⟨i1, i2, i3, i4, i5, i6, i7, i8, i9⟩ := id hI
    have : gl = [] := by
      cases gl with
      | nil => rfl
      | cons x gl =>
        have hx := (hT.2.2.2.2 x).mp List.mem_cons_self
        have := nd_len 600 (x :: nl) (List.nodup_cons.mpr ⟨fun z => by have := (i6 x).mp z; omega, i5⟩) (fun y hy => by
          rcases List.mem_cons.mp hy with rfl | hy
          · exact hx.1
          · exact ((i6 y).mp hy).1)
        rw [List.length_cons] at this
        omega
    subst this
    have e := e37n (G := G) (t := t) hj hT.2.1
    have q15 : sex S1.2.2.2.1 15 0 j = true := x15 hj
    refine ⟨S1, co1, nl, ?_, hT, hI⟩
    clear hT hI i3 i4 i6 i7 hX hXc
    rw [F_38_2]
    simp (disch := first | assumption | omega) only [gI, gI2, gL, gL1, gL2, jcLT, jcGE, jcGT, jcLE, jcEQ, jcNE, dEQ, nIt, lgNE, lgEQ, lgGE, lgLT, lgGT, lgLE, jinT, nIc, nI0, nI1, nIo, nIs, nI_add, nIm, nIn0, szl0, szl1, szl2, szl3, szl4, szl5, Nat.add_sub_assoc, Nat.add_zero, Nat.reduceSub, Nat.reduceAdd, Nat.reduceMul, Nat.reduceEqDiff,  jifT, bdS, sifN, sifS, omN, omS, cdI, x25, x26, x27, x28, x29, x30, x31, x32, xr0, xr1, xr2, xr3, xr4, xr5, if_pos, if_neg, true_and, and_true, false_and, and_false, and_self, Bool.and_true, if_true, if_false, reduceIte, cond_true, cond_false, not_true_eq_false, not_false_eq_true, q15, e]
  | succ n ih =>
    intro tt S1 co1 gl nl h1 h2 hT hI
    obtain ⟨u, rfl⟩ : ∃ u, tt = u + 1 := ⟨tt - 1, by omega⟩
    have q15 : sex S1.2.2.2.1 15 0 j = true := x15 hj
    rcases List.eq_nil_or_concat gl with rfl | ⟨gl', x, rfl⟩
    · have e := e37n (G := G) (t := t) hj hT.2.1
      refine ⟨S1, co1, nl, ?_, hT, hI⟩
      clear hT hI hX hXc ih
      rw [F_38_2]
      simp (disch := first | assumption | omega) only [gI, gI2, gL, gL1, gL2, jcLT, jcGE, jcGT, jcLE, jcEQ, jcNE, dEQ, nIt, lgNE, lgEQ, lgGE, lgLT, lgGT, lgLE, jinT, nIc, nI0, nI1, nIo, nIs, nI_add, nIm, nIn0, szl0, szl1, szl2, szl3, szl4, szl5, Nat.add_sub_assoc, Nat.add_zero, Nat.reduceSub, Nat.reduceAdd, Nat.reduceMul, Nat.reduceEqDiff,  jifT, bdS, sifN, sifS, omN, omS, cdI, x25, x26, x27, x28, x29, x30, x31, x32, xr0, xr1, xr2, xr3, xr4, xr5, if_pos, if_neg, true_and, and_true, false_and, and_false, and_self, Bool.and_true, if_true, if_false, reduceIte, cond_true, cond_false, not_true_eq_false, not_false_eq_true, q15, e]
    · rw [List.concat_eq_append] at hT
      obtain ⟨i1, i2, i3, i4, i5, i6, i7, i8, i9⟩ := hI
      obtain ⟨p1, p2, _⟩ := hT.pop
      have hXx := i3 x p1 (by omega)
      obtain ⟨S2, co2, gl2, e1, e2, e3, e4, e5, e6, e7⟩ := f_37 (G := G) (t := t) (c := cl x) (a := a + nl.length) (b := b + suL cl nl) ht hj hT ((hX x hXx).2.of i1 i2) i8 i9
      have hcx : co x ≠ 2 := fun z => by
        have := (i4 x p1).1 z
        omega
      have hup : ∀ h, h < 600 → co1 h ≠ 0 → co2 h ≠ 0 := fun h hh z => by
        rcases e3.1 h hh with w | w
        · rw [w]
          by_cases c : h = x
          · subst c; rw [va_up_self]; omega
          · rw [va_up_ne _ _ c]; exact z
        · omega
      have hbl : ∀ h, h < 600 → (co2 h = 2 ↔ h = x ∨ co1 h = 2) := fun h hh => by
        rcases e3.1 h hh with w | ⟨w1, w2, _⟩
        · rw [w]
          by_cases c : h = x
          · subst c; rw [va_up_self]; exact ⟨fun _ => Or.inl rfl, fun _ => rfl⟩
          · rw [va_up_ne _ _ c]; exact ⟨Or.inr, fun z => z.elim (fun z => absurd z c) id⟩
        · by_cases c : h = x
          · subst c; rw [va_up_self] at w1; omega
          · rw [va_up_ne _ _ c] at w1; omega
      have inv : loI S S2 j X cl co co2 (x :: nl) a b := by
        refine ⟨i1.trans e4, e5.trans i2, fun h hh z => ?_, fun h hh => ⟨fun z => (hbl h hh).mpr (Or.inr ((i4 h hh).1 z)), fun z => hup h hh ((i4 h hh).2 z)⟩, List.nodup_cons.mpr ⟨fun z => by have := (i6 x).mp z; omega, i5⟩, fun h => ?_, fun h g hh hr => ?_, by rw [e6, List.length_cons]; rfl, by rw [e7, suL_c]; congr 1; omega⟩
        · rcases e3.1 h hh with w | ⟨w1, w2, w3⟩
          · rw [w] at z
            by_cases c : h = x
            · subst c; exact hXx
            · rw [va_up_ne _ _ c] at z; exact i3 h hh z
          · exact hXc x h hXx ((rfC.of i1 i2 x h).mp w3)
        · rw [List.mem_cons, i6]
          constructor
          · rintro (rfl | ⟨z1, z2, z3⟩)
            · exact ⟨p1, (hbl _ p1).mpr (Or.inl rfl), hcx⟩
            · exact ⟨z1, (hbl h z1).mpr (Or.inr z2), z3⟩
          · rintro ⟨z1, z2, z3⟩
            rcases (hbl h z1).mp z2 with w | w
            · exact Or.inl w
            · exact Or.inr ⟨z1, w, z3⟩
        · have hg6 : g < 600 := by obtain ⟨_, _, _, _, _, _, _, _, z⟩ := hr; exact z
          rcases List.mem_cons.mp hh with rfl | hh
          · exact e3.2 g hg6 ((rfC.of i1 i2 _ g).mpr hr)
          · exact hup g hg6 (i7 h g hh hr)
      obtain ⟨S', co', nl', g1, g2, g3⟩ := ih u S2 co2 gl2 (x :: nl) (by rw [List.length_cons]; omega) (by omega) e2 inv
      refine ⟨S', co', nl', ?_, g2, g3⟩
      rw [List.length_cons] at g1
      clear hT i1 i3 i4 i6 i7 hX hXc ih e2 e3 e4 hup hbl g2 g3 inv
      rw [F_38_2]
      simp (disch := first | assumption | omega) only [gI, gI2, gL, gL1, gL2, jcLT, jcGE, jcGT, jcLE, jcEQ, jcNE, dEQ, nIt, lgNE, lgEQ, lgGE, lgLT, lgGT, lgLE, jinT, nIc, nI0, nI1, nIo, nIs, nI_add, nIm, nIn0, szl0, szl1, szl2, szl3, szl4, szl5, Nat.add_sub_assoc, Nat.add_zero, Nat.reduceSub, Nat.reduceAdd, Nat.reduceMul, Nat.reduceEqDiff,  jifT, bdS, sifN, sifS, omN, omS, cdI, x25, x26, x27, x28, x29, x30, x31, x32, xr0, xr1, xr2, xr3, xr4, xr5, if_pos, if_neg, true_and, and_true, false_and, and_false, and_self, Bool.and_true, if_true, if_false, reduceIte, cond_true, cond_false, not_true_eq_false, not_false_eq_true, q15, e1, g1]
/-! filling a row of ints -/
set_option maxHeartbeats 4000000 in
set_option linter.unusedSimpArgs false in
theorem l_8 {tg i0 j0 L : Nat} {v : Int32} (hx : ∀ S' : sS, S'.2.2 = S.2.2 → sex S'.2.2.2.1 tg i0 j0 = true) (ha : sia tg = true) (hL : sil tg j0 = L) (hL2 : L < 2147483648) : ∀ n k tt S1, k + n = L → n < tt → S1.2.2 = S.2.2 → ∃ S', F_8_5 G t tt (tg, i0, j0) v (nI k) (nI L) S1 = some ((), S') ∧ S'.2.2 = S.2.2 ∧ agr (fun t a b => t = tg ∧ a = i0 ∧ b = j0) S1 S' ∧ (∀ q, k ≤ q → q < L → S'.1 tg i0 j0 q = v) ∧ (∀ q, q < k → S'.1 tg i0 j0 q = S1.1 tg i0 j0 q) ∧ S'.2 = S1.2 := by
  intro n
  induction n with
  | zero =>
    intro k tt S1 h1 h2 h3
    obtain ⟨u, rfl⟩ : ∃ u, tt = u + 1 := ⟨tt - 1, by omega⟩
    refine ⟨S1, ?_, h3, agr.refl _ _, fun q a b => by omega, fun _ _ => rfl, rfl⟩
    rw [F_8_5]
    clear hx
    simp (disch := first | assumption | omega) only [gI, gI2, gL, gL1, gL2, jcLT, jcGE, jcGT, jcLE, jcEQ, jcNE, dEQ, nIt, lgNE, lgEQ, lgGE, lgLT, lgGT, lgLE, jinT, nIc, nI0, nI1, nIo, nIs, nI_add, nIm, nIn0, szl0, szl1, szl2, szl3, szl4, szl5, Nat.add_sub_assoc, Nat.add_zero, Nat.reduceSub, Nat.reduceAdd, Nat.reduceMul, Nat.reduceEqDiff,  jifT, bdS, sifN, sifS, omN, omS, cdI, x25, x26, x27, x28, x29, x30, x31, x32, xr0, xr1, xr2, xr3, xr4, xr5, if_pos, if_neg, true_and, and_true, false_and, and_false, and_self, Bool.and_true, if_true, if_false, reduceIte, cond_true, cond_false, not_true_eq_false, not_false_eq_true]
  | succ n ih =>
    intro k tt S1 h1 h2 h3
    obtain ⟨u, rfl⟩ : ∃ u, tt = u + 1 := ⟨tt - 1, by omega⟩
    obtain ⟨S', e1, e2, e3, e4, e5, e6⟩ := ih (k + 1) u (siI S1 tg i0 j0 k v) (by omega) (by omega) h3
    have q := hx S1 h3
    refine ⟨S', ?_, e2, (agr.i (agr.refl _ _) _ _ ⟨rfl, rfl, rfl⟩).trans e3, fun q' a b => ?_, fun q' hq => ?_, e6⟩
    · rw [F_8_5]
      clear hx ih e3 e4
      simp (disch := first | assumption | omega) only [gI, gI2, gL, gL1, gL2, jcLT, jcGE, jcGT, jcLE, jcEQ, jcNE, dEQ, nIt, lgNE, lgEQ, lgGE, lgLT, lgGT, lgLE, jinT, nIc, nI0, nI1, nIo, nIs, nI_add, nIm, nIn0, szl0, szl1, szl2, szl3, szl4, szl5, Nat.add_sub_assoc, Nat.add_zero, Nat.reduceSub, Nat.reduceAdd, Nat.reduceMul, Nat.reduceEqDiff,  jifT, bdS, sifN, sifS, omN, omS, cdI, x25, x26, x27, x28, x29, x30, x31, x32, xr0, xr1, xr2, xr3, xr4, xr5, if_pos, if_neg, true_and, and_true, false_and, and_false, and_self, Bool.and_true, if_true, if_false, reduceIte, cond_true, cond_false, not_true_eq_false, not_false_eq_true, q, ha, hL, e1]
    · by_cases c : q' = k
      · subst c
        rw [e5 q' (by omega), siI_at]
      · exact e4 q' (by omega) b
    · rw [e5 q' (by omega), gI, if_neg (by omega)]
/-! wiping a tracer -/
set_option maxHeartbeats 4000000 in
set_option linter.unusedSimpArgs false in
theorem f_9 (ht : 1000 < t) (hj : j < 3) : ∃ S', F_9 G t (0, j) S = some ((), S') ∧ trS S' j (fun _ => 0) [] ∧ agr (fun t a b => 15 ≤ t ∧ t ≤ 17 ∧ a = 0 ∧ b = j) S S' ∧ S'.2.2 = S.2.2 ∧ S'.1 15 0 j 3 = nI 0 ∧ S'.1 15 0 j 4 = nI 0 := by
  obtain ⟨S1, e1, e2, e3, e4, _, _⟩ := l_8 (G := G) (t := t) (S := S) (tg := 16) (i0 := 0) (j0 := j) (L := 600) (v := nI 0) (fun S' _ => x16 hj) rfl rfl (by omega) 600 0 t S (by omega) (by omega) rfl
  refine ⟨siI (siI (siI S1 15 0 j 2 (nI 0)) 15 0 j 3 (nI 0)) 15 0 j 4 (nI 0), ?_, ⟨fun h hh => ?_, ?_, fun i x z => (by cases z), List.nodup_nil, fun h => ?_⟩, agr.i (agr.i (agr.i (e3.mono (fun t a b z => by omega)) _ _ (by omega)) _ _ (by omega)) _ _ (by omega), e2, ?_, siI_at _ _ _ _ _ _⟩
  · have q15 : sex S.2.2.2.1 15 0 j = true := x15 hj
    have q16 : sex S.2.2.2.1 16 0 j = true := x16 hj
    have q : sia 16 = true := rfl
    have q' : sil 16 j = 600 := rfl
    unfold F_9
    clear e3 e4
    simp (disch := first | assumption | omega) only [gI, gI2, gL, gL1, gL2, jcLT, jcGE, jcGT, jcLE, jcEQ, jcNE, dEQ, nIt, lgNE, lgEQ, lgGE, lgLT, lgGT, lgLE, jinT, nIc, nI0, nI1, nIo, nIs, nI_add, nIm, nIn0, szl0, szl1, szl2, szl3, szl4, szl5, Nat.add_sub_assoc, Nat.add_zero, Nat.reduceSub, Nat.reduceAdd, Nat.reduceMul, Nat.reduceEqDiff,  jifT, bdS, sifN, sifS, omN, omS, cdI, x25, x26, x27, x28, x29, x30, x31, x32, xr0, xr1, xr2, xr3, xr4, xr5, if_pos, if_neg, true_and, and_true, false_and, and_false, and_self, Bool.and_true, if_true, if_false, reduceIte, cond_true, cond_false, not_true_eq_false, not_false_eq_true, F_8, q15, q16, q, q', e1, e2]
  · rw [siI_ne _ _ _ (by omega), siI_ne _ _ _ (by omega), siI_ne _ _ _ (by omega)]
    exact ⟨e4 h (Nat.zero_le _) hh, Nat.zero_le _⟩
  · rw [gI, if_neg (by omega), gI, if_neg (by omega), siI_at]
    rfl
  · exact ⟨fun z => (by cases z), fun z => absurd z.2 (show ¬ (0 : Nat) = 1 by omega)⟩
  · rw [gI, if_neg (by omega), siI_at]
/-! the whole tracer -/
set_option maxHeartbeats 4000000 in
set_option linter.unusedSimpArgs false in
theorem f_39 {dp cl : Nat → Nat} (ht : 1000 < t) (h : rtO S dp) (hU : ∀ x, reC S dp x → x < 600 ∧ thU S x (cl x)) : ∃ S' co bl, F_39 G t S = some ((), S') ∧ trS S' 1 co [] ∧ agr (fun t a b => 15 ≤ t ∧ t ≤ 17 ∧ a = 0 ∧ b = 1) S S' ∧ S'.2.2 = S.2.2 ∧ bl.Nodup ∧ (∀ x, x ∈ bl ↔ reC S dp x) ∧ (∀ x, x < 600 → (co x = 2 ∧ reC S dp x) ∨ (co x = 0 ∧ ¬ reC S dp x)) ∧ S'.1 15 0 1 3 = nI bl.length ∧ S'.1 15 0 1 4 = nI (suL cl bl) := by
  obtain ⟨S1, a1, a2, a3, a4, a5, a6⟩ := f_9 (G := G) (t := t) (S := S) (j := 1) ht (by omega)
  have tc : ∀ S2 : sS, agr (fun t a b => 15 ≤ t ∧ t ≤ 17 ∧ a = 0 ∧ b = 1) S S2 → S2.2.2 = S.2.2 → rtO S2 dp ∧ ∀ x, rtC S2 dp x ↔ rtC S dp x := fun S2 ag hx => by
    have rr : ∀ p k h, rowR S2 p k h ↔ rowR S p k h := fun p k h => rowR.same (ag 29 p k (by omega)).1 (ag 31 p k (by omega)).1 h
    refine ⟨⟨h.1.of (ag 29 0 5 (by omega)).1 (ag 31 0 5 (by omega)).1 hx, fun s hs => ?_⟩, fun x => ?_⟩
    · obtain ⟨b1, b2, b3⟩ := h.2 s hs
      refine ⟨by rw [(ag 25 s 0 (by omega)).1]; exact b1, b2, fun d hd => ?_⟩
      obtain ⟨p, q1, q2, q3⟩ := b3 d hd
      exact ⟨p, by rw [hx]; exact q1, by rw [hx]; exact q2, fun k hk => (q3 k hk).of (ag 29 p k (by omega)).1 (ag 31 p k (by omega)).1 hx⟩
    · unfold rtC stA frA
      rw [hx]
      simp only [rr]
  obtain ⟨S2, co2, gl2, b1, b2, b3, b4⟩ := f_36 (G := G) (t := t) (j := 1) ht (by omega) (tc S1 a3 a4).1 a2
  have ag2 := a3.trans b4.1
  have hx2 := b4.2.1.trans a4
  have co2b : ∀ x, x < 600 → co2 x = 0 ∨ co2 x = 1 := fun x hx => by
    rcases b3.1 x hx with e | ⟨_, e, _⟩
    · exact Or.inl e
    · exact Or.inr e
  obtain ⟨S3, co3, nl, c1, c2, c3⟩ := l_38 (G := G) (t := t) (S := S) (X := reC S dp) (cl := cl) (co := co2) (a := 0) (b := 0) ht (show 1 < 3 by omega) hU (fun x g q f => q.rf f) 600 t S2 co2 gl2 [] rfl (by omega) b2 ⟨ag2, hx2, fun x hx z => (by
    rcases b3.1 x hx with e | ⟨_, _, e⟩
    · exact absurd e z
    · exact reC.rt hx (((tc S1 a3 a4).2 x).mp e)), fun x hx => ⟨fun z => z, fun z => z⟩, List.nodup_nil, fun x => ⟨fun z => (by cases z), fun z => absurd z.2.1 z.2.2⟩, fun x g z => (by cases z), by rw [b4.2.2 3 (by omega)]; exact a5, by rw [b4.2.2 4 (by omega)]; exact a6⟩
  obtain ⟨i1, i2, i3, i4, i5, i6, i7, i8, i9⟩ := c3
  have no1 : ∀ x, x < 600 → co3 x ≠ 0 → co3 x = 2 := fun x hx z => by
    have h2 := (c2.1 x hx).2
    have : co3 x ≠ 1 := fun w => by
      have := (c2.2.2.2.2 x).mpr ⟨hx, w⟩
      cases this
    omega
  have key : ∀ x, reC S dp x → x < 600 ∧ co3 x = 2 := fun x r => r (fun x => x < 600 ∧ co3 x = 2) (fun y hy rt => ⟨hy, no1 y hy ((i4 y hy).2 (b3.2 y hy (((tc S1 a3 a4).2 y).mpr rt)))⟩) (fun y g z f => by
    have hg6 : g < 600 := by obtain ⟨_, _, _, _, _, _, _, _, z⟩ := f; exact z
    refine ⟨hg6, no1 g hg6 (i7 y g ((i6 y).mpr ⟨z.1, z.2, ?_⟩) f)⟩
    have := co2b y z.1
    omega)
  refine ⟨S3, co3, nl, ?_, c2, i1, i2, i5, fun x => ?_, fun x hx => ?_, by rw [i8, Nat.zero_add], by rw [i9, Nat.zero_add]⟩
  · rw [List.length_nil] at c1
    unfold F_39
    clear h hU a2 a3 tc b2 b3 b4 ag2 c2 i1 i3 i4 i6 i7 no1 key co2b
    simp (disch := first | assumption | omega) only [gI, gI2, gL, gL1, gL2, jcLT, jcGE, jcGT, jcLE, jcEQ, jcNE, dEQ, nIt, lgNE, lgEQ, lgGE, lgLT, lgGT, lgLE, jinT, nIc, nI0, nI1, nIo, nIs, nI_add, nIm, nIn0, szl0, szl1, szl2, szl3, szl4, szl5, Nat.add_sub_assoc, Nat.add_zero, Nat.reduceSub, Nat.reduceAdd, Nat.reduceMul, Nat.reduceEqDiff,  jifT, bdS, sifN, sifS, omN, omS, cdI, x25, x26, x27, x28, x29, x30, x31, x32, xr0, xr1, xr2, xr3, xr4, xr5, if_pos, if_neg, true_and, and_true, false_and, and_false, and_self, Bool.and_true, if_true, if_false, reduceIte, cond_true, cond_false, not_true_eq_false, not_false_eq_true, F_38, a1, b1, c1]
  · rw [i6]
    constructor
    · rintro ⟨z1, z2, _⟩
      exact i3 x z1 (by omega)
    · intro r
      obtain ⟨z1, z2⟩ := key x r
      have := co2b x z1
      exact ⟨z1, z2, by omega⟩
  · by_cases c : co3 x = 0
    · refine Or.inr ⟨c, fun r => ?_⟩
      have := (key x r).2
      omega
    · exact Or.inl ⟨no1 x hx c, i3 x hx c⟩
end TR2
