/-! What is reached: the class's tracer. -/
section TRC
variable {φ : Nat → Nat} {D : Nat → Prop} {F N : Nat} {P : aP} {S S' T T' : sS} {A : aS} {r d p f pc n m e b k y : Nat} {G : jG} {t j : Nat}
/-! the strands -/
set_option maxHeartbeats 4000000 in
set_option linter.unusedSimpArgs false in
theorem l_36s {dp : Nat → Nat} (ht : 1000 < t) (hj : j < 3) : ∀ n s tt S co gl, s + n = 16 → n < tt → rtO S dp → trS S j co gl →
    ∃ S' co' gl', F_36_13 G t tt (0, j) (nI s) S = some ((), S') ∧ trS S' j co' gl' ∧ mtS co co' (stA S dp s) ∧ trC S S' j := by
  intro n
  induction n with
  | zero =>
    intro s tt S co gl h1 h2 h3 hT
    obtain ⟨u, rfl⟩ : ∃ u, tt = u + 1 := ⟨tt - 1, by omega⟩
    refine ⟨S, co, gl, ?_, hT, mtS.refl (fun x _ ⟨s', a, b, _⟩ => by omega), trC.refl _ _⟩
    rw [F_36_13]
    clear h3 hT
    simp (disch := first | assumption | omega) only [gI, gI2, gL, gL1, gL2, jcLT, jcGE, jcGT, jcLE, jcEQ, jcNE, dEQ, nIt, lgNE, lgEQ, lgGE, lgLT, lgGT, lgLE, jinT, nIc, nI0, nI1, nIo, nIs, nI_add, nIm, nIn0, szl0, szl1, szl2, szl3, szl4, szl5, Nat.add_sub_assoc, Nat.add_zero, Nat.reduceSub, Nat.reduceAdd, Nat.reduceMul, Nat.reduceEqDiff,  jifT, bdS, sifN, sifS, omN, omS, cdI, x25, x26, x27, x28, x29, x30, x31, x32, xr0, xr1, xr2, xr3, xr4, xr5, if_pos, if_neg, true_and, and_true, false_and, and_false, and_self, Bool.and_true, if_true, if_false, reduceIte, cond_true, cond_false, not_true_eq_false, not_false_eq_true]
  | succ n ih =>
    intro s tt S co gl h1 h2 h3 hT
    obtain ⟨u, rfl⟩ : ∃ u, tt = u + 1 := ⟨tt - 1, by omega⟩
    obtain ⟨g1, g2, g3⟩ := h3.2 s (by omega)
    obtain ⟨S1, co1, gl1, a1, a2, a3, a4⟩ := l_36 (G := G) (t := t) (j := j) (k13 := F_36_13 G t u) (s := s) (dp := dp s) ht hj (by omega) g2 (dp s) 0 t S co gl (by omega) (by omega) g1 g3 hT
    obtain ⟨S', co', gl', e1, e2, e3, e4⟩ := ih (s + 1) u S1 co1 gl1 (by omega) (by omega) (h3.tr a4) a2
    refine ⟨S', co', gl', ?_, e2, (a3.trans e3).iff (fun x _ => ?_), a4.trans e4⟩
    · rw [F_36_13]
      clear ih h3 hT a2 a3 a4 e2 e3 e4 g1 g3
      simp (disch := first | assumption | omega) only [gI, gI2, gL, gL1, gL2, jcLT, jcGE, jcGT, jcLE, jcEQ, jcNE, dEQ, nIt, lgNE, lgEQ, lgGE, lgLT, lgGT, lgLE, jinT, nIc, nI0, nI1, nIo, nIs, nI_add, nIm, nIn0, szl0, szl1, szl2, szl3, szl4, szl5, Nat.add_sub_assoc, Nat.add_zero, Nat.reduceSub, Nat.reduceAdd, Nat.reduceMul, Nat.reduceEqDiff,  jifT, bdS, sifN, sifS, omN, omS, cdI, x25, x26, x27, x28, x29, x30, x31, x32, xr0, xr1, xr2, xr3, xr4, xr5, if_pos, if_neg, true_and, and_true, false_and, and_false, and_self, Bool.and_true, if_true, if_false, reduceIte, cond_true, cond_false, not_true_eq_false, not_false_eq_true, a1, e1]
    · constructor
      · rintro (q | ⟨s', q1, q2, q3⟩)
        · exact ⟨s, Nat.le_refl _, by omega, q⟩
        · exact ⟨s', by omega, q2, (a4.fra _ _ _ _).mp q3⟩
      · rintro ⟨s', q1, q2, q3⟩
        by_cases c : s' = s
        · subst c
          exact Or.inl q3
        · exact Or.inr ⟨s', by omega, q2, (a4.fra _ _ _ _).mpr q3⟩
theorem trC.sta {dp : Nat → Nat} (c : trC S S' j) (s x : Nat) : stA S' dp s x ↔ stA S dp s x := ⟨fun ⟨s', a, b, q⟩ => ⟨s', a, b, (c.fra _ _ _ _).mp q⟩, fun ⟨s', a, b, q⟩ => ⟨s', a, b, (c.fra _ _ _ _).mpr q⟩⟩
set_option maxHeartbeats 4000000 in
set_option linter.unusedSimpArgs false in
theorem f_36 {dp : Nat → Nat} {co : Nat → Nat} {gl : List Nat} (ht : 1000 < t) (hj : j < 3) (h : rtO S dp) (hT : trS S j co gl) : ∃ S' co' gl', F_36 G t (0, j) S = some ((), S') ∧ trS S' j co' gl' ∧ mtS co co' (rtC S dp) ∧ trC S S' j := by
  obtain ⟨S1, co1, gl1, a1, a2, a3, a4⟩ := f_35s (G := G) (t := t) ht hj h.1 hT
  rw [show srl 5 = 16 from rfl] at a1
  obtain ⟨S', co', gl', e1, e2, e3, e4⟩ := l_36s (G := G) (t := t) ht hj 16 0 t S1 co1 gl1 (by omega) (by omega) (h.tr a4) a2
  refine ⟨S', co', gl', ?_, e2, (a3.trans e3).iff (fun x _ => ?_), a4.trans e4⟩
  · have q15 : sex S.2.2.2.1 15 0 j = true := x15 hj
    unfold F_36
    clear h hT a2 a3 a4 e2 e3 e4
    simp (disch := first | assumption | omega) only [gI, gI2, gL, gL1, gL2, jcLT, jcGE, jcGT, jcLE, jcEQ, jcNE, dEQ, nIt, lgNE, lgEQ, lgGE, lgLT, lgGT, lgLE, jinT, nIc, nI0, nI1, nIo, nIs, nI_add, nIm, nIn0, szl0, szl1, szl2, szl3, szl4, szl5, Nat.add_sub_assoc, Nat.add_zero, Nat.reduceSub, Nat.reduceAdd, Nat.reduceMul, Nat.reduceEqDiff,  jifT, bdS, sifN, sifS, omN, omS, cdI, x25, x26, x27, x28, x29, x30, x31, x32, xr0, xr1, xr2, xr3, xr4, xr5, if_pos, if_neg, true_and, and_true, false_and, and_false, and_self, Bool.and_true, if_true, if_false, reduceIte, cond_true, cond_false, not_true_eq_false, not_false_eq_true, q15, a1, e1]
  · exact ⟨fun q => q.imp id (a4.sta _ _).mp, fun q => q.imp id (a4.sta _ _).mpr⟩
/-! a thing that is used -/
def thU (S : sS) (h c : Nat) : Prop := ∃ p k, S.2.2.1.2 h = some p ∧ S.2.2.2.1.2 p = true ∧ S.1 32 p 0 1 = nI k ∧ (k = 2 ∨ k = 3) ∧ S.1 32 p 0 3 = nI c ∧ c ≤ 18 ∧ tgR S p 4
theorem thU.of {h c : Nat} (u : thU S h c) (a : agr (fun t a b => 15 ≤ t ∧ t ≤ 17 ∧ a = 0 ∧ b = j) S S') (hX : S'.2.2 = S.2.2) : thU S' h c := by
  obtain ⟨p, k, a1, a2, a3, a4, a5, a6, a7⟩ := u
  exact ⟨p, k, by rw [hX]; exact a1, by rw [hX]; exact a2, by rw [(a 32 p 0 (by omega)).1]; exact a3, a4, by rw [(a 32 p 0 (by omega)).1]; exact a5, a6, a7.of (a 29 p 4 (by omega)).1 (a 31 p 4 (by omega)).1 hX⟩
theorem rfC.of (a : agr (fun t a b => 15 ≤ t ∧ t ≤ 17 ∧ a = 0 ∧ b = j) S S') (hX : S'.2.2 = S.2.2) (h x : Nat) : rfC S' h x ↔ rfC S h x := by
  unfold rfC
  rw [hX]
  constructor
  · rintro ⟨p, w, i, q1, q2, q3, q4, q5, q6⟩
    rw [(a 29 p 4 (by omega)).1] at q2
    rw [(a 31 p 4 (by omega)).1] at q5
    exact ⟨p, w, i, q1, q2, q3, q4, q5, q6⟩
  · rintro ⟨p, w, i, q1, q2, q3, q4, q5, q6⟩
    exact ⟨p, w, i, q1, by rw [(a 29 p 4 (by omega)).1]; exact q2, q3, q4, by rw [(a 31 p 4 (by omega)).1]; exact q5, q6⟩
theorem trS.pop {co : Nat → Nat} {gl : List Nat} {x : Nat} (h : trS S j co (gl ++ [x])) : x < 600 ∧ co x = 1 ∧ S.1 15 0 j 2 = nI (gl.length + 1) ∧ S.1 17 0 j gl.length = nI x ∧ gl.length < 600 ∧ ∀ v3 v4, trS (siI (siI (siI (siI S 15 0 j 2 (nI gl.length)) 16 0 j x (nI 2)) 15 0 j 3 v3) 15 0 j 4 v4) j (va_up co x 2) gl := by
  obtain ⟨h1, h2, h3, h4, h5⟩ := h
  have hx := (h5 x).mp (List.mem_append.mpr (Or.inr (List.mem_singleton.mpr rfl)))
  obtain ⟨n1, _, n3⟩ := List.nodup_append.mp h4
  have hl := nd_len 600 (gl ++ [x]) h4 (fun y hy => ((h5 y).mp hy).1)
  rw [List.length_append] at hl h2
  have e1 : [x].length = 1 := rfl
  rw [e1] at hl h2
  have hxn : x ∉ gl := fun z => n3 x z x (List.mem_singleton.mpr rfl) rfl
  refine ⟨hx.1, hx.2, h2, h3 gl.length x (by rw [List.getElem?_append_right (Nat.le_refl _), Nat.sub_self]; rfl), by omega, fun v3 v4 => ⟨fun y hy => ?_, ?_, fun i y hy => ?_, n1, fun y => ?_⟩⟩
  · have := h1 y hy
    rw [siI_ne _ _ _ (by omega), siI_ne _ _ _ (by omega), gI]
    by_cases c : y = x
    · subst c
      rw [va_up_self, if_pos ⟨rfl, rfl, rfl, rfl⟩]
      exact ⟨rfl, by omega⟩
    · rw [va_up_ne _ _ c, if_neg (by omega), siI_ne _ _ _ (by omega)]
      exact this
  · rw [gI, if_neg (by omega), gI, if_neg (by omega), siI_ne _ _ _ (by omega), siI_at]
  · rw [siI_ne _ _ _ (by omega), siI_ne _ _ _ (by omega), siI_ne _ _ _ (by omega), siI_ne _ _ _ (by omega)]
    have : i < gl.length := by
      obtain ⟨q, _⟩ := List.getElem?_eq_some_iff.mp hy
      exact q
    exact h3 i y (by rw [List.getElem?_append_left this]; exact hy)
  · by_cases c : y = x
    · subst c
      rw [va_up_self]
      exact ⟨fun z => absurd z hxn, fun z => by omega⟩
    · rw [va_up_ne _ _ c]
      have := h5 y
      rw [List.mem_append, List.mem_singleton] at this
      exact ⟨fun z => this.mp (Or.inl z), fun z => (this.mpr z).elim id (fun w => absurd w c)⟩
set_option maxHeartbeats 4000000 in
set_option linter.unusedSimpArgs false in
theorem e37 {x p1 kd c a b L : Nat} (hj : j < 3) (hx : x < 600) (hL : L < 600) (h2 : S.1 15 0 j 2 = nI (L + 1)) (h17 : S.1 17 0 j L = nI x) (hp : S.2.2.1.2 x = some p1) (hM : S.2.2.2.1.2 p1 = true) (hk : S.1 32 p1 0 1 = nI kd) (hk2 : kd = 2 ∨ kd = 3) (hc : S.1 32 p1 0 3 = nI c) (h3 : S.1 15 0 j 3 = nI a) (h4 : S.1 15 0 j 4 = nI b) {S' : sS} (e : F_35 G t (0, j) (p1, 4) (nI 0) (nI 16) (siI (siI (siI (siI S 15 0 j 2 (nI L)) 16 0 j x (nI 2)) 15 0 j 3 (nI (a + 1))) 15 0 j 4 (nI (b + c))) = some ((), S')) : F_37 G t (0, j) S = some (nI 1, S') := by
  have q15 : sex S.2.2.2.1 15 0 j = true := x15 hj
  have q16 : sex S.2.2.2.1 16 0 j = true := x16 hj
  have q17 : sex S.2.2.2.1 17 0 j = true := x17 hj
  unfold F_37
  simp (disch := first | assumption | omega) only [gI, gI2, gL, gL1, gL2, jcLT, jcGE, jcGT, jcLE, jcEQ, jcNE, dEQ, nIt, lgNE, lgEQ, lgGE, lgLT, lgGT, lgLE, jinT, nIc, nI0, nI1, nIo, nIs, nI_add, nIm, nIn0, szl0, szl1, szl2, szl3, szl4, szl5, Nat.add_sub_assoc, Nat.add_zero, Nat.reduceSub, Nat.reduceAdd, Nat.reduceMul, Nat.reduceEqDiff,  jifT, bdS, sifN, sifS, omN, omS, cdI, x25, x26, x27, x28, x29, x30, x31, x32, xr0, xr1, xr2, xr3, xr4, xr5, if_pos, if_neg, true_and, and_true, false_and, and_false, and_self, Bool.and_true, if_true, if_false, reduceIte, cond_true, cond_false, not_true_eq_false, not_false_eq_true, q15, q16, q17, h2, h17, hp, hM, hk, hc, h3, h4, Option.map_some, e]
set_option maxHeartbeats 4000000 in
set_option linter.unusedSimpArgs false in
theorem e37n (hj : j < 3) (h2 : S.1 15 0 j 2 = nI 0) : F_37 G t (0, j) S = some (nI 0, S) := by
  have q15 : sex S.2.2.2.1 15 0 j = true := x15 hj
  unfold F_37
  simp (disch := first | assumption | omega) only [gI, gI2, gL, gL1, gL2, jcLT, jcGE, jcGT, jcLE, jcEQ, jcNE, dEQ, nIt, lgNE, lgEQ, lgGE, lgLT, lgGT, lgLE, jinT, nIc, nI0, nI1, nIo, nIs, nI_add, nIm, nIn0, szl0, szl1, szl2, szl3, szl4, szl5, Nat.add_sub_assoc, Nat.add_zero, Nat.reduceSub, Nat.reduceAdd, Nat.reduceMul, Nat.reduceEqDiff,  jifT, bdS, sifN, sifS, omN, omS, cdI, x25, x26, x27, x28, x29, x30, x31, x32, xr0, xr1, xr2, xr3, xr4, xr5, if_pos, if_neg, true_and, and_true, false_and, and_false, and_self, Bool.and_true, if_true, if_false, reduceIte, cond_true, cond_false, not_true_eq_false, not_false_eq_true, q15, h2]
theorem f_37 {co : Nat → Nat} {gl : List Nat} {x c a b : Nat} (ht : 1000 < t) (hj : j < 3) (hT : trS S j co (gl ++ [x])) (hu : thU S x c) (h3 : S.1 15 0 j 3 = nI a) (h4 : S.1 15 0 j 4 = nI b) : ∃ S' co' gl', F_37 G t (0, j) S = some (nI 1, S') ∧ trS S' j co' gl' ∧ mtS (va_up co x 2) co' (rfC S x) ∧ agr (fun t a b => 15 ≤ t ∧ t ≤ 17 ∧ a = 0 ∧ b = j) S S' ∧ S'.2.2 = S.2.2 ∧ S'.1 15 0 j 3 = nI (a + 1) ∧ S'.1 15 0 j 4 = nI (b + c) := by
  obtain ⟨p1, kd, u1, u2, u3, u4, u5, u6, u7⟩ := hu
  obtain ⟨q1, q2, q3, q4, q5, q6⟩ := hT.pop
  have q6 := q6 (nI (a + 1)) (nI (b + c))
  have ag : agr (fun t a b => 15 ≤ t ∧ t ≤ 17 ∧ a = 0 ∧ b = j) S (siI (siI (siI (siI S 15 0 j 2 (nI gl.length)) 16 0 j x (nI 2)) 15 0 j 3 (nI (a + 1))) 15 0 j 4 (nI (b + c))) := agr.i (agr.i (agr.i (agr.i (agr.refl _ _) _ _ (by omega)) _ _ (by omega)) _ _ (by omega)) _ _ (by omega)
  obtain ⟨S', co', gl', e1, e2, e3, e4⟩ := f_35s (G := G) (t := t) (p := p1) (k := 4) ht hj (u7.of (ag 29 p1 4 (by omega)).1 (ag 31 p1 4 (by omega)).1 rfl) q6
  rw [show srl 4 = 16 from rfl] at e1
  refine ⟨S', co', gl', e37 hj q1 q5 q3 q4 u1 u2 u3 u4 u5 h3 h4 e1, e2, e3.iff (fun y hy => ?_), ag.trans e4.1, e4.2.1, ?_, ?_⟩
  · rw [rowR.same (ag 29 p1 4 (by omega)).1 (ag 31 p1 4 (by omega)).1]
    constructor
    · rintro ⟨w, i, r1, r2, r3, r4⟩
      exact ⟨p1, w, i, u1, r1, r2, r3, r4, hy⟩
    · rintro ⟨p', w, i, r0, r1, r2, r3, r4, _⟩
      rw [u1] at r0
      cases r0
      exact ⟨w, i, r1, r2, r3, r4⟩
  · rw [e4.2.2 3 (by omega), gI, if_neg (by omega), siI_at]
  · rw [e4.2.2 4 (by omega), siI_at]
end TRC
