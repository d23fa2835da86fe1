/-! What an object loses, what it gets: the collector's invariant. -/
section LOS
variable {D : Nat → Prop} {S S1 S2 : sS} {G : jG} {t : Nat}
/-! some more are met: colours alone change -/
theorem gcR.met (g : gcR D S) {co1 : Nat → Nat} {gl1 : List Nat} (hT : trS S1 0 co1 gl1) (h1 : S.1 11 0 0 11 = nI 1)
    (aS : agr (fun t a b => 15 ≤ t ∧ t ≤ 17 ∧ a = 0 ∧ b = 0) S S1) (hX : S1.2.2 = S.2.2)
    (hm : ∀ co gl, trS S 0 co gl → (∀ h, h < 600 → co1 h = co h ∨ (co h = 0 ∧ co1 h = 1 ∧ ∃ x, D x ∧ rfC S x h)) ∨ (∀ h, h < 600 → co1 h = co h ∨ (co h = 0 ∧ co1 h = 1 ∧ D h))) : gcR D S1 := by
  obtain ⟨kd, cl, co, fl, gl, ro, sw, g1, g2, g3, g4, g5, g6, g7⟩ := g
  have hro : ro = 1 := by
    have := g5.1
    rw [h1] at this
    rcases g7 with z | z | z
    · rw [z.1] at this
      have := (nI_eq (by omega) (by omega)).mp this
      omega
    · exact z.1
    · rw [z.1] at this
      have := (nI_eq (by omega) (by omega)).mp this
      omega
  subst hro
  have e11 := (aS 11 0 0 (by omega)).1
  have e13 := (aS 13 0 0 (by omega)).1
  have hk1 : ∀ h k c, thC S h k c → thC S1 h k c := fun h k c o => by
    rcases o with ⟨a1, a2⟩ | ⟨p, hp, r⟩
    · exact Or.inl ⟨by rw [hX]; exact a1, a2⟩
    · refine Or.inr ⟨p, by rw [hX]; exact hp, ?_⟩
      rw [hX, (aS 32 p 0 (by omega)).1, (aS 29 p 4 (by omega)).1, (aS 31 p 4 (by omega)).1]
      exact r
  have rr : ∀ h x, rfC S1 h x ↔ rfC S h x := fun h x => by
    constructor
    · intro ⟨p, w, i, hp, r⟩
      rw [hX] at hp
      rw [(aS 29 p 4 (by omega)).1, (aS 31 p 4 (by omega)).1] at r
      exact ⟨p, w, i, hp, r⟩
    · intro ⟨p, w, i, hp, r⟩
      refine ⟨p, w, i, by rw [hX]; exact hp, ?_⟩
      rw [(aS 29 p 4 (by omega)).1, (aS 31 p 4 (by omega)).1]
      exact r
  rcases g7 with z | ⟨_, E, z1, z2, z3, z4, z5⟩ | z
  · omega
  · have hm1 : ∀ h, h < 600 → co1 h = co h ∨ (co h = 0 ∧ co1 h = 1 ∧ E h) := by
      rcases hm co gl g6 with hm | hm
      · intro h hh
        rcases hm h hh with y | ⟨y1, y2, x, y3, y4⟩
        · exact Or.inl y
        · exact Or.inr ⟨y1, y2, z3 x h (z1 x y3) y4⟩
      · intro h hh
        rcases hm h hh with y | ⟨y1, y2, y3⟩
        · exact Or.inl y
        · exact Or.inr ⟨y1, y2, z1 h y3⟩
    refine ⟨kd, cl, co1, fl, gl1, 1, sw, fun h hh => hk1 h _ _ (g1 h hh), by rw [e11, e13]; exact g2, by rw [e11]; exact g3, g4, by rw [e11]; exact g5, hT, Or.inr (Or.inl ⟨rfl, E, z1, z2, fun h x q w => z3 h x q ((rr h x).mp w), fun h hh q => ?_, fun h q => ?_⟩)⟩
    · rcases hm1 h hh with y | y
      · exact z4 h hh (by rw [← y]; exact q)
      · exact y.2.2
    · have hh := (z2 h q).1
      rcases z5 h q with y | y
      · left
        rcases hm1 h hh with w | w
        · rw [w]; exact y
        · omega
      · right
        intro X x1 x2
        refine y X (fun a ha hc => ?_) (fun a x hX hr hx hc => ?_)
        · rcases hm1 a ha with w | w
          · exact x1 a ha (by rw [w]; exact hc)
          · exact x1 a ha w.2.1
        · rcases hm1 x hx with w | w
          · exact x2 a x hX ((rr a x).mpr hr) hx (by rw [w]; exact hc)
          · exact x1 x hx w.2.1
  · omega
/-! an object's row of values changes -/
theorem gcR.row (g : gcR D S1) {h0 p1 : Nat} (hD : D h0) (hp : S1.2.2.1.2 h0 = some p1) (ow : ∀ h h' p, S1.2.2.1.2 h = some p → S1.2.2.1.2 h' = some p → h = h') (h11 : ∀ t i j, 11 ≤ t → t ≤ 17 → S2.1 t i j = S1.1 t i j) (h32 : ∀ p, S2.1 32 p 0 = S1.1 32 p 0) (hrow : ∀ p, p ≠ p1 → S2.1 29 p 4 = S1.1 29 p 4 ∧ S2.1 31 p 4 = S1.1 31 p 4) (hX : S2.2.2 = S1.2.2)
    {w' : Nat} (hw : S2.1 29 p1 4 2 = nI w') (hw2 : w' ≤ 16) (htg : ∀ i, i < w' → ∃ g, S2.1 31 p1 4 i = nI g ∧ g < 602) (hn : ∀ x, rfC S2 h0 x → rfC S1 h0 x ∨ D x) (hl : S1.1 11 0 0 11 = nI 1 → ∀ x, rfC S1 h0 x → x < 600 → S1.1 16 0 0 x = nI 0 → rfC S2 h0 x) : gcR D S2 := by
  have rr : ∀ h x, h ≠ h0 → (rfC S2 h x ↔ rfC S1 h x) := fun h x hne => by
    constructor
    · intro ⟨p, w, i, hp', r⟩
      rw [hX] at hp'
      have hpp : p ≠ p1 := fun z => hne (ow h h0 p hp' (z ▸ hp))
      rw [(hrow p hpp).1, (hrow p hpp).2] at r
      exact ⟨p, w, i, hp', r⟩
    · intro ⟨p, w, i, hp', r⟩
      have hpp : p ≠ p1 := fun z => hne (ow h h0 p hp' (z ▸ hp))
      refine ⟨p, w, i, by rw [hX]; exact hp', ?_⟩
      rw [(hrow p hpp).1, (hrow p hpp).2]
      exact r
  obtain ⟨kd, cl, co, fl, gl, ro, sw, g1, g2, g3, g4, g5, g6, g7⟩ := g
  have e11 := h11 11 0 0 (by omega) (by omega)
  have e13 := h11 13 0 0 (by omega) (by omega)
  have e15 := h11 15 0 0 (by omega) (by omega)
  have e16 := h11 16 0 0 (by omega) (by omega)
  have e17 := h11 17 0 0 (by omega) (by omega)
  refine ⟨kd, cl, co, fl, gl, ro, sw, fun h hh => ?_, by rw [e11, e13]; exact g2, by rw [e11]; exact g3, g4, by rw [e11]; exact g5, by rw [e15, e16, e17]; exact g6, ?_⟩
  · rcases g1 h hh with ⟨a1, a2⟩ | ⟨p, hp', a2, a3, a4, a5⟩
    · exact Or.inl ⟨by rw [hX]; exact a1, a2⟩
    · refine Or.inr ⟨p, by rw [hX]; exact hp', by rw [hX]; exact a2, by rw [h32]; exact a3, a4, fun z => ?_⟩
      obtain ⟨w, b1, b2, b3, b4, b5, b6⟩ := a5 z
      by_cases c : p = p1
      · subst c
        exact ⟨w', hw, hw2, by rw [h32]; exact b3, b4, b5, htg⟩
      · exact ⟨w, by rw [(hrow p c).1]; exact b1, b2, by rw [h32]; exact b3, b4, b5, by rw [(hrow p c).2]; exact b6⟩
  · rcases g7 with z | ⟨z, E, z1, z2, z3, z4, z5⟩ | z
    · exact Or.inl z
    · subst z
      refine Or.inr (Or.inl ⟨rfl, E, z1, z2, fun h x q w => ?_, z4, fun h q => ?_⟩)
      · by_cases c : h = h0
        · subst c
          rcases hn x w with y | y
          · exact z3 h x q y
          · exact z1 x y
        · exact z3 h x q ((rr h x c).mp w)
      · rcases z5 h q with y | y
        · exact Or.inl y
        · right
          intro X x1 x2
          refine y X x1 (fun a x hX' hr hx hc => ?_)
          by_cases c : a = h0
          · subst c
            exact x2 a x hX' (hl g5.1 x hr hx (by rw [(g6.1 x hx).1, hc])) hx hc
          · exact x2 a x hX' ((rr a x c).mpr hr) hx hc
    · exact Or.inr (Or.inr z)
/-! loses -/
set_option maxHeartbeats 4000000 in
set_option linter.unusedSimpArgs false in
theorem f_96 {h0 p1 w i : Nat} (ht : 1000 < t) (g : gcR D S) (hD : D h0) (hp : S.2.2.1.2 h0 = some p1) (hM : S.2.2.2.1.2 p1 = true) (hw : S.1 29 p1 4 2 = nI w) (hw2 : w ≤ 16) (hi : i < w) (htg : ∀ q, q < w → ∃ g, S.1 31 p1 4 q = nI g ∧ g < 602) :
    ∃ S1, F_96 G t (p1, 4) (nI i) S = some ((), S1) ∧ gcR D S1 ∧ agr (fun t a b => 15 ≤ t ∧ t ≤ 17 ∧ a = 0 ∧ b = 0) S S1 ∧ S1.2.2 = S.2.2 ∧ (S1.1 11 0 0 11 = nI 1 → ∀ x, x < 600 → S.1 31 p1 4 i = nI (x + 2) → S1.1 16 0 0 x ≠ nI 0) := by
  have g' := g
  obtain ⟨kd, cl, co, fl, gl, ro, sw, g1, g2, g3, g4, g5, g6, g7⟩ := g'
  have hro : ro ≤ 2 := by rcases g7 with z | z | z <;> omega
  by_cases c : ro = 1
  · subst c
    obtain ⟨tg, htg'⟩ : ∃ tg : Nat → Nat, ∀ q, q < w → S.1 31 p1 4 q = nI (tg q) ∧ tg q < 602 := ⟨fun q => (S.1 31 p1 4 q).toNatClampNeg, fun q hq => by
      obtain ⟨g, h1, h2⟩ := htg q hq
      show S.1 31 p1 4 q = nI ((S.1 31 p1 4 q).toNatClampNeg) ∧ (S.1 31 p1 4 q).toNatClampNeg < 602
      rw [h1, nI_clamp (by omega)]
      exact ⟨rfl, h2⟩⟩
    obtain ⟨S1, co1, gl1, r1, r2, ⟨r3, r4⟩, r5, r6, r7⟩ := f_35 (G := G) (t := t) (j := 0) (p := p1) (k := 4) (tg := tg) (a := i) (till := i + 1) (sz := w) ht (by omega) ⟨xr4 hM, hw, hw2⟩ htg' g6 (by omega) (by omega) (by omega)
    have ee : (if i + 1 < w then i + 1 else w) = i + 1 := by split <;> omega
    rw [ee] at r3 r4
    refine ⟨S1, ?_, g.met r2 g5.1 r5 r6 (fun co2 gl2 h2 => Or.inl (fun h hh => ?_)), r5, r6, fun _ x hx e => ?_⟩
    · unfold F_96
      have g51 := g5.1
      clear g g1 g2 g3 g4 g5 g6 g7 r2 r3 r4 r5 r6 r7
      simp (disch := first | assumption | omega) only [gI, gI2, gL, gL1, gL2, jcLT, jcGE, jcGT, jcLE, jcEQ, jcNE, dEQ, nIt, lgNE, lgEQ, lgGE, lgLT, lgGT, lgLE, jinT, nIc, nI0, nI1, nIo, nIs, nI_add, nIm, nIn0, szl0, szl1, szl2, szl3, szl4, szl5, Nat.add_sub_assoc, Nat.add_zero, Nat.reduceSub, Nat.reduceAdd, Nat.reduceMul, Nat.reduceEqDiff,  jifT, bdS, sifN, sifS, omN, omS, cdI, x25, x26, x27, x28, x29, x30, x31, x32, xr0, xr1, xr2, xr3, xr4, xr5, if_pos, if_neg, true_and, and_true, false_and, and_false, and_self, Bool.and_true, if_true, if_false, reduceIte, cond_true, cond_false, not_true_eq_false, not_false_eq_true, g51, r1]
    · have ec : co2 h = co h := (nI_eq (by have := (h2.1 h hh).2; omega) (by have := (g6.1 h hh).2; omega)).mp ((h2.1 h hh).1.symm.trans (g6.1 h hh).1)
      rw [ec]
      rcases r3 h hh with y | ⟨y1, y2, q, y3, y4, y5⟩
      · exact Or.inl y
      · refine Or.inr ⟨y1, y2, h0, hD, p1, w, q, hp, hw, hw2, by omega, ?_, hh⟩
        rw [(htg' q (by omega)).1, y5]
    · have e2 := (htg' i hi).1
      rw [e] at e2
      have e3 := (nI_eq (by omega) (by have := (htg' i hi).2; omega)).mp e2
      have e4 := r4 i (by omega) (by omega) x hx e3.symm
      rw [(r2.1 x hx).1]
      exact fun z => e4 ((nI_eq (by have := (r2.1 x hx).2; omega) (by omega)).mp z)
  · refine ⟨S, ?_, g, agr.refl _ _, rfl, fun z => ?_⟩
    · unfold F_96
      have g51 := g5.1
      clear g g1 g2 g3 g4 g5 g6 g7
      simp (disch := first | assumption | omega) only [gI, gI2, gL, gL1, gL2, jcLT, jcGE, jcGT, jcLE, jcEQ, jcNE, dEQ, nIt, lgNE, lgEQ, lgGE, lgLT, lgGT, lgLE, jinT, nIc, nI0, nI1, nIo, nIs, nI_add, nIm, nIn0, szl0, szl1, szl2, szl3, szl4, szl5, Nat.add_sub_assoc, Nat.add_zero, Nat.reduceSub, Nat.reduceAdd, Nat.reduceMul, Nat.reduceEqDiff,  jifT, bdS, sifN, sifS, omN, omS, cdI, x25, x26, x27, x28, x29, x30, x31, x32, xr0, xr1, xr2, xr3, xr4, xr5, if_pos, if_neg, true_and, and_true, false_and, and_false, and_self, Bool.and_true, if_true, if_false, reduceIte, cond_true, cond_false, not_true_eq_false, not_false_eq_true, g51]
    · have := g5.1
      rw [z] at this
      have := (nI_eq (by omega) (by omega)).mp this
      omega
end LOS
