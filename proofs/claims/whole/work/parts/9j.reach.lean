/-! What is reached: roots and references. -/
/-! object h stands in a row -/
def rowR (S : sS) (p k h : Nat) : Prop := ∃ n i, S.1 29 p k 2 = nI n ∧ n ≤ 16 ∧ i < n ∧ S.1 31 p k i = nI (h + 2)
/-! object h stands in a frame of strand s from depth d on -/
def frA (S : sS) (s d dp h : Nat) : Prop := ∃ d' p k, d ≤ d' ∧ d' < dp ∧ S.2.2.1.1 s d' = some p ∧ k < 4 ∧ rowR S p k h
def stA (S : sS) (dp : Nat → Nat) (s h : Nat) : Prop := ∃ s', s ≤ s' ∧ s' < 16 ∧ frA S s' 0 (dp s') h
def rtC (S : sS) (dp : Nat → Nat) (h : Nat) : Prop := rowR S 0 5 h ∨ stA S dp 0 h
def reC (S : sS) (dp : Nat → Nat) (x : Nat) : Prop := ∀ X : Nat → Prop, (∀ h, h < 600 → rtC S dp h → X h) → (∀ h g, X h → rfC S h g → X g) → X x
theorem reC.rt {S : sS} {dp : Nat → Nat} {h : Nat} (h6 : h < 600) (r : rtC S dp h) : reC S dp h := fun X a b => a h h6 r
theorem reC.rf {S : sS} {dp : Nat → Nat} {h g : Nat} (r : reC S dp h) (f : rfC S h g) : reC S dp g := fun X a b => b h g (r X a b) f
theorem rowR.same {S S' : sS} {p k : Nat} (h29 : S'.1 29 p k = S.1 29 p k) (h31 : S'.1 31 p k = S.1 31 p k) (h : Nat) : rowR S' p k h ↔ rowR S p k h := by
  unfold rowR
  rw [h29, h31]
/-! what was met -/
def mtS (co co' : Nat → Nat) (R : Nat → Prop) : Prop := (∀ h, h < 600 → co' h = co h ∨ (co h = 0 ∧ co' h = 1 ∧ R h)) ∧ ∀ h, h < 600 → R h → co' h ≠ 0
theorem mtS.refl {co : Nat → Nat} {R : Nat → Prop} (h : ∀ x, x < 600 → ¬ R x) : mtS co co R := ⟨fun _ _ => Or.inl rfl, fun x hx r => absurd r (h x hx)⟩
theorem mtS.trans {co co' co'' : Nat → Nat} {R R' : Nat → Prop} (h : mtS co co' R) (h' : mtS co' co'' R') : mtS co co'' (fun x => R x ∨ R' x) := by
  obtain ⟨a1, a2⟩ := h
  obtain ⟨b1, b2⟩ := h'
  refine ⟨fun x hx => ?_, fun x hx r => ?_⟩
  · rcases b1 x hx with e | ⟨e1, e2, e3⟩
    · rcases a1 x hx with f | ⟨f1, f2, f3⟩
      · exact Or.inl (e.trans f)
      · exact Or.inr ⟨f1, e.trans f2, Or.inl f3⟩
    · rcases a1 x hx with f | ⟨f1, f2, f3⟩
      · exact Or.inr ⟨f.symm.trans e1, e2, Or.inr e3⟩
      · omega
  · rcases r with r | r
    · have := a2 x hx r
      rcases b1 x hx with e | ⟨e1, e2, e3⟩
      · rw [e]; exact this
      · omega
    · exact b2 x hx r
theorem mtS.iff {co co' : Nat → Nat} {R R' : Nat → Prop} (h : mtS co co' R) (e : ∀ x, x < 600 → (R x ↔ R' x)) : mtS co co' R' := ⟨fun x hx => (h.1 x hx).imp id (fun ⟨a, b, c⟩ => ⟨a, b, (e x hx).mp c⟩), fun x hx r => h.2 x hx ((e x hx).mpr r)⟩
/-! only tracer j has changed -/
def trC (S S' : sS) (j : Nat) : Prop := agr (fun t a b => 15 ≤ t ∧ t ≤ 17 ∧ a = 0 ∧ b = j) S S' ∧ S'.2.2 = S.2.2 ∧ ∀ q, q ≠ 2 → S'.1 15 0 j q = S.1 15 0 j q
theorem trC.refl (S : sS) (j : Nat) : trC S S j := ⟨agr.refl _ _, rfl, fun _ _ => rfl⟩
theorem trC.trans {S S' S'' : sS} {j : Nat} (h : trC S S' j) (h' : trC S' S'' j) : trC S S'' j := ⟨h.1.trans h'.1, h'.2.1.trans h.2.1, fun q hq => (h'.2.2 q hq).trans (h.2.2 q hq)⟩
theorem trC.row {S S' : sS} {j : Nat} (c : trC S S' j) (p k h : Nat) : rowR S' p k h ↔ rowR S p k h := rowR.same (c.1 29 p k (by omega)).1 (c.1 31 p k (by omega)).1 h
/-! the tags of a row -/
def tgR (S : sS) (p k : Nat) : Prop := ∃ n, rwS S p k n ∧ ∀ i, i < n → ∃ g, S.1 31 p k i = nI g ∧ g < 602
theorem tgR.of {S S' : sS} {p k : Nat} (h : tgR S p k) (h29 : S'.1 29 p k = S.1 29 p k) (h31 : S'.1 31 p k = S.1 31 p k) (hx : S'.2.2 = S.2.2) : tgR S' p k := by
  obtain ⟨n, ⟨a, b, c⟩, d⟩ := h
  refine ⟨n, ⟨by rw [hx]; exact a, by rw [h29]; exact b, c⟩, ?_⟩
  rw [h31]
  exact d
theorem tgR.tr {S S' : sS} {j p k : Nat} (h : tgR S p k) (c : trC S S' j) : tgR S' p k := h.of (c.1 29 p k (by omega)).1 (c.1 31 p k (by omega)).1 c.2.1
section RCH
variable {φ : Nat → Nat} {D : Nat → Prop} {F N : Nat} {P : aP} {S S' T T' : sS} {A : aS} {r d p f pc n m e b k y : Nat} {G : jG} {t j : Nat}
set_option maxHeartbeats 4000000 in
set_option linter.unusedSimpArgs false in
theorem f_35s {co : Nat → Nat} {gl : List Nat} (ht : 1000 < t) (hj : j < 3) (hr : tgR S p k) (hT : trS S j co gl) : ∃ S' co' gl', F_35 G t (0, j) (p, k) (nI 0) (nI (srl k)) S = some ((), S') ∧ trS S' j co' gl' ∧ mtS co co' (rowR S p k) ∧ trC S S' j := by
  obtain ⟨sz, rw1, htg⟩ := hr
  have hsz := rw1.2.2
  have hb := srl_le k
  obtain ⟨S', co', gl', r1, r2, ⟨r3, r4⟩, r5⟩ := f_35 (G := G) (t := t) (j := j) (p := p) (k := k) (tg := fun i => (S.1 31 p k i).toNatClampNeg) (a := 0) (till := srl k) (sz := sz) ht hj rw1 (fun q hq => by
    obtain ⟨g, g1, g2⟩ := htg q hq
    rw [g1, nI_clamp (by omega)]
    exact ⟨rfl, g2⟩) hT (Nat.zero_le _) (Nat.zero_le _) hb
  rw [if_neg (by omega)] at r3 r4
  refine ⟨S', co', gl', r1, r2, ⟨fun h hh => ?_, fun h hh r => ?_⟩, r5⟩
  · rcases r3 h hh with e | ⟨e1, e2, i, _, e3, e4⟩
    · exact Or.inl e
    · refine Or.inr ⟨e1, e2, sz, i, rw1.2.1, by omega, e3, ?_⟩
      obtain ⟨g, g1, g2⟩ := htg i e3
      dsimp only at e4
      rw [g1, nI_clamp (by omega)] at e4
      rw [g1, e4]
  · obtain ⟨n, i, q1, q2, q3, q4⟩ := r
    rw [rw1.2.1] at q1
    have := (nI_eq (by omega) (by omega)).mp q1
    refine r4 i (Nat.zero_le _) (by omega) h hh ?_
    dsimp only
    rw [q4, nI_clamp (by omega)]
/-! the frames of one strand -/
set_option maxHeartbeats 4000000 in
set_option linter.unusedSimpArgs false in
theorem l_36 {k13 : (Nat × Nat) → Int32 → sS → Option (Unit × sS)} {s dp : Nat} (ht : 1000 < t) (hj : j < 3) (hs : s < 16) (hdp : dp ≤ 30) : ∀ n d tt S co gl, d + n = dp → n < tt → S.1 25 s 0 3 = nI dp → (∀ d, d < dp → ∃ p, S.2.2.1.1 s d = some p ∧ S.2.2.2.1.1 p = true ∧ ∀ k, k < 4 → tgR S p k) → trS S j co gl →
    ∃ S' co' gl', F_36_29 G t k13 tt (0, j) (nI s) (s, 0) (nI d) S = k13 (0, j) (nI (s + 1)) S' ∧ trS S' j co' gl' ∧ mtS co co' (frA S s d dp) ∧ trC S S' j := by
  intro n
  induction n with
  | zero =>
    intro d tt S co gl h1 h2 h3 h4 hT
    obtain ⟨u, rfl⟩ : ∃ u, tt = u + 1 := ⟨tt - 1, by omega⟩
    refine ⟨S, co, gl, ?_, hT, mtS.refl (fun x _ ⟨d', _, _, a, b, _⟩ => by omega), trC.refl _ _⟩
    rw [F_36_29]
    clear h4 hT
    simp (disch := first | assumption | omega) only [gI, gI2, gL, gL1, gL2, jcLT, jcGE, jcGT, jcLE, jcEQ, jcNE, dEQ, nIt, lgNE, lgEQ, lgGE, lgLT, lgGT, lgLE, jinT, nIc, nI0, nI1, nIo, nIs, nI_add, nIm, nIn0, szl0, szl1, szl2, szl3, szl4, szl5, Nat.add_sub_assoc, Nat.add_zero, Nat.reduceSub, Nat.reduceAdd, Nat.reduceMul, Nat.reduceEqDiff,  jifT, bdS, sifN, sifS, omN, omS, cdI, x25, x26, x27, x28, x29, x30, x31, x32, xr0, xr1, xr2, xr3, xr4, xr5, if_pos, if_neg, true_and, and_true, false_and, and_false, and_self, Bool.and_true, if_true, if_false, reduceIte, cond_true, cond_false, not_true_eq_false, not_false_eq_true, F_36_112, h3]
  | succ n ih =>
    intro d tt S co gl h1 h2 h3 h4 hT
    obtain ⟨u, rfl⟩ : ∃ u, tt = u + 1 := ⟨tt - 1, by omega⟩
    obtain ⟨p, hp, hM, hk⟩ := h4 d (by omega)
    obtain ⟨S1, co1, gl1, a1, a2, a3, a4⟩ := f_35s (G := G) (t := t) ht hj (hk 0 (by omega)) hT
    obtain ⟨S2, co2, gl2, b1, b2, b3, b4⟩ := f_35s (G := G) (t := t) ht hj ((hk 1 (by omega)).tr a4) a2
    have a4' := a4.trans b4
    obtain ⟨S3, co3, gl3, c1, c2, c3, c4⟩ := f_35s (G := G) (t := t) ht hj ((hk 2 (by omega)).tr a4') b2
    have a5' := a4'.trans c4
    obtain ⟨S4, co4, gl4, d1, d2, d3, d4⟩ := f_35s (G := G) (t := t) ht hj ((hk 3 (by omega)).tr a5') c2
    have a6' := a5'.trans d4
    obtain ⟨S', co', gl', e1, e2, e3, e4⟩ := ih (d + 1) u S4 co4 gl4 (by omega) (by omega) (by rw [(a6'.1 25 s 0 (by omega)).1]; exact h3) (fun d' hd' => by
      obtain ⟨p', hp', hM', hk'⟩ := h4 d' hd'
      exact ⟨p', by rw [a6'.2.1]; exact hp', by rw [a6'.2.1]; exact hM', fun k hk => (hk' k hk).tr a6'⟩) d2
    refine ⟨S', co', gl', ?_, e2, ((((a3.trans b3).trans c3).trans d3).trans e3).iff (fun x _ => ?_), a6'.trans e4⟩
    · rw [← e1]
      have q1 : S1.2.2 = S.2.2 := a4.2.1
      have q2 : S2.2.2 = S.2.2 := a4'.2.1
      have q3 : S3.2.2 = S.2.2 := a5'.2.1
      have q15 : sex S.2.2.2.1 15 0 j = true := x15 hj
      clear ih h4 hT hk a2 a3 a4 b2 b3 b4 c2 c3 c4 d2 d3 d4 a4' a5' a6' e1 e2 e3 e4
      rw [show srl 0 = 12 from rfl] at a1
      rw [show srl 1 = 16 from rfl] at b1
      rw [show srl 2 = 6 from rfl] at c1
      rw [show srl 3 = 1 from rfl] at d1
      rw [F_36_29]
      simp (disch := first | assumption | omega) only [gI, gI2, gL, gL1, gL2, jcLT, jcGE, jcGT, jcLE, jcEQ, jcNE, dEQ, nIt, lgNE, lgEQ, lgGE, lgLT, lgGT, lgLE, jinT, nIc, nI0, nI1, nIo, nIs, nI_add, nIm, nIn0, szl0, szl1, szl2, szl3, szl4, szl5, Nat.add_sub_assoc, Nat.add_zero, Nat.reduceSub, Nat.reduceAdd, Nat.reduceMul, Nat.reduceEqDiff,  jifT, bdS, sifN, sifS, omN, omS, cdI, x25, x26, x27, x28, x29, x30, x31, x32, xr0, xr1, xr2, xr3, xr4, xr5, if_pos, if_neg, true_and, and_true, false_and, and_false, and_self, Bool.and_true, if_true, if_false, reduceIte, cond_true, cond_false, not_true_eq_false, not_false_eq_true, F_36_106, h3, hp, hM, Option.map_some, q15, a1, q1, b1, q2, c1, q3, d1]
    · constructor
      · rintro ((((r | r) | r) | r) | r)
        · exact ⟨d, p, 0, Nat.le_refl _, by omega, hp, by omega, r⟩
        · exact ⟨d, p, 1, Nat.le_refl _, by omega, hp, by omega, (a4.row p 1 x).mp r⟩
        · exact ⟨d, p, 2, Nat.le_refl _, by omega, hp, by omega, (a4'.row p 2 x).mp r⟩
        · exact ⟨d, p, 3, Nat.le_refl _, by omega, hp, by omega, (a5'.row p 3 x).mp r⟩
        · obtain ⟨d', p', k', q1, q2, q3, q4, q5⟩ := r
          exact ⟨d', p', k', by omega, q2, by rw [a6'.2.1] at q3; exact q3, q4, (a6'.row p' k' x).mp q5⟩
      · rintro ⟨d', p', k', q1, q2, q3, q4, q5⟩
        by_cases c : d' = d
        · subst c
          rw [hp] at q3
          cases q3
          rcases (show k' = 0 ∨ k' = 1 ∨ k' = 2 ∨ k' = 3 by omega) with rfl | rfl | rfl | rfl
          · exact Or.inl (Or.inl (Or.inl (Or.inl q5)))
          · exact Or.inl (Or.inl (Or.inl (Or.inr ((a4.row p 1 x).mpr q5))))
          · exact Or.inl (Or.inl (Or.inr ((a4'.row p 2 x).mpr q5)))
          · exact Or.inl (Or.inr ((a5'.row p 3 x).mpr q5))
        · exact Or.inr ⟨d', p', k', by omega, q2, by rw [a6'.2.1]; exact q3, q4, (a6'.row p' k' x).mpr q5⟩
/-! what meetRoots needs of the strands -/
def rtO (S : sS) (dp : Nat → Nat) : Prop := tgR S 0 5 ∧ ∀ s, s < 16 → S.1 25 s 0 3 = nI (dp s) ∧ dp s ≤ 30 ∧ ∀ d, d < dp s → ∃ p, S.2.2.1.1 s d = some p ∧ S.2.2.2.1.1 p = true ∧ ∀ k, k < 4 → tgR S p k
theorem rtO.tr {dp : Nat → Nat} (h : rtO S dp) (c : trC S S' j) : rtO S' dp := by
  obtain ⟨h1, h2⟩ := h
  refine ⟨h1.tr c, fun s hs => ?_⟩
  obtain ⟨a, b, c'⟩ := h2 s hs
  refine ⟨by rw [(c.1 25 s 0 (by omega)).1]; exact a, b, fun d hd => ?_⟩
  obtain ⟨p, q1, q2, q3⟩ := c' d hd
  exact ⟨p, by rw [c.2.1]; exact q1, by rw [c.2.1]; exact q2, fun k hk => (q3 k hk).tr c⟩
theorem trC.fra (c : trC S S' j) (s d dp x : Nat) : frA S' s d dp x ↔ frA S s d dp x := by
  unfold frA
  rw [c.2.1]
  constructor
  · rintro ⟨d', p, k, q1, q2, q3, q4, q5⟩
    exact ⟨d', p, k, q1, q2, q3, q4, (c.row p k x).mp q5⟩
  · rintro ⟨d', p, k, q1, q2, q3, q4, q5⟩
    exact ⟨d', p, k, q1, q2, q3, q4, (c.row p k x).mpr q5⟩
end RCH
