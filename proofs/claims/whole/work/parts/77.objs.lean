/-! Objects: their values are set. -/
section OBS
variable {φ : Nat → Nat} {D : Nat → Prop} {F N : Nat} {P : aP} {S S' T T' : sS} {A : aS} {r d p f pc n m e b k : Nat} {G : jG} {t : Nat}
/-! one object changes, and marks -/
theorem wR.thing (h : wR φ D F N P S T A) {h0 p1 : Nat} (hD : D h0) (hp : S.2.2.1.2 h0 = some p1) (aS : agr (fun t i j => (11 ≤ t ∧ t ≤ 17) ∨ (29 ≤ t ∧ t ≤ 31 ∧ i = p1 ∧ j = 4) ∨ (t = 32 ∧ i = p1)) S S') (hX : S'.2.2 = S.2.2) (hm : S'.1 11 0 0 10 = S.1 11 0 0 10) (aT : agr (fun t i j => (51 ≤ t ∧ t ≤ 53 ∧ i = φ h0) ∨ (46 ≤ t ∧ t ≤ 50)) T T') (ob : obR φ D S' T' h0) : wR φ D F N P S' T' A := by
  obtain ⟨⟨h1, h1'⟩, h2, h3, h4, h5, h6, h7, h8, h9, h10⟩ := h
  refine ⟨⟨h1.keep (fun t x y => (aS t 0 0 (by omega)).1) (fun t x y => (aT t 0 0 (by omega)).1) ⟨by rw [(aT 33 0 0 (by omega)).1], by rw [(aT 33 0 0 (by omega)).1]⟩, h1'⟩, fun s hs => ?_, h3.keep (fun t x y => aS t 0 5 (by omega)) ⟨(aT 36 0 0 (by omega)).1, (aT 43 0 0 (by omega)).2⟩, fun x hx => ?_, h5, h6.keep ⟨by rw [(aS 8 0 0 (by omega)).1], by rw [(aS 8 0 0 (by omega)).1], (aS 10 0 0 (by omega)).1⟩ ⟨by rw [(aT 33 0 0 (by omega)).1], (aT 45 0 0 (by omega)).1⟩, ?_, ?_, h9.keep ⟨by rw [(aS 23 0 0 (by omega)).1], by rw [(aS 23 0 0 (by omega)).1], (aS 24 0 0 (by omega)).2⟩ ⟨by rw [(aT 33 0 0 (by omega)).1], (aT 44 0 0 (by omega)).2⟩, h10.same hX⟩
  · exact (h2 s hs).keep (aS 25 s 0 (by omega)) (aT 54 s 0 (by omega)).1 (fun d p hp => ⟨by rw [hX]; exact hp, fun z => by rw [hX]; exact z, fun t x y j z => aS t p j (by omega)⟩) (fun d t x y => aT t s d (by omega))
  · by_cases c : x = h0
    · subst c; exact ob
    · have nf : φ x ≠ φ h0 := fun z => c (h5.2 x h0 hx hD z)
      obtain ⟨p, k1, z, w, cc, o1, o⟩ := h4 x hx
      have np : p ≠ p1 := fun z => c (h10.2.2.2.1 x h0 p o1 (z ▸ hp))
      refine ⟨p, k1, z, w, cc, by rw [hX]; exact o1, ?_⟩
      rw [hX, (aS 32 p 0 (by omega)).1, (aS 29 p 4 (by omega)).1, (aS 31 p 4 (by omega)).1, (aS 30 p 4 (by omega)).2, (aT 51 (φ x) 0 (by omega)).1, (aT 52 (φ x) 0 (by omega)).1, (aT 53 (φ x) 0 (by omega)).2]
      exact o
  · obtain ⟨⟨w1, w2⟩, w3⟩ := h7
    refine ⟨⟨by rw [(aS 8 0 0 (by omega)).1]; exact w1, by rw [(aT 33 0 0 (by omega)).2]; exact w2⟩, fun s hs hs2 hs4 => ?_⟩
    obtain ⟨⟨q1, q2, q3⟩, q4⟩ := w3 s hs hs2 hs4
    refine ⟨⟨by rw [(aS 25 s 0 (by omega)).1]; exact q1, by rw [(aT 54 s 0 (by omega)).2]; exact q2, q3⟩, fun d hd => ?_⟩
    obtain ⟨y1, y2, y3⟩ := q4 d hd
    refine ⟨y1, y2, fun z => ?_⟩
    obtain ⟨c, c1, c2, c3, c4, c5, c6, p, c7, c8⟩ := y3 z
    exact ⟨c, c1, c2, by rw [(aS 25 s 0 (by omega)).1]; exact c3, c4, c5, c6, p, by rw [hX]; exact c7, fun k hk => by rw [(aS 31 p 1 (by omega)).1]; exact c8 k hk⟩
  · obtain ⟨g1, g2, g3, g4, g5, g6, g7, g8⟩ := h8
    unfold scaR
    rw [(aS 8 0 0 (by omega)).1, (aS 23 0 0 (by omega)).1, hm, (aT 33 0 0 (by omega)).1]
    exact ⟨g1, g2, g3, g4, g5, g6, g7, g8⟩
/-! the values of an object that counts -/
theorem obR.tg {h p1 w : Nat} (o : obR φ D S T h) (hE : ∀ h, D h → h < 600) (hp : S.2.2.1.2 h = some p1) (hw : S.1 29 p1 4 2 = nI w) (hw2 : w ≤ 16) : ∀ q, q < w → ∃ g, S.1 31 p1 4 q = nI g ∧ g < 602 := by
  obtain ⟨p, k, z, w', c, o1, o2, o3, ⟨o4a, o4b, o4c, o4d⟩, ⟨o5, _, o5c, _⟩, o6, o7, o8⟩ := o
  rw [hp] at o1
  cases o1
  have : w = w' := (nI_eq (by omega) (by omega)).mp (hw.symm.trans o5)
  subst this
  intro q hq
  obtain ⟨g, _, g1, _, g2, _⟩ := (o8 q hq).ix hE
  exact ⟨g, g1, g2⟩
/-! the class's side of a set: marks, the value, the operands -/
theorem gcR.put (ht : 1000 < t) (g : gcR D S) (ow : own S) {h0 p1 w i : Nat} (hD : D h0) (hp : S.2.2.1.2 h0 = some p1) (hM : S.2.2.2.1.2 p1 = true) (hw : S.1 29 p1 4 2 = nI w) (hw2 : w ≤ 16) (hi : i < w) (htg : ∀ q, q < w → ∃ g, S.1 31 p1 4 q = nI g ∧ g < 602) {x : Int64} {gn : Nat} (hg : gn < 602) (hgD : ∀ y, gn = y + 2 → D y) :
    ∃ S1, F_96 G t (p1, 4) (nI i) S = some ((), S1) ∧ agr (fun t a b => 15 ≤ t ∧ t ≤ 17 ∧ a = 0 ∧ b = 0) S S1 ∧ S1.2.2 = S.2.2 ∧ gcR D (siI (siL S1 30 p1 4 i x) 31 p1 4 i (nI gn)) := by
  obtain ⟨S1, r1, r2, r3, r4, r5⟩ := f_96 (G := G) (t := t) ht g hD hp hM hw hw2 hi htg
  refine ⟨S1, r1, r3, r4, ?_⟩
  have e29 := (r3 29 p1 4 (by omega)).1
  have e31 := (r3 31 p1 4 (by omega)).1
  refine r2.row (S2 := siI (siL S1 30 p1 4 i x) 31 p1 4 i (nI gn)) hD (by rw [r4]; exact hp) (by rw [r4]; exact ow.2.2.2.1) (fun t a b u v => siI_ne _ _ _ (by omega)) (fun p => siI_ne _ _ _ (by omega)) (fun p hpp => ⟨siI_ne _ _ _ (by omega), siI_ne _ _ _ (by omega)⟩) rfl (w' := w) ?_ hw2 (fun q hq => ?_) (fun y hy => ?_) (fun hr y hy hy6 hc => ?_)
  · rw [siI_ne _ _ _ (by omega)]
    show S1.1 29 p1 4 2 = _
    rw [e29]; exact hw
  · by_cases c : q = i
    · subst c
      exact ⟨gn, siI_at _ _ _ _ _ _, hg⟩
    · rw [siI_k _ _ _ _ _ c]
      show ∃ g, S1.1 31 p1 4 q = nI g ∧ g < 602
      rw [e31]; exact htg q hq
  · obtain ⟨p', w', q, y1, y2, y3, y4, y5, y6⟩ := hy
    have hpp : p' = p1 := by
      have : S1.2.2.1.2 h0 = some p' := y1
      rw [r4, hp] at this
      exact (Option.some.inj this).symm
    subst hpp
    by_cases c : q = i
    · subst c
      rw [siI_at] at y5
      exact Or.inr (hgD y ((nI_eq (by omega) (by omega)).mp y5))
    · left
      rw [siI_k _ _ _ _ _ c] at y5
      rw [siI_ne _ _ _ (by omega)] at y2
      exact ⟨p', w', q, by rw [r4]; exact hp, y2, y3, y4, y5, y6⟩
  · obtain ⟨p', w', q, y1, y2, y3, y4, y5, y6⟩ := hy
    have hpp : p' = p1 := by
      rw [r4, hp] at y1
      exact (Option.some.inj y1).symm
    subst hpp
    by_cases c : q = i
    · subst c
      rw [e31] at y5
      exact absurd hc (r5 hr y hy6 y5)
    · refine ⟨p', w', q, by rw [← hp, ← r4]; rfl, ?_, y3, y4, ?_, y6⟩
      · rw [siI_ne _ _ _ (by omega)]; exact y2
      · rw [siI_k _ _ _ _ _ c]; exact y5
end OBS
