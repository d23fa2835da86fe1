/-! What questions leave; the top relation. -/
section TOP
variable {φ φ' : Nat → Nat} {D D' : Nat → Prop} {F N : Nat} {P : aP} {S S' T T' T1 : sS} {A : aS} {r s d p f pc n m e b k y g q o : Nat} {G : jG} {t j : Nat} {a : Int32}
theorem wR.heap2 (h : wR φ D F N P S T A) (a1 : ∀ t i j, t ≤ 26 → ¬ (11 ≤ t ∧ t ≤ 22) → S'.1 t i j = S.1 t i j ∧ S'.2.1 t i j = S.2.1 t i j)
    (a2 : ∀ s d p, S.2.2.1.1 s d = some p → ∀ t j, 27 ≤ t → t ≤ 31 → j < 4 → S'.1 t p j = S.1 t p j ∧ S'.2.1 t p j = S.2.1 t p j)
    (a3 : ∀ t, 29 ≤ t → t ≤ 31 → S'.1 t 0 5 = S.1 t 0 5 ∧ S'.2.1 t 0 5 = S.2.1 t 0 5) (a4 : S'.2.2.1.1 = S.2.2.1.1) (a5 : ∀ p, S.2.2.2.1.1 p = true → S'.2.2.2.1.1 p = true) (ow : own S')
    (m1 : ∀ t i j, 34 ≤ t → t ≤ 63 → ¬ (46 ≤ t ∧ t ≤ 53) → T'.1 t i j = T.1 t i j ∧ T'.2.1 t i j = T.2.1 t i j) (m2 : ∀ k, k ≤ 24 → k ≠ 23 → T'.1 33 0 0 k = T.1 33 0 0 k) (m3 : T'.2.1 33 0 0 28 = T.2.1 33 0 0 28) (mm : S'.1 11 0 0 10 = T'.1 33 0 0 23)
    (c : ∀ y, y < 600 → rtC S A.2.1 y → D' y ∧ φ' y = φ y) (o : ∀ h, D' h → obR φ' D' S' T' h) (i : (∀ h, D' h → h < 600 ∧ φ' h < 1300) ∧ ∀ h h', D' h → D' h' → φ' h = φ' h' → h = h') : wR φ' D' F N P S' T' A := by
  have D6 := h.D6
  have l12 := h.lo12
  obtain ⟨⟨h1, h1'⟩, h2, h3, h4, h5, h6, h7, h8, h9, h10⟩ := h
  refine ⟨⟨?_, h1'⟩, fun s hs => ?_, ?_, o, i, ?_, ?_, ?_, ?_, ow⟩
  · exact h1.keep (fun t x y => (a1 t 0 0 (by omega) (by omega)).1) (fun t x y => (m1 t 0 0 (by omega) (by omega) (by omega)).1) ⟨m2 13 (by omega) (by omega), m2 14 (by omega) (by omega)⟩
  · have R := h2 s hs
    have R1 : stR φ' D' F P S T s (A.1 s) (A.2.1 s) (A.2.2.1 s) := by
      obtain ⟨z1, z2, z3, z4, z5, z6, z7, z8⟩ := R
      refine ⟨z1, z2, z3, z4, z5, z6, fun d hd => ?_, z8⟩
      obtain ⟨p, hp, fr⟩ := z7 d hd
      exact ⟨p, hp, fr.shr (l12 _ fr.2.1.2.2) D6 (fun k hk y hy rr => c y hy (Or.inr ⟨s, Nat.zero_le _, hs, d, p, k, Nat.zero_le _, hd, hp, hk, rr⟩))⟩
    exact R1.keep (a1 25 s 0 (by omega) (by omega)) (m1 54 s 0 (by omega) (by omega) (by omega)).1 (fun d p hp => ⟨by rw [a4]; exact hp, a5 p, fun t x y j z => a2 s d p hp t j x y z⟩) (fun d t x y => m1 t s d (by omega) (by omega) (by omega))
  · have g1 : glR φ' D' S T := ⟨h3.1, fun q hq => (h3.2 q hq).shr (fun y hy hg => c y (D6 y hy) (Or.inl ⟨16, q, h3.1, by omega, hq, hg⟩))⟩
    exact g1.keep a3 ⟨(m1 36 0 0 (by omega) (by omega) (by omega)).1, (m1 43 0 0 (by omega) (by omega) (by omega)).2⟩
  · exact h6.keep ⟨by rw [(a1 8 0 0 (by omega) (by omega)).1], by rw [(a1 8 0 0 (by omega) (by omega)).1], (a1 10 0 0 (by omega) (by omega)).1⟩ ⟨m2 15 (by omega) (by omega), (m1 45 0 0 (by omega) (by omega) (by omega)).1⟩
  · obtain ⟨⟨w1, w2⟩, w3⟩ := h7
    refine ⟨⟨by rw [(a1 8 0 0 (by omega) (by omega)).1]; exact w1, by rw [m3]; exact w2⟩, fun s hs hs2 hs4 => ?_⟩
    obtain ⟨⟨q1, q2, q3⟩, q4⟩ := w3 s hs hs2 hs4
    refine ⟨⟨by rw [(a1 25 s 0 (by omega) (by omega)).1]; exact q1, by rw [(m1 54 s 0 (by omega) (by omega) (by omega)).2]; exact q2, q3⟩, fun d hd => ?_⟩
    obtain ⟨y1, y2, y3⟩ := q4 d hd
    refine ⟨y1, y2, fun z => ?_⟩
    obtain ⟨c, c1, c2, c3, c4, c5, c6, p, c7, c8⟩ := y3 z
    exact ⟨c, c1, c2, by rw [(a1 25 s 0 (by omega) (by omega)).1]; exact c3, c4, c5, c6, p, by rw [a4]; exact c7, fun k hk => by rw [(a2 s d p c7 31 1 (by omega) (by omega) (by omega)).1]; exact c8 k hk⟩
  · obtain ⟨g1, g2, g3, g4, g5, g6, g7, g8⟩ := h8
    unfold scaR
    rw [(a1 8 0 0 (by omega) (by omega)).1, (a1 23 0 0 (by omega) (by omega)).1, m2 16 (by omega) (by omega), m2 20 (by omega) (by omega), m2 22 (by omega) (by omega), m2 21 (by omega) (by omega), m2 18 (by omega) (by omega), m2 19 (by omega) (by omega), m2 17 (by omega) (by omega)]
    exact ⟨g1, g2, g3, mm, g5, g6, g7, g8⟩
  · exact h9.keep ⟨by rw [(a1 23 0 0 (by omega) (by omega)).1], by rw [(a1 23 0 0 (by omega) (by omega)).1], (a1 24 0 0 (by omega) (by omega)).2⟩ ⟨m2 24 (by omega) (by omega), (m1 44 0 0 (by omega) (by omega) (by omega)).2⟩
/-! the model's side of a question -/
def moB (T T' : sS) : Prop := (∀ t i j, 34 ≤ t → t ≤ 63 → ¬ (46 ≤ t ∧ t ≤ 51) → T'.1 t i j = T.1 t i j) ∧ (∀ t i j, 33 ≤ t → t ≤ 63 → T'.2.1 t i j = T.2.1 t i j) ∧ (∀ i j q, q ≠ 3 → q ≠ 5 → T'.1 51 i j q = T.1 51 i j q) ∧ ∀ q, q ≠ 25 → q ≠ 26 → q ≠ 27 → q ≠ 30 → T'.1 33 0 0 q = T.1 33 0 0 q
theorem moB.refl (T : sS) : moB T T := ⟨fun _ _ _ _ _ _ => rfl, fun _ _ _ _ _ => rfl, fun _ _ _ _ _ => rfl, fun _ _ _ _ _ => rfl⟩
theorem moB.trans {T T' T'' : sS} (h : moB T T') (h' : moB T' T'') : moB T T'' := ⟨fun t i j a b c => (h'.1 t i j a b c).trans (h.1 t i j a b c), fun t i j a b => (h'.2.1 t i j a b).trans (h.2.1 t i j a b), fun i j q a b => (h'.2.2.1 i j q a b).trans (h.2.2.1 i j q a b), fun q a b c d => (h'.2.2.2 q a b c d).trans (h.2.2.2 q a b c d)⟩
theorem moB.er (T : sS) (v : Int32) : moB T (siI T 33 0 0 25 v) := ⟨fun t i j h _ _ => siI_ne _ _ _ (by omega), fun _ _ _ _ _ => rfl, fun i j q _ _ => by rw [siI_ne _ _ _ (by omega)], fun q h _ _ _ => by rw [gI, if_neg (by omega)]⟩
theorem moA.B (h : moA T T') : moB T T' := ⟨fun t i j a b c => h.1 t i j (by omega) (by omega) (by omega), fun t i j _ _ => by rw [h.2.1], fun i j q _ b => h.2.2.1 i j q b, fun q _ b c d => h.2.2.2 q b c d⟩
theorem moB.of (h : kM T' = kM T) : moB T T' := by
  have h := kM_iff.mp h
  exact ⟨fun t i j a b _ => (h t i j (by omega) b).1, fun t i j a b => (h t i j a b).2, fun i j q _ _ => by rw [(h 51 i j (by omega) (by omega)).1], fun q _ _ _ _ => by rw [(h 33 0 0 (by omega) (by omega)).1]⟩
/-! the class's side of a question -/
def clB (S S' : sS) : Prop := agr (fun t i j => t = 14 ∨ (15 ≤ t ∧ t ≤ 17 ∧ j ≠ 0) ∨ (18 ≤ t ∧ t ≤ 22) ∨ 33 ≤ t) S S' ∧ S'.2.2 = S.2.2
theorem clB.refl (S : sS) : clB S S := ⟨agr.refl _ _, rfl⟩
theorem clB.of (h : kC S' = kC S) : clB S S' := by
  have h := kC_iff.mp h
  exact ⟨fun t i j z => h.1 t i j (by omega), h.2⟩
theorem clB.out (S : sS) (v : Int64) : clB S (siL S 64 0 0 0 v) := ⟨agr.l (agr.refl _ _) _ _ (by omega), rfl⟩
theorem clB.trans {S S' S'' : sS} (h : clB S S') (h' : clB S' S'') : clB S S'' := ⟨h.1.trans h'.1, h'.2.trans h.2⟩
theorem gcR.qry (gc : gcR D S) (c : clB S S') : gcR D S' := by
  obtain ⟨ag, hX⟩ := c
  have e : ∀ t, t ≤ 32 → ¬ (14 ≤ t ∧ t ≤ 22) → S'.1 t = S.1 t := fun t h3 ht => by
    funext i j
    exact (ag t i j (by omega)).1
  have rr := rfC.ag (e 29 (by omega) (by omega)) (e 31 (by omega) (by omega)) hX
  have gw := gwC.ag (e 29 (by omega) (by omega)) (e 31 (by omega) (by omega)) hX
  obtain ⟨kd, cl, co, fl, gl, ro, sw, g1, g2, g3, g4, g5, g6, g7⟩ := gc
  refine ⟨kd, cl, co, fl, gl, ro, sw, fun h hh => (g1 h hh).ag (e 29 (by omega) (by omega)) (e 31 (by omega) (by omega)) (e 32 (by omega) (by omega)) hX, by rw [e 11 (by omega) (by omega), e 13 (by omega) (by omega)]; exact g2, by rw [e 11 (by omega) (by omega)]; exact g3, g4, by rw [e 11 (by omega) (by omega)]; exact g5, by rw [(ag 15 0 0 (by omega)).1, (ag 16 0 0 (by omega)).1, (ag 17 0 0 (by omega)).1]; exact g6, ?_⟩
  rcases g7 with z | ⟨z, E, z1, z2, z3, z4, z5⟩ | z
  · exact Or.inl z
  · exact Or.inr (Or.inl ⟨z, E, z1, z2, fun h x q w => z3 h x q ((rr h x).mp w), z4, fun h q => (z5 h q).imp id (gw co h).mpr⟩)
  · exact Or.inr (Or.inr z)
theorem wR.qry (w : wR φ D F N P S T A) (c : clB S S') (mo : moB T T') : wR φ D F N P S' T' A := by
  obtain ⟨ag, hX⟩ := c
  obtain ⟨h1, h2, h3, h4⟩ := mo
  have ow := w.2.2.2.2.2.2.2.2.2
  refine w.heap2 (fun t i j x y => ag t i j (by omega)) (fun s d p hp t j x y z => ag t p j (by omega)) (fun t x y => ag t 0 5 (by omega)) (by rw [hX]) (fun p z => by rw [hX]; exact z) (ow.same hX) (fun t i j z y x => ⟨h1 t i j z y (by omega), h2 t i j (by omega) y⟩) (fun k z z' => h4 k (by omega) (by omega) (by omega) (by omega)) (by rw [h2 33 0 0 (by omega) (by omega)]) (by rw [(ag 11 0 0 (by omega)).1, h4 23 (by omega) (by omega) (by omega) (by omega)]; exact w.2.2.2.2.2.2.2.1.2.2.2.1) (fun y hy r => ⟨w.rtD hy r, rfl⟩) (fun x hx => ?_) w.2.2.2.2.1
  obtain ⟨p', k1, z, w', cc, o1, o⟩ := w.2.2.2.1 x hx
  refine ⟨p', k1, z, w', cc, by rw [hX]; exact o1, ?_⟩
  rw [hX, (ag 32 p' 0 (by omega)).1, (ag 29 p' 4 (by omega)).1, (ag 31 p' 4 (by omega)).1, (ag 30 p' 4 (by omega)).2, h3 _ _ 0 (by omega) (by omega), h3 _ _ 1 (by omega) (by omega), h3 _ _ 2 (by omega) (by omega), h3 _ _ 4 (by omega) (by omega), h1 52 _ _ (by omega) (by omega) (by omega), h2 53 _ _ (by omega) (by omega)]
  exact o
def stT (φ : Nat → Nat) (D : Nat → Prop) (F N : Nat) (P : aP) (S T : sS) (A : aS) : Prop := (wR φ D F N P S T A ∧ gcR D S ∧ S.1 23 0 0 7 = nI 0 ∧ S.1 8 0 0 5 = -1 ∧ T.1 33 0 0 29 = nI 0 ∧ (∃ o, A = A0 o) ∧ ∀ h, ¬ D h) ∨ (T.1 33 0 0 29 = nI 1 ∧ aftR φ D F N P S T A)
/-! after c calls, x exceptions -/
def topR (c : Nat) (S T : sS) : Prop := ∃ φ D F N P A, stT φ D F N P S T A ∧ A.2.2.2.2.2.1 + A.2.2.2.2.2.2 ≤ 1000 * c
theorem stT.w (h : stT φ D F N P S T A) : wR φ D F N P S T A ∧ gcR D S := by
  rcases h with ⟨w, gc, _⟩ | ⟨_, h⟩
  · exact ⟨w, gc⟩
  · exact h.w
theorem stT.qry (h : stT φ D F N P S T A) (c : clB S S') (mo : moB T T') : stT φ D F N P S' T' A := by
  have e8 := (c.1 8 0 0 (by omega)).1
  have e23 := (c.1 23 0 0 (by omega)).1
  have e29 := mo.2.2.2 29 (by omega) (by omega) (by omega) (by omega)
  unfold stT
  rw [e29, e23, e8]
  rcases h with ⟨w, gc, h1, h2, h3⟩ | ⟨h0, ⟨r, w, gc, iq, wh, hr, h1, h5, h7, h9⟩ | ⟨w, gc, wh, h5, h7⟩⟩
  · exact Or.inl ⟨w.qry c mo, gc.qry c, h1, h2, h3⟩
  · exact Or.inr ⟨h0, Or.inl ⟨r, w.qry c mo, gc.qry c, iq, wh, hr, h1, by rw [e8]; exact h5, by rw [e23]; exact h7, h9⟩⟩
  · exact Or.inr ⟨h0, Or.inr ⟨w.qry c mo, gc.qry c, wh, by rw [e8]; exact h5, by rw [e23]; exact h7⟩⟩
theorem topR.qry {c : Nat} (h : topR c S T) (cc : clB S S') (mo : moB T T') : topR (c + 1) S' T' := by
  obtain ⟨φ, D, F, N, P, A, h1, h2⟩ := h
  exact ⟨φ, D, F, N, P, A, h1.qry cc mo, by omega⟩
end TOP
