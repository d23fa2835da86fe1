/-! The heap changes: what the rest needs of it. -/
section HEA
variable {φ φ' : Nat → Nat} {D D' : Nat → Prop} {F N : Nat} {P : aP} {S S' T T' : sS} {A : aS} {r s d p f pc n m e b k y : Nat} {G : jG} {t j : Nat}
theorem vr.shr {x v : Int64} {g kk : Int32} (h : vr φ D x g kk v) (c : ∀ y, D y → g = nI (y + 2) → D' y ∧ φ' y = φ y) : vr φ' D' x g kk v := by
  rcases h with h | h | ⟨y, hy, h1, h2, h3, h4⟩
  · exact Or.inl h
  · exact Or.inr (Or.inl h)
  · obtain ⟨a, b⟩ := c y hy h1
    exact Or.inr (Or.inr ⟨y, a, h1, h2, h3, by rw [b]; exact h4⟩)
theorem frR.shr (fr : frR φ D F P S p T s d f pc n m e b) (hl : P.2.1 f ≤ 12) (hE : ∀ h, D h → h < 600) (c : ∀ k, k < 4 → ∀ y, y < 600 → rowR S p k y → D' y ∧ φ' y = φ y) : frR φ' D' F P S p T s d f pc n m e b := by
  obtain ⟨hM, ⟨f1, f2, f3⟩, ⟨p1, p2, p3⟩, ⟨o1, o2, o3, o4⟩, ⟨d1, d2, d3, d4⟩, ⟨l1, l2⟩, ⟨e1, e2, e3, e4, e5⟩⟩ := fr
  refine ⟨hM, ⟨f1, f2, f3⟩, ⟨p1, p2, p3⟩, ⟨o1, o2, o3, fun i hi => ?_⟩, ⟨d1, d2, d3, fun i hi => ⟨?_, (d4 i hi).2⟩⟩, ⟨l1, fun i hi => ?_⟩, ⟨e1, e2, e3, e4, ?_⟩⟩
  · exact (o4 i hi).shr (fun y hy hg => c 1 (by omega) y (hE y hy) ⟨n, i, o1, o3, hi, hg⟩)
  · exact (d4 i hi).1.shr (fun y hy hg => c 2 (by omega) y (hE y hy) ⟨m, i, d1, by omega, hi, hg⟩)
  · exact (l2 i hi).shr (fun y hy hg => c 0 (by omega) y (hE y hy) ⟨_, i, l1, by omega, hi, hg⟩)
  · rcases e5 with z | ⟨z1, z2, z3⟩ | z
    · exact Or.inl z
    · exact Or.inr (Or.inl ⟨z1, z2, z3.shr (fun y hy hg => c 3 (by omega) y (hE y hy) ⟨1, 0, z2, by omega, by omega, hg⟩)⟩)
    · exact Or.inr (Or.inr z)
/-! the heap and its marks change -/
theorem wR.heap (h : wR φ D F N P S T A) (a1 : ∀ t i j, ¬ (11 ≤ t ∧ t ≤ 17) → ¬ (27 ≤ t ∧ t ≤ 32) → S'.1 t i j = S.1 t i j ∧ S'.2.1 t i j = S.2.1 t i j)
    (a2 : ∀ s d p, S.2.2.1.1 s d = some p → ∀ t j, 27 ≤ t → t ≤ 31 → j < 4 → S'.1 t p j = S.1 t p j ∧ S'.2.1 t p j = S.2.1 t p j)
    (a3 : ∀ t, 29 ≤ t → t ≤ 31 → S'.1 t 0 5 = S.1 t 0 5 ∧ S'.2.1 t 0 5 = S.2.1 t 0 5) (a4 : S'.2.2.1.1 = S.2.2.1.1) (a5 : ∀ p, S.2.2.2.1.1 p = true → S'.2.2.2.1.1 p = true) (ow : own S')
    (m1 : agr (fun t i j => t = 33 ∨ (46 ≤ t ∧ t ≤ 53)) T T') (m2 : ∀ k, k ≤ 24 → k ≠ 23 → T'.1 33 0 0 k = T.1 33 0 0 k) (m3 : T'.2.1 33 0 0 28 = T.2.1 33 0 0 28) (mm : S'.1 11 0 0 10 = T'.1 33 0 0 23)
    (c : ∀ y, y < 600 → rtC S A.2.1 y → D' y ∧ φ' y = φ y) (o : ∀ h, D' h → obR φ' D' S' T' h) (i : (∀ h, D' h → h < 600 ∧ φ' h < 1300) ∧ ∀ h h', D' h → D' h' → φ' h = φ' h' → h = h') : wR φ' D' F N P S' T' A := by
  have D6 := h.D6
  have l12 := h.lo12
  obtain ⟨⟨h1, h1'⟩, h2, h3, h4, h5, h6, h7, h8, h9, h10⟩ := h
  refine ⟨⟨?_, h1'⟩, fun s hs => ?_, ?_, o, i, ?_, ?_, ?_, ?_, ow⟩
  · exact h1.keep (fun t x y => (a1 t 0 0 (by omega) (by omega)).1) (fun t x y => (m1 t 0 0 (by omega)).1) ⟨m2 13 (by omega) (by omega), m2 14 (by omega) (by omega)⟩
  · have R := h2 s hs
    have R1 : stR φ' D' F P S T s (A.1 s) (A.2.1 s) (A.2.2.1 s) := by
      obtain ⟨z1, z2, z3, z4, z5, z6, z7, z8⟩ := R
      refine ⟨z1, z2, z3, z4, z5, z6, fun d hd => ?_, z8⟩
      obtain ⟨p, hp, fr⟩ := z7 d hd
      exact ⟨p, hp, fr.shr (l12 _ fr.2.1.2.2) D6 (fun k hk y hy rr => c y hy (Or.inr ⟨s, Nat.zero_le _, hs, d, p, k, Nat.zero_le _, hd, hp, hk, rr⟩))⟩
    exact R1.keep (a1 25 s 0 (by omega) (by omega)) (m1 54 s 0 (by omega)).1 (fun d p hp => ⟨by rw [a4]; exact hp, a5 p, fun t x y j z => a2 s d p hp t j x y z⟩) (fun d t x y => m1 t s d (by omega))
  · have g1 : glR φ' D' S T := ⟨h3.1, fun q hq => (h3.2 q hq).shr (fun y hy hg => c y (D6 y hy) (Or.inl ⟨16, q, h3.1, by omega, hq, hg⟩))⟩
    exact g1.keep a3 ⟨(m1 36 0 0 (by omega)).1, (m1 43 0 0 (by omega)).2⟩
  · exact h6.keep ⟨by rw [(a1 8 0 0 (by omega) (by omega)).1], by rw [(a1 8 0 0 (by omega) (by omega)).1], (a1 10 0 0 (by omega) (by omega)).1⟩ ⟨m2 15 (by omega) (by omega), (m1 45 0 0 (by omega)).1⟩
  · obtain ⟨⟨w1, w2⟩, w3⟩ := h7
    refine ⟨⟨by rw [(a1 8 0 0 (by omega) (by omega)).1]; exact w1, by rw [m3]; exact w2⟩, fun s hs hs2 hs4 => ?_⟩
    obtain ⟨⟨q1, q2, q3⟩, q4⟩ := w3 s hs hs2 hs4
    refine ⟨⟨by rw [(a1 25 s 0 (by omega) (by omega)).1]; exact q1, by rw [(m1 54 s 0 (by omega)).2]; exact q2, q3⟩, fun d hd => ?_⟩
    obtain ⟨y1, y2, y3⟩ := q4 d hd
    refine ⟨y1, y2, fun z => ?_⟩
    obtain ⟨c, c1, c2, c3, c4, c5, c6, p, c7, c8⟩ := y3 z
    exact ⟨c, c1, c2, by rw [(a1 25 s 0 (by omega) (by omega)).1]; exact c3, c4, c5, c6, p, by rw [a4]; exact c7, fun k hk => by rw [(a2 s d p c7 31 1 (by omega) (by omega) (by omega)).1]; exact c8 k hk⟩
  · obtain ⟨g1, g2, g3, g4, g5, g6, g7, g8⟩ := h8
    unfold scaR
    rw [(a1 8 0 0 (by omega) (by omega)).1, (a1 23 0 0 (by omega) (by omega)).1, m2 16 (by omega) (by omega), m2 20 (by omega) (by omega), m2 22 (by omega) (by omega), m2 21 (by omega) (by omega), m2 18 (by omega) (by omega), m2 19 (by omega) (by omega), m2 17 (by omega) (by omega)]
    exact ⟨g1, g2, g3, mm, g5, g6, g7, g8⟩
  · exact h9.keep ⟨by rw [(a1 23 0 0 (by omega) (by omega)).1], by rw [(a1 23 0 0 (by omega) (by omega)).1], (a1 24 0 0 (by omega) (by omega)).2⟩ ⟨m2 24 (by omega) (by omega), (m1 44 0 0 (by omega)).2⟩
/-! an object keeps; fewer count -/
theorem obR.shr {h : Nat} (o : obR φ D S T h) (hE : ∀ h, D h → h < 600) (c : ∀ y, y < 600 → rfC S h y → D' y ∧ φ' y = φ y) (e : φ' h = φ h) : obR φ' D' S T h := by
  obtain ⟨p, k, z, w, cc, c1, c2, c3, ⟨c4, c5, c6, c7⟩, ⟨c8, c9, c10, c11⟩, c12, c13, vv⟩ := o
  unfold obR
  rw [e]
  exact ⟨p, k, z, w, cc, c1, c2, c3, ⟨c4, c5, c6, c7⟩, ⟨c8, c9, c10, c11⟩, c12, c13, fun i hi => (vv i hi).shr (fun y hy hg => c y (hE y hy) ⟨p, w, i, c1, c8, by omega, hi, hg, hE y hy⟩)⟩
/-! fewer count -/
theorem wR.less (h : wR φ D F N P S T A) (c : ∀ y, y < 600 → rtC S A.2.1 y → D' y) (c2 : ∀ x g, D' x → rfC S x g → D' g) (c3 : ∀ x, D' x → D x) : wR φ D' F N P S T A :=
  h.heap (fun _ _ _ _ _ => ⟨rfl, rfl⟩) (fun _ _ _ _ _ _ _ _ _ => ⟨rfl, rfl⟩) (fun _ _ _ => ⟨rfl, rfl⟩) rfl (fun _ z => z) h.2.2.2.2.2.2.2.2.2 (agr.refl _ _) (fun _ _ _ => rfl) rfl h.2.2.2.2.2.2.2.1.2.2.2.1 (fun y hy r => ⟨c y hy r, rfl⟩) (fun x hx => (h.2.2.2.1 x (c3 x hx)).shr h.D6 (fun y hy r => ⟨c2 x y hx r, rfl⟩) rfl) ⟨fun x hx => h.2.2.2.2.1.1 x (c3 x hx), fun x x' hx hx' => h.2.2.2.2.1.2 x x' (c3 x hx) (c3 x' hx')⟩
theorem wR.re (h : wR φ D F N P S T A) : wR φ (reC S A.2.1) F N P S T A := h.less (fun _ hy r => reC.rt hy r) (fun _ _ r f => r.rf f) (fun _ r => h.reD r)
theorem reC.ext {dp : Nat → Nat} (h29 : S'.1 29 = S.1 29) (h31 : S'.1 31 = S.1 31) (hX : S'.2.2 = S.2.2) (x : Nat) : reC S' dp x ↔ reC S dp x := by
  unfold reC rtC stA frA rowR rfC
  rw [h29, h31, hX]
end HEA
