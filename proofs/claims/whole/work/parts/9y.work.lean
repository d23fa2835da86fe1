/-! The collector's work beside the steps. -/
section WRK
variable {φ φ' : Nat → Nat} {D D' : Nat → Prop} {F N : Nat} {P : aP} {S S' T T' T1 : sS} {A : aS} {r s d p f pc n m e b k y : Nat} {G : jG} {t j : Nat}
/-! one piece of work -/
def wkR (φ : Nat → Nat) (F N : Nat) (P : aP) (S T : sS) (A : aS) (S' : sS) : Prop := ∃ D', wR φ D' F N P S' T A ∧ gcR D' S' ∧ S'.2.2 = S.2.2 ∧ agr (fun t i j => (11 ≤ t ∧ t ≤ 17) ∨ t = 32) S S'
theorem nI_any (x : Int32) : ∃ a, x = nI a := by
  cases x with
  | ofUInt32 u => exact ⟨u.toNat, congrArg Int32.ofUInt32 (UInt32.ofNat_toNat).symm⟩
theorem gc_tr {co : Nat → Nat} {gl : List Nat} (h : (∀ h, h < 600 → S.1 16 0 0 h = nI (co h) ∧ co h ≤ 2) ∧ S.1 15 0 0 2 = nI gl.length ∧ (∀ (i x : Nat), gl[i]? = some x → S.1 17 0 0 i = nI x) ∧ gl.Nodup ∧ ∀ h, h ∈ gl ↔ h < 600 ∧ co h = 1) : trS S 0 co gl := h
theorem rfC.ag (a29 : S'.1 29 = S.1 29) (a31 : S'.1 31 = S.1 31) (hX : S'.2.2 = S.2.2) (h g : Nat) : rfC S' h g ↔ rfC S h g := by
  unfold rfC
  rw [a29, a31, hX]
theorem rtC.ag (a29 : S'.1 29 = S.1 29) (a31 : S'.1 31 = S.1 31) (hX : S'.2.2 = S.2.2) (dp : Nat → Nat) (x : Nat) : rtC S' dp x ↔ rtC S dp x := by
  unfold rtC stA frA rowR
  rw [a29, a31, hX]
theorem gwC.ag (a29 : S'.1 29 = S.1 29) (a31 : S'.1 31 = S.1 31) (hX : S'.2.2 = S.2.2) (co : Nat → Nat) (h : Nat) : gwC S' co h ↔ gwC S co h := by
  unfold gwC rfC
  rw [a29, a31, hX]
/-! a round begins -/
theorem wR.beg (ht : 1000 < t) (w : wR φ D F N P S T A) (gc : gcR D S) (h0 : S.1 11 0 0 11 = nI 0) : ∃ S', F_36 G t (0, 0) (siI (siI S 11 0 0 13 (nI 0)) 11 0 0 11 (nI 1)) = some ((), S') ∧ wkR φ F N P S T A S' := by
  obtain ⟨kd, cl, co, fl, gl, ro, sw, g1, g2, g3, g4, ⟨g5, g5', g5''⟩, g6, g7⟩ := gc
  have c0 : ∀ h, h < 600 → co h = 0 := by
    rcases g7 with ⟨_, z⟩ | ⟨z, _⟩ | ⟨z, _⟩
    · exact z
    · rw [z, h0] at g5
      exact absurd ((nI_eq (by omega) (by omega)).mp g5) (by omega)
    · rw [z, h0] at g5
      exact absurd ((nI_eq (by omega) (by omega)).mp g5) (by omega)
  have ag0 : agr (fun t i j => t = 11) S (siI (siI S 11 0 0 13 (nI 0)) 11 0 0 11 (nI 1)) := agr.i (agr.i (agr.refl _ _) _ _ rfl) _ _ rfl
  have w0 : wR φ D F N P (siI (siI S 11 0 0 13 (nI 0)) 11 0 0 11 (nI 1)) T A := w.mrk (ag0.mono (fun t i j z => by omega)) rfl (by rw [gI, if_neg (by omega), gI, if_neg (by omega)])
  have T0 : trS (siI (siI S 11 0 0 13 (nI 0)) 11 0 0 11 (nI 1)) 0 co gl := by
    unfold trS
    rw [(ag0 15 0 0 (by omega)).1, (ag0 16 0 0 (by omega)).1, (ag0 17 0 0 (by omega)).1]
    exact g6
  obtain ⟨S', co', gl', e, T1, mt, tc⟩ := f_36 (G := G) (t := t) ht (by omega) w0.rtO T0
  have ag : agr (fun t i j => t = 11 ∨ (15 ≤ t ∧ t ≤ 17 ∧ i = 0 ∧ j = 0)) S S' := (ag0.mono (fun t i j z => by omega)).trans (tc.1.mono (fun t i j z => by omega))
  have eT : ∀ t, t ≠ 11 → ¬ (15 ≤ t ∧ t ≤ 17) → S'.1 t = S.1 t := fun t h1 h2 => by
    funext i j
    exact (ag t i j (by omega)).1
  have hX : S'.2.2 = S.2.2 := tc.2.1
  have e11 : ∀ q, q ≠ 11 → q ≠ 13 → S'.1 11 0 0 q = S.1 11 0 0 q := fun q z z' => by
    rw [(tc.1 11 0 0 (by omega)).1, gI, if_neg (by omega), gI, if_neg (by omega)]
  have rr := rfC.ag (eT 29 (by omega) (by omega)) (eT 31 (by omega) (by omega)) hX
  have rt : ∀ x, rtC (siI (siI S 11 0 0 13 (nI 0)) 11 0 0 11 (nI 1)) A.2.1 x ↔ rtC S A.2.1 x := rtC.ag (by
    funext i j
    exact (ag0 29 i j (by omega)).1) (by
    funext i j
    exact (ag0 31 i j (by omega)).1) rfl A.2.1
  refine ⟨S', e, reC S A.2.1, (w.re).mrk (ag.mono (fun t i j z => by omega)) hX (e11 10 (by omega) (by omega)), ⟨kd, cl, co', fl, gl', 1, sw, fun h hh => (g1 h hh).ag (eT 29 (by omega) (by omega)) (eT 31 (by omega) (by omega)) (eT 32 (by omega) (by omega)) hX, ⟨?_, ?_, g2.2.2⟩, ⟨?_, ?_, g3.2.2⟩, fun x hx => g4 x (w.reD hx), ⟨?_, ?_, g5''⟩, T1, Or.inr (Or.inl ⟨rfl, reC S A.2.1, fun _ z => z, fun x hx => g4 x (w.reD hx), fun h x hh rf => hh.rf ((rr h x).mp rf), fun h hh hc => ?_, fun h hh => Or.inr (fun X x1 x2 => ?_)⟩)⟩, hX, ag.mono (fun t i j z => by omega)⟩
  · rw [e11 7 (by omega) (by omega)]; exact g2.1
  · rw [eT 13 (by omega) (by omega)]; exact g2.2.1
  · rw [e11 8 (by omega) (by omega)]; exact g3.1
  · rw [e11 9 (by omega) (by omega)]; exact g3.2.1
  · rw [(tc.1 11 0 0 (by omega)).1, siI_at]
  · rw [e11 12 (by omega) (by omega)]; exact g5'
  · rcases mt.1 h hh with z | ⟨_, _, z⟩
    · exact absurd (z.trans (c0 h hh)) hc
    · exact reC.rt hh ((rt h).mp z)
  · refine hh X (fun g g6 rg => ?_) (fun g x hg rf => ?_)
    · have n0 := mt.2 g g6 ((rt g).mpr rg)
      rcases mt.1 g g6 with z | ⟨_, z, _⟩
      · exact absurd (z.trans (c0 g g6)) n0
      · exact x1 g g6 z
    · have x6 : x < 600 := by
        obtain ⟨_, _, _, _, _, _, _, _, z⟩ := rf
        exact z
      rcases mt.1 x x6 with z | ⟨_, z, _⟩
      · exact x2 g x hg ((rr g x).mpr rf) x6 (z.trans (c0 x x6))
      · exact x1 x x6 z
/-! one grey object is looked into, or there is none left -/
theorem wk_one (ht : 1000 < t) (w : wR φ D F N P S T A) (gc : gcR D S) (h1 : S.1 11 0 0 11 = nI 1) : (∃ S', F_37 G t (0, 0) S = some (nI 1, S') ∧ wkR φ F N P S T A S') ∨ (F_37 G t (0, 0) S = some (nI 0, S) ∧ wkR φ F N P S T A (siI (siI S 11 0 0 11 (nI 2)) 11 0 0 12 (nI 0))) := by
  obtain ⟨kd, cl, co, fl, gl, ro, sw, g1, g2, g3, g4, ⟨g5, g5', g5''⟩, g6, g7⟩ := gc
  obtain ⟨E, z1, z2, z3, z4, z5⟩ : ∃ E : Nat → Prop, (∀ h, D h → E h) ∧ (∀ h, E h → h < 600 ∧ kd h ≠ 0) ∧ (∀ h x, E h → rfC S h x → E x) ∧ (∀ h, h < 600 → co h ≠ 0 → E h) ∧ ∀ h, E h → co h = 2 ∨ gwC S co h := by
    rcases g7 with ⟨z, _⟩ | ⟨_, z⟩ | ⟨z, _⟩
    · rw [z, h1] at g5
      exact absurd ((nI_eq (by omega) (by omega)).mp g5) (by omega)
    · exact z
    · rw [z, h1] at g5
      exact absurd ((nI_eq (by omega) (by omega)).mp g5) (by omega)
  have T0 : trS S 0 co gl := g6
  rcases List.eq_nil_or_concat gl with rfl | ⟨gl0, x, e0⟩
  · refine Or.inr ⟨e37n (by omega) T0.2.1, D, ?_, ?_, rfl, ?_⟩
    · exact w.mrk (agr.i (agr.i (agr.refl _ _) _ _ (by omega)) _ _ (by omega)) rfl (by rw [gI, if_neg (by omega), gI, if_neg (by omega)])
    · have ag0 : agr (fun t i j => t = 11) S (siI (siI S 11 0 0 11 (nI 2)) 11 0 0 12 (nI 0)) := agr.i (agr.i (agr.refl _ _) _ _ rfl) _ _ rfl
      have eT : ∀ t, t ≠ 11 → (siI (siI S 11 0 0 11 (nI 2)) 11 0 0 12 (nI 0)).1 t = S.1 t := fun t h1 => by
        funext i j
        exact (ag0 t i j h1).1
      have e11 : ∀ q, q ≠ 11 → q ≠ 12 → (siI (siI S 11 0 0 11 (nI 2)) 11 0 0 12 (nI 0)).1 11 0 0 q = S.1 11 0 0 q := fun q z z' => by
        rw [gI, if_neg (by omega), gI, if_neg (by omega)]
      have nog : ∀ h, h < 600 → co h ≠ 1 := fun h hh c => by
        have := (g6.2.2.2.2 h).mpr ⟨hh, c⟩
        cases this
      refine ⟨kd, cl, co, fl, [], 2, 0, fun h hh => (g1 h hh).ag (eT 29 (by omega)) (eT 31 (by omega)) (eT 32 (by omega)) rfl, ⟨?_, ?_, g2.2.2⟩, ⟨?_, ?_, g3.2.2⟩, g4, ⟨?_, ?_, by omega⟩, ?_, Or.inr (Or.inr ⟨rfl, fun h hh => ⟨nog h hh, fun z => by omega, fun z => (z2 h (z4 h hh z)).2⟩, fun h hh _ => ?_⟩)⟩
      · rw [e11 7 (by omega) (by omega)]; exact g2.1
      · rw [eT 13 (by omega)]; exact g2.2.1
      · rw [e11 8 (by omega) (by omega)]; exact g3.1
      · rw [e11 9 (by omega) (by omega)]; exact g3.2.1
      · rw [gI, if_neg (by omega), siI_at]
      · rw [siI_at]
      · rw [eT 15 (by omega), eT 16 (by omega), eT 17 (by omega)]; exact g6
      · rcases z5 h (z1 h hh) with c | c
        · exact c
        · exact absurd (c (fun _ => False) (fun g hg c => nog g hg c) (fun _ _ z _ _ _ => z)) id
    · exact agr.i (agr.i (agr.refl _ _) _ _ (by omega)) _ _ (by omega)
  · rw [List.concat_eq_append] at e0
    subst e0
    obtain ⟨x6, cx1⟩ := (g6.2.2.2.2 x).mp (List.mem_append.mpr (Or.inr (List.mem_singleton.mpr rfl)))
    have Ex : E x := z4 x x6 (by omega)
    have hu : thU S x (cl x) := by
      rcases g1 x x6 with ⟨_, c⟩ | ⟨p, hp, hM, hk, hk3, hu⟩
      · exact absurd c (z2 x Ex).2
      · obtain ⟨w', u1, u2, u3, u4, u5, u6⟩ := hu (z2 x Ex).2
        exact ⟨p, kd x, hp, hM, hk, hk3.elim (fun z => absurd z (z2 x Ex).2) id, u3, u5, w', ⟨xr4 hM, u1, u2⟩, u6⟩
    obtain ⟨a, ha⟩ := nI_any (S.1 15 0 0 3)
    obtain ⟨b, hb⟩ := nI_any (S.1 15 0 0 4)
    obtain ⟨S', co', gl', e, T1, mt, ag, hX, _, _⟩ := f_37 (G := G) (t := t) ht (by omega) T0 hu ha hb
    have eT : ∀ t, ¬ (15 ≤ t ∧ t ≤ 17) → S'.1 t = S.1 t := fun t h2 => by
      funext i j
      exact (ag t i j (by omega)).1
    have rr := rfC.ag (eT 29 (by omega)) (eT 31 (by omega)) hX
    have cxx : co' x = 2 := by
      rcases mt.1 x x6 with z | ⟨z, _⟩
      · rw [va_up_self] at z; exact z
      · rw [va_up_self] at z; omega
    refine Or.inl ⟨S', e, D, w.mrk (ag.mono (fun t i j z => by omega)) hX (by rw [eT 11 (by omega)]), ⟨kd, cl, co', fl, gl', 1, sw, fun h hh => (g1 h hh).ag (eT 29 (by omega)) (eT 31 (by omega)) (eT 32 (by omega)) hX, ?_, ?_, g4, ⟨?_, ?_, g5''⟩, T1, Or.inr (Or.inl ⟨rfl, E, z1, z2, fun h g hh rf => z3 h g hh ((rr h g).mp rf), fun h hh hc => ?_, fun h hh => ?_⟩)⟩, hX, ag.mono (fun t i j z => by omega)⟩
    · rw [eT 11 (by omega), eT 13 (by omega)]; exact g2
    · rw [eT 11 (by omega)]; exact g3
    · rw [eT 11 (by omega)]; exact h1
    · rw [eT 11 (by omega)]; exact g5'
    · rcases mt.1 h hh with z | ⟨_, _, z⟩
      · by_cases c : h = x
        · subst c; exact Ex
        · rw [va_up_ne _ _ c] at z
          exact z4 h hh (by omega)
      · exact z3 x h Ex z
    · by_cases c : h = x
      · subst c; exact Or.inl cxx
      · rcases z5 h hh with q | q
        · refine Or.inl ?_
          rcases mt.1 h (z2 h hh).1 with z | ⟨z, _⟩
          · rw [va_up_ne _ _ c] at z; omega
          · rw [va_up_ne _ _ c] at z; omega
        · refine Or.inr (fun X x1 x2 => ?_)
          have one : ∀ y, y < 600 → co y = 0 → co' y = 0 ∨ co' y = 1 := fun y y6 cy => by
            have : y ≠ x := fun z => by rw [z] at cy; omega
            rcases mt.1 y y6 with z | ⟨_, z, _⟩
            · rw [va_up_ne _ _ this] at z; omega
            · exact Or.inr z
          have := q (fun g => X g ∨ g = x) (fun g g6 cg => ?_) (fun g y hg rf y6 cy => ?_)
          · exact this.elim id (fun z => absurd z c)
          · by_cases c' : g = x
            · exact Or.inr c'
            · refine Or.inl (x1 g g6 ?_)
              rcases mt.1 g g6 with z | ⟨z, _⟩
              · rw [va_up_ne _ _ c'] at z; omega
              · rw [va_up_ne _ _ c'] at z; omega
          · refine Or.inl ?_
            rcases hg with hg | rfl
            · rcases one y y6 cy with z | z
              · exact x2 g y hg ((rr g y).mpr rf) y6 z
              · exact x1 y y6 z
            · rcases one y y6 cy with z | z
              · exact absurd z (mt.2 y y6 rf)
              · exact x1 y y6 z
end WRK
