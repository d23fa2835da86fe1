/-! A channel loses its first value, gets one at its end; a sender goes on. -/
section CHN
variable {φ : Nat → Nat} {D : Nat → Prop} {F N : Nat} {P : aP} {S S' T T' : sS} {A : aS} {r d p f pc n m e b k y : Nat} {G : jG} {t : Nat}
/-! dropFirst -/
def dfS (S : sS) (p1 : Nat) : Nat → sS
  | 0 => S
  | i + 1 => siI (siL (dfS S p1 i) 30 p1 4 i (S.2.1 30 p1 4 (i + 1))) 31 p1 4 i (S.1 31 p1 4 (i + 1))
theorem dfS_2 (S : sS) (p1 : Nat) : ∀ i, (dfS S p1 i).2.2 = S.2.2 := by
  intro i
  induction i with
  | zero => rfl
  | succ i ih => exact ih
theorem dfS_I (S : sS) (p1 : Nat) {t x y : Nat} (h : ¬ (t = 31 ∧ x = p1 ∧ y = 4)) : ∀ i, (dfS S p1 i).1 t x y = S.1 t x y := by
  intro i
  induction i with
  | zero => rfl
  | succ i ih => exact (siI_ne _ _ _ h).trans ih
theorem dfS_L (S : sS) (p1 : Nat) {t x y : Nat} (h : ¬ (t = 30 ∧ x = p1 ∧ y = 4)) : ∀ i, (dfS S p1 i).2.1 t x y = S.2.1 t x y := by
  intro i
  induction i with
  | zero => rfl
  | succ i ih => exact (siL_ne _ _ _ h).trans ih
theorem dfS_v (S : sS) (p1 q : Nat) : ∀ i, (dfS S p1 i).1 31 p1 4 q = (if q < i then S.1 31 p1 4 (q + 1) else S.1 31 p1 4 q) ∧ (dfS S p1 i).2.1 30 p1 4 q = (if q < i then S.2.1 30 p1 4 (q + 1) else S.2.1 30 p1 4 q) := by
  intro i
  induction i with
  | zero => exact ⟨rfl, rfl⟩
  | succ i ih =>
    refine ⟨?_, ?_⟩
    · unfold dfS
      rw [gI]
      by_cases c : q = i
      · subst c
        rw [if_pos ⟨rfl, rfl, rfl, rfl⟩, if_pos (by omega)]
      · rw [if_neg (by omega), gL1, ih.1]
        by_cases c2 : q < i
        · rw [if_pos c2, if_pos (by omega)]
        · rw [if_neg c2, if_neg (by omega)]
    · unfold dfS
      rw [gI2, gL]
      by_cases c : q = i
      · subst c
        rw [if_pos ⟨rfl, rfl, rfl, rfl⟩, if_pos (by omega)]
      · rw [if_neg (by omega), ih.2]
        by_cases c2 : q < i
        · rw [if_pos c2, if_pos (by omega)]
        · rw [if_neg c2, if_neg (by omega)]
set_option maxHeartbeats 4000000 in
set_option linter.unusedSimpArgs false in
theorem l_97 {p1 w : Nat} (hM : S.2.2.2.1.2 p1 = true) (hw : S.1 29 p1 4 2 = nI (w + 1)) (hw2 : w < 16) : ∀ j i tt, i + j = w → j < tt → F_97_2 G t tt (p1, 4) (nI (i + 1)) (dfS S p1 i) = some ((), siI (dfS S p1 w) 29 p1 4 2 (nI w)) := by
  intro j
  induction j with
  | zero =>
    intro i tt h1 h2
    obtain ⟨u, rfl⟩ : ∃ u, tt = u + 1 := ⟨tt - 1, by omega⟩
    have : i = w := by omega
    subst this
    have e6 : F_76 G t (p1, 4) (nI 1) (dfS S p1 i) = some ((), siI (dfS S p1 i) 29 p1 4 2 (nI i)) := f_76 (sz := i + 1) ⟨by rw [dfS_2]; exact xr4 hM, by rw [dfS_I _ _ (by omega)]; exact hw, show i + 1 ≤ 16 by omega⟩ (by omega)
    rw [F_97_2]
    simp (disch := first | assumption | omega) only [gI, gI2, gL, gL1, gL2, jcLT, jcGE, jcGT, jcLE, jcEQ, jcNE, dEQ, nIt, lgNE, lgEQ, lgGE, lgLT, lgGT, lgLE, jinT, nIc, nI0, nI1, nIo, nIs, nI_add, nIm, nIn0, szl0, szl1, szl2, szl3, szl4, szl5, Nat.add_sub_assoc, Nat.add_zero, Nat.reduceSub, Nat.reduceAdd, Nat.reduceMul, Nat.reduceEqDiff,  jifT, bdS, sifN, sifS, omN, omS, cdI, x25, x26, x27, x28, x29, x30, x31, x32, xr0, xr1, xr2, xr3, xr4, xr5, if_pos, if_neg, true_and, and_true, false_and, and_false, and_self, Bool.and_true, if_true, if_false, reduceIte, cond_true, cond_false, not_true_eq_false, not_false_eq_true, dfS_2, dfS_I, hM, hw, e6]
  | succ j ih =>
    intro i tt h1 h2
    obtain ⟨u, rfl⟩ : ∃ u, tt = u + 1 := ⟨tt - 1, by omega⟩
    have e := ih (i + 1) u (by omega) (by omega)
    have v := dfS_v S p1 (i + 1) i
    rw [if_neg (by omega), if_neg (by omega)] at v
    have v1 := v.1
    have v2 := v.2
    rw [F_97_2]
    clear ih v
    simp (disch := first | assumption | omega) only [gI, gI2, gL, gL1, gL2, jcLT, jcGE, jcGT, jcLE, jcEQ, jcNE, dEQ, nIt, lgNE, lgEQ, lgGE, lgLT, lgGT, lgLE, jinT, nIc, nI0, nI1, nIo, nIs, nI_add, nIm, nIn0, szl0, szl1, szl2, szl3, szl4, szl5, Nat.add_sub_assoc, Nat.add_zero, Nat.reduceSub, Nat.reduceAdd, Nat.reduceMul, Nat.reduceEqDiff,  jifT, bdS, sifN, sifS, omN, omS, cdI, x25, x26, x27, x28, x29, x30, x31, x32, xr0, xr1, xr2, xr3, xr4, xr5, if_pos, if_neg, true_and, and_true, false_and, and_false, and_self, Bool.and_true, if_true, if_false, reduceIte, cond_true, cond_false, not_true_eq_false, not_false_eq_true, dfS_2, dfS_I, hM, hw, v1, v2]
    exact e
theorem f_97 {p1 w : Nat} (ht : 100 < t) (hM : S.2.2.2.1.2 p1 = true) (hw : S.1 29 p1 4 2 = nI (w + 1)) (hw2 : w < 16) : F_97 G t (p1, 4) S = some ((), siI (dfS S p1 w) 29 p1 4 2 (nI w)) := l_97 hM hw hw2 w 0 t (by omega) (by omega)
/-! the reference's shift -/
def shT (T : sS) (q : Nat) : Nat → sS
  | 0 => T
  | i + 1 => siL (siI (shT T q i) 52 q 0 i (T.1 52 q 0 (i + 1))) 53 q 0 i (T.2.1 53 q 0 (i + 1))
theorem shT_2 (T : sS) (q : Nat) : ∀ i, (shT T q i).2.2 = T.2.2 := by
  intro i
  induction i with
  | zero => rfl
  | succ i ih => exact ih
theorem shT_I (T : sS) (q : Nat) {t x y : Nat} (h : ¬ (t = 52 ∧ x = q ∧ y = 0)) : ∀ i, (shT T q i).1 t x y = T.1 t x y := by
  intro i
  induction i with
  | zero => rfl
  | succ i ih => exact (siI_ne _ _ _ h).trans ih
theorem shT_L (T : sS) (q : Nat) {t x y : Nat} (h : ¬ (t = 53 ∧ x = q ∧ y = 0)) : ∀ i, (shT T q i).2.1 t x y = T.2.1 t x y := by
  intro i
  induction i with
  | zero => rfl
  | succ i ih => exact (siL_ne _ _ _ h).trans ih
theorem shT_v (T : sS) (q z : Nat) : ∀ i, (shT T q i).1 52 q 0 z = (if z < i then T.1 52 q 0 (z + 1) else T.1 52 q 0 z) ∧ (shT T q i).2.1 53 q 0 z = (if z < i then T.2.1 53 q 0 (z + 1) else T.2.1 53 q 0 z) := by
  intro i
  induction i with
  | zero => exact ⟨rfl, rfl⟩
  | succ i ih =>
    refine ⟨?_, ?_⟩
    · unfold shT
      rw [gL1, gI]
      by_cases c : z = i
      · subst c
        rw [if_pos ⟨rfl, rfl, rfl, rfl⟩, if_pos (by omega)]
      · rw [if_neg (by omega), ih.1]
        by_cases c2 : z < i
        · rw [if_pos c2, if_pos (by omega)]
        · rw [if_neg c2, if_neg (by omega)]
    · unfold shT
      rw [gL]
      by_cases c : z = i
      · subst c
        rw [if_pos ⟨rfl, rfl, rfl, rfl⟩, if_pos (by omega)]
      · rw [if_neg (by omega), gI2, ih.2]
        by_cases c2 : z < i
        · rw [if_pos c2, if_pos (by omega)]
        · rw [if_neg c2, if_neg (by omega)]
/-! a channel's relation, in pieces: z its room, w its values, c closed -/
def chR (φ : Nat → Nat) (D : Nat → Prop) (S T : sS) (y p1 z w c : Nat) : Prop :=
  S.2.2.1.2 y = some p1 ∧ S.2.2.2.1.2 p1 = true ∧ (S.1 32 p1 0 1 = nI 3 ∧ T.1 51 (φ y) 0 0 = nI 3) ∧ (S.1 32 p1 0 2 = nI z ∧ T.1 51 (φ y) 0 1 = nI z ∧ z ≤ 8) ∧ (S.1 29 p1 4 2 = nI w ∧ T.1 51 (φ y) 0 2 = nI w ∧ w ≤ z) ∧ (S.1 32 p1 0 4 = nI c ∧ T.1 51 (φ y) 0 4 = nI c ∧ c ≤ 1) ∧ S.1 32 p1 0 3 = nI (3 + z) ∧ ∀ i, i < w → vr φ D (S.2.1 30 p1 4 i) (S.1 31 p1 4 i) (T.1 52 (φ y) 0 i) (T.2.1 53 (φ y) 0 i)
theorem chR.ob {p1 z w c : Nat} (h : chR φ D S T y p1 z w c) : obR φ D S T y := by
  obtain ⟨h1, h2, ⟨h3, h3'⟩, ⟨h4, h4', h4''⟩, ⟨h5, h5', h5''⟩, ⟨h6, h6', h6''⟩, h7, h8⟩ := h
  exact ⟨p1, 3, z, w, c, h1, h2, ⟨h3, h3', Or.inr rfl⟩, ⟨h4, h4', by omega, fun _ => h4''⟩, ⟨h5, fun _ => h5', h5'', fun q => by omega⟩, ⟨h6, h6', h6''⟩, h7, h8⟩
/-! the channel's first value goes: marks and row on the class's side -/
theorem wR.chd (ht : 1000 < t) (h : wR φ D F N P S T A) (gc : gcR D S) (hD : D y) {p1 z w c : Nat} (hc : chR φ D S T y p1 z (w + 1) c) :
    ∃ S1, F_96 G t (p1, 4) (nI 0) S = some ((), S1) ∧ F_97 G t (p1, 4) S1 = some ((), siI (dfS S1 p1 w) 29 p1 4 2 (nI w)) ∧ S1.2.2 = S.2.2 ∧ agr (fun t i j => (15 ≤ t ∧ t ≤ 17) ∨ (29 ≤ t ∧ t ≤ 31 ∧ i = p1 ∧ j = 4)) S (siI (dfS S1 p1 w) 29 p1 4 2 (nI w)) ∧
      ∀ T', agr (fun t i j => (51 ≤ t ∧ t ≤ 53 ∧ i = φ y) ∨ (46 ≤ t ∧ t ≤ 50)) T T' → (∀ k, k ≠ 2 → T'.1 51 (φ y) 0 k = T.1 51 (φ y) 0 k) → T'.1 51 (φ y) 0 2 = nI w → (∀ i, i < w → T'.1 52 (φ y) 0 i = T.1 52 (φ y) 0 (i + 1) ∧ T'.2.1 53 (φ y) 0 i = T.2.1 53 (φ y) 0 (i + 1)) →
        wR φ D F N P (siI (dfS S1 p1 w) 29 p1 4 2 (nI w)) T' A ∧ gcR D (siI (dfS S1 p1 w) 29 p1 4 2 (nI w)) ∧ chR φ D (siI (dfS S1 p1 w) 29 p1 4 2 (nI w)) T' y p1 z w c := by
  obtain ⟨h1, h2, ⟨h3, h3'⟩, ⟨h4, h4', h4''⟩, ⟨h5, h5', h5''⟩, ⟨h6, h6', h6''⟩, h7, h8⟩ := hc
  have hE := h.2.2.2.2.1.1
  have ow := h.2.2.2.2.2.2.2.2.2
  have htg : ∀ q, q < w + 1 → ∃ g, S.1 31 p1 4 q = nI g ∧ g < 602 := fun q hq => by
    obtain ⟨g, _, q1, _, q2, _⟩ := (h8 q hq).ix (fun h z => (hE h z).1)
    exact ⟨g, q1, q2⟩
  obtain ⟨S1, r1, r2, r3, r4, r5⟩ := f_96 (G := G) (t := t) (i := 0) ht gc hD h1 h2 h5 (by omega) (by omega) htg
  have e29 := (r3 29 p1 4 (by omega)).1
  have e31 := (r3 31 p1 4 (by omega)).1
  have e30 := (r3 30 p1 4 (by omega)).2
  have f97 := f_97 (G := G) (t := t) (S := S1) (p1 := p1) (w := w) (by omega) (by rw [r4]; exact h2) (by rw [e29]; exact h5) (by omega)
  have agD : agr (fun t i j => 29 ≤ t ∧ t ≤ 31 ∧ i = p1 ∧ j = 4) S1 (siI (dfS S1 p1 w) 29 p1 4 2 (nI w)) := agr.i (fun t i j z => ⟨dfS_I _ _ (by omega) _, dfS_L _ _ (by omega) _⟩) _ _ (by omega)
  have ag : agr (fun t i j => (15 ≤ t ∧ t ≤ 17) ∨ (29 ≤ t ∧ t ≤ 31 ∧ i = p1 ∧ j = 4)) S (siI (dfS S1 p1 w) 29 p1 4 2 (nI w)) := (r3.mono (fun t i j z => by omega)).trans (agD.mono (fun t i j z => by omega))
  have hX : (siI (dfS S1 p1 w) 29 p1 4 2 (nI w)).2.2 = S.2.2 := by rw [gI2, dfS_2, r4]
  have row31 : ∀ i, i < w → (siI (dfS S1 p1 w) 29 p1 4 2 (nI w)).1 31 p1 4 i = S.1 31 p1 4 (i + 1) := fun i hi => by
    rw [siI_ne _ _ _ (by omega), (dfS_v S1 p1 i w).1, if_pos hi, e31]
  have row30 : ∀ i, i < w → (siI (dfS S1 p1 w) 29 p1 4 2 (nI w)).2.1 30 p1 4 i = S.2.1 30 p1 4 (i + 1) := fun i hi => by
    rw [gI2, (dfS_v S1 p1 i w).2, if_pos hi, e30]
  have s29 : (siI (dfS S1 p1 w) 29 p1 4 2 (nI w)).1 29 p1 4 2 = nI w := siI_at _ _ _ _ _ _
  have gc2 : gcR D (siI (dfS S1 p1 w) 29 p1 4 2 (nI w)) := by
    refine r2.row (S2 := siI (dfS S1 p1 w) 29 p1 4 2 (nI w)) (w' := w) hD (by rw [r4]; exact h1) (by rw [r4]; exact ow.2.2.2.1) (fun t i j u v => (agD t i j (by omega)).1) (fun p => (agD 32 p 0 (by omega)).1) (fun p hp => ⟨(agD 29 p 4 (by omega)).1, (agD 31 p 4 (by omega)).1⟩) (by rw [gI2, dfS_2]) s29 (by omega) (fun i hi => ?_) (fun x hx => ?_) (fun hr x hx hx6 hcx => ?_)
    · rw [row31 i hi]
      exact htg (i + 1) (by omega)
    · obtain ⟨p', w', q, y1, y2, y3, y4, y5, y6⟩ := hx
      have hpp : p' = p1 := by
        rw [hX, h1] at y1
        exact (Option.some.inj y1).symm
      subst hpp
      have ew : w' = w := (nI_eq (by omega) (by omega)).mp (y2.symm.trans s29)
      subst ew
      rw [row31 q y4] at y5
      exact Or.inl ⟨p', w' + 1, q + 1, by rw [r4]; exact h1, by rw [e29]; exact h5, by omega, by omega, by rw [e31]; exact y5, y6⟩
    · obtain ⟨p', w', q, y1, y2, y3, y4, y5, y6⟩ := hx
      have hpp : p' = p1 := by
        rw [r4, h1] at y1
        exact (Option.some.inj y1).symm
      subst hpp
      rw [e29] at y2
      have ew : w' = w + 1 := (nI_eq (by omega) (by omega)).mp (y2.symm.trans h5)
      subst ew
      rw [e31] at y5
      cases q with
      | zero => exact absurd hcx (r5 hr x hx6 y5)
      | succ q => exact ⟨p', w, q, by rw [hX]; exact h1, s29, by omega, by omega, by rw [row31 q (by omega)]; exact y5, y6⟩
  refine ⟨S1, r1, f97, r4, ag, fun T' aT t51 t512 tv => ?_⟩
  have s32 : (siI (dfS S1 p1 w) 29 p1 4 2 (nI w)).1 32 p1 0 = S.1 32 p1 0 := (ag 32 p1 0 (by omega)).1
  have hc' : chR φ D (siI (dfS S1 p1 w) 29 p1 4 2 (nI w)) T' y p1 z w c := by
    refine ⟨by rw [hX]; exact h1, by rw [hX]; exact h2, ⟨by rw [s32]; exact h3, by rw [t51 0 (by omega)]; exact h3'⟩, ⟨by rw [s32]; exact h4, by rw [t51 1 (by omega)]; exact h4', h4''⟩, ⟨s29, t512, by omega⟩, ⟨by rw [s32]; exact h6, by rw [t51 4 (by omega)]; exact h6', h6''⟩, by rw [s32]; exact h7, fun i hi => ?_⟩
    rw [row31 i hi, row30 i hi, (tv i hi).1, (tv i hi).2]
    exact h8 (i + 1) (by omega)
  exact ⟨h.thing hD h1 (ag.mono (fun t i j z => by omega)) hX (by rw [(ag 11 0 0 (by omega)).1]) aT hc'.ob, gc2, hc'⟩
/-! the channel gets a value at its end -/
set_option maxHeartbeats 4000000 in
set_option linter.unusedSimpArgs false in
theorem wR.chp (h : wR φ D F N P S T A) (gc : gcR D S) (hD : D y) {p1 z w c : Nat} (hc : chR φ D S T y p1 z w c) (hw : w < z) {x v : Int64} {g kk : Int32} (hv : vr φ D x g kk v) :
    wR φ D F N P (rpush S p1 4 w x g) (siI (siL (siI T 52 (φ y) 0 w kk) 53 (φ y) 0 w v) 51 (φ y) 0 2 (nI (w + 1))) A ∧ gcR D (rpush S p1 4 w x g) ∧ chR φ D (rpush S p1 4 w x g) (siI (siL (siI T 52 (φ y) 0 w kk) 53 (φ y) 0 w v) 51 (φ y) 0 2 (nI (w + 1))) y p1 z (w + 1) c := by
  obtain ⟨h1, h2, ⟨h3, h3'⟩, ⟨h4, h4', h4''⟩, ⟨h5, h5', h5''⟩, ⟨h6, h6', h6''⟩, h7, h8⟩ := hc
  have hE := h.2.2.2.2.1.1
  have ow := h.2.2.2.2.2.2.2.2.2
  obtain ⟨gn, kn, g1, g2, g3, _⟩ := hv.ix (fun h z => (hE h z).1)
  have htg : ∀ q, q < w → ∃ g, S.1 31 p1 4 q = nI g ∧ g < 602 := fun q hq => by
    obtain ⟨g, _, q1, _, q2, _⟩ := (h8 q hq).ix (fun h z => (hE h z).1)
    exact ⟨g, q1, q2⟩
  have gc2 := gcR.push (x := x) gc ow hD h1 h5 (by omega) htg g3 (hv.gD (fun h z => (hE h z).1) g1 g3)
  rw [← g1] at gc2
  have aR : agr (fun t i j => 29 ≤ t ∧ t ≤ 31 ∧ i = p1 ∧ j = 4) S (rpush S p1 4 w x g) := agr.i (agr.i (agr.l (agr.refl _ _) _ _ (by omega)) _ _ (by omega)) _ _ (by omega)
  have aT : agr (fun t i j => (51 ≤ t ∧ t ≤ 53 ∧ i = φ y) ∨ (46 ≤ t ∧ t ≤ 50)) T (siI (siL (siI T 52 (φ y) 0 w kk) 53 (φ y) 0 w v) 51 (φ y) 0 2 (nI (w + 1))) := agr.i (agr.l (agr.i (agr.refl _ _) _ _ (by omega)) _ _ (by omega)) _ _ (by omega)
  have s32 := (aR 32 p1 0 (by omega)).1
  have t51 : ∀ k', k' ≠ 2 → (siI (siL (siI T 52 (φ y) 0 w kk) 53 (φ y) 0 w v) 51 (φ y) 0 2 (nI (w + 1))).1 51 (φ y) 0 k' = T.1 51 (φ y) 0 k' := fun k' hk' => by
    rw [gI, if_neg (by omega), gL1, siI_ne _ _ _ (by omega)]
  have hc' : chR φ D (rpush S p1 4 w x g) (siI (siL (siI T 52 (φ y) 0 w kk) 53 (φ y) 0 w v) 51 (φ y) 0 2 (nI (w + 1))) y p1 z (w + 1) c := by
    refine ⟨h1, h2, ⟨by rw [s32]; exact h3, by rw [t51 0 (by omega)]; exact h3'⟩, ⟨by rw [s32]; exact h4, by rw [t51 1 (by omega)]; exact h4', h4''⟩, ⟨siI_at _ _ _ _ _ _, siI_at _ _ _ _ _ _, by omega⟩, ⟨by rw [s32]; exact h6, by rw [t51 4 (by omega)]; exact h6', h6''⟩, by rw [s32]; exact h7, fun i hi => ?_⟩
    clear h gc gc2 aR aT s32 t51
    unfold rpush
    by_cases ci : i = w
    · subst ci
      simp (disch := first | assumption | omega) only [gI, gI2, gL, gL1, gL2, jcLT, jcGE, jcGT, jcLE, jcEQ, jcNE, dEQ, nIt, lgNE, lgEQ, lgGE, lgLT, lgGT, lgLE, jinT, nIc, nI0, nI1, nIo, nIs, nI_add, nIm, nIn0, szl0, szl1, szl2, szl3, szl4, szl5, Nat.add_sub_assoc, Nat.add_zero, Nat.reduceSub, Nat.reduceAdd, Nat.reduceMul, Nat.reduceEqDiff,  jifT, bdS, sifN, sifS, omN, omS, cdI, x25, x26, x27, x28, x29, x30, x31, x32, xr0, xr1, xr2, xr3, xr4, xr5, if_pos, if_neg, true_and, and_true, false_and, and_false, and_self, Bool.and_true, if_true, if_false, reduceIte, cond_true, cond_false, not_true_eq_false, not_false_eq_true]
      exact hv
    · have c8' := h8 i (by omega)
      simp (disch := first | assumption | omega) only [gI, gI2, gL, gL1, gL2, jcLT, jcGE, jcGT, jcLE, jcEQ, jcNE, dEQ, nIt, lgNE, lgEQ, lgGE, lgLT, lgGT, lgLE, jinT, nIc, nI0, nI1, nIo, nIs, nI_add, nIm, nIn0, szl0, szl1, szl2, szl3, szl4, szl5, Nat.add_sub_assoc, Nat.add_zero, Nat.reduceSub, Nat.reduceAdd, Nat.reduceMul, Nat.reduceEqDiff,  jifT, bdS, sifN, sifS, omN, omS, cdI, x25, x26, x27, x28, x29, x30, x31, x32, xr0, xr1, xr2, xr3, xr4, xr5, if_pos, if_neg, true_and, and_true, false_and, and_false, and_self, Bool.and_true, if_true, if_false, reduceIte, cond_true, cond_false, not_true_eq_false, not_false_eq_true]
      exact c8'
  exact ⟨h.thing hD h1 (aR.mono (fun t i j z => by omega)) rfl (by rw [(aR 11 0 0 (by omega)).1]) aT hc'.ob, gc2, hc'⟩
end CHN
