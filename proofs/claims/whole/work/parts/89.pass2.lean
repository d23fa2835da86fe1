/-! A value is passed on to the channel itself. -/
section PS3
variable {φ : Nat → Nat} {D : Nat → Prop} {F N : Nat} {P : aP} {S S' T T' : sS} {A : aS} {r d p f pc n m e b k y : Nat} {G : jG} {t : Nat}
/-! an object gets a value at its end -/
theorem gcR.push (g : gcR D S) (ow : own S) {h0 p1 w : Nat} (hD : D h0) (hp : S.2.2.1.2 h0 = some p1) (hw : S.1 29 p1 4 2 = nI w) (hw2 : w < 16) (htg : ∀ q, q < w → ∃ g, S.1 31 p1 4 q = nI g ∧ g < 602) {x : Int64} {gn : Nat} (hg : gn < 602) (hgD : ∀ y, gn = y + 2 → D y) : gcR D (rpush S p1 4 w x (nI gn)) := by
  have e29 : ∀ p', p' ≠ p1 → (rpush S p1 4 w x (nI gn)).1 29 p' 4 = S.1 29 p' 4 := fun p' h => by
    unfold rpush
    rw [siI_ne _ _ _ (by omega), siI_ne _ _ _ (by omega)]
    rfl
  have e31 : ∀ i', (rpush S p1 4 w x (nI gn)).1 31 p1 4 i' = if i' = w then nI gn else S.1 31 p1 4 i' := fun i' => by
    unfold rpush
    rw [siI_ne _ _ _ (by omega), gI]
    by_cases c : i' = w
    · rw [if_pos ⟨rfl, rfl, rfl, c⟩, if_pos c]
    · rw [if_neg (by omega), if_neg c]
      rfl
  have s29 : (rpush S p1 4 w x (nI gn)).1 29 p1 4 2 = nI (w + 1) := siI_at _ _ _ _ _ _
  refine g.row (S2 := rpush S p1 4 w x (nI gn)) hD hp ow.2.2.2.1 (fun t i j u v => ?_) (fun p' => ?_) (fun p' h => ⟨e29 p' h, ?_⟩) rfl (w' := w + 1) s29 (by omega) (fun i hi => ?_) (fun y hy => ?_) (fun _ y hy hy6 _ => ?_)
  · unfold rpush
    rw [siI_ne _ _ _ (by omega), siI_ne _ _ _ (by omega)]
    rfl
  · unfold rpush
    rw [siI_ne _ _ _ (by omega), siI_ne _ _ _ (by omega)]
    rfl
  · unfold rpush
    rw [siI_ne _ _ _ (by omega), siI_ne _ _ _ (by omega)]
    rfl
  · rw [e31]
    by_cases c : i = w
    · rw [if_pos c]; exact ⟨gn, rfl, hg⟩
    · rw [if_neg c]; exact htg i (by omega)
  · obtain ⟨p', w', q, y1, y2, y3, y4, y5, y6⟩ := hy
    have hpp : p' = p1 := by
      have : S.2.2.1.2 h0 = some p' := y1
      rw [hp] at this
      exact (Option.some.inj this).symm
    subst hpp
    have ew : w' = w + 1 := (nI_eq (by omega) (by omega)).mp (y2.symm.trans s29)
    subst ew
    rw [e31] at y5
    by_cases c : q = w
    · rw [if_pos c] at y5
      exact Or.inr (hgD y ((nI_eq (by omega) (by omega)).mp y5))
    · rw [if_neg c] at y5
      exact Or.inl ⟨p', w, q, hp, hw, by omega, by omega, y5, y6⟩
  · obtain ⟨p', w', q, y1, y2, y3, y4, y5, y6⟩ := hy
    have hpp : p' = p1 := by
      rw [hp] at y1
      exact (Option.some.inj y1).symm
    subst hpp
    have ew : w' = w := (nI_eq (by omega) (by omega)).mp (y2.symm.trans hw)
    subst ew
    refine ⟨p', w' + 1, q, hp, s29, by omega, by omega, ?_, y6⟩
    rw [e31, if_neg (by omega)]
    exact y5
theorem vr.gD {x v : Int64} {g k : Int32} (h : vr φ D x g k v) (hE : ∀ h, D h → h < 600) {gn : Nat} (hg : g = nI gn) (hg2 : gn < 602) : ∀ y, gn = y + 2 → D y := fun y hy => by
  rcases h with ⟨z1, _⟩ | ⟨z1, _⟩ | ⟨u, z0, z1, _⟩
  · rw [hg] at z1
    have := (nI_eq (by omega) (by omega)).mp z1
    omega
  · rw [hg] at z1
    have := (nI_eq (by omega) (by omega)).mp z1
    omega
  · have := hE u z0
    rw [hg] at z1
    have := (nI_eq (by omega) (by omega)).mp z1
    have : u = y := by omega
    exact this ▸ z0
set_option maxHeartbeats 4000000 in
set_option linter.unusedSimpArgs false in
theorem cx.pass2 (ht : 1000 < t) (h : cx φ D F N P S T A r d p f pc n m) (gc : gcR D S) (iq : iqR P A r False) (hpc : pc < P.2.2.2.1 f) (hW : A.2.2.2.2.2.1 + A.2.2.2.2.2.2 < 2147483648) {tk at_ : Nat} (htk : tk ≤ n) (hat : at_ < n) (hy : D y) {p1 z w c : Nat} (c1 : S.2.2.1.2 y = some p1) (c2 : S.2.2.2.1.2 p1 = true) (c3 : S.1 32 p1 0 1 = nI 3 ∧ T.1 51 (φ y) 0 0 = nI 3) (c4 : S.1 32 p1 0 2 = nI z ∧ T.1 51 (φ y) 0 1 = nI z ∧ z ≤ 8) (c5 : S.1 29 p1 4 2 = nI w ∧ T.1 51 (φ y) 0 2 = nI w) (c6 : S.1 32 p1 0 4 = nI c ∧ T.1 51 (φ y) 0 4 = nI c ∧ c ≤ 1) (c7 : S.1 32 p1 0 3 = nI (3 + z)) (c8 : ∀ i, i < w → vr φ D (S.2.1 30 p1 4 i) (S.1 31 p1 4 i) (T.1 52 (φ y) 0 i) (T.2.1 53 (φ y) 0 i)) (hwz : w < z) (hx : lw S A y 0 1 = none) :
    paR φ D F N P S T A r d p f pc n m tk (F_92 G t (p1, 0) (nI (y + 2)) (p, 1) (nI at_) S) (F_180 G t (nI (φ y)) (T.1 58 r d at_) (T.2.1 62 r d at_) (mpS T r d n tk)) := by
  obtain ⟨hM, o1, o2, hn, hr, d2, d3⟩ := h.rd
  obtain ⟨w0, wh, _, a1, a2, a3, a4⟩ := id h
  obtain ⟨iq1, iq2, iq3, iq9⟩ := iq
  have hy6 := w0.2.2.2.2.1.1 y hy
  have ow := w0.2.2.2.2.2.2.2.2.2
  have hE := h.D6
  have hv := h.fr.2.2.2.1.2.2.2 at_ hat
  obtain ⟨gn, kn, g1, g2, g3, _⟩ := hv.ix hE
  have lwC := w0.lwC (G := G) (t := t) (y := y) (sn := 0) (rc := 1) (by omega) hy6.1 (by omega) (by omega) hW
  rw [hx] at lwC
  have ec := e92n (G := G) (t := t) (S := S) (p := p) (p1 := p1) (w := w) (z := z) (n2 := n) (at_ := at_) lwC c2 c5.1 c4.1 (by omega) (by omega) hM o1 hn hat
  rw [if_pos hwz] at ec
  obtain ⟨v1', k1', m1', ow1'⟩ := w0.frm hr a1 a2 a3 (dr_ag S p (n - tk)) rfl (mp_ag T r d n tk) (mpS_2 _ _ _ _ _) (h.fr.pops tk)
  generalize hA0 : aset A r 1 (d + 1) (fset (A.2.2.1 r) d (f, pc, n - tk, m, 0)) = A0 at v1'
  have A01 : ∀ z, z ≠ r → A0.1 z = A.1 z ∧ A0.2.1 z = A.2.1 z ∧ A0.2.2.1 z = A.2.2.1 z := fun z hz => by
    subst hA0
    exact ⟨aset_1n _ _ _ _ hz, aset_2n _ _ _ _ hz, aset_3n _ _ _ _ hz⟩
  have A0r : A0.1 r = 1 ∧ A0.2.1 r = d + 1 ∧ A0.2.2.1 r d = (f, pc, n - tk, m, 0) := by
    subst hA0
    exact ⟨aset_1 _ _ _ _ _, aset_2 _ _ _ _ _, by rw [aset_3, fset_at]⟩
  have A0q : A0.2.2.2 = A.2.2.2 := by subst hA0; rfl
  have lws : lw (siI S 29 p 1 2 (nI (n - tk))) A0 y 0 1 = none := by
    rw [lw_same (A := A) (S := S) (S' := siI S 29 p 1 2 (nI (n - tk))) (r := r) (d := d) (p := p) a1 A0r.1 A01 (by rw [A0q]) ow rfl a3 (dr_ag S p (n - tk)), hx]
  have m51 : ∀ k', (mpS T r d n tk).1 51 (φ y) 0 k' = T.1 51 (φ y) 0 k' := fun k' => by rw [mpS_I _ _ _ _ (by omega) (by omega)]
  have lwM := v1'.lwM (G := G) (t := t) (y := y) (snd := 0) (by omega) hy (by rw [m51]; exact c3.2) (by omega) (by rw [A0q]; exact hW)
  rw [show 1 - 0 = 1 from rfl, lws, oI_n] at lwM
  have em : F_180 G t (nI (φ y)) (T.1 58 r d at_) (T.2.1 62 r d at_) (mpS T r d n tk) = some ((), siI (siL (siI (mpS T r d n tk) 52 (φ y) 0 w (T.1 58 r d at_)) 53 (φ y) 0 w (T.2.1 62 r d at_)) 51 (φ y) 0 2 (nI (w + 1))) := by
    have q1 := (m51 2).trans c5.2
    have q2 := hy6.2
    have q4 := c4.2.2
    have jl := jLm1
    rw [nI0] at jl
    clear v1' h gc w0 ec lwC lws c8 hv m51
    unfold F_180
    simp (disch := first | assumption | omega) only [gI, gI2, gL, gL1, gL2, jcLT, jcGE, jcGT, jcLE, jcEQ, jcNE, dEQ, nIt, lgNE, lgEQ, lgGE, lgLT, lgGT, lgLE, jinT, nIc, nI0, nI1, nIo, nIs, nI_add, nIm, nIn0, szl0, szl1, szl2, szl3, szl4, szl5, Nat.add_sub_assoc, Nat.add_zero, Nat.reduceSub, Nat.reduceAdd, Nat.reduceMul, Nat.reduceEqDiff,  jifT, bdS, sifN, sifS, omN, omS, cdI, x25, x26, x27, x28, x29, x30, x31, x32, xr0, xr1, xr2, xr3, xr4, xr5, if_pos, if_neg, true_and, and_true, false_and, and_false, and_self, Bool.and_true, if_true, if_false, reduceIte, cond_true, cond_false, not_true_eq_false, not_false_eq_true, x51, x52, x53, x54, x55, x56, x57, x58, x59, x60, x61, x62, x63, lwM, jl, q1]
  have aS3 : agr (fun t i j => (11 ≤ t ∧ t ≤ 17) ∨ (29 ≤ t ∧ t ≤ 31 ∧ i = p1 ∧ j = 4) ∨ (t = 32 ∧ i = p1)) (siI S 29 p 1 2 (nI (n - tk))) (rpush (siI S 29 p 1 2 (nI (n - tk))) p1 4 w (S.2.1 30 p 1 at_) (S.1 31 p 1 at_)) := agr.i (agr.i (agr.l (agr.refl _ _) _ _ (by omega)) _ _ (by omega)) _ _ (by omega)
  have aT3 : agr (fun t i j => (51 ≤ t ∧ t ≤ 53 ∧ i = φ y) ∨ (46 ≤ t ∧ t ≤ 50)) (mpS T r d n tk) (siI (siL (siI (mpS T r d n tk) 52 (φ y) 0 w (T.1 58 r d at_)) 53 (φ y) 0 w (T.2.1 62 r d at_)) 51 (φ y) 0 2 (nI (w + 1))) := agr.i (agr.l (agr.i (agr.refl _ _) _ _ (by omega)) _ _ (by omega)) _ _ (by omega)
  have ob' : obR φ D (rpush (siI S 29 p 1 2 (nI (n - tk))) p1 4 w (S.2.1 30 p 1 at_) (S.1 31 p 1 at_)) (siI (siL (siI (mpS T r d n tk) 52 (φ y) 0 w (T.1 58 r d at_)) 53 (φ y) 0 w (T.2.1 62 r d at_)) 51 (φ y) 0 2 (nI (w + 1))) y := by
    have s32 : (rpush (siI S 29 p 1 2 (nI (n - tk))) p1 4 w (S.2.1 30 p 1 at_) (S.1 31 p 1 at_)).1 32 p1 0 = S.1 32 p1 0 := by
      have aR : agr (fun t _ _ => 29 ≤ t ∧ t ≤ 31) S (rpush (siI S 29 p 1 2 (nI (n - tk))) p1 4 w (S.2.1 30 p 1 at_) (S.1 31 p 1 at_)) := agr.i (agr.i (agr.l (agr.i (agr.refl _ _) _ _ (by omega)) _ _ (by omega)) _ _ (by omega)) _ _ (by omega)
      exact (aR 32 p1 0 (by omega)).1
    have t51 : ∀ k', k' ≠ 2 → (siI (siL (siI (mpS T r d n tk) 52 (φ y) 0 w (T.1 58 r d at_)) 53 (φ y) 0 w (T.2.1 62 r d at_)) 51 (φ y) 0 2 (nI (w + 1))).1 51 (φ y) 0 k' = T.1 51 (φ y) 0 k' := fun k' hk' => by
      rw [gI, if_neg (by omega), gL1, siI_ne _ _ _ (by omega), m51]
    refine ⟨p1, 3, z, w + 1, c, c1, c2, ⟨by rw [s32]; exact c3.1, by rw [t51 0 (by omega)]; exact c3.2, Or.inr rfl⟩, ⟨by rw [s32]; exact c4.1, by rw [t51 1 (by omega)]; exact c4.2.1, by omega, fun _ => c4.2.2⟩, ⟨siI_at _ _ _ _ _ _, fun _ => siI_at _ _ _ _ _ _, by omega, fun q => by omega⟩, ⟨by rw [s32]; exact c6.1, by rw [t51 4 (by omega)]; exact c6.2.1, c6.2.2⟩, by rw [s32]; exact c7, fun i hi => ?_⟩
    have m52 : ∀ k', (mpS T r d n tk).1 52 (φ y) 0 k' = T.1 52 (φ y) 0 k' := fun k' => by rw [mpS_I _ _ _ _ (by omega) (by omega)]
    have m53 : ∀ k', (mpS T r d n tk).2.1 53 (φ y) 0 k' = T.2.1 53 (φ y) 0 k' := fun k' => by rw [mpS_L _ _ _ _ (by omega)]
    clear v1' h gc w0 ec lwC lws em aS3 aT3 s32 t51
    unfold rpush
    by_cases ci : i = w
    · subst ci
      simp (disch := first | assumption | omega) only [gI, gI2, gL, gL1, gL2, jcLT, jcGE, jcGT, jcLE, jcEQ, jcNE, dEQ, nIt, lgNE, lgEQ, lgGE, lgLT, lgGT, lgLE, jinT, nIc, nI0, nI1, nIo, nIs, nI_add, nIm, nIn0, szl0, szl1, szl2, szl3, szl4, szl5, Nat.add_sub_assoc, Nat.add_zero, Nat.reduceSub, Nat.reduceAdd, Nat.reduceMul, Nat.reduceEqDiff,  jifT, bdS, sifN, sifS, omN, omS, cdI, x25, x26, x27, x28, x29, x30, x31, x32, xr0, xr1, xr2, xr3, xr4, xr5, if_pos, if_neg, true_and, and_true, false_and, and_false, and_self, Bool.and_true, if_true, if_false, reduceIte, cond_true, cond_false, not_true_eq_false, not_false_eq_true]
      exact hv
    · have c8' := c8 i (by omega)
      simp (disch := first | assumption | omega) only [gI, gI2, gL, gL1, gL2, jcLT, jcGE, jcGT, jcLE, jcEQ, jcNE, dEQ, nIt, lgNE, lgEQ, lgGE, lgLT, lgGT, lgLE, jinT, nIc, nI0, nI1, nIo, nIs, nI_add, nIm, nIn0, szl0, szl1, szl2, szl3, szl4, szl5, Nat.add_sub_assoc, Nat.add_zero, Nat.reduceSub, Nat.reduceAdd, Nat.reduceMul, Nat.reduceEqDiff,  jifT, bdS, sifN, sifS, omN, omS, cdI, x25, x26, x27, x28, x29, x30, x31, x32, xr0, xr1, xr2, xr3, xr4, xr5, if_pos, if_neg, true_and, and_true, false_and, and_false, and_self, Bool.and_true, if_true, if_false, reduceIte, cond_true, cond_false, not_true_eq_false, not_false_eq_true, m52, m53]
      exact c8'
  have aR : agr (fun t _ _ => 29 ≤ t ∧ t ≤ 31) (siI S 29 p 1 2 (nI (n - tk))) (rpush (siI S 29 p 1 2 (nI (n - tk))) p1 4 w (S.2.1 30 p 1 at_) (S.1 31 p 1 at_)) := agr.i (agr.i (agr.l (agr.refl _ _) _ _ (by omega)) _ _ (by omega)) _ _ (by omega)
  have w2 := v1'.thing hy c1 aS3 rfl (by rw [(aR 11 0 0 (by omega)).1]) aT3 ob'
  have eS : siI (rpush S p1 4 w (S.2.1 30 p 1 at_) (S.1 31 p 1 at_)) 29 p 1 2 (nI (n - tk)) = rpush (siI S 29 p 1 2 (nI (n - tk))) p1 4 w (S.2.1 30 p 1 at_) (S.1 31 p 1 at_) := rp_c (by omega)
  have htg : ∀ q, q < w → ∃ g, (siI S 29 p 1 2 (nI (n - tk))).1 31 p1 4 q = nI g ∧ g < 602 := fun q hq => by
    rw [siI_ne _ _ _ (by omega)]
    obtain ⟨g, _, q1, _, q2, _⟩ := (c8 q hq).ix hE
    exact ⟨g, q1, q2⟩
  have gc2 := gcR.push (x := S.2.1 30 p 1 at_) (gc.keep k1'.hk) (ow.same rfl) hy c1 (by rw [siI_ne _ _ _ (by omega)]; exact c5.1) (by omega) htg g3 (hv.gD hE g1 g3)
  rw [← g1, ← eS] at gc2
  rw [← eS] at w2
  refine ⟨_, _, A0, ec, hM, ?_, em, ⟨w2, wh, hr, A0r.1, A0r.2.1, a3, A0r.2.2⟩, ⟨fun x hx' hxr => ?_, by rw [A0q]; exact iq2, fun x => ?_, ?_⟩, gc2, rfl, ?_, by rw [A0q]⟩
  · unfold rpush
    rw [siI_ne _ _ _ (by omega), siI_ne _ _ _ (by omega)]
    exact o1
  · rcases hxr with hxr | hxr
    · rw [(A01 x hxr).2.1, (A01 x hxr).2.2]
      exact iq1 x hx' (Or.inl hxr)
    · exact absurd hxr id
  · rw [A0q]
    by_cases c2 : x = r
    · subst c2
      exact ⟨fun q => absurd rfl ((iq3 x).mp q).2.2, fun q => absurd rfl q.2.2⟩
    · rw [(A01 x c2).1]
      exact iq3 x
  · by_cases c2 : 0 = r
    · have := A0r.1
      rw [← c2] at this
      rw [this]; exact Nat.one_ne_zero
    · rw [(A01 0 c2).1]; exact iq9
  · rw [siI_ne _ _ _ (by omega), gL1, siI_ne _ _ _ (by omega), mpS_I _ _ _ _ (by omega) (by omega)]
end PS3
