/-! CLOSE. -/
section CL3
variable {φ : Nat → Nat} {D : Nat → Prop} {F N : Nat} {P : aP} {S S' T T' : sS} {A : aS} {r d p f pc n m e b k y : Nat} {G : jG} {t : Nat}
theorem wR.e185 (ht : 1000 < t) (h : wR φ D F N P S T A) (hW : A.2.2.2.2.2.1 + A.2.2.2.2.2.2 < 2147483648) (hy : D y) (hkd : T.1 51 (φ y) 0 0 = nI 3) (u : Nat) : F_185_94 G t (u + 1) (nI (φ y)) T = match lw S A y 1 1 with
    | none => some ((), T)
    | some x => bif (cO S A x y 0 1).isSome then F_185_223 G t (F_185_94 G t u) (nI (φ y)) (nI x) (x, 0) (nI 0) T else F_185_223 G t (F_185_94 G t u) (nI (φ y)) (nI x) (x, 0) (nI 1) T := by
  have hy6 := h.2.2.2.2.1.1 y hy
  rw [F_185_94]
  refine l_185 (G := G) (t := t) (T := T) (k94 := F_185_94 G t u) (cc := nI (φ y)) (st := A.1) (w := A.2.2.2.2.1) (o := A.2.2.2.2.2.2) (m := fun s => (cO S A s y 1 1).isSome) (m1 := fun s => (cO S A s y 1 0).isSome) (m2 := fun s => (cO S A s y 0 1).isSome) (fun s => cO_or S A s y) (fun s hs => ⟨(h.2.1 s hs).2.1.2.1, (h.2.1 s hs).2.1.2.2⟩) (fun s hs h2 h4 => ⟨(h.mdl (snd := 1) (by omega) hs hy hkd (by omega) h2 h4).1, (h.mdl (snd := 0) (by omega) hs hy hkd (by omega) h2 h4).1⟩) (fun s hs hm => ?_) 16 0 none t (by omega) (by omega) (fun x z => by cases z)
  obtain ⟨e, k⟩ := h.cls (G := G) (t := t) (s := s) (by omega) hs hy6.1 (show 1 ≤ 1 by omega) (show 1 ≤ 1 by omega)
  obtain ⟨x, hx⟩ := Option.isSome_iff_exists.mp hm
  have := k x hx
  have w := (h.2.2.2.2.2.2.1.2 s hs this.2.1 this.2.2).1
  exact ⟨this.2, w.2.1, by omega⟩
set_option maxHeartbeats 4000000 in
set_option linter.unusedSimpArgs false in
theorem cx.cl1 (ht : 1000 < t) (h : cx φ D F N P S T A r d p f pc n m) (iq : iqR P A r False) (hW : A.2.2.2.2.2.1 + A.2.2.2.2.2.2 < 2147483648) (hy : D y) (hkd : T.1 51 (φ y) 0 0 = nI 3) {s : Nat} (hx : lw S A y 1 1 = some s) :
    ∃ S' T' A', (∀ u v, v < 16 → F_102_61 G t (u + 1) (nI (y + 2)) (nI v) S = F_102_61 G t u (nI (y + 2)) (nI (v + 1)) S') ∧ (∀ u, F_185_94 G t (u + 1) (nI (φ y)) T = F_185_94 G t u (nI (φ y)) T') ∧ clJ φ D F N P S T A r d p f pc n m y S' T' A' := by
  obtain ⟨w0, wh, hr, a1, a2, a3, a4⟩ := id h
  obtain ⟨iq1, iq2, iq3, iq9⟩ := id iq
  have hy6 := w0.2.2.2.2.1.1 y hy
  obtain ⟨st, c, dd, pp, k, n', f', pc', m', hs, hsr, e1, e2, e3, e4, e5, e6, e7, e8, e9, e10, e11, e12, e14, sp⟩ := w0.clw (t := t) (by omega) (fun s hs z => iq1 s hs (Or.inl z)) a1 hy6.1 hx
  obtain ⟨qa, qa1, qa2, qa3, qa4, qa5, qa6⟩ := w0.2.2.2.2.2.1
  have hq : ∀ x, x ∈ A.2.2.2.1 → x < 16 ∧ x ≠ s := fun x hx => by
    have z := (iq3 x).mp hx
    refine ⟨z.1, fun c => ?_⟩
    subst c
    omega
  have hlen : A.2.2.2.1.length < 16 := by
    have := nd_len 16 (r :: A.2.2.2.1) (List.nodup_cons.mpr ⟨fun c => ((iq3 r).mp c).2.2 rfl, iq2⟩) (fun y hy => by
      rcases List.mem_cons.mp hy with rfl | hy
      · exact hr
      · exact ((iq3 y).mp hy).1)
    rw [List.length_cons] at this
    omega
  have Rs := w0.2.1 s hs
  obtain ⟨pp', hp', fr⟩ := Rs.fr (d := dd) (by omega)
  have epp : pp' = pp := by rw [e5] at hp'; exact (Option.some.inj hp').symm
  subst epp
  rw [e6] at fr
  have s3 := Rs.2.2.1.1
  have t3 := Rs.2.2.1.2.1
  rw [e3] at s3 t3
  have s4 := Rs.2.1.1
  have t0 := Rs.2.1.2.1
  rw [e1] at s4 t0
  obtain ⟨_, _, pg, pq', _⟩ := w0.1.1
  have N15 := w0.1.1.2.1.2.2
  have F32 := w0.1.1.1.2.2
  -- the class
  have lwC := w0.lwC (G := G) (t := t) (y := y) (sn := 1) (rc := 1) (by omega) hy6.1 (by omega) (by omega) hW
  rw [hx] at lwC
  have e89 := (w0.cls (G := G) (t := t) (s := s) (y := y) (sn := 1) (rc := 1) (by omega) hs hy6.1 (by omega) (by omega)).1
  rw [e11, oI_s] at e89
  -- the reference
  have m94 : ∀ u b, ((b = 1 ∧ cO S A s y 1 0 = some k ∧ ∀ x, cO S A s y 0 1 = some x → st = 4 ∧ k < x) ∨ (b = 0 ∧ cO S A s y 0 1 = some k ∧ ∀ x, cO S A s y 1 0 = some x → st = 4 ∧ k < x)) → F_185_94 G t (u + 1) (nI (φ y)) T = F_185_275 G t (F_185_94 G t u) (nI (φ y)) (nI s) (s, 0) (nI b) T := fun u b hb => by
    rw [w0.e185 (G := G) ht hW hy hkd u, hx]
    dsimp only
    have q1 := w0.mdl (G := G) (t := t) (s := s) (snd := 1) (by omega) hs hy hkd (by omega) (by omega) (by omega)
    have q0 := w0.mdl (G := G) (t := t) (s := s) (snd := 0) (by omega) hs hy hkd (by omega) (by omega) (by omega)
    refine e185c (o1 := cO S A s y 1 0) (k := k) hs t0 (by omega) q1.1 (fun z => ⟨q1.2 (by omega), q0.2 (by omega)⟩) e12 (fun x hxx => ?_) hb
    rcases hxx with z | z
    · exact ((w0.cls (G := G) (t := t) (s := s) (y := y) (sn := 1) (rc := 0) (by omega) hs hy6.1 (by omega) (by omega)).2 x z).1
    · exact ((w0.cls (G := G) (t := t) (s := s) (y := y) (sn := 0) (rc := 1) (by omega) hs hy6.1 (by omega) (by omega)).2 x z).1
  have pr4 : st = 4 → c ≤ 4 ∧ ∃ f fi pc, T.1 56 s dd 0 = nI f ∧ f < 32 ∧ T.1 39 0 0 f = nI fi ∧ T.1 56 s dd 1 = nI (pc + 1) ∧ fi + pc < 1500 ∧ T.1 42 0 0 (fi + pc) &&& nI 7 = nI c := fun z => by
    obtain ⟨u1, u2, u2', u3', uk, q, u3, u4⟩ := e14 z
    have hb : P.2.2.1 f' + q < N := by
      have := (pg f' fr.2.1.2.2).2.2.2.2.2
      omega
    exact ⟨u2', f', P.2.2.1 f', q, fr.2.1.2.1, by have := fr.2.1.2.2; omega, (pg f' fr.2.1.2.2).2.2.1.2, by rw [← u3]; exact fr.2.2.1.2.1, by omega, by rw [(pq' _ hb).2.2]; exact u4⟩
  rcases sp with ⟨sp1, sp2, sp3, sp4⟩ | ⟨sp1, sp2, sp3, sp4⟩
  · -- a sender panics
    obtain ⟨S1, T1, S', T', A', g1, g2, g3, g4, g5, g6, g7, g8, g9, g10, g11, g12, g13, g14⟩ := w0.clp (G := G) ht wh (dw st c) hs e3 e1 e2 hlen e5 e6 hq
    have e101 := e101s (G := G) (t := t) (y := y) (st := st) (c := c) (k := k) hs s3 e4 e5 fr.1 s4 sp2 (fun z => ⟨(e14 z).1, (e14 z).2.2.1, (e14 z).2.2.2.1, (e14 z).2.2.2.2.1, sp3 z⟩) fr.2.2.2.1.1 e8 e89
    refine ⟨S', T', A', fun u v hv => ?_, fun u => ?_, cx.clI h iq hs hsr (by omega) g5 g6 g7 g8 g9 g10 g11 g12 (g13 _) g14⟩
    · have g3' := g3 (F_102_61 G t u) (nI (y + 2)) (nI v)
      clear h iq w0 Rs fr m94 pr4 e14 sp3 sp4 g3 g4 g5 g6 g7 g8 g9 hq
      rw [F_102_61]
      simp (disch := first | assumption | omega) only [gI, gI2, gL, gL1, gL2, jcLT, jcGE, jcGT, jcLE, jcEQ, jcNE, dEQ, nIt, lgNE, lgEQ, lgGE, lgLT, lgGT, lgLE, jinT, nIc, nI0, nI1, nIo, nIs, nI_add, nIm, nIn0, szl0, szl1, szl2, szl3, szl4, szl5, Nat.add_sub_assoc, Nat.add_zero, Nat.reduceSub, Nat.reduceAdd, Nat.reduceMul, Nat.reduceEqDiff,  jifT, bdS, sifN, sifS, omN, omS, cdI, x25, x26, x27, x28, x29, x30, x31, x32, xr0, xr1, xr2, xr3, xr4, xr5, if_pos, if_neg, true_and, and_true, false_and, and_false, and_self, Bool.and_true, if_true, if_false, reduceIte, cond_true, cond_false, not_true_eq_false, not_false_eq_true, lwC, Option.map_some, e101, g1, g3', F_102_121]
    · rw [m94 u 1 (Or.inl ⟨rfl, sp1, fun x z => ⟨(sp4 x z).1, (sp4 x z).2.1⟩⟩)]
      exact e185s hs e4 t3 t0 sp2 fr.2.2.2.1.2.1 e8 e9 pr4 qa4 hlen g2 g4
  · -- a receiver has a value
    have e10' := e10 (by omega)
    obtain ⟨A', w2, k2, z1, z2, z3, z4, z5⟩ := w0.give (s := s) (a := qa) (q := dw st c) (dd := dd) (pp := pp') (x := 0) (v := 0) (x2 := (nI (if st = 4 then k else 0)).toInt64) (g := nI 0) (kk := nI 0) hs e3 (by omega) qa1 qa2 hlen e5 (by rw [e6]; exact e9) (by rw [e6]; exact e10') (Or.inl ⟨rfl, rfl, rfl⟩) (by rw [e6]; exact ⟨rfl, e7⟩)
    rw [e6] at w2 k2
    dsimp only at w2 k2
    have e101 := e101r (G := G) (t := t) (y := y) (st := st) (c := c) (k := k) (fl := if st = 4 then k else 0) hs s3 e4 e5 fr.1 s4 sp2 (fun z => ⟨(e14 z).1, (e14 z).2.2.1, (e14 z).2.2.2.1, (e14 z).2.2.2.2.1, sp3 z⟩) fr.2.2.2.1.1 e8 e10' e89 rfl
    generalize hfl : (if st = 4 then k else 0) = fl at e101 w2 k2
    have eS : luS (rpush (rpush (siI (siI S 29 pp' 1 2 (nI (n' - dw st c))) 25 s 0 4 (nI 1)) pp' 1 (n' - dw st c) 0 (nI 0)) pp' 1 (n' - dw st c + 1) (nI fl).toInt64 (nI 0)) s qa A.2.2.2.1.length = luS (rpush (rpush (siI S 29 pp' 1 2 (nI (n' - dw st c))) pp' 1 (n' - dw st c) 0 (nI 0)) pp' 1 (n' - dw st c + 1) (nI fl).toInt64 (nI 0)) s qa A.2.2.2.1.length := by
      rw [luS_p, luS_p, luS_tw, luS_p, luS_p]
    rw [← eS] at w2 k2
    have ag : agr (fun t i j => (27 ≤ t ∧ t ≤ 31 ∧ i = pp' ∧ j < 4)) (siI (siI S 29 pp' 1 2 (nI (n' - dw st c))) 25 s 0 4 (nI 1)) (rpush (rpush (siI (siI S 29 pp' 1 2 (nI (n' - dw st c))) 25 s 0 4 (nI 1)) pp' 1 (n' - dw st c) 0 (nI 0)) pp' 1 (n' - dw st c + 1) (nI fl).toInt64 (nI 0)) := (rp_ag _ _ _ _ _).trans (rp_ag _ _ _ _ _)
    have hXX : (rpush (rpush (siI (siI S 29 pp' 1 2 (nI (n' - dw st c))) 25 s 0 4 (nI 1)) pp' 1 (n' - dw st c) 0 (nI 0)) pp' 1 (n' - dw st c + 1) (nI fl).toInt64 (nI 0)).2.2 = S.2.2 := rfl
    generalize rpush (rpush (siI (siI S 29 pp' 1 2 (nI (n' - dw st c))) 25 s 0 4 (nI 1)) pp' 1 (n' - dw st c) 0 (nI 0)) pp' 1 (n' - dw st c + 1) (nI fl).toInt64 (nI 0) = S1 at e101 w2 k2 ag hXX
    have b4 : S1.1 25 s 0 4 = nI 1 := by rw [(ag 25 s 0 (by omega)).1, siI_at]
    have b1 : S1.1 25 s 0 1 = nI s := by rw [(ag 25 s 0 (by omega)).1, gI, if_neg (by omega), siI_ne _ _ _ (by omega)]; exact Rs.1
    have b8 : ∀ k, S1.1 8 0 0 k = S.1 8 0 0 k := fun k => by rw [(ag 8 0 0 (by omega)).1, siI_ne _ _ _ (by omega), siI_ne _ _ _ (by omega)]
    have e22 := f_22 (G := G) (t := t) (S := S1) (s := s) (st := 1) hs b4 (by omega)
    rw [if_neg (by omega)] at e22
    have e30 := f_30 (G := G) (t := t) (S := S1) (s := s) (a := qa) (q := A.2.2.2.1.length) hs (by rw [b8]; exact qa1) (by rw [b8]; exact qa3) qa2 hlen b1
    refine ⟨_, _, A', fun u v hv => ?_, fun u => ?_, cx.clI h iq hs hsr (by omega) w2 k2 (Or.inl ⟨z1, z4⟩) z2 z3 z5 (fun x hx => hx.same hXX) ?_ ?_ (fun s' d _ => by show S1.2.2.1.1 s' d = _; rw [hXX])⟩
    · clear h iq w0 Rs fr m94 pr4 e14 sp3 sp4 hq w2 k2 z1 z2 z3 ag
      rw [F_102_61]
      simp (disch := first | assumption | omega) only [gI, gI2, gL, gL1, gL2, jcLT, jcGE, jcGT, jcLE, jcEQ, jcNE, dEQ, nIt, lgNE, lgEQ, lgGE, lgLT, lgGT, lgLE, jinT, nIc, nI0, nI1, nIo, nIs, nI_add, nIm, nIn0, szl0, szl1, szl2, szl3, szl4, szl5, Nat.add_sub_assoc, Nat.add_zero, Nat.reduceSub, Nat.reduceAdd, Nat.reduceMul, Nat.reduceEqDiff,  jifT, bdS, sifN, sifS, omN, omS, cdI, x25, x26, x27, x28, x29, x30, x31, x32, xr0, xr1, xr2, xr3, xr4, xr5, if_pos, if_neg, true_and, and_true, false_and, and_false, and_self, Bool.and_true, if_true, if_false, reduceIte, cond_true, cond_false, not_true_eq_false, not_false_eq_true, lwC, Option.map_some, e101, F_102_104, hXX, e22, e30, F_102_121]
    · rw [m94 u 0 (Or.inr ⟨rfl, sp1, fun x z => ⟨(sp4 x z).1, (sp4 x z).2.1⟩⟩)]
      have e179' := e179 (G := G) (t := t) (T := T) (s := s) (st := st) (c := c) (dd := dd) (q := A.2.2.2.1.length) (fl := fl) (kk := nI 0) (v := 0) (cc := nI (φ y)) (v7 := nI 0) (n := n') hs e4 t3 t0 sp2 qa4 hlen fr.2.2.2.1.2.1 e8 e9 e10' (fun z => by
        obtain ⟨u1, u2⟩ := pr4 z
        refine ⟨?_, u1, u2⟩
        have e173 := w0.e173 (G := G) (t := t) (T' := rdT T s A.2.2.2.1.length) (s := s) (y := y) (snd := 0) (by omega) hs hy hkd (by omega) (by omega) (agr.i (agr.i (agr.i (agr.refl _ _) _ _ (by omega)) _ _ (by omega)) _ _ (by omega)) (by
          unfold rdT
          rw [siI_ne _ _ _ (by omega), siI_ne _ _ _ (by omega), gI, if_neg (by omega)])
        rw [show 1 - 0 = 1 from rfl, sp1, oI_s] at e173
        rw [← hfl, if_pos z]
        exact e173) (fun z => by rw [← hfl, if_neg (by omega)])
      clear h iq w0 Rs fr m94 pr4 e14 sp3 sp4 hq w2 k2 z1 z2 z3 ag e101
      unfold F_185_275
      simp (disch := first | assumption | omega) only [gI, gI2, gL, gL1, gL2, jcLT, jcGE, jcGT, jcLE, jcEQ, jcNE, dEQ, nIt, lgNE, lgEQ, lgGE, lgLT, lgGT, lgLE, jinT, nIc, nI0, nI1, nIo, nIs, nI_add, nIm, nIn0, szl0, szl1, szl2, szl3, szl4, szl5, Nat.add_sub_assoc, Nat.add_zero, Nat.reduceSub, Nat.reduceAdd, Nat.reduceMul, Nat.reduceEqDiff,  jifT, bdS, sifN, sifS, omN, omS, cdI, x25, x26, x27, x28, x29, x30, x31, x32, xr0, xr1, xr2, xr3, xr4, xr5, if_pos, if_neg, true_and, and_true, false_and, and_false, and_self, Bool.and_true, if_true, if_false, reduceIte, cond_true, cond_false, not_true_eq_false, not_false_eq_true, x51, x52, x53, x54, x55, x56, x57, x58, x59, x60, x61, x62, x63, e179']
    · rw [(mu_ag _ _ _ _ _ _ 33 0 0 (by omega)).1, (mu_ag _ _ _ _ _ _ 33 0 0 (by omega)).1, siI_ne _ _ _ (by omega)]
      unfold rdT
      rw [gI, if_neg (by omega), siI_ne _ _ _ (by omega), siI_ne _ _ _ (by omega)]
    · rw [(mu_ag _ _ _ _ _ _ 51 _ 0 (by omega)).1, (mu_ag _ _ _ _ _ _ 51 _ 0 (by omega)).1, siI_ne _ _ _ (by omega)]
      unfold rdT
      rw [siI_ne _ _ _ (by omega), siI_ne _ _ _ (by omega), siI_ne _ _ _ (by omega)]
/-! all who wait -/
set_option maxHeartbeats 4000000 in
set_option linter.unusedSimpArgs false in
theorem cx.cls (ht : 1000 < t) (hy : D y) (gc0 : Prop) : ∀ j S T A v u u', cx φ D F N P S T A r d p f pc n m → gcR D S → iqR P A r False → A.2.2.2.2.2.1 + A.2.2.2.2.2.2 < 2147483648 → T.1 51 (φ y) 0 0 = nI 3 → wcn A.1 16 ≤ j → v + j < 16 → j < u → j < u' →
    ∃ S' T' A', F_102_61 G t u (nI (y + 2)) (nI v) S = some (nI 0, S') ∧ F_185_94 G t u' (nI (φ y)) T = some ((), T') ∧ cx φ D F N P S' T' A' r d p f pc n m ∧ gcR D S' ∧ iqR P A' r False ∧ (∀ x, rmR S x → rmR S' x) ∧ T'.1 33 0 0 38 = T.1 33 0 0 38 ∧ A'.2.2.2.2 = A.2.2.2.2 := by
  intro j
  induction j with
  | zero =>
    intro S T A v u u' h gc iq hW hkd hw hv hu hu'
    obtain ⟨u, rfl⟩ : ∃ z, u = z + 1 := ⟨u - 1, by omega⟩
    obtain ⟨u', rfl⟩ : ∃ z, u' = z + 1 := ⟨u' - 1, by omega⟩
    have hy6 := h.1.2.2.2.2.1.1 y hy
    cases hx : lw S A y 1 1 with
    | some s =>
      obtain ⟨S', T', A', _, _, c⟩ := h.cl1 (G := G) ht iq hW hy hkd hx
      have := c.2.2.2.2.2.2.2
      omega
    | none =>
      have lwC := h.1.lwC (G := G) (t := t) (y := y) (sn := 1) (rc := 1) (by omega) hy6.1 (by omega) (by omega) hW
      rw [hx] at lwC
      have em := h.1.e185 (G := G) ht hW hy hkd u'
      rw [hx] at em
      refine ⟨S, T, A, ?_, em, h, gc, iq, fun _ z => z, rfl, rfl⟩
      clear h gc iq em
      rw [F_102_61]
      simp (disch := first | assumption | omega) only [gI, gI2, gL, gL1, gL2, jcLT, jcGE, jcGT, jcLE, jcEQ, jcNE, dEQ, nIt, lgNE, lgEQ, lgGE, lgLT, lgGT, lgLE, jinT, nIc, nI0, nI1, nIo, nIs, nI_add, nIm, nIn0, szl0, szl1, szl2, szl3, szl4, szl5, Nat.add_sub_assoc, Nat.add_zero, Nat.reduceSub, Nat.reduceAdd, Nat.reduceMul, Nat.reduceEqDiff,  jifT, bdS, sifN, sifS, omN, omS, cdI, x25, x26, x27, x28, x29, x30, x31, x32, xr0, xr1, xr2, xr3, xr4, xr5, if_pos, if_neg, true_and, and_true, false_and, and_false, and_self, Bool.and_true, if_true, if_false, reduceIte, cond_true, cond_false, not_true_eq_false, not_false_eq_true, lwC, Option.map_none]
  | succ j ih =>
    intro S T A v u u' h gc iq hW hkd hw hv hu hu'
    obtain ⟨u, rfl⟩ : ∃ z, u = z + 1 := ⟨u - 1, by omega⟩
    obtain ⟨u', rfl⟩ : ∃ z, u' = z + 1 := ⟨u' - 1, by omega⟩
    have hy6 := h.1.2.2.2.2.1.1 y hy
    cases hx : lw S A y 1 1 with
    | some s =>
      obtain ⟨S', T', A', e1, e2, c1, c2, c3, c4, c5, c6, c7, c8⟩ := h.cl1 (G := G) ht iq hW hy hkd hx
      obtain ⟨S2, T2, A2, g1, g2, g3, g4, g5, g6, g7, g8⟩ := ih S' T' A' (v + 1) u u' c1 (gc.keep c2) c3 (by rw [c6]; exact hW) (by rw [c7]; exact hkd) (by omega) (by omega) (by omega) (by omega)
      exact ⟨S2, T2, A2, (e1 u v (by omega)).trans g1, (e2 u').trans g2, g3, g4, g5, fun x z => g6 x (c4 x z), g7.trans c5, g8.trans c6⟩
    | none =>
      have lwC := h.1.lwC (G := G) (t := t) (y := y) (sn := 1) (rc := 1) (by omega) hy6.1 (by omega) (by omega) hW
      rw [hx] at lwC
      have em := h.1.e185 (G := G) ht hW hy hkd u'
      rw [hx] at em
      refine ⟨S, T, A, ?_, em, h, gc, iq, fun _ z => z, rfl, rfl⟩
      clear h gc iq em ih
      rw [F_102_61]
      simp (disch := first | assumption | omega) only [gI, gI2, gL, gL1, gL2, jcLT, jcGE, jcGT, jcLE, jcEQ, jcNE, dEQ, nIt, lgNE, lgEQ, lgGE, lgLT, lgGT, lgLE, jinT, nIc, nI0, nI1, nIo, nIs, nI_add, nIm, nIn0, szl0, szl1, szl2, szl3, szl4, szl5, Nat.add_sub_assoc, Nat.add_zero, Nat.reduceSub, Nat.reduceAdd, Nat.reduceMul, Nat.reduceEqDiff,  jifT, bdS, sifN, sifS, omN, omS, cdI, x25, x26, x27, x28, x29, x30, x31, x32, xr0, xr1, xr2, xr3, xr4, xr5, if_pos, if_neg, true_and, and_true, false_and, and_false, and_self, Bool.and_true, if_true, if_false, reduceIte, cond_true, cond_false, not_true_eq_false, not_false_eq_true, lwC, Option.map_none]
end CL3
