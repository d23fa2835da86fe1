/-! A value is passed on: in all. -/
section PS2
variable {φ : Nat → Nat} {D : Nat → Prop} {F N : Nat} {P : aP} {S S' T T' : sS} {A : aS} {r d p f pc n m e b k y : Nat} {G : jG} {t : Nat}
/-! the value at at_ was passed on, tk operands are dropped; R: the class's passOn, M: the reference's sent -/
def paR (φ : Nat → Nat) (D : Nat → Prop) (F N : Nat) (P : aP) (S T : sS) (A : aS) (r d p f pc n m tk : Nat) (R : Option (Int32 × sS)) (M : Option (Unit × sS)) : Prop :=
  ∃ S1 T2 A', R = some (nI 1, S1) ∧ S1.2.2.2.1.1 p = true ∧ S1.1 29 p 1 2 = nI n ∧ M = some ((), T2) ∧ cx φ D F N P (siI S1 29 p 1 2 (nI (n - tk))) T2 A' r d p f pc (n - tk) m ∧ iqR P A' r False ∧ gcR D (siI S1 29 p 1 2 (nI (n - tk))) ∧ S1.2.2 = S.2.2 ∧ T2.1 33 0 0 38 = T.1 33 0 0 38 ∧ A'.2.2.2.2 = A.2.2.2.2
set_option maxHeartbeats 4000000 in
set_option linter.unusedSimpArgs false in
theorem cx.pass1 (ht : 1000 < t) (h : cx φ D F N P S T A r d p f pc n m) (gc : gcR D S) (iq : iqR P A r False) (hpc : pc < P.2.2.2.1 f) (hW : A.2.2.2.2.2.1 + A.2.2.2.2.2.2 < 2147483648) {tk at_ : Nat} (htk : tk ≤ n) (hat : at_ < n) (hy : D y) (hkd : T.1 51 (φ y) 0 0 = nI 3) {s : Nat} (hx : lw S A y 0 1 = some s) {v1 : Nat × Nat} :
    paR φ D F N P S T A r d p f pc n m tk (F_92 G t v1 (nI (y + 2)) (p, 1) (nI at_) S) (F_180 G t (nI (φ y)) (T.1 58 r d at_) (T.2.1 62 r d at_) (mpS T r d n tk)) := by
  obtain ⟨hM, o1, o2, hn, hr, d2, d3⟩ := h.rd
  obtain ⟨w0, wh, _, a1, a2, a3, a4⟩ := id h
  obtain ⟨iq1, iq2, iq3, iq9⟩ := iq
  have hy6 := w0.2.2.2.2.1.1 y hy
  have ow := w0.2.2.2.2.2.2.2.2.2
  obtain ⟨st, c, dd, pp, fl, n', f', pc', m', hs, hsr, e1, e2, e3, e4, e5, e6, e7, e8, e9, e10, e11, e12, e13, e14⟩ := w0.rcv (t := t) (by omega) (fun s hs z => iq1 s hs (Or.inl z)) a1 hy6.1 hx
  have hv := h.fr.2.2.2.1.2.2.2 at_ hat
  have hpp : p ≠ pp := fun z => by
    subst z
    exact hsr (ow.2.1 _ _ _ _ _ e5 a3).1
  obtain ⟨qa, qa1, qa2, qa3, qa4, qa5, qa6⟩ := w0.2.2.2.2.2.1
  have hlen : A.2.2.2.1.length < 16 := by
    have := nd_len 16 (r :: A.2.2.2.1) (List.nodup_cons.mpr ⟨fun c => ((iq3 r).mp c).2.2 rfl, iq2⟩) (fun y hy => by
      rcases List.mem_cons.mp hy with rfl | hy
      · exact hr
      · exact ((iq3 y).mp hy).1)
    rw [List.length_cons] at this
    omega
  have Rs := w0.2.1 s hs
  obtain ⟨pp', hp', fr⟩ := Rs.fr (d := dd) (by omega)
  have epp : pp' = pp := by rw [e5] at hp'; exact (Option.some.inj hp').symm
  subst epp
  rw [e6] at fr
  have s3 := Rs.2.2.1.1
  rw [e3] at s3
  have st4 := Rs.2.1.1
  rw [e1] at st4
  have hst24 : 2 ≤ st ∧ st ≤ 4 := by
    rcases e2 with z | z
    · rw [z]; decide
    · rw [z]; decide
  -- the class
  have lwC := w0.lwC (G := G) (t := t) (y := y) (sn := 0) (rc := 1) (by omega) hy6.1 (by omega) (by omega) hW
  rw [hx] at lwC
  have ec := e92 (G := G) (t := t) (S := S) (p := p) (v1 := v1) (k1 := 0) (o := none) (s := s) (st := st) (c := c) (pp := pp') (dd := dd) (q1 := qa) (q2 := A.2.2.2.1.length) (n2 := n) (at_ := at_) (n := n') (fl := fl) hs lwC s3 e4 e5 fr.1 st4 hst24 (fun z => ⟨(e14 z).1, (e14 z).2.1⟩) fr.2.2.2.1.1 e8 e9 e10 (fun z => by
    have := (w0.cls (G := G) (t := t) (s := s) (y := y) (sn := 0) (rc := 1) (by omega) hs hy6.1 (by omega) (by omega)).1
    rw [e11, if_pos z, oI_s] at this
    exact this) e12 hM hpp o1 hn hat qa1 qa3 qa2 hlen Rs.1
  -- the sender's operands
  obtain ⟨v1', k1', m1', ow1'⟩ := w0.frm hr a1 a2 a3 (dr_ag S p (n - tk)) rfl (mp_ag T r d n tk) (mpS_2 _ _ _ _ _) (h.fr.pops tk)
  generalize hA0 : aset A r 1 (d + 1) (fset (A.2.2.1 r) d (f, pc, n - tk, m, 0)) = A0 at v1'
  have A01 : ∀ z, z ≠ r → A0.1 z = A.1 z ∧ A0.2.1 z = A.2.1 z ∧ A0.2.2.1 z = A.2.2.1 z := fun z hz => by
    subst hA0
    exact ⟨aset_1n _ _ _ _ hz, aset_2n _ _ _ _ hz, aset_3n _ _ _ _ hz⟩
  have A0r : A0.1 r = 1 ∧ A0.2.1 r = d + 1 ∧ A0.2.2.1 r d = (f, pc, n - tk, m, 0) := by
    subst hA0
    exact ⟨aset_1 _ _ _ _ _, aset_2 _ _ _ _ _, by rw [aset_3, fset_at]⟩
  have A0q : A0.2.2.2 = A.2.2.2 := by subst hA0; rfl
  obtain ⟨y1, y2, y3⟩ := A01 s hsr
  have lws : lw (siI S 29 p 1 2 (nI (n - tk))) A0 y 0 1 = some s := by
    rw [lw_same (A := A) (S := S) (S' := siI S 29 p 1 2 (nI (n - tk))) (r := r) (d := d) (p := p) a1 A0r.1 A01 (by rw [A0q]) ow rfl a3 (dr_ag S p (n - tk)), hx]
  have kd' : (mpS T r d n tk).1 51 (φ y) 0 0 = nI 3 := by rw [mpS_I _ _ _ _ (by omega) (by omega)]; exact hkd
  have lwM := v1'.lwM (G := G) (t := t) (y := y) (snd := 0) (by omega) hy kd' (by omega) (by rw [A0q]; exact hW)
  rw [show 1 - 0 = 1 from rfl, lws, oI_s] at lwM
  -- who waits gets it
  have g6 : A0.2.2.1 s dd = (f', pc', n', m', 0) := by rw [y3]; exact e6
  obtain ⟨A', w2, k2, z1, z2, z3, z4, z5⟩ := v1'.give (s := s) (a := qa) (q := dw st c) (dd := dd) (pp := pp') (x := S.2.1 30 p 1 at_) (v := T.2.1 62 r d at_) (x2 := (nI fl).toInt64) (g := S.1 31 p 1 at_) (kk := T.1 58 r d at_) hs (by rw [y2]; exact e3) (by rw [y1, e1]; exact ⟨Nat.le_trans (by decide) hst24.1, hst24.2⟩) (by rw [siI_ne _ _ _ (by omega)]; exact qa1) qa2 (by rw [A0q]; exact hlen) e5 (by rw [g6]; exact e9) (by rw [g6]; exact e10) hv (by rw [g6]; exact ⟨rfl, e7⟩)
  rw [g6, A0q] at w2 k2
  dsimp only at w2 k2
  have eS : siI (luS (rpush (rpush (siI S 29 pp' 1 2 (nI (n' - dw st c))) pp' 1 (n' - dw st c) (S.2.1 30 p 1 at_) (S.1 31 p 1 at_)) pp' 1 (n' - dw st c + 1) (nI fl).toInt64 (nI 0)) s qa A.2.2.2.1.length) 29 p 1 2 (nI (n - tk)) = luS (rpush (rpush (siI (siI S 29 p 1 2 (nI (n - tk))) 29 pp' 1 2 (nI (n' - dw st c))) pp' 1 (n' - dw st c) (S.2.1 30 p 1 at_) (S.1 31 p 1 at_)) pp' 1 (n' - dw st c + 1) (nI fl).toInt64 (nI 0)) s qa A.2.2.2.1.length := by
    rw [← luS_I (by omega) (by omega) (by omega), rp_c (by omega), rp_c (by omega), siI_comm S _ _ _ _ (show ¬ (29 = 29 ∧ pp' = p ∧ 1 = 1) by omega)]
  rw [← eS] at w2 k2
  -- the reference
  have em : F_180 G t (nI (φ y)) (T.1 58 r d at_) (T.2.1 62 r d at_) (mpS T r d n tk) = some ((), mpu (mpu (siI (rdT (mpS T r d n tk) s A.2.2.2.1.length) 56 s dd 2 (nI (n' - dw st c))) s dd (n' - dw st c) (T.1 58 r d at_) (T.2.1 62 r d at_)) s dd (n' - dw st c + 1) (nI 0) (nI fl).toInt64) := by
    have Rs' := v1'.2.1 s hs
    obtain ⟨pq, hpq, frq⟩ := Rs'.fr (d := dd) (by rw [y2]; omega)
    rw [g6] at frq
    have t3' := Rs'.2.2.1.2.1
    rw [y2, e3] at t3'
    have t0' := Rs'.2.1.2.1
    rw [y1, e1] at t0'
    obtain ⟨_, _, pg, pq', _⟩ := v1'.1.1
    have e179' := e179 (G := G) (t := t) (T := mpS T r d n tk) (s := s) (st := st) (c := c) (dd := dd) (q := A.2.2.2.1.length) (fl := fl) (kk := T.1 58 r d at_) (v := T.2.1 62 r d at_) (cc := nI (φ y)) (v7 := nI 1) (n := n') hs e4 t3' t0' e2 (by rw [mpS_I _ _ _ _ (by omega) (by omega)]; exact qa4) hlen frq.2.2.2.1.2.1 e8 e9 e10 (fun z => by
      obtain ⟨u1, u2, q, u3, u4⟩ := e14 z
      have cc : cO (siI S 29 p 1 2 (nI (n - tk))) A0 s y 0 1 = some fl := by
        have := (v1'.cls (G := G) (t := t) (s := s) (y := y) (sn := 0) (rc := 1) (by omega) hs hy6.1 (by omega) (by omega)).1
        have e89 := (w0.cls (G := G) (t := t) (s := s) (y := y) (sn := 0) (rc := 1) (by omega) hs hy6.1 (by omega) (by omega)).1
        have q1 : cO (siI S 29 p 1 2 (nI (n - tk))) A0 s y 0 1 = cO S A s y 0 1 := by
          rw [cO_e (S := siI S 29 p 1 2 (nI (n - tk))) (A := A0) (d := dd) (p := pp') (by rw [y2]; exact e3) e5, cO_e (A := A) e3 e5, y3, y1]
          unfold csO csf
          rw [siI_ne _ _ _ (show ¬ (31 = 29 ∧ pp' = p ∧ 1 = 1) by omega), siI_ne _ _ _ (show ¬ (25 = 29 ∧ s = p ∧ 0 = 1) by omega)]
          rfl
        rw [q1, e11, if_pos z]
      refine ⟨?_, u2, f', P.2.2.1 f', q, frq.2.1.2.1, by have := frq.2.1.2.2; have := v1'.1.1.1.2.2; omega, (pg f' frq.2.1.2.2).2.2.1.2, by rw [← u3]; exact frq.2.2.1.2.1, ?_, ?_⟩
      · have e173 := v1'.e173 (G := G) (t := t) (T' := rdT (mpS T r d n tk) s A.2.2.2.1.length) (s := s) (y := y) (snd := 0) (by omega) hs hy kd' (by omega) (by rw [y1, e1]; exact z) (agr.i (agr.i (agr.i (agr.refl _ _) _ _ (by omega)) _ _ (by omega)) _ _ (by omega)) (by
          unfold rdT
          rw [siI_ne _ _ _ (by omega), siI_ne _ _ _ (by omega), gI, if_neg (by omega)])
        rw [show 1 - 0 = 1 from rfl, cc, oI_s] at e173
        exact e173
      · have := (pg f' frq.2.1.2.2).2.2.2.2.2
        have := v1'.1.1.2.1.2.2
        omega
      · have hb : P.2.2.1 f' + q < N := by
          have := (pg f' frq.2.1.2.2).2.2.2.2.2
          omega
        rw [(pq' _ hb).2.2]
        exact u4) (fun z => by rw [e12 (by omega)])
    clear w2 k2 eS ec lwC v1' h gc w0
    unfold F_180
    simp (disch := first | assumption | omega) only [gI, gI2, gL, gL1, gL2, jcLT, jcGE, jcGT, jcLE, jcEQ, jcNE, dEQ, nIt, lgNE, lgEQ, lgGE, lgLT, lgGT, lgLE, jinT, nIc, nI0, nI1, nIo, nIs, nI_add, nIm, nIn0, szl0, szl1, szl2, szl3, szl4, szl5, Nat.add_sub_assoc, Nat.add_zero, Nat.reduceSub, Nat.reduceAdd, Nat.reduceMul, Nat.reduceEqDiff,  jifT, bdS, sifN, sifS, omN, omS, cdI, x25, x26, x27, x28, x29, x30, x31, x32, xr0, xr1, xr2, xr3, xr4, xr5, if_pos, if_neg, true_and, and_true, false_and, and_false, and_self, Bool.and_true, if_true, if_false, reduceIte, cond_true, cond_false, not_true_eq_false, not_false_eq_true, x51, x52, x53, x54, x55, x56, x57, x58, x59, x60, x61, x62, x63, lwM, e179']
  refine ⟨_, _, A', ec, hM, ?_, em, ⟨w2, wh, hr, ?_, ?_, ?_, ?_⟩, ⟨fun x hx' hxr => ?_, ?_, fun x => ?_, ?_⟩, gc.keep (k1'.hk.trans k2), rfl, ?_, by rw [z5, A0q]⟩
  · have ag : agr (fun t i j => (t = 25 ∧ i = s ∧ j = 0) ∨ t = 10 ∨ t = 8 ∨ (27 ≤ t ∧ t ≤ 31 ∧ i = pp' ∧ j < 4)) S (luS (rpush (rpush (siI S 29 pp' 1 2 (nI (n' - dw st c))) pp' 1 (n' - dw st c) (S.2.1 30 p 1 at_) (S.1 31 p 1 at_)) pp' 1 (n' - dw st c + 1) (nI fl).toInt64 (nI 0)) s qa A.2.2.2.1.length) := agr.i (agr.i (agr.i ((((dr_ag _ _ _).trans (rp_ag _ _ _ _ _)).trans (rp_ag _ _ _ _ _)).mono (fun t i j z => by omega)) _ _ (by omega)) _ _ (by omega)) _ _ (by omega)
    rw [(ag 29 p 1 (by omega)).1]
    exact o1
  · rw [(z3 r hsr.symm).1]; exact A0r.1
  · rw [(z3 r hsr.symm).2.1]; exact A0r.2.1
  · exact a3
  · rw [(z3 r hsr.symm).2.2]; exact A0r.2.2
  · by_cases c' : x = s
    · subst c'; exact z2
    · rw [(z3 x c').2.1, (z3 x c').2.2]
      rcases hxr with hxr | hxr
      · rw [(A01 x hxr).2.1, (A01 x hxr).2.2]
        exact iq1 x hx' (Or.inl hxr)
      · exact absurd hxr id
  · rw [z4, A0q]
    rw [List.nodup_append]
    refine ⟨iq2, List.nodup_cons.mpr ⟨List.not_mem_nil, List.nodup_nil⟩, fun a ha b hb => ?_⟩
    rw [List.mem_singleton] at hb
    subst hb
    intro c'
    subst c'
    have := ((iq3 a).mp ha).2.1
    rw [e1] at this
    exact absurd (this ▸ hst24.1) (by decide)
  · rw [z4, A0q, List.mem_append, List.mem_singleton]
    by_cases c' : x = s
    · subst c'
      exact ⟨fun _ => ⟨hs, z1, hsr⟩, fun _ => Or.inr rfl⟩
    · rw [(z3 x c').1]
      by_cases c2 : x = r
      · subst c2
        exact ⟨fun q => q.elim (fun q => absurd rfl ((iq3 x).mp q).2.2) (fun q => absurd q c'), fun q => absurd rfl q.2.2⟩
      · rw [(A01 x c2).1]
        exact ⟨fun q => q.elim (iq3 x).mp (fun q => absurd q c'), fun q => Or.inl ((iq3 x).mpr q)⟩
  · by_cases c' : 0 = s
    · have := z1
      rw [← c'] at this
      rw [this]; exact Nat.one_ne_zero
    · rw [(z3 0 c').1]
      by_cases c2 : 0 = r
      · have := A0r.1
        rw [← c2] at this
        rw [this]; exact Nat.one_ne_zero
      · rw [(A01 0 c2).1]; exact iq9
  · rw [(mu_ag _ _ _ _ _ _ 33 0 0 (by omega)).1, (mu_ag _ _ _ _ _ _ 33 0 0 (by omega)).1, siI_ne _ _ _ (by omega)]
    unfold rdT
    rw [gI, if_neg (by omega), siI_ne _ _ _ (by omega), siI_ne _ _ _ (by omega), mpS_I _ _ _ _ (by omega) (by omega)]
end PS2
