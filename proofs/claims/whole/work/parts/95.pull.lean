/-! What a receiver gets, where the channel holds nothing. -/
section PLL
variable {φ : Nat → Nat} {D : Nat → Prop} {F N : Nat} {P : aP} {S S' T T' : sS} {A : aS} {r d p f pc n m e b k y : Nat} {G : jG} {t : Nat}
def plR (φ : Nat → Nat) (D : Nat → Prop) (F N : Nat) (P : aP) (S T : sS) (A : aS) (r d p f pc k m : Nat) (R : Option (Int32 × sS)) (M : Option (Unit × sS)) : Prop :=
  ∃ S2 T1 A' fl, R = some (nI fl, S2) ∧ fl ≤ 1 ∧ M = some ((), T1) ∧ T1.1 33 0 0 36 = nI fl ∧ cx φ D F N P S2 (mpu T1 r d k (T1.1 33 0 0 35) (T1.2.1 33 0 0 37)) A' r d p f pc (k + 1) m ∧ gcR D S2 ∧ iqR P A' r False ∧ S2.2.2 = S.2.2 ∧ T1.1 33 0 0 38 = T.1 33 0 0 38 ∧ A'.2.2.2.2 = A.2.2.2.2 ∧ T1.1 56 r d 2 = nI k ∧ T1.1 54 r 0 1 = nI (d + 1)
theorem tm36 (T : sS) (x : Int32) : agr (fun t _ _ => t = 33 ∨ (46 ≤ t ∧ t ≤ 50)) T (siI T 33 0 0 36 x) ∧ (∀ k, k ≠ 36 → (siI T 33 0 0 36 x).1 33 0 0 k = T.1 33 0 0 k) := ⟨agr.i (agr.refl _ _) _ _ (by omega), fun k h => by rw [gI, if_neg (by omega)]⟩
/-! nobody sends: a closed channel -/
set_option maxHeartbeats 4000000 in
set_option linter.unusedSimpArgs false in
theorem cx.pullA (ht : 1000 < t) (h : cx φ D F N P S T A r d p f pc k m) (gc : gcR D S) (iq : iqR P A r False) (hW : A.2.2.2.2.2.1 + A.2.2.2.2.2.2 < 2147483648) (hk : k < 16) (hy : D y) {p1 z c : Nat} (hc : chR φ D S T y p1 z 0 c) (hl : lw S A y 1 0 = none) :
    plR φ D F N P S T A r d p f pc k m (F_99 G t (p1, 0) (nI (y + 2)) (p, 1) S) (F_183 G t (nI (φ y)) T) := by
  obtain ⟨hM, o1, o2, hn, hr, d2, d3⟩ := h.rd
  obtain ⟨c1, c2, ⟨c3, c3'⟩, _, ⟨c5, c5', _⟩, _⟩ := hc
  have hy6 := h.1.2.2.2.2.1.1 y hy
  have lwC := h.1.lwC (G := G) (t := t) (y := y) (sn := 1) (rc := 0) (by omega) hy6.1 (by omega) (by omega) hW
  rw [hl] at lwC
  have e4 : F_78 G t (p, 1) 0 (nI 0) S = some ((), rpush S p 1 k 0 (nI 0)) := f_78 ⟨xr1 hM, o1, show k ≤ 16 by omega⟩ (show k < 16 by omega)
  obtain ⟨m1, m2⟩ := tm36 T (nI 1)
  have w1 := h.1.tmp m1 (fun k hk => m2 k (by omega)) rfl
  have lwM := w1.lwM (G := G) (t := t) (y := y) (snd := 1) (by omega) hy (by rw [(m1 51 (φ y) 0 (by omega)).1]; exact c3') (by omega) hW
  rw [show 1 - 1 = 0 from rfl, hl, oI_n] at lwM
  have t512 : (siI T 33 0 0 36 (nI 1)).1 51 (φ y) 0 2 = nI 0 := by rw [siI_ne _ _ _ (by omega)]; exact c5'
  have jl := jLm1
  rw [nI0] at jl
  have aT : agr (fun t _ _ => t = 33 ∨ (46 ≤ t ∧ t ≤ 50)) T (siI (siL (siI (siI T 33 0 0 36 (nI 1)) 33 0 0 35 (nI 0)) 33 0 0 37 0) 33 0 0 36 (nI 0)) := agr.i (agr.l (agr.i (agr.i (agr.refl _ _) _ _ (by omega)) _ _ (by omega)) _ _ (by omega)) _ _ (by omega)
  have h33 : ∀ k, k ≤ 24 ∨ k = 38 → (siI (siL (siI (siI T 33 0 0 36 (nI 1)) 33 0 0 35 (nI 0)) 33 0 0 37 0) 33 0 0 36 (nI 0)).1 33 0 0 k = T.1 33 0 0 k := fun k hk => by rw [gI, if_neg (by omega), gL1, gI, if_neg (by omega), gI, if_neg (by omega)]
  have h2 := h.tmp aT (fun k hk => h33 k (Or.inl hk)) (by rw [gI2, gL, if_neg (by omega)]; rfl)
  obtain ⟨h3, k3⟩ := h2.pu (x := 0) (v := 0) (g := nI 0) (kk := nI 0) hk (Or.inl ⟨rfl, rfl, rfl⟩)
  have g35 : (siI (siL (siI (siI T 33 0 0 36 (nI 1)) 33 0 0 35 (nI 0)) 33 0 0 37 0) 33 0 0 36 (nI 0)).1 33 0 0 35 = nI 0 := by rw [gI, if_neg (by omega), gL1, siI_at]
  have g37 : (siI (siL (siI (siI T 33 0 0 36 (nI 1)) 33 0 0 35 (nI 0)) 33 0 0 37 0) 33 0 0 36 (nI 0)).2.1 33 0 0 37 = 0 := by rw [gI2, gL, if_pos ⟨rfl, rfl, rfl, rfl⟩]
  refine ⟨rpush S p 1 k 0 (nI 0), siI (siL (siI (siI T 33 0 0 36 (nI 1)) 33 0 0 35 (nI 0)) 33 0 0 37 0) 33 0 0 36 (nI 0), aset A r 1 (d + 1) (fset (A.2.2.1 r) d (f, pc, k + 1, m, 0)), 0, ?_, by omega, ?_, siI_at _ _ _ _ _ _, ?_, gc.keep k3, iq.set, rfl, h33 38 (Or.inr rfl), rfl, ?_, ?_⟩
  · clear h gc iq w1 lwM aT h2 h3
    unfold F_99
    simp (disch := first | assumption | omega) only [gI, gI2, gL, gL1, gL2, jcLT, jcGE, jcGT, jcLE, jcEQ, jcNE, dEQ, nIt, lgNE, lgEQ, lgGE, lgLT, lgGT, lgLE, jinT, nIc, nI0, nI1, nIo, nIs, nI_add, nIm, nIn0, szl0, szl1, szl2, szl3, szl4, szl5, Nat.add_sub_assoc, Nat.add_zero, Nat.reduceSub, Nat.reduceAdd, Nat.reduceMul, Nat.reduceEqDiff,  jifT, bdS, sifN, sifS, omN, omS, cdI, x25, x26, x27, x28, x29, x30, x31, x32, xr0, xr1, xr2, xr3, xr4, xr5, if_pos, if_neg, true_and, and_true, false_and, and_false, and_self, Bool.and_true, if_true, if_false, reduceIte, cond_true, cond_false, not_true_eq_false, not_false_eq_true, c2, lwC, c5, hM, e4]
  · have q2 := hy6.2
    clear h gc iq w1 aT h2 h3 lwC e4
    unfold F_183
    simp (disch := first | assumption | omega) only [gI, gI2, gL, gL1, gL2, jcLT, jcGE, jcGT, jcLE, jcEQ, jcNE, dEQ, nIt, lgNE, lgEQ, lgGE, lgLT, lgGT, lgLE, jinT, nIc, nI0, nI1, nIo, nIs, nI_add, nIm, nIn0, szl0, szl1, szl2, szl3, szl4, szl5, Nat.add_sub_assoc, Nat.add_zero, Nat.reduceSub, Nat.reduceAdd, Nat.reduceMul, Nat.reduceEqDiff,  jifT, bdS, sifN, sifS, omN, omS, cdI, x25, x26, x27, x28, x29, x30, x31, x32, xr0, xr1, xr2, xr3, xr4, xr5, if_pos, if_neg, true_and, and_true, false_and, and_false, and_self, Bool.and_true, if_true, if_false, reduceIte, cond_true, cond_false, not_true_eq_false, not_false_eq_true, x51, x52, x53, x54, x55, x56, x57, x58, x59, x60, x61, x62, x63, lwM, c5', jl]
  · rw [g35, g37]
    exact h3
  · rw [(aT 56 r d (by omega)).1]; exact o2
  · rw [(aT 54 r 0 (by omega)).1]; exact d2
/-! somebody sends and the channel holds nothing -/
set_option maxHeartbeats 4000000 in
set_option linter.unusedSimpArgs false in
theorem cx.pullB (ht : 1000 < t) (h : cx φ D F N P S T A r d p f pc k m) (gc : gcR D S) (iq : iqR P A r False) (hW : A.2.2.2.2.2.1 + A.2.2.2.2.2.2 < 2147483648) (hk : k < 16) (hy : D y) {p1 z c : Nat} (hc : chR φ D S T y p1 z 0 c) {s : Nat} (hl : lw S A y 1 0 = some s) :
    plR φ D F N P S T A r d p f pc k m (F_99 G t (p1, 0) (nI (y + 2)) (p, 1) S) (F_183 G t (nI (φ y)) T) := by
  obtain ⟨hM, o1, o2, hn, hr, d2, d3⟩ := h.rd
  obtain ⟨c1, c2, ⟨c3, c3'⟩, _, ⟨c5, c5', _⟩, _⟩ := hc
  have hy6 := h.1.2.2.2.2.1.1 y hy
  have ow := h.1.2.2.2.2.2.2.2.2.2
  obtain ⟨iq1, iq2, iq3, iq9⟩ := id iq
  obtain ⟨st, cn, dd, pp, kx, n', f', pc', m', hs, hsr, e1, e2, e3, e4, e5, e6, e7, e8, e9, e10, e11, e12⟩ := h.1.snd (t := t) (by omega) (fun s hs z => iq1 s hs (Or.inl z)) h.2.2.2.1 hy6.1 hl
  have hpp : p ≠ pp := fun z => by
    subst z
    exact hsr (ow.2.1 _ _ _ _ _ e5 h.2.2.2.2.2.1).1
  obtain ⟨qa, qa1, qa2, qa3, qa4, qa5, qa6⟩ := h.1.2.2.2.2.2.1
  have hlen : A.2.2.2.1.length < 16 := by
    have := nd_len 16 (r :: A.2.2.2.1) (List.nodup_cons.mpr ⟨fun c => ((iq3 r).mp c).2.2 rfl, iq2⟩) (fun y hy => by
      rcases List.mem_cons.mp hy with rfl | hy
      · exact hr
      · exact ((iq3 y).mp hy).1)
    rw [List.length_cons] at this
    omega
  have Rs := h.1.2.1 s hs
  obtain ⟨pp', hp', fr⟩ := Rs.fr (d := dd) (by rw [e3]; exact Nat.lt_succ_self _)
  have epp : pp' = pp := by rw [e5] at hp'; exact (Option.some.inj hp').symm
  subst epp
  rw [e6] at fr
  have s3 := Rs.2.2.1.1
  have t3 := Rs.2.2.1.2.1
  rw [e3] at s3 t3
  have st4 := Rs.2.1.1
  have tt4 := Rs.2.1.2.1
  rw [e1] at st4 tt4
  have hsd : sdA st cn n' kx < n' := by
    unfold sdA
    by_cases c4 : st = 4
    · obtain ⟨_, _, _, u3, _, u5, _⟩ := e12 c4
      clear e12
      rw [if_pos c4]; omega
    · have u2 : st = 2 := e2.elim id (fun z => absurd z c4)
      have := e9 u2
      clear e12
      rw [if_neg c4]; omega
  have hv := fr.2.2.2.1.2.2.2 (sdA st cn n' kx) hsd
  -- the class
  have lwC := h.1.lwC (G := G) (t := t) (y := y) (sn := 1) (rc := 0) (by omega) hy6.1 (by omega) (by omega) hW
  rw [hl] at lwC
  have e89 := (h.1.cls (G := G) (t := t) (s := s) (y := y) (sn := 1) (rc := 0) (by omega) hs hy6.1 (by omega) (by omega)).1
  rw [e10, oI_s] at e89
  have ec := e98 (G := G) (t := t) (S := S) (s := s) (st := st) (c := cn) (pp := pp') (dd := dd) (q1 := qa) (q2 := A.2.2.2.1.length) (ip := p) (ik := 1) (wi := k) (n := n') (k := kx) (y := y) hs s3 e4 e5 fr.1 st4 e2 (fun z => ⟨(e12 z).1, (e12 z).2.1, (e12 z).2.2.1, (e12 z).2.2.2.1, (e12 z).2.2.2.2.1, (e12 z).2.2.2.2.2.1⟩) e9 fr.2.2.2.1.1 e8 e89 e11 (xr1 hM) o1 hk (fun z => hpp z.1) qa1 qa3 qa2 hlen Rs.1
  -- the reference
  generalize hTc : siL (siI (siL (siI (siI T 33 0 0 36 (nI 1)) 33 0 0 33 (T.1 58 s dd (sdA st cn n' kx))) 33 0 0 34 (T.2.1 62 s dd (sdA st cn n' kx))) 33 0 0 35 (T.1 58 s dd (sdA st cn n' kx))) 33 0 0 37 (T.2.1 62 s dd (sdA st cn n' kx)) = Tc
  have aTc : agr (fun t _ _ => t = 33) T Tc := by
    subst hTc
    exact agr.l (agr.i (agr.l (agr.i (agr.i (agr.refl _ _) _ _ rfl) _ _ rfl) _ _ rfl) _ _ rfl) _ _ rfl
  have h33 : ∀ k, k ≤ 24 ∨ k = 38 → Tc.1 33 0 0 k = T.1 33 0 0 k := fun k hk => by
    subst hTc
    rw [gL1, gI, if_neg (by omega), gL1, gI, if_neg (by omega), gI, if_neg (by omega)]
  have hTc36 : Tc.1 33 0 0 36 = nI 1 ∧ Tc.1 33 0 0 35 = T.1 58 s dd (sdA st cn n' kx) ∧ Tc.2.1 33 0 0 37 = T.2.1 62 s dd (sdA st cn n' kx) ∧ Tc.2.1 33 0 0 28 = T.2.1 33 0 0 28 := by
    subst hTc
    refine ⟨?_, ?_, ?_, ?_⟩
    · rw [gL1, gI, if_neg (by omega), gL1, gI, if_neg (by omega), siI_at]
    · rw [gL1, siI_at]
    · rw [gL, if_pos ⟨rfl, rfl, rfl, rfl⟩]
    · rw [gL, if_neg (by omega), gI2, gL, if_neg (by omega)]
      rfl
  obtain ⟨m1, m2⟩ := tm36 T (nI 1)
  have w1 := h.1.tmp m1 (fun k hk => m2 k (by omega)) rfl
  have lwM := w1.lwM (G := G) (t := t) (y := y) (snd := 1) (by omega) hy (by rw [(m1 51 (φ y) 0 (by omega)).1]; exact c3') (by omega) hW
  rw [show 1 - 1 = 0 from rfl, hl, oI_s] at lwM
  obtain ⟨pF, pN, pg, pq', _⟩ := h.1.1.1
  have prog : st = 4 → cn ≤ 4 ∧ 3 * cn ≤ n' ∧ n' ≤ 14 + 3 * cn ∧ kx < cn ∧ ∃ f fi pc, T.1 56 s dd 0 = nI f ∧ f < 32 ∧ T.1 39 0 0 f = nI fi ∧ T.1 56 s dd 1 = nI (pc + 1) ∧ fi + pc < 1500 ∧ T.1 42 0 0 (fi + pc) &&& nI 7 = nI cn := fun z => by
    obtain ⟨u1, u2, u3, u4, u5, u6, q, u7, u8⟩ := e12 z
    have hff := fr.2.1.2.2
    have pgf := (pg f' hff).2.2.2.2.2
    have hb : P.2.2.1 f' + q < N := by
      clear e12
      omega
    refine ⟨u3, u4, u5, u6, f', P.2.2.1 f', q, fr.2.1.2.1, by have := pF.2.2; clear e12; omega, (pg f' hff).2.2.1.2, by rw [← u7]; exact fr.2.2.1.2.1, by have := pN.2.2; clear e12; omega, ?_⟩
    rw [(pq' _ hb).2.2]
    exact u8
  have e182' := e182 (G := G) (t := t) (T := siI T 33 0 0 36 (nI 1)) (s := s) (st := st) (c := cn) (dd := dd) (cc := nI (φ y)) (n := n') (k := kx) hs e4 (by rw [siI_ne _ _ _ (by omega)]; exact t3) (by rw [siI_ne _ _ _ (by omega)]; exact tt4) e2 (by rw [siI_ne _ _ _ (by omega)]; exact fr.2.2.2.1.2.1) e8 e9 (fun z => by
    obtain ⟨u3, u4, u5, u6, f2, fi2, pc2, x1, x2, x3, x4, x5, x6⟩ := prog z
    refine ⟨?_, u6, u3, u4, f2, fi2, pc2, by rw [siI_ne _ _ _ (by omega)]; exact x1, x2, by rw [siI_ne _ _ _ (by omega)]; exact x3, by rw [siI_ne _ _ _ (by omega)]; exact x4, x5, by rw [siI_ne _ _ _ (by omega)]; exact x6⟩
    have := h.1.e173 (G := G) (t := t) (T' := siI T 33 0 0 36 (nI 1)) (s := s) (y := y) (snd := 1) (by omega) hs hy c3' (by omega) (by rw [e1]; exact z) (agr.i (agr.refl _ _) _ _ (by omega)) (by rw [siI_ne _ _ _ (by omega)])
    rw [show 1 - 1 = 0 from rfl, e10, oI_s] at this
    exact this)
  have e179' := e179s (G := G) (t := t) (T := Tc) (s := s) (st := st) (c := cn) (dd := dd) (q := A.2.2.2.1.length) (cc := nI (φ y)) (n := n') (k := kx) hs e4 (by rw [(aTc 54 s 0 (by omega)).1]; exact t3) (by rw [(aTc 54 s 0 (by omega)).1]; exact tt4) e2 (by rw [h33 15 (by omega)]; exact qa4) hlen (by rw [(aTc 56 s dd (by omega)).1]; exact fr.2.2.2.1.2.1) e8 e9 (fun z => by
    obtain ⟨u3, u4, u5, u6, f2, fi2, pc2, x1, x2, x3, x4, x5, x6⟩ := prog z
    refine ⟨?_, u3, u4, u5, f2, fi2, pc2, by rw [(aTc 56 s dd (by omega)).1]; exact x1, x2, by rw [(aTc 39 0 0 (by omega)).1]; exact x3, by rw [(aTc 56 s dd (by omega)).1]; exact x4, x5, by rw [(aTc 42 0 0 (by omega)).1]; exact x6⟩
    have := h.1.e173 (G := G) (t := t) (T' := rdT Tc s A.2.2.2.1.length) (s := s) (y := y) (snd := 1) (by omega) hs hy c3' (by omega) (by rw [e1]; exact z) ((aTc.mono (fun t i j q => Or.inl q)).trans (agr.i (agr.i (agr.i (agr.refl _ _) _ _ (by omega)) _ _ (by omega)) _ _ (by omega))) (by
      unfold rdT
      rw [siI_ne _ _ _ (by omega), siI_ne _ _ _ (by omega), gI, if_neg (by omega), (aTc 54 s 0 (by omega)).1])
    rw [show 1 - 1 = 0 from rfl, e10, oI_s] at this
    exact this)
  -- both
  have h2 := h.tmp (aTc.mono (fun t i j q => Or.inl q)) (fun k hk => h33 k (Or.inl hk)) hTc36.2.2.2
  obtain ⟨h3, k3⟩ := h2.pu hk hv
  have A1s : ∀ z, z ≠ r → (aset A r 1 (d + 1) (fset (A.2.2.1 r) d (f, pc, k + 1, m, 0))).1 z = A.1 z ∧ (aset A r 1 (d + 1) (fset (A.2.2.1 r) d (f, pc, k + 1, m, 0))).2.1 z = A.2.1 z ∧ (aset A r 1 (d + 1) (fset (A.2.2.1 r) d (f, pc, k + 1, m, 0))).2.2.1 z = A.2.2.1 z := fun z hz => ⟨aset_1n _ _ _ _ hz, aset_2n _ _ _ _ hz, aset_3n _ _ _ _ hz⟩
  obtain ⟨y1, y2, y3⟩ := A1s s hsr
  obtain ⟨A', h4, k4, iq4, q4⟩ := h3.go (kx := kx) (c := cn) (st := st) (a := qa) (dd := dd) (pp := pp') iq.set hs hsr (by rw [y2]; exact e3) (by rw [y1]; exact e1) e2 (by rw [(rp_ag S p k _ _ 8 0 0 (by omega)).1]; exact qa1) qa2 e5 (by rw [y3]; exact e6) e7 e9 (fun z => ⟨(e12 z).2.2.2.1, (e12 z).2.2.2.2.1⟩)
  have go33 : ∀ k', k' ≠ 15 → (goT Tc s dd A.2.2.2.1.length n' st cn kx).1 33 0 0 k' = Tc.1 33 0 0 k' := fun k' hk' => by
    have rd : (rdT Tc s A.2.2.2.1.length).1 33 0 0 k' = Tc.1 33 0 0 k' := by
      unfold rdT
      rw [gI, if_neg (by omega), siI_ne _ _ _ (by omega), siI_ne _ _ _ (by omega)]
    unfold goT
    by_cases c4 : st = 4
    · rw [if_pos c4, (mu_ag _ _ _ _ _ _ 33 0 0 (by omega)).1, (mu_ag _ _ _ _ _ _ 33 0 0 (by omega)).1, siI_ne _ _ _ (by omega)]
      exact rd
    · rw [if_neg c4, siI_ne _ _ _ (by omega)]
      exact rd
  have goag : agr (fun t i j => t = 33 ∨ t = 45 ∨ (t = 54 ∧ i = s) ∨ (46 ≤ t ∧ t ≤ 50) ∨ (56 ≤ t ∧ t ≤ 63 ∧ i = s)) Tc (goT Tc s dd A.2.2.2.1.length n' st cn kx) := by
    have rd : agr (fun t i j => t = 33 ∨ t = 45 ∨ (t = 54 ∧ i = s) ∨ (46 ≤ t ∧ t ≤ 50) ∨ (56 ≤ t ∧ t ≤ 63 ∧ i = s)) Tc (rdT Tc s A.2.2.2.1.length) := agr.i (agr.i (agr.i (agr.refl _ _) _ _ (by omega)) _ _ (by omega)) _ _ (by omega)
    unfold goT
    by_cases c4 : st = 4
    · rw [if_pos c4]
      exact ((agr.i rd _ _ (by omega)).trans ((mu_ag _ _ _ _ _ _).mono (fun t i j z => by omega))).trans ((mu_ag _ _ _ _ _ _).mono (fun t i j z => by omega))
    · rw [if_neg c4]
      exact agr.i rd _ _ (by omega)
  have goL : (goT Tc s dd A.2.2.2.1.length n' st cn kx).2.1 33 0 0 37 = Tc.2.1 33 0 0 37 := by
    unfold goT
    by_cases c4 : st = 4
    · rw [if_pos c4, (mu_ag _ _ _ _ _ _ 33 0 0 (by omega)).2, (mu_ag _ _ _ _ _ _ 33 0 0 (by omega)).2]
      rfl
    · rw [if_neg c4]
      rfl
  refine ⟨luS (goS (rpush S p 1 k (S.2.1 30 pp' 1 (sdA st cn n' kx)) (S.1 31 pp' 1 (sdA st cn n' kx))) pp' n' st cn kx) s qa A.2.2.2.1.length, goT Tc s dd A.2.2.2.1.length n' st cn kx, A', 1, ?_, by omega, ?_, by rw [go33 36 (by omega)]; exact hTc36.1, ?_, (gc.keep k3).keep k4, iq4, ?_, by rw [go33 38 (by omega)]; exact h33 38 (Or.inr rfl), q4, ?_, ?_⟩
  · clear h gc iq w1 lwM h2 h3 h4 e182' e179' e12 prog
    unfold F_99
    simp (disch := first | assumption | omega) only [gI, gI2, gL, gL1, gL2, jcLT, jcGE, jcGT, jcLE, jcEQ, jcNE, dEQ, nIt, lgNE, lgEQ, lgGE, lgLT, lgGT, lgLE, jinT, nIc, nI0, nI1, nIo, nIs, nI_add, nIm, nIn0, szl0, szl1, szl2, szl3, szl4, szl5, Nat.add_sub_assoc, Nat.add_zero, Nat.reduceSub, Nat.reduceAdd, Nat.reduceMul, Nat.reduceEqDiff,  jifT, bdS, sifN, sifS, omN, omS, cdI, x25, x26, x27, x28, x29, x30, x31, x32, xr0, xr1, xr2, xr3, xr4, xr5, if_pos, if_neg, true_and, and_true, false_and, and_false, and_self, Bool.and_true, if_true, if_false, reduceIte, cond_true, cond_false, not_true_eq_false, not_false_eq_true, c2, lwC, c5, ec]
  · have q2 := hy6.2
    have t512 : (siI T 33 0 0 36 (nI 1)).1 51 (φ y) 0 2 = nI 0 := by rw [siI_ne _ _ _ (by omega)]; exact c5'
    have r58 : (siI T 33 0 0 36 (nI 1)).1 58 s dd = T.1 58 s dd := siI_ne _ _ _ (by omega)
    rw [r58] at e182'
    have e182'' : F_182 G t (nI s) (nI (φ y)) (siI T 33 0 0 36 (nI 1)) = some ((), siL (siI (siI T 33 0 0 36 (nI 1)) 33 0 0 33 (T.1 58 s dd (sdA st cn n' kx))) 33 0 0 34 (T.2.1 62 s dd (sdA st cn n' kx))) := e182'
    clear h gc iq w1 h2 h3 h4 lwC ec e12 prog e182'
    unfold F_183
    rw [← hTc] at e179' ⊢
    simp (disch := first | assumption | omega) only [gI, gI2, gL, gL1, gL2, jcLT, jcGE, jcGT, jcLE, jcEQ, jcNE, dEQ, nIt, lgNE, lgEQ, lgGE, lgLT, lgGT, lgLE, jinT, nIc, nI0, nI1, nIo, nIs, nI_add, nIm, nIn0, szl0, szl1, szl2, szl3, szl4, szl5, Nat.add_sub_assoc, Nat.add_zero, Nat.reduceSub, Nat.reduceAdd, Nat.reduceMul, Nat.reduceEqDiff,  jifT, bdS, sifN, sifS, omN, omS, cdI, x25, x26, x27, x28, x29, x30, x31, x32, xr0, xr1, xr2, xr3, xr4, xr5, if_pos, if_neg, true_and, and_true, false_and, and_false, and_self, Bool.and_true, if_true, if_false, reduceIte, cond_true, cond_false, not_true_eq_false, not_false_eq_true, x51, x52, x53, x54, x55, x56, x57, x58, x59, x60, x61, x62, x63, lwM, c5', e182'', e179']
  · rw [go33 35 (by omega), goL, hTc36.2.1, hTc36.2.2.1, mpu_go hsr]
    exact h4
  · unfold goS
    by_cases c4 : st = 4
    · rw [if_pos c4]; rfl
    · rw [if_neg c4]; rfl
  · clear e12 prog
    rw [(goag 56 r d (by omega)).1, (aTc 56 r d (by omega)).1]; exact o2
  · clear e12 prog
    rw [(goag 54 r 0 (by omega)).1, (aTc 54 r 0 (by omega)).1]; exact d2
end PLL
