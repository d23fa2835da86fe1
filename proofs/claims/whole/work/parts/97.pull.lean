/-! What a receiver gets, where the channel holds something and somebody sends. -/
theorem mu_ag' (T : sS) (r d n : Nat) (k : Int32) (v : Int64) : agr (fun t i j => 56 ≤ t ∧ t ≤ 63 ∧ i = r ∧ j = d) T (mpu T r d n k v) := agr.i (agr.l (agr.i (agr.refl _ _) _ _ (by omega)) _ _ (by omega)) _ _ (by omega)
section PL4
variable {φ : Nat → Nat} {D : Nat → Prop} {F N : Nat} {P : aP} {S S' T T' : sS} {A : aS} {r d p f pc n m e b k y : Nat} {G : jG} {t : Nat}
theorem agr.symm {E : Nat → Nat → Nat → Prop} (h : agr E S S') : agr E S' S := fun t i j z => ⟨(h t i j z).1.symm, (h t i j z).2.symm⟩
theorem cO_same {A' : aS} {s dd pp sn rc : Nat} (h1 : A.2.1 s = dd + 1) (h2 : S.2.2.1.1 s dd = some pp) (hX : S'.2.2 = S.2.2) (hA : A'.1 s = A.1 s ∧ A'.2.1 s = A.2.1 s ∧ A'.2.2.1 s = A.2.2.1 s) (e31 : S'.1 31 pp 1 = S.1 31 pp 1) (e30 : S'.2.1 30 pp 1 = S.2.1 30 pp 1) (e25 : S'.1 25 s 0 = S.1 25 s 0) : cO S' A' s y sn rc = cO S A s y sn rc := by
  rw [cO_e (S := S') (A := A') (by rw [hA.2.1]; exact h1) (by rw [hX]; exact h2), cO_e h1 h2, hA.1, hA.2.2]
  unfold csO csf
  rw [e31, e30, e25]
set_option maxHeartbeats 4000000 in
set_option linter.unusedSimpArgs false in
theorem cx.pullD (ht : 1000 < t) (h : cx φ D F N P S T A r d p f pc k m) (gc : gcR D S) (iq : iqR P A r False) (hW : A.2.2.2.2.2.1 + A.2.2.2.2.2.2 < 2147483648) (hk : k < 16) (hy : D y) {p1 z w c : Nat} (hc : chR φ D S T y p1 z (w + 1) c) {s : Nat} (hl : lw S A y 1 0 = some s) :
    plR φ D F N P S T A r d p f pc k m (F_99 G t (p1, 0) (nI (y + 2)) (p, 1) S) (F_183 G t (nI (φ y)) T) := by
  obtain ⟨hM, o1, o2, hn, hr, d2, d3⟩ := h.rd
  have hy6 := h.1.2.2.2.2.1.1 y hy
  have ow := h.1.2.2.2.2.2.2.2.2.2
  obtain ⟨iq1, iq2, iq3, iq9⟩ := id iq
  obtain ⟨S1, f1, f2, f3, f4, f5, f6, f7, f8⟩ := h.first (G := G) ht gc hk hy hc
  obtain ⟨c1, c2, ⟨c3, c3'⟩, ⟨_, _, c4⟩, ⟨c5, c5', c6⟩, _⟩ := hc
  obtain ⟨st, cn, dd, pp, kx, n', f', pc', m', hs, hsr, e1, e2, e3, e4, e5, e6, e7, e8, e9, e10, e11, e12⟩ := h.1.snd (t := t) (by omega) (fun s hs z => iq1 s hs (Or.inl z)) h.2.2.2.1 hy6.1 hl
  have hpp : p ≠ pp := fun z => by
    subst z
    exact hsr (ow.2.1 _ _ _ _ _ e5 h.2.2.2.2.2.1).1
  obtain ⟨qa, qa1, qa2, qa3, qa4, qa5, qa6⟩ := h.1.2.2.2.2.2.1
  have hlen : A.2.2.2.1.length < 16 := by
    have := nd_len 16 (r :: A.2.2.2.1) (List.nodup_cons.mpr ⟨fun c => ((iq3 r).mp c).2.2 rfl, iq2⟩) (fun y hy => by
      rcases List.mem_cons.mp hy with rfl | hy
      · exact hr
      · exact ((iq3 y).mp hy).1)
    rw [List.length_cons] at this
    omega
  have Rs := h.1.2.1 s hs
  obtain ⟨pp', hp', fr⟩ := Rs.fr (d := dd) (by rw [e3]; exact Nat.lt_succ_self _)
  have epp : pp' = pp := by rw [e5] at hp'; exact (Option.some.inj hp').symm
  subst epp
  rw [e6] at fr
  have s3 := Rs.2.2.1.1
  have t3 := Rs.2.2.1.2.1
  rw [e3] at s3 t3
  have st4 := Rs.2.1.1
  have tt4 := Rs.2.1.2.1
  rw [e1] at st4 tt4
  have hsd : sdA st cn n' kx < n' := by
    unfold sdA
    by_cases c4 : st = 4
    · obtain ⟨_, _, _, u3, _, u5, _⟩ := e12 c4
      clear e12
      rw [if_pos c4]; omega
    · have u2 : st = 2 := e2.elim id (fun z => absurd z c4)
      have := e9 u2
      clear e12
      rw [if_neg c4]; omega
  have hv := fr.2.2.2.1.2.2.2 (sdA st cn n' kx) hsd
  -- the store after the first value went
  generalize hSC : siI (dfS S1 p1 w) 29 p1 4 2 (nI w) = SC at f3 f5 f6 f7 f8
  generalize hTC : shT (gtT T (φ y) w) (φ y) w = TC at f6 f8
  generalize hA1 : aset A r 1 (d + 1) (fset (A.2.2.1 r) d (f, pc, k + 1, m, 0)) = A1 at f6
  have A1s : A1.1 s = A.1 s ∧ A1.2.1 s = A.2.1 s ∧ A1.2.2.1 s = A.2.2.1 s := by
    subst hA1
    exact ⟨aset_1n _ _ _ _ hsr, aset_2n _ _ _ _ hsr, aset_3n _ _ _ _ hsr⟩
  have A1q : A1.2.2.2 = A.2.2.2 := by subst hA1; rfl
  have iqA1 : iqR P A1 r False := by subst hA1; exact iq.set
  have SCX : SC.2.2 = S.2.2 := by subst hSC; rw [gI2, dfS_2, f4]
  have npp : ∀ q, q < 600 → True := fun _ _ => trivial
  have sc25 := (f5 25 s 0 (by clear e12; omega)).1
  have sc8 := (f5 8 0 0 (by clear e12; omega)).1
  have sc31 := (f5 31 pp' 1 (by clear e12; omega)).1
  have sc30 := (f5 30 pp' 1 (by clear e12; omega)).2
  have sc29 := (f5 29 pp' 1 (by clear e12; omega)).1
  have cC : cO SC A1 s y 1 0 = some kx := by
    rw [cO_same (S := S) (A := A) (pp := pp') e3 e5 SCX A1s sc31 sc30 sc25]
    exact e10
  -- the class
  have lwC := h.1.lwC (G := G) (t := t) (y := y) (sn := 1) (rc := 0) (by omega) hy6.1 (by omega) (by omega) hW
  rw [hl] at lwC
  have e89 := (f6.1.cls (G := G) (t := t) (s := s) (y := y) (sn := 1) (rc := 0) (by omega) hs hy6.1 (by omega) (by omega)).1
  rw [cC, oI_s] at e89
  have ec := e98 (G := G) (t := t) (S := SC) (s := s) (st := st) (c := cn) (pp := pp') (dd := dd) (q1 := qa) (q2 := A.2.2.2.1.length) (ip := p1) (ik := 4) (wi := w) (n := n') (k := kx) (y := y) hs (by rw [sc25]; exact s3) e4 (by rw [SCX]; exact e5) (by rw [SCX]; exact fr.1) (by rw [sc25]; exact st4) e2 (fun z => ⟨by rw [sc25]; exact (e12 z).1, (e12 z).2.1, (e12 z).2.2.1, (e12 z).2.2.2.1, (e12 z).2.2.2.2.1, (e12 z).2.2.2.2.2.1⟩) e9 (by rw [sc29]; exact fr.2.2.2.1.1) e8 e89 e11 (by rw [SCX]; exact xr4 c2) f8.2.2.2.2.1.1 (show w < 16 by clear e12; omega) (fun z => by cases z.2) (by rw [sc8]; exact qa1) (by rw [sc8]; exact qa3) qa2 hlen (by rw [sc25]; exact Rs.1)
  rw [sc31, sc30] at ec
  -- the reference
  obtain ⟨m1, m2⟩ := tm36 T (nI 1)
  have w1 := h.1.tmp m1 (fun k hk => m2 k (by omega)) rfl
  have lwM := w1.lwM (G := G) (t := t) (y := y) (snd := 1) (by omega) hy (by rw [(m1 51 (φ y) 0 (by omega)).1]; exact c3') (by omega) hW
  rw [show 1 - 1 = 0 from rfl, hl] at lwM
  have em := e183 (G := G) (t := t) (T := T) (q := φ y) (w := w) (o := some s) ht hy6.2 c5' (by clear e12; omega) lwM
  rw [hTC] at em
  have agT : agr (fun t i j => t = 33 ∨ (51 ≤ t ∧ t ≤ 53 ∧ i = φ y)) T TC := by subst hTC; exact gtT_ag T (φ y) w
  have g33 : ∀ k', k' ≠ 35 → k' ≠ 36 → TC.1 33 0 0 k' = T.1 33 0 0 k' := fun k' a b => by
    subst hTC
    clear e12
    rw [shT_I _ _ (by omega)]
    unfold gtT
    rw [siI_ne _ _ _ (by omega), gL1, gI, if_neg (by omega), gI, if_neg (by omega)]
  have g35 : TC.1 33 0 0 35 = T.1 52 (φ y) 0 0 ∧ TC.1 33 0 0 36 = nI 1 ∧ TC.2.1 33 0 0 37 = T.2.1 53 (φ y) 0 0 ∧ TC.1 51 (φ y) 0 2 = nI w := by
    subst hTC
    clear e12
    refine ⟨?_, ?_, ?_, ?_⟩
    · rw [shT_I _ _ (by omega)]
      unfold gtT
      rw [siI_ne _ _ _ (by omega), gL1, siI_at]
    · rw [shT_I _ _ (by omega)]
      unfold gtT
      rw [siI_ne _ _ _ (by omega), gL1, gI, if_neg (by omega), siI_at]
    · rw [shT_L _ _ (by omega)]
      unfold gtT
      rw [gI2, gL, if_pos ⟨rfl, rfl, rfl, rfl⟩]
    · rw [shT_I _ _ (by omega)]
      exact siI_at _ _ _ _ _ _
  obtain ⟨pF, pN, pg, pq', _⟩ := h.1.1.1
  have prog : st = 4 → cn ≤ 4 ∧ 3 * cn ≤ n' ∧ n' ≤ 14 + 3 * cn ∧ kx < cn ∧ ∃ f fi pc, T.1 56 s dd 0 = nI f ∧ f < 32 ∧ T.1 39 0 0 f = nI fi ∧ T.1 56 s dd 1 = nI (pc + 1) ∧ fi + pc < 1500 ∧ T.1 42 0 0 (fi + pc) &&& nI 7 = nI cn := fun z => by
    obtain ⟨u1, u2, u3, u4, u5, u6, q, u7, u8⟩ := e12 z
    have hff := fr.2.1.2.2
    have pgf := (pg f' hff).2.2.2.2.2
    have hb : P.2.2.1 f' + q < N := by
      have := fr.2.2.1.2.2
      clear e12
      omega
    refine ⟨u3, u4, u5, u6, f', P.2.2.1 f', q, fr.2.1.2.1, by have := pF.2.2; clear e12; omega, (pg f' hff).2.2.1.2, by rw [← u7]; exact fr.2.2.1.2.1, by have := pN.2.2; clear e12; omega, ?_⟩
    rw [(pq' _ hb).2.2]
    exact u8
  have hv' : vr φ D (S.2.1 30 pp' 1 (sdA st cn n' kx)) (S.1 31 pp' 1 (sdA st cn n' kx)) (T.1 58 s dd (sdA st cn n' kx)) (T.2.1 62 s dd (sdA st cn n' kx)) := hv
  generalize hx : S.2.1 30 pp' 1 (sdA st cn n' kx) = x at ec hv'
  generalize hg : S.1 31 pp' 1 (sdA st cn n' kx) = g at ec hv'
  have tc58 : TC.1 58 s dd = T.1 58 s dd := by clear e12 prog; exact (agT 58 s dd (by omega)).1
  have tc62 : TC.2.1 62 s dd = T.2.1 62 s dd := by clear e12 prog; exact (agT 62 s dd (by omega)).2
  have tc56 : TC.1 56 s dd = T.1 56 s dd := by clear e12 prog; exact (agT 56 s dd (by omega)).1
  have tc54 : TC.1 54 s 0 = T.1 54 s 0 := by clear e12 prog; exact (agT 54 s 0 (by omega)).1
  have tc39 : TC.1 39 0 0 = T.1 39 0 0 := by clear e12 prog; exact (agT 39 0 0 (by omega)).1
  have tc42 : TC.1 42 0 0 = T.1 42 0 0 := by clear e12 prog; exact (agT 42 0 0 (by omega)).1
  have kd1 : (mpu TC r d k (T.1 52 (φ y) 0 0) (T.2.1 53 (φ y) 0 0)).1 51 (φ y) 0 0 = nI 3 := f8.2.2.1.2
  have e182' := e182 (G := G) (t := t) (T := TC) (s := s) (st := st) (c := cn) (dd := dd) (cc := nI (φ y)) (n := n') (k := kx) hs e4 (by rw [tc54]; exact t3) (by rw [tc54]; exact tt4) e2 (by rw [tc56]; exact fr.2.2.2.1.2.1) e8 e9 (fun z => by
    obtain ⟨u3, u4, u5, u6, f2', fi2, pc2, x1, x2, x3, x4, x5, x6⟩ := prog z
    refine ⟨?_, u6, u3, u4, f2', fi2, pc2, by rw [tc56]; exact x1, x2, by rw [tc39]; exact x3, by rw [tc56]; exact x4, x5, by rw [tc42]; exact x6⟩
    have := f6.1.e173 (G := G) (t := t) (T' := TC) (s := s) (y := y) (snd := 1) (by omega) hs hy kd1 (by omega) (by rw [A1s.1, e1]; exact z) (((mu_ag' TC r d k (T.1 52 (φ y) 0 0) (T.2.1 53 (φ y) 0 0)).symm).mono (fun t i j q => by clear e12 prog; omega)) (by rw [(mu_ag _ _ _ _ _ _ 54 s 0 (by clear e12 prog; omega)).1])
    rw [show 1 - 1 = 0 from rfl, cC, oI_s] at this
    exact this)
  rw [tc58, tc62] at e182'
  generalize hkk : T.1 58 s dd (sdA st cn n' kx) = kk at e182' hv'
  generalize hvv : T.2.1 62 s dd (sdA st cn n' kx) = v at e182' hv'
  generalize hTd : siL (siI TC 33 0 0 33 kk) 33 0 0 34 v = Td at e182'
  generalize hTe : siI (siL (siI Td 52 (φ y) 0 w kk) 53 (φ y) 0 w v) 51 (φ y) 0 2 (nI (w + 1)) = Te
  have agTd : agr (fun t _ _ => t = 33) TC Td := by subst hTd; exact agr.l (agr.i (agr.refl _ _) _ _ rfl) _ _ rfl
  have agTe : agr (fun t i _ => (51 ≤ t ∧ t ≤ 53) ∧ i = φ y) Td Te := by
    subst hTe
    clear e12 prog
    exact agr.i (agr.l (agr.i (agr.refl _ _) _ _ (by omega)) _ _ (by omega)) _ _ (by omega)
  have td33 : ∀ k', k' ≠ 33 → Td.1 33 0 0 k' = TC.1 33 0 0 k' := fun k' a => by
    subst hTd
    clear e12 prog
    rw [gL1, gI, if_neg (by omega)]
  have td37 : Td.2.1 33 0 0 37 = TC.2.1 33 0 0 37 ∧ Td.2.1 33 0 0 28 = TC.2.1 33 0 0 28 := by
    subst hTd
    clear e12 prog
    exact ⟨by rw [gL, if_neg (by omega)]; rfl, by rw [gL, if_neg (by omega)]; rfl⟩
  have agA : agr (fun t i _ => t = 33 ∨ ((51 ≤ t ∧ t ≤ 53) ∧ i = φ y)) T Te := by
    clear e12 prog
    exact ((agT.mono (fun t i j q => by omega)).trans (agTd.mono (fun t i j q => Or.inl q))).trans (agTe.mono (fun t i j q => Or.inr q))
  have te33 : ∀ k', k' ≠ 33 → Te.1 33 0 0 k' = TC.1 33 0 0 k' := fun k' a => by
    have q := (agTe 33 0 0 (by clear e12 prog; omega)).1
    rw [q]
    exact td33 k' a
  -- the relation goes on
  have x7 := f6.tmp (T' := siL (siI (mpu TC r d k (T.1 52 (φ y) 0 0) (T.2.1 53 (φ y) 0 0)) 33 0 0 33 kk) 33 0 0 34 v) (agr.l (agr.i (agr.refl _ _) _ _ (Or.inl rfl)) _ _ (Or.inl rfl)) (fun k' hk' => by
    clear e12 prog
    rw [gL1, gI, if_neg (by omega)]) (by
    clear e12 prog
    rw [gL, if_neg (by omega)]
    rfl)
  have c7 : chR φ D SC (siL (siI (mpu TC r d k (T.1 52 (φ y) 0 0) (T.2.1 53 (φ y) 0 0)) 33 0 0 33 kk) 33 0 0 34 v) y p1 z w c := f8.mv (agr.refl _ _) rfl (by
    clear e12 prog
    exact agr.l (agr.i (agr.refl _ _) _ _ (by omega)) _ _ (by omega))
  obtain ⟨w8, g8, c8⟩ := x7.1.chp f7 hy c7 (by clear e12 prog; omega) hv'
  have eTe : siI (siL (siI (siL (siI (mpu TC r d k (T.1 52 (φ y) 0 0) (T.2.1 53 (φ y) 0 0)) 33 0 0 33 kk) 33 0 0 34 v) 52 (φ y) 0 w kk) 53 (φ y) 0 w v) 51 (φ y) 0 2 (nI (w + 1)) = mpu Te r d k (T.1 52 (φ y) 0 0) (T.2.1 53 (φ y) 0 0) := by
    subst hTe hTd
    clear e12 prog
    rw [mpu_I (by omega), mpu_L (by omega), mpu_I (by omega), mpu_L (by omega), mpu_I (by omega)]
  rw [eTe] at w8 c8
  have x8 : cx φ D F N P (rpush SC p1 4 w x g) (mpu Te r d k (T.1 52 (φ y) 0 0) (T.2.1 53 (φ y) 0 0)) A1 r d p f pc (k + 1) m := ⟨w8, x7.2.1, x7.2.2.1, x7.2.2.2.1, x7.2.2.2.2.1, x7.2.2.2.2.2.1, x7.2.2.2.2.2.2⟩
  have rp8 : (rpush SC p1 4 w x g).1 8 0 0 = SC.1 8 0 0 := by
    unfold rpush
    clear e12 prog
    rw [siI_ne _ _ _ (by omega), siI_ne _ _ _ (by omega)]
    rfl
  have rp31 : (rpush SC p1 4 w x g).1 31 pp' 1 = SC.1 31 pp' 1 := by
    unfold rpush
    clear e12 prog
    rw [siI_ne _ _ _ (by omega), siI_ne _ _ _ (by omega)]
    rfl
  have rp25 : (rpush SC p1 4 w x g).1 25 s 0 = SC.1 25 s 0 := by
    unfold rpush
    clear e12 prog
    rw [siI_ne _ _ _ (by omega), siI_ne _ _ _ (by omega)]
    rfl
  have rp30 : (rpush SC p1 4 w x g).2.1 30 pp' 1 = SC.2.1 30 pp' 1 := by
    unfold rpush
    clear e12 prog
    rw [gI2, gI2, siL_ne _ _ _ (by omega)]
  have c9 : cO (rpush SC p1 4 w x g) A1 s y 1 0 = some kx := by
    rw [cO_same (S := S) (A := A) (S' := rpush SC p1 4 w x g) (A' := A1) (pp := pp') e3 e5 SCX A1s (rp31.trans sc31) (rp30.trans sc30) (rp25.trans sc25)]
    exact e10
  obtain ⟨A', x9, k9, iq9, q9⟩ := x8.go (kx := kx) (c := cn) (st := st) (a := qa) (dd := dd) (pp := pp') iqA1 hs hsr (by rw [A1s.2.1]; exact e3) (by rw [A1s.1]; exact e1) e2 (by rw [rp8, sc8]; exact qa1) qa2 (by show SC.2.2.1.1 s dd = _; rw [SCX]; exact e5) (by rw [A1s.2.2]; exact e6) e7 e9 (fun z => ⟨(e12 z).2.2.2.1, (e12 z).2.2.2.2.1⟩)
  rw [A1q] at x9 k9
  have te54 : Te.1 54 s 0 = T.1 54 s 0 := by clear e12 prog; exact (agA 54 s 0 (by omega)).1
  have te56 : Te.1 56 s dd = T.1 56 s dd := by clear e12 prog; exact (agA 56 s dd (by omega)).1
  have te39 : Te.1 39 0 0 = T.1 39 0 0 := by clear e12 prog; exact (agA 39 0 0 (by omega)).1
  have te42 : Te.1 42 0 0 = T.1 42 0 0 := by clear e12 prog; exact (agA 42 0 0 (by omega)).1
  have e179' := e179s (G := G) (t := t) (T := Te) (s := s) (st := st) (c := cn) (dd := dd) (q := A.2.2.2.1.length) (cc := nI (φ y)) (n := n') (k := kx) hs e4 (by rw [te54]; exact t3) (by rw [te54]; exact tt4) e2 (by rw [te33 15 (by clear e12 prog; omega), g33 15 (by clear e12 prog; omega) (by clear e12 prog; omega)]; exact qa4) hlen (by rw [te56]; exact fr.2.2.2.1.2.1) e8 e9 (fun z => by
    obtain ⟨u3, u4, u5, u6, f2', fi2, pc2, x1, x2, x3, x4, x5, x6⟩ := prog z
    refine ⟨?_, u3, u4, u5, f2', fi2, pc2, by rw [te56]; exact x1, x2, by rw [te39]; exact x3, by rw [te56]; exact x4, x5, by rw [te42]; exact x6⟩
    have := w8.e173 (G := G) (t := t) (T' := rdT Te s A.2.2.2.1.length) (s := s) (y := y) (snd := 1) (by omega) hs hy c8.2.2.1.2 (by omega) (by rw [A1s.1, e1]; exact z) ((((mu_ag' Te r d k (T.1 52 (φ y) 0 0) (T.2.1 53 (φ y) 0 0)).symm).mono (fun t i j q => by clear e12 prog; omega)).trans (by
      clear e12 prog
      exact agr.i (agr.i (agr.i (agr.refl _ _) _ _ (by omega)) _ _ (by omega)) _ _ (by omega))) (by
      rw [(mu_ag' Te r d k (T.1 52 (φ y) 0 0) (T.2.1 53 (φ y) 0 0) 54 s 0 (by clear e12 prog; omega)).1]
      unfold rdT
      clear e12 prog
      rw [siI_ne _ _ _ (by omega), siI_ne _ _ _ (by omega), gI, if_neg (by omega)])
    rw [show 1 - 1 = 0 from rfl, c9, oI_s] at this
    exact this)
  have go33 : ∀ k', k' ≠ 15 → (goT Te s dd A.2.2.2.1.length n' st cn kx).1 33 0 0 k' = Te.1 33 0 0 k' := fun k' hk' => by
    clear e12 prog
    have rd : (rdT Te s A.2.2.2.1.length).1 33 0 0 k' = Te.1 33 0 0 k' := by
      unfold rdT
      rw [gI, if_neg (by omega), siI_ne _ _ _ (by omega), siI_ne _ _ _ (by omega)]
    unfold goT
    by_cases c4 : st = 4
    · rw [if_pos c4, (mu_ag _ _ _ _ _ _ 33 0 0 (by omega)).1, (mu_ag _ _ _ _ _ _ 33 0 0 (by omega)).1, siI_ne _ _ _ (by omega)]
      exact rd
    · rw [if_neg c4, siI_ne _ _ _ (by omega)]
      exact rd
  have goag : agr (fun t i j => t = 33 ∨ t = 45 ∨ (t = 54 ∧ i = s) ∨ (46 ≤ t ∧ t ≤ 50) ∨ (56 ≤ t ∧ t ≤ 63 ∧ i = s)) Te (goT Te s dd A.2.2.2.1.length n' st cn kx) := by
    clear e12 prog
    have rd : agr (fun t i j => t = 33 ∨ t = 45 ∨ (t = 54 ∧ i = s) ∨ (46 ≤ t ∧ t ≤ 50) ∨ (56 ≤ t ∧ t ≤ 63 ∧ i = s)) Te (rdT Te s A.2.2.2.1.length) := agr.i (agr.i (agr.i (agr.refl _ _) _ _ (by omega)) _ _ (by omega)) _ _ (by omega)
    unfold goT
    by_cases c4 : st = 4
    · rw [if_pos c4]
      exact ((agr.i rd _ _ (by omega)).trans ((mu_ag _ _ _ _ _ _).mono (fun t i j z => by omega))).trans ((mu_ag _ _ _ _ _ _).mono (fun t i j z => by omega))
    · rw [if_neg c4]
      exact agr.i rd _ _ (by omega)
  have goL : (goT Te s dd A.2.2.2.1.length n' st cn kx).2.1 33 0 0 37 = Te.2.1 33 0 0 37 := by
    unfold goT
    clear e12 prog
    by_cases c4 : st = 4
    · rw [if_pos c4, (mu_ag _ _ _ _ _ _ 33 0 0 (by omega)).2, (mu_ag _ _ _ _ _ _ 33 0 0 (by omega)).2]
      rfl
    · rw [if_neg c4]
      rfl
  have te37 : Te.2.1 33 0 0 37 = T.2.1 53 (φ y) 0 0 := by
    rw [(agTe 33 0 0 (by clear e12 prog; omega)).2, td37.1]
    exact g35.2.2.1
  refine ⟨luS (goS (rpush SC p1 4 w x g) pp' n' st cn kx) s qa A.2.2.2.1.length, goT Te s dd A.2.2.2.1.length n' st cn kx, A', 1, ?_, by omega, ?_, ?_, ?_, g8.keep k9, iq9, ?_, ?_, by rw [q9, A1q], ?_, ?_⟩
  · have rwc : rwS S p1 4 (w + 1) := ⟨xr4 c2, c5, show w + 1 ≤ 16 by clear e12 prog; omega⟩
    have f26 := f_26 (G := G) (t := t) rwc (i := 0) (Nat.succ_pos _)
    have f27 := f_27 (G := G) (t := t) rwc (i := 0) (Nat.succ_pos _)
    have x1 : (rpush S p 1 k (S.2.1 30 p1 4 0) (S.1 31 p1 4 0)).2.2 = S.2.2 := rfl
    clear h gc iq w1 lwM f5 f6 f7 f8 rwc agT em e12 prog x7 x8 x9 c7 c8 w8 g8 k9 e182' e179' hv' hv fr iq1 iq3 qa6 pg pq' Rs
    unfold F_99
    simp (disch := first | assumption | omega) only [gI, gI2, gL, gL1, gL2, jcLT, jcGE, jcGT, jcLE, jcEQ, jcNE, dEQ, nIt, lgNE, lgEQ, lgGE, lgLT, lgGT, lgLE, jinT, nIc, nI0, nI1, nIo, nIs, nI_add, nIm, nIn0, szl0, szl1, szl2, szl3, szl4, szl5, Nat.add_sub_assoc, Nat.add_zero, Nat.reduceSub, Nat.reduceAdd, Nat.reduceMul, Nat.reduceEqDiff,  jifT, bdS, sifN, sifS, omN, omS, cdI, x25, x26, x27, x28, x29, x30, x31, x32, xr0, xr1, xr2, xr3, xr4, xr5, if_pos, if_neg, true_and, and_true, false_and, and_false, and_self, Bool.and_true, if_true, if_false, reduceIte, cond_true, cond_false, not_true_eq_false, not_false_eq_true, c2, lwC, c5, hM, f26, f27, f1, f2, f3, f4, x1, ec]
  · have t51 := g35.2.2.2
    have td51 : Td.1 51 (φ y) 0 2 = nI w := by
      rw [(agTd 51 (φ y) 0 (by clear e12 prog; omega)).1]
      exact t51
    have td333 : Td.1 33 0 0 33 = kk := by
      subst hTd
      rw [gL1, siI_at]
    have td34 : Td.2.1 33 0 0 34 = v := by
      subst hTd
      rw [gL, if_pos ⟨rfl, rfl, rfl, rfl⟩]
    rw [em, show t - w = t - w - 1 + 1 by clear e12 prog; omega, oI_s, F_183_59]
    have q2 := hy6.2
    have q3 : w < 16 := by clear e12 prog; omega
    rw [← hTe] at e179' ⊢
    clear h gc iq w1 lwM f5 f6 f7 f8 agT em e12 prog x7 x8 x9 c7 c8 w8 g8 k9 ec hv' hv fr iq1 iq3 qa6 pg pq' Rs go33 goag goL agTd agTe agA te33 td33 te54 te56 te39 te42 te37 eTe hTd
    simp (disch := first | assumption | omega) only [gI, gI2, gL, gL1, gL2, jcLT, jcGE, jcGT, jcLE, jcEQ, jcNE, dEQ, nIt, lgNE, lgEQ, lgGE, lgLT, lgGT, lgLE, jinT, nIc, nI0, nI1, nIo, nIs, nI_add, nIm, nIn0, szl0, szl1, szl2, szl3, szl4, szl5, Nat.add_sub_assoc, Nat.add_zero, Nat.reduceSub, Nat.reduceAdd, Nat.reduceMul, Nat.reduceEqDiff,  jifT, bdS, sifN, sifS, omN, omS, cdI, x25, x26, x27, x28, x29, x30, x31, x32, xr0, xr1, xr2, xr3, xr4, xr5, if_pos, if_neg, true_and, and_true, false_and, and_false, and_self, Bool.and_true, if_true, if_false, reduceIte, cond_true, cond_false, not_true_eq_false, not_false_eq_true, x51, x52, x53, x54, x55, x56, x57, x58, x59, x60, x61, x62, x63, t51, e182', td51, td333, td34, e179']
  · rw [go33 36 (by clear e12 prog; omega), te33 36 (by clear e12 prog; omega)]
    exact g35.2.1
  · rw [go33 35 (by clear e12 prog; omega), te33 35 (by clear e12 prog; omega), goL, te37, g35.1, mpu_go hsr]
    exact x9
  · have gref : (luS (goS (rpush SC p1 4 w x g) pp' n' st cn kx) s qa A.2.2.2.1.length).2.2 = SC.2.2 := by
      unfold goS
      by_cases c4 : st = 4
      · rw [if_pos c4]; rfl
      · rw [if_neg c4]; rfl
    rw [gref]
    exact SCX
  · rw [go33 38 (by clear e12 prog; omega), te33 38 (by clear e12 prog; omega), g33 38 (by clear e12 prog; omega) (by clear e12 prog; omega)]
  · rw [(goag 56 r d (by clear e12 prog; omega)).1, (agA 56 r d (by clear e12 prog; omega)).1]; exact o2
  · rw [(goag 54 r 0 (by clear e12 prog; omega)).1, (agA 54 r 0 (by clear e12 prog; omega)).1]; exact d2
end PL4
