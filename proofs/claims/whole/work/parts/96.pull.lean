/-! What a receiver gets, where the channel holds something. -/
section PL3
variable {φ : Nat → Nat} {D : Nat → Prop} {F N : Nat} {P : aP} {S S' T T' : sS} {A : aS} {r d p f pc n m e b k y : Nat} {G : jG} {t : Nat}
theorem agr.cI {E : Nat → Nat → Nat → Prop} (h : agr E S S') (t i j k : Nat) (x : Int32) : agr E (siI S t i j k x) (siI S' t i j k x) := fun t' i' j' z => by
  refine ⟨?_, (h t' i' j' z).2⟩
  by_cases c : t' = t ∧ i' = i ∧ j' = j
  · obtain ⟨rfl, rfl, rfl⟩ := c
    rw [siI_self, siI_self, (h t' i' j' z).1]
  · rw [siI_ne _ _ _ c, siI_ne _ _ _ c]
    exact (h t' i' j' z).1
theorem agr.cL {E : Nat → Nat → Nat → Prop} (h : agr E S S') (t i j k : Nat) (x : Int64) : agr E (siL S t i j k x) (siL S' t i j k x) := fun t' i' j' z => by
  refine ⟨(h t' i' j' z).1, ?_⟩
  by_cases c : t' = t ∧ i' = i ∧ j' = j
  · obtain ⟨rfl, rfl, rfl⟩ := c
    rw [siL_self, siL_self, (h t' i' j' z).2]
  · rw [siL_ne _ _ _ c, siL_ne _ _ _ c]
    exact (h t' i' j' z).2
theorem agr.cm {E : Nat → Nat → Nat → Prop} (h : agr E T T') (r d n : Nat) (kk : Int32) (v : Int64) : agr E (mpu T r d n kk v) (mpu T' r d n kk v) := ((h.cI _ _ _ _ _).cL _ _ _ _ _).cI _ _ _ _ _
/-! the reference's shift, up to its end -/
set_option maxHeartbeats 4000000 in
set_option linter.unusedSimpArgs false in
theorem l_183 {q w : Nat} {v1 v3 : Int32} (hq : q < 1300) (hw : T.1 51 q 0 2 = nI w) (hw2 : w < 16) : ∀ j i tt, i + j = w → j < tt → F_183_59 G t tt v1 (q, 0) v3 (nI i) (shT T q i) = F_183_59 G t (tt - j) v1 (q, 0) v3 (nI w) (shT T q w) := by
  intro j
  induction j with
  | zero =>
    intro i tt h1 h2
    have : i = w := by omega
    subst this
    rfl
  | succ j ih =>
    intro i tt h1 h2
    obtain ⟨u, rfl⟩ : ∃ u, tt = u + 1 := ⟨tt - 1, by omega⟩
    have e := ih (i + 1) u (by omega) (by omega)
    have v := shT_v T q (i + 1) i
    rw [if_neg (by omega), if_neg (by omega)] at v
    have a1 := v.1
    have a2 := v.2
    have a3 : (shT T q i).1 51 q 0 2 = nI w := by rw [shT_I _ _ (by omega)]; exact hw
    rw [show u + 1 - (j + 1) = u - j by omega, ← e, F_183_59]
    clear ih e v
    simp (disch := first | assumption | omega) only [gI, gI2, gL, gL1, gL2, jcLT, jcGE, jcGT, jcLE, jcEQ, jcNE, dEQ, nIt, lgNE, lgEQ, lgGE, lgLT, lgGT, lgLE, jinT, nIc, nI0, nI1, nIo, nIs, nI_add, nIm, nIn0, szl0, szl1, szl2, szl3, szl4, szl5, Nat.add_sub_assoc, Nat.add_zero, Nat.reduceSub, Nat.reduceAdd, Nat.reduceMul, Nat.reduceEqDiff,  jifT, bdS, sifN, sifS, omN, omS, cdI, x25, x26, x27, x28, x29, x30, x31, x32, xr0, xr1, xr2, xr3, xr4, xr5, if_pos, if_neg, true_and, and_true, false_and, and_false, and_self, Bool.and_true, if_true, if_false, reduceIte, cond_true, cond_false, not_true_eq_false, not_false_eq_true, x51, x52, x53, x54, x55, x56, x57, x58, x59, x60, x61, x62, x63, a3, a1, a2]
    rfl
/-! where got stands, and what was taken away -/
def gtT (T : sS) (q w : Nat) : sS := siI (siL (siI (siI T 33 0 0 36 (nI 1)) 33 0 0 35 (T.1 52 q 0 0)) 33 0 0 37 (T.2.1 53 q 0 0)) 51 q 0 2 (nI w)
set_option maxHeartbeats 4000000 in
set_option linter.unusedSimpArgs false in
theorem e183 {q w : Nat} {o : Option Nat} (ht : 1000 < t) (hq : q < 1300) (hw : T.1 51 q 0 2 = nI (w + 1)) (hw2 : w < 16) (e1 : F_175 G t (nI q) (nI 1) (siI T 33 0 0 36 (nI 1)) = some (oI o, siI T 33 0 0 36 (nI 1))) : F_183 G t (nI q) T = F_183_59 G t (t - w) (nI q) (q, 0) (oI o) (nI w) (shT (gtT T q w) q w) := by
  have e2 := l_183 (G := G) (t := t) (T := gtT T q w) (q := q) (w := w) (v1 := nI q) (v3 := oI o) hq (siI_at _ _ _ _ _ _) hw2 w 0 t (by omega) (by omega)
  have e3 : shT (gtT T q w) q 0 = gtT T q w := rfl
  rw [e3] at e2
  rw [← e2]
  unfold F_183 gtT
  clear e2 e3
  simp (disch := first | assumption | omega) only [gI, gI2, gL, gL1, gL2, jcLT, jcGE, jcGT, jcLE, jcEQ, jcNE, dEQ, nIt, lgNE, lgEQ, lgGE, lgLT, lgGT, lgLE, jinT, nIc, nI0, nI1, nIo, nIs, nI_add, nIm, nIn0, szl0, szl1, szl2, szl3, szl4, szl5, Nat.add_sub_assoc, Nat.add_zero, Nat.reduceSub, Nat.reduceAdd, Nat.reduceMul, Nat.reduceEqDiff,  jifT, bdS, sifN, sifS, omN, omS, cdI, x25, x26, x27, x28, x29, x30, x31, x32, xr0, xr1, xr2, xr3, xr4, xr5, if_pos, if_neg, true_and, and_true, false_and, and_false, and_self, Bool.and_true, if_true, if_false, reduceIte, cond_true, cond_false, not_true_eq_false, not_false_eq_true, x51, x52, x53, x54, x55, x56, x57, x58, x59, x60, x61, x62, x63, e1, hw]
theorem gtT_ag (T : sS) (q w : Nat) : agr (fun t i j => t = 33 ∨ (51 ≤ t ∧ t ≤ 53 ∧ i = q)) T (shT (gtT T q w) q w) := (agr.i (agr.l (agr.i (agr.i (agr.refl _ _) _ _ (by omega)) _ _ (by omega)) _ _ (by omega)) _ _ (by omega) : agr (fun t i j => t = 33 ∨ (51 ≤ t ∧ t ≤ 53 ∧ i = q)) T (gtT T q w)).trans (fun t i j z => ⟨shT_I _ _ (by omega) _, shT_L _ _ (by omega) _⟩)
theorem chR.mv {p1 z w c : Nat} (h : chR φ D S T y p1 z w c) (aS : agr (fun t i j => ¬ (t = 32 ∧ i = p1) ∧ ¬ (29 ≤ t ∧ t ≤ 31 ∧ i = p1 ∧ j = 4)) S S') (hX : S'.2.2 = S.2.2) (aT : agr (fun t i j => ¬ (51 ≤ t ∧ t ≤ 53)) T T') : chR φ D S' T' y p1 z w c := by
  unfold chR at h ⊢
  rw [hX, (aS 32 p1 0 (by omega)).1, (aS 29 p1 4 (by omega)).1, (aS 31 p1 4 (by omega)).1, (aS 30 p1 4 (by omega)).2, (aT 51 (φ y) 0 (by omega)).1, (aT 52 (φ y) 0 (by omega)).1, (aT 53 (φ y) 0 (by omega)).2]
  exact h
/-! the first value of the channel: for both, before who sends goes on -/
theorem cx.first (ht : 1000 < t) (h : cx φ D F N P S T A r d p f pc k m) (gc : gcR D S) (hk : k < 16) (hy : D y) {p1 z w c : Nat} (hc : chR φ D S T y p1 z (w + 1) c) :
    ∃ S1, F_78 G t (p, 1) (S.2.1 30 p1 4 0) (S.1 31 p1 4 0) S = some ((), rpush S p 1 k (S.2.1 30 p1 4 0) (S.1 31 p1 4 0)) ∧ F_96 G t (p1, 4) (nI 0) (rpush S p 1 k (S.2.1 30 p1 4 0) (S.1 31 p1 4 0)) = some ((), S1) ∧ F_97 G t (p1, 4) S1 = some ((), siI (dfS S1 p1 w) 29 p1 4 2 (nI w)) ∧ S1.2.2 = S.2.2 ∧
      agr (fun t i j => (15 ≤ t ∧ t ≤ 17) ∨ (29 ≤ t ∧ t ≤ 31 ∧ i = p1 ∧ j = 4) ∨ (27 ≤ t ∧ t ≤ 31 ∧ i = p ∧ j < 4)) S (siI (dfS S1 p1 w) 29 p1 4 2 (nI w)) ∧
      cx φ D F N P (siI (dfS S1 p1 w) 29 p1 4 2 (nI w)) (mpu (shT (gtT T (φ y) w) (φ y) w) r d k (T.1 52 (φ y) 0 0) (T.2.1 53 (φ y) 0 0)) (aset A r 1 (d + 1) (fset (A.2.2.1 r) d (f, pc, k + 1, m, 0))) r d p f pc (k + 1) m ∧ gcR D (siI (dfS S1 p1 w) 29 p1 4 2 (nI w)) ∧ chR φ D (siI (dfS S1 p1 w) 29 p1 4 2 (nI w)) (mpu (shT (gtT T (φ y) w) (φ y) w) r d k (T.1 52 (φ y) 0 0) (T.2.1 53 (φ y) 0 0)) y p1 z w c := by
  obtain ⟨hM, o1, o2, hn, hr, d2, d3⟩ := h.rd
  have hv := hc.2.2.2.2.2.2.2 0 (by omega)
  have hM1 := hc.2.1
  have e4 : F_78 G t (p, 1) (S.2.1 30 p1 4 0) (S.1 31 p1 4 0) S = some ((), rpush S p 1 k (S.2.1 30 p1 4 0) (S.1 31 p1 4 0)) := f_78 ⟨xr1 hM, o1, show k ≤ 16 by omega⟩ (show k < 16 by omega)
  -- got, in the reference's rows
  generalize hTt : siL (siI (siI T 33 0 0 36 (nI 1)) 33 0 0 35 (T.1 52 (φ y) 0 0)) 33 0 0 37 (T.2.1 53 (φ y) 0 0) = Tt
  have aTt : agr (fun t _ _ => t = 33) T Tt := by
    subst hTt
    exact agr.l (agr.i (agr.i (agr.refl _ _) _ _ rfl) _ _ rfl) _ _ rfl
  have h2 := h.tmp (T' := Tt) (aTt.mono (fun t i j q => Or.inl q)) (fun k' hk' => by
    subst hTt
    rw [gL1, gI, if_neg (by omega), gI, if_neg (by omega)]) (by
    subst hTt
    rw [gL, if_neg (by omega)]
    rfl)
  obtain ⟨h3, k3⟩ := h2.pu hk hv
  have hp1 : p ≠ p1 := fun z => by
    subst z
    have := (h.1.2.2.2.2.2.2.2.2.2.2.2.2.2.1 p hM).2
    rw [hM1] at this
    cases this
  have hc3 : chR φ D (rpush S p 1 k (S.2.1 30 p1 4 0) (S.1 31 p1 4 0)) (mpu Tt r d k (T.1 52 (φ y) 0 0) (T.2.1 53 (φ y) 0 0)) y p1 z (w + 1) c := hc.mv ((rp_ag _ _ _ _ _).mono (fun t i j q => by omega)) rfl ((aTt.mono (fun t i j q => by omega)).trans ((mu_ag _ _ _ _ _ _).mono (fun t i j q => by omega)))
  obtain ⟨S1, r1, r2, r3, r4, r5⟩ := h3.1.chd (G := G) (t := t) ht (gc.keep k3) hy hc3
  have egt : gtT T (φ y) w = siI Tt 51 (φ y) 0 2 (nI w) := by subst hTt; rfl
  have tt51 := (aTt 51 (φ y) 0 (by omega)).1
  have tt52 := (aTt 52 (φ y) 0 (by omega)).1
  have tt53 := (aTt 53 (φ y) 0 (by omega)).2
  have agS : agr (fun t i j => (51 ≤ t ∧ t ≤ 53 ∧ i = φ y) ∨ (46 ≤ t ∧ t ≤ 50)) Tt (shT (gtT T (φ y) w) (φ y) w) := by
    rw [egt]
    exact (agr.i (agr.refl _ _) _ _ (by omega)).trans (fun t i j z => ⟨shT_I _ _ (by omega) _, shT_L _ _ (by omega) _⟩)
  obtain ⟨w5, g5, c5⟩ := r5 (mpu (shT (gtT T (φ y) w) (φ y) w) r d k (T.1 52 (φ y) 0 0) (T.2.1 53 (φ y) 0 0)) (agS.cm _ _ _ _ _) (fun k' hk' => by
    rw [(mu_ag _ _ _ _ _ _ 51 (φ y) 0 (by omega)).1, (mu_ag _ _ _ _ _ _ 51 (φ y) 0 (by omega)).1, shT_I _ _ (by omega), egt, gI, if_neg (by omega)]) (by
    rw [(mu_ag _ _ _ _ _ _ 51 (φ y) 0 (by omega)).1, shT_I _ _ (by omega), egt, siI_at]) (fun i hi => by
    have m52 := (mu_ag Tt r d k (T.1 52 (φ y) 0 0) (T.2.1 53 (φ y) 0 0) 52 (φ y) 0 (by omega)).1
    have m53 := (mu_ag Tt r d k (T.1 52 (φ y) 0 0) (T.2.1 53 (φ y) 0 0) 53 (φ y) 0 (by omega)).2
    have sv := shT_v (gtT T (φ y) w) (φ y) i w
    rw [if_pos hi, if_pos hi, egt, siI_ne _ _ _ (show ¬ (52 = 51 ∧ φ y = φ y ∧ 0 = 0) by omega), gI2] at sv
    rw [m52, m53, (mu_ag _ _ _ _ _ _ 52 (φ y) 0 (by omega)).1, (mu_ag _ _ _ _ _ _ 53 (φ y) 0 (by omega)).2, egt]
    exact sv)
  refine ⟨S1, e4, r1, r2, r3, ((rp_ag _ _ _ _ _).mono (fun t i j q => by omega)).trans (r4.mono (fun t i j q => by omega)), ⟨w5, h3.2.1, hr, h3.2.2.2.1, h3.2.2.2.2.1, ?_, h3.2.2.2.2.2.2⟩, g5, c5⟩
  rw [gI2, dfS_2, r3]
  exact h.2.2.2.2.2.1
/-! nobody sends, the channel holds something -/
set_option maxHeartbeats 4000000 in
set_option linter.unusedSimpArgs false in
theorem cx.pullC (ht : 1000 < t) (h : cx φ D F N P S T A r d p f pc k m) (gc : gcR D S) (iq : iqR P A r False) (hW : A.2.2.2.2.2.1 + A.2.2.2.2.2.2 < 2147483648) (hk : k < 16) (hy : D y) {p1 z w c : Nat} (hc : chR φ D S T y p1 z (w + 1) c) (hl : lw S A y 1 0 = none) :
    plR φ D F N P S T A r d p f pc k m (F_99 G t (p1, 0) (nI (y + 2)) (p, 1) S) (F_183 G t (nI (φ y)) T) := by
  obtain ⟨hM, o1, o2, hn, hr, d2, d3⟩ := h.rd
  have hy6 := h.1.2.2.2.2.1.1 y hy
  obtain ⟨S1, e1, e2, e3, e4, e5, e6, e7, e8⟩ := h.first (G := G) ht gc hk hy hc
  obtain ⟨c1, c2, ⟨c3, c3'⟩, ⟨_, _, c4⟩, ⟨c5, c5', c6⟩, _⟩ := hc
  have lwC := h.1.lwC (G := G) (t := t) (y := y) (sn := 1) (rc := 0) (by omega) hy6.1 (by omega) (by omega) hW
  rw [hl] at lwC
  obtain ⟨m1, m2⟩ := tm36 T (nI 1)
  have w1 := h.1.tmp m1 (fun k hk => m2 k (by omega)) rfl
  have lwM := w1.lwM (G := G) (t := t) (y := y) (snd := 1) (by omega) hy (by rw [(m1 51 (φ y) 0 (by omega)).1]; exact c3') (by omega) hW
  rw [show 1 - 1 = 0 from rfl, hl] at lwM
  have em := e183 (G := G) (t := t) (T := T) (q := φ y) (w := w) (o := none) ht hy6.2 c5' (by omega) lwM
  have g33 : ∀ k', k' ≠ 35 → k' ≠ 36 → (shT (gtT T (φ y) w) (φ y) w).1 33 0 0 k' = T.1 33 0 0 k' := fun k' a b => by
    rw [shT_I _ _ (by omega)]
    unfold gtT
    rw [siI_ne _ _ _ (by omega), gL1, gI, if_neg (by omega), gI, if_neg (by omega)]
  have g35 : (shT (gtT T (φ y) w) (φ y) w).1 33 0 0 35 = T.1 52 (φ y) 0 0 := by
    rw [shT_I _ _ (by omega)]
    unfold gtT
    rw [siI_ne _ _ _ (by omega), gL1, siI_at]
  have g36 : (shT (gtT T (φ y) w) (φ y) w).1 33 0 0 36 = nI 1 := by
    rw [shT_I _ _ (by omega)]
    unfold gtT
    rw [siI_ne _ _ _ (by omega), gL1, gI, if_neg (by omega), siI_at]
  have g37 : (shT (gtT T (φ y) w) (φ y) w).2.1 33 0 0 37 = T.2.1 53 (φ y) 0 0 := by
    rw [shT_L _ _ (by omega)]
    unfold gtT
    rw [gI2, gL, if_pos ⟨rfl, rfl, rfl, rfl⟩]
  have agT := gtT_ag T (φ y) w
  refine ⟨siI (dfS S1 p1 w) 29 p1 4 2 (nI w), shT (gtT T (φ y) w) (φ y) w, aset A r 1 (d + 1) (fset (A.2.2.1 r) d (f, pc, k + 1, m, 0)), 1, ?_, by omega, ?_, g36, ?_, e7, iq.set, by rw [gI2, dfS_2, e4], g33 38 (by omega) (by omega), rfl, by rw [(agT 56 r d (by omega)).1]; exact o2, by rw [(agT 54 r 0 (by omega)).1]; exact d2⟩
  rotate_left 2
  · rw [g35, g37]
    exact e6
  · have rwc : rwS S p1 4 (w + 1) := ⟨xr4 c2, c5, show w + 1 ≤ 16 by omega⟩
    have f26 := f_26 (G := G) (t := t) rwc (i := 0) (by omega)
    have f27 := f_27 (G := G) (t := t) rwc (i := 0) (by omega)
    have x1 : (rpush S p 1 k (S.2.1 30 p1 4 0) (S.1 31 p1 4 0)).2.2 = S.2.2 := rfl
    clear h gc iq w1 lwM e6 e7 e8 rwc agT e5 em
    unfold F_99
    simp (disch := first | assumption | omega) only [gI, gI2, gL, gL1, gL2, jcLT, jcGE, jcGT, jcLE, jcEQ, jcNE, dEQ, nIt, lgNE, lgEQ, lgGE, lgLT, lgGT, lgLE, jinT, nIc, nI0, nI1, nIo, nIs, nI_add, nIm, nIn0, szl0, szl1, szl2, szl3, szl4, szl5, Nat.add_sub_assoc, Nat.add_zero, Nat.reduceSub, Nat.reduceAdd, Nat.reduceMul, Nat.reduceEqDiff,  jifT, bdS, sifN, sifS, omN, omS, cdI, x25, x26, x27, x28, x29, x30, x31, x32, xr0, xr1, xr2, xr3, xr4, xr5, if_pos, if_neg, true_and, and_true, false_and, and_false, and_self, Bool.and_true, if_true, if_false, reduceIte, cond_true, cond_false, not_true_eq_false, not_false_eq_true, c2, lwC, c5, hM, f26, f27, e1, e2, e3, e4, x1]
  · have t51 : (shT (gtT T (φ y) w) (φ y) w).1 51 (φ y) 0 2 = nI w := by
      rw [shT_I _ _ (by omega)]
      exact siI_at _ _ _ _ _ _
    have jg : jcmp .ge (-1) (nI 0) = false := by rw [← nI0]; decide
    rw [em, show t - w = t - w - 1 + 1 by omega, oI_n, F_183_59]
    have q2 := hy6.2
    clear h gc iq w1 lwM e6 e7 e8 agT e5 em lwC
    simp (disch := first | assumption | omega) only [gI, gI2, gL, gL1, gL2, jcLT, jcGE, jcGT, jcLE, jcEQ, jcNE, dEQ, nIt, lgNE, lgEQ, lgGE, lgLT, lgGT, lgLE, jinT, nIc, nI0, nI1, nIo, nIs, nI_add, nIm, nIn0, szl0, szl1, szl2, szl3, szl4, szl5, Nat.add_sub_assoc, Nat.add_zero, Nat.reduceSub, Nat.reduceAdd, Nat.reduceMul, Nat.reduceEqDiff,  jifT, bdS, sifN, sifS, omN, omS, cdI, x25, x26, x27, x28, x29, x30, x31, x32, xr0, xr1, xr2, xr3, xr4, xr5, if_pos, if_neg, true_and, and_true, false_and, and_false, and_self, Bool.and_true, if_true, if_false, reduceIte, cond_true, cond_false, not_true_eq_false, not_false_eq_true, x51, x52, x53, x54, x55, x56, x57, x58, x59, x60, x61, x62, x63, t51, jg]
end PL3
