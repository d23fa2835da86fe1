/-! A call. -/
def agT (T : sS) (r d1 pa : Nat) : Nat → sS
  | 0 => T
  | i + 1 => siL (siI (agT T r d1 pa i) 57 r d1 i (T.1 47 0 0 (pa - 1 - i))) 61 r d1 i (T.2.1 48 0 0 (pa - 1 - i))
theorem agT_2 (T : sS) (r d pa : Nat) : ∀ i, (agT T r d pa i).2.2 = T.2.2 := by
  intro i
  induction i with
  | zero => rfl
  | succ i ih => exact ih
theorem agT_I (T : sS) (s d pa : Nat) {t x y : Nat} (h : ¬ (t = 57 ∧ x = s ∧ y = d)) : ∀ i, (agT T s d pa i).1 t x y = T.1 t x y := by
  intro i
  induction i with
  | zero => rfl
  | succ i ih => exact (siI_ne _ _ _ h).trans ih
theorem agT_L (T : sS) (s d pa : Nat) {t x y : Nat} (h : ¬ (t = 61 ∧ x = s ∧ y = d)) : ∀ i, (agT T s d pa i).2.1 t x y = T.2.1 t x y := by
  intro i
  induction i with
  | zero => rfl
  | succ i ih => exact (siL_ne _ _ _ h).trans ih
theorem agT_v (T : sS) (s d pa q : Nat) : ∀ i, (agT T s d pa i).1 57 s d q = (if q < i then T.1 47 0 0 (pa - 1 - q) else T.1 57 s d q) ∧ (agT T s d pa i).2.1 61 s d q = (if q < i then T.2.1 48 0 0 (pa - 1 - q) else T.2.1 61 s d q) := by
  intro i
  induction i with
  | zero => exact ⟨rfl, rfl⟩
  | succ i ih =>
    refine ⟨?_, ?_⟩
    · unfold agT
      rw [gL1, gI]
      by_cases c : q = i
      · subst c
        rw [if_pos ⟨rfl, rfl, rfl, rfl⟩, if_pos (by omega)]
      · rw [if_neg (by omega), ih.1]
        by_cases c2 : q < i
        · rw [if_pos c2, if_pos (by omega)]
        · rw [if_neg c2, if_neg (by omega)]
    · unfold agT
      rw [gL]
      by_cases c : q = i
      · subst c
        rw [if_pos ⟨rfl, rfl, rfl, rfl⟩, if_pos (by omega)]
      · rw [if_neg (by omega), gI2, ih.2]
        by_cases c2 : q < i
        · rw [if_pos c2, if_pos (by omega)]
        · rw [if_neg c2, if_neg (by omega)]
set_option maxHeartbeats 4000000 in
set_option linter.unusedSimpArgs false in
theorem l_161 {G : jG} {t : Nat} {T : sS} {r d pa : Nat} (hr : r < 16) (hd : d < 30) (hpa : pa ≤ 4) (h3 : T.1 54 r 0 1 = nI (d + 1)) : ∀ j i tt, i + j = pa → j < tt → F_161_2 G t tt (r, 0) (nI pa) (nI i) (agT T r d pa i) = some ((), agT T r d pa pa) := by
  intro j
  induction j with
  | zero =>
    intro i tt h1 h2
    obtain ⟨u, rfl⟩ : ∃ u, tt = u + 1 := ⟨tt - 1, by omega⟩
    rw [F_161_2]
    have : i = pa := by omega
    subst this
    simp (disch := first | assumption | omega) only [gI, gI2, gL, gL1, gL2, jcLT, jcGE, jcGT, jcLE, jcEQ, jcNE, dEQ, nIt, lgNE, lgEQ, lgGE, lgLT, lgGT, lgLE, jinT, nIc, nI0, nI1, nIo, nIs, nI_add, nIm, nIn0, szl0, szl1, szl2, szl3, szl4, szl5, Nat.add_sub_assoc, Nat.add_zero, Nat.reduceSub, Nat.reduceAdd, Nat.reduceMul, Nat.reduceEqDiff,  jifT, bdS, sifN, sifS, omN, omS, cdI, x25, x26, x27, x28, x29, x30, x31, x32, xr0, xr1, xr2, xr3, xr4, xr5, if_pos, if_neg, true_and, and_true, false_and, and_false, and_self, Bool.and_true, if_true, if_false, reduceIte, cond_true, cond_false, not_true_eq_false, not_false_eq_true]
  | succ j ih =>
    intro i tt h1 h2
    obtain ⟨u, rfl⟩ : ∃ u, tt = u + 1 := ⟨tt - 1, by omega⟩
    rw [F_161_2]
    have e := ih (i + 1) u (by omega) (by omega)
    clear ih
    simp (disch := first | assumption | omega) only [gI, gI2, gL, gL1, gL2, jcLT, jcGE, jcGT, jcLE, jcEQ, jcNE, dEQ, nIt, lgNE, lgEQ, lgGE, lgLT, lgGT, lgLE, jinT, nIc, nI0, nI1, nIo, nIs, nI_add, nIm, nIn0, szl0, szl1, szl2, szl3, szl4, szl5, Nat.add_sub_assoc, Nat.add_zero, Nat.reduceSub, Nat.reduceAdd, Nat.reduceMul, Nat.reduceEqDiff,  jifT, bdS, sifN, sifS, omN, omS, cdI, x25, x26, x27, x28, x29, x30, x31, x32, xr0, xr1, xr2, xr3, xr4, xr5, if_pos, if_neg, true_and, and_true, false_and, and_false, and_self, Bool.and_true, if_true, if_false, reduceIte, cond_true, cond_false, not_true_eq_false, not_false_eq_true, x51, x52, x53, x54, x55, x56, x57, x58, x59, x60, x61, x62, x63, F_151, agT_I, agT_L, agT_2, h3]
    exact e
theorem f_161 {G : jG} {t : Nat} {T : sS} {r d pa : Nat} (ht : 100 < t) (hr : r < 16) (hd : d < 30) (hpa : pa ≤ 4) (h3 : T.1 54 r 0 1 = nI (d + 1)) : F_161 G t (r, 0) (nI pa) T = some ((), agT T r d pa pa) := l_161 hr hd hpa h3 pa 0 t (by omega) (by omega)
section CAL
variable {φ : Nat → Nat} {D : Nat → Prop} {F N : Nat} {P : aP} {S S' T T' : sS} {A : aS} {r d p f pc n m e b k : Nat} {G : jG} {t : Nat}
set_option maxHeartbeats 4000000 in
set_option linter.unusedSimpArgs false in
theorem x_18 {g pa : Nat} (hM : S.2.2.2.1.1 p = true) (hr : r < 16) (o1 : S.1 29 p 1 2 = nI n) (hn : n ≤ 16) (hF : S.1 1 0 0 6 = nI F) (hF2 : F ≤ 32) (hg : g < F) (hpa : S.1 2 0 0 g = nI pa) (hpn : pa ≤ n) {S1 : sS} (q1 : F_29 G t (r, 0) (nI g) (p, 1) (nI (n - pa)) S = some (nI 1, S1)) (hM1 : S1.2.2.2.1.1 p = true) (o1' : S1.1 29 p 1 2 = nI n) : X_18 G t r p (nI g) S = some (nI 0, siI S1 29 p 1 2 (nI (n - pa))) := by
  have e1 := f_17 (G := G) (t := t) hF hF2 hg
  rw [hpa] at e1
  have e7 : F_76 G t (p, 1) (nI pa) S1 = some ((), siI S1 29 p 1 2 (nI (n - pa))) := f_76 (sz := n) ⟨xr1 hM1, o1', hn⟩ (by omega)
  unfold X_18
  simp (disch := first | assumption | omega) only [gI, gI2, gL, gL1, gL2, jcLT, jcGE, jcGT, jcLE, jcEQ, jcNE, dEQ, nIt, lgNE, lgEQ, lgGE, lgLT, lgGT, lgLE, jinT, nIc, nI0, nI1, nIo, nIs, nI_add, nIm, nIn0, szl0, szl1, szl2, szl3, szl4, szl5, Nat.add_sub_assoc, Nat.add_zero, Nat.reduceSub, Nat.reduceAdd, Nat.reduceMul, Nat.reduceEqDiff,  jifT, bdS, sifN, sifS, omN, omS, cdI, x25, x26, x27, x28, x29, x30, x31, x32, xr0, xr1, xr2, xr3, xr4, xr5, if_pos, if_neg, true_and, and_true, false_and, and_false, and_self, Bool.and_true, if_true, if_false, reduceIte, cond_true, cond_false, not_true_eq_false, not_false_eq_true, F_116_116, F_77, F_77_50, hM, o1, e1, q1, e7, hM1]
set_option maxHeartbeats 4000000 in
set_option linter.unusedSimpArgs false in
theorem x_18f {g pa : Nat} (hM : S.2.2.2.1.1 p = true) (hr : r < 16) (o1 : S.1 29 p 1 2 = nI n) (hn : n ≤ 16) (hF : S.1 1 0 0 6 = nI F) (hF2 : F ≤ 32) (hg : g < F) (hpa : S.1 2 0 0 g = nI pa) (hpn : pa ≤ n) (h3 : S.1 25 r 0 3 = nI 30) : X_18 G t r p (nI g) S = some (-3, S) := by
  have e1 := f_17 (G := G) (t := t) hF hF2 hg
  rw [hpa] at e1
  unfold X_18
  simp (disch := first | assumption | omega) only [gI, gI2, gL, gL1, gL2, jcLT, jcGE, jcGT, jcLE, jcEQ, jcNE, dEQ, nIt, lgNE, lgEQ, lgGE, lgLT, lgGT, lgLE, jinT, nIc, nI0, nI1, nIo, nIs, nI_add, nIm, nIn0, szl0, szl1, szl2, szl3, szl4, szl5, Nat.add_sub_assoc, Nat.add_zero, Nat.reduceSub, Nat.reduceAdd, Nat.reduceMul, Nat.reduceEqDiff,  jifT, bdS, sifN, sifS, omN, omS, cdI, x25, x26, x27, x28, x29, x30, x31, x32, xr0, xr1, xr2, xr3, xr4, xr5, if_pos, if_neg, true_and, and_true, false_and, and_false, and_self, Bool.and_true, if_true, if_false, reduceIte, cond_true, cond_false, not_true_eq_false, not_false_eq_true, F_116_116, F_77, F_77_50, F_29, hM, o1, e1, h3]
set_option maxHeartbeats 4000000 in
set_option linter.unusedSimpArgs false in
theorem w_18 {g pa : Nat} {T1 T2 T3 : sS} (hr : r < 16) (hg : g < 32) (hpa : T.1 37 0 0 g = nI pa) (q0 : F_156 G t (r, 0) (nI pa) T = some (nI 1, T1)) (h3 : T1.1 54 r 0 1 = nI (d + 1)) (hd : d < 29) (q1 : F_142 G t (r, 0) (nI g) (nI 0) T1 = some ((), T2)) (q2 : F_161 G t (r, 0) (nI pa) T2 = some ((), T3)) : W_18 G t r d (nI g) T = some ((), T3) := by
  unfold W_18
  simp (disch := first | assumption | omega) only [gI, gI2, gL, gL1, gL2, jcLT, jcGE, jcGT, jcLE, jcEQ, jcNE, dEQ, nIt, lgNE, lgEQ, lgGE, lgLT, lgGT, lgLE, jinT, nIc, nI0, nI1, nIo, nIs, nI_add, nIm, nIn0, szl0, szl1, szl2, szl3, szl4, szl5, Nat.add_sub_assoc, Nat.add_zero, Nat.reduceSub, Nat.reduceAdd, Nat.reduceMul, Nat.reduceEqDiff,  jifT, bdS, sifN, sifS, omN, omS, cdI, x25, x26, x27, x28, x29, x30, x31, x32, xr0, xr1, xr2, xr3, xr4, xr5, if_pos, if_neg, true_and, and_true, false_and, and_false, and_self, Bool.and_true, if_true, if_false, reduceIte, cond_true, cond_false, not_true_eq_false, not_false_eq_true, x51, x52, x53, x54, x55, x56, x57, x58, x59, x60, x61, x62, x63, F_162, hpa, q0, h3, q1, q2]
set_option maxHeartbeats 4000000 in
set_option linter.unusedSimpArgs false in
theorem w_18f {g pa : Nat} {T1 T2 : sS} (hr : r < 16) (hg : g < 32) (hpa : T.1 37 0 0 g = nI pa) (q0 : F_156 G t (r, 0) (nI pa) T = some (nI 1, T1)) (h3 : T1.1 54 r 0 1 = nI 30) (q1 : F_155 G t (r, 0) (-3) T1 = some ((), T2)) : W_18 G t r d (nI g) T = some ((), T2) := by
  unfold W_18
  simp (disch := first | assumption | omega) only [gI, gI2, gL, gL1, gL2, jcLT, jcGE, jcGT, jcLE, jcEQ, jcNE, dEQ, nIt, lgNE, lgEQ, lgGE, lgLT, lgGT, lgLE, jinT, nIc, nI0, nI1, nIo, nIs, nI_add, nIm, nIn0, szl0, szl1, szl2, szl3, szl4, szl5, Nat.add_sub_assoc, Nat.add_zero, Nat.reduceSub, Nat.reduceAdd, Nat.reduceMul, Nat.reduceEqDiff,  jifT, bdS, sifN, sifS, omN, omS, cdI, x25, x26, x27, x28, x29, x30, x31, x32, xr0, xr1, xr2, xr3, xr4, xr5, if_pos, if_neg, true_and, and_true, false_and, and_false, and_self, Bool.and_true, if_true, if_false, reduceIte, cond_true, cond_false, not_true_eq_false, not_false_eq_true, x51, x52, x53, x54, x55, x56, x57, x58, x59, x60, x61, x62, x63, F_162, hpa, q0, h3, q1]
/-! the frame that a call enters, on both sides -/
theorem frR.new {S1 T2 : sS} {p' g q kq a : Nat} {r' d' b' : Nat} (y : S1.1 27 p' 0 5 = nI g ∧ S1.1 27 p' 0 6 = nI 0 ∧ S1.1 27 p' 0 7 = nI 0 ∧ S1.1 29 p' 0 2 = nI (P.2.1 g) ∧ S1.1 29 p' 1 2 = nI 0 ∧ S1.1 29 p' 2 2 = nI 0 ∧ S1.1 29 p' 3 2 = nI 0) (hM : S1.2.2.2.1.1 p' = true) (hg : g < F)
    (z : T2.1 56 r' d' 0 = nI g ∧ T2.1 56 r' d' 1 = nI 0 ∧ T2.1 56 r' d' 2 = nI 0 ∧ T2.1 56 r' d' 3 = nI 0 ∧ T2.1 56 r' d' 4 = nI 0 ∧ T2.1 56 r' d' 5 = nI b') (hb : b' ≤ 1) (hv : ∀ i, i < P.2.1 g → vr φ D (S1.2.1 30 p' 0 i) (S1.1 31 p' 0 i) (T2.1 57 r' d' i) (T2.2.1 61 r' d' i)) : frR φ D F P S1 p' T2 r' d' g 0 0 0 0 b' := by
  obtain ⟨y1, y2, y3, y4, y5, y6, y7⟩ := y
  obtain ⟨z0, z1, z2, z3, z4, z5⟩ := z
  exact ⟨hM, ⟨y1, z0, hg⟩, ⟨y2, z1, Nat.zero_le _⟩, ⟨y5, z2, by omega, fun i hi => by omega⟩, ⟨y6, z3, by omega, fun i hi => by omega⟩, ⟨y4, hv⟩, ⟨y3, z4, z5, hb, Or.inl ⟨rfl, y7⟩⟩⟩
set_option maxHeartbeats 4000000 in
set_option linter.unusedSimpArgs false in
theorem i_18 (ht : 1000 < t) (h : cx φ D F N P S T A r d p f pc n m) (hpc : pc < P.2.2.2.1 f) {g : Nat} (hg : g < F) (hk : P.1 g ≤ n) (hn2 : n - P.1 g ≤ 15) : insR φ D F N P S T A r p G t (P.1 g) (X_18 G t r p (nI g) S) (W_18 G t r d (nI g) T) := by
  obtain ⟨hM, o1, o2, hn, hr, d2, d3⟩ := h.rd
  obtain ⟨⟨F1, F2, F3⟩, _, pg, _⟩ := h.1.1.1
  obtain ⟨⟨b1, b2, b3, b4⟩, ⟨b5, b6, b7⟩, _⟩ := pg g hg
  obtain ⟨⟨l, hl, _⟩, _⟩ := h.2.1 g hg
  have d1 := h.d3.1
  have q0 := e_156 (G := G) (t := t) (k := P.1 g) (by omega) hr d3 hn d2 o2 hk
  have t3 : (mpS T r d n (P.1 g)).1 54 r 0 1 = nI (d + 1) := by rw [(mpS_r _ _ _ _ _).2.2]; exact d2
  by_cases c : d = 29
  · subst c
    obtain ⟨S', T', r1, r2, r3⟩ := h.panp (G := G) ht (P.1 g) (by omega) neg3.1 neg3.2 (x_18f (r := r) hM hr o1 hn F1 F3 hg b1 hk d1)
    exact ⟨S', T', r1, w_18f hr (by omega) b2 q0 t3 r2, r3⟩
  · have ow := h.1.2.2.2.2.2.2.2.2.2
    have hp := h.2.2.2.2.2.1
    obtain ⟨p', S1, hF, en⟩ := f_29 (G := G) (t := t) (S := S) (s := r) (dp := d + 1) (f := g) (lo := P.2.1 g) (pa := P.1 g) (q := p) (kq := 1) (a := n - P.1 g) (sz := n) (F := F) (by omega) hr (by omega) ow F1 F3 hg b1 b5 b4 b7 (xr1 hM) o1 hn (by omega) (fun _ z => by
      have := (ow.2.1 _ _ _ _ _ z hp).2
      omega) (ow.2.2.2.2.1 p hM).1.1 d1
    have hpp : p ≠ p' := fun z => by
      subst z
      have := (en.2.1.1 _ _ hp).2
      omega
    have hM1 := en.1.2.2.2.1 p hM
    have o1' : S1.1 29 p 1 2 = nI n := by rw [(en.2.2.1 29 p 1 (by omega)).1]; exact o1
    have en2 := en.sz (k := 1) (nI (n - P.1 g)) hpp
    have ec := x_18 (r := r) hM hr o1 hn F1 F3 hg b1 hk hF hM1 o1'
    have u1 := f_142 (G := G) (t := t) (T := mpS T r d n (P.1 g)) (s := r) (dp := d + 1) (f := g) (b := 0) (by omega) hr (by omega) (by omega) t3
    have u2 := f_161 (G := G) (t := t) (T := meT (mpS T r d n (P.1 g)) r (d + 1) g 0) (r := r) (d := d + 1) (pa := P.1 g) (by omega) hr (by omega) b3 (by rw [meT_54, if_pos rfl])
    have e1 := w_18 hr (by omega) b2 q0 t3 (by omega) u1 u2
    have aT2 : agr (fun t i j => (t = 54 ∧ i = r ∧ j = 0) ∨ (56 ≤ t ∧ t ≤ 63 ∧ i = r ∧ j = d + 1)) (mpS T r d n (P.1 g)) (agT (meT (mpS T r d n (P.1 g)) r (d + 1) g 0) r (d + 1) (P.1 g) (P.1 g)) := (meT_ag _ _ _ _ _).trans (fun t i j z => ⟨agT_I _ _ _ _ (by omega) _, agT_L _ _ _ _ (by omega) _⟩)
    have Ra : stR φ D F P (siI S 29 p 1 2 (nI (n - P.1 g))) (mpS T r d n (P.1 g)) r 1 (d + 1) (fset (A.2.2.1 r) d (f, pc, n - P.1 g, m, 0)) := by
      refine h.st.chg ow ?_ hp ?_ ?_ (h.st.sc.keep ?_ rfl ?_) (by omega) (fun y _ hy => fset_ne _ hy) (fun y _ hy => dfb_set _ (by omega)) (fun _ => ?_) (fun z => by omega)
      · rfl
      · exact (dr_ag S p (n - P.1 g)).mono (fun t i j z => by omega)
      · exact (mp_ag T r d n (P.1 g)).mono (fun t i j z => by omega)
      · exact siI_ne _ _ _ (by omega)
      · exact (mpS_r _ _ _ _ _).2.2
      · rw [fset_at, dfb_set _ (Nat.le_refl _)]
        exact h.fr.pops _
    have R2 : stR φ D F P (siI S1 29 p 1 2 (nI (n - P.1 g))) (agT (meT (mpS T r d n (P.1 g)) r (d + 1) g 0) r (d + 1) (P.1 g) (P.1 g)) r 1 (d + 2) (fset (fset (A.2.2.1 r) d (f, pc, n - P.1 g, m, 0)) (d + 1) (g, 0, 0, 0, 0)) := by
      refine Ra.ent hr en2 (by omega) (by omega) (aT2.mono (fun t i j z => by omega)) (fun k' => ?_) (fun y hy => fset_ne _ (by omega)) ?_ (fun y hy => ?_)
      · rw [agT_I _ _ _ _ (by omega), meT_54]
      · rw [fset_at, dfb_s, fset_ne _ (by omega), fset_at]
        dsimp only
        rw [if_pos rfl]
        obtain ⟨t0, t1, t2, t3', t4, t5⟩ := meT_56 (mpS T r d n (P.1 g)) r (d + 1) g 0
        have e56 := agT_I (meT (mpS T r d n (P.1 g)) r (d + 1) g 0) r (d + 1) (P.1 g) (t := 56) (x := r) (y := d + 1) (by omega) (P.1 g)
        refine frR.new (q := 0) (kq := 0) (a := 0) en2.2.2.2.2.1 en2.1.2.2.2.2.2.1 hg ?_ (by omega) (fun i hi => ?_)
        · rw [e56]
          exact ⟨t0, t1, t2, t3', t4, t5⟩
        · obtain ⟨w1, w2⟩ := en2.2.2.2.2.2.1
          rw [(agT_v _ _ _ _ i _).1, (agT_v _ _ _ _ i _).2]
          by_cases ci : i < P.1 g
          · rw [(w1 i ci).1, (w1 i ci).2, if_pos ci, if_pos ci]
            have e47 : ∀ k', (meT (mpS T r d n (P.1 g)) r (d + 1) g 0).1 47 0 0 k' = (mpS T r d n (P.1 g)).1 47 0 0 k' := fun k' => by rw [(meT_ag (mpS T r d n (P.1 g)) r (d + 1) g 0 47 0 0 (by omega)).1]
            have e48 : ∀ k', (meT (mpS T r d n (P.1 g)) r (d + 1) g 0).2.1 48 0 0 k' = (mpS T r d n (P.1 g)).2.1 48 0 0 k' := fun k' => by rw [(meT_ag (mpS T r d n (P.1 g)) r (d + 1) g 0 48 0 0 (by omega)).2]
            have mv := mpS_v T r d n (i := P.1 g - 1 - i) (P.1 g) (by omega)
            rw [e47, e48, mv.1, mv.2, show n - (P.1 g - 1 - i + 1) = n - P.1 g + i by omega, siI_ne _ _ _ (by omega)]
            exact h.fr.2.2.2.1.2.2.2 (n - P.1 g + i) (by omega)
          · rw [(w2 i ci hi).1, (w2 i ci hi).2, if_neg ci, if_neg ci]
            obtain ⟨r1, r2⟩ := meT_z (mpS T r d n (P.1 g)) r (d + 1) g 0 i (by omega)
            rw [r1, r2]
            exact Or.inl ⟨rfl, rfl, rfl⟩
      · have : y = d := by omega
        subst this
        rw [fset_at]
        exact fun _ => ⟨hn2, hpc⟩
    have k1 : kp S (siI S1 29 p 1 2 (nI (n - P.1 g))) r := by
      refine (kp.fr ow hp ((dr_ag S p (n - P.1 g)).mono (fun t i j z => by omega)) rfl (fun k' z z' => by rw [gI, if_neg (by omega)])).trans (kp.of (ow.same rfl) (fun s' d' z => (en2.2.1.1 s' d' z).1) en2.1.2.2.2.2.2.2 en2.2.1.2 en2.2.2.1 (fun s' d' z => en2.1.2.1 s' d' (by omega)) en2.1.2.2.1 en2.1.2.2.2.1 en2.1.2.2.2.2.1 (fun k' z z' => ?_))
      rw [en2.2.2.2.1.1, if_neg z]
    have m1 : km T (agT (meT (mpS T r d n (P.1 g)) r (d + 1) g 0) r (d + 1) (P.1 g) (P.1 g)) r := by
      have aa := ((mp_ag T r d n (P.1 g)).mono (fun t i j z => by omega) : agr (fun t i j => (t = 54 ∧ i = r ∧ j = 0) ∨ (56 ≤ t ∧ t ≤ 63 ∧ i = r) ∨ (46 ≤ t ∧ t ≤ 50)) T (mpS T r d n (P.1 g))).trans (aT2.mono (fun t i j z => by omega))
      refine ⟨aa.mono (fun t i j z => by omega), fun k z => by rw [(aa 33 0 0 (by omega)).1], by rw [(aa 33 0 0 (by omega)).2], ?_, ?_⟩
      · rw [agT_2, meT_2, mpS_2]
      · rw [agT_L _ _ _ _ (by omega)]
        unfold meT
        rw [mzT_L _ _ _ (by omega)]
        show (mpS T r d n (P.1 g)).2.1 54 r 0 3 = _
        rw [mpS_L _ _ _ _ (by omega)]
    refine ⟨_, _, cD_ok ec, e1, 1, d + 2, _, h.1.one hr k1 m1 en2.2.2.2.2.2.2.1 R2 (by omega), ?_, Or.inl ⟨rfl, by omega⟩, k1, m1, fun x hx => en2.2.2.2.2.2.2.2.1 x (hx.same rfl)⟩
    intro y hy
    have : y = d + 1 := by omega
    subst this
    rw [fset_at]
    exact ⟨rfl, by show 0 < P.2.2.2.1 g; omega⟩
end CAL
