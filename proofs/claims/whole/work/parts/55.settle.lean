/-! Frames that end: the class's finish beside the reference's settle. -/
set_option maxHeartbeats 4000000 in
set_option linter.unusedSimpArgs false in
theorem enR.sz {S S1 : sS} {s dp p' f lo pa q kq a p k : Nat} (x : Int32) (h : enR S S1 s dp p' f lo pa q kq a) (hne : p ≠ p') : enR (siI S 29 p k 2 x) (siI S1 29 p k 2 x) s dp p' f lo pa q kq a := by
  obtain ⟨h1, h2, h3, ⟨h4, h4'⟩, h5, ⟨h6, h6'⟩, h7, h8, h9⟩ := h
  refine ⟨h1, h2, fun t i j z => ⟨?_, (h3 t i j z).2⟩, ⟨fun k' => ?_, h4'⟩, ?_, ⟨fun i hi => ?_, fun i hi hl => ?_⟩, h7.same rfl, fun y hy => ?_, h9⟩
  · by_cases c : t = 29 ∧ i = p ∧ j = k
    · obtain ⟨rfl, rfl, rfl⟩ := c
      rw [siI_self, siI_self, (h3 29 i j z).1]
    · rw [siI_ne _ _ _ c, siI_ne _ _ _ c]
      exact (h3 t i j z).1
  · simp (disch := omega) only [gI, if_neg]
    exact h4 k'
  · obtain ⟨g1, g2, g3, g4, g5, g6, g7⟩ := h5
    refine ⟨?_, ?_, ?_, ?_, ?_, ?_, ?_⟩
    all_goals (rw [gI, if_neg (by omega)]; assumption)
  · rw [gI, gI, if_neg (by omega), if_neg (by omega), gI2, gI2]
    exact h6 i hi
  · rw [gI, if_neg (by omega), gI2]
    exact h6' i hi hl
  · exact (h8 y (hy.same rfl)).same rfl
def fset (fs : aFs) (d : Nat) (x : Nat × Nat × Nat × Nat × Nat) : aFs := fun y => if y = d then x else fs y
theorem fset_at (fs : aFs) (d : Nat) (x : Nat × Nat × Nat × Nat × Nat) : fset fs d x d = x := if_pos rfl
theorem fset_ne {fs : aFs} {d y : Nat} (x : Nat × Nat × Nat × Nat × Nat) (h : y ≠ d) : fset fs d x y = fs y := if_neg h
theorem dfb_set {fs : aFs} {d y : Nat} (x : Nat × Nat × Nat × Nat × Nat) (h : y ≤ d) : dfb (fset fs d x) y = dfb fs y := by
  cases y with
  | zero => rfl
  | succ y => rw [dfb_s, dfb_s, fset_ne x (by omega)]
theorem ms_set {fs : aFs} {d : Nat} (x : Nat × Nat × Nat × Nat × Nat) : ∀ dp, dp ≤ d → ms (fset fs d x) dp = ms fs dp := fun dp h => ms_cong dp (fun y hy => by rw [fset_ne x (by omega)])
set_option maxHeartbeats 4000000 in
set_option linter.unusedSimpArgs false in
theorem fin {φ : Nat → Nat} {D : Nat → Prop} {F : Nat} {P : aP} {G : jG} {t s st : Nat} (ht : 1000 < t) (hs : s < 16) (hst : 1 ≤ st ∧ st ≤ 4) : ∀ k S T dp fs i tt tt', ms fs dp ≤ k → i + k ≤ 210 → k + 2 < tt → k + 2 < tt' → own S → prS S F P → 0 < dp → stR φ D F P S T s st dp fs → (∀ d, dp = d + 1 → (fs d).2.2.2.2 = 0 → (fs d).2.1 < P.2.2.2.1 (fs d).1) →
    ∃ S' T' st' dp' fs', F_81_23 G t tt (s, 0) (nI i) S = some ((), S') ∧ F_154_0 G t tt' (s, 0) T = some ((), T') ∧ stR φ D F P S' T' s st' dp' fs' ∧ tpR P dp' fs' ∧ (st' = st ∧ 0 < dp' ∨ 5 ≤ st') ∧ own S' ∧ (∀ x, rmR S x → rmR S' x) ∧ kp S S' s ∧ kt T T' s := by
  intro k
  induction k with
  | zero =>
    intro S T dp fs i tt tt' h1 h2 h3 h4 ow pr h5 R top
    obtain ⟨d, rfl⟩ : ∃ d, dp = d + 1 := ⟨dp - 1, by omega⟩
    unfold ms at h1
    omega
  | succ k ih =>
    intro S T dp fs i tt tt' h1 h2 h3 h4 ow pr h5 R top
    obtain ⟨d, rfl⟩ : ∃ d, dp = d + 1 := ⟨dp - 1, by omega⟩
    obtain ⟨u, rfl⟩ : ∃ u, tt = u + 1 := ⟨tt - 1, by omega⟩
    obtain ⟨u', rfl⟩ : ∃ u, tt' = u + 1 := ⟨tt' - 1, by omega⟩
    obtain ⟨p, hp, fr⟩ := R.fr (d := d) (by omega)
    obtain ⟨s1, ⟨s2, s2t, s2b⟩, ⟨s3, s3t, s3b⟩, s4, s5, s6⟩ := R.sc
    have fr' := fr
    generalize hfd : fs d = fd at fr fr'
    obtain ⟨f, pc, n, m, e⟩ := fd
    dsimp only at fr fr'
    have hb := fr.2.2.2.2.2.2.2.2.2.1
    obtain ⟨hM, ⟨f1, f2, f3⟩, ⟨p1, p2, p3⟩, ⟨o1, o2, o3, o4⟩, ⟨d1, d2, d3, d4⟩, ⟨l1, l2⟩, ⟨e1, e2, e3, e4, e5⟩⟩ := fr
    have go : ∀ S1 T1 dp1 fs1, F_81_23 G t (u + 1) (s, 0) (nI i) S = F_81_23 G t u (s, 0) (nI (i + 1)) S1 → F_154_0 G t (u' + 1) (s, 0) T = F_154_0 G t u' (s, 0) T1 → ms fs1 dp1 ≤ k → 0 < dp1 → S1.2.2 = S.2.2 → stR φ D F P S1 T1 s st dp1 fs1 → (∀ d, dp1 = d + 1 → (fs1 d).2.2.2.2 = 0 → (fs1 d).2.1 < P.2.2.2.1 (fs1 d).1) → kp S S1 s → kt T T1 s →
        ∃ S' T' st' dp' fs', F_81_23 G t (u + 1) (s, 0) (nI i) S = some ((), S') ∧ F_154_0 G t (u' + 1) (s, 0) T = some ((), T') ∧ stR φ D F P S' T' s st' dp' fs' ∧ tpR P dp' fs' ∧ (st' = st ∧ 0 < dp' ∨ 5 ≤ st') ∧ own S' ∧ (∀ x, rmR S x → rmR S' x) ∧ kp S S' s ∧ kt T T' s := by
      intro S1 T1 dp1 fs1 q1 q2 q3 q4 q5 q6 q7 q8 q9
      obtain ⟨S', T', st', dp', fs', r1, r2, r3, r4, r5, r6, r7, r8, r9⟩ := ih S1 T1 dp1 fs1 (i + 1) u u' q3 (by omega) (by omega) (by omega) (ow.same q5) (pr.kp q8) q4 q6 q7
      exact ⟨S', T', st', dp', fs', q1.trans r1, q2.trans r2, r3, r4, r5, r6, fun x hx => r7 x (hx.same q5), q8.trans r8, q9.trans r9⟩
    by_cases c0 : e = 0
    · subst c0
      refine ⟨S, T, st, d + 1, fs, c_stop1 hs (by omega) s3 (by omega) hp hM e1, m_stop hs s3t (by omega) e2, R, fun d' hd' => ?_, Or.inl ⟨rfl, by omega⟩, ow, fun _ z => z, kp.refl _ _, kt.refl _ _⟩
      have : d' = d := by omega
      subst this
      exact ⟨by rw [hfd], top d' rfl (by rw [hfd])⟩
    · have he : e = 1 ∨ e = 2 := by omega
      have o1' : S.1 29 p 3 2 = nI 1 := by
        rcases e5 with z | z | z
        · omega
        · exact z.2.1
        · exact z.2.1
      have hm1 : ms fs (d + 1) = ms fs d + m + 1 := by
        show ms fs d + (fs d).2.2.2.1 + 1 = _
        rw [hfd]
      by_cases c1 : m = 0
      · subst c1
        cases d with
        | zero =>
          have hz : ∃ k, e = 1 ∧ T.1 56 s 0 7 = nI k ∧ k ≤ 2 ∧ (k = 0 → T.2.1 56 s 0 8 = S.2.1 30 p 3 0) ∧ (k ≠ 0 → S.2.1 30 p 3 0 = 0) ∨ e = 2 ∧ T.2.1 56 s 0 6 = S.2.1 30 p 3 0 := by
            rcases e5 with z | z | z
            · omega
            · obtain ⟨z1, _, z3⟩ := z
              rcases z3 with ⟨v1, v2, v3⟩ | ⟨v1, v2, v3⟩ | ⟨hh, v0, v1, v2, v3, v4⟩
              · exact ⟨0, Or.inl ⟨z1, v2, by omega, fun _ => v3.symm, fun z => absurd rfl z⟩⟩
              · exact ⟨1, Or.inl ⟨z1, v2, by omega, fun z => by omega, fun _ => v3⟩⟩
              · exact ⟨2, Or.inl ⟨z1, v2, by omega, fun z => by omega, fun _ => v3⟩⟩
            · exact ⟨0, Or.inr ⟨z.1, z.2.2.1.symm⟩⟩
          obtain ⟨kz, hz⟩ := hz
          obtain ⟨w', rfl⟩ : ∃ w, u = w + 1 := ⟨u - 1, by omega⟩
          have hS := (cl0 (G := G) (t := t) (i := i) (u := w' + 1) hs (by omega) s3 hp hM e1 he d1 o1').trans (c_stop0 hs (by omega) (by clear ih R top ow pr o4 d4 l2 e5 hz h1 h2 h3 h4; simp (disch := first | assumption | omega) only [gI, gI2, gL, gL1, gL2, jcLT, jcGE, jcGT, jcLE, jcEQ, jcNE, dEQ, nIt, lgNE, lgEQ, lgGE, lgLT, lgGT, lgLE, jinT, nIc, nI0, nI1, nIo, nIs, nI_add, nIm, nIn0, szl0, szl1, szl2, szl3, szl4, szl5, Nat.add_sub_assoc, Nat.add_zero, Nat.reduceSub, Nat.reduceAdd, Nat.reduceMul, Nat.reduceEqDiff,  jifT, bdS, sifN, sifS, omN, omS, cdI, x25, x26, x27, x28, x29, x30, x31, x32, xr0, xr1, xr2, xr3, xr4, xr5, if_pos, if_neg, true_and, and_true, false_and, and_false, and_self, Bool.and_true, if_true, if_false, reduceIte, cond_true, cond_false, not_true_eq_false, not_false_eq_true]))
          have hT := ml0 (G := G) (t := t) (u := u') hs s3t e2 d2 hz
          refine ⟨_, _, 4 + e, 0, fs, hS, hT, ?_, fun d' hd' => by omega, Or.inr (by omega), ow.same rfl, fun x hx => hx.same rfl, ?_, ⟨?_, rfl, rfl⟩⟩
          · clear hS hT ih R top ow pr o4 d4 l2 e5 hz h1 h2 h3 h4
            refine ⟨?_, ⟨?_, ?_, by omega⟩, ⟨?_, ?_, by omega⟩, by omega, fun z => by omega, fun _ => ?_, fun d hd => by omega, fun d hd => by omega⟩
            all_goals simp (disch := first | assumption | omega) only [gI, gI2, gL, gL1, gL2, jcLT, jcGE, jcGT, jcLE, jcEQ, jcNE, dEQ, nIt, lgNE, lgEQ, lgGE, lgLT, lgGT, lgLE, jinT, nIc, nI0, nI1, nIo, nIs, nI_add, nIm, nIn0, szl0, szl1, szl2, szl3, szl4, szl5, Nat.add_sub_assoc, Nat.add_zero, Nat.reduceSub, Nat.reduceAdd, Nat.reduceMul, Nat.reduceEqDiff,  jifT, bdS, sifN, sifS, omN, omS, cdI, x25, x26, x27, x28, x29, x30, x31, x32, xr0, xr1, xr2, xr3, xr4, xr5, if_pos, if_neg, true_and, and_true, false_and, and_false, and_self, Bool.and_true, if_true, if_false, reduceIte, cond_true, cond_false, not_true_eq_false, not_false_eq_true, s1]
          · refine kp.fr ow hp (agr.l (agr.i (agr.i (agr.refl _ _) _ _ (by omega)) _ _ (by omega)) _ _ (by omega)) rfl (fun k' z z' => ?_)
            clear hS hT ih R top ow pr o4 d4 l2 e5 hz h1 h2 h3 h4
            simp (disch := first | assumption | omega) only [gI, gI2, gL, gL1, gL2, jcLT, jcGE, jcGT, jcLE, jcEQ, jcNE, dEQ, nIt, lgNE, lgEQ, lgGE, lgLT, lgGT, lgLE, jinT, nIc, nI0, nI1, nIo, nIs, nI_add, nIm, nIn0, szl0, szl1, szl2, szl3, szl4, szl5, Nat.add_sub_assoc, Nat.add_zero, Nat.reduceSub, Nat.reduceAdd, Nat.reduceMul, Nat.reduceEqDiff,  jifT, bdS, sifN, sifS, omN, omS, cdI, x25, x26, x27, x28, x29, x30, x31, x32, xr0, xr1, xr2, xr3, xr4, xr5, if_pos, if_neg, true_and, and_true, false_and, and_false, and_self, Bool.and_true, if_true, if_false, reduceIte, cond_true, cond_false, not_true_eq_false, not_false_eq_true]
          · exact agr.i (agr.i (agr.i (agr.refl _ _) _ _ (by omega)) _ _ (by omega)) _ _ (by omega)
        | succ d =>
          obtain ⟨q, hq, frq⟩ := R.fr (d := d) (by omega)
          have hqp : q ≠ p := fun z => by
            subst z
            have := (ow.2.1 _ _ _ _ _ hq hp).2
            omega
          have lo := R.lo d (by omega)
          generalize hfq : fs d = fq at frq lo
          obtain ⟨f', pc', n', m', e'⟩ := fq
          dsimp only at frq lo
          have hm2 : ms fs (d + 1) = ms fs d + m' + 1 := by
            show ms fs d + (fs d).2.2.2.1 + 1 = _
            rw [hfq]
          have frk : frR φ D F P (siI S 25 s 0 3 (nI (d + 1))) q (siI T 54 s 0 1 (nI (d + 1))) s d f' pc' n' m' e' (dfb fs d) := frq.keep frq.1 (fun t x y j z => ⟨siI_ne _ _ _ (by omega), rfl⟩) (fun t x y => ⟨siI_ne _ _ _ (by omega), rfl⟩)
          have sc1 : scR (siI S 25 s 0 3 (nI (d + 1))) (siI T 54 s 0 1 (nI (d + 1))) s st (d + 1) := by
            clear ih R top ow pr o4 d4 l2 e5 h1 h2 h3 h4 go
            refine ⟨?_, ⟨?_, ?_, s2b⟩, ⟨?_, ?_, by omega⟩, by omega, s5, fun z => by omega⟩
            all_goals simp (disch := first | assumption | omega) only [gI, gI2, gL, gL1, gL2, jcLT, jcGE, jcGT, jcLE, jcEQ, jcNE, dEQ, nIt, lgNE, lgEQ, lgGE, lgLT, lgGT, lgLE, jinT, nIc, nI0, nI1, nIo, nIs, nI_add, nIm, nIn0, szl0, szl1, szl2, szl3, szl4, szl5, Nat.add_sub_assoc, Nat.add_zero, Nat.reduceSub, Nat.reduceAdd, Nat.reduceMul, Nat.reduceEqDiff,  jifT, bdS, sifN, sifS, omN, omS, cdI, x25, x26, x27, x28, x29, x30, x31, x32, xr0, xr1, xr2, xr3, xr4, xr5, if_pos, if_neg, true_and, and_true, false_and, and_false, and_self, Bool.and_true, if_true, if_false, reduceIte, cond_true, cond_false, not_true_eq_false, not_false_eq_true, s1, s2, s2t]
          rcases he with rfl | rfl
          · have hb1 : T.1 56 s (d + 1) 5 = nI (if e' = 0 then 0 else 1) := by rw [e3, dfb_s, hfq]
            have hvr : vr φ D (S.2.1 30 p 3 0) (S.1 31 p 3 0) (T.1 56 s (d + 1) 7) (T.2.1 56 s (d + 1) 8) := by
              rcases e5 with z | z | z
              · omega
              · exact z.2.2
              · omega
            by_cases ce : e' = 0
            · subst ce
              rw [if_pos rfl] at hb1
              have lo := lo rfl
              have hnq := frq.2.2.2.1
              refine go _ _ (d + 1) (fset fs d (f', pc', n' + 1, m', 0)) (cl1a hs (by omega) (by omega) s3 hp hM hq frq.1 e1 d1 o1' frq.2.2.2.2.2.2.1 hnq.1 (by omega)) (ml1a hs (by omega) s3t e2 d2 hb1 hnq.2.1 (by omega)) ?_ (by omega) rfl ?_ ?_ ?_ ?_
              · show ms (fset fs d _) d + (fset fs d _ d).2.2.2.1 + 1 ≤ k
                rw [ms_set _ d (Nat.le_refl _), fset_at]
                show ms fs d + m' + 1 ≤ k
                omega
              · refine R.chg ow ?_ hq ?_ ?_ (sc1.keep ?_ ?_ ?_) (by omega) (fun y _ hy => fset_ne _ hy) (fun y _ hy => dfb_set _ (by omega)) (fun _ => ?_) (fun z => by omega)
                · rfl
                · exact agr.i (agr.i (agr.l (agr.i (agr.refl _ _) _ _ (by omega)) _ _ (by omega)) _ _ (by omega)) _ _ (by omega)
                · exact agr.i (agr.l (agr.i (agr.i (agr.refl _ _) _ _ (by omega)) _ _ (by omega)) _ _ (by omega)) _ _ (by omega)
                · unfold rpush
                  rw [siI_ne _ _ _ (by omega), siI_ne _ _ _ (by omega)]
                  rfl
                · unfold rpush
                  rw [gI2, gI2, siL_ne _ _ _ (by omega)]
                · rw [siI_ne _ _ _ (by omega), gL1, siI_ne _ _ _ (by omega)]
                · rw [fset_at, dfb_set _ (Nat.le_refl _)]
                  exact frk.push (by omega) hvr
              · intro y hy _
                have : y = d := by omega
                subst this
                rw [fset_at]
                exact lo.2
              · refine kp.fr ow hq (agr.i (agr.i (agr.l (agr.i (agr.refl _ _) _ _ (by omega)) _ _ (by omega)) _ _ (by omega)) _ _ (by omega)) rfl (fun k' z z' => ?_)
                unfold rpush
                clear ih R top ow pr o4 d4 l2 e5 h1 h2 h3 h4 go
                simp (disch := first | assumption | omega) only [gI, gI2, gL, gL1, gL2, jcLT, jcGE, jcGT, jcLE, jcEQ, jcNE, dEQ, nIt, lgNE, lgEQ, lgGE, lgLT, lgGT, lgLE, jinT, nIc, nI0, nI1, nIo, nIs, nI_add, nIm, nIn0, szl0, szl1, szl2, szl3, szl4, szl5, Nat.add_sub_assoc, Nat.add_zero, Nat.reduceSub, Nat.reduceAdd, Nat.reduceMul, Nat.reduceEqDiff,  jifT, bdS, sifN, sifS, omN, omS, cdI, x25, x26, x27, x28, x29, x30, x31, x32, xr0, xr1, xr2, xr3, xr4, xr5, if_pos, if_neg, true_and, and_true, false_and, and_false, and_self, Bool.and_true, if_true, if_false, reduceIte, cond_true, cond_false, not_true_eq_false, not_false_eq_true]
              · exact ⟨agr.i (agr.l (agr.i (agr.i (agr.refl _ _) _ _ (by omega)) _ _ (by omega)) _ _ (by omega)) _ _ (by omega), rfl, rfl⟩
            · rw [if_neg ce] at hb1
              have he' : e' = 1 ∨ e' = 2 := by
                have := frq.2.2.2.2.2.2.2.2.2.2
                omega
              refine go _ _ (d + 1) fs (cl1b hs (by omega) (by omega) s3 hp hM hq frq.1 e1 d1 o1' frq.2.2.2.2.2.2.1 he') (ml1b hs (by omega) s3t e2 d2 hb1) (by omega) (by omega) rfl ?_ ?_ ?_ ?_
              · refine R.chg ow ?_ hq ?_ ?_ sc1 (by omega) (fun y _ hy => rfl) (fun y _ hy => rfl) (fun _ => ?_) (fun z => by omega)
                · rfl
                · exact agr.i (agr.refl _ _) _ _ (by omega)
                · exact agr.i (agr.refl _ _) _ _ (by omega)
                · rw [hfq]
                  exact frk
              · intro y hy
                have : y = d := by omega
                subst this
                rw [hfq]
                intro z
                exact absurd z ce
              · refine kp.fr ow hq (agr.i (agr.refl _ _) _ _ (by omega)) rfl (fun k' z z' => ?_)
                rw [gI, if_neg (by omega)]
              · exact ⟨agr.i (agr.refl _ _) _ _ (by omega), rfl, rfl⟩
          · have hx : S.2.1 30 p 3 0 = T.2.1 56 s (d + 1) 6 := by
              rcases e5 with z | z | z
              · omega
              · omega
              · exact z.2.2.1
            have hC := cl2 (G := G) (t := t) (i := i) (u := u) hs (by omega) (by omega) s3 hp hM hq frq.1 e1 d1 o1'
            rw [hx] at hC
            refine go _ _ (d + 1) (fset fs d (f', pc', n', m', 2)) hC (ml2 hs (by omega) s3t e2 d2) ?_ (by omega) rfl ?_ ?_ ?_ ?_
            · show ms (fset fs d _) d + (fset fs d _ d).2.2.2.1 + 1 ≤ k
              rw [ms_set _ d (Nat.le_refl _), fset_at]
              show ms fs d + m' + 1 ≤ k
              omega
            · refine R.chg ow ?_ hq ?_ ?_ (sc1.keep ?_ ?_ ?_) (by omega) (fun y _ hy => fset_ne _ hy) (fun y _ hy => dfb_set _ (by omega)) (fun _ => ?_) (fun z => by omega)
              · rfl
              · exact (agr.i (agr.refl _ _) _ _ (by omega)).trans ((endS_ag _ _ _ _ _).mono (fun t i j z => by omega))
              · exact agr.l (agr.i (agr.i (agr.refl _ _) _ _ (by omega)) _ _ (by omega)) _ _ (by omega)
              · exact (endS_ag _ _ _ _ _ 25 s 0 (by omega)).1
              · exact (endS_ag _ _ _ _ _ 25 s 0 (by omega)).2
              · rw [gL1, siI_ne _ _ _ (by omega)]
              · rw [fset_at, dfb_set _ (Nat.le_refl _)]
                exact frk.end2 _
            · intro y hy
              have : y = d := by omega
              subst this
              rw [fset_at]
              intro z
              cases z
            · refine kp.fr ow hq ((agr.i (agr.refl _ _) _ _ (by omega)).trans ((endS_ag _ _ _ _ _).mono (fun t i j z => by omega))) rfl (fun k' z z' => ?_)
              rw [(endS_ag _ _ _ _ _ 25 s 0 (by omega)).1, gI, if_neg (by omega)]
            · exact ⟨agr.l (agr.i (agr.i (agr.refl _ _) _ _ (by omega)) _ _ (by omega)) _ _ (by omega), rfl, by rw [gL, if_neg (by omega)]; rfl⟩
      · obtain ⟨m, rfl⟩ : ∃ w, m = w + 1 := ⟨m - 1, by omega⟩
        by_cases c2 : d = 29
        · subst c2
          refine go _ _ 30 (fset fs 29 (f, pc, n, m, 2)) (cd30 (g := 0) hs (by omega) s3 hp hM e1 he d1 (by omega)) (md30 hs s3t e2 he d2 (by omega)) ?_ (by omega) rfl ?_ ?_ ?_ ?_
          · show ms (fset fs 29 _) 29 + (fset fs 29 _ 29).2.2.2.1 + 1 ≤ k
            rw [ms_set _ 29 (Nat.le_refl _), fset_at]
            show ms fs 29 + m + 1 ≤ k
            omega
          · refine R.chg ow ?_ hp ?_ ?_ (R.sc.keep ?_ ?_ ?_) (by omega) (fun y _ hy => fset_ne _ hy) (fun y _ hy => dfb_set _ (by omega)) (fun _ => ?_) (fun z => by omega)
            · rfl
            · exact (agr.i (agr.refl _ _) _ _ (by omega)).trans ((endS_ag _ _ _ _ _).mono (fun t i j z => by omega))
            · exact agr.l (agr.i (agr.i (agr.refl _ _) _ _ (by omega)) _ _ (by omega)) _ _ (by omega)
            · exact ((endS_ag _ _ _ _ _ 25 s 0 (by omega)).1).trans (siI_ne _ _ _ (by omega))
            · exact (endS_ag _ _ _ _ _ 25 s 0 (by omega)).2
            · rw [gL1, siI_ne _ _ _ (by omega), siI_ne _ _ _ (by omega)]
            · rw [fset_at, dfb_set _ (Nat.le_refl _)]
              exact fr'.dpop.end2 _
          · intro y hy
            have : y = 29 := by omega
            subst this
            rw [fset_at]
            intro z
            cases z
          · refine kp.fr ow hp ((agr.i (agr.refl _ _) _ _ (by omega)).trans ((endS_ag _ _ _ _ _).mono (fun t i j z => by omega))) rfl (fun k' z z' => ?_)
            rw [(endS_ag _ _ _ _ _ 25 s 0 (by omega)).1, gI, if_neg (by omega)]
          · exact ⟨agr.l (agr.i (agr.i (agr.refl _ _) _ _ (by omega)) _ _ (by omega)) _ _ (by omega), rfl, by rw [gL, if_neg (by omega)]; rfl⟩
        · obtain ⟨hv, g, hg1, hg2, hg3, hg4⟩ := d4 m (by omega)
          obtain ⟨pr1, pr2, pr3⟩ := pr
          obtain ⟨q1, q2, q3, q4, q5, q6⟩ := pr3 g hg3
          obtain ⟨p', S1, hF, en⟩ := f_29 (G := G) (t := t) (S := S) (s := s) (dp := d + 1) (f := g) (lo := P.2.1 g) (pa := P.1 g) (q := p) (kq := 2) (a := m) (sz := m + 1) (F := F) (by omega) hs (by omega) ow pr1 pr2 hg3 q1 q2 q3 q4 (xr2 hM) d1 (show m + 1 ≤ 6 by omega) (by omega) (fun _ z => by
            have := (ow.2.1 _ _ _ _ _ z hp).2
            omega) (ow.2.2.2.2.1 p hM).1.1 s3
          have hpp : p ≠ p' := fun z => by
            subst z
            have := (en.2.1.1 _ _ hp).2
            omega
          have hM1 := en.1.2.2.2.1 p hM
          have d1' : S1.1 29 p 2 2 = nI (m + 1) := by rw [(en.2.2.1 29 p 2 (by omega)).1]; exact d1
          obtain ⟨w', rfl⟩ : ∃ w, u = w + 1 := ⟨u - 1, by omega⟩
          have en2 := en.sz (k := 2) (nI m) hpp
          have hC := cden (G := G) (t := t) (i := i) (u := w' + 1) hs (by omega) (by omega) s3 hp hM e1 he d1 (by omega) hg1 hF hM1 d1'
          have hC2 := hC.trans (c_stop1 (S := siI S1 29 p 2 2 (nI m)) (d := d + 1) (p := p') hs (by omega) (by rw [en2.2.2.2.1.1, if_pos rfl]) (by omega) en2.1.1 en2.1.2.2.2.2.2.1 en2.2.2.2.2.1.2.2.1)
          have hT := mden (G := G) (t := t) (u := u') (by omega) hs (by omega) s3t e2 he d2 (by omega) hg2
          have Ra : stR φ D F P (siI S 29 p 2 2 (nI m)) (siI T 56 s d 3 (nI m)) s st (d + 1) (fset fs d (f, pc, n, m, e)) := by
            refine R.chg ow ?_ hp ?_ ?_ (R.sc.keep ?_ rfl ?_) (by omega) (fun y _ hy => fset_ne _ hy) (fun y _ hy => dfb_set _ (by omega)) (fun _ => ?_) (fun z => by omega)
            · rfl
            · exact agr.i (agr.refl _ _) _ _ (by omega)
            · exact agr.i (agr.refl _ _) _ _ (by omega)
            · exact siI_ne _ _ _ (by omega)
            · exact siI_ne _ _ _ (by omega)
            · rw [fset_at, dfb_set _ (Nat.le_refl _)]
              exact fr'.dpop
          have aT2 : agr (fun t i j => (t = 54 ∧ i = s ∧ j = 0) ∨ (56 ≤ t ∧ t ≤ 63 ∧ i = s ∧ j = d + 1)) (siI T 56 s d 3 (nI m)) (siL (siI (meT (siI T 56 s d 3 (nI m)) s (d + 1) g 1) 57 s (d + 1) 0 (T.1 59 s d m)) 61 s (d + 1) 0 (T.2.1 63 s d m)) := agr.l (agr.i (meT_ag _ _ _ _ _) _ _ (by omega)) _ _ (by omega)
          refine ⟨_, _, st, d + 2, fset (fset fs d (f, pc, n, m, e)) (d + 1) (g, 0, 0, 0, 0), hC2, hT, ?_, ?_, Or.inl ⟨rfl, by omega⟩, en2.2.2.2.2.2.2.1, fun x hx => en2.2.2.2.2.2.2.2.1 x (hx.same rfl), ?_, ⟨?_, ?_, ?_⟩⟩
          · refine Ra.ent hs en2 (by omega) hst (aT2.mono (fun t i j z => by omega)) (fun k' => ?_) (fun y hy => fset_ne _ (by omega)) ?_ (fun y hy => ?_)
            · rw [gL1, gI, if_neg (by omega), meT_54]
            · rw [fset_at, dfb_s, fset_ne _ (by omega), fset_at]
              dsimp only
              rw [if_neg c0]
              obtain ⟨⟨_, _, _, _, _, z6, _⟩, _, _, _, ⟨y1, y2, y3, y4, y5, y6, y7⟩, ⟨w1, w2⟩, _⟩ := en2
              obtain ⟨t0, t1, t2, t3, t4, t5⟩ := meT_56 (siI T 56 s d 3 (nI m)) s (d + 1) g 1
              rw [hg4] at w1 w2
              clear ih R top ow pr3 o4 d4 l2 e5 h1 h2 h3 h4 go hC hC2 hT Ra aT2 en hF hfd
              refine ⟨z6, ⟨y1, ?_, hg3⟩, ⟨y2, ?_, by omega⟩, ⟨y5, ?_, by omega, fun i hi => by omega⟩, ⟨y6, ?_, by omega, fun i hi => by omega⟩, ⟨y4, fun i hi => ?_⟩, ⟨y3, ?_, ?_, by omega, Or.inl ⟨rfl, y7⟩⟩⟩
              · rw [gL1, gI, if_neg (by omega)]; exact t0
              · rw [gL1, gI, if_neg (by omega)]; exact t1
              · rw [gL1, gI, if_neg (by omega)]; exact t2
              · rw [gL1, gI, if_neg (by omega)]; exact t3
              · by_cases ci : i = 0
                · subst ci
                  rw [(w1 0 (by omega)).1, (w1 0 (by omega)).2]
                  simp (disch := omega) only [gI, gI2, gL, gL1, if_neg, and_self, if_true, Nat.add_zero]
                  exact hv
                · rw [(w2 i (by omega) hi).1, (w2 i (by omega) hi).2, gL1, gI, if_neg (by omega), gL, if_neg (by omega), gI2]
                  obtain ⟨r1, r2⟩ := meT_z (siI T 56 s d 3 (nI m)) s (d + 1) g 1 i (by omega)
                  rw [r1, r2]
                  exact Or.inl ⟨rfl, rfl, rfl⟩
              · rw [gL1, gI, if_neg (by omega)]; exact t4
              · rw [gL1, gI, if_neg (by omega)]; exact t5
            · have : y = d := by omega
              subst this
              rw [fset_at]
              intro z
              exact absurd z c0
          · intro y hy
            have : y = d + 1 := by omega
            subst this
            rw [fset_at]
            exact ⟨rfl, q5⟩
          · have k1 : kp S (siI S 29 p 2 2 (nI m)) s := kp.fr ow hp (agr.i (agr.refl _ _) _ _ (by omega)) rfl (fun k' z z' => by rw [gI, if_neg (by omega)])
            refine k1.trans (kp.of (ow.same rfl) (fun s' d' z => (en2.2.1.1 s' d' z).1) en2.1.2.2.2.2.2.2 en2.2.1.2 en2.2.2.1 (fun s' d' z => en2.1.2.1 s' d' (by omega)) en2.1.2.2.1 en2.1.2.2.2.1 en2.1.2.2.2.2.1 (fun k' z z' => ?_))
            rw [en2.2.2.2.1.1, if_neg z]
          · exact (agr.i (agr.refl _ _) _ _ (by omega)).trans (aT2.mono (fun t i j z => by omega))
          · show (meT (siI T 56 s d 3 (nI m)) s (d + 1) g 1).2.2 = T.2.2
            rw [meT_2]
            rfl
          · rw [gL, if_neg (by omega), gI2]
            unfold meT
            rw [mzT_L _ _ _ (by omega)]
            rfl
