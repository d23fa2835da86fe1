/-! digest: to the end. -/
section DG4
variable {φ φ' : Nat → Nat} {D D' : Nat → Prop} {F N : Nat} {P P' : aP} {S S' S0 S1 S2 T T' T0 T1 : sS} {A : aS} {r s d p f pc n m e b k y g q o F' N' lo : Nat} {G : jG} {t j : Nat} {a : Int32} {ml : List Nat} {st : List (Nat × Nat)}
/-! the top of the way changes -/
theorem dgR.top {h i i' L : Nat} (R : dgR φ D S0 T0 S T ml (st ++ [(h, i)])) (hL : L = st.length) (hi : i' ≤ szO S0 h) : dgR φ D S0 T0 (siI S 21 0 0 L (nI i')) (siI T 50 0 0 L (nI i')) ml (st ++ [(h, i')]) := by
  subst hL
  obtain ⟨⟨a1, a2⟩, ⟨b1, b2, b3⟩, ⟨c1, c2, c3⟩, cm, ⟨d1, d2, d3⟩⟩ := R
  refine ⟨⟨agr.i a1 _ _ (by omega), a2⟩, ⟨fun t i j x y z => ?_, b2, fun i j q x => ?_⟩, ⟨c1, c2, ?_⟩, fun x hx => ?_, ⟨?_, fun dd x hx => ?_, ?_⟩⟩
  · rw [siI_ne _ _ _ (by omega)]; exact b1 t i j x y z
  · rw [siI_ne _ _ _ (by omega)]; exact b3 i j q x
  · rw [siI_ne _ _ _ (by omega)]; exact c3
  · rw [siI_ne _ _ _ (by omega), siI_ne _ _ _ (by omega)]; exact cm x hx
  · rw [siI_ne _ _ _ (by omega)]
    rw [List.length_append] at d1 ⊢
    exact d1
  · rw [List.getElem?_append] at hx
    by_cases cd : dd < st.length
    · rw [if_pos cd] at hx
      obtain ⟨⟨q1, q2, q3, q4⟩, q5⟩ := d2 dd x (by rw [List.getElem?_append, if_pos cd]; exact hx)
      refine ⟨⟨?_, ?_, ?_, ?_⟩, q5⟩
      · rw [siI_ne _ _ _ (by omega)]; exact q1
      · rw [gI, if_neg (by omega)]; exact q2
      · rw [siI_ne _ _ _ (by omega)]; exact q3
      · rw [gI, if_neg (by omega)]; exact q4
    · rw [if_neg cd] at hx
      have : dd = st.length := by
        by_cases c3 : dd - st.length = 0
        · omega
        · obtain ⟨z, hz⟩ : ∃ z, dd - st.length = z + 1 := ⟨dd - st.length - 1, by omega⟩
          rw [hz] at hx
          cases hx
      subst this
      rw [Nat.sub_self] at hx
      have : (h, i') = x := Option.some.inj hx
      subst this
      obtain ⟨⟨q1, q2, q3, q4⟩, q5, q6⟩ := d2 st.length (h, i) (by rw [List.getElem?_append_right (Nat.le_refl _), Nat.sub_self]; rfl)
      refine ⟨⟨?_, siI_at _ _ _ _ _ _, ?_, siI_at _ _ _ _ _ _⟩, q5, hi⟩
      · rw [siI_ne _ _ _ (by omega)]; exact q1
      · rw [siI_ne _ _ _ (by omega)]; exact q3
  · rw [List.map_append] at d3 ⊢
    exact d3
theorem dgR.pop {h i : Nat} (R : dgR φ D S0 T0 S T ml (st ++ [(h, i)])) : dgR φ D S0 T0 (siI S 18 0 0 4 (nI st.length)) T ml st := by
  obtain ⟨⟨a1, a2⟩, b, ⟨c1, c2, c3⟩, cm, ⟨d1, d2, d3⟩⟩ := R
  refine ⟨⟨agr.i a1 _ _ (by omega), a2⟩, b, ⟨c1, c2, ?_⟩, fun x hx => ?_, ⟨siI_at _ _ _ _ _ _, fun dd x hx => ?_, ?_⟩⟩
  · rw [gI, if_neg (by omega)]; exact c3
  · rw [siI_ne _ _ _ (by omega)]; exact cm x hx
  · have cd : dd < st.length := by
      by_cases c : dd < st.length
      · exact c
      · rw [List.getElem?_eq_none (by omega)] at hx; cases hx
    rw [siI_ne _ _ _ (by omega), siI_ne _ _ _ (by omega)]
    exact d2 dd x (by rw [List.getElem?_append, if_pos cd]; exact hx)
  · rw [List.map_append, List.nodup_append] at d3
    exact d3.1
set_option maxHeartbeats 4000000 in
set_option linter.unusedSimpArgs false in
theorem dg_follow (hD : ∀ h, D h → obR φ D S0 T0 h) (hE : (∀ h, D h → h < 600 ∧ φ h < 1300) ∧ ∀ h h', D h → D h' → φ h = φ h' → h = h') : ∀ n S T ml st turn u tt t0, pot S0 ml st ≤ n → turn + n < 10800 → n < u → n < tt → n < t0 → n < t → dgR φ D S0 T0 S T ml st →
    ∃ S' T' ml', F_61_2 G t u (nI turn) S = some ((), S') ∧ (∀ K v5, F_201_235 G t K (F_201_67 G t K tt) t0 (S.2.1 18 0 0 6) (nI ml.length) (nI st.length) v5 T = K (S'.2.1 18 0 0 6) (nI ml'.length) (nI 0) (v5 + Int32.ofInt 1) T') ∧ dgR φ D S0 T0 S' T' ml' [] ∧ pot S0 ml' [] ≤ pot S0 ml st := by
  intro n
  induction n with
  | zero =>
    intro S T ml st turn u tt t0 h1 h2 h3 h4 h5 h6 R
    obtain ⟨u, rfl⟩ : ∃ u', u = u' + 1 := ⟨u - 1, by omega⟩
    obtain ⟨t0, rfl⟩ : ∃ u', t0 = u' + 1 := ⟨t0 - 1, by omega⟩
    rcases List.eq_nil_or_concat st with rfl | ⟨st0, x, e0⟩
    · refine ⟨S, T, ml, ?_, fun K v5 => ?_, R, Nat.le_refl _⟩
      · have e4 : S.1 18 0 0 4 = nI 0 := R.2.2.2.2.1
        rw [F_61_2]
        clear R hD hE
        simp (disch := first | assumption | omega) only [gI, gI2, gL, gL1, gL2, jcLT, jcGE, jcGT, jcLE, jcEQ, jcNE, dEQ, nIt, lgNE, lgEQ, lgGE, lgLT, lgGT, lgLE, jinT, nIc, nI0, nI1, nIo, nIs, nI_add, nIm, nIn0, szl0, szl1, szl2, szl3, szl4, szl5, Nat.add_sub_assoc, Nat.add_zero, Nat.reduceSub, Nat.reduceAdd, Nat.reduceMul, Nat.reduceEqDiff,  jifT, bdS, sifN, sifS, omN, omS, cdI, x25, x26, x27, x28, x29, x30, x31, x32, xr0, xr1, xr2, xr3, xr4, xr5, if_pos, if_neg, true_and, and_true, false_and, and_false, and_self, Bool.and_true, if_true, if_false, reduceIte, cond_true, cond_false, not_true_eq_false, not_false_eq_true, e4]
      · rw [List.length_nil, m235z]
    · rw [List.concat_eq_append] at e0
      subst e0
      unfold pot at h1
      rw [List.map_append, List.sum_append] at h1
      have : ((List.map (fun x => szO S0 x.fst - x.snd + 1) [x]).sum) = szO S0 x.1 - x.2 + 1 + 0 := rfl
      omega
  | succ n ih =>
    intro S T ml st turn u tt t0 h1 h2 h3 h4 h5 h6 R
    obtain ⟨u, rfl⟩ : ∃ u', u = u' + 1 := ⟨u - 1, by omega⟩
    obtain ⟨t0, rfl⟩ : ∃ u', t0 = u' + 1 := ⟨t0 - 1, by omega⟩
    rcases List.eq_nil_or_concat st with rfl | ⟨st0, ⟨h, i⟩, e0⟩
    · refine ⟨S, T, ml, ?_, fun K v5 => ?_, R, Nat.le_refl _⟩
      · have e4 : S.1 18 0 0 4 = nI 0 := R.2.2.2.2.1
        rw [F_61_2]
        clear R hD hE ih
        simp (disch := first | assumption | omega) only [gI, gI2, gL, gL1, gL2, jcLT, jcGE, jcGT, jcLE, jcEQ, jcNE, dEQ, nIt, lgNE, lgEQ, lgGE, lgLT, lgGT, lgLE, jinT, nIc, nI0, nI1, nIo, nIs, nI_add, nIm, nIn0, szl0, szl1, szl2, szl3, szl4, szl5, Nat.add_sub_assoc, Nat.add_zero, Nat.reduceSub, Nat.reduceAdd, Nat.reduceMul, Nat.reduceEqDiff,  jifT, bdS, sifN, sifS, omN, omS, cdI, x25, x26, x27, x28, x29, x30, x31, x32, xr0, xr1, xr2, xr3, xr4, xr5, if_pos, if_neg, true_and, and_true, false_and, and_false, and_self, Bool.and_true, if_true, if_false, reduceIte, cond_true, cond_false, not_true_eq_false, not_false_eq_true, e4]
      · rw [List.length_nil, m235z]
    · rw [List.concat_eq_append] at e0
      subst e0
      have L1 : (st0 ++ [(h, i)]).length = st0.length + 1 := by rw [List.length_append]; rfl
      obtain ⟨⟨q1, q2, q3, q4⟩, q5, q6⟩ := R.2.2.2.2.2.1 st0.length (h, i) (by rw [List.getElem?_append_right (Nat.le_refl _), Nat.sub_self]; rfl)
      dsimp only at q1 q2 q3 q4 q5 q6
      have hh := R.2.2.1.2.1 h q5
      obtain ⟨h6', f13⟩ := hE.1 h hh
      obtain ⟨p1, kx, w, o1, o2, o3, o4, o5, o6, o7, o8, o9, o10, vv⟩ := obR.dg R (hD h hh)
      rw [o7] at q6
      have Ls : st0.length < 600 := by
        have := nd_len 600 ((st0 ++ [(h, i)]).map Prod.fst) R.2.2.2.2.2.2 (fun y hy => by
          obtain ⟨x, z1, z2⟩ := List.mem_map.mp hy
          obtain ⟨dd, z3⟩ := List.mem_iff_getElem?.mp z1
          exact z2 ▸ (hE.1 _ (R.2.2.1.2.1 _ (R.2.2.2.2.2.1 dd x z3).2.1)).1)
        rw [List.length_map, L1] at this
        omega
      have pt : pot S0 ml (st0 ++ [(h, i)]) = pot S0 ml st0 + (w - i + 1) := by
        unfold pot
        rw [List.map_append, List.sum_append]
        show _ + (_ + (szO S0 h - i + 1 + 0)) = _
        rw [o7]
        omega
      have e4 : S.1 18 0 0 4 = nI (st0.length + 1) := by rw [← L1]; exact R.2.2.2.2.1
      have e58 : F_58 G t (nI h) S = some (some (p1, 0), S) := by
        have := f_58o (G := G) (t := t) (S := S) h6'
        rw [show nI (h + 2) - nI 2 = nI h from by rw [nIs (by omega)]; rfl, o1] at this
        exact this
      have M := fun (K : Int64 → Int32 → Int32 → Int32 → sS → Option (Int64 × sS)) (v5 : Int32) => m235 (G := G) (t := t) (T := T) (K := K) (K67 := F_201_67 G t K tt) (v1 := S.2.1 18 0 0 6) (v3 := nI ml.length) (v5 := v5) (t0 := t0) (L := st0.length) (i := i) (by omega) q3 f13 o8 o4 o9 o10 o6 q4 q6
      by_cases c : i = w
      · subst c
        have R1 := R.pop
        obtain ⟨S', T', ml', x1, x2, x3, x4⟩ := ih (siI S 18 0 0 4 (nI st0.length)) T ml st0 (turn + 1) u tt t0 (by omega) (by omega) (by omega) (by omega) (by omega) (by omega) R1
        refine ⟨S', T', ml', ?_, fun K v5 => ?_, x3, by omega⟩
        · rw [← x1, F_61_2]
          clear R hD hE ih M R1 x1 x2 x3 vv o9 o10 pt
          simp (disch := first | assumption | omega) only [gI, gI2, gL, gL1, gL2, jcLT, jcGE, jcGT, jcLE, jcEQ, jcNE, dEQ, nIt, lgNE, lgEQ, lgGE, lgLT, lgGT, lgLE, jinT, nIc, nI0, nI1, nIo, nIs, nI_add, nIm, nIn0, szl0, szl1, szl2, szl3, szl4, szl5, Nat.add_sub_assoc, Nat.add_zero, Nat.reduceSub, Nat.reduceAdd, Nat.reduceMul, Nat.reduceEqDiff,  jifT, bdS, sifN, sifS, omN, omS, cdI, x25, x26, x27, x28, x29, x30, x31, x32, xr0, xr1, xr2, xr3, xr4, xr5, if_pos, if_neg, true_and, and_true, false_and, and_false, and_self, Bool.and_true, if_true, if_false, reduceIte, cond_true, cond_false, not_true_eq_false, not_false_eq_true, e4, q1, e58, q2, o2, o5, F_61_62, F_61_98]
        · rw [L1, M, if_pos rfl]
          exact x2 K v5
      · obtain ⟨tt, rfl⟩ : ∃ u', tt = u' + 1 := ⟨tt - 1, by omega⟩
        have R1 := R.top (i' := i + 1) rfl (by rw [o7]; omega)
        have pt1 : pot S0 ml (st0 ++ [(h, i + 1)]) + 1 = pot S0 ml (st0 ++ [(h, i)]) := by
          rw [pt]
          unfold pot
          rw [List.map_append, List.sum_append]
          show _ + (_ + (szO S0 h - (i + 1) + 1 + 0)) + 1 = _
          rw [o7]
          omega
        have rw1 : rwS (siI S 21 0 0 st0.length (nI (i + 1))) p1 4 w := ⟨xr4 o2, by rw [siI_ne _ _ _ (by omega)]; exact o5, o6⟩
        obtain ⟨S2, T2, ml2, st2, y1, y2, y3, y4⟩ := dg_add (G := G) (t := t) (i := i) (kk := T.1 52 (φ h) 0 i) (vv := T.2.1 53 (φ h) 0 i) hD hE R1 rw1 (by omega) o6 (by
          rw [siI_ne _ _ _ (by omega)]
          exact vv i (by omega))
        obtain ⟨S', T', ml', x1, x2, x3, x4⟩ := ih S2 T2 ml2 st2 (turn + 1) u tt t (by omega) (by omega) (by omega) (by omega) (by omega) (by omega) y3
        refine ⟨S', T', ml', ?_, fun K v5 => ?_, x3, by omega⟩
        · rw [← x1, F_61_2]
          clear R hD hE ih M R1 x1 x2 x3 vv o9 o10 pt y2 y3 rw1 pt1 y4
          simp (disch := first | assumption | omega) only [gI, gI2, gL, gL1, gL2, jcLT, jcGE, jcGT, jcLE, jcEQ, jcNE, dEQ, nIt, lgNE, lgEQ, lgGE, lgLT, lgGT, lgLE, jinT, nIc, nI0, nI1, nIo, nIs, nI_add, nIm, nIn0, szl0, szl1, szl2, szl3, szl4, szl5, Nat.add_sub_assoc, Nat.add_zero, Nat.reduceSub, Nat.reduceAdd, Nat.reduceMul, Nat.reduceEqDiff,  jifT, bdS, sifN, sifS, omN, omS, cdI, x25, x26, x27, x28, x29, x30, x31, x32, xr0, xr1, xr2, xr3, xr4, xr5, if_pos, if_neg, true_and, and_true, false_and, and_false, and_self, Bool.and_true, if_true, if_false, reduceIte, cond_true, cond_false, not_true_eq_false, not_false_eq_true, e4, q1, e58, q2, o2, o5, y1, F_61_98]
        · rw [L1, M, if_neg c]
          have := y2 K tt v5
          rw [List.length_append] at this
          exact this.trans (x2 K v5)
set_option maxHeartbeats 4000000 in
set_option linter.unusedSimpArgs false in
theorem dg_all (hG : True) (ht : 20000 < t) (w : wR φ D F N P S0 T0 A) : ∀ n i S T ml u u', i + n = 16 → n < u → n < u' → dgR φ D S0 T0 S T ml [] → pot S0 ml [] ≤ 10200 → ∃ S' T' ml', F_62_27 G t u (0, 5) (nI i) S = some (S'.2.1 18 0 0 6, S') ∧ F_201_42 G t u' (S.2.1 18 0 0 6) (nI ml.length) (nI 0) (nI i) T = some (S'.2.1 18 0 0 6, T') ∧ dgR φ D S0 T0 S' T' ml' [] := by
  have hD := w.2.2.2.1
  have hE := w.2.2.2.2.1
  obtain ⟨gl1, gl2⟩ := w.2.2.1
  intro n
  induction n with
  | zero =>
    intro i S T ml u u' h1 h2 h3 R hp
    obtain ⟨u, rfl⟩ : ∃ x, u = x + 1 := ⟨u - 1, by omega⟩
    obtain ⟨u', rfl⟩ : ∃ x, u' = x + 1 := ⟨u' - 1, by omega⟩
    have : i = 16 := by omega
    subst this
    have e29 : S.1 29 0 5 2 = nI 16 := by rw [(R.1.1 29 0 5 (by omega)).1]; exact gl1
    refine ⟨S, T, ml, ?_, ?_, R⟩
    · rw [F_62_27]
      dsimp only
      rw [jif_true (show sex S.2.2.2.1 29 0 5 = true from rfl), e29]
      rfl
    · rw [F_201_42]
      rfl
  | succ n ih =>
    intro i S T ml u u' h1 h2 h3 R hp
    obtain ⟨u, rfl⟩ : ∃ x, u = x + 1 := ⟨u - 1, by omega⟩
    obtain ⟨u', rfl⟩ : ∃ x, u' = x + 1 := ⟨u' - 1, by omega⟩
    have hi : i < 16 := by omega
    have e29 : S.1 29 0 5 2 = nI 16 := by rw [(R.1.1 29 0 5 (by omega)).1]; exact gl1
    obtain ⟨tt, htt⟩ : ∃ tt, t = tt + 1 := ⟨t - 1, by omega⟩
    have hv : vr φ D (S.2.1 30 0 5 i) (S.1 31 0 5 i) (T.1 36 0 0 i) (T.2.1 43 0 0 i) := by
      rw [(R.1.1 30 0 5 (by omega)).2, (R.1.1 31 0 5 (by omega)).1, R.2.1.1 36 0 0 (by omega) (by omega) (by omega), R.2.1.2.1]
      exact gl2 i hi
    obtain ⟨S1, T1, ml1, st1, y1, y2, y3, y4⟩ := dg_add (G := G) (t := t) (p := 0) (k := 5) (sz := 16) hD hE R ⟨rfl, e29, by decide⟩ hi (by omega) hv
    obtain ⟨S2, T2, ml2, x1, x2, x3, x4⟩ := dg_follow (G := G) (t := t) hD hE 10200 S1 T1 ml1 st1 0 t tt t (by omega) (by omega) (by omega) (by omega) (by omega) (by omega) y3
    obtain ⟨S', T', ml', z1, z2, z3⟩ := ih (i + 1) S2 T2 ml2 u u' (by omega) (by omega) (by omega) x3 (by omega)
    refine ⟨S', T', ml', ?_, ?_, z3⟩
    · rw [← z1, F_62_27]
      dsimp only
      rw [jif_true (show sex S.2.2.2.1 29 0 5 = true from rfl), e29, jcGE (by omega) (by omega), decide_eq_false (by omega), cond_false, y1, bdS]
      dsimp only
      have : F_61 G t S1 = some ((), S2) := x1
      rw [this, bdS, nI_1']
    · rw [← z2, F_201_42]
      dsimp only
      rw [jcGE (by omega) (by omega), decide_eq_false (by omega), cond_false, jif_true (jin_N (by omega) (by omega)), jif_true (jin_N (by omega) (by omega)), nI_clamp (by omega)]
      have a1 := y2 (F_201_42 G t u') tt (nI i)
      rw [← htt] at a1
      have a2 := x2 (F_201_42 G t u') (nI i)
      rw [nI_1'] at a2
      exact a1.trans a2
/-! the model's numbers are wiped -/
def w3T (T : sS) : Nat → sS
  | 0 => T
  | i + 1 => siI (w3T T i) 51 i 0 3 (-1)
theorem w3T_ag (T : sS) : ∀ i, agr (fun t _ _ => t = 51) T (w3T T i) ∧ (w3T T i).2 = T.2 ∧ (∀ x j q, q ≠ 3 → (w3T T i).1 51 x j q = T.1 51 x j q) ∧ ∀ x, x < i → (w3T T i).1 51 x 0 3 = -1 := by
  intro i
  induction i with
  | zero => exact ⟨agr.refl _ _, rfl, fun _ _ _ _ => rfl, fun x hx => by omega⟩
  | succ i ih =>
    obtain ⟨a, b, c, d⟩ := ih
    refine ⟨agr.i a _ _ rfl, b, fun x j q hq => ?_, fun x hx => ?_⟩
    · show (siI (w3T T i) 51 i 0 3 (-1)).1 51 x j q = _
      rw [gI, if_neg (by omega)]
      exact c x j q hq
    · show (siI (w3T T i) 51 i 0 3 (-1)).1 51 x 0 3 = _
      rw [gI]
      by_cases e : x = i
      · rw [if_pos ⟨rfl, e, rfl, rfl⟩]
      · rw [if_neg (by omega)]
        exact d x (by omega)
set_option maxHeartbeats 4000000 in
set_option linter.unusedSimpArgs false in
theorem l_2017 : ∀ w i tt, i + w = 1300 → w < tt → F_201_7 G t tt (nI i) (w3T T i) = F_201_42 G t t 7 (nI 0) (nI 0) (nI 0) (w3T T 1300) := by
  intro w
  induction w with
  | zero =>
    intro i tt h1 h2
    obtain ⟨u, rfl⟩ : ∃ u, tt = u + 1 := ⟨tt - 1, by omega⟩
    have : i = 1300 := by omega
    subst this
    rw [F_201_7]
    simp (disch := first | assumption | omega) only [gI, gI2, gL, gL1, gL2, jcLT, jcGE, jcGT, jcLE, jcEQ, jcNE, dEQ, nIt, lgNE, lgEQ, lgGE, lgLT, lgGT, lgLE, jinT, nIc, nI0, nI1, nIo, nIs, nI_add, nIm, nIn0, szl0, szl1, szl2, szl3, szl4, szl5, Nat.add_sub_assoc, Nat.add_zero, Nat.reduceSub, Nat.reduceAdd, Nat.reduceMul, Nat.reduceEqDiff,  jifT, bdS, sifN, sifS, omN, omS, cdI, x25, x26, x27, x28, x29, x30, x31, x32, xr0, xr1, xr2, xr3, xr4, xr5, if_pos, if_neg, true_and, and_true, false_and, and_false, and_self, Bool.and_true, if_true, if_false, reduceIte, cond_true, cond_false, not_true_eq_false, not_false_eq_true, x51, x52, x53, x54, x55, x56, x57, x58, x59, x60, x61, x62, x63]
  | succ w ih =>
    intro i tt h1 h2
    obtain ⟨u, rfl⟩ : ∃ u, tt = u + 1 := ⟨tt - 1, by omega⟩
    have e := ih (i + 1) u (by omega) (by omega)
    rw [F_201_7, ← e]
    clear ih e
    have hi : i < 1300 := by omega
    simp (disch := first | assumption | omega) only [gI, gI2, gL, gL1, gL2, jcLT, jcGE, jcGT, jcLE, jcEQ, jcNE, dEQ, nIt, lgNE, lgEQ, lgGE, lgLT, lgGT, lgLE, jinT, nIc, nI0, nI1, nIo, nIs, nI_add, nIm, nIn0, szl0, szl1, szl2, szl3, szl4, szl5, Nat.add_sub_assoc, Nat.add_zero, Nat.reduceSub, Nat.reduceAdd, Nat.reduceMul, Nat.reduceEqDiff,  jifT, bdS, sifN, sifS, omN, omS, cdI, x25, x26, x27, x28, x29, x30, x31, x32, xr0, xr1, xr2, xr3, xr4, xr5, if_pos, if_neg, true_and, and_true, false_and, and_false, and_self, Bool.and_true, if_true, if_false, reduceIte, cond_true, cond_false, not_true_eq_false, not_false_eq_true, x51, x52, x53, x54, x55, x56, x57, x58, x59, x60, x61, x62, x63, w3T]
theorem c_digest (ht : 2147483648 < t) : cal2 (F_63 G t) (F_201 G t) := by
  intro c S T h hc
  obtain ⟨φ, D, F, N, P, A, h1, h2⟩ := id h
  have w := (h1.er (nI 0)).w.1
  obtain ⟨S1, e8, x1, ag1, f1, _, x1'⟩ := l_8 (G := G) (t := t) (S := S) (tg := 19) (i0 := 0) (j0 := 0) (L := 600) (v := nI 0) (fun S' hS' => rfl) rfl rfl (by omega) 600 0 t S (by omega) (by omega) rfl
  obtain ⟨b1, b2, b3, b4⟩ := w3T_ag (siI T 33 0 0 25 (nI 0)) 1300
  have R : dgR φ D S (siI T 33 0 0 25 (nI 0)) (siL (siI (siI S1 18 0 0 4 (nI 0)) 18 0 0 5 (nI 0)) 18 0 0 6 7) (w3T (siI T 33 0 0 25 (nI 0)) 1300) [] [] := by
    refine ⟨⟨(ag1.mono (fun t i j z => by omega)).trans (agr.l (agr.i (agr.i (agr.refl _ _) _ _ (by omega)) _ _ (by omega)) _ _ (by omega)), x1⟩, ⟨fun t i j _ _ z => (b1 t i j z).1, b2, b3⟩, ⟨List.nodup_nil, fun h hh => (by cases hh), ?_⟩, fun h hh => ⟨0, ?_, by omega, ⟨fun _ => List.not_mem_nil, fun _ => rfl⟩, fun _ => b4 _ (w.2.2.2.2.1.1 h hh).2, fun z => absurd rfl z⟩, ⟨?_, fun d x hx => (by cases hx), List.nodup_nil⟩⟩
    · rw [gL1, siI_at]; rfl
    · rw [gL1, siI_ne _ _ _ (by omega), siI_ne _ _ _ (by omega)]
      exact f1 h (by omega) (w.2.2.2.2.1.1 h hh).1
    · rw [gL1, gI, if_neg (by omega), siI_at]; rfl
  obtain ⟨S', T', ml', y1, y2, y3⟩ := dg_all (G := G) (t := t) trivial (by omega) w 16 0 _ _ [] t t (by omega) (by omega) (by omega) R (by show 17 * (600 - 0) + 0 ≤ 10200; omega)
  have s7 : (siL (siI (siI S1 18 0 0 4 (nI 0)) 18 0 0 5 (nI 0)) 18 0 0 6 7).2.1 18 0 0 6 = 7 := by rw [gL, if_pos ⟨rfl, rfl, rfl, rfl⟩]
  rw [s7] at y2
  have el := l_2017 (G := G) (t := t) (T := siI T 33 0 0 25 (nI 0)) 1300 0 t (by omega) (by omega)
  refine ⟨S'.2.1 18 0 0 6, S', T', ?_, el.trans y2, ⟨φ, D, F, N, P, A, (h1.er (nI 0)).qry ⟨y3.1.1.mono (fun t i j z => by omega), y3.1.2⟩ ⟨fun t i j a b z => y3.2.1.1 t i j (by omega) (by omega) (by omega), fun t i j a b => by rw [y3.2.1.2.1], fun i j q z _ => y3.2.1.2.2 i j q z, fun q _ _ _ _ => by rw [y3.2.1.1 33 0 0 (by omega) (by omega) (by omega)]⟩, by omega⟩, fun x hx => ⟨x, by omega, hx.same y3.1.2⟩⟩
  unfold F_63 F_62 F_8
  show ((F_8_5 G t t (19, 0, 0) (nI 0) (nI 0) (nI 600) S).bind (fun q1 => F_62_27 G t t (0, 5) (nI 0) (siL (siI (siI q1.2 18 0 0 4 (nI 0)) 18 0 0 5 (nI 0)) 18 0 0 6 7))).bind _ = _
  rw [e8, bdS, y1, bdS]
end DG4
