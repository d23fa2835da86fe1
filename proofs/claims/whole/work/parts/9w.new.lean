/-! NEW, both sides. -/
section NEW2
variable {φ φ' : Nat → Nat} {D D' : Nat → Prop} {F N : Nat} {P : aP} {S S' T T' T1 : sS} {A : aS} {r s d p f pc n m e b k y : Nat} {G : jG} {t j : Nat} {kd cl : Nat → Nat} {fl : List Nat}
theorem wR.make {x q z w' c U O L i : Nat} (w : wR φ D F N P S T A) (M : mkR S S' x q k z w' c U O L) (hx : x < 600) (hnx : ¬ D x) (R : mmR T T' i k z) (hi : i < 1300) (hni : ∀ h, reC S A.2.1 h → φ h ≠ i) (hw : w' = if k = 2 then z else 0) (hk : k = 2 ∨ k = 3) (hz : z ≤ 16) (hz3 : k = 3 → z ≤ 8) : wR (va_up φ x i) (fun h => reC S A.2.1 h ∨ h = x) F N P S' T' A := by
  have ow := w.2.2.2.2.2.2.2.2.2
  have nx : ∀ h, reC S A.2.1 h → h ≠ x := fun h hh z => hnx (z ▸ w.reD hh)
  have W := w.re
  obtain ⟨⟨m1, m2, m3, m4, m5, m6⟩, ⟨m7, m8, m9⟩, m10, ⟨m11, m12, m13, m14, m15, m16⟩, m17, ⟨m18, m19, m20, m21, m22⟩, m23, m24, m25⟩ := id M
  obtain ⟨r1, r2, r3, r4, ⟨r5, r6, r7, r8⟩, r9, r10, r11, r12⟩ := id R
  refine W.heap (fun t a b h1 h2 => m10 t a b (by omega)) (fun s d p hp t j h1 h2 h3 => m10 t p j (fun z => ?_)) (fun t h1 h2 => m10 t 0 5 (by omega)) m1 (fun p hp => by rw [m4]; exact hp) m24 (r1.mono (fun t i j z => by omega)) (fun k h1 h2 => r10 k h2 (by omega) (by omega) (by omega)) (by rw [r12]) ?_ (fun y hy rt => ⟨Or.inl (reC.rt hy rt), va_up_ne _ _ (nx y (reC.rt hy rt))⟩) (fun h hh => ?_) ⟨fun h hh => ?_, fun h h' hh hh' e => ?_⟩
  · rcases z with z | z | z
    · omega
    · omega
    · exact m8 s d (z.2.2 ▸ hp)
  · rw [m14, r11, w.2.2.2.2.2.2.2.1.2.2.2.1]
  · rcases hh with hh | rfl
    · have o := (W.2.2.2.1 h hh).shr (φ' := va_up φ x i) (D' := fun h => reC S A.2.1 h ∨ h = x) W.D6 (fun y hy rf => ⟨Or.inl (hh.rf rf), va_up_ne _ _ (nx y (hh.rf rf))⟩) (va_up_ne _ _ (nx h hh))
      obtain ⟨p', k1, z1, w1, cc, o1, o⟩ := o
      obtain ⟨np, b1, b2⟩ := M.ot (t := 0) ow (nx h hh) o1
      have ni : va_up φ x i h ≠ i := by rw [va_up_ne _ _ (nx h hh)]; exact hni h hh
      refine ⟨p', k1, z1, w1, cc, b1, ?_⟩
      rw [(b2 32 0 (by omega) (by omega)).1, (b2 29 4 (by omega) (by omega)).1, (b2 31 4 (by omega) (by omega)).1, (b2 30 4 (by omega) (by omega)).2, r3 _ 0 ni (by omega), r3 _ 1 ni (by omega), r3 _ 2 ni (by omega), r3 _ 4 ni (by omega), (r4 _ ni).1, (r4 _ ni).2]
      exact ⟨m6 p' o.1, o.2⟩
    · unfold obR
      rw [va_up_self]
      refine ⟨q, k, z, w', 0, m2, m5, ⟨m18, r5, hk⟩, ⟨m19, r6, hz, hz3⟩, ⟨m22, fun z => ?_, ?_, fun z => ?_⟩, ⟨m21, r8, by omega⟩, m20, fun j hj => ?_⟩
      · rw [hw, if_neg (by omega)]; exact r7
      · rw [hw]
        by_cases c : k = 2
        · rw [if_pos c]; exact Nat.le_refl _
        · rw [if_neg c]; exact Nat.zero_le _
      · rw [hw, if_pos z]
      · have hj6 : j < 16 := by
          rw [hw] at hj
          by_cases c : k = 2
          · rw [if_pos c] at hj; omega
          · rw [if_neg c] at hj; omega
        exact Or.inl ⟨(m23 j hj).2, (r9 j hj6).1, by rw [(m23 j hj).1, (r9 j hj6).2]⟩
  · rcases hh with hh | rfl
    · rw [va_up_ne _ _ (nx h hh)]
      exact W.2.2.2.2.1.1 h hh
    · rw [va_up_self]
      exact ⟨hx, hi⟩
  · rcases hh with hh | rfl
    · rw [va_up_ne _ _ (nx h hh)] at e
      rcases hh' with hh' | rfl
      · rw [va_up_ne _ _ (nx h' hh')] at e
        exact W.2.2.2.2.1.2 h h' hh hh' e
      · rw [va_up_self] at e
        exact absurd e (hni h hh)
    · rw [va_up_self] at e
      rcases hh' with hh' | rfl
      · rw [va_up_ne _ _ (nx h' hh')] at e
        exact absurd e.symm (hni h' hh')
      · rfl
theorem insY.of {k y : Nat} {X : Option (Int32 × sS)} {W : Option (Unit × sS)} (h : insY D' F N P S' T' A r p G t k y X W) (rm : ∀ x, rmR S x → rmR S' x) : insY D F N P S T A r p G t k y X W := by
  obtain ⟨S2, T2, φ2, D2, A2, h1, h2, h3, h4, h5, h6, h7⟩ := h
  exact ⟨S2, T2, φ2, D2, A2, h1, h2, h3, h4, h5, fun x hx => h6 x (rm x hx), h7⟩
/-! what is reached takes no more cells than are counted -/
set_option maxHeartbeats 4000000 in
set_option linter.unusedSimpArgs false in
theorem suL_le {l l' : List Nat} {cl : Nat → Nat} (h1 : l.Nodup) (h2 : l'.Nodup) (h : ∀ x, x ∈ l → x ∈ l') : suL cl l ≤ suL cl l' := by
  have p : (l'.filter (fun x => decide (x ∈ l))).Perm l := (List.perm_ext_iff_of_nodup (h2.filter _) h1).mpr (fun x => by
    rw [List.mem_filter]
    simp only [decide_eq_true_eq]
    exact ⟨fun z => z.2, fun z => ⟨h x z, z⟩⟩)
  have e : suL cl l = suL cl (l'.filter (fun x => decide (x ∈ l))) := by
    unfold suL
    exact List.Perm.sum_nat (List.Perm.map _ p.symm)
  rw [e]
  clear p e h h1 h2
  induction l' with
  | nil => exact Nat.le_refl _
  | cons a l' ih =>
    rw [List.filter_cons, suL_c]
    by_cases c : decide (a ∈ l) = true
    · rw [if_pos c, suL_c]; omega
    · rw [if_neg c]; omega
set_option maxHeartbeats 4000000 in
set_option linter.unusedSimpArgs false in
theorem gcR.sum (gc : gcR D S) {bl : List Nat} (h1 : bl.Nodup) (h2 : ∀ x, x ∈ bl → D x) : ∃ U, S.1 11 0 0 9 = nI U ∧ U ≤ 1200 ∧ suL (clC S) bl ≤ U := by
  obtain ⟨kd, cl, co, fl, gl, ro, sw, g1, g2, g3, g4, _⟩ := gc
  have H : hpR S kd cl fl := ⟨g1, g2, g3⟩
  refine ⟨_, g3.2.1, g3.2.2, ?_⟩
  rw [usC_fl]
  refine Nat.le_trans (Nat.le_of_eq (suL_cong (fun x hx => ?_))) (suL_le h1 (List.nodup_range.filter _) (fun x hx => ?_))
  · exact H.cls (g4 x (h2 x hx)).1 (g4 x (h2 x hx)).2
  · rw [List.mem_filter, List.mem_range]
    exact ⟨(g4 x (h2 x hx)).1, by simp [(g4 x (h2 x hx)).2]⟩
/-! the reached ones, as a list -/
set_option maxHeartbeats 4000000 in
set_option linter.unusedSimpArgs false in
theorem reL (gc : gcR D S) (h : ∀ x, reC S A.2.1 x → D x) : ∃ bl : List Nat, bl.Nodup ∧ (∀ x, x ∈ bl ↔ reC S A.2.1 x) ∧ bl.length ≤ 600 := by
  classical
  refine ⟨(List.range 600).filter (fun x => decide (reC S A.2.1 x)), List.nodup_range.filter _, fun x => ?_, ?_⟩
  · rw [List.mem_filter, List.mem_range]
    simp only [decide_eq_true_eq]
    obtain ⟨kd, cl, co, fl, gl, ro, sw, g1, g2, g3, g4, _⟩ := gc
    exact ⟨fun z => z.2, fun z => ⟨(g4 x (h x z)).1, z⟩⟩
  · exact Nat.le_trans (List.length_filter_le _ _) (Nat.le_of_eq (List.length_range))
/-! the model makes, or has no cells -/
set_option maxHeartbeats 4000000 in
set_option linter.unusedSimpArgs false in
theorem wR.f168 {z : Nat} (ht : 2000 < t) (w : wR φ D F N P S T A) (gc : gcR D S) (hk : k = 2 ∨ k = 3) (hz : z ≤ 16) {bl : List Nat} (h1 : bl.Nodup) (h2 : ∀ x, x ∈ bl ↔ reC S A.2.1 x) (h3 : bl.length ≤ 600) (h4 : suL (clC S) bl ≤ 1200) :
    (suL (clC S) bl + (k + z) ≤ 1200 → ∃ i T', i < 1300 ∧ (∀ h, reC S A.2.1 h → φ h ≠ i) ∧ F_168 G t (nI k) (nI z) T = some (nI i, T') ∧ mmR T T' i k z) ∧
    (¬ suL (clC S) bl + (k + z) ≤ 1200 → ∃ T', moA T T' ∧ F_168 G t (nI k) (nI z) T = some (-1, T')) := by
  obtain ⟨T1, op, e1, M, o1⟩ := w.f167 (G := G) ht
  obtain ⟨s1, s2⟩ := w.same h1 h2 M.2.2.2.2 o1
  have M0 := M
  obtain ⟨mo, mk, ⟨_, _, m26⟩, mb, mn⟩ := M
  rw [s2] at m26
  generalize suL (clC S) bl = V at *
  have e18 : F_168 G t (nI k) (nI z) T = F_168_18 G t (nI k) (nI z) (nI k) (nI V) T1 := by
    unfold F_168
    clear w gc M0 mo mk mb o1
    rcases hk with rfl | rfl
    · simp (disch := first | assumption | omega) only [gI, gI2, gL, gL1, gL2, jcLT, jcGE, jcGT, jcLE, jcEQ, jcNE, dEQ, nIt, lgNE, lgEQ, lgGE, lgLT, lgGT, lgLE, jinT, nIc, nI0, nI1, nIo, nIs, nI_add, nIm, nIn0, szl0, szl1, szl2, szl3, szl4, szl5, Nat.add_sub_assoc, Nat.add_zero, Nat.reduceSub, Nat.reduceAdd, Nat.reduceMul, Nat.reduceEqDiff,  jifT, bdS, sifN, sifS, omN, omS, cdI, x25, x26, x27, x28, x29, x30, x31, x32, xr0, xr1, xr2, xr3, xr4, xr5, if_pos, if_neg, true_and, and_true, false_and, and_false, and_self, Bool.and_true, if_true, if_false, reduceIte, cond_true, cond_false, not_true_eq_false, not_false_eq_true, x51, x52, x53, x54, x55, x56, x57, x58, x59, x60, x61, x62, x63, e1, m26]
    · simp (disch := first | assumption | omega) only [gI, gI2, gL, gL1, gL2, jcLT, jcGE, jcGT, jcLE, jcEQ, jcNE, dEQ, nIt, lgNE, lgEQ, lgGE, lgLT, lgGT, lgLE, jinT, nIc, nI0, nI1, nIo, nIs, nI_add, nIm, nIn0, szl0, szl1, szl2, szl3, szl4, szl5, Nat.add_sub_assoc, Nat.add_zero, Nat.reduceSub, Nat.reduceAdd, Nat.reduceMul, Nat.reduceEqDiff,  jifT, bdS, sifN, sifS, omN, omS, cdI, x25, x26, x27, x28, x29, x30, x31, x32, xr0, xr1, xr2, xr3, xr4, xr5, if_pos, if_neg, true_and, and_true, false_and, and_false, and_self, Bool.and_true, if_true, if_false, reduceIte, cond_true, cond_false, not_true_eq_false, not_false_eq_true, x51, x52, x53, x54, x55, x56, x57, x58, x59, x60, x61, x62, x63, e1, m26]
  rw [e18]
  constructor
  · intro hV
    have : ∃ q, q < 1300 ∧ q ∉ op := by
      apply Classical.byContradiction
      intro c
      have p : op.Perm (List.range 1300) := (List.perm_ext_iff_of_nodup mn List.nodup_range).mpr (fun a => by
        rw [List.mem_range]
        constructor
        · intro ha
          obtain ⟨i, hi⟩ := List.mem_iff_getElem?.mp ha
          exact (mb i a hi).2
        · intro ha
          exact Classical.byContradiction (fun c' => c ⟨a, ha, c'⟩))
      have := p.length_eq
      rw [List.length_range] at this
      omega
    obtain ⟨q, q1, q2⟩ := this
    obtain ⟨i, i1, i2, i3⟩ := l_16831 (G := G) (t := t) (k := k) (z := z) (by omega) mk q1 q2 1300 0 t (by omega) (by omega) (by omega)
    refine ⟨i, _, i1, fun h hh c => i2 ((o1 i).mpr ⟨h, hh, c.symm⟩), ?_, mmS_r mo⟩
    rw [← i3]
    unfold F_168_18
    clear w gc M0 mo mk mb o1 i3 i2
    simp (disch := first | assumption | omega) only [gI, gI2, gL, gL1, gL2, jcLT, jcGE, jcGT, jcLE, jcEQ, jcNE, dEQ, nIt, lgNE, lgEQ, lgGE, lgLT, lgGT, lgLE, jinT, nIc, nI0, nI1, nIo, nIs, nI_add, nIm, nIn0, szl0, szl1, szl2, szl3, szl4, szl5, Nat.add_sub_assoc, Nat.add_zero, Nat.reduceSub, Nat.reduceAdd, Nat.reduceMul, Nat.reduceEqDiff,  jifT, bdS, sifN, sifS, omN, omS, cdI, x25, x26, x27, x28, x29, x30, x31, x32, xr0, xr1, xr2, xr3, xr4, xr5, if_pos, if_neg, true_and, and_true, false_and, and_false, and_self, Bool.and_true, if_true, if_false, reduceIte, cond_true, cond_false, not_true_eq_false, not_false_eq_true, x51, x52, x53, x54, x55, x56, x57, x58, x59, x60, x61, x62, x63]
  · intro hV
    refine ⟨T1, mo, ?_⟩
    unfold F_168_18
    clear w gc M0 mo mk mb o1
    simp (disch := first | assumption | omega) only [gI, gI2, gL, gL1, gL2, jcLT, jcGE, jcGT, jcLE, jcEQ, jcNE, dEQ, nIt, lgNE, lgEQ, lgGE, lgLT, lgGT, lgLE, jinT, nIc, nI0, nI1, nIo, nIs, nI_add, nIm, nIn0, szl0, szl1, szl2, szl3, szl4, szl5, Nat.add_sub_assoc, Nat.add_zero, Nat.reduceSub, Nat.reduceAdd, Nat.reduceMul, Nat.reduceEqDiff,  jifT, bdS, sifN, sifS, omN, omS, cdI, x25, x26, x27, x28, x29, x30, x31, x32, xr0, xr1, xr2, xr3, xr4, xr5, if_pos, if_neg, true_and, and_true, false_and, and_false, and_self, Bool.and_true, if_true, if_false, reduceIte, cond_true, cond_false, not_true_eq_false, not_false_eq_true, x51, x52, x53, x54, x55, x56, x57, x58, x59, x60, x61, x62, x63]
end NEW2
