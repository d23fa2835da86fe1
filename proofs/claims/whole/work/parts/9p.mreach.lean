/-! What is reached: both sides. -/
section MO3
variable {φ : Nat → Nat} {D : Nat → Prop} {F N : Nat} {P : aP} {S S' T0 T T' : sS} {A : aS} {r s d p f pc n m e b k y : Nat} {G : jG} {t j : Nat} {op : List Nat}
set_option maxHeartbeats 4000000 in
set_option linter.unusedSimpArgs false in
theorem e167c {x i kd w u : Nat} (hi : i < 1300) (hx : x < 1300) (h30 : T.1 33 0 0 30 = nI n) (hn : i < n) (hn2 : n ≤ 1300) (h46 : T.1 46 0 0 i = nI x) (hk : T.1 51 x 0 0 = nI kd) (hk2 : kd = 2 ∧ T.1 51 x 0 1 = nI w ∨ kd = 3 ∧ T.1 51 x 0 2 = nI w) : F_167_252 G t (u + 1) (nI i) T = F_167_295 G t (F_167_252 G t u) t (nI i) (x, 0) (nI w) (nI 0) T := by
  rw [F_167_252]
  rcases hk2 with ⟨rfl, q⟩ | ⟨rfl, q⟩
  · simp (disch := first | assumption | omega) only [gI, gI2, gL, gL1, gL2, jcLT, jcGE, jcGT, jcLE, jcEQ, jcNE, dEQ, nIt, lgNE, lgEQ, lgGE, lgLT, lgGT, lgLE, jinT, nIc, nI0, nI1, nIo, nIs, nI_add, nIm, nIn0, szl0, szl1, szl2, szl3, szl4, szl5, Nat.add_sub_assoc, Nat.add_zero, Nat.reduceSub, Nat.reduceAdd, Nat.reduceMul, Nat.reduceEqDiff,  jifT, bdS, sifN, sifS, omN, omS, cdI, x25, x26, x27, x28, x29, x30, x31, x32, xr0, xr1, xr2, xr3, xr4, xr5, if_pos, if_neg, true_and, and_true, false_and, and_false, and_self, Bool.and_true, if_true, if_false, reduceIte, cond_true, cond_false, not_true_eq_false, not_false_eq_true, x51, x52, x53, x54, x55, x56, x57, x58, x59, x60, x61, x62, x63, F_167_291, h30, h46, hk, q]
  · simp (disch := first | assumption | omega) only [gI, gI2, gL, gL1, gL2, jcLT, jcGE, jcGT, jcLE, jcEQ, jcNE, dEQ, nIt, lgNE, lgEQ, lgGE, lgLT, lgGT, lgLE, jinT, nIc, nI0, nI1, nIo, nIs, nI_add, nIm, nIn0, szl0, szl1, szl2, szl3, szl4, szl5, Nat.add_sub_assoc, Nat.add_zero, Nat.reduceSub, Nat.reduceAdd, Nat.reduceMul, Nat.reduceEqDiff,  jifT, bdS, sifN, sifS, omN, omS, cdI, x25, x26, x27, x28, x29, x30, x31, x32, xr0, xr1, xr2, xr3, xr4, xr5, if_pos, if_neg, true_and, and_true, false_and, and_false, and_self, Bool.and_true, if_true, if_false, reduceIte, cond_true, cond_false, not_true_eq_false, not_false_eq_true, x51, x52, x53, x54, x55, x56, x57, x58, x59, x60, x61, x62, x63, F_167_291, h30, h46, hk, q]
set_option maxHeartbeats 4000000 in
set_option linter.unusedSimpArgs false in
theorem wR.l167c (ht : 1000 < t) (w : wR φ D F N P S T0 A) : ∀ j i tt T op, i + j = 1300 → j < tt → moR T0 T op → (∀ k, k ∈ op → ∃ h, reC S A.2.1 h ∧ k = φ h) → (∀ (i' x : Nat), i' < i → op[i']? = some x → ∀ h g, reC S A.2.1 h → x = φ h → rfC S h g → φ g ∈ op) → i ≤ op.length →
    ∃ T' op', F_167_252 G t tt (nI i) T = some ((), T') ∧ moR T0 T' op' ∧ (∀ k, k ∈ op → k ∈ op') ∧ (∀ k, k ∈ op' → ∃ h, reC S A.2.1 h ∧ k = φ h) ∧ ∀ x, x ∈ op' → ∀ h g, reC S A.2.1 h → x = φ h → rfC S h g → φ g ∈ op' := by
  have stop : ∀ i u T op, moR T0 T op → (∀ k, k ∈ op → ∃ h, reC S A.2.1 h ∧ k = φ h) → (∀ (i' x : Nat), i' < i → op[i']? = some x → ∀ h g, reC S A.2.1 h → x = φ h → rfC S h g → φ g ∈ op) → i = op.length → ∃ T' op', F_167_252 G t (u + 1) (nI i) T = some ((), T') ∧ moR T0 T' op' ∧ (∀ k, k ∈ op → k ∈ op') ∧ (∀ k, k ∈ op' → ∃ h, reC S A.2.1 h ∧ k = φ h) ∧ ∀ x, x ∈ op' → ∀ h g, reC S A.2.1 h → x = φ h → rfC S h g → φ g ∈ op' := fun i u T op h h1 h2 h3 => by
    have hl := nd_len 1300 op h.2.2.2.2 h.lt
    refine ⟨T, op, ?_, h, fun _ z => z, h1, fun x hx => ?_⟩
    · have h30 := h.2.2.1.1
      rw [← h3] at h30 hl
      rw [F_167_252]
      clear h h1 h2 w
      simp (disch := first | assumption | omega) only [gI, gI2, gL, gL1, gL2, jcLT, jcGE, jcGT, jcLE, jcEQ, jcNE, dEQ, nIt, lgNE, lgEQ, lgGE, lgLT, lgGT, lgLE, jinT, nIc, nI0, nI1, nIo, nIs, nI_add, nIm, nIn0, szl0, szl1, szl2, szl3, szl4, szl5, Nat.add_sub_assoc, Nat.add_zero, Nat.reduceSub, Nat.reduceAdd, Nat.reduceMul, Nat.reduceEqDiff,  jifT, bdS, sifN, sifS, omN, omS, cdI, x25, x26, x27, x28, x29, x30, x31, x32, xr0, xr1, xr2, xr3, xr4, xr5, if_pos, if_neg, true_and, and_true, false_and, and_false, and_self, Bool.and_true, if_true, if_false, reduceIte, cond_true, cond_false, not_true_eq_false, not_false_eq_true, x51, x52, x53, x54, x55, x56, x57, x58, x59, x60, x61, x62, x63, h30]
    · obtain ⟨q, hq, e⟩ := List.getElem_of_mem hx
      exact h2 q x (by omega) (List.getElem?_eq_some_iff.mpr ⟨hq, e⟩)
  intro j
  induction j with
  | zero =>
    intro i tt T op h1 h2 h h3 h4 h5
    obtain ⟨u, rfl⟩ : ∃ u, tt = u + 1 := ⟨tt - 1, by omega⟩
    have hl := nd_len 1300 op h.2.2.2.2 h.lt
    exact stop i u T op h h3 h4 (by omega)
  | succ j ih =>
    intro i tt T op h1 h2 h h3 h4 h5
    obtain ⟨u, rfl⟩ : ∃ u, tt = u + 1 := ⟨tt - 1, by omega⟩
    have hl := nd_len 1300 op h.2.2.2.2 h.lt
    by_cases c : i = op.length
    · exact stop i u T op h h3 h4 c
    · have hi : i < op.length := by omega
      have hg := List.getElem?_eq_getElem hi
      have hxm : op[i] ∈ op := List.getElem_mem hi
      generalize op[i] = x at hg hxm
      obtain ⟨x1, x2⟩ := h.2.2.2.1 i x hg
      obtain ⟨h0, hr, hx⟩ := h3 x hxm
      have hD := w.reD hr
      obtain ⟨p, kd, z, wv, c', c1, c2, ⟨c3, c3', ck⟩, ⟨_, c5, z16, _⟩, ⟨c9, c10, wz, c12⟩, _, c16, vv⟩ := w.2.2.2.1 h0 hD
      have a3 := h.1.2.2.1
      have e1 := e167c (G := G) (t := t) (T := T) (x := x) (i := i) (kd := kd) (w := wv) (u := u) (n := op.length) (by omega) x2 h.2.2.1.1 hi hl x1 (by rw [a3 _ _ 0 (by omega), hx]; exact c3') (by
        rcases ck with ck | ck
        · exact Or.inl ⟨ck, by rw [a3 _ _ 1 (by omega), hx, c12 ck]; exact c5⟩
        · exact Or.inr ⟨ck, by rw [a3 _ _ 2 (by omega), hx]; exact c10 ck⟩)
      rw [hx] at e1
      obtain ⟨T1, op1, b1, b2, b3⟩ := l_167v (G := G) (t := t) (k252 := F_167_252 G t u) (v1 := i) (q0 := φ h0) w.mkO w.D6 (by omega) (by omega) (show wv ≤ 16 by omega) vv wv 0 t T op (by omega) (by omega) h
      obtain ⟨⟨l, hl1⟩, b4⟩ := b3
      obtain ⟨T', op', d1, d2, d3, d4, d5⟩ := ih (i + 1) u T1 op1 (by omega) (by omega) b2 (fun k hk => by
        rcases (b4 k).mp hk with hk | ⟨q, g, _, q1, q2, q3, q4⟩
        · exact h3 k hk
        · exact ⟨g, hr.rf ⟨p, wv, q, c1, c9, by omega, q1, q3, w.D6 g q2⟩, q4⟩) (fun i' y hi' hy h' g hr' hy' hf => by
        rw [b4]
        by_cases ci : i' < i
        · left
          rw [hl1, List.getElem?_append_left (by omega)] at hy
          exact h4 i' y ci hy h' g hr' hy' hf
        · right
          have : i' = i := by omega
          subst this
          rw [hl1, List.getElem?_append_left hi, hg] at hy
          have : x = y := Option.some.inj hy
          subst this
          have eh : h' = h0 := w.2.2.2.2.1.2 _ _ (w.reD hr') hD (by rw [← hy', hx])
          subst eh
          obtain ⟨p', w', q, q1, q2, q3, q4, q5, q6⟩ := hf
          rw [c1] at q1
          cases q1
          rw [c9] at q2
          have := (nI_eq (by omega) (by omega)).mp q2
          exact ⟨q, g, Nat.zero_le _, by omega, (vv q (by omega)).dm w.D6 q6 q5, q5, rfl⟩) (by rw [hl1, List.length_append]; omega)
      exact ⟨T', op', by rw [e1, b1, d1], d2, fun k hk => d3 k ((b4 k).mpr (Or.inl hk)), d4, d5⟩
/-! the reference reaches the same -/
theorem wR.f167 (ht : 2000 < t) (w : wR φ D F N P S T A) : ∃ T' op, F_167 G t T = some ((), T') ∧ moR T T' op ∧ ∀ k, k ∈ op ↔ ∃ h, reC S A.2.1 h ∧ k = φ h := by
  obtain ⟨T1, a1, a2, a3, a4, a5, _⟩ := l_167r (G := G) (t := t) 1300 0 t T (by omega) (by omega)
  have m0 : moR T (siI (siI (siI T1 33 0 0 30 (nI 0)) 33 0 0 27 (nI 0)) 33 0 0 26 (nI 0)) [] := by
    refine ⟨⟨fun t i j x y z => ?_, a3, fun i j q x => ?_, fun q x y z => ?_⟩, fun k hk => ?_, ⟨?_, ?_, ?_⟩, fun i x z => (by cases z), List.nodup_nil⟩
    · rw [siI_ne _ _ _ (by omega), siI_ne _ _ _ (by omega), siI_ne _ _ _ (by omega)]
      exact a2 t i j x
    · rw [siI_ne _ _ _ (by omega), siI_ne _ _ _ (by omega), siI_ne _ _ _ (by omega)]
      exact a4 i j q x
    · rw [gI, if_neg (by omega), gI, if_neg (by omega), gI, if_neg (by omega), a2 33 0 0 (by omega)]
    · rw [siI_ne _ _ _ (by omega), siI_ne _ _ _ (by omega), siI_ne _ _ _ (by omega)]
      exact a5 k (Nat.zero_le _) hk
    · rw [gI, if_neg (by omega), gI, if_neg (by omega), siI_at]; rfl
    · rw [gI, if_neg (by omega), siI_at]; rfl
    · exact siI_at _ _ _ _ _ _
  obtain ⟨T2, op2, b1, b2, b3⟩ := l_167g (G := G) (t := t) (n := 16) w.mkO w.D6 rfl w.2.2.1.2 16 0 t _ [] (by omega) (by omega) m0
  have b3 := b3.iff (fun q => rowM (φ := φ) (D := D) (S := S) (p := 0) (k := 5) (n := 16) (q := q) w.2.2.1.1 (by omega))
  obtain ⟨T3, op3, c1, c2, c3⟩ := w.l167t (G := G) (t := t) (by omega) 16 0 t T2 op2 (by omega) (by omega) b2
  have c4 := (b3.trans c3).2
  have hR : ∀ k, k ∈ op3 ↔ ∃ h, D h ∧ rtC S A.2.1 h ∧ k = φ h := fun k => by
    rw [c4]
    constructor
    · rintro (z | ⟨h, q1, q2, q3⟩ | ⟨h, q1, q2, q3⟩)
      · cases z
      · exact ⟨h, q1, Or.inl q2, q3⟩
      · exact ⟨h, q1, Or.inr q2, q3⟩
    · rintro ⟨h, q1, q2 | q2, q3⟩
      · exact Or.inr (Or.inl ⟨h, q1, q2, q3⟩)
      · exact Or.inr (Or.inr ⟨h, q1, q2, q3⟩)
  obtain ⟨T', op, d1, d2, d3, d4, d5⟩ := w.l167c (G := G) (t := t) (by omega) 1300 0 t T3 op3 (by omega) (by omega) c2 (fun k hk => by
    obtain ⟨h, q1, q2, q3⟩ := (hR k).mp hk
    exact ⟨h, reC.rt (w.D6 h q1) q2, q3⟩) (fun i' x z => by omega) (Nat.zero_le _)
  refine ⟨T', op, ?_, d2, fun k => ⟨d4 k, ?_⟩⟩
  · unfold F_167
    rw [a1, b1, c1, d1]
  · rintro ⟨h, hr, rfl⟩
    refine (hr (fun h => reC S A.2.1 h ∧ φ h ∈ op) (fun h h6 rt => ⟨reC.rt h6 rt, d3 _ ((hR _).mpr ⟨h, w.rtD h6 rt, rt, rfl⟩)⟩) (fun h g q f => ⟨q.1.rf f, d5 _ q.2 h g q.1 rfl f⟩)).2
/-! as many, and as many cells -/
theorem wR.same (w : wR φ D F N P S T A) {bl op : List Nat} (h1 : bl.Nodup) (h2 : ∀ x, x ∈ bl ↔ reC S A.2.1 x) (h3 : op.Nodup) (h4 : ∀ k, k ∈ op ↔ ∃ h, reC S A.2.1 h ∧ k = φ h) : op.length = bl.length ∧ suL (clM T) op = suL (clC S) bl := by
  have nd : (bl.map φ).Nodup := by
    clear h3 h4
    have inj : ∀ x y, reC S A.2.1 x → reC S A.2.1 y → φ x = φ y → x = y := fun x y a b e => w.2.2.2.2.1.2 x y (w.reD a) (w.reD b) e
    have hb : ∀ x, x ∈ bl → reC S A.2.1 x := fun x hx => (h2 x).mp hx
    clear h2
    induction bl with
    | nil => exact List.nodup_nil
    | cons x l ih =>
      rw [List.map_cons]
      obtain ⟨n1, n2⟩ := List.nodup_cons.mp h1
      refine List.nodup_cons.mpr ⟨fun z => ?_, ih n2 (fun y hy => hb y (List.mem_cons_of_mem _ hy))⟩
      obtain ⟨y, hy, e⟩ := List.mem_map.mp z
      have := inj y x (hb y (List.mem_cons_of_mem _ hy)) (hb x List.mem_cons_self) e
      exact n1 (this ▸ hy)
  have pm : op.Perm (bl.map φ) := (List.perm_ext_iff_of_nodup h3 nd).mpr (fun k => by
    rw [h4, List.mem_map]
    constructor
    · rintro ⟨h, a, b⟩
      exact ⟨h, (h2 h).mpr a, b.symm⟩
    · rintro ⟨h, a, b⟩
      exact ⟨h, (h2 h).mp a, b.symm⟩)
  refine ⟨by rw [pm.length_eq, List.length_map], ?_⟩
  unfold suL
  rw [(pm.map (clM T)).sum_nat, List.map_map]
  congr 1
  refine List.map_congr_left (fun x hx => ?_)
  obtain ⟨k, z, a1, a2, a3, a4, a5⟩ := w.cells (w.reD ((h2 x).mp hx))
  show clM T (φ x) = clC S x
  unfold clM
  rw [a3, a4, a5, nI_clamp (by omega)]
  rcases a1 with rfl | rfl
  · rw [if_pos rfl]
  · rw [if_neg (fun q => by
      have := (nI_eq (by omega) (by omega)).mp q
      omega)]
end MO3
