/-! What is reached: the reference's marks. -/
/-! the reference's store but for its marks -/
def moA (T0 T : sS) : Prop := (∀ t i j, t ≠ 51 → t ≠ 33 → t ≠ 46 → T.1 t i j = T0.1 t i j) ∧ T.2 = T0.2 ∧ (∀ i j q, q ≠ 5 → T.1 51 i j q = T0.1 51 i j q) ∧ (∀ q, q ≠ 26 → q ≠ 27 → q ≠ 30 → T.1 33 0 0 q = T0.1 33 0 0 q)
def clM (T : sS) (k : Nat) : Nat := (if T.1 51 k 0 0 = nI 2 then 2 else 3) + (T.1 51 k 0 1).toNatClampNeg
/-! op: the marked ones, as they were met -/
def moR (T0 T : sS) (op : List Nat) : Prop := moA T0 T ∧ (∀ k, k < 1300 → T.1 51 k 0 5 = nI (if k ∈ op then 1 else 0)) ∧ (T.1 33 0 0 30 = nI op.length ∧ T.1 33 0 0 27 = nI op.length ∧ T.1 33 0 0 26 = nI (suL (clM T0) op)) ∧ (∀ (i x : Nat), op[i]? = some x → T.1 46 0 0 i = nI x ∧ x < 1300) ∧ op.Nodup
def moX (op op' : List Nat) (R : Nat → Prop) : Prop := (∃ l, op' = op ++ l) ∧ ∀ k, k ∈ op' ↔ k ∈ op ∨ R k
theorem moX.refl {op : List Nat} {R : Nat → Prop} (h : ∀ k, ¬ R k) : moX op op R := ⟨⟨[], (List.append_nil op).symm⟩, fun k => ⟨Or.inl, fun z => z.elim id (fun z => absurd z (h k))⟩⟩
theorem moX.trans {op op' op'' : List Nat} {R R' : Nat → Prop} (h : moX op op' R) (h' : moX op' op'' R') : moX op op'' (fun k => R k ∨ R' k) := by
  obtain ⟨⟨l, rfl⟩, a⟩ := h
  obtain ⟨⟨l', rfl⟩, a'⟩ := h'
  refine ⟨⟨l ++ l', List.append_assoc _ _ _⟩, fun k => ?_⟩
  rw [a', a]
  exact or_assoc
theorem moX.iff {op op' : List Nat} {R R' : Nat → Prop} (h : moX op op' R) (e : ∀ k, R k ↔ R' k) : moX op op' R' := ⟨h.1, fun k => (h.2 k).trans (or_congr Iff.rfl (e k))⟩
section MOR
variable {φ : Nat → Nat} {D : Nat → Prop} {F N : Nat} {P : aP} {S S' T0 T T' : sS} {A : aS} {r s d p f pc n m e b k y : Nat} {G : jG} {t j : Nat} {op : List Nat}
theorem moR.lt (h : moR T0 T op) : ∀ k, k ∈ op → k < 1300 := fun k hk => by
  obtain ⟨i, hi, e⟩ := List.getElem_of_mem hk
  exact (h.2.2.2.1 i k (List.getElem?_eq_some_iff.mpr ⟨hi, e⟩)).2
set_option maxHeartbeats 4000000 in
set_option linter.unusedSimpArgs false in
theorem e166n {v : Int64} {q : Nat} (hq : q < 2) : F_166 G t (nI q) v T = some ((), T) := by
  unfold F_166
  simp (disch := first | assumption | omega) only [gI, gI2, gL, gL1, gL2, jcLT, jcGE, jcGT, jcLE, jcEQ, jcNE, dEQ, nIt, lgNE, lgEQ, lgGE, lgLT, lgGT, lgLE, jinT, nIc, nI0, nI1, nIo, nIs, nI_add, nIm, nIn0, szl0, szl1, szl2, szl3, szl4, szl5, Nat.add_sub_assoc, Nat.add_zero, Nat.reduceSub, Nat.reduceAdd, Nat.reduceMul, Nat.reduceEqDiff,  jifT, bdS, sifN, sifS, omN, omS, cdI, x25, x26, x27, x28, x29, x30, x31, x32, xr0, xr1, xr2, xr3, xr4, xr5, if_pos, if_neg, true_and, and_true, false_and, and_false, and_self, Bool.and_true, if_true, if_false, reduceIte, cond_true, cond_false, not_true_eq_false, not_false_eq_true, x51, x52, x53, x54, x55, x56, x57, x58, x59, x60, x61, x62, x63]
set_option maxHeartbeats 4000000 in
set_option linter.unusedSimpArgs false in
theorem e166o {q : Nat} (hq : q < 1300) (h5 : T.1 51 q 0 5 = nI 1) : F_166 G t (nI 2) (Int64.ofNat q) T = some ((), T) := by
  have y1 := ofN32 (n := q) (by omega)
  unfold F_166
  simp (disch := first | assumption | omega) only [gI, gI2, gL, gL1, gL2, jcLT, jcGE, jcGT, jcLE, jcEQ, jcNE, dEQ, nIt, lgNE, lgEQ, lgGE, lgLT, lgGT, lgLE, jinT, nIc, nI0, nI1, nIo, nIs, nI_add, nIm, nIn0, szl0, szl1, szl2, szl3, szl4, szl5, Nat.add_sub_assoc, Nat.add_zero, Nat.reduceSub, Nat.reduceAdd, Nat.reduceMul, Nat.reduceEqDiff,  jifT, bdS, sifN, sifS, omN, omS, cdI, x25, x26, x27, x28, x29, x30, x31, x32, xr0, xr1, xr2, xr3, xr4, xr5, if_pos, if_neg, true_and, and_true, false_and, and_false, and_self, Bool.and_true, if_true, if_false, reduceIte, cond_true, cond_false, not_true_eq_false, not_false_eq_true, x51, x52, x53, x54, x55, x56, x57, x58, x59, x60, x61, x62, x63, y1, h5]
def mkT (T : sS) (q L C : Nat) : sS := siI (siI (siI (siI (siI T 51 q 0 5 (nI 1)) 33 0 0 27 (nI (L + 1))) 33 0 0 26 (nI C)) 46 0 0 L (nI q)) 33 0 0 30 (nI (L + 1))
set_option maxHeartbeats 4000000 in
set_option linter.unusedSimpArgs false in
theorem e166a {q L C kd z : Nat} (hq : q < 1300) (hL : L < 1300) (h5 : T.1 51 q 0 5 = nI 0) (h30 : T.1 33 0 0 30 = nI L) (h27 : T.1 33 0 0 27 = nI L) (h26 : T.1 33 0 0 26 = nI C) (hk : T.1 51 q 0 0 = nI kd) (hk2 : kd = 2 ∨ kd = 3) (hz : T.1 51 q 0 1 = nI z) : F_166 G t (nI 2) (Int64.ofNat q) T = some ((), mkT T q L (C + (kd + z))) := by
  have y1 := ofN32 (n := q) (by omega)
  unfold F_166 mkT
  rcases hk2 with rfl | rfl
  · simp (disch := first | assumption | omega) only [gI, gI2, gL, gL1, gL2, jcLT, jcGE, jcGT, jcLE, jcEQ, jcNE, dEQ, nIt, lgNE, lgEQ, lgGE, lgLT, lgGT, lgLE, jinT, nIc, nI0, nI1, nIo, nIs, nI_add, nIm, nIn0, szl0, szl1, szl2, szl3, szl4, szl5, Nat.add_sub_assoc, Nat.add_zero, Nat.reduceSub, Nat.reduceAdd, Nat.reduceMul, Nat.reduceEqDiff,  jifT, bdS, sifN, sifS, omN, omS, cdI, x25, x26, x27, x28, x29, x30, x31, x32, xr0, xr1, xr2, xr3, xr4, xr5, if_pos, if_neg, true_and, and_true, false_and, and_false, and_self, Bool.and_true, if_true, if_false, reduceIte, cond_true, cond_false, not_true_eq_false, not_false_eq_true, x51, x52, x53, x54, x55, x56, x57, x58, x59, x60, x61, x62, x63, F_165, y1, h5, h30, h27, h26, hk, hz]
  · simp (disch := first | assumption | omega) only [gI, gI2, gL, gL1, gL2, jcLT, jcGE, jcGT, jcLE, jcEQ, jcNE, dEQ, nIt, lgNE, lgEQ, lgGE, lgLT, lgGT, lgLE, jinT, nIc, nI0, nI1, nIo, nIs, nI_add, nIm, nIn0, szl0, szl1, szl2, szl3, szl4, szl5, Nat.add_sub_assoc, Nat.add_zero, Nat.reduceSub, Nat.reduceAdd, Nat.reduceMul, Nat.reduceEqDiff,  jifT, bdS, sifN, sifS, omN, omS, cdI, x25, x26, x27, x28, x29, x30, x31, x32, xr0, xr1, xr2, xr3, xr4, xr5, if_pos, if_neg, true_and, and_true, false_and, and_false, and_self, Bool.and_true, if_true, if_false, reduceIte, cond_true, cond_false, not_true_eq_false, not_false_eq_true, x51, x52, x53, x54, x55, x56, x57, x58, x59, x60, x61, x62, x63, F_165, y1, h5, h30, h27, h26, hk, hz]
theorem moR.add (h : moR T0 T op) {q : Nat} (hq : q < 1300) (hn : q ∉ op) : op.length < 1300 ∧ moR T0 (mkT T q op.length (suL (clM T0) op + clM T0 q)) (op ++ [q]) := by
  have lt := h.lt
  obtain ⟨⟨a1, a2, a3, a4⟩, h2, ⟨h3, h4, h5⟩, h6, h7⟩ := h
  have hl : op.length < 1300 := by
    have := nd_len 1300 (q :: op) (List.nodup_cons.mpr ⟨hn, h7⟩) (fun y hy => by
      rcases List.mem_cons.mp hy with rfl | hy
      · exact hq
      · exact lt y hy)
    rw [List.length_cons] at this
    omega
  have ll : (op ++ [q]).length = op.length + 1 := by rw [List.length_append]; rfl
  refine ⟨hl, ⟨fun t i j x y z => ?_, a2, fun i j k hk => ?_, fun k x y z => ?_⟩, fun k hk => ?_, ⟨?_, ?_, ?_⟩, fun i x hx => ?_, ?_⟩
  · unfold mkT
    rw [siI_ne _ _ _ (by omega), siI_ne _ _ _ (by omega), siI_ne _ _ _ (by omega), siI_ne _ _ _ (by omega), siI_ne _ _ _ (by omega)]
    exact a1 t i j x y z
  · unfold mkT
    rw [siI_ne _ _ _ (by omega), siI_ne _ _ _ (by omega), siI_ne _ _ _ (by omega), siI_ne _ _ _ (by omega), gI, if_neg (by omega)]
    exact a3 i j k hk
  · unfold mkT
    rw [gI, if_neg (by omega), siI_ne _ _ _ (by omega), gI, if_neg (by omega), gI, if_neg (by omega), siI_ne _ _ _ (by omega)]
    exact a4 k x y z
  · unfold mkT
    rw [siI_ne _ _ _ (by omega), siI_ne _ _ _ (by omega), siI_ne _ _ _ (by omega), siI_ne _ _ _ (by omega), gI]
    by_cases c : k = q
    · subst c
      rw [if_pos ⟨rfl, rfl, rfl, rfl⟩, if_pos (List.mem_append.mpr (Or.inr (List.mem_singleton.mpr rfl)))]
    · rw [if_neg (by omega), h2 k hk]
      congr 1
      by_cases c2 : k ∈ op
      · rw [if_pos c2, if_pos (List.mem_append.mpr (Or.inl c2))]
      · rw [if_neg c2, if_neg (fun z => by
          rcases List.mem_append.mp z with z | z
          · exact c2 z
          · exact c (List.mem_singleton.mp z))]
  · rw [ll]
    exact siI_at _ _ _ _ _ _
  · unfold mkT
    rw [ll, gI, if_neg (by omega), siI_ne _ _ _ (by omega), gI, if_neg (by omega), siI_at]
  · unfold mkT
    rw [gI, if_neg (by omega), siI_ne _ _ _ (by omega), siI_at]
    congr 1
    unfold suL
    rw [List.map_append, List.sum_append]
    show _ = _ + (clM T0 q + 0)
    omega
  · rw [List.getElem?_append] at hx
    unfold mkT
    rw [siI_ne _ _ _ (by omega), gI]
    by_cases c : i < op.length
    · rw [if_pos c] at hx
      rw [if_neg (by omega), siI_ne _ _ _ (by omega), siI_ne _ _ _ (by omega), siI_ne _ _ _ (by omega)]
      exact h6 i x hx
    · rw [if_neg c] at hx
      by_cases c2 : i = op.length
      · subst c2
        rw [Nat.sub_self] at hx
        have : q = x := Option.some.inj hx
        subst this
        rw [if_pos ⟨rfl, rfl, rfl, rfl⟩]
        exact ⟨rfl, hq⟩
      · obtain ⟨z, hz⟩ : ∃ z, i - op.length = z + 1 := ⟨i - op.length - 1, by omega⟩
        rw [hz] at hx
        cases hx
  · rw [List.nodup_append]
    refine ⟨h7, List.nodup_cons.mpr ⟨List.not_mem_nil, List.nodup_nil⟩, fun a ha b hb => ?_⟩
    rw [List.mem_singleton] at hb
    subst hb
    exact fun z => hn (z ▸ ha)
/-! what the reference must know of the objects -/
def mkO (φ : Nat → Nat) (D : Nat → Prop) (T0 : sS) : Prop := ∀ x, D x → φ x < 1300 ∧ ∃ kd z, (kd = 2 ∨ kd = 3) ∧ z ≤ 16 ∧ T0.1 51 (φ x) 0 0 = nI kd ∧ T0.1 51 (φ x) 0 1 = nI z
/-! one value -/
theorem e166 {x v : Int64} {g kk : Int32} (hO : mkO φ D T0) (h : moR T0 T op) (hv : vr φ D x g kk v) (hE : ∀ h, D h → h < 600) : ∃ T' op', F_166 G t kk v T = some ((), T') ∧ moR T0 T' op' ∧ moX op op' (fun k => ∃ h, D h ∧ g = nI (h + 2) ∧ k = φ h) := by
  rcases hv with ⟨e1, e2, _⟩ | ⟨e1, e2, _⟩ | ⟨y, hy, e1, e2, _, e3⟩
  · subst e1 e2
    exact ⟨T, op, e166n (by omega), h, moX.refl (fun k ⟨y, hy, e, _⟩ => by
      have h6 := hE y hy
      have := (nI_eq (by omega) (by omega)).mp e
      omega)⟩
  · subst e1 e2
    exact ⟨T, op, e166n (by omega), h, moX.refl (fun k ⟨y, hy, e, _⟩ => by
      have h6 := hE y hy
      have := (nI_eq (by omega) (by omega)).mp e
      omega)⟩
  · subst e1 e2 e3
    have y6 := hE y hy
    obtain ⟨b1, kd, z, b2, b3, b4, b5⟩ := hO y hy
    have hR : ∀ k, (∃ h, D h ∧ nI (y + 2) = nI (h + 2) ∧ k = φ h) ↔ k = φ y := fun k => by
      constructor
      · rintro ⟨h', hh', e, rfl⟩
        have h6 := hE h' hh'
        have := (nI_eq (by omega) (by omega)).mp e
        have : h' = y := by omega
        rw [this]
      · intro e
        exact ⟨y, hy, rfl, e⟩
    have h5 := h.2.1 (φ y) b1
    by_cases c : φ y ∈ op
    · rw [if_pos c] at h5
      exact ⟨T, op, e166o b1 h5, h, ⟨⟨[], (List.append_nil op).symm⟩, fun k => by
        refine Iff.trans ?_ (or_congr Iff.rfl (hR k).symm)
        exact ⟨Or.inl, fun z => z.elim id (fun z => by rw [z]; exact c)⟩⟩⟩
    · rw [if_neg c] at h5
      obtain ⟨hl, ha⟩ := h.add b1 c
      have hcl : clM T0 (φ y) = kd + z := by
        unfold clM
        rw [b4, b5, nI_clamp (by omega)]
        rcases b2 with rfl | rfl
        · rw [if_pos rfl]
        · rw [if_neg (fun q => by
            have := (nI_eq (by omega) (by omega)).mp q
            omega)]
      rw [hcl] at ha
      obtain ⟨⟨_, _, a3, _⟩, _, ⟨g1, g2, g3⟩, _⟩ := h
      refine ⟨_, _, e166a b1 hl h5 g1 g2 g3 (by rw [a3 _ _ 0 (by omega)]; exact b4) b2 (by rw [a3 _ _ 1 (by omega)]; exact b5), ha, ⟨⟨[φ y], rfl⟩, fun k => ?_⟩⟩
      refine Iff.trans ?_ (or_congr Iff.rfl (hR k).symm)
      rw [List.mem_append, List.mem_singleton]
set_option maxHeartbeats 4000000 in
set_option linter.unusedSimpArgs false in
theorem l_167g {xf : Nat → Int64} {gf : Nat → Int32} (hO : mkO φ D T0) (hE : ∀ h, D h → h < 600) (hn : n = 16) (hv : ∀ i, i < n → vr φ D (xf i) (gf i) (T0.1 36 0 0 i) (T0.2.1 43 0 0 i)) : ∀ j k tt T op, k + j = n → j < tt → moR T0 T op → ∃ T' op', F_167_42 G t tt (nI k) T = F_167_72 G t t (nI 0) T' ∧ moR T0 T' op' ∧ moX op op' (fun q => ∃ i h, k ≤ i ∧ i < n ∧ D h ∧ gf i = nI (h + 2) ∧ q = φ h) := by
  intro j
  induction j with
  | zero =>
    intro k tt T op h1 h2 h
    obtain ⟨u, rfl⟩ : ∃ u, tt = u + 1 := ⟨tt - 1, by omega⟩
    refine ⟨T, op, ?_, h, moX.refl (fun q ⟨i, x, a, b, _⟩ => by omega)⟩
    obtain ⟨⟨a1, a2, a3, a4⟩, _⟩ := h
    have hn2 := hn
    clear hv hO hE a1 a2 a3 a4
    rw [F_167_42]
    simp (disch := first | assumption | omega) only [gI, gI2, gL, gL1, gL2, jcLT, jcGE, jcGT, jcLE, jcEQ, jcNE, dEQ, nIt, lgNE, lgEQ, lgGE, lgLT, lgGT, lgLE, jinT, nIc, nI0, nI1, nIo, nIs, nI_add, nIm, nIn0, szl0, szl1, szl2, szl3, szl4, szl5, Nat.add_sub_assoc, Nat.add_zero, Nat.reduceSub, Nat.reduceAdd, Nat.reduceMul, Nat.reduceEqDiff,  jifT, bdS, sifN, sifS, omN, omS, cdI, x25, x26, x27, x28, x29, x30, x31, x32, xr0, xr1, xr2, xr3, xr4, xr5, if_pos, if_neg, true_and, and_true, false_and, and_false, and_self, Bool.and_true, if_true, if_false, reduceIte, cond_true, cond_false, not_true_eq_false, not_false_eq_true, x51, x52, x53, x54, x55, x56, x57, x58, x59, x60, x61, x62, x63]
  | succ j ih =>
    intro k tt T op h1 h2 h
    obtain ⟨u, rfl⟩ : ∃ u, tt = u + 1 := ⟨tt - 1, by omega⟩
    obtain ⟨T1, op1, c1, c2, c3⟩ := e166 (G := G) (t := t) hO h (hv k (by omega)) hE
    obtain ⟨T', op', d1, d2, d3⟩ := ih (k + 1) u T1 op1 (by omega) (by omega) c2
    refine ⟨T', op', ?_, d2, (c3.trans d3).iff (fun q => ?_)⟩
    · rw [← d1]
      obtain ⟨⟨a1, a2, a3, a4⟩, _⟩ := h
      have hn2 := hn
      have e1 : T.1 36 0 0 k = T0.1 36 0 0 k := by rw [a1 _ _ _ (by omega) (by omega) (by omega)]
      have e2 : T.2.1 43 0 0 k = T0.2.1 43 0 0 k := by rw [a2]
      clear hv hO hE a1 a2 a3 a4 c2 c3 d1 d2 d3 ih
      rw [F_167_42]
      simp (disch := first | assumption | omega) only [gI, gI2, gL, gL1, gL2, jcLT, jcGE, jcGT, jcLE, jcEQ, jcNE, dEQ, nIt, lgNE, lgEQ, lgGE, lgLT, lgGT, lgLE, jinT, nIc, nI0, nI1, nIo, nIs, nI_add, nIm, nIn0, szl0, szl1, szl2, szl3, szl4, szl5, Nat.add_sub_assoc, Nat.add_zero, Nat.reduceSub, Nat.reduceAdd, Nat.reduceMul, Nat.reduceEqDiff,  jifT, bdS, sifN, sifS, omN, omS, cdI, x25, x26, x27, x28, x29, x30, x31, x32, xr0, xr1, xr2, xr3, xr4, xr5, if_pos, if_neg, true_and, and_true, false_and, and_false, and_self, Bool.and_true, if_true, if_false, reduceIte, cond_true, cond_false, not_true_eq_false, not_false_eq_true, x51, x52, x53, x54, x55, x56, x57, x58, x59, x60, x61, x62, x63, e1, e2, c1]
    · constructor
      · rintro (⟨x, q1, q2, q3⟩ | ⟨i, x, q1, q2, q3⟩)
        · exact ⟨k, x, Nat.le_refl _, by omega, q1, q2, q3⟩
        · exact ⟨i, x, by omega, q2, q3⟩
      · rintro ⟨i, x, q1, q2, q3, q4, q5⟩
        by_cases c : i = k
        · subst c
          exact Or.inl ⟨x, q3, q4, q5⟩
        · exact Or.inr ⟨i, x, by omega, q2, q3, q4, q5⟩
set_option maxHeartbeats 4000000 in
set_option linter.unusedSimpArgs false in
theorem l_167l {k72 : Int32 → sS → Option (Unit × sS)} {k80 : Int32 → Int32 → sS → Option (Unit × sS)} {xf : Nat → Int64} {gf : Nat → Int32} {v1 v2 : Int32} (hO : mkO φ D T0) (hE : ∀ h, D h → h < 600) (hs : s < 16) (hd : d < 30) (hf : f < 32) (h56 : T0.1 56 s d 0 = nI f) (h38 : T0.1 38 0 0 f = nI n) (hn : n ≤ 12) (hv : ∀ i, i < n → vr φ D (xf i) (gf i) (T0.1 57 s d i) (T0.2.1 61 s d i)) : ∀ j k tt T op, k + j = n → j < tt → moR T0 T op → ∃ T' op', F_167_108 G t k72 k80 tt v1 v2 (s, d) (nI k) T = F_167_149 G t k72 k80 t v1 v2 (s, d) (nI 0) T' ∧ moR T0 T' op' ∧ moX op op' (fun q => ∃ i h, k ≤ i ∧ i < n ∧ D h ∧ gf i = nI (h + 2) ∧ q = φ h) := by
  intro j
  induction j with
  | zero =>
    intro k tt T op h1 h2 h
    obtain ⟨u, rfl⟩ : ∃ u, tt = u + 1 := ⟨tt - 1, by omega⟩
    refine ⟨T, op, ?_, h, moX.refl (fun q ⟨i, x, a, b, _⟩ => by omega)⟩
    obtain ⟨⟨a1, a2, a3, a4⟩, _⟩ := h
    have r0 : T.1 56 s d 0 = nI f := by rw [a1 _ _ _ (by omega) (by omega) (by omega)]; exact h56
    have r1 : T.1 38 0 0 f = nI n := by rw [a1 _ _ _ (by omega) (by omega) (by omega)]; exact h38
    clear hv hO hE a1 a2 a3 a4
    rw [F_167_108]
    simp (disch := first | assumption | omega) only [gI, gI2, gL, gL1, gL2, jcLT, jcGE, jcGT, jcLE, jcEQ, jcNE, dEQ, nIt, lgNE, lgEQ, lgGE, lgLT, lgGT, lgLE, jinT, nIc, nI0, nI1, nIo, nIs, nI_add, nIm, nIn0, szl0, szl1, szl2, szl3, szl4, szl5, Nat.add_sub_assoc, Nat.add_zero, Nat.reduceSub, Nat.reduceAdd, Nat.reduceMul, Nat.reduceEqDiff,  jifT, bdS, sifN, sifS, omN, omS, cdI, x25, x26, x27, x28, x29, x30, x31, x32, xr0, xr1, xr2, xr3, xr4, xr5, if_pos, if_neg, true_and, and_true, false_and, and_false, and_self, Bool.and_true, if_true, if_false, reduceIte, cond_true, cond_false, not_true_eq_false, not_false_eq_true, x51, x52, x53, x54, x55, x56, x57, x58, x59, x60, x61, x62, x63, r0, r1]
  | succ j ih =>
    intro k tt T op h1 h2 h
    obtain ⟨u, rfl⟩ : ∃ u, tt = u + 1 := ⟨tt - 1, by omega⟩
    obtain ⟨T1, op1, c1, c2, c3⟩ := e166 (G := G) (t := t) hO h (hv k (by omega)) hE
    obtain ⟨T', op', d1, d2, d3⟩ := ih (k + 1) u T1 op1 (by omega) (by omega) c2
    refine ⟨T', op', ?_, d2, (c3.trans d3).iff (fun q => ?_)⟩
    · rw [← d1]
      obtain ⟨⟨a1, a2, a3, a4⟩, _⟩ := h
      have r0 : T.1 56 s d 0 = nI f := by rw [a1 _ _ _ (by omega) (by omega) (by omega)]; exact h56
      have r1 : T.1 38 0 0 f = nI n := by rw [a1 _ _ _ (by omega) (by omega) (by omega)]; exact h38
      have e1 : T.1 57 s d k = T0.1 57 s d k := by rw [a1 _ _ _ (by omega) (by omega) (by omega)]
      have e2 : T.2.1 61 s d k = T0.2.1 61 s d k := by rw [a2]
      clear hv hO hE a1 a2 a3 a4 c2 c3 d1 d2 d3 ih
      rw [F_167_108]
      simp (disch := first | assumption | omega) only [gI, gI2, gL, gL1, gL2, jcLT, jcGE, jcGT, jcLE, jcEQ, jcNE, dEQ, nIt, lgNE, lgEQ, lgGE, lgLT, lgGT, lgLE, jinT, nIc, nI0, nI1, nIo, nIs, nI_add, nIm, nIn0, szl0, szl1, szl2, szl3, szl4, szl5, Nat.add_sub_assoc, Nat.add_zero, Nat.reduceSub, Nat.reduceAdd, Nat.reduceMul, Nat.reduceEqDiff,  jifT, bdS, sifN, sifS, omN, omS, cdI, x25, x26, x27, x28, x29, x30, x31, x32, xr0, xr1, xr2, xr3, xr4, xr5, if_pos, if_neg, true_and, and_true, false_and, and_false, and_self, Bool.and_true, if_true, if_false, reduceIte, cond_true, cond_false, not_true_eq_false, not_false_eq_true, x51, x52, x53, x54, x55, x56, x57, x58, x59, x60, x61, x62, x63, r0, r1, e1, e2, c1]
    · constructor
      · rintro (⟨x, q1, q2, q3⟩ | ⟨i, x, q1, q2, q3⟩)
        · exact ⟨k, x, Nat.le_refl _, by omega, q1, q2, q3⟩
        · exact ⟨i, x, by omega, q2, q3⟩
      · rintro ⟨i, x, q1, q2, q3, q4, q5⟩
        by_cases c : i = k
        · subst c
          exact Or.inl ⟨x, q3, q4, q5⟩
        · exact Or.inr ⟨i, x, by omega, q2, q3, q4, q5⟩
set_option maxHeartbeats 4000000 in
set_option linter.unusedSimpArgs false in
theorem l_167o {k72 : Int32 → sS → Option (Unit × sS)} {k80 : Int32 → Int32 → sS → Option (Unit × sS)} {xf : Nat → Int64} {gf : Nat → Int32} {v1 v2 : Int32} (hO : mkO φ D T0) (hE : ∀ h, D h → h < 600) (hs : s < 16) (hd : d < 30) (h56 : T0.1 56 s d 2 = nI n) (hn : n ≤ 16) (hv : ∀ i, i < n → vr φ D (xf i) (gf i) (T0.1 58 s d i) (T0.2.1 62 s d i)) : ∀ j k tt T op, k + j = n → j < tt → moR T0 T op → ∃ T' op', F_167_149 G t k72 k80 tt v1 v2 (s, d) (nI k) T = F_167_185 G t k72 k80 t v1 v2 (s, d) (nI 0) T' ∧ moR T0 T' op' ∧ moX op op' (fun q => ∃ i h, k ≤ i ∧ i < n ∧ D h ∧ gf i = nI (h + 2) ∧ q = φ h) := by
  intro j
  induction j with
  | zero =>
    intro k tt T op h1 h2 h
    obtain ⟨u, rfl⟩ : ∃ u, tt = u + 1 := ⟨tt - 1, by omega⟩
    refine ⟨T, op, ?_, h, moX.refl (fun q ⟨i, x, a, b, _⟩ => by omega)⟩
    obtain ⟨⟨a1, a2, a3, a4⟩, _⟩ := h
    have r0 : T.1 56 s d 2 = nI n := by rw [a1 _ _ _ (by omega) (by omega) (by omega)]; exact h56
    clear hv hO hE a1 a2 a3 a4
    rw [F_167_149]
    simp (disch := first | assumption | omega) only [gI, gI2, gL, gL1, gL2, jcLT, jcGE, jcGT, jcLE, jcEQ, jcNE, dEQ, nIt, lgNE, lgEQ, lgGE, lgLT, lgGT, lgLE, jinT, nIc, nI0, nI1, nIo, nIs, nI_add, nIm, nIn0, szl0, szl1, szl2, szl3, szl4, szl5, Nat.add_sub_assoc, Nat.add_zero, Nat.reduceSub, Nat.reduceAdd, Nat.reduceMul, Nat.reduceEqDiff,  jifT, bdS, sifN, sifS, omN, omS, cdI, x25, x26, x27, x28, x29, x30, x31, x32, xr0, xr1, xr2, xr3, xr4, xr5, if_pos, if_neg, true_and, and_true, false_and, and_false, and_self, Bool.and_true, if_true, if_false, reduceIte, cond_true, cond_false, not_true_eq_false, not_false_eq_true, x51, x52, x53, x54, x55, x56, x57, x58, x59, x60, x61, x62, x63, r0]
  | succ j ih =>
    intro k tt T op h1 h2 h
    obtain ⟨u, rfl⟩ : ∃ u, tt = u + 1 := ⟨tt - 1, by omega⟩
    obtain ⟨T1, op1, c1, c2, c3⟩ := e166 (G := G) (t := t) hO h (hv k (by omega)) hE
    obtain ⟨T', op', d1, d2, d3⟩ := ih (k + 1) u T1 op1 (by omega) (by omega) c2
    refine ⟨T', op', ?_, d2, (c3.trans d3).iff (fun q => ?_)⟩
    · rw [← d1]
      obtain ⟨⟨a1, a2, a3, a4⟩, _⟩ := h
      have r0 : T.1 56 s d 2 = nI n := by rw [a1 _ _ _ (by omega) (by omega) (by omega)]; exact h56
      have e1 : T.1 58 s d k = T0.1 58 s d k := by rw [a1 _ _ _ (by omega) (by omega) (by omega)]
      have e2 : T.2.1 62 s d k = T0.2.1 62 s d k := by rw [a2]
      clear hv hO hE a1 a2 a3 a4 c2 c3 d1 d2 d3 ih
      rw [F_167_149]
      simp (disch := first | assumption | omega) only [gI, gI2, gL, gL1, gL2, jcLT, jcGE, jcGT, jcLE, jcEQ, jcNE, dEQ, nIt, lgNE, lgEQ, lgGE, lgLT, lgGT, lgLE, jinT, nIc, nI0, nI1, nIo, nIs, nI_add, nIm, nIn0, szl0, szl1, szl2, szl3, szl4, szl5, Nat.add_sub_assoc, Nat.add_zero, Nat.reduceSub, Nat.reduceAdd, Nat.reduceMul, Nat.reduceEqDiff,  jifT, bdS, sifN, sifS, omN, omS, cdI, x25, x26, x27, x28, x29, x30, x31, x32, xr0, xr1, xr2, xr3, xr4, xr5, if_pos, if_neg, true_and, and_true, false_and, and_false, and_self, Bool.and_true, if_true, if_false, reduceIte, cond_true, cond_false, not_true_eq_false, not_false_eq_true, x51, x52, x53, x54, x55, x56, x57, x58, x59, x60, x61, x62, x63, r0, e1, e2, c1]
    · constructor
      · rintro (⟨x, q1, q2, q3⟩ | ⟨i, x, q1, q2, q3⟩)
        · exact ⟨k, x, Nat.le_refl _, by omega, q1, q2, q3⟩
        · exact ⟨i, x, by omega, q2, q3⟩
      · rintro ⟨i, x, q1, q2, q3, q4, q5⟩
        by_cases c : i = k
        · subst c
          exact Or.inl ⟨x, q3, q4, q5⟩
        · exact Or.inr ⟨i, x, by omega, q2, q3, q4, q5⟩
set_option maxHeartbeats 4000000 in
set_option linter.unusedSimpArgs false in
theorem l_167v {k252 : Int32 → sS → Option (Unit × sS)} {xf : Nat → Int64} {gf : Nat → Int32} {v1 : Nat} {q0 : Nat} (hO : mkO φ D T0) (hE : ∀ h, D h → h < 600) (hq0 : q0 < 1300) (hv1 : v1 < 1300) (hn : n ≤ 16) (hv : ∀ i, i < n → vr φ D (xf i) (gf i) (T0.1 52 q0 0 i) (T0.2.1 53 q0 0 i)) : ∀ j k tt T op, k + j = n → j < tt → moR T0 T op → ∃ T' op', F_167_295 G t k252 tt (nI v1) (q0, 0) (nI n) (nI k) T = k252 (nI (v1 + 1)) T' ∧ moR T0 T' op' ∧ moX op op' (fun q => ∃ i h, k ≤ i ∧ i < n ∧ D h ∧ gf i = nI (h + 2) ∧ q = φ h) := by
  intro j
  induction j with
  | zero =>
    intro k tt T op h1 h2 h
    obtain ⟨u, rfl⟩ : ∃ u, tt = u + 1 := ⟨tt - 1, by omega⟩
    refine ⟨T, op, ?_, h, moX.refl (fun q ⟨i, x, a, b, _⟩ => by omega)⟩
    obtain ⟨⟨a1, a2, a3, a4⟩, _⟩ := h
    have hn2 := hn
    clear hv hO hE a1 a2 a3 a4
    rw [F_167_295]
    simp (disch := first | assumption | omega) only [gI, gI2, gL, gL1, gL2, jcLT, jcGE, jcGT, jcLE, jcEQ, jcNE, dEQ, nIt, lgNE, lgEQ, lgGE, lgLT, lgGT, lgLE, jinT, nIc, nI0, nI1, nIo, nIs, nI_add, nIm, nIn0, szl0, szl1, szl2, szl3, szl4, szl5, Nat.add_sub_assoc, Nat.add_zero, Nat.reduceSub, Nat.reduceAdd, Nat.reduceMul, Nat.reduceEqDiff,  jifT, bdS, sifN, sifS, omN, omS, cdI, x25, x26, x27, x28, x29, x30, x31, x32, xr0, xr1, xr2, xr3, xr4, xr5, if_pos, if_neg, true_and, and_true, false_and, and_false, and_self, Bool.and_true, if_true, if_false, reduceIte, cond_true, cond_false, not_true_eq_false, not_false_eq_true, x51, x52, x53, x54, x55, x56, x57, x58, x59, x60, x61, x62, x63]
  | succ j ih =>
    intro k tt T op h1 h2 h
    obtain ⟨u, rfl⟩ : ∃ u, tt = u + 1 := ⟨tt - 1, by omega⟩
    obtain ⟨T1, op1, c1, c2, c3⟩ := e166 (G := G) (t := t) hO h (hv k (by omega)) hE
    obtain ⟨T', op', d1, d2, d3⟩ := ih (k + 1) u T1 op1 (by omega) (by omega) c2
    refine ⟨T', op', ?_, d2, (c3.trans d3).iff (fun q => ?_)⟩
    · rw [← d1]
      obtain ⟨⟨a1, a2, a3, a4⟩, _⟩ := h
      have hn2 := hn
      have e1 : T.1 52 q0 0 k = T0.1 52 q0 0 k := by rw [a1 _ _ _ (by omega) (by omega) (by omega)]
      have e2 : T.2.1 53 q0 0 k = T0.2.1 53 q0 0 k := by rw [a2]
      clear hv hO hE a1 a2 a3 a4 c2 c3 d1 d2 d3 ih
      rw [F_167_295]
      simp (disch := first | assumption | omega) only [gI, gI2, gL, gL1, gL2, jcLT, jcGE, jcGT, jcLE, jcEQ, jcNE, dEQ, nIt, lgNE, lgEQ, lgGE, lgLT, lgGT, lgLE, jinT, nIc, nI0, nI1, nIo, nIs, nI_add, nIm, nIn0, szl0, szl1, szl2, szl3, szl4, szl5, Nat.add_sub_assoc, Nat.add_zero, Nat.reduceSub, Nat.reduceAdd, Nat.reduceMul, Nat.reduceEqDiff,  jifT, bdS, sifN, sifS, omN, omS, cdI, x25, x26, x27, x28, x29, x30, x31, x32, xr0, xr1, xr2, xr3, xr4, xr5, if_pos, if_neg, true_and, and_true, false_and, and_false, and_self, Bool.and_true, if_true, if_false, reduceIte, cond_true, cond_false, not_true_eq_false, not_false_eq_true, x51, x52, x53, x54, x55, x56, x57, x58, x59, x60, x61, x62, x63, e1, e2, c1]
    · constructor
      · rintro (⟨x, q1, q2, q3⟩ | ⟨i, x, q1, q2, q3⟩)
        · exact ⟨k, x, Nat.le_refl _, by omega, q1, q2, q3⟩
        · exact ⟨i, x, by omega, q2, q3⟩
      · rintro ⟨i, x, q1, q2, q3, q4, q5⟩
        by_cases c : i = k
        · subst c
          exact Or.inl ⟨x, q3, q4, q5⟩
        · exact Or.inr ⟨i, x, by omega, q2, q3, q4, q5⟩
set_option maxHeartbeats 4000000 in
set_option linter.unusedSimpArgs false in
theorem l_167d {k72 : Int32 → sS → Option (Unit × sS)} {k80 : Int32 → Int32 → sS → Option (Unit × sS)} {xf : Nat → Int64} {gf : Nat → Int32} {v1 v2 : Int32} (hO : mkO φ D T0) (hE : ∀ h, D h → h < 600) (hs : s < 16) (hd : d < 30) (h56 : T0.1 56 s d 3 = nI n) (hn : n ≤ 6) (hv : ∀ i, i < n → vr φ D (xf i) (gf i) (T0.1 59 s d i) (T0.2.1 63 s d i)) : ∀ j k tt T op, k + j = n → j < tt → moR T0 T op → ∃ T' op', F_167_185 G t k72 k80 tt v1 v2 (s, d) (nI k) T = F_167_185 G t k72 k80 1 v1 v2 (s, d) (nI n) T' ∧ moR T0 T' op' ∧ moX op op' (fun q => ∃ i h, k ≤ i ∧ i < n ∧ D h ∧ gf i = nI (h + 2) ∧ q = φ h) := by
  intro j
  induction j with
  | zero =>
    intro k tt T op h1 h2 h
    obtain ⟨u, rfl⟩ : ∃ u, tt = u + 1 := ⟨tt - 1, by omega⟩
    refine ⟨T, op, ?_, h, moX.refl (fun q ⟨i, x, a, b, _⟩ => by omega)⟩
    obtain ⟨⟨a1, a2, a3, a4⟩, _⟩ := h
    have r0 : T.1 56 s d 3 = nI n := by rw [a1 _ _ _ (by omega) (by omega) (by omega)]; exact h56
    have ek : k = n := by omega
    subst ek
    clear hv hO hE a1 a2 a3 a4
    rw [F_167_185, F_167_185]
    simp (disch := first | assumption | omega) only [gI, gI2, gL, gL1, gL2, jcLT, jcGE, jcGT, jcLE, jcEQ, jcNE, dEQ, nIt, lgNE, lgEQ, lgGE, lgLT, lgGT, lgLE, jinT, nIc, nI0, nI1, nIo, nIs, nI_add, nIm, nIn0, szl0, szl1, szl2, szl3, szl4, szl5, Nat.add_sub_assoc, Nat.add_zero, Nat.reduceSub, Nat.reduceAdd, Nat.reduceMul, Nat.reduceEqDiff,  jifT, bdS, sifN, sifS, omN, omS, cdI, x25, x26, x27, x28, x29, x30, x31, x32, xr0, xr1, xr2, xr3, xr4, xr5, if_pos, if_neg, true_and, and_true, false_and, and_false, and_self, Bool.and_true, if_true, if_false, reduceIte, cond_true, cond_false, not_true_eq_false, not_false_eq_true, x51, x52, x53, x54, x55, x56, x57, x58, x59, x60, x61, x62, x63, r0]
  | succ j ih =>
    intro k tt T op h1 h2 h
    obtain ⟨u, rfl⟩ : ∃ u, tt = u + 1 := ⟨tt - 1, by omega⟩
    obtain ⟨T1, op1, c1, c2, c3⟩ := e166 (G := G) (t := t) hO h (hv k (by omega)) hE
    obtain ⟨T', op', d1, d2, d3⟩ := ih (k + 1) u T1 op1 (by omega) (by omega) c2
    refine ⟨T', op', ?_, d2, (c3.trans d3).iff (fun q => ?_)⟩
    · rw [← d1]
      obtain ⟨⟨a1, a2, a3, a4⟩, _⟩ := h
      have r0 : T.1 56 s d 3 = nI n := by rw [a1 _ _ _ (by omega) (by omega) (by omega)]; exact h56
      have e1 : T.1 59 s d k = T0.1 59 s d k := by rw [a1 _ _ _ (by omega) (by omega) (by omega)]
      have e2 : T.2.1 63 s d k = T0.2.1 63 s d k := by rw [a2]
      clear hv hO hE a1 a2 a3 a4 c2 c3 d1 d2 d3 ih
      rw [F_167_185]
      simp (disch := first | assumption | omega) only [gI, gI2, gL, gL1, gL2, jcLT, jcGE, jcGT, jcLE, jcEQ, jcNE, dEQ, nIt, lgNE, lgEQ, lgGE, lgLT, lgGT, lgLE, jinT, nIc, nI0, nI1, nIo, nIs, nI_add, nIm, nIn0, szl0, szl1, szl2, szl3, szl4, szl5, Nat.add_sub_assoc, Nat.add_zero, Nat.reduceSub, Nat.reduceAdd, Nat.reduceMul, Nat.reduceEqDiff,  jifT, bdS, sifN, sifS, omN, omS, cdI, x25, x26, x27, x28, x29, x30, x31, x32, xr0, xr1, xr2, xr3, xr4, xr5, if_pos, if_neg, true_and, and_true, false_and, and_false, and_self, Bool.and_true, if_true, if_false, reduceIte, cond_true, cond_false, not_true_eq_false, not_false_eq_true, x51, x52, x53, x54, x55, x56, x57, x58, x59, x60, x61, x62, x63, r0, e1, e2, c1]
    · constructor
      · rintro (⟨x, q1, q2, q3⟩ | ⟨i, x, q1, q2, q3⟩)
        · exact ⟨k, x, Nat.le_refl _, by omega, q1, q2, q3⟩
        · exact ⟨i, x, by omega, q2, q3⟩
      · rintro ⟨i, x, q1, q2, q3, q4, q5⟩
        by_cases c : i = k
        · subst c
          exact Or.inl ⟨x, q3, q4, q5⟩
        · exact Or.inr ⟨i, x, by omega, q2, q3, q4, q5⟩
end MOR
