/-! strand, operand, kind, as calls. -/
section CA3
variable {φ φ' : Nat → Nat} {D D' : Nat → Prop} {F N : Nat} {P : aP} {S S' T T' T1 : sS} {A : aS} {r s d p f pc n m e b k y g q o : Nat} {G : jG} {t j : Nat} {a : Int32}
theorem c_strand (v1 v2 : Int32) : cal (F_194 G t v1 v2) (fun T => to64 (F_195 G t v1 v2 T)) := by
  intro c S T h hc
  obtain ⟨φ, D, F, N, P, A, h1, h2⟩ := id h
  have e25 : ∀ w0, (siI T 33 0 0 25 (nI w0)).1 33 0 0 25 = nI w0 := fun w0 => siI_at _ _ _ _ _ _
  have eM : ∀ w0, (w0 = 1 ∨ w0 = 2) → F_195_30 G t v1 v2 (nI w0) T = some (nI 0, siI T 33 0 0 25 (nI w0)) := fun w0 hw => by
    unfold F_195_30
    rw [e25]
    rcases hw with rfl | rfl
    · rfl
    · rfl
  have BAD : ∀ x e, (x = 2 ∧ e = 1 ∨ x = 0 ∧ e = 2) → F_124 G t v1 v2 S = some (.inr x, sxc S) → F_195 G t v1 v2 T = F_195_30 G t v1 v2 (nI e) T → ∃ e S' v T', F_194 G t v1 v2 S = some (nI e, S') ∧ e ≤ 2 ∧ to64 (F_195 G t v1 v2 T) = some (v, T') ∧ T'.1 33 0 0 25 = nI e ∧ (e = 0 → S'.2.1 64 0 0 0 = v) ∧ topR (c + 1) S' T' ∧ ∀ x, rmR S x → ∃ x', x' ≤ x + 1 ∧ rmR S' x' := fun x e hx a1 a2 => by
    refine cal.ref (e := e) (v := (nI 0).toInt64) h (by omega) ?_ ?_
    · unfold F_194
      rw [a1, bdS]
      rcases hx with ⟨rfl, rfl⟩ | ⟨rfl, rfl⟩
      · rfl
      · rfl
    · rw [a2, eM e (by omega)]
      rfl
  rcases le_or v1 1 (by omega) with c1 | ⟨s, j2, rfl⟩
  · refine BAD 2 1 (by omega) ?_ ?_
    · unfold F_124
      rw [c1, cond_true]
    · unfold F_195 F_195_11
      rw [c1, cond_true]
  · have l1 : jcmp .lt (nI s) 0 = false := by
      show jcmp .lt (nI s) (nI 0) = false
      rw [jcLT (by omega) (by omega)]; exact decide_eq_false (by omega)
    by_cases hs : s < 16
    · have l2 : jcmp .lt (nI s) (nI 16) = true := by rw [jcLT (by omega) (by omega)]; exact decide_eq_true hs
      rcases le_or v2 1 (by omega) with c3 | ⟨k, k2, rfl⟩
      · refine BAD 0 2 (by omega) ?_ ?_
        · unfold F_124
          rw [l1, cond_false, l2, cond_true, c3, cond_true]
        · unfold F_195 F_195_25
          rw [l1, cond_false, l2, cond_true, c3, cond_true]
      · have l3 : jcmp .lt (nI k) 0 = false := by
          show jcmp .lt (nI k) (nI 0) = false
          rw [jcLT (by omega) (by omega)]; exact decide_eq_false (by omega)
        by_cases hk : k ≤ 6
        · have l4 : jcmp .le (nI k) (nI 6) = true := by rw [jcLE (by omega) (by omega)]; exact decide_eq_true hk
          obtain ⟨v, a1, a2⟩ := e_123 (G := G) (t := t) h1.w.1 hs hk
          refine cal.ok (B := S) (v := v.toInt64) (h1.er (nI 0)) h2 rfl (e25 0) ?_ ?_
          · unfold F_194 F_124
            rw [l1, cond_false, l2, cond_true, l3, cond_false, l4, cond_true, jif_true (jin_N (by omega) (by omega)), nI_clamp (by omega), jif_true (x25 hs), a1, bdS, bdS]
            rfl
          · show to64 (F_195 G t (nI s) (nI k) T) = _
            unfold F_195 to64
            rw [l1, cond_false, l2, cond_true, l3, cond_false, l4, cond_true, a2, bdS]
        · have l4 : jcmp .le (nI k) (nI 6) = false := by rw [jcLE (by omega) (by omega)]; exact decide_eq_false hk
          refine BAD 0 2 (by omega) ?_ ?_
          · unfold F_124
            rw [l1, cond_false, l2, cond_true, l3, cond_false, l4, cond_false]
          · unfold F_195 F_195_25
            rw [l1, cond_false, l2, cond_true, l3, cond_false, l4, cond_false]
    · have l2 : jcmp .lt (nI s) (nI 16) = false := by rw [jcLT (by omega) (by omega)]; exact decide_eq_false hs
      refine BAD 2 1 (by omega) ?_ ?_
      · unfold F_124
        rw [l1, cond_false, l2, cond_false]
      · unfold F_195 F_195_11
        rw [l1, cond_false, l2, cond_false]
/-! where an operand is asked for -/
set_option maxHeartbeats 4000000 in
set_option linter.unusedSimpArgs false in
theorem e_opd (w : wR φ D F N P S T A) (v1 v2 : Int32) : (F_197 G t v1 v2 T = some (nI 0, siI T 33 0 0 25 (nI 1)) ∧ (F_67 G t v1 S = some (none, S) ∨ ∃ s d p n, s < 16 ∧ d < 30 ∧ F_67 G t v1 S = some (some (p, 1), S) ∧ S.2.2.2.1.1 p = true ∧ S.1 29 p 1 2 = nI n ∧ n ≤ 16 ∧ (jcmp .lt v2 0 = true ∨ ∃ j, v2 = nI j ∧ j < 2147483648 ∧ n ≤ j))) ∨
    ∃ s d p n j, v1 = nI s ∧ v2 = nI j ∧ s < 16 ∧ d < 30 ∧ j < n ∧ n ≤ 16 ∧ T.1 54 s 0 1 = nI (d + 1) ∧ S.2.2.2.1.1 p = true ∧ S.1 29 p 1 2 = nI n ∧ T.1 56 s d 2 = nI n ∧ F_67 G t v1 S = some (some (p, 1), S) ∧ F_197 G t v1 v2 T = some (nI 1, siI T 33 0 0 25 (nI 0)) ∧ vr φ D (S.2.1 30 p 1 (n - 1 - j)) (S.1 31 p 1 (n - 1 - j)) (T.1 58 s d (n - 1 - j)) (T.2.1 62 s d (n - 1 - j)) := by
  have e25 : ∀ w0, (siI T 33 0 0 25 (nI w0)).1 33 0 0 25 = nI w0 := fun w0 => siI_at _ _ _ _ _ _
  have e43 : ∀ T : sS, F_197_43 G t T = some (nI 0, siI T 33 0 0 25 (nI 1)) := fun T => by
    unfold F_197_43 F_197_48
    rw [siI_at]
    rfl
  rcases le_or v1 1 (by omega) with c1 | ⟨s, j2, rfl⟩
  · refine Or.inl ⟨?_, Or.inl ?_⟩
    · unfold F_197
      rw [c1, cond_true, e43]
    · unfold F_67
      rw [c1, cond_true]
      rfl
  · have l1 : jcmp .lt (nI s) 0 = false := by
      show jcmp .lt (nI s) (nI 0) = false
      rw [jcLT (by omega) (by omega)]; exact decide_eq_false (by omega)
    by_cases hs : s < 16
    · have l2 : jcmp .ge (nI s) (nI 16) = false := by rw [jcGE (by omega) (by omega)]; exact decide_eq_false (by omega)
      obtain ⟨s1, _, ⟨d1, d2, d3⟩, _, _, _, s7, _⟩ := id (w.2.1 s hs)
      by_cases cd : A.2.1 s = 0
      · rw [cd] at d1 d2
        have e66 := f_66z (G := G) (t := t) hs d1
        have e67 : F_67 G t (nI s) S = some (none, S) := by
          unfold F_67
          rw [l1, cond_false, l2, cond_false, jif_true (jin_N (by omega) (by omega)), nI_clamp (by omega), jif_true (x25 hs), e66, bdS]
          rfl
        refine Or.inl ⟨?_, Or.inl e67⟩
        unfold F_197
        rw [l1, cond_false, l2, cond_false]
        cases c3 : jcmp .lt v2 0 with
        | true => rw [cond_true, e43]
        | false =>
          rw [cond_false, jif_true (jin_N (by omega) (by omega)), nI_clamp (by omega), jif_true (x54 hs), d2, show jcmp .eq (nI 0) 0 = true from by decide, cond_true, e43]
      · obtain ⟨d, hd⟩ : ∃ d, A.2.1 s = d + 1 := ⟨A.2.1 s - 1, by omega⟩
        rw [hd] at d1 d2 d3
        obtain ⟨p, hp, fr⟩ := s7 d (by omega)
        have e66 := f_66 (G := G) (t := t) hs d1 (by omega)
        rw [hp] at e66
        obtain ⟨hM, _, _, ⟨o1, o2, o3, o4⟩, _⟩ := fr
        have e67 : F_67 G t (nI s) S = some (some (p, 1), S) := by
          unfold F_67
          rw [l1, cond_false, l2, cond_false, jif_true (jin_N (by omega) (by omega)), nI_clamp (by omega), jif_true (x25 hs), e66, bdS]
          show jif (sex S.2.2.2.1 27 p 0) _ = _
          rw [jif_true (by rw [x27, hM]; rfl)]
        have dne : jcmp .eq (nI (d + 1)) 0 = false := by
          show jcmp .eq (nI (d + 1)) (nI 0) = false
          rw [jcEQ (by omega) (by omega)]; exact decide_eq_false (by omega)
        have e151 : F_151 G t (s, 0) T = some (some (s, d), T) := by
          unfold F_151
          clear w s7 o4
          simp (disch := first | assumption | omega) only [gI, gI2, gL, gL1, gL2, jcLT, jcGE, jcGT, jcLE, jcEQ, jcNE, dEQ, nIt, lgNE, lgEQ, lgGE, lgLT, lgGT, lgLE, jinT, nIc, nI0, nI1, nIo, nIs, nI_add, nIm, nIn0, szl0, szl1, szl2, szl3, szl4, szl5, Nat.add_sub_assoc, Nat.add_zero, Nat.reduceSub, Nat.reduceAdd, Nat.reduceMul, Nat.reduceEqDiff,  jifT, bdS, sifN, sifS, omN, omS, cdI, x25, x26, x27, x28, x29, x30, x31, x32, xr0, xr1, xr2, xr3, xr4, xr5, if_pos, if_neg, true_and, and_true, false_and, and_false, and_self, Bool.and_true, if_true, if_false, reduceIte, cond_true, cond_false, not_true_eq_false, not_false_eq_true, x51, x52, x53, x54, x55, x56, x57, x58, x59, x60, x61, x62, x63, d2]
        rcases le_or v2 1 (by omega) with c3 | ⟨j, k2, rfl⟩
        · refine Or.inl ⟨?_, Or.inr ⟨s, d, p, _, hs, by omega, e67, hM, o1, o3, Or.inl c3⟩⟩
          unfold F_197
          rw [l1, cond_false, l2, cond_false, c3, cond_true, e43]
        · have l3 : jcmp .lt (nI j) 0 = false := by
            show jcmp .lt (nI j) (nI 0) = false
            rw [jcLT (by omega) (by omega)]; exact decide_eq_false (by omega)
          by_cases cj : j < (A.2.2.1 s d).2.2.1
          · refine Or.inr ⟨s, d, p, _, j, rfl, rfl, hs, by omega, cj, o3, d2, hM, o1, o2, e67, ?_, o4 _ (by omega)⟩
            unfold F_197
            rw [l1, cond_false, l2, cond_false, l3, cond_false, jif_true (jin_N (by omega) (by omega)), nI_clamp (by omega), jif_true (x54 hs), d2, dne, cond_false, jif_true (jin_N (by omega) (by omega)), e151, bdS]
            dsimp only
            rw [bdS, jif_true (x56 hs (by omega)), o2, jcLT (by omega) (by omega), decide_eq_true cj, cond_true]
            unfold F_197_48
            rw [e25]
            rfl
          · refine Or.inl ⟨?_, Or.inr ⟨s, d, p, _, hs, by omega, e67, hM, o1, o3, Or.inr ⟨j, rfl, k2, by omega⟩⟩⟩
            unfold F_197
            rw [l1, cond_false, l2, cond_false, l3, cond_false, jif_true (jin_N (by omega) (by omega)), nI_clamp (by omega), jif_true (x54 hs), d2, dne, cond_false, jif_true (jin_N (by omega) (by omega)), e151, bdS]
            dsimp only
            rw [bdS, jif_true (x56 hs (by omega)), o2, jcLT (by omega) (by omega), decide_eq_false cj, cond_false, e43]
    · have l2 : jcmp .ge (nI s) (nI 16) = true := by rw [jcGE (by omega) (by omega)]; exact decide_eq_true (by omega)
      refine Or.inl ⟨?_, Or.inl ?_⟩
      · unfold F_197
        rw [l1, cond_false, l2, cond_true, e43]
      · unfold F_67
        rw [l1, cond_false, l2, cond_true]
        rfl
set_option maxHeartbeats 4000000 in
set_option linter.unusedSimpArgs false in
theorem c_operand (v1 v2 : Int32) : cal (F_196 G t v1 v2) (F_198 G t v1 v2) := by
  intro c S T h hc
  obtain ⟨φ, D, F, N, P, A, h1, h2⟩ := id h
  rcases e_opd (G := G) (t := t) h1.w.1 v1 v2 with ⟨a1, a2⟩ | ⟨s, d, p, n, j, rfl, rfl, hs, hd, hj, hn, d2, hM, o1, o2, e67, e197, hv⟩
  · refine cal.ref (e := 1) (v := 0) h (by omega) ?_ ?_
    · have e70 : F_70 G t v1 v2 S = some (.inr 2, sxc S) := by
        unfold F_70
        rcases a2 with a2 | ⟨s, d, p, n, _, _, e67, hM, o1, hn, c3⟩
        · rw [a2, bdS]
          rfl
        · rw [e67, bdS]
          dsimp only
          rw [sifS]
          dsimp only
          rcases c3 with c3 | ⟨j, rfl, j2, c3⟩
          · rw [c3, cond_true]
          · have l3 : jcmp .lt (nI j) 0 = false := by
              show jcmp .lt (nI j) (nI 0) = false
              rw [jcLT (by omega) (by omega)]; exact decide_eq_false (by omega)
            rw [l3, cond_false, jif_true (show sex S.2.2.2.1 29 p 1 = true from xr1 hM), o1, jcLT (by omega) (by omega), decide_eq_false (by omega), cond_false]
      unfold F_196
      rw [e70, bdS]
      rfl
    · unfold F_198
      rw [a1, bdS]
      rfl
  · have l3 : jcmp .lt (nI j) 0 = false := by
      show jcmp .lt (nI j) (nI 0) = false
      rw [jcLT (by omega) (by omega)]; exact decide_eq_false (by omega)
    have e26 := f_26 (G := G) (t := t) (S := S) (p := p) (k := 1) (sz := n) (i := n - 1 - j) ⟨xr1 hM, o1, hn⟩ (by omega)
    have es : nI n - nI 1 - nI j = nI (n - 1 - j) := by rw [nIs (by omega), nIs (by omega)]
    have e70 : F_70 G t (nI s) (nI j) S = some (.inl (S.2.1 30 p 1 (n - 1 - j)), S) := by
      unfold F_70
      rw [e67, bdS]
      dsimp only
      rw [sifS]
      dsimp only
      rw [l3, cond_false, jif_true (show sex S.2.2.2.1 29 p 1 = true from xr1 hM), o1, jcLT (by omega) (by omega), decide_eq_true hj, cond_true, es, e26, bdS]
    have e151 : F_151 G t (s, 0) (siI T 33 0 0 25 (nI 0)) = some (some (s, d), siI T 33 0 0 25 (nI 0)) := by
      unfold F_151
      clear h h1 hv e67 e197 e26 e70
      simp (disch := first | assumption | omega) only [gI, gI2, gL, gL1, gL2, jcLT, jcGE, jcGT, jcLE, jcEQ, jcNE, dEQ, nIt, lgNE, lgEQ, lgGE, lgLT, lgGT, lgLE, jinT, nIc, nI0, nI1, nIo, nIs, nI_add, nIm, nIn0, szl0, szl1, szl2, szl3, szl4, szl5, Nat.add_sub_assoc, Nat.add_zero, Nat.reduceSub, Nat.reduceAdd, Nat.reduceMul, Nat.reduceEqDiff,  jifT, bdS, sifN, sifS, omN, omS, cdI, x25, x26, x27, x28, x29, x30, x31, x32, xr0, xr1, xr2, xr3, xr4, xr5, if_pos, if_neg, true_and, and_true, false_and, and_false, and_self, Bool.and_true, if_true, if_false, reduceIte, cond_true, cond_false, not_true_eq_false, not_false_eq_true, x51, x52, x53, x54, x55, x56, x57, x58, x59, x60, x61, x62, x63, d2]
    refine cal.ok (B := S) (v := S.2.1 30 p 1 (n - 1 - j)) (h1.er (nI 0)) h2 rfl (siI_at _ _ _ _ _ _) ?_ ?_
    · unfold F_196
      rw [e70, bdS]
      rfl
    · unfold F_198
      rw [e197, bdS]
      dsimp only
      rw [show jcmp .ne (nI 1) 0 = true from by decide, cond_true, jif_true (jin_N (by omega) (by omega)), nI_clamp (by omega), e151, bdS]
      dsimp only
      rw [bdS, jif_true (x56 hs hd), jif_true (x58 hs hd), siI_ne _ _ _ (by omega), o2, es, jif_true (jin_N (by omega) (by omega)), nI_clamp (by omega), siI_ne _ _ _ (by omega)]
      rcases hv with ⟨g1, g2, g3⟩ | ⟨g1, g2, g3⟩ | ⟨x, _, g1, g2, g3, _⟩
      · rw [g2, show jcmp .ne (nI 0) 0 = false from by decide, cond_false, jif_true (x62 hs hd), jif_true (jin_N (by omega) (by omega)), g3]
        rfl
      · rw [g2, show jcmp .ne (nI 1) 0 = true from by decide, cond_true, g3]
      · rw [g2, show jcmp .ne (nI 2) 0 = true from by decide, cond_true, g3]
set_option maxHeartbeats 4000000 in
set_option linter.unusedSimpArgs false in
theorem c_kind (v1 v2 : Int32) : cal (F_131 G t v1 v2) (fun T => to64 (F_199 G t v1 v2 T)) := by
  intro c S T h hc
  obtain ⟨φ, D, F, N, P, A, h1, h2⟩ := id h
  rcases e_opd (G := G) (t := t) h1.w.1 v1 v2 with ⟨a1, a2⟩ | ⟨s, d, p, n, j, rfl, rfl, hs, hd, hj, hn, d2, hM, o1, o2, e67, e197, hv⟩
  · refine cal.ref (e := 1) (v := (nI 0).toInt64) h (by omega) ?_ ?_
    · have e70 : F_69 G t v1 v2 S = some (.inr 2, sxc S) := by
        unfold F_69
        rcases a2 with a2 | ⟨s, d, p, n, _, _, e67, hM, o1, hn, c3⟩
        · rw [a2, bdS]
          rfl
        · rw [e67, bdS]
          dsimp only
          rw [sifS]
          dsimp only
          rcases c3 with c3 | ⟨j, rfl, j2, c3⟩
          · rw [c3, cond_true]
          · have l3 : jcmp .lt (nI j) 0 = false := by
              show jcmp .lt (nI j) (nI 0) = false
              rw [jcLT (by omega) (by omega)]; exact decide_eq_false (by omega)
            rw [l3, cond_false, jif_true (show sex S.2.2.2.1 29 p 1 = true from xr1 hM), o1, jcLT (by omega) (by omega), decide_eq_false (by omega), cond_false]
      unfold F_131
      rw [e70, bdS]
      rfl
    · show to64 (F_199 G t v1 v2 T) = _
      unfold F_199 to64
      rw [a1, bdS]
      rfl
  · have l3 : jcmp .lt (nI j) 0 = false := by
      show jcmp .lt (nI j) (nI 0) = false
      rw [jcLT (by omega) (by omega)]; exact decide_eq_false (by omega)
    have e27 := f_27 (G := G) (t := t) (S := S) (p := p) (k := 1) (sz := n) (i := n - 1 - j) ⟨xr1 hM, o1, hn⟩ (by omega)
    have es : nI n - nI 1 - nI j = nI (n - 1 - j) := by rw [nIs (by omega), nIs (by omega)]
    have e151 : F_151 G t (s, 0) (siI T 33 0 0 25 (nI 0)) = some (some (s, d), siI T 33 0 0 25 (nI 0)) := by
      unfold F_151
      clear h h1 hv e67 e197 e27
      simp (disch := first | assumption | omega) only [gI, gI2, gL, gL1, gL2, jcLT, jcGE, jcGT, jcLE, jcEQ, jcNE, dEQ, nIt, lgNE, lgEQ, lgGE, lgLT, lgGT, lgLE, jinT, nIc, nI0, nI1, nIo, nIs, nI_add, nIm, nIn0, szl0, szl1, szl2, szl3, szl4, szl5, Nat.add_sub_assoc, Nat.add_zero, Nat.reduceSub, Nat.reduceAdd, Nat.reduceMul, Nat.reduceEqDiff,  jifT, bdS, sifN, sifS, omN, omS, cdI, x25, x26, x27, x28, x29, x30, x31, x32, xr0, xr1, xr2, xr3, xr4, xr5, if_pos, if_neg, true_and, and_true, false_and, and_false, and_self, Bool.and_true, if_true, if_false, reduceIte, cond_true, cond_false, not_true_eq_false, not_false_eq_true, x51, x52, x53, x54, x55, x56, x57, x58, x59, x60, x61, x62, x63, d2]
    have W := h1.w.1
    have K : ∃ kk, F_68 G t (S.1 31 p 1 (n - 1 - j)) S = some (nI kk, S) ∧ F_199 G t (nI s) (nI j) T = some (nI kk, siI T 33 0 0 25 (nI 0)) := by
      have e199 : F_199 G t (nI s) (nI j) T = bif jcmp .ne (T.1 58 s d (n - 1 - j)) (nI 2) then (jif (jin (nI (n - 1 - j)) 16) (some (T.1 58 s d (n - 1 - j), siI T 33 0 0 25 (nI 0)))) else (jif (sex T.2.2.2.1 62 s d) (jif (jin (nI (n - 1 - j)) 16) (jif (jin ((T.2.1 62 s d (n - 1 - j)).toInt32) 1300) (jif (sex T.2.2.2.1 51 (((T.2.1 62 s d (n - 1 - j)).toInt32).toNatClampNeg) 0) (some ((siI T 33 0 0 25 (nI 0)).1 51 (((T.2.1 62 s d (n - 1 - j)).toInt32).toNatClampNeg) 0 0, siI T 33 0 0 25 (nI 0))))))) := by
        unfold F_199
        rw [e197, bdS]
        dsimp only
        rw [show jcmp .ne (nI 1) 0 = true from by decide, cond_true, jif_true (jin_N (by omega) (by omega)), nI_clamp (by omega), e151, bdS]
        dsimp only
        rw [bdS, jif_true (x56 hs hd), jif_true (x58 hs hd)]
        have q56 : (siI T 33 0 0 25 (nI 0)).1 56 s d 2 = nI n := by rw [siI_ne _ _ _ (by omega)]; exact o2
        have q58 : (siI T 33 0 0 25 (nI 0)).1 58 s d (n - 1 - j) = T.1 58 s d (n - 1 - j) := by rw [siI_ne _ _ _ (by omega)]
        rw [q56, es, jif_true (jin_N (by omega) (by omega)), nI_clamp (by omega), q58]
        rfl
      rw [e199]
      rcases hv with ⟨g1, g2, g3⟩ | ⟨g1, g2, g3⟩ | ⟨x, hx, g1, g2, g3, g4⟩
      · refine ⟨0, ?_, ?_⟩
        · rw [g1]
          unfold F_68
          rw [f_58n (by omega), bdS]
          rfl
        · rw [g2, show jcmp .ne (nI 0) (nI 2) = true from by decide, cond_true, jif_true (jin_N (by omega) (by omega))]
      · refine ⟨1, ?_, ?_⟩
        · rw [g1]
          unfold F_68
          rw [f_58n (by omega), bdS]
          rfl
        · rw [g2, show jcmp .ne (nI 1) (nI 2) = true from by decide, cond_true, jif_true (jin_N (by omega) (by omega))]
      · obtain ⟨p', k1, z, w', cc, q1, q2, ⟨q3, q3', q4⟩, _⟩ := W.2.2.2.1 x hx
        obtain ⟨x6, f1⟩ := W.2.2.2.2.1.1 x hx
        refine ⟨k1, ?_, ?_⟩
        · rw [g1]
          unfold F_68
          rw [f_58o x6, q1, bdS]
          show jif (sex S.2.2.2.1 32 p' 0) _ = _
          rw [jif_true (by rw [x32, q2]; rfl), q3]
        · rw [g2, show jcmp .ne (nI 2) (nI 2) = false from by decide, cond_false, jif_true (x62 hs hd), jif_true (jin_N (by omega) (by omega)), g4, ofN32 (by omega), jif_true (jin_N (by omega) (by omega)), nI_clamp (by omega), jif_true (x51 f1), siI_ne _ _ _ (by omega), q3']
    obtain ⟨kk, K1, K2⟩ := K
    have e69 : F_69 G t (nI s) (nI j) S = some (.inl (nI kk), S) := by
      unfold F_69
      rw [e67, bdS]
      dsimp only
      rw [sifS]
      dsimp only
      rw [l3, cond_false, jif_true (show sex S.2.2.2.1 29 p 1 = true from xr1 hM), o1, jcLT (by omega) (by omega), decide_eq_true hj, cond_true, es, e27, bdS]
      dsimp only
      rw [K1, bdS]
    refine cal.ok (B := S) (v := (nI kk).toInt64) (h1.er (nI 0)) h2 rfl (siI_at _ _ _ _ _ _) ?_ ?_
    · unfold F_131
      rw [e69, bdS]
      rfl
    · show to64 (F_199 G t (nI s) (nI j) T) = _
      rw [K2]
      rfl
end CA3
