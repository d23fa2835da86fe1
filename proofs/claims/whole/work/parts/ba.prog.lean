/-! function, code. -/
section PR2
variable {φ φ' : Nat → Nat} {D D' : Nat → Prop} {F N : Nat} {P P' : aP} {S S' T T' T1 : sS} {A : aS} {r s d p f pc n m e b k y g q o F' N' : Nat} {G : jG} {t j : Nat} {a : Int32}
/-! begun: what both know -/
theorem stT.bg (h : stT φ D F N P S T A) : (∃ o, A = A0 o ∧ (∀ h, ¬ D h) ∧ S.1 23 0 0 7 = nI 0 ∧ S.1 8 0 0 5 = -1 ∧ T.1 33 0 0 29 = nI 0) ∨ (jcmp .eq (S.1 23 0 0 7) 0 = false ∧ T.1 33 0 0 29 = nI 1) := by
  rcases h with ⟨w, gc, h1, h2, h3, ⟨o, h4⟩, h5⟩ | ⟨h0, h⟩
  · exact Or.inl ⟨o, h4, h5, h1, h2, h3⟩
  · refine Or.inr ⟨?_, h0⟩
    rcases h with ⟨r, _, _, _, _, _, _, _, h7, _⟩ | ⟨_, _, _, _, h7 | h7 | h7⟩
    · rw [h7]; decide
    · rw [h7]; decide
    · rw [h7]; decide
    · rw [h7]; decide
theorem stT.prog (h : stT φ D F N P S T A) (ho : A = A0 o) (nD : ∀ h, ¬ D h) (e7 : S.1 23 0 0 7 = nI 0) (e5 : S.1 8 0 0 5 = -1) (e29 : T.1 33 0 0 29 = nI 0) (aS : agr (fun t i j => 1 ≤ t ∧ t ≤ 7) S S') (hX : S'.2.2 = S.2.2) (aT : agr (fun t i j => t = 33 ∨ (37 ≤ t ∧ t ≤ 42)) T T') (h33 : ∀ k, k ≠ 13 → k ≠ 14 → k ≠ 25 → T'.1 33 0 0 k = T.1 33 0 0 k) (hL : T'.2 = T.2) (pg : pgR S' T' F' N' P') (pa : pgA F' P') : stT φ D F' N' P' S' T' A := by
  obtain ⟨w, gc⟩ := h.w
  subst ho
  obtain ⟨w2, k2⟩ := w.prog nD aS hX aT (fun k a b d e => h33 k a b d) hL pg pa
  exact Or.inl ⟨w2, gc.keep k2, by rw [(aS 23 0 0 (by omega)).1]; exact e7, by rw [(aS 8 0 0 (by omega)).1]; exact e5, by rw [h33 29 (by omega) (by omega) (by omega)]; exact e29, ⟨_, rfl⟩, nD⟩
set_option maxHeartbeats 4000000 in
set_option linter.unusedSimpArgs false in
theorem c_function (v1 v2 : Int32) : cal (F_130 G t v1 v2) (fun T => to64 (F_136 G t v1 v2 T)) := by
  intro c S T h hc
  obtain ⟨φ, D, F, N, P, A, h1, h2⟩ := id h
  obtain ⟨⟨p1, p2, p3⟩, ⟨n1, n2, n3⟩, pf, pi, pz⟩ := h1.w.1.1.1
  have pa := h1.w.1.1.2
  have e25 : ∀ w0, (siI T 33 0 0 25 (nI w0)).1 33 0 0 25 = nI w0 := fun w0 => siI_at _ _ _ _ _ _
  have BAD : ∀ x e, (x = 0 ∧ e = 1 ∨ x = 1 ∧ e = 2) → F_65 G t v1 v2 S = some (.inr x, sxc S) → F_136 G t v1 v2 T = F_136_46 G t v1 v2 (nI e) T → ∃ e S' v T', F_130 G t v1 v2 S = some (nI e, S') ∧ e ≤ 2 ∧ to64 (F_136 G t v1 v2 T) = some (v, T') ∧ T'.1 33 0 0 25 = nI e ∧ (e = 0 → S'.2.1 64 0 0 0 = v) ∧ topR (c + 1) S' T' ∧ ∀ x, rmR S x → ∃ x', x' ≤ x + 1 ∧ rmR S' x' := fun x e hx a1 a2 => by
    refine cal.ref (e := e) (v := (nI 0).toInt64) h (by omega) ?_ ?_
    · unfold F_130
      rw [a1, bdS]
      rcases hx with ⟨rfl, rfl⟩ | ⟨rfl, rfl⟩
      · rfl
      · rfl
    · rw [a2]
      unfold F_136_46
      rw [e25]
      rcases hx with ⟨rfl, rfl⟩ | ⟨rfl, rfl⟩
      · rfl
      · rfl
  rcases le_or v1 1 (by omega) with c1 | ⟨x, j2, rfl⟩
  · refine BAD 0 1 (by omega) ?_ ?_
    · unfold F_65
      rw [c1, cond_true]
    · unfold F_136 F_136_21
      rw [c1, cond_true]
  · have l1 : jcmp .lt (nI x) 0 = false := by
      show jcmp .lt (nI x) (nI 0) = false
      rw [jcLT (by omega) (by omega)]; exact decide_eq_false (by omega)
    by_cases cx4 : x ≤ 4
    · have l2 : jcmp .gt (nI x) (nI 4) = false := by rw [jcGT (by omega) (by omega)]; exact decide_eq_false (by omega)
      rcases lt_or v2 x j2 with c3 | ⟨y, y1, y2, rfl⟩
      · refine BAD 0 1 (by omega) ?_ ?_
        · unfold F_65
          rw [l1, cond_false, l2, cond_false, c3, cond_true]
        · unfold F_136 F_136_21
          rw [l1, cond_false, l2, cond_false, c3, cond_true]
      · have l3 : jcmp .lt (nI y) (nI x) = false := by rw [jcLT (by omega) (by omega)]; exact decide_eq_false (by omega)
        by_cases cy : y ≤ 12
        · have l4 : jcmp .le (nI y) (nI 12) = true := by rw [jcLE (by omega) (by omega)]; exact decide_eq_true cy
          by_cases cF : F = 32
          · refine BAD 1 2 (by omega) ?_ ?_
            · unfold F_65
              rw [l1, cond_false, l2, cond_false, l3, cond_false, l4, cond_true, p1, jcGE (by omega) (by omega), decide_eq_true (by omega), cond_true]
            · unfold F_136 F_136_41
              rw [l1, cond_false, l2, cond_false, l3, cond_false, l4, cond_true, p2, jcEQ (by omega) (by omega), decide_eq_true cF, cond_true]
          · have l5 : jcmp .ge (nI F) (nI 32) = false := by rw [jcGE (by omega) (by omega)]; exact decide_eq_false (by omega)
            have l6 : jcmp .eq (nI F) (nI 32) = false := by rw [jcEQ (by omega) (by omega)]; exact decide_eq_false cF
            rcases h1.bg with ⟨o, hA, nD, e7, e5, e29⟩ | ⟨e7, e29⟩
            · have eC := e_64 (G := G) (t := t) (a := x) (b := y) p1 (by omega) n1
              have eM := e_136 (G := G) (t := t) (a := x) (b := y) p2 (by omega) n2
              have aS : agr (fun t i j => 1 ≤ t ∧ t ≤ 7) S (fnS S F N x y) := agr.i (agr.i (agr.i (agr.i (agr.i (agr.refl _ _) _ _ (by omega)) _ _ (by omega)) _ _ (by omega)) _ _ (by omega)) _ _ (by omega)
              have aT : agr (fun t i j => t = 33 ∨ (37 ≤ t ∧ t ≤ 42)) T (fnT T F N x y) := agr.i (agr.i (agr.i (agr.i (agr.i (agr.i (agr.refl _ _) _ _ (by omega)) _ _ (by omega)) _ _ (by omega)) _ _ (by omega)) _ _ (by omega)) _ _ (by omega)
              have st : stT φ D (F + 1) N (va_up P.1 F x, va_up P.2.1 F y, va_up P.2.2.1 F N, va_up P.2.2.2.1 F 0, P.2.2.2.2) (fnS S F N x y) (fnT T F N x y) A := by
                refine h1.prog hA nD e7 e5 e29 aS rfl aT (fun k a b d => ?_) rfl ?_ ?_
                · unfold fnT
                  simp [gI, a, d]
                · clear h h1 eC eM aS aT BAD
                  refine ⟨⟨?_, ?_, by omega⟩, ⟨?_, ?_, n3⟩, fun f hf => ?_, fun q hq => ?_, fun z => by omega, fun f hf => ?_⟩
                  · unfold fnS; simp [gI]
                  · unfold fnT; simp [gI]
                  · unfold fnS; simp [gI, n1]
                  · unfold fnT; simp [gI, n2]
                  · by_cases cf : f = F
                    · subst cf
                      simp only [va_up_self]
                      refine ⟨⟨?_, ?_, cx4, y1⟩, ⟨?_, ?_, cy⟩, ⟨?_, ?_⟩, ⟨?_, ?_, by omega⟩⟩
                      · unfold fnS; simp [gI]
                      · unfold fnT; simp [gI]
                      · unfold fnS; simp [gI]
                      · unfold fnT; simp [gI]
                      · unfold fnS; simp [gI]
                      · unfold fnT; simp [gI]
                      · unfold fnS; simp [gI]
                      · unfold fnT; simp [gI]
                    · obtain ⟨⟨q1, q2, q3⟩, ⟨q4, q5, q6⟩, ⟨q7, q8⟩, ⟨q9, q10, q11⟩⟩ := pf f (by omega)
                      simp only [va_up_ne _ _ cf]
                      refine ⟨⟨?_, ?_, q3⟩, ⟨?_, ?_, q6⟩, ⟨?_, ?_⟩, ⟨?_, ?_, q11⟩⟩
                      · unfold fnS; simp [gI, cf, q1]
                      · unfold fnT; simp [gI, cf, q2]
                      · unfold fnS; simp [gI, cf, q4]
                      · unfold fnT; simp [gI, cf, q5]
                      · unfold fnS; simp [gI, cf, q7]
                      · unfold fnT; simp [gI, cf, q8]
                      · unfold fnS; simp [gI, cf, q9]
                      · unfold fnT; simp [gI, cf, q10]
                  · obtain ⟨⟨q1, q2, q3⟩, q4, q5⟩ := pi q hq
                    refine ⟨⟨?_, ?_, q3⟩, ?_, ?_⟩
                    · unfold fnS; simp [gI, q1]
                    · unfold fnT; simp [gI, q2]
                    · unfold fnS; simp [gI, q4]
                    · unfold fnT; simp [gI, q5]
                  · have : f = F := by omega
                    subst this
                    simp only [va_up_self]
                    omega
                · intro f hf k hk
                  by_cases cf : f = F
                  · subst cf
                    have hk' : k < va_up P.2.2.2.1 f 0 f := hk
                    rw [va_up_self] at hk'
                    omega
                  · have hk' : k < va_up P.2.2.2.1 F 0 f := hk
                    rw [va_up_ne _ _ cf] at hk'
                    show okI (va_up P.2.1 F y f) (P.2.2.2.2.1 (va_up P.2.2.1 F N f + k)) (P.2.2.2.2.2 (va_up P.2.2.1 F N f + k))
                    rw [va_up_ne _ _ cf, va_up_ne _ _ cf]
                    exact pa f (by omega) k hk'
              refine cal.ok (B := S) (v := (nI F).toInt64) st h2 rfl (by unfold fnT; simp [gI]) ?_ ?_
              · unfold F_130 F_65
                rw [l1, cond_false, l2, cond_false, l3, cond_false, l4, cond_true, p1, l5, cond_false, e7, show jcmp .eq (nI 0) 0 = true from by decide, cond_true, eC, bdS, bdS]
                rfl
              · show to64 (F_136 G t (nI x) (nI y) T) = _
                unfold F_136 to64
                rw [l1, cond_false, l2, cond_false, l3, cond_false, l4, cond_true, p2, l6, cond_false, e29, show jcmp .eq (nI 0) 0 = true from by decide, cond_true, eM, bdS]
            · refine BAD 1 2 (by omega) ?_ ?_
              · unfold F_65
                rw [l1, cond_false, l2, cond_false, l3, cond_false, l4, cond_true, p1, l5, cond_false, e7, cond_false]
              · unfold F_136 F_136_41
                rw [l1, cond_false, l2, cond_false, l3, cond_false, l4, cond_true, p2, l6, cond_false, e29, show jcmp .eq (nI 1) 0 = false from by decide, cond_false]
        · have l4 : jcmp .le (nI y) (nI 12) = false := by rw [jcLE (by omega) (by omega)]; exact decide_eq_false cy
          refine BAD 0 1 (by omega) ?_ ?_
          · unfold F_65
            rw [l1, cond_false, l2, cond_false, l3, cond_false, l4, cond_false]
          · unfold F_136 F_136_21
            rw [l1, cond_false, l2, cond_false, l3, cond_false, l4, cond_false]
    · have l2 : jcmp .gt (nI x) (nI 4) = true := by rw [jcGT (by omega) (by omega)]; exact decide_eq_true (by omega)
      refine BAD 0 1 (by omega) ?_ ?_
      · unfold F_65
        rw [l1, cond_false, l2, cond_true]
      · unfold F_136 F_136_21
        rw [l1, cond_false, l2, cond_true]
end PR2
