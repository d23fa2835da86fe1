/-! code, as a call. -/
section PR4
variable {φ φ' : Nat → Nat} {D D' : Nat → Prop} {F N : Nat} {P P' : aP} {S S' T T' T1 : sS} {A : aS} {r s d p f pc n m e b k y g q o F' N' lo : Nat} {G : jG} {t j : Nat} {a : Int32}
set_option maxHeartbeats 4000000 in
set_option linter.unusedSimpArgs false in
theorem c_code (v1 v2 : Int32) : cal (F_128 G t v1 v2) (fun T => to64 (F_139 G t v1 v2 T)) := by
  intro c S T h hc
  obtain ⟨φ, D, F, N, P, A, h1, h2⟩ := id h
  obtain ⟨⟨p1, p2, p3⟩, ⟨n1, n2, n3⟩, pf, pi, pz⟩ := h1.w.1.1.1
  have pa := h1.w.1.1.2
  have e25 : ∀ w0, (siI T 33 0 0 25 (nI w0)).1 33 0 0 25 = nI w0 := fun w0 => siI_at _ _ _ _ _ _
  have BAD : ∀ x e, (x = 0 ∧ e = 1 ∨ x = 1 ∧ e = 2) → F_50 G t v1 v2 S = some (.inr x, sxc S) → F_139 G t v1 v2 T = F_139_57 G t v1 v2 (nI e) T → ∃ e S' v T', F_128 G t v1 v2 S = some (nI e, S') ∧ e ≤ 2 ∧ to64 (F_139 G t v1 v2 T) = some (v, T') ∧ T'.1 33 0 0 25 = nI e ∧ (e = 0 → S'.2.1 64 0 0 0 = v) ∧ topR (c + 1) S' T' ∧ ∀ x, rmR S x → ∃ x', x' ≤ x + 1 ∧ rmR S' x' := fun x e hx a1 a2 => by
    refine cal.ref (e := e) (v := (nI 0).toInt64) h (by omega) ?_ ?_
    · unfold F_128
      rw [a1, bdS]
      rcases hx with ⟨rfl, rfl⟩ | ⟨rfl, rfl⟩
      · rfl
      · rfl
    · rw [a2]
      unfold F_139_57
      rw [e25]
      rcases hx with ⟨rfl, rfl⟩ | ⟨rfl, rfl⟩
      · rfl
      · rfl
  rcases le_or v1 1 (by omega) with c1 | ⟨x, j2, rfl⟩
  · refine BAD 0 1 (by omega) ?_ ?_
    · unfold F_50
      rw [c1, cond_true]
    · unfold F_139 F_139_11
      rw [c1, cond_true]
  · have l1 : jcmp .lt (nI x) 0 = false := by
      show jcmp .lt (nI x) (nI 0) = false
      rw [jcLT (by omega) (by omega)]; exact decide_eq_false (by omega)
    by_cases cx36 : x ≤ 36
    · have l2 : jcmp .le (nI x) (nI 36) = true := by rw [jcLE (by omega) (by omega)]; exact decide_eq_true cx36
      by_cases cF : F = 0
      · refine BAD 1 2 (by omega) ?_ ?_
        · unfold F_50
          rw [l1, cond_false, l2, cond_true, p1, cF, show jcmp .eq (nI 0) 0 = true from by decide, cond_true]
        · unfold F_139 F_139_39
          rw [l1, cond_false, l2, cond_true, p2, cF, show jcmp .eq (nI 0) 0 = true from by decide, cond_true]
      · obtain ⟨F, rfl⟩ : ∃ F', F = F' + 1 := ⟨F - 1, by omega⟩
        have l3 : jcmp .eq (nI (F + 1)) 0 = false := by
          show jcmp .eq (nI (F + 1)) (nI 0) = false
          rw [jcEQ (by omega) (by omega)]; exact decide_eq_false (by omega)
        by_cases cN : N = 1500
        · refine BAD 1 2 (by omega) ?_ ?_
          · unfold F_50
            rw [l1, cond_false, l2, cond_true, p1, l3, cond_false, n1, jcGE (by omega) (by omega), decide_eq_true (by omega), cond_true]
          · unfold F_139 F_139_39
            rw [l1, cond_false, l2, cond_true, p2, l3, cond_false, n2, jcEQ (by omega) (by omega), decide_eq_true cN, cond_true]
        · have l5 : jcmp .ge (nI N) (nI 1500) = false := by rw [jcGE (by omega) (by omega)]; exact decide_eq_false (by omega)
          have l6 : jcmp .eq (nI N) (nI 1500) = false := by rw [jcEQ (by omega) (by omega)]; exact decide_eq_false cN
          rcases h1.bg with ⟨o, hA, nD, e7, e5, e29⟩ | ⟨e7, e29⟩
          · obtain ⟨⟨q1, q2, q3⟩, ⟨q4, q5, q6⟩, ⟨q7, q8⟩, ⟨q9, q10, q11⟩⟩ := pf F (by omega)
            have qN := pz.2 F rfl
            obtain ⟨k, k1, k2, k3, k4⟩ := al_all (G := G) (t := t) (a := v2) (o := x) p1 (by omega) p2 q4 q5 q6 cx36
            by_cases ck : k = 1
            · subst ck
              have ok := k4 rfl
              have eC := e_49 (G := G) (t := t) (a := v2) (o := x) p1 (by omega) n1 (by omega) q9
              have eM := e_139 (G := G) (t := t) (a := v2) (o := x) p2 (by omega) n2 (by omega) q10
              have aS : agr (fun t i j => 1 ≤ t ∧ t ≤ 7) S (cdS S F N x (P.2.2.2.1 F) v2) := agr.i (agr.i (agr.i (agr.i (agr.refl _ _) _ _ (by omega)) _ _ (by omega)) _ _ (by omega)) _ _ (by omega)
              have aT : agr (fun t i j => t = 33 ∨ (37 ≤ t ∧ t ≤ 42)) T (cdT T F N x (P.2.2.2.1 F) v2) := agr.i (agr.i (agr.i (agr.i (agr.i (agr.refl _ _) _ _ (by omega)) _ _ (by omega)) _ _ (by omega)) _ _ (by omega)) _ _ (by omega)
              have st : stT φ D (F + 1) (N + 1) (P.1, P.2.1, P.2.2.1, va_up P.2.2.2.1 F (P.2.2.2.1 F + 1), va_up P.2.2.2.2.1 N x, va_up P.2.2.2.2.2 N v2) (cdS S F N x (P.2.2.2.1 F) v2) (cdT T F N x (P.2.2.2.1 F) v2) A := by
                refine h1.prog hA nD e7 e5 e29 aS rfl aT (fun k a b d => ?_) rfl ?_ ?_
                · unfold cdT
                  simp [gI, b, d]
                · clear h h1 eC eM aS aT BAD k2 k3 k4 ok
                  refine ⟨⟨?_, ?_, by omega⟩, ⟨?_, ?_, by omega⟩, fun f hf => ?_, fun q hq => ?_, fun z => by omega, fun f hf => ?_⟩
                  · unfold cdS; simp [gI, p1]
                  · unfold cdT; simp [gI, p2]
                  · unfold cdS; simp [gI]
                  · unfold cdT; simp [gI]
                  · obtain ⟨⟨y1, y2, y3⟩, ⟨y4, y5, y6⟩, ⟨y7, y8⟩, ⟨y9, y10, y11⟩⟩ := pf f hf
                    by_cases cf : f = F
                    · subst cf
                      simp only [va_up_self]
                      refine ⟨⟨?_, ?_, y3⟩, ⟨?_, ?_, y6⟩, ⟨?_, ?_⟩, ⟨?_, ?_, by omega⟩⟩
                      · unfold cdS; simp [gI, y1]
                      · unfold cdT; simp [gI, y2]
                      · unfold cdS; simp [gI, y4]
                      · unfold cdT; simp [gI, y5]
                      · unfold cdS; simp [gI, y7]
                      · unfold cdT; simp [gI, y8]
                      · unfold cdS; simp [gI]
                      · unfold cdT; simp [gI]
                    · simp only [va_up_ne _ _ cf]
                      refine ⟨⟨?_, ?_, y3⟩, ⟨?_, ?_, y6⟩, ⟨?_, ?_⟩, ⟨?_, ?_, by omega⟩⟩
                      · unfold cdS; simp [gI, y1]
                      · unfold cdT; simp [gI, y2]
                      · unfold cdS; simp [gI, y4]
                      · unfold cdT; simp [gI, y5]
                      · unfold cdS; simp [gI, y7]
                      · unfold cdT; simp [gI, y8]
                      · unfold cdS; simp [gI, cf, y9]
                      · unfold cdT; simp [gI, cf, y10]
                  · by_cases cq : q = N
                    · subst cq
                      simp only [va_up_self]
                      refine ⟨⟨?_, ?_, cx36⟩, ?_, ?_⟩
                      · unfold cdS; simp [gI]
                      · unfold cdT; simp [gI]
                      · unfold cdS; simp [gI]
                      · unfold cdT; simp [gI]
                    · obtain ⟨⟨y1, y2, y3⟩, y4, y5⟩ := pi q (by omega)
                      simp only [va_up_ne _ _ cq]
                      refine ⟨⟨?_, ?_, y3⟩, ?_, ?_⟩
                      · unfold cdS; simp [gI, cq, y1]
                      · unfold cdT; simp [gI, cq, y2]
                      · unfold cdS; simp [gI, cq, y4]
                      · unfold cdT; simp [gI, cq, y5]
                  · have : f = F := by omega
                    subst this
                    simp only [va_up_self]
                    omega
                · intro f hf k hk
                  have fb := (pf f hf).2.2.2.2.2
                  show okI (P.2.1 f) (va_up P.2.2.2.2.1 N x (P.2.2.1 f + k)) (va_up P.2.2.2.2.2 N v2 (P.2.2.1 f + k))
                  have hk' : k < va_up P.2.2.2.1 F (P.2.2.2.1 F + 1) f := hk
                  by_cases cf : f = F
                  · subst cf
                    rw [va_up_self] at hk'
                    by_cases ck : k < P.2.2.2.1 f
                    · rw [va_up_ne _ _ (by omega), va_up_ne _ _ (by omega)]
                      exact pa f hf k ck
                    · have : P.2.2.1 f + k = N := by omega
                      rw [this, va_up_self, va_up_self]
                      exact ok
                  · rw [va_up_ne _ _ cf] at hk'
                    rw [va_up_ne _ _ (by omega), va_up_ne _ _ (by omega)]
                    exact pa f hf k hk'
              refine cal.ok (B := S) (v := (nI (P.2.2.2.1 F)).toInt64) st h2 rfl (by unfold cdT; simp [gI]) ?_ ?_
              · unfold F_128 F_50
                rw [l1, cond_false, l2, cond_true, p1, l3, cond_false, n1, l5, cond_false, e7, show jcmp .eq (nI 0) 0 = true from by decide, cond_true, k2, bdS]
                dsimp only
                rw [show jcmp .ne (nI 1) 0 = true from by decide, cond_true, eC, bdS, bdS]
                rfl
              · show to64 (F_139 G t (nI x) v2 T) = _
                unfold F_139 to64
                rw [l1, cond_false, l2, cond_true, p2, l3, cond_false, n2, l6, cond_false, e29, show jcmp .eq (nI 0) 0 = true from by decide, cond_true, k3, bdS]
                dsimp only
                rw [show jcmp .ne (nI 1) 0 = true from by decide, cond_true, eM, bdS]
            · have : k = 0 := by omega
              subst this
              refine BAD 0 1 (by omega) ?_ ?_
              · unfold F_50
                rw [l1, cond_false, l2, cond_true, p1, l3, cond_false, n1, l5, cond_false, e7, show jcmp .eq (nI 0) 0 = true from by decide, cond_true, k2, bdS]
                rfl
              · unfold F_139
                rw [l1, cond_false, l2, cond_true, p2, l3, cond_false, n2, l6, cond_false, e29, show jcmp .eq (nI 0) 0 = true from by decide, cond_true, k3, bdS]
                rfl
          · refine BAD 1 2 (by omega) ?_ ?_
            · unfold F_50
              rw [l1, cond_false, l2, cond_true, p1, l3, cond_false, n1, l5, cond_false, e7, cond_false]
            · unfold F_139 F_139_39
              rw [l1, cond_false, l2, cond_true, p2, l3, cond_false, n2, l6, cond_false, e29, show jcmp .eq (nI 1) 0 = false from by decide, cond_false]
    · have l2 : jcmp .le (nI x) (nI 36) = false := by rw [jcLE (by omega) (by omega)]; exact decide_eq_false cx36
      refine BAD 0 1 (by omega) ?_ ?_
      · unfold F_50
        rw [l1, cond_false, l2, cond_false]
      · unfold F_139 F_139_11
        rw [l1, cond_false, l2, cond_false]
end PR4
