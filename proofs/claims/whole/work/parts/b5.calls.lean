/-! quantum, pace, state, take. -/
section CAL
variable {φ φ' : Nat → Nat} {D D' : Nat → Prop} {F N : Nat} {P : aP} {S S' T T' T1 : sS} {A : aS} {r s d p f pc n m e b k y g q o : Nat} {G : jG} {t j : Nat} {a : Int32}
theorem stT.wld (h : stT φ D F N P S T A) (e8 : S'.1 8 0 0 5 = S.1 8 0 0 5) (e7 : S'.1 23 0 0 7 = S.1 23 0 0 7) (e29 : T'.1 33 0 0 29 = T.1 33 0 0 29) (hw : wR φ D F N P S T A → wR φ D F N P S' T' A ∧ hk S S') : stT φ D F N P S' T' A := by
  unfold stT
  rw [e29, e7, e8]
  rcases h with ⟨w, gc, h1, h2, h3⟩ | ⟨h0, ⟨r, w, gc, iq, wh, hr, h1, h5, h7, h9⟩ | ⟨w, gc, wh, h5, h7⟩⟩
  · exact Or.inl ⟨(hw w).1, gc.keep (hw w).2, h1, h2, h3⟩
  · exact Or.inr ⟨h0, Or.inl ⟨r, (hw w).1, gc.keep (hw w).2, iq, wh, hr, h1, by rw [e8]; exact h5, by rw [e7]; exact h7, h9⟩⟩
  · exact Or.inr ⟨h0, Or.inr ⟨(hw w).1, gc.keep (hw w).2, wh, by rw [e8]; exact h5, by rw [e7]; exact h7⟩⟩
theorem stT.er (h : stT φ D F N P S T A) (v : Int32) : stT φ D F N P S (siI T 33 0 0 25 v) A := h.qry (clB.refl _) (moB.er _ _)
theorem stT.out (h : stT φ D F N P S T A) (v : Int64) : stT φ D F N P (siL S 64 0 0 0 v) T A := h.qry (clB.out _ _) (moB.refl _)
/-! granted -/
theorem cal.ok {c : Nat} {v : Int64} {B : sS} (h : stT φ D F N P S T A) (hW : A.2.2.2.2.2.1 + A.2.2.2.2.2.2 ≤ 1000 * c) (rm : B.2.2 = S.2.2) (e25 : T.1 33 0 0 25 = nI 0) {X : Option (Int32 × sS)} {Y : Option (Int64 × sS)} (hX : X = some (nI 0, siL S 64 0 0 0 v)) (hY : Y = some (v, T)) : ∃ e S' v T', X = some (nI e, S') ∧ e ≤ 2 ∧ Y = some (v, T') ∧ T'.1 33 0 0 25 = nI e ∧ (e = 0 → S'.2.1 64 0 0 0 = v) ∧ topR (c + 1) S' T' ∧ ∀ x, rmR B x → ∃ x', x' ≤ x + 1 ∧ rmR S' x' :=
  ⟨0, _, v, T, hX, by omega, hY, e25, fun _ => by rw [gL, if_pos ⟨rfl, rfl, rfl, rfl⟩], ⟨φ, D, F, N, P, A, h.out v, by omega⟩, fun x hx => ⟨x, by omega, hx.same rm.symm⟩⟩
theorem le_or (v : Int32) (n : Nat) (hn : n < 2147483648) : (jcmp .lt v 0 = true) ∨ ∃ j : Nat, j < 2147483648 ∧ v = nI j := by
  rcases lt_or v 0 (by omega) with h | ⟨j, _, h1, h2⟩
  · exact Or.inl h
  · exact Or.inr ⟨j, h1, h2⟩
theorem c_quantum (v1 : Int32) : cal (F_145 G t v1) (fun T => to64 (F_146 G t v1 T)) := by
  intro c S T h hc
  obtain ⟨φ, D, F, N, P, A, h1, h2⟩ := id h
  have sc := h1.w.1.2.2.2.2.2.2.2.1
  have e25 : ∀ w0, (siI T 33 0 0 25 (nI w0)).1 33 0 0 25 = nI w0 := fun w0 => siI_at _ _ _ _ _ _
  have BAD : F_72 G t v1 S = some (.inr 0, sxc S) → F_146 G t v1 T = F_146_12 G t v1 T → ∃ e S' v T', F_145 G t v1 S = some (nI e, S') ∧ e ≤ 2 ∧ to64 (F_146 G t v1 T) = some (v, T') ∧ T'.1 33 0 0 25 = nI e ∧ (e = 0 → S'.2.1 64 0 0 0 = v) ∧ topR (c + 1) S' T' ∧ ∀ x, rmR S x → ∃ x', x' ≤ x + 1 ∧ rmR S' x' := fun a1 a2 => by
    refine cal.ref (e := 1) (v := (nI 0).toInt64) h (Or.inl rfl) ?_ ?_
    · unfold F_145
      rw [a1, bdS]
      rfl
    · rw [a2]
      unfold F_146_12 F_146_17 to64
      rw [e25]
      rfl
  rcases lt_or v1 1 (by omega) with c1 | ⟨j, j1, j2, rfl⟩
  · refine BAD ?_ ?_
    · unfold F_72
      rw [c1, cond_true]
    · unfold F_146
      rw [c1, cond_true]
  · have l1 : jcmp .lt (nI j) (nI 1) = false := by rw [jcLT (by omega) (by omega)]; exact decide_eq_false (by omega)
    by_cases c2 : j ≤ 100
    · have l2 : jcmp .le (nI j) (nI 100) = true := by rw [jcLE (by omega) (by omega)]; exact decide_eq_true c2
      have st : stT φ D F N P (siI S 23 0 0 9 (nI j)) (siI (siI T 33 0 0 25 (nI 0)) 33 0 0 18 (nI j)) A := (h1.er (nI 0)).wld (by rw [siI_ne _ _ _ (by omega)]) (by rw [gI, if_neg (by omega)]) (by rw [gI, if_neg (by omega)]) (fun w => w.sca (agr.i (agr.refl _ _) _ _ (by omega)) rfl (fun k hk => by rw [siI_ne _ _ _ (by omega)]) (fun k hk => by rw [gI, if_neg (by omega)]) (agr.i (agr.refl _ _) _ _ rfl) (fun k hk => by rw [gI, if_neg (by omega)]) rfl (by
        obtain ⟨c1, c2, c3, c4, c5, c6, c7, c8⟩ := w.2.2.2.2.2.2.2.1
        refine ⟨?_, ?_, ?_, ?_, ?_, ?_, ?_, ?_⟩
        · rw [siI_ne _ _ _ (by omega), gI, if_neg (by omega)]; exact c1
        · rw [siI_ne _ _ _ (by omega), gI, if_neg (by omega)]; exact c2
        · rw [siI_ne _ _ _ (by omega), gI, if_neg (by omega)]; exact c3
        · rw [siI_ne _ _ _ (by omega), gI, if_neg (by omega)]; exact c4
        · rw [gI, if_neg (by omega), gI, if_neg (by omega)]; exact c5
        · rw [siI_at, siI_at]
        · rw [gI, if_neg (by omega), gI, if_neg (by omega)]; exact c7
        · rw [gI, if_neg (by omega), gI, if_neg (by omega)]; exact c8))
      refine cal.ok (B := S) (v := (S.1 23 0 0 9).toInt64) st h2 rfl (by rw [gI, if_neg (by omega)]; exact e25 0) ?_ ?_
      · unfold F_145 F_72
        rw [l1, cond_false, l2, cond_true, bdS]
        rfl
      · show to64 (F_146 G t (nI j) T) = _
        unfold F_146 F_146_17 to64
        rw [l1, cond_false, l2, cond_true, e25, show jcmp .le (nI 0) 0 = true from by decide, cond_true, bdS, gI, if_neg (by omega), sc.2.2.2.2.2.1]
    · have l2 : jcmp .le (nI j) (nI 100) = false := by rw [jcLE (by omega) (by omega)]; exact decide_eq_false c2
      refine BAD ?_ ?_
      · unfold F_72
        rw [l1, cond_false, l2, cond_false]
      · unfold F_146
        rw [l1, cond_false, l2, cond_false]
theorem c_pace (v1 : Int32) : cal (F_147 G t v1) (fun T => to64 (F_148 G t v1 T)) := by
  intro c S T h hc
  obtain ⟨φ, D, F, N, P, A, h1, h2⟩ := id h
  have sc := h1.w.1.2.2.2.2.2.2.2.1
  have e25 : ∀ w0, (siI T 33 0 0 25 (nI w0)).1 33 0 0 25 = nI w0 := fun w0 => siI_at _ _ _ _ _ _
  have BAD : F_71 G t v1 S = some (.inr 0, sxc S) → F_148 G t v1 T = F_148_11 G t v1 T → ∃ e S' v T', F_147 G t v1 S = some (nI e, S') ∧ e ≤ 2 ∧ to64 (F_148 G t v1 T) = some (v, T') ∧ T'.1 33 0 0 25 = nI e ∧ (e = 0 → S'.2.1 64 0 0 0 = v) ∧ topR (c + 1) S' T' ∧ ∀ x, rmR S x → ∃ x', x' ≤ x + 1 ∧ rmR S' x' := fun a1 a2 => by
    refine cal.ref (e := 1) (v := (nI 0).toInt64) h (Or.inl rfl) ?_ ?_
    · unfold F_147
      rw [a1, bdS]
      rfl
    · rw [a2]
      unfold F_148_11 F_148_16 to64
      rw [e25]
      rfl
  rcases le_or v1 1 (by omega) with c1 | ⟨j, j2, rfl⟩
  · refine BAD ?_ ?_
    · unfold F_71
      rw [c1, cond_true]
    · unfold F_148
      rw [c1, cond_true]
  · have l1 : jcmp .lt (nI j) 0 = false := by
      show jcmp .lt (nI j) (nI 0) = false
      rw [jcLT (by omega) (by omega)]; exact decide_eq_false (by omega)
    by_cases c2 : j ≤ 50
    · have l2 : jcmp .le (nI j) (nI 50) = true := by rw [jcLE (by omega) (by omega)]; exact decide_eq_true c2
      have st : stT φ D F N P (siI S 23 0 0 10 (nI j)) (siI (siI T 33 0 0 25 (nI 0)) 33 0 0 19 (nI j)) A := (h1.er (nI 0)).wld (by rw [siI_ne _ _ _ (by omega)]) (by rw [gI, if_neg (by omega)]) (by rw [gI, if_neg (by omega)]) (fun w => w.sca (agr.i (agr.refl _ _) _ _ (by omega)) rfl (fun k hk => by rw [siI_ne _ _ _ (by omega)]) (fun k hk => by rw [gI, if_neg (by omega)]) (agr.i (agr.refl _ _) _ _ rfl) (fun k hk => by rw [gI, if_neg (by omega)]) rfl (by
        obtain ⟨c1, c2, c3, c4, c5, c6, c7, c8⟩ := w.2.2.2.2.2.2.2.1
        refine ⟨?_, ?_, ?_, ?_, ?_, ?_, ?_, ?_⟩
        · rw [siI_ne _ _ _ (by omega), gI, if_neg (by omega)]; exact c1
        · rw [siI_ne _ _ _ (by omega), gI, if_neg (by omega)]; exact c2
        · rw [siI_ne _ _ _ (by omega), gI, if_neg (by omega)]; exact c3
        · rw [siI_ne _ _ _ (by omega), gI, if_neg (by omega)]; exact c4
        · rw [gI, if_neg (by omega), gI, if_neg (by omega)]; exact c5
        · rw [gI, if_neg (by omega), gI, if_neg (by omega)]; exact c6
        · rw [siI_at, siI_at]
        · rw [gI, if_neg (by omega), gI, if_neg (by omega)]; exact c8))
      refine cal.ok (B := S) (v := (S.1 23 0 0 10).toInt64) st h2 rfl (by rw [gI, if_neg (by omega)]; exact e25 0) ?_ ?_
      · unfold F_147 F_71
        rw [l1, cond_false, l2, cond_true, bdS]
        rfl
      · show to64 (F_148 G t (nI j) T) = _
        unfold F_148 F_148_16 to64
        rw [l1, cond_false, l2, cond_true, e25, show jcmp .le (nI 0) 0 = true from by decide, cond_true, bdS, gI, if_neg (by omega), sc.2.2.2.2.2.2.1]
    · have l2 : jcmp .le (nI j) (nI 50) = false := by rw [jcLE (by omega) (by omega)]; exact decide_eq_false c2
      refine BAD ?_ ?_
      · unfold F_71
        rw [l1, cond_false, l2, cond_false]
      · unfold F_148
        rw [l1, cond_false, l2, cond_false]
/-! a call that always answers -/
def cal2 {α : Type} (Fc : sS → Option (α × sS)) (Fm : sS → Option (α × sS)) : Prop := ∀ c S T, topR c S T → c < 1000 → ∃ v S' T', Fc S = some (v, S') ∧ Fm T = some (v, T') ∧ topR (c + 1) S' T' ∧ ∀ x, rmR S x → ∃ x', x' ≤ x + 1 ∧ rmR S' x'
theorem c_state : cal2 (F_122 G t) (F_192 G t) := by
  intro c S T h hc
  obtain ⟨φ, D, F, N, P, A, h1, h2⟩ := id h
  have sc := h1.w.1.2.2.2.2.2.2.2.1
  refine ⟨S.1 23 0 0 7, S, _, rfl, ?_, ⟨φ, D, F, N, P, A, h1.er (nI 0), by omega⟩, fun x hx => ⟨x, by omega, hx⟩⟩
  unfold F_192
  rw [gI, if_neg (by omega), sc.2.2.2.2.2.2.2]
set_option maxHeartbeats 4000000 in
set_option linter.unusedSimpArgs false in
theorem c_take : cal2 (F_126 G t) (F_193 G t) := by
  intro c S T h hc
  obtain ⟨φ, D, F, N, P, A, h1, h2⟩ := id h
  obtain ⟨a, n, a1, a2, n1, n2, n3, n4⟩ := h1.w.1.2.2.2.2.2.2.2.2.1
  have t24 : (siI T 33 0 0 25 (nI 0)).1 33 0 0 24 = nI n := by rw [gI, if_neg (by omega)]; exact n2
  by_cases cn : n = 0
  · subst cn
    refine ⟨0, S, siI T 33 0 0 25 (nI 0), ?_, ?_, ⟨φ, D, F, N, P, A, h1.er (nI 0), by omega⟩, fun x hx => ⟨x, by omega, hx⟩⟩
    · unfold F_126 F_125
      clear h h1 n4
      simp (disch := first | assumption | omega) only [gI, gI2, gL, gL1, gL2, jcLT, jcGE, jcGT, jcLE, jcEQ, jcNE, dEQ, nIt, lgNE, lgEQ, lgGE, lgLT, lgGT, lgLE, jinT, nIc, nI0, nI1, nIo, nIs, nI_add, nIm, nIn0, szl0, szl1, szl2, szl3, szl4, szl5, Nat.add_sub_assoc, Nat.add_zero, Nat.reduceSub, Nat.reduceAdd, Nat.reduceMul, Nat.reduceEqDiff,  jifT, bdS, sifN, sifS, omN, omS, cdI, x25, x26, x27, x28, x29, x30, x31, x32, xr0, xr1, xr2, xr3, xr4, xr5, if_pos, if_neg, true_and, and_true, false_and, and_false, and_self, Bool.and_true, if_true, if_false, reduceIte, cond_true, cond_false, not_true_eq_false, not_false_eq_true, n1]
    · unfold F_193
      clear h h1 n4
      rw [t24]
      simp (disch := first | assumption | omega) only [gI, gI2, gL, gL1, gL2, jcLT, jcGE, jcGT, jcLE, jcEQ, jcNE, dEQ, nIt, lgNE, lgEQ, lgGE, lgLT, lgGT, lgLE, jinT, nIc, nI0, nI1, nIo, nIs, nI_add, nIm, nIn0, szl0, szl1, szl2, szl3, szl4, szl5, Nat.add_sub_assoc, Nat.add_zero, Nat.reduceSub, Nat.reduceAdd, Nat.reduceMul, Nat.reduceEqDiff,  jifT, bdS, sifN, sifS, omN, omS, cdI, x25, x26, x27, x28, x29, x30, x31, x32, xr0, xr1, xr2, xr3, xr4, xr5, if_pos, if_neg, true_and, and_true, false_and, and_false, and_self, Bool.and_true, if_true, if_false, reduceIte, cond_true, cond_false, not_true_eq_false, not_false_eq_true]
  · obtain ⟨n, rfl⟩ : ∃ n', n = n' + 1 := ⟨n - 1, by omega⟩
    have st : stT φ D F N P (siI (siI S 23 0 0 5 (nI ((a + 1) % 2000))) 23 0 0 6 (nI n)) (saL (siI (siI T 33 0 0 25 (nI 0)) 33 0 0 24 (nI n)) 44 0 0 (va_cpy (T.2.1 44 0 0) (T.2.1 44 0 0) 1 0 n)) A := (h1.er (nI 0)).wld (by rw [siI_ne _ _ _ (by omega), siI_ne _ _ _ (by omega)]) (by rw [gI, if_neg (by omega), gI, if_neg (by omega)]) (by
        show (siI (siI T 33 0 0 25 (nI 0)) 33 0 0 24 (nI n)).1 33 0 0 29 = _
        rw [gI, if_neg (by omega)]) (fun w => by
      have qu := w.2.2.2.2.2.1
      have e23 : ∀ k, (siI (siI S 23 0 0 5 (nI ((a + 1) % 2000))) 23 0 0 6 (nI n)).1 23 0 0 k = if k = 6 then nI n else if k = 5 then nI ((a + 1) % 2000) else S.1 23 0 0 k := fun k => by simp [gI]
      have e33 : ∀ k, (saL (siI (siI T 33 0 0 25 (nI 0)) 33 0 0 24 (nI n)) 44 0 0 (va_cpy (T.2.1 44 0 0) (T.2.1 44 0 0) 1 0 n)).1 33 0 0 k = if k = 24 then nI n else (siI T 33 0 0 25 (nI 0)).1 33 0 0 k := fun k => by
        show (siI (siI T 33 0 0 25 (nI 0)) 33 0 0 24 (nI n)).1 33 0 0 k = _
        rw [gI]
        simp
      have aS : agr (fun t i j => t = 23) S (siI (siI S 23 0 0 5 (nI ((a + 1) % 2000))) 23 0 0 6 (nI n)) := agr.i (agr.i (agr.refl _ _) _ _ rfl) _ _ rfl
      have aT : agr (fun t i j => t = 33 ∨ t = 44) (siI T 33 0 0 25 (nI 0)) (saL (siI (siI T 33 0 0 25 (nI 0)) 33 0 0 24 (nI n)) 44 0 0 (va_cpy (T.2.1 44 0 0) (T.2.1 44 0 0) 1 0 n)) := fun t i j z => ⟨siI_ne _ _ _ (by omega), saL_ne _ _ (by omega)⟩
      refine w.wld (Q := A.2.2.2.1) (aS.mono (fun t i j z => by omega)) rfl (aT.mono (fun t i j z => by omega)) ⟨?_, ?_⟩ (w.2.2.1.keep (fun t x y => aS t 0 5 (by omega)) ⟨(aT 36 0 0 (by omega)).1, (aT 43 0 0 (by omega)).2⟩) (qu.keep ⟨by rw [(aS 8 0 0 (by omega)).1], by rw [(aS 8 0 0 (by omega)).1], (aS 10 0 0 (by omega)).1⟩ ⟨?_, (aT 45 0 0 (by omega)).1⟩) ⟨by rw [(aS 8 0 0 (by omega)).1], ?_⟩ ?_ ⟨(a + 1) % 2000, n, ?_, by omega, ?_, ?_, by omega, fun i hi => ?_⟩
      · rw [e33]; rfl
      · rw [e33]; rfl
      · rw [e33]; rfl
      · rw [saL_ne _ _ (by omega)]; rfl
      · obtain ⟨c1, c2, c3, c4, c5, c6, c7, c8⟩ := w.2.2.2.2.2.2.2.1
        unfold scaR
        rw [(aS 8 0 0 (by omega)).1, (aS 11 0 0 (by omega)).1, e23, e23, e23, e23, e33, e33, e33, e33, e33, e33, e33, e33]
        exact ⟨c1, c2, c3, c4, c5, c6, c7, c8⟩
      · rw [e23]; rfl
      · rw [e23]; rfl
      · rw [e33]; rfl
      · rw [saL_self]
        show S.2.1 24 0 0 _ = _
        unfold va_cpy
        rw [if_pos (by omega), show ((a + 1) % 2000 + i) % 2000 = (a + (i + 1)) % 2000 by omega, show 1 + (i - 0) = i + 1 by omega]
        exact n4 (i + 1) (by omega))
    refine ⟨T.2.1 44 0 0 0, _, _, ?_, ?_, ⟨φ, D, F, N, P, A, st, by omega⟩, fun x hx => ⟨x, by omega, hx.same rfl⟩⟩
    · have := n4 0 (by omega)
      rw [Nat.add_zero, Nat.mod_eq_of_lt a2] at this
      rw [← this]
      unfold F_126 F_125
      clear h h1 st n4
      simp (disch := first | assumption | omega) only [gI, gI2, gL, gL1, gL2, jcLT, jcGE, jcGT, jcLE, jcEQ, jcNE, dEQ, nIt, lgNE, lgEQ, lgGE, lgLT, lgGT, lgLE, jinT, nIc, nI0, nI1, nIo, nIs, nI_add, nIm, nIn0, szl0, szl1, szl2, szl3, szl4, szl5, Nat.add_sub_assoc, Nat.add_zero, Nat.reduceSub, Nat.reduceAdd, Nat.reduceMul, Nat.reduceEqDiff,  jifT, bdS, sifN, sifS, omN, omS, cdI, x25, x26, x27, x28, x29, x30, x31, x32, xr0, xr1, xr2, xr3, xr4, xr5, if_pos, if_neg, true_and, and_true, false_and, and_false, and_self, Bool.and_true, if_true, if_false, reduceIte, cond_true, cond_false, not_true_eq_false, not_false_eq_true, n1, a1]
    · unfold F_193
      clear h h1 st n4
      rw [t24]
      simp (disch := first | assumption | omega) only [gI, gI2, gL, gL1, gL2, jcLT, jcGE, jcGT, jcLE, jcEQ, jcNE, dEQ, nIt, lgNE, lgEQ, lgGE, lgLT, lgGT, lgLE, jinT, nIc, nI0, nI1, nIo, nIs, nI_add, nIm, nIn0, szl0, szl1, szl2, szl3, szl4, szl5, Nat.add_sub_assoc, Nat.add_zero, Nat.reduceSub, Nat.reduceAdd, Nat.reduceMul, Nat.reduceEqDiff,  jifT, bdS, sifN, sifS, omN, omS, cdI, x25, x26, x27, x28, x29, x30, x31, x32, xr0, xr1, xr2, xr3, xr4, xr5, if_pos, if_neg, true_and, and_true, false_and, and_false, and_self, Bool.and_true, if_true, if_false, reduceIte, cond_true, cond_false, not_true_eq_false, not_false_eq_true, t24]
      rw [jif_true (decide_eq_true ⟨by decide, by decide, by rw [nI_ltI (by omega) (by omega)]; omega, by omega, by omega⟩)]
end CAL
