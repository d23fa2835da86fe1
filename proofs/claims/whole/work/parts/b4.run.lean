/-! run. -/
section RUN
variable {φ φ' : Nat → Nat} {D D' : Nat → Prop} {F N : Nat} {P : aP} {S S' T T' T1 : sS} {A : aS} {r s d p f pc n m e b k y g q o : Nat} {G : jG} {t j : Nat} {a : Int32}
set_option maxHeartbeats 4000000 in
set_option linter.unusedSimpArgs false in
theorem run_loop (hG : gG G) (ht : 2147483648 < t) {n : Nat} (hn : n ≤ 1000) : ∀ w i tt tt' S T φ D A, i + w = n → w < tt → w < tt' → aftR φ D F N P S T A → A.2.2.2.2.2.1 + A.2.2.2.2.2.2 + w < 2147483648 →
    ∃ c S' T' φ' D' A', F_121_41 G t tt (nI n) (nI i) S = some (.inl (nI c), S') ∧ F_191_44 G t tt' (nI n) (nI i) T = some (nI c, T') ∧ aftR φ' D' F N P S' T' A' ∧ kN T' = kN T ∧ (∀ x, rmR S x → rmR S' x) ∧ A'.2.2.2.2.2.1 + A'.2.2.2.2.2.2 ≤ A.2.2.2.2.2.1 + A.2.2.2.2.2.2 + w := by
  intro w
  induction w with
  | zero =>
    intro i tt tt' S T φ D A h1 h2 h3 h4 h5
    obtain ⟨u, rfl⟩ : ∃ u, tt = u + 1 := ⟨tt - 1, by omega⟩
    obtain ⟨u', rfl⟩ : ∃ u', tt' = u' + 1 := ⟨tt' - 1, by omega⟩
    have : i = n := by omega
    subst this
    refine ⟨i, S, T, φ, D, A, ?_, ?_, h4, rfl, fun _ z => z, by omega⟩
    · rw [F_121_41]
      clear h4 hG
      simp (disch := first | assumption | omega) only [gI, gI2, gL, gL1, gL2, jcLT, jcGE, jcGT, jcLE, jcEQ, jcNE, dEQ, nIt, lgNE, lgEQ, lgGE, lgLT, lgGT, lgLE, jinT, nIc, nI0, nI1, nIo, nIs, nI_add, nIm, nIn0, szl0, szl1, szl2, szl3, szl4, szl5, Nat.add_sub_assoc, Nat.add_zero, Nat.reduceSub, Nat.reduceAdd, Nat.reduceMul, Nat.reduceEqDiff,  jifT, bdS, sifN, sifS, omN, omS, cdI, x25, x26, x27, x28, x29, x30, x31, x32, xr0, xr1, xr2, xr3, xr4, xr5, if_pos, if_neg, true_and, and_true, false_and, and_false, and_self, Bool.and_true, if_true, if_false, reduceIte, cond_true, cond_false, not_true_eq_false, not_false_eq_true]
    · rw [F_191_44]
      clear h4 hG
      simp (disch := first | assumption | omega) only [gI, gI2, gL, gL1, gL2, jcLT, jcGE, jcGT, jcLE, jcEQ, jcNE, dEQ, nIt, lgNE, lgEQ, lgGE, lgLT, lgGT, lgLE, jinT, nIc, nI0, nI1, nIo, nIs, nI_add, nIm, nIn0, szl0, szl1, szl2, szl3, szl4, szl5, Nat.add_sub_assoc, Nat.add_zero, Nat.reduceSub, Nat.reduceAdd, Nat.reduceMul, Nat.reduceEqDiff,  jifT, bdS, sifN, sifS, omN, omS, cdI, x25, x26, x27, x28, x29, x30, x31, x32, xr0, xr1, xr2, xr3, xr4, xr5, if_pos, if_neg, true_and, and_true, false_and, and_false, and_self, Bool.and_true, if_true, if_false, reduceIte, cond_true, cond_false, not_true_eq_false, not_false_eq_true]
  | succ w ih =>
    intro i tt tt' S T φ D A h1 h2 h3 h4 h5
    obtain ⟨u, rfl⟩ : ∃ u, tt = u + 1 := ⟨tt - 1, by omega⟩
    obtain ⟨u', rfl⟩ : ∃ u', tt' = u' + 1 := ⟨tt' - 1, by omega⟩
    have c7 := h4.w.1.2.2.2.2.2.2.2.1.2.2.2.2.2.2.2
    rcases id h4 with ⟨r, R⟩ | E
    · have s7 : S.1 23 0 0 7 = nI 1 := R.2.2.2.2.2.2.2.1
      have t7 : T.1 33 0 0 17 = nI 1 := by rw [← c7]; exact s7
      obtain ⟨S1, T1, φ1, D1, A1, e1, e2, a1, rm, w1, w2⟩ := R.step hG ht (by omega)
      have kn : kN T1 = kN T := n_190 (c := kN T) T rfl _ e2
      obtain ⟨c, S2, T2, φ2, D2, A2, x1, x2, x3, x4, x5, x6⟩ := ih (i + 1) u u' S1 T1 φ1 D1 A1 (by omega) (by omega) (by omega) a1 (by omega)
      refine ⟨c, S2, T2, φ2, D2, A2, ?_, ?_, x3, x4.trans kn, fun x hx => x5 x (rm x hx), by omega⟩
      · rw [← x1, F_121_41]
        clear ih h4 R a1 x1 x2 x3 x5 rm hG
        simp (disch := first | assumption | omega) only [gI, gI2, gL, gL1, gL2, jcLT, jcGE, jcGT, jcLE, jcEQ, jcNE, dEQ, nIt, lgNE, lgEQ, lgGE, lgLT, lgGT, lgLE, jinT, nIc, nI0, nI1, nIo, nIs, nI_add, nIm, nIn0, szl0, szl1, szl2, szl3, szl4, szl5, Nat.add_sub_assoc, Nat.add_zero, Nat.reduceSub, Nat.reduceAdd, Nat.reduceMul, Nat.reduceEqDiff,  jifT, bdS, sifN, sifS, omN, omS, cdI, x25, x26, x27, x28, x29, x30, x31, x32, xr0, xr1, xr2, xr3, xr4, xr5, if_pos, if_neg, true_and, and_true, false_and, and_false, and_self, Bool.and_true, if_true, if_false, reduceIte, cond_true, cond_false, not_true_eq_false, not_false_eq_true, s7, e1]
      · rw [← x2, F_191_44]
        clear ih h4 R a1 x1 x2 x3 x5 rm hG
        simp (disch := first | assumption | omega) only [gI, gI2, gL, gL1, gL2, jcLT, jcGE, jcGT, jcLE, jcEQ, jcNE, dEQ, nIt, lgNE, lgEQ, lgGE, lgLT, lgGT, lgLE, jinT, nIc, nI0, nI1, nIo, nIs, nI_add, nIm, nIn0, szl0, szl1, szl2, szl3, szl4, szl5, Nat.add_sub_assoc, Nat.add_zero, Nat.reduceSub, Nat.reduceAdd, Nat.reduceMul, Nat.reduceEqDiff,  jifT, bdS, sifN, sifS, omN, omS, cdI, x25, x26, x27, x28, x29, x30, x31, x32, xr0, xr1, xr2, xr3, xr4, xr5, if_pos, if_neg, true_and, and_true, false_and, and_false, and_self, Bool.and_true, if_true, if_false, reduceIte, cond_true, cond_false, not_true_eq_false, not_false_eq_true, t7, e2]
    · obtain ⟨_, _, _, _, s7⟩ := E
      have hc : ∃ v, (v = 2 ∨ v = 3 ∨ v = 4) ∧ S.1 23 0 0 7 = nI v := by
        rcases s7 with z | z | z
        · exact ⟨2, by omega, z⟩
        · exact ⟨3, by omega, z⟩
        · exact ⟨4, by omega, z⟩
      obtain ⟨v, hv, s7⟩ := hc
      have t7 : T.1 33 0 0 17 = nI v := by rw [← c7]; exact s7
      refine ⟨i, S, T, φ, D, A, ?_, ?_, h4, rfl, fun _ z => z, by omega⟩
      · rw [F_121_41]
        clear ih h4 hG
        simp (disch := first | assumption | omega) only [gI, gI2, gL, gL1, gL2, jcLT, jcGE, jcGT, jcLE, jcEQ, jcNE, dEQ, nIt, lgNE, lgEQ, lgGE, lgLT, lgGT, lgLE, jinT, nIc, nI0, nI1, nIo, nIs, nI_add, nIm, nIn0, szl0, szl1, szl2, szl3, szl4, szl5, Nat.add_sub_assoc, Nat.add_zero, Nat.reduceSub, Nat.reduceAdd, Nat.reduceMul, Nat.reduceEqDiff,  jifT, bdS, sifN, sifS, omN, omS, cdI, x25, x26, x27, x28, x29, x30, x31, x32, xr0, xr1, xr2, xr3, xr4, xr5, if_pos, if_neg, true_and, and_true, false_and, and_false, and_self, Bool.and_true, if_true, if_false, reduceIte, cond_true, cond_false, not_true_eq_false, not_false_eq_true, s7]
      · rw [F_191_44]
        clear ih h4 hG
        simp (disch := first | assumption | omega) only [gI, gI2, gL, gL1, gL2, jcLT, jcGE, jcGT, jcLE, jcEQ, jcNE, dEQ, nIt, lgNE, lgEQ, lgGE, lgLT, lgGT, lgLE, jinT, nIc, nI0, nI1, nIo, nIs, nI_add, nIm, nIn0, szl0, szl1, szl2, szl3, szl4, szl5, Nat.add_sub_assoc, Nat.add_zero, Nat.reduceSub, Nat.reduceAdd, Nat.reduceMul, Nat.reduceEqDiff,  jifT, bdS, sifN, sifS, omN, omS, cdI, x25, x26, x27, x28, x29, x30, x31, x32, xr0, xr1, xr2, xr3, xr4, xr5, if_pos, if_neg, true_and, and_true, false_and, and_false, and_self, Bool.and_true, if_true, if_false, reduceIte, cond_true, cond_false, not_true_eq_false, not_false_eq_true, t7]
/-! a call, on both sides -/
def cal (Fc : sS → Option (Int32 × sS)) (Fm : sS → Option (Int64 × sS)) : Prop := ∀ c S T, topR c S T → c < 1000 → ∃ e S' v T', Fc S = some (nI e, S') ∧ e ≤ 2 ∧ Fm T = some (v, T') ∧ T'.1 33 0 0 25 = nI e ∧ (e = 0 → S'.2.1 64 0 0 0 = v) ∧ topR (c + 1) S' T' ∧ ∀ x, rmR S x → ∃ x', x' ≤ x + 1 ∧ rmR S' x'
def to64 (X : Option (Int32 × sS)) : Option (Int64 × sS) := X.bind fun q => some (q.1.toInt64, q.2)
theorem rmR.exc {x : Nat} (h : rmR S x) : rmR (sxc S) (x + 1) := by
  unfold rmR at h ⊢
  show S.2.2.2.2.2.1 + 1 = 7857 + 14 * cF S.2.2.1.1 + 4 * cT S.2.2.1.2 + (x + 1) ∧ S.2.2.2.2.2.2 + 6 ≤ 200000 + 96 * cF S.2.2.1.1 + 40 * cT S.2.2.1.2 + 6 * (x + 1)
  omega
/-! an exception changes nothing of what counts -/
theorem own.exc (h : own S) : own (sxc S) := h
theorem wR.exc (w : wR φ D F N P S T A) : wR φ D F N P (sxc S) T A := w
theorem gcR.exc (g : gcR D S) : gcR D (sxc S) := g
theorem stT.exc (h : stT φ D F N P S T A) : stT φ D F N P (sxc S) T A := h
/-! refused: nothing changes -/
theorem cal.ref {c e : Nat} {v : Int64} (h : topR c S T) (he : e = 1 ∨ e = 2) {X : Option (Int32 × sS)} {Y : Option (Int64 × sS)} (hX : X = some (nI e, sxc S)) (hY : Y = some (v, siI T 33 0 0 25 (nI e))) : ∃ e S' v T', X = some (nI e, S') ∧ e ≤ 2 ∧ Y = some (v, T') ∧ T'.1 33 0 0 25 = nI e ∧ (e = 0 → S'.2.1 64 0 0 0 = v) ∧ topR (c + 1) S' T' ∧ ∀ x, rmR S x → ∃ x', x' ≤ x + 1 ∧ rmR S' x' := by
  obtain ⟨φ, D, F, N, P, A, h1, h2⟩ := h
  exact ⟨e, _, v, _, hX, by omega, hY, siI_at _ _ _ _ _ _, fun z => by omega, ⟨φ, D, F, N, P, A, (h1.exc).qry (clB.refl _) (moB.er _ _), by omega⟩, fun x hx => ⟨x + 1, Nat.le_refl _, hx.exc⟩⟩
theorem lt_or (v : Int32) (n : Nat) (hn : n < 2147483648) : jcmp .lt v (nI n) = true ∨ ∃ j : Nat, n ≤ j ∧ j < 2147483648 ∧ v = nI j := by
  by_cases c : v < nI n
  · exact Or.inl (decide_eq_true c)
  · refine Or.inr ?_
    have h0 : ¬ v < 0 := fun z => c (by
      rw [Int32.lt_iff_toInt_lt] at z ⊢
      rw [nI_toInt hn]
      have : (0 : Int32).toInt = 0 := by decide
      omega)
    obtain ⟨j, hj, rfl⟩ := nI_of h0
    refine ⟨j, ?_, hj, rfl⟩
    rw [nI_ltI hj hn] at c
    omega
theorem c_run (hG : gG G) (ht : 2147483648 < t) (v1 : Int32) : cal (F_149 G t v1) (fun T => to64 (F_191 G t v1 T)) := by
  intro c S T h hc
  have e25 : ∀ w0, (siI T 33 0 0 25 (nI w0)).1 33 0 0 25 = nI w0 := fun w0 => siI_at _ _ _ _ _ _
  have REF : ∀ x e, (x = 0 ∧ e = 1 ∨ x = 1 ∧ e = 2) → F_121 G t v1 S = some (.inr x, sxc S) → F_191 G t v1 T = some (nI 0, siI T 33 0 0 25 (nI e)) → ∃ e S' v T', F_149 G t v1 S = some (nI e, S') ∧ e ≤ 2 ∧ to64 (F_191 G t v1 T) = some (v, T') ∧ T'.1 33 0 0 25 = nI e ∧ (e = 0 → S'.2.1 64 0 0 0 = v) ∧ topR (c + 1) S' T' ∧ ∀ x, rmR S x → ∃ x', x' ≤ x + 1 ∧ rmR S' x' := fun x e hx h1 h2 => by
    refine cal.ref (e := e) (v := (nI 0).toInt64) h (by omega) ?_ ?_
    · unfold F_149
      rw [h1, bdS]
      rcases hx with ⟨rfl, rfl⟩ | ⟨rfl, rfl⟩
      · rfl
      · rfl
    · unfold to64
      rw [h2]
      rfl
  have eM : ∀ w0, (w0 = 1 ∨ w0 = 2) → F_191_30 G t v1 (nI w0) T = some (nI 0, siI T 33 0 0 25 (nI w0)) := fun w0 hw => by
    unfold F_191_30
    rw [e25]
    rcases hw with rfl | rfl
    · rfl
    · rfl
  rcases lt_or v1 1 (by omega) with c1 | ⟨j, j1, j2, rfl⟩
  · refine REF 0 1 (Or.inl ⟨rfl, rfl⟩) ?_ ?_
    · unfold F_121
      rw [c1, cond_true]
    · unfold F_191 F_191_13
      rw [c1, cond_true]
      exact eM 1 (Or.inl rfl)
  · by_cases c2 : j ≤ 1000
    · have l1 : jcmp .lt (nI j) (nI 1) = false := by rw [jcLT (by omega) (by omega)]; exact decide_eq_false (by omega)
      have l2 : jcmp .le (nI j) (nI 1000) = true := by rw [jcLE (by omega) (by omega)]; exact decide_eq_true c2
      obtain ⟨φ, D, F, N, P, A, h1, h2⟩ := id h
      have s7 := h1.w.1.2.2.2.2.2.2.2.1.2.2.2.2.2.2.2
      have BAD : ∀ v, v ≤ 4 → v ≠ 1 → S.1 23 0 0 7 = nI v → ∃ e S' v T', F_149 G t (nI j) S = some (nI e, S') ∧ e ≤ 2 ∧ to64 (F_191 G t (nI j) T) = some (v, T') ∧ T'.1 33 0 0 25 = nI e ∧ (e = 0 → S'.2.1 64 0 0 0 = v) ∧ topR (c + 1) S' T' ∧ ∀ x, rmR S x → ∃ x', x' ≤ x + 1 ∧ rmR S' x' := fun v hv hv1 e => by
        have j7 : jcmp .eq (nI v) (nI 1) = false := by rw [jcEQ (by omega) (by omega)]; exact decide_eq_false hv1
        refine REF 1 2 (Or.inr ⟨rfl, rfl⟩) ?_ ?_
        · unfold F_121
          rw [l1, cond_false, l2, cond_true, e, j7, cond_false]
        · unfold F_191
          rw [l1, cond_false, l2, cond_true, ← s7, e, j7, cond_false]
          exact eM 2 (Or.inr rfl)
      rcases h1 with ⟨_, _, z, _⟩ | ⟨t29, af⟩
      · exact BAD 0 (by omega) (by omega) z
      · rcases id af with ⟨r, R⟩ | E
        · have z7 : S.1 23 0 0 7 = nI 1 := R.2.2.2.2.2.2.2.1
          have af' : aftR φ D F N P S (siI T 33 0 0 25 (nI 0)) A := by
            rcases af with ⟨r, w, gc, x⟩ | ⟨w, gc, x⟩
            · exact Or.inl ⟨r, w.qry (clB.refl _) (moB.er _ _), gc, x⟩
            · exact Or.inr ⟨w.qry (clB.refl _) (moB.er _ _), gc, x⟩
          obtain ⟨n, S1, T1, φ1, D1, A1, x1, x2, x3, x4, x5, x6⟩ := run_loop (F := F) (N := N) (P := P) hG ht c2 j 0 t t S (siI T 33 0 0 25 (nI 0)) φ D A (by omega) (by omega) (by omega) af' (by omega)
          have k25 : T1.1 33 0 0 25 = nI 0 := (congrArg Prod.fst x4).trans (e25 0)
          have k29 : T1.1 33 0 0 29 = nI 1 := (congrArg Prod.snd x4).trans (by show (siI T 33 0 0 25 (nI 0)).1 33 0 0 29 = _; rw [gI, if_neg (by omega)]; exact t29)
          refine ⟨0, siL S1 64 0 0 0 (nI n).toInt64, (nI n).toInt64, T1, ?_, by omega, ?_, k25, fun _ => ?_, ⟨φ1, D1, F, N, P, A1, ?_, by omega⟩, fun x hx => ⟨x, by omega, (x5 x hx).same rfl⟩⟩
          · unfold F_149 F_121
            rw [l1, cond_false, l2, cond_true, z7, show jcmp .eq (nI 1) (nI 1) = true from by decide, cond_true, x1, bdS]
            rfl
          · show to64 (F_191 G t (nI j) T) = _
            unfold F_191 F_191_30
            rw [l1, cond_false, l2, cond_true, ← s7, z7, show jcmp .eq (nI 1) (nI 1) = true from by decide, cond_true, e25, show jcmp .le (nI 0) 0 = true from by decide, cond_true, x2]
            rfl
          · rw [gL, if_pos ⟨rfl, rfl, rfl, rfl⟩]
          · have st : stT φ1 D1 F N P S1 T1 A1 := Or.inr ⟨k29, x3⟩
            exact st.qry (clB.out _ _) (moB.refl _)
        · obtain ⟨_, _, _, _, z | z | z⟩ := E
          · exact BAD 2 (by omega) (by omega) z
          · exact BAD 3 (by omega) (by omega) z
          · exact BAD 4 (by omega) (by omega) z
    · have l1 : jcmp .lt (nI j) (nI 1) = false := by rw [jcLT (by omega) (by omega)]; exact decide_eq_false (by omega)
      have l2 : jcmp .le (nI j) (nI 1000) = false := by rw [jcLE (by omega) (by omega)]; exact decide_eq_false c2
      refine REF 0 1 (Or.inl ⟨rfl, rfl⟩) ?_ ?_
      · unfold F_121
        rw [l1, cond_false, l2, cond_false]
      · unfold F_191 F_191_13
        rw [l1, cond_false, l2, cond_false]
        exact eM 1 (Or.inl rfl)
end RUN
