/-! CLOSE: one waiter. -/
section CL1
variable {φ : Nat → Nat} {D : Nat → Prop} {F N : Nat} {P : aP} {S S' T T' : sS} {A : aS} {r d p f pc n m e b k y : Nat} {G : jG} {t : Nat}
theorem jf1 : jfit 1 (.int (nI 1)) = true := by decide
theorem jf0 : jfit 1 (.int (nI 0)) = true := by decide
set_option maxHeartbeats 4000000 in
set_option linter.unusedSimpArgs false in
theorem e101s {s st c pp dd k : Nat} (hs : s < 16) (h3 : S.1 25 s 0 3 = nI (dd + 1)) (hdd : dd < 30) (hp : S.2.2.1.1 s dd = some pp) (hMp : S.2.2.2.1.1 pp = true) (hst : S.1 25 s 0 4 = nI st) (hst2 : st = 2 ∨ st = 4) (hc : st = 4 → S.1 25 s 0 6 = nI c ∧ c ≤ 4 ∧ 3 * c ≤ n ∧ k < c ∧ S.2.1 30 pp 1 (n - 3 * c + 3 * k + 1) ≠ 0) (o1 : S.1 29 pp 1 2 = nI n) (hn : n ≤ 16) (e89 : F_89 G t (s, 0) (nI (y + 2)) (nI 1) (nI 1) S = some (nI k, S)) : F_101 G t (s, 0) (nI (y + 2)) S = some (nI 1, siI (siI S 29 pp 1 2 (nI (n - dw st c))) 25 s 0 4 (nI 1)) := by
  have e91 := f_91 (G := G) (t := t) (S := S) (s := s) (st := st) (c := c) (pp := pp) (n := n) hs hst (by omega) (fun z => ⟨(hc z).1, (hc z).2.1⟩) hMp o1 hn
  have j1 := jf1
  rcases hst2 with c2 | c4
  · subst c2
    clear hc
    unfold F_101
    simp (disch := first | assumption | omega) only [gI, gI2, gL, gL1, gL2, jcLT, jcGE, jcGT, jcLE, jcEQ, jcNE, dEQ, nIt, lgNE, lgEQ, lgGE, lgLT, lgGT, lgLE, jinT, nIc, nI0, nI1, nIo, nIs, nI_add, nIm, nIn0, szl0, szl1, szl2, szl3, szl4, szl5, Nat.add_sub_assoc, Nat.add_zero, Nat.reduceSub, Nat.reduceAdd, Nat.reduceMul, Nat.reduceEqDiff,  jifT, bdS, sifN, sifS, omN, omS, cdI, x25, x26, x27, x28, x29, x30, x31, x32, xr0, xr1, xr2, xr3, xr4, xr5, if_pos, if_neg, true_and, and_true, false_and, and_false, and_self, Bool.and_true, if_true, if_false, reduceIte, cond_true, cond_false, not_true_eq_false, not_false_eq_true, F_66, h3, hp, hMp, hst, e89, F_101_40, F_101_89, e91, j1]
  · subst c4
    obtain ⟨q1, q2, q3, q4, q5⟩ := hc rfl
    have rw1 : rwS S pp 1 n := ⟨xr1 hMp, o1, hn⟩
    have e1 := f_26 (G := G) (t := t) rw1 (i := n - 3 * c + 3 * k + 1) (by omega)
    have q6 : nI n - nI 3 * nI (c - k) = nI (n - 3 * c + 3 * k) := by rw [nIml, nIs (by omega), show n - 3 * (c - k) = n - 3 * c + 3 * k by omega]
    clear hc
    unfold F_101
    simp (disch := first | assumption | omega) only [gI, gI2, gL, gL1, gL2, jcLT, jcGE, jcGT, jcLE, jcEQ, jcNE, dEQ, nIt, lgNE, lgEQ, lgGE, lgLT, lgGT, lgLE, jinT, nIc, nI0, nI1, nIo, nIs, nI_add, nIm, nIn0, szl0, szl1, szl2, szl3, szl4, szl5, Nat.add_sub_assoc, Nat.add_zero, Nat.reduceSub, Nat.reduceAdd, Nat.reduceMul, Nat.reduceEqDiff,  jifT, bdS, sifN, sifS, omN, omS, cdI, x25, x26, x27, x28, x29, x30, x31, x32, xr0, xr1, xr2, xr3, xr4, xr5, if_pos, if_neg, true_and, and_true, false_and, and_false, and_self, Bool.and_true, if_true, if_false, reduceIte, cond_true, cond_false, not_true_eq_false, not_false_eq_true, F_66, F_88, h3, hp, hMp, hst, e89, F_101_40, F_101_89, o1, q1, q6, e1, eq_false q5, e91, j1]
set_option maxHeartbeats 4000000 in
set_option linter.unusedSimpArgs false in
theorem e101r {s st c pp dd k fl : Nat} (hs : s < 16) (h3 : S.1 25 s 0 3 = nI (dd + 1)) (hdd : dd < 30) (hp : S.2.2.1.1 s dd = some pp) (hMp : S.2.2.2.1.1 pp = true) (hst : S.1 25 s 0 4 = nI st) (hst2 : st = 3 ∨ st = 4) (hc : st = 4 → S.1 25 s 0 6 = nI c ∧ c ≤ 4 ∧ 3 * c ≤ n ∧ k < c ∧ S.2.1 30 pp 1 (n - 3 * c + 3 * k + 1) = 0) (o1 : S.1 29 pp 1 2 = nI n) (hn : n ≤ 16) (hdw : n - dw st c ≤ 14) (e89 : F_89 G t (s, 0) (nI (y + 2)) (nI 1) (nI 1) S = some (nI k, S)) (hfl : fl = if st = 4 then k else 0) : F_101 G t (s, 0) (nI (y + 2)) S = some (nI 0, rpush (rpush (siI (siI S 29 pp 1 2 (nI (n - dw st c))) 25 s 0 4 (nI 1)) pp 1 (n - dw st c) 0 (nI 0)) pp 1 (n - dw st c + 1) (nI fl).toInt64 (nI 0)) := by
  have e91 := f_91 (G := G) (t := t) (S := S) (s := s) (st := st) (c := c) (pp := pp) (n := n) hs hst (by omega) (fun z => ⟨(hc z).1, (hc z).2.1⟩) hMp o1 hn
  have j1 := jf0
  have e7 : F_78 G t (pp, 1) 0 (nI 0) (siI (siI S 29 pp 1 2 (nI (n - dw st c))) 25 s 0 4 (nI 1)) = some ((), rpush (siI (siI S 29 pp 1 2 (nI (n - dw st c))) 25 s 0 4 (nI 1)) pp 1 (n - dw st c) 0 (nI 0)) := f_78 ⟨xr1 hMp, by rw [gI, if_neg (by omega), siI_at], show n - dw st c ≤ 16 by omega⟩ (show n - dw st c < 16 by omega)
  have e8 : F_78 G t (pp, 1) (nI fl).toInt64 (nI 0) (rpush (siI (siI S 29 pp 1 2 (nI (n - dw st c))) 25 s 0 4 (nI 1)) pp 1 (n - dw st c) 0 (nI 0)) = some ((), rpush (rpush (siI (siI S 29 pp 1 2 (nI (n - dw st c))) 25 s 0 4 (nI 1)) pp 1 (n - dw st c) 0 (nI 0)) pp 1 (n - dw st c + 1) (nI fl).toInt64 (nI 0)) := f_78 ⟨xr1 hMp, siI_at _ _ _ _ _ _, show n - dw st c + 1 ≤ 16 by omega⟩ (show n - dw st c + 1 < 16 by omega)
  have e9 : ∀ x, (rpush (siI (siI S 29 pp 1 2 (nI (n - dw st c))) 25 s 0 4 (nI 1)) pp 1 x 0 (nI 0)).2.2 = S.2.2 := fun x => rfl
  rcases hst2 with c2 | c4
  · subst c2
    rw [if_neg (by omega)] at hfl
    subst hfl
    have z0 : (nI 0).toInt64 = 0 := by decide
    rw [z0] at e8 ⊢
    clear hc
    unfold F_101
    simp (disch := first | assumption | omega) only [gI, gI2, gL, gL1, gL2, jcLT, jcGE, jcGT, jcLE, jcEQ, jcNE, dEQ, nIt, lgNE, lgEQ, lgGE, lgLT, lgGT, lgLE, jinT, nIc, nI0, nI1, nIo, nIs, nI_add, nIm, nIn0, szl0, szl1, szl2, szl3, szl4, szl5, Nat.add_sub_assoc, Nat.add_zero, Nat.reduceSub, Nat.reduceAdd, Nat.reduceMul, Nat.reduceEqDiff,  jifT, bdS, sifN, sifS, omN, omS, cdI, x25, x26, x27, x28, x29, x30, x31, x32, xr0, xr1, xr2, xr3, xr4, xr5, if_pos, if_neg, true_and, and_true, false_and, and_false, and_self, Bool.and_true, if_true, if_false, reduceIte, cond_true, cond_false, not_true_eq_false, not_false_eq_true, F_66, h3, hp, hMp, hst, e89, F_101_40, F_101_89, F_101_129, e91, j1, e7, e8, e9]
  · subst c4
    rw [if_pos rfl] at hfl
    subst hfl
    obtain ⟨q1, q2, q3, q4, q5⟩ := hc rfl
    have rw1 : rwS S pp 1 n := ⟨xr1 hMp, o1, hn⟩
    have e1 := f_26 (G := G) (t := t) rw1 (i := n - 3 * c + 3 * fl + 1) (by omega)
    have q6 : nI n - nI 3 * nI (c - fl) = nI (n - 3 * c + 3 * fl) := by rw [nIml, nIs (by omega), show n - 3 * (c - fl) = n - 3 * c + 3 * fl by omega]
    clear hc
    unfold F_101
    simp (disch := first | assumption | omega) only [gI, gI2, gL, gL1, gL2, jcLT, jcGE, jcGT, jcLE, jcEQ, jcNE, dEQ, nIt, lgNE, lgEQ, lgGE, lgLT, lgGT, lgLE, jinT, nIc, nI0, nI1, nIo, nIs, nI_add, nIm, nIn0, szl0, szl1, szl2, szl3, szl4, szl5, Nat.add_sub_assoc, Nat.add_zero, Nat.reduceSub, Nat.reduceAdd, Nat.reduceMul, Nat.reduceEqDiff,  jifT, bdS, sifN, sifS, omN, omS, cdI, x25, x26, x27, x28, x29, x30, x31, x32, xr0, xr1, xr2, xr3, xr4, xr5, if_pos, if_neg, true_and, and_true, false_and, and_false, and_self, Bool.and_true, if_true, if_false, reduceIte, cond_true, cond_false, not_true_eq_false, not_false_eq_true, F_66, F_88, h3, hp, hMp, hst, e89, F_101_40, F_101_89, F_101_129, o1, q1, q6, e1, eq_true q5, e91, j1, e7, e8, e9]
/-! who waits for a channel in any way: what is known of it -/
set_option maxHeartbeats 4000000 in
set_option linter.unusedSimpArgs false in
theorem wR.clw (h : wR φ D F N P S T A) (ht : 100 < t) (iq : ∀ s, s < 16 → s ≠ r → tpR P (A.2.1 s) (A.2.2.1 s)) (h1 : A.1 r = 1) (hy : y < 600) {s : Nat} (hx : lw S A y 1 1 = some s) :
    ∃ st c dd pp k n f pc m, s < 16 ∧ s ≠ r ∧ A.1 s = st ∧ (2 ≤ st ∧ st ≤ 4) ∧ A.2.1 s = dd + 1 ∧ dd < 30 ∧ S.2.2.1.1 s dd = some pp ∧ A.2.2.1 s dd = (f, pc, n, m, 0) ∧ pc < P.2.2.2.1 f ∧ n ≤ 16 ∧ dw st c ≤ n ∧ (st ≠ 2 → n - dw st c ≤ 14) ∧ cO S A s y 1 1 = some k ∧ k < 16 ∧ (st = 4 → S.1 25 s 0 6 = nI c ∧ 1 ≤ c ∧ c ≤ 4 ∧ 3 * c ≤ n ∧ k < c ∧ ∃ q, pc = q + 1 ∧ P.2.2.2.2.2 (P.2.2.1 f + q) &&& nI 7 = nI c) ∧
      ((cO S A s y 1 0 = some k ∧ (st = 2 ∨ st = 4) ∧ (st = 4 → S.2.1 30 pp 1 (n - 3 * c + 3 * k + 1) ≠ 0) ∧ ∀ b, cO S A s y 0 1 = some b → st = 4 ∧ k < b ∧ b < 16) ∨ (cO S A s y 0 1 = some k ∧ (st = 3 ∨ st = 4) ∧ (st = 4 → S.2.1 30 pp 1 (n - 3 * c + 3 * k + 1) = 0) ∧ ∀ b, cO S A s y 1 0 = some b → st = 4 ∧ k < b ∧ b < 16)) := by
  obtain ⟨hs, ⟨k, hk, hk16⟩, h2, h4⟩ := h.lwS ht hy (by omega) (by omega) hx
  have hsr : s ≠ r := fun z => by rw [z] at h2; omega
  have R := h.2.1 s hs
  obtain ⟨dd, e⟩ : ∃ d, A.2.1 s = d + 1 := ⟨A.2.1 s - 1, by have := R.2.2.2.1; omega⟩
  obtain ⟨pp, hp, fr⟩ := R.fr (d := dd) (by omega)
  have h30 := R.2.2.1.2.2
  have tp := iq s hs hsr dd e
  obtain ⟨_, wt⟩ := h.2.2.2.2.2.2.1.2 s hs h2 h4
  obtain ⟨wt2, wt3, wt4⟩ := wt dd e
  have hn := fr.2.2.2.1.2.2.1
  have hk0 := hk
  have c10 := cO_e (A := A) e hp y 1 0
  have c01 := cO_e (A := A) e hp y 0 1
  rw [cO_e e hp] at hk
  generalize hfd : A.2.2.1 s dd = fd at hn wt2 wt3 wt4 tp hk c10 c01
  obtain ⟨f, pc, n, m, ee⟩ := fd
  dsimp only at hn wt2 wt3 wt4 tp hk c10 c01
  have tp1 : ee = 0 := tp.1
  subst tp1
  obtain ⟨z1, z2, z3⟩ := csO_st hk
  have b16 : ∀ b, cO S A s y 0 1 = some b ∨ cO S A s y 1 0 = some b → b < 16 := fun b hb => by
    rcases hb with hb | hb
    · exact ((h.cls (G := fun _ => (0, fun _ => 0)) (t := t) ht hs hy (show 0 ≤ 1 by omega) (show 1 ≤ 1 by omega)).2 b hb).1
    · exact ((h.cls (G := fun _ => (0, fun _ => 0)) (t := t) ht hs hy (show 1 ≤ 1 by omega) (show 0 ≤ 1 by omega)).2 b hb).1
  have sp : ∀ c, (A.1 s = 4 → S.1 25 s 0 6 = nI c ∧ c ≤ 4) → ((cO S A s y 1 0 = some k ∧ (A.1 s = 2 ∨ A.1 s = 4) ∧ (A.1 s = 4 → S.2.1 30 pp 1 (n - 3 * c + 3 * k + 1) ≠ 0) ∧ ∀ b, cO S A s y 0 1 = some b → A.1 s = 4 ∧ k < b ∧ b < 16) ∨ (cO S A s y 0 1 = some k ∧ (A.1 s = 3 ∨ A.1 s = 4) ∧ (A.1 s = 4 → S.2.1 30 pp 1 (n - 3 * c + 3 * k + 1) = 0) ∧ ∀ b, cO S A s y 1 0 = some b → A.1 s = 4 ∧ k < b ∧ b < 16)) := fun c hc => by
    rcases csO_sp S pp n (S.1 25 s 0 6).toNatClampNeg (A.1 s) y with ⟨q1, _⟩ | ⟨a, q1, q2, q3, q4⟩ | ⟨a, q1, q2, q3, q4⟩
    · rw [hk] at q1; cases q1
    · rw [hk] at q1
      cases q1
      refine Or.inl ⟨c10.trans q2, by omega, fun z => ?_, fun b hb => ?_⟩
      · rcases q3 with q3 | q3
        · omega
        · have := q3.2
          rw [(hc z).1, nI_clamp (by have := (hc z).2; omega)] at this
          exact this
      · have l1 := q4 b (c01.symm.trans hb)
        have l2 := (csO_st (c01.symm.trans hb)).2.2
        have := b16 b (Or.inl hb)
        by_cases c4 : A.1 s = 4
        · exact ⟨c4, l1, this⟩
        · have := l2 c4
          omega
    · rw [hk] at q1
      cases q1
      refine Or.inr ⟨c01.trans q2, by omega, fun z => ?_, fun b hb => ?_⟩
      · rcases q3 with q3 | q3
        · omega
        · have := q3.2
          rw [(hc z).1, nI_clamp (by have := (hc z).2; omega)] at this
          exact this
      · have l1 := q4 b (c10.symm.trans hb)
        have l2 := (csO_st (c10.symm.trans hb)).2.2
        have := b16 b (Or.inr hb)
        by_cases c4 : A.1 s = 4
        · exact ⟨c4, l1, this⟩
        · have := l2 c4
          omega
  by_cases c4 : A.1 s = 4
  · obtain ⟨c, c1, c2, c3, c5, c6, c7, _⟩ := wt4 c4
    have kc := z2 c4
    rw [c3, nI_clamp (by omega)] at kc
    have sp := sp c (fun _ => ⟨c3, c2⟩)
    rw [c4] at sp
    exact ⟨4, c, dd, pp, k, n, f, pc, m, hs, hsr, c4, by omega, e, by omega, hp, hfd, tp.2, hn, show 3 * c ≤ n from c5, fun _ => show n - 3 * c ≤ 14 by omega, hk0, hk16, fun _ => ⟨c3, c1, c2, c5, kc, c7⟩, sp⟩
  · have sp := sp 0 (fun z => absurd z c4)
    by_cases c2 : A.1 s = 2
    · rw [c2] at sp
      exact ⟨2, 0, dd, pp, k, n, f, pc, m, hs, hsr, c2, by omega, e, by omega, hp, hfd, tp.2, hn, show 2 ≤ n from wt2 c2, fun z => absurd rfl z, hk0, hk16, fun z => by omega, sp⟩
    · have c3 : A.1 s = 3 := by omega
      have w3 := wt3 c3
      rw [c3] at sp
      exact ⟨3, 0, dd, pp, k, n, f, pc, m, hs, hsr, c3, by omega, e, by omega, hp, hfd, tp.2, hn, show 1 ≤ n from w3.1, fun _ => show n - 1 ≤ 14 by omega, hk0, hk16, fun z => by omega, sp⟩
end CL1
