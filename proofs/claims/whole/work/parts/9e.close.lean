/-! CLOSE: a waiter panics. -/
theorem siI_id (S : sS) (t i j k : Nat) {x : Int32} (h : S.1 t i j k = x) : siI S t i j k x = S := by
  refine Prod.ext (funext fun a => funext fun b => funext fun c => funext fun q => ?_) rfl
  rw [gI]
  by_cases h1 : a = t ∧ b = i ∧ c = j ∧ q = k
  · obtain ⟨rfl, rfl, rfl, rfl⟩ := h1
    rw [if_pos ⟨rfl, rfl, rfl, rfl⟩]
    exact h.symm
  · rw [if_neg h1]
theorem siI_tw (S : sS) (t i j k : Nat) (x x' : Int32) : siI (siI S t i j k x) t i j k x' = siI S t i j k x' := by
  refine Prod.ext (funext fun a => funext fun b => funext fun c => funext fun q => ?_) rfl
  rw [gI, gI, gI]
  by_cases h1 : a = t ∧ b = i ∧ c = j ∧ q = k
  · rw [if_pos h1, if_pos h1]
  · rw [if_neg h1, if_neg h1, if_neg h1]
theorem luS_tw (S : sS) (s a q : Nat) (x : Int32) : luS (siI S 25 s 0 4 x) s a q = luS S s a q := by
  unfold luS
  rw [siI_tw]
section CLP
variable {φ : Nat → Nat} {D : Nat → Prop} {F N : Nat} {P : aP} {S S' T T' : sS} {A : aS} {r d p f pc n m e b k y : Nat} {G : jG} {t : Nat}
set_option maxHeartbeats 4000000 in
set_option linter.unusedSimpArgs false in
theorem l_178 {s : Nat} {Q : List Nat} (hs : s < 16) (hq : ∀ x, x ∈ Q → x < 16 ∧ x ≠ s) (hl : Q.length < 16) (h1 : ∀ (i x : Nat), Q[i]? = some x → T.1 45 0 0 i = nI x) (h2 : T.1 33 0 0 15 = nI (Q.length + 1)) (h3 : T.1 45 0 0 Q.length = nI s) : ∀ j k tt, k + j = Q.length → j + 1 < tt → F_178_18 G t tt (nI s) (nI k) (nI k) T = some ((), siI T 33 0 0 15 (nI Q.length)) := by
  intro j
  induction j with
  | zero =>
    intro k tt e1 e2
    obtain ⟨u, rfl⟩ : ∃ u, tt = u + 2 := ⟨tt - 2, by omega⟩
    have : k = Q.length := by omega
    subst this
    clear hq h1
    rw [F_178_18]
    simp (disch := first | assumption | omega) only [gI, gI2, gL, gL1, gL2, jcLT, jcGE, jcGT, jcLE, jcEQ, jcNE, dEQ, nIt, lgNE, lgEQ, lgGE, lgLT, lgGT, lgLE, jinT, nIc, nI0, nI1, nIo, nIs, nI_add, nIm, nIn0, szl0, szl1, szl2, szl3, szl4, szl5, Nat.add_sub_assoc, Nat.add_zero, Nat.reduceSub, Nat.reduceAdd, Nat.reduceMul, Nat.reduceEqDiff,  jifT, bdS, sifN, sifS, omN, omS, cdI, x25, x26, x27, x28, x29, x30, x31, x32, xr0, xr1, xr2, xr3, xr4, xr5, if_pos, if_neg, true_and, and_true, false_and, and_false, and_self, Bool.and_true, if_true, if_false, reduceIte, cond_true, cond_false, not_true_eq_false, not_false_eq_true, x51, x52, x53, x54, x55, x56, x57, x58, x59, x60, x61, x62, x63, F_178_51, h2, h3]
    rw [F_178_18]
    simp (disch := first | assumption | omega) only [gI, gI2, gL, gL1, gL2, jcLT, jcGE, jcGT, jcLE, jcEQ, jcNE, dEQ, nIt, lgNE, lgEQ, lgGE, lgLT, lgGT, lgLE, jinT, nIc, nI0, nI1, nIo, nIs, nI_add, nIm, nIn0, szl0, szl1, szl2, szl3, szl4, szl5, Nat.add_sub_assoc, Nat.add_zero, Nat.reduceSub, Nat.reduceAdd, Nat.reduceMul, Nat.reduceEqDiff,  jifT, bdS, sifN, sifS, omN, omS, cdI, x25, x26, x27, x28, x29, x30, x31, x32, xr0, xr1, xr2, xr3, xr4, xr5, if_pos, if_neg, true_and, and_true, false_and, and_false, and_self, Bool.and_true, if_true, if_false, reduceIte, cond_true, cond_false, not_true_eq_false, not_false_eq_true, x51, x52, x53, x54, x55, x56, x57, x58, x59, x60, x61, x62, x63, h2]
  | succ j ih =>
    intro k tt e1 e2
    obtain ⟨u, rfl⟩ : ∃ u, tt = u + 1 := ⟨tt - 1, by omega⟩
    have e := ih (k + 1) u (by omega) (by omega)
    have hk : k < Q.length := by omega
    have e3 := h1 k Q[k] (List.getElem?_eq_getElem hk)
    have e4 := hq Q[k] (List.getElem_mem hk)
    generalize Q[k] = x at e3 e4
    obtain ⟨e5, e6⟩ := e4
    have e7 := siI_id T 45 0 0 k (x := nI x) e3
    rw [← e]
    clear ih hq h1 e
    rw [F_178_18]
    simp (disch := first | assumption | omega) only [gI, gI2, gL, gL1, gL2, jcLT, jcGE, jcGT, jcLE, jcEQ, jcNE, dEQ, nIt, lgNE, lgEQ, lgGE, lgLT, lgGT, lgLE, jinT, nIc, nI0, nI1, nIo, nIs, nI_add, nIm, nIn0, szl0, szl1, szl2, szl3, szl4, szl5, Nat.add_sub_assoc, Nat.add_zero, Nat.reduceSub, Nat.reduceAdd, Nat.reduceMul, Nat.reduceEqDiff,  jifT, bdS, sifN, sifS, omN, omS, cdI, x25, x26, x27, x28, x29, x30, x31, x32, xr0, xr1, xr2, xr3, xr4, xr5, if_pos, if_neg, true_and, and_true, false_and, and_false, and_self, Bool.and_true, if_true, if_false, reduceIte, cond_true, cond_false, not_true_eq_false, not_false_eq_true, x51, x52, x53, x54, x55, x56, x57, x58, x59, x60, x61, x62, x63, F_178_51, h2, e3, e7]
/-! the queue's places past its end do not count -/
theorem wR.junk (h : wR φ D F N P S T A) (x : Int32) : wR φ D F N P S (siI T 45 0 0 A.2.2.2.1.length x) A := by
  obtain ⟨⟨h1, h1'⟩, h2, h3, h4, h5, h6, h7, h8, h9, h10⟩ := h
  have ag : agr (fun t i j => t = 45) T (siI T 45 0 0 A.2.2.2.1.length x) := agr.i (agr.refl _ _) _ _ rfl
  refine ⟨⟨?_, h1'⟩, fun s hs => ?_, ?_, fun y hy => ?_, h5, ?_, ?_, ?_, ?_, h10⟩
  · exact h1.keep (fun t x y => rfl) (fun t x y => (ag t 0 0 (by omega)).1) ⟨by rw [(ag 33 0 0 (by omega)).1], by rw [(ag 33 0 0 (by omega)).1]⟩
  · exact (h2 s hs).keep ⟨rfl, rfl⟩ (ag 54 s 0 (by omega)).1 (fun d p hp => ⟨hp, fun z => z, fun t x y j z => ⟨rfl, rfl⟩⟩) (fun d t x y => ag t s d (by omega))
  · exact h3.keep (fun t x y => ⟨rfl, rfl⟩) ⟨(ag 36 0 0 (by omega)).1, (ag 43 0 0 (by omega)).2⟩
  · exact (h4 y hy).keep (hk.refl _) (fun t x y => ag t _ 0 (by omega))
  · obtain ⟨a, a1, a2, a3, a4, a5, a6⟩ := h6
    refine ⟨a, a1, a2, a3, by rw [(ag 33 0 0 (by omega)).1]; exact a4, a5, fun i z hz => ⟨(a6 i z hz).1, ?_⟩⟩
    have : i < A.2.2.2.1.length := by
      obtain ⟨q, _⟩ := List.getElem?_eq_some_iff.mp hz
      exact q
    rw [gI, if_neg (by omega)]
    exact (a6 i z hz).2
  · unfold wtR
    rw [(ag 33 0 0 (by omega)).2]
    refine ⟨h7.1, fun s hs x y => ?_⟩
    rw [(ag 54 s 0 (by omega)).2]
    exact h7.2 s hs x y
  · unfold scaR
    rw [(ag 33 0 0 (by omega)).1]
    exact h8
  · exact h9.keep ⟨rfl, rfl, rfl⟩ ⟨by rw [(ag 33 0 0 (by omega)).1], (ag 44 0 0 (by omega)).2⟩
/-! a waiter panics: in all -/
set_option maxHeartbeats 4000000 in
set_option linter.unusedSimpArgs false in
theorem wR.clp (ht : 1000 < t) (h : wR φ D F N P S T A) (w : whR F P) {s st dd pp : Nat} (q : Nat) (hs : s < 16) (hd : A.2.1 s = dd + 1) (h1 : A.1 s = st) (hst : 2 ≤ st ∧ st ≤ 4) (hl : A.2.2.2.1.length < 16) (hp : S.2.2.1.1 s dd = some pp) (hf : A.2.2.1 s dd = (f, pc, n, m, 0)) (hq : ∀ x, x ∈ A.2.2.2.1 → x < 16 ∧ x ≠ s) :
    ∃ S1 T1 S' T' A', F_81 G t (s, 0) (nI 2) (-4) (nI 0) (siI (siI S 29 pp 1 2 (nI (n - q))) 25 s 0 4 (nI 1)) = some ((), S1) ∧ F_155 G t (s, 0) (-4) (rdT (siI T 56 s dd 2 (nI (n - q))) s A.2.2.2.1.length) = some ((), T1) ∧
      (∀ k61 v2 v4, F_102_104 G t k61 v2 v4 (s, 0) S1 = F_102_121 G t k61 v2 v4 S') ∧ F_178 G t (nI s) T1 = some ((), T') ∧ wR φ D F N P S' T' A' ∧ hk S S' ∧
      (A'.1 s = 1 ∧ A'.2.2.2.1 = A.2.2.2.1 ++ [s] ∨ 5 ≤ A'.1 s ∧ A'.2.2.2.1 = A.2.2.2.1) ∧ tpR P (A'.2.1 s) (A'.2.2.1 s) ∧ (∀ z, z ≠ s → A'.1 z = A.1 z ∧ A'.2.1 z = A.2.1 z ∧ A'.2.2.1 z = A.2.2.1 z) ∧ A'.2.2.2.2 = A.2.2.2.2 ∧ (∀ x, rmR S x → rmR S' x) ∧ T'.1 33 0 0 38 = T.1 33 0 0 38 ∧ (∀ i, T'.1 51 i 0 = T.1 51 i 0) ∧ ∀ s' d, s' ≠ s → S'.2.2.1.1 s' d = S.2.2.1.1 s' d := by
  have R := h.2.1 s hs
  have ow := h.2.2.2.2.2.2.2.2.2
  obtain ⟨qa, qa1, qa2, qa3, qa4, qa5, qa6⟩ := h.2.2.2.2.2.1
  rw [h1, hd] at R
  obtain ⟨pp', hp', fr⟩ := R.fr (d := dd) (by omega)
  have epp : pp' = pp := by rw [hp] at hp'; exact (Option.some.inj hp').symm
  subst epp
  rw [hf] at fr
  have hd30 := R.2.2.1.2.2
  generalize hQ : A.2.2.2.1.length = L at hl qa3 qa4 qa5
  -- how it stands before
  have aSS : agr (fun t i j => (t = 25 ∧ i = s ∧ j = 0) ∨ (27 ≤ t ∧ t ≤ 31 ∧ i = pp' ∧ j < 4)) S (endS (siI (siI S 29 pp' 1 2 (nI (n - q))) 25 s 0 4 (nI 1)) pp' 2 (-4) (nI 0)) := (agr.i ((dr_ag _ _ _).mono (fun t i j z => Or.inr z)) _ _ (Or.inl ⟨rfl, rfl, rfl⟩)).trans ((endS_ag _ _ _ _ _).mono (fun t i j z => Or.inr z))
  have aTT : agr (fun t i j => (t = 54 ∧ i = s ∧ j = 0) ∨ (56 ≤ t ∧ t ≤ 63 ∧ i = s ∧ j = dd) ∨ t = 45 ∨ t = 33) T (siL (siI (rdT (siI T 56 s dd 2 (nI (n - q))) s L) 56 s dd 4 (nI 2)) 56 s dd 6 (-4)) := agr.l (agr.i (agr.i (agr.i (agr.i (agr.i (agr.refl _ _) _ _ (by omega)) _ _ (by omega)) _ _ (by omega)) _ _ (by omega)) _ _ (by omega)) _ _ (by omega)
  generalize hS2 : endS (siI (siI S 29 pp' 1 2 (nI (n - q))) 25 s 0 4 (nI 1)) pp' 2 (-4) (nI 0) = S2 at aSS
  generalize hT2 : siL (siI (rdT (siI T 56 s dd 2 (nI (n - q))) s L) 56 s dd 4 (nI 2)) 56 s dd 6 (-4) = T2 at aTT
  have hX2 : S2.2.2 = S.2.2 := by subst hS2; rfl
  have hY2 : T2.2.2 = T.2.2 := by subst hT2; rfl
  have s25 : ∀ k, S2.1 25 s 0 k = if k = 4 then nI 1 else S.1 25 s 0 k := fun k => by
    subst hS2
    rw [(endS_ag _ _ _ _ _ 25 s 0 (by omega)).1, gI]
    by_cases c : k = 4
    · rw [if_pos ⟨rfl, rfl, rfl, c⟩, if_pos c]
    · rw [if_neg (by omega), if_neg c, siI_ne _ _ _ (by omega)]
  have s25l : S2.2.1 25 s 0 = S.2.1 25 s 0 := by
    subst hS2
    rw [(endS_ag _ _ _ _ _ 25 s 0 (by omega)).2]
    rfl
  have t54 : ∀ k, T2.1 54 s 0 k = if k = 0 then nI 1 else T.1 54 s 0 k := fun k => by
    subst hT2
    unfold rdT
    rw [gL1, siI_ne _ _ _ (by omega), siI_ne _ _ _ (by omega), siI_ne _ _ _ (by omega), gI]
    by_cases c : k = 0
    · rw [if_pos ⟨rfl, rfl, rfl, c⟩, if_pos c]
    · rw [if_neg (by omega), if_neg c, siI_ne _ _ _ (by omega)]
  have t45 : T2.1 45 0 0 = (siI T 45 0 0 L (nI s)).1 45 0 0 := by
    subst hT2
    unfold rdT
    rw [gL1, siI_ne _ _ _ (by omega), siI_ne _ _ _ (by omega), siI_self, siI_self, siI_ne _ _ _ (by omega), siI_ne _ _ _ (by omega)]
  have t33 : ∀ k, T2.1 33 0 0 k = if k = 15 then nI (L + 1) else T.1 33 0 0 k := fun k => by
    subst hT2
    unfold rdT
    rw [gL1, siI_ne _ _ _ (by omega), gI]
    by_cases c : k = 15
    · rw [if_pos ⟨rfl, rfl, rfl, c⟩, if_pos c]
    · rw [if_neg (by omega), if_neg c, siI_ne _ _ _ (by omega), siI_ne _ _ _ (by omega), siI_ne _ _ _ (by omega)]
  have t33l : T2.2.1 33 0 0 = T.2.1 33 0 0 := by
    subst hT2
    unfold rdT
    rw [siL_ne _ _ _ (by omega)]
    rfl
  have t54l : T2.2.1 54 s 0 = T.2.1 54 s 0 := by
    subst hT2
    unfold rdT
    rw [siL_ne _ _ _ (by omega)]
    rfl
  have fr2 : frR φ D F P S2 pp' T2 s dd f pc (n - q) m 2 (dfb (A.2.2.1 s) dd) := by
    have z := (fr.drop q).end2 (-4)
    subst hS2
    subst hT2
    refine z.keep z.1 (fun t x y j z => ?_) (fun t x y => ?_)
    · unfold endS
      refine ⟨?_, ?_⟩
      · funext k
        simp (disch := first | assumption | omega) only [gI, gI2, gL, gL1, gL2, jcLT, jcGE, jcGT, jcLE, jcEQ, jcNE, dEQ, nIt, lgNE, lgEQ, lgGE, lgLT, lgGT, lgLE, jinT, nIc, nI0, nI1, nIo, nIs, nI_add, nIm, nIn0, szl0, szl1, szl2, szl3, szl4, szl5, Nat.add_sub_assoc, Nat.add_zero, Nat.reduceSub, Nat.reduceAdd, Nat.reduceMul, Nat.reduceEqDiff,  jifT, bdS, sifN, sifS, omN, omS, cdI, x25, x26, x27, x28, x29, x30, x31, x32, xr0, xr1, xr2, xr3, xr4, xr5, if_pos, if_neg, true_and, and_true, false_and, and_false, and_self, Bool.and_true, if_true, if_false, reduceIte, cond_true, cond_false, not_true_eq_false, not_false_eq_true]
      · rfl
    · unfold rdT
      refine ⟨?_, ?_⟩
      · funext k
        simp (disch := first | assumption | omega) only [gI, gI2, gL, gL1, gL2, jcLT, jcGE, jcGT, jcLE, jcEQ, jcNE, dEQ, nIt, lgNE, lgEQ, lgGE, lgLT, lgGT, lgLE, jinT, nIc, nI0, nI1, nIo, nIs, nI_add, nIm, nIn0, szl0, szl1, szl2, szl3, szl4, szl5, Nat.add_sub_assoc, Nat.add_zero, Nat.reduceSub, Nat.reduceAdd, Nat.reduceMul, Nat.reduceEqDiff,  jifT, bdS, sifN, sifS, omN, omS, cdI, x25, x26, x27, x28, x29, x30, x31, x32, xr0, xr1, xr2, xr3, xr4, xr5, if_pos, if_neg, true_and, and_true, false_and, and_false, and_self, Bool.and_true, if_true, if_false, reduceIte, cond_true, cond_false, not_true_eq_false, not_false_eq_true]
      · rfl
  have R2 : stR φ D F P S2 T2 s 1 (dd + 1) (fset (A.2.2.1 s) dd (f, pc, n - q, m, 2)) := by
    refine R.chg ow hX2 hp aSS (aTT.mono (fun t i j z => by omega)) ⟨?_, ⟨?_, ?_, by omega⟩, ⟨?_, ?_, hd30⟩, by omega, fun _ => ?_, fun z => by omega⟩ (Nat.le_refl _) (fun y _ hy => fset_ne _ hy) (fun y _ hy => dfb_set _ (by omega)) (fun _ => ?_) (fun z => by omega)
    · rw [s25, if_neg (by omega)]; exact R.1
    · rw [s25, if_pos rfl]
    · rw [t54, if_pos rfl]
    · rw [s25, if_neg (by omega)]; exact R.2.2.1.1
    · rw [t54, if_neg (by omega)]; exact R.2.2.1.2.1
    · rw [s25l]; exact R.2.2.2.2.1 (by omega)
    · rw [fset_at, dfb_set _ (Nat.le_refl _)]
      exact fr2
  have k2 : kp S S2 s := kp.fr ow hp (aSS.mono (fun t i j z => by omega)) hX2 (fun k z z' => by rw [s25, if_neg z'])
  have pr2 : prS S2 F P := (prS.of h.1.1 w).kp k2
  obtain ⟨S1, T1, st', dp', fs', r1, r2, r3, r4, r5, r6, r7, r8, r9⟩ := fin (G := G) (t := t) ht hs (show 1 ≤ 1 ∧ 1 ≤ 4 by omega) 210 S2 T2 (dd + 1) _ 0 t t (by have := ms_le R2 (dd + 1) (Nat.le_refl _); omega) (by omega) (by omega) (by omega) (ow.same hX2) pr2 (by omega) R2 (fun y hy z => by
    have : y = dd := by omega
    subst this
    rw [fset_at] at z
    exact absurd z (show ¬ 2 = 0 by omega))
  have k1 : kp S S1 s := k2.trans r8
  -- the class and the reference
  have eC : F_81 G t (s, 0) (nI 2) (-4) (nI 0) (siI (siI S 29 pp' 1 2 (nI (n - q))) 25 s 0 4 (nI 1)) = some ((), S1) := by
    rw [e_81 (S := siI (siI S 29 pp' 1 2 (nI (n - q))) 25 s 0 4 (nI 1)) (d := dd) (p := pp') hs (by rw [gI, if_neg (by omega), siI_ne _ _ _ (by omega)]; exact R.2.2.1.1) (by omega) hp fr.1, hS2]
    exact r1
  have eM : F_155 G t (s, 0) (-4) (rdT (siI T 56 s dd 2 (nI (n - q))) s L) = some ((), T1) := by
    rw [e_155 (T := rdT (siI T 56 s dd 2 (nI (n - q))) s L) (d := dd) hs (by unfold rdT; rw [siI_ne _ _ _ (by omega), siI_ne _ _ _ (by omega), gI, if_neg (by omega), siI_ne _ _ _ (by omega)]; exact R.2.2.1.2.1) (by omega), hT2]
    exact r2
  have q33 : T1.1 33 0 0 15 = nI (L + 1) := by rw [(r9.1 33 0 0 (by omega)).1, t33, if_pos rfl]
  have q45 : T1.1 45 0 0 = (siI T 45 0 0 L (nI s)).1 45 0 0 := by rw [(r9.1 45 0 0 (by omega)).1, t45]
  -- without the queue's place
  have hj := h.junk (nI s)
  rw [hQ] at hj
  have km1 : km (siI T 45 0 0 L (nI s)) (siI T1 33 0 0 15 (nI L)) s := by
    refine ⟨fun t' i j z => ?_, fun k hk => ?_, ?_, ?_, ?_⟩
    · rw [siI_ne _ _ _ (by omega)]
      by_cases c : t' = 45 ∧ i = 0 ∧ j = 0
      · obtain ⟨rfl, rfl, rfl⟩ := c
        refine ⟨q45, ?_⟩
        show T1.2.1 45 0 0 = T.2.1 45 0 0
        rw [(r9.1 45 0 0 (by omega)).2]
        subst hT2
        rw [siL_ne _ _ _ (by omega)]
        rfl
      · rw [siI_ne _ _ _ c, (r9.1 t' i j (by omega)).1]
        show T2.1 t' i j = T.1 t' i j ∧ T1.2.1 t' i j = T.2.1 t' i j
        rw [(r9.1 t' i j (by omega)).2]
        by_cases c2 : t' = 45
        · subst hT2
          unfold rdT
          refine ⟨?_, ?_⟩
          · rw [gL1, siI_ne _ _ _ (by omega), siI_ne _ _ _ (by omega), siI_ne _ _ _ c, siI_ne _ _ _ (by omega), siI_ne _ _ _ (by omega)]
          · rw [siL_ne _ _ _ (by omega)]
            rfl
        · exact aTT t' i j (by omega)
    · rw [gI, siI_ne _ _ _ (by omega)]
      by_cases c : k = 15
      · subst c
        rw [if_pos ⟨rfl, rfl, rfl, rfl⟩, qa4]
      · rw [if_neg (by omega), (r9.1 33 0 0 (by omega)).1, t33, if_neg c]
    · show T1.2.1 33 0 0 28 = T.2.1 33 0 0 28
      rw [(r9.1 33 0 0 (by omega)).2, t33l]
    · exact r9.2.1.trans hY2
    · show T1.2.1 54 s 0 3 = T.2.1 54 s 0 3
      rw [r9.2.2, t54l]
  have R3 : stR φ D F P S1 (siI T1 33 0 0 15 (nI L)) s st' dp' fs' := r3.keep ⟨rfl, rfl⟩ (siI_ne _ _ _ (by omega)) (fun d p hp => ⟨hp, fun z => z, fun t x y j z => ⟨rfl, rfl⟩⟩) (fun d t x y => ⟨siI_ne _ _ _ (by omega), rfl⟩)
  have w1 := hj.one hs k1 km1 r6 R3 (by omega)
  have h51 : ∀ i, T1.1 51 i 0 = T.1 51 i 0 := fun i => by
    rw [(r9.1 51 i 0 (by omega)).1, (aTT 51 i 0 (by omega)).1]
  have h38 : T1.1 33 0 0 38 = T.1 33 0 0 38 := by rw [(r9.1 33 0 0 (by omega)).1, t33, if_neg (by omega)]
  have s4 : S1.1 25 s 0 4 = nI st' := r3.2.1.1
  have t0 : T1.1 54 s 0 0 = nI st' := r3.2.1.2.1
  have hst6 := r3.2.1.2.2
  have e22 := f_22 (G := G) (t := t) hs s4 hst6
  have rm1 : ∀ x, rmR S x → rmR S1 x := fun x hx => r7 x (hx.same hX2)
  rcases r5 with ⟨c1, c2⟩ | c5
  · -- it goes on
    subst c1
    have l1 := w1.line (s := s) (a := qa) hs (by rw [aset_2]; exact c2) (by rw [aset_1]; omega) (by rw [(k1.1 8 0 0 (by omega) (by omega)).1]; exact qa1) qa2 (show A.2.2.2.1.length < 16 by omega)
    have eL : (aset A s 1 dp' fs').2.2.2.1.length = L := hQ
    rw [eL] at l1
    have eT : rdT (siI T1 33 0 0 15 (nI L)) s L = T1 := by
      unfold rdT
      rw [siI_id (siI T1 33 0 0 15 (nI L)) 54 s 0 0 (by rw [siI_ne _ _ _ (by omega)]; exact t0), siI_id (siI T1 33 0 0 15 (nI L)) 45 0 0 L (by rw [siI_ne _ _ _ (by omega), q45, siI_at]), siI_tw, siI_id T1 33 0 0 15 q33]
    rw [eT] at l1
    rw [if_neg (by omega)] at e22
    have e30 := f_30 (G := G) (t := t) (S := S1) (a := qa) (q := L) hs (by rw [(k1.1 8 0 0 (by omega) (by omega)).1]; exact qa1) (by rw [(k1.1 8 0 0 (by omega) (by omega)).1]; exact qa3) qa2 hl r3.1
    refine ⟨S1, T1, luS S1 s qa L, T1, _, eC, eM, fun k61 v2 v4 => ?_, ?_, l1.1, k1.hk.trans l1.2, Or.inl ⟨va_up_self _ _ _, rfl⟩, ?_, fun z hz => ⟨?_, ?_, ?_⟩, rfl, fun x hx => (rm1 x hx).same rfl, h38, h51, fun s' d hs' => k1.2.2.2.2.1 s' d hs'⟩
    · clear h hj w1 l1 R R2 R3 fr fr2
      unfold F_102_104
      simp (disch := first | assumption | omega) only [gI, gI2, gL, gL1, gL2, jcLT, jcGE, jcGT, jcLE, jcEQ, jcNE, dEQ, nIt, lgNE, lgEQ, lgGE, lgLT, lgGT, lgLE, jinT, nIc, nI0, nI1, nIo, nIs, nI_add, nIm, nIn0, szl0, szl1, szl2, szl3, szl4, szl5, Nat.add_sub_assoc, Nat.add_zero, Nat.reduceSub, Nat.reduceAdd, Nat.reduceMul, Nat.reduceEqDiff,  jifT, bdS, sifN, sifS, omN, omS, cdI, x25, x26, x27, x28, x29, x30, x31, x32, xr0, xr1, xr2, xr3, xr4, xr5, if_pos, if_neg, true_and, and_true, false_and, and_false, and_self, Bool.and_true, if_true, if_false, reduceIte, cond_true, cond_false, not_true_eq_false, not_false_eq_true, e22, e30]
    · clear h hj w1 l1 R R2 R3 fr fr2
      unfold F_178
      simp (disch := first | assumption | omega) only [gI, gI2, gL, gL1, gL2, jcLT, jcGE, jcGT, jcLE, jcEQ, jcNE, dEQ, nIt, lgNE, lgEQ, lgGE, lgLT, lgGT, lgLE, jinT, nIc, nI0, nI1, nIo, nIs, nI_add, nIm, nIn0, szl0, szl1, szl2, szl3, szl4, szl5, Nat.add_sub_assoc, Nat.add_zero, Nat.reduceSub, Nat.reduceAdd, Nat.reduceMul, Nat.reduceEqDiff,  jifT, bdS, sifN, sifS, omN, omS, cdI, x25, x26, x27, x28, x29, x30, x31, x32, xr0, xr1, xr2, xr3, xr4, xr5, if_pos, if_neg, true_and, and_true, false_and, and_false, and_self, Bool.and_true, if_true, if_false, reduceIte, cond_true, cond_false, not_true_eq_false, not_false_eq_true, x51, x52, x53, x54, x55, x56, x57, x58, x59, x60, x61, x62, x63, t0]
    · show tpR P ((aset A s 1 dp' fs').2.1 s) ((aset A s 1 dp' fs').2.2.1 s)
      rw [aset_2, aset_3]
      exact r4
    · show va_up (aset A s 1 dp' fs').1 s 1 z = A.1 z
      rw [va_up_ne _ _ hz, aset_1n _ _ _ _ hz]
    · show (aset A s 1 dp' fs').2.1 z = A.2.1 z
      exact aset_2n _ _ _ _ hz
    · show (aset A s 1 dp' fs').2.2.1 z = A.2.2.1 z
      exact aset_3n _ _ _ _ hz
  · rw [if_pos (Or.inr c5)] at e22
    have e178 := l_178 (G := G) (t := t) (T := T1) (s := s) (Q := A.2.2.2.1) hs hq (by omega) (fun i x hx => by
      have : i < A.2.2.2.1.length := by
        obtain ⟨z, _⟩ := List.getElem?_eq_some_iff.mp hx
        exact z
      rw [q45, gI, if_neg (by omega)]
      exact (qa6 i x hx).2) (by rw [hQ]; exact q33) (by rw [hQ, q45, siI_at]) L 0 t (by omega) (by omega)
    rw [hQ] at e178
    refine ⟨S1, T1, S1, _, _, eC, eM, fun k61 v2 v4 => ?_, ?_, w1, k1.hk, Or.inr ⟨by rw [aset_1]; exact c5, rfl⟩, by rw [aset_2, aset_3]; exact r4, fun z hz => ⟨aset_1n _ _ _ _ hz, aset_2n _ _ _ _ hz, aset_3n _ _ _ _ hz⟩, rfl, rm1, ?_, fun i => ?_, fun s' d hs' => k1.2.2.2.2.1 s' d hs'⟩
    · clear h hj w1 R R2 R3 fr fr2
      unfold F_102_104
      simp (disch := first | assumption | omega) only [gI, gI2, gL, gL1, gL2, jcLT, jcGE, jcGT, jcLE, jcEQ, jcNE, dEQ, nIt, lgNE, lgEQ, lgGE, lgLT, lgGT, lgLE, jinT, nIc, nI0, nI1, nIo, nIs, nI_add, nIm, nIn0, szl0, szl1, szl2, szl3, szl4, szl5, Nat.add_sub_assoc, Nat.add_zero, Nat.reduceSub, Nat.reduceAdd, Nat.reduceMul, Nat.reduceEqDiff,  jifT, bdS, sifN, sifS, omN, omS, cdI, x25, x26, x27, x28, x29, x30, x31, x32, xr0, xr1, xr2, xr3, xr4, xr5, if_pos, if_neg, true_and, and_true, false_and, and_false, and_self, Bool.and_true, if_true, if_false, reduceIte, cond_true, cond_false, not_true_eq_false, not_false_eq_true, e22]
    · clear h hj w1 R R2 R3 fr fr2
      unfold F_178
      simp (disch := first | assumption | omega) only [gI, gI2, gL, gL1, gL2, jcLT, jcGE, jcGT, jcLE, jcEQ, jcNE, dEQ, nIt, lgNE, lgEQ, lgGE, lgLT, lgGT, lgLE, jinT, nIc, nI0, nI1, nIo, nIs, nI_add, nIm, nIn0, szl0, szl1, szl2, szl3, szl4, szl5, Nat.add_sub_assoc, Nat.add_zero, Nat.reduceSub, Nat.reduceAdd, Nat.reduceMul, Nat.reduceEqDiff,  jifT, bdS, sifN, sifS, omN, omS, cdI, x25, x26, x27, x28, x29, x30, x31, x32, xr0, xr1, xr2, xr3, xr4, xr5, if_pos, if_neg, true_and, and_true, false_and, and_false, and_self, Bool.and_true, if_true, if_false, reduceIte, cond_true, cond_false, not_true_eq_false, not_false_eq_true, x51, x52, x53, x54, x55, x56, x57, x58, x59, x60, x61, x62, x63, t0, e178]
    · rw [gI, if_neg (by omega)]; exact h38
    · rw [siI_ne _ _ _ (by omega)]; exact h51 i
end CLP
