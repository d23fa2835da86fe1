/-! The turn is passed on, or the run ends. -/
section TRN
variable {φ φ' : Nat → Nat} {D D' : Nat → Prop} {F N : Nat} {P : aP} {S S' T T' T1 : sS} {A : aS} {r s d p f pc n m e b k y g q o : Nat} {G : jG} {t j : Nat} {a : Int32}
/-! the model's queue moves up -/
def qsT (T : sS) : Nat → sS
  | 0 => T
  | i + 1 => siI (qsT T i) 45 0 0 i (T.1 45 0 0 (i + 1))
theorem qsT_ag (T : sS) : ∀ i, agr (fun t _ _ => t = 45) T (qsT T i) ∧ (qsT T i).2 = T.2 := by
  intro i
  induction i with
  | zero => exact ⟨agr.refl _ _, rfl⟩
  | succ i ih => exact ⟨agr.i ih.1 _ _ rfl, ih.2⟩
theorem qsT_v (T : sS) (k : Nat) : ∀ i, (qsT T i).1 45 0 0 k = if k < i then T.1 45 0 0 (k + 1) else T.1 45 0 0 k := by
  intro i
  induction i with
  | zero => rfl
  | succ i ih =>
    unfold qsT
    rw [gI]
    by_cases c : k = i
    · subst c
      rw [if_pos ⟨rfl, rfl, rfl, rfl⟩, if_pos (by omega)]
    · rw [if_neg (by omega), ih]
      by_cases c2 : k < i
      · rw [if_pos c2, if_pos (by omega)]
      · rw [if_neg c2, if_neg (by omega)]
set_option maxHeartbeats 4000000 in
set_option linter.unusedSimpArgs false in
theorem l_18945 {L : Nat} (h : T.1 33 0 0 15 = nI L) (hL : L ≤ 16) : ∀ w i tt, i + w = L → w < tt → F_189_45 G t tt (nI i) (qsT T i) = some ((), qsT T L) := by
  intro w
  induction w with
  | zero =>
    intro i tt h1 h2
    obtain ⟨u, rfl⟩ : ∃ u, tt = u + 1 := ⟨tt - 1, by omega⟩
    have : i = L := by omega
    subst this
    have e : (qsT T i).1 33 0 0 15 = nI i := by rw [((qsT_ag T i).1 33 0 0 (by omega)).1]; exact h
    rw [F_189_45]
    simp (disch := first | assumption | omega) only [gI, gI2, gL, gL1, gL2, jcLT, jcGE, jcGT, jcLE, jcEQ, jcNE, dEQ, nIt, lgNE, lgEQ, lgGE, lgLT, lgGT, lgLE, jinT, nIc, nI0, nI1, nIo, nIs, nI_add, nIm, nIn0, szl0, szl1, szl2, szl3, szl4, szl5, Nat.add_sub_assoc, Nat.add_zero, Nat.reduceSub, Nat.reduceAdd, Nat.reduceMul, Nat.reduceEqDiff,  jifT, bdS, sifN, sifS, omN, omS, cdI, x25, x26, x27, x28, x29, x30, x31, x32, xr0, xr1, xr2, xr3, xr4, xr5, if_pos, if_neg, true_and, and_true, false_and, and_false, and_self, Bool.and_true, if_true, if_false, reduceIte, cond_true, cond_false, not_true_eq_false, not_false_eq_true, x51, x52, x53, x54, x55, x56, x57, x58, x59, x60, x61, x62, x63, e]
  | succ w ih =>
    intro i tt h1 h2
    obtain ⟨u, rfl⟩ : ∃ u, tt = u + 1 := ⟨tt - 1, by omega⟩
    have e : (qsT T i).1 33 0 0 15 = nI L := by rw [((qsT_ag T i).1 33 0 0 (by omega)).1]; exact h
    have e2 : (qsT T i).1 45 0 0 (i + 1) = T.1 45 0 0 (i + 1) := by rw [qsT_v, if_neg (by omega)]
    have e3 := ih (i + 1) u (by omega) (by omega)
    rw [← e3, F_189_45]
    clear ih e3
    simp (disch := first | assumption | omega) only [gI, gI2, gL, gL1, gL2, jcLT, jcGE, jcGT, jcLE, jcEQ, jcNE, dEQ, nIt, lgNE, lgEQ, lgGE, lgLT, lgGT, lgLE, jinT, nIc, nI0, nI1, nIo, nIs, nI_add, nIm, nIn0, szl0, szl1, szl2, szl3, szl4, szl5, Nat.add_sub_assoc, Nat.add_zero, Nat.reduceSub, Nat.reduceAdd, Nat.reduceMul, Nat.reduceEqDiff,  jifT, bdS, sifN, sifS, omN, omS, cdI, x25, x26, x27, x28, x29, x30, x31, x32, xr0, xr1, xr2, xr3, xr4, xr5, if_pos, if_neg, true_and, and_true, false_and, and_false, and_self, Bool.and_true, if_true, if_false, reduceIte, cond_true, cond_false, not_true_eq_false, not_false_eq_true, x51, x52, x53, x54, x55, x56, x57, x58, x59, x60, x61, x62, x63, e, e2, qsT]
def nxT (T : sS) (x L : Nat) : sS := qsT (siI (siI (siI T 33 0 0 20 (nI 0)) 33 0 0 16 (nI x)) 33 0 0 15 (nI L)) L
set_option maxHeartbeats 4000000 in
set_option linter.unusedSimpArgs false in
theorem f_189 {x L : Nat} (ht : 100 < t) (h : T.1 33 0 0 15 = nI (L + 1)) (hL : L < 16) (hx : T.1 45 0 0 0 = nI x) : F_189 G t T = some ((), nxT T x L) := by
  have e := l_18945 (G := G) (t := t) (T := siI (siI (siI T 33 0 0 20 (nI 0)) 33 0 0 16 (nI x)) 33 0 0 15 (nI L)) (L := L) (siI_at _ _ _ _ _ _) (by omega) L 0 t (by omega) (by omega)
  unfold F_189 nxT
  simp (disch := first | assumption | omega) only [gI, gI2, gL, gL1, gL2, jcLT, jcGE, jcGT, jcLE, jcEQ, jcNE, dEQ, nIt, lgNE, lgEQ, lgGE, lgLT, lgGT, lgLE, jinT, nIc, nI0, nI1, nIo, nIs, nI_add, nIm, nIn0, szl0, szl1, szl2, szl3, szl4, szl5, Nat.add_sub_assoc, Nat.add_zero, Nat.reduceSub, Nat.reduceAdd, Nat.reduceMul, Nat.reduceEqDiff,  jifT, bdS, sifN, sifS, omN, omS, cdI, x25, x26, x27, x28, x29, x30, x31, x32, xr0, xr1, xr2, xr3, xr4, xr5, if_pos, if_neg, true_and, and_true, false_and, and_false, and_self, Bool.and_true, if_true, if_false, reduceIte, cond_true, cond_false, not_true_eq_false, not_false_eq_true, x51, x52, x53, x54, x55, x56, x57, x58, x59, x60, x61, x62, x63, h, hx, siI_tw]
  exact e
set_option maxHeartbeats 4000000 in
set_option linter.unusedSimpArgs false in
theorem f_189z (h : T.1 33 0 0 15 = nI 0) : F_189 G t T = some ((), siI (siI (siI T 33 0 0 20 (nI 0)) 33 0 0 16 (-1)) 33 0 0 17 (nI 4)) := by
  unfold F_189
  simp (disch := first | assumption | omega) only [gI, gI2, gL, gL1, gL2, jcLT, jcGE, jcGT, jcLE, jcEQ, jcNE, dEQ, nIt, lgNE, lgEQ, lgGE, lgLT, lgGT, lgLE, jinT, nIc, nI0, nI1, nIo, nIs, nI_add, nIm, nIn0, szl0, szl1, szl2, szl3, szl4, szl5, Nat.add_sub_assoc, Nat.add_zero, Nat.reduceSub, Nat.reduceAdd, Nat.reduceMul, Nat.reduceEqDiff,  jifT, bdS, sifN, sifS, omN, omS, cdI, x25, x26, x27, x28, x29, x30, x31, x32, xr0, xr1, xr2, xr3, xr4, xr5, if_pos, if_neg, true_and, and_true, false_and, and_false, and_self, Bool.and_true, if_true, if_false, reduceIte, cond_true, cond_false, not_true_eq_false, not_false_eq_true, x51, x52, x53, x54, x55, x56, x57, x58, x59, x60, x61, x62, x63, h]
def nxS (S : sS) (x a L : Nat) : sS := siI (siI (siI (siI S 8 0 0 6 (nI 0)) 8 0 0 5 (nI x)) 8 0 0 3 (nI ((a + 1) % 16))) 8 0 0 4 (nI L)
set_option maxHeartbeats 4000000 in
set_option linter.unusedSimpArgs false in
theorem f_32 {x a L : Nat} (h : S.1 8 0 0 4 = nI (L + 1)) (hL : L < 16) (ha : S.1 8 0 0 3 = nI a) (ha2 : a < 16) (hx : S.1 10 0 0 a = nI x) : F_32 G t S = some ((), nxS S x a L) := by
  unfold F_32 nxS
  simp (disch := first | assumption | omega) only [gI, gI2, gL, gL1, gL2, jcLT, jcGE, jcGT, jcLE, jcEQ, jcNE, dEQ, nIt, lgNE, lgEQ, lgGE, lgLT, lgGT, lgLE, jinT, nIc, nI0, nI1, nIo, nIs, nI_add, nIm, nIn0, szl0, szl1, szl2, szl3, szl4, szl5, Nat.add_sub_assoc, Nat.add_zero, Nat.reduceSub, Nat.reduceAdd, Nat.reduceMul, Nat.reduceEqDiff,  jifT, bdS, sifN, sifS, omN, omS, cdI, x25, x26, x27, x28, x29, x30, x31, x32, xr0, xr1, xr2, xr3, xr4, xr5, if_pos, if_neg, true_and, and_true, false_and, and_false, and_self, Bool.and_true, if_true, if_false, reduceIte, cond_true, cond_false, not_true_eq_false, not_false_eq_true, h, ha, hx, siI_tw]
set_option maxHeartbeats 4000000 in
set_option linter.unusedSimpArgs false in
theorem f_32z (h : S.1 8 0 0 4 = nI 0) : F_32 G t S = some ((), siI (siI S 8 0 0 6 (nI 0)) 8 0 0 5 (-1)) := by
  unfold F_32
  simp (disch := first | assumption | omega) only [gI, gI2, gL, gL1, gL2, jcLT, jcGE, jcGT, jcLE, jcEQ, jcNE, dEQ, nIt, lgNE, lgEQ, lgGE, lgLT, lgGT, lgLE, jinT, nIc, nI0, nI1, nIo, nIs, nI_add, nIm, nIn0, szl0, szl1, szl2, szl3, szl4, szl5, Nat.add_sub_assoc, Nat.add_zero, Nat.reduceSub, Nat.reduceAdd, Nat.reduceMul, Nat.reduceEqDiff,  jifT, bdS, sifN, sifS, omN, omS, cdI, x25, x26, x27, x28, x29, x30, x31, x32, xr0, xr1, xr2, xr3, xr4, xr5, if_pos, if_neg, true_and, and_true, false_and, and_false, and_self, Bool.and_true, if_true, if_false, reduceIte, cond_true, cond_false, not_true_eq_false, not_false_eq_true, h]
/-! the first of the queue runs -/
set_option maxHeartbeats 4000000 in
set_option linter.unusedSimpArgs false in
theorem wR.nxt {x a : Nat} {Q : List Nat} (h : wR φ D F N P S T A) (hQ : A.2.2.2.1 = x :: Q) (ha : S.1 8 0 0 3 = nI a) (ha2 : a < 16) : wR φ D F N P (nxS S x a Q.length) (nxT T x Q.length) (A.1, A.2.1, A.2.2.1, Q, A.2.2.2.2) ∧ hk S (nxS S x a Q.length) := by
  have sc := h.2.2.2.2.2.2.2.1
  have aS : agr (fun t i j => t = 8) S (nxS S x a Q.length) := agr.i (agr.i (agr.i (agr.i (agr.refl _ _) _ _ rfl) _ _ rfl) _ _ rfl) _ _ rfl
  have aT0 : agr (fun t i j => t = 33) T (siI (siI (siI T 33 0 0 20 (nI 0)) 33 0 0 16 (nI x)) 33 0 0 15 (nI Q.length)) := agr.i (agr.i (agr.i (agr.refl _ _) _ _ rfl) _ _ rfl) _ _ rfl
  have aT1 := qsT_ag (siI (siI (siI T 33 0 0 20 (nI 0)) 33 0 0 16 (nI x)) 33 0 0 15 (nI Q.length)) Q.length
  have aT : agr (fun t i j => t = 33 ∨ t = 45) T (nxT T x Q.length) := (aT0.mono (fun t i j z => by omega)).trans (aT1.1.mono (fun t i j z => by omega))
  have s8 : ∀ k, (nxS S x a Q.length).1 8 0 0 k = if k = 4 then nI Q.length else if k = 3 then nI ((a + 1) % 16) else if k = 5 then nI x else if k = 6 then nI 0 else S.1 8 0 0 k := fun k => by
    unfold nxS
    simp [gI]
  have t33 : ∀ k, (nxT T x Q.length).1 33 0 0 k = if k = 15 then nI Q.length else if k = 16 then nI x else if k = 20 then nI 0 else T.1 33 0 0 k := fun k => by
    unfold nxT
    rw [(aT1.1 33 0 0 (by omega)).1]
    simp [gI]
  obtain ⟨a', b1, b2, b3, b4, b5, b6⟩ := h.2.2.2.2.2.1
  rw [hQ] at b3 b4 b5 b6
  have : a' = a := (nI_eq (by omega) (by omega)).mp (b1.symm.trans ha)
  subst this
  rw [List.length_cons] at b3 b4 b5
  have q23 : (nxS S x a' Q.length).1 23 0 0 = S.1 23 0 0 := (aS 23 0 0 (by omega)).1
  refine h.wld (Q := Q) (aS.mono (fun t i j z => by omega)) rfl (aT.mono (fun t i j z => by omega)) ⟨?_, ?_⟩ (h.2.2.1.keep (fun t x y => aS t 0 5 (by omega)) ⟨(aT 36 0 0 (by omega)).1, (aT 43 0 0 (by omega)).2⟩) ⟨(a' + 1) % 16, ?_, by omega, ?_, ?_, by omega, fun i z hz => ?_⟩ ⟨?_, ?_⟩ ?_ ?_
  · rw [t33]; rfl
  · rw [t33]; rfl
  · rw [s8]; rfl
  · rw [s8]; rfl
  · rw [t33]; rfl
  · have hi : i < Q.length := by
      by_cases c : i < Q.length
      · exact c
      · rw [List.getElem?_eq_none (by omega)] at hz; cases hz
    have := b6 (i + 1) z (by rw [List.getElem?_cons_succ]; exact hz)
    rw [(aS 10 0 0 (by omega)).1]
    constructor
    · rw [show ((a' + 1) % 16 + i) % 16 = (a' + (i + 1)) % 16 by omega]
      exact this.1
    · unfold nxT
      rw [qsT_v, if_pos hi, (aT0 45 0 0 (by omega)).1]
      exact this.2
  · rw [s8]; rfl
  · rw [show (nxT T x Q.length).2.1 = T.2.1 from by unfold nxT; rw [aT1.2]; rfl]
  · obtain ⟨c1, c2, c3, c4, c5, c6, c7, c8⟩ := sc
    unfold scaR
    rw [s8, s8, s8, t33, t33, t33, t33, t33, t33, t33, t33, q23, (aS 11 0 0 (by omega)).1]
    simp only [Nat.reduceEqDiff, if_false, if_true]
    exact ⟨trivial, trivial, c3, c4, c5, c6, c7, c8⟩
  · exact h.2.2.2.2.2.2.2.2.1.keep ⟨by rw [q23], by rw [q23], (aS 24 0 0 (by omega)).2⟩ ⟨by rw [t33]; rfl, (aT 44 0 0 (by omega)).2⟩
end TRN
