/-! A call: the class's enter. -/
def cpS (S : sS) (p q kq a : Nat) : Nat → sS
  | 0 => S
  | i + 1 => siI (siL (cpS S p q kq a i) 30 p 0 i (S.2.1 30 q kq (a + i))) 31 p 0 i (S.1 31 q kq (a + i))
theorem cpS_2 (S : sS) (p q kq a : Nat) : ∀ i, (cpS S p q kq a i).2.2 = S.2.2 := by
  intro i
  induction i with
  | zero => rfl
  | succ i ih => exact ih
theorem cpS_I (S : sS) (p q kq a : Nat) {t x y : Nat} (h : ¬ (t = 31 ∧ x = p ∧ y = 0)) : ∀ i, (cpS S p q kq a i).1 t x y = S.1 t x y := by
  intro i
  induction i with
  | zero => rfl
  | succ i ih => exact (siI_ne _ _ _ h).trans ih
theorem cpS_L (S : sS) (p q kq a : Nat) {t x y : Nat} (h : ¬ (t = 30 ∧ x = p ∧ y = 0)) : ∀ i, (cpS S p q kq a i).2.1 t x y = S.2.1 t x y := by
  intro i
  induction i with
  | zero => rfl
  | succ i ih => exact (siL_ne _ _ _ h).trans ih
theorem cpS_t (S : sS) (p q kq a n : Nat) : ∀ i, (cpS S p q kq a i).1 31 p 0 n = if n < i then S.1 31 q kq (a + n) else S.1 31 p 0 n := by
  intro i
  induction i with
  | zero => rfl
  | succ i ih =>
    unfold cpS
    rw [gI]
    by_cases h : n = i
    · subst h; rw [if_pos ⟨rfl, rfl, rfl, rfl⟩, if_pos (by omega)]
    · rw [if_neg (by omega)]
      rw [gL1, ih]
      by_cases h2 : n < i
      · rw [if_pos h2, if_pos (by omega)]
      · rw [if_neg h2, if_neg (by omega)]
theorem cpS_n (S : sS) (p q kq a n : Nat) : ∀ i, (cpS S p q kq a i).2.1 30 p 0 n = if n < i then S.2.1 30 q kq (a + n) else S.2.1 30 p 0 n := by
  intro i
  induction i with
  | zero => rfl
  | succ i ih =>
    unfold cpS
    rw [gI2, gL]
    by_cases h : n = i
    · subst h; rw [if_pos ⟨rfl, rfl, rfl, rfl⟩, if_pos (by omega)]
    · rw [if_neg (by omega)]
      rw [ih]
      by_cases h2 : n < i
      · rw [if_pos h2, if_pos (by omega)]
      · rw [if_neg h2, if_neg (by omega)]
set_option maxHeartbeats 4000000 in
set_option linter.unusedSimpArgs false in
theorem l_29_74 {G : jG} {t : Nat} {S : sS} {s p q kq a pa lo sz dp : Nat} (hs : s < 16) (hr : srx S.2.2.2.1 q kq = true) (hz : S.1 29 q kq 2 = nI sz) (hz2 : sz ≤ srl kq) (ha : a + pa ≤ sz) (hp : S.2.2.2.1.1 p = true) (hl : S.1 29 p 0 2 = nI lo) (hl2 : pa ≤ lo) (hl3 : lo ≤ 12) (hne : ¬ (q = p ∧ kq = 0)) (hd : S.1 25 s 0 3 = nI dp) :
    ∀ k i tt, i + k = pa → k < tt → F_29_74 G t tt (s, 0) (q, kq) (nI a) (p, 0) (nI pa) (nI i) (cpS S p q kq a i) = some (nI 1, siI (cpS S p q kq a pa) 25 s 0 3 (nI (dp + 1))) := by
  have hb := srl_le kq
  intro k
  induction k with
  | zero =>
    intro i tt hi ht
    obtain ⟨u, rfl⟩ : ∃ u, tt = u + 1 := ⟨tt - 1, by omega⟩
    rw [F_29_74]
    have : i = pa := by omega
    subst this
    simp (disch := first | assumption | omega) only [gI, gI2, gL, gL1, gL2, jcLT, jcGE, jcGT, jcLE, jcEQ, jcNE, dEQ, nIt, lgNE, lgEQ, lgGE, lgLT, lgGT, lgLE, jinT, nIc, nI0, nI1, nIo, nIs, nI_add, nIm, nIn0, szl0, szl1, szl2, szl3, szl4, szl5, Nat.add_sub_assoc, Nat.add_zero, Nat.reduceSub, Nat.reduceAdd, Nat.reduceMul, Nat.reduceEqDiff,  jifT, bdS, sifN, sifS, omN, omS, cdI, x25, x26, x27, x28, x29, x30, x31, x32, xr0, xr1, xr2, xr3, xr4, xr5, if_pos, if_neg, true_and, and_true, false_and, and_false, and_self, Bool.and_true, if_true, if_false, reduceIte, cond_true, cond_false, not_true_eq_false, not_false_eq_true, cpS_2, cpS_I, hd]
  | succ k ih =>
    intro i tt hi ht
    obtain ⟨u, rfl⟩ : ∃ u, tt = u + 1 := ⟨tt - 1, by omega⟩
    rw [F_29_74]
    have e := ih (i + 1) u (by omega) (by omega)
    have n1 : ¬ (31 = 31 ∧ q = p ∧ kq = 0) := by omega
    have n2 : ¬ (30 = 30 ∧ q = p ∧ kq = 0) := by omega
    simp (disch := first | assumption | omega) only [gI, gI2, gL, gL1, gL2, jcLT, jcGE, jcGT, jcLE, jcEQ, jcNE, dEQ, nIt, lgNE, lgEQ, lgGE, lgLT, lgGT, lgLE, jinT, nIc, nI0, nI1, nIo, nIs, nI_add, nIm, nIn0, szl0, szl1, szl2, szl3, szl4, szl5, Nat.add_sub_assoc, Nat.add_zero, Nat.reduceSub, Nat.reduceAdd, Nat.reduceMul, Nat.reduceEqDiff,  jifT, bdS, sifN, sifS, omN, omS, cdI, x25, x26, x27, x28, x29, x30, x31, x32, xr0, xr1, xr2, xr3, xr4, xr5, if_pos, if_neg, true_and, and_true, false_and, and_false, and_self, Bool.and_true, if_true, if_false, reduceIte, cond_true, cond_false, not_true_eq_false, not_false_eq_true, cpS_2, cpS_I, cpS_L, F_26, F_27, F_28, hr, hz, hp, hl]
    exact e
/-! the frame as open leaves it -/
def opS (S : sS) (p f lo : Nat) : sS := siI (siI (siI (rz (siI (siI (siI (siI S 27 p 0 5 (nI f)) 27 p 0 6 (nI 0)) 27 p 0 7 (nI 0)) 29 p 0 2 (nI lo)) p 0 lo) 29 p 1 2 (nI 0)) 29 p 2 2 (nI 0)) 29 p 3 2 (nI 0)
set_option maxHeartbeats 4000000 in
set_option linter.unusedSimpArgs false in
theorem f_25 {G : jG} {t : Nat} {S : sS} {p f lo : Nat} (hp : S.2.2.2.1.1 p = true) (hl : lo ≤ 12) (ht : 12 < t) : F_25 G t (p, 0) (nI f) (nI lo) S = some ((), opS S p f lo) := by
  have e := f_3 (G := G) (t := t) (S := siI (siI (siI S 27 p 0 5 (nI f)) 27 p 0 6 (nI 0)) 27 p 0 7 (nI 0)) (p := p) (k := 0) (n := lo) (xr0 hp) hl (by omega)
  unfold F_25
  simp (disch := first | assumption | omega) only [gI, gI2, gL, gL1, gL2, jcLT, jcGE, jcGT, jcLE, jcEQ, jcNE, dEQ, nIt, lgNE, lgEQ, lgGE, lgLT, lgGT, lgLE, jinT, nIc, nI0, nI1, nIo, nIs, nI_add, nIm, nIn0, szl0, szl1, szl2, szl3, szl4, szl5, Nat.add_sub_assoc, Nat.add_zero, Nat.reduceSub, Nat.reduceAdd, Nat.reduceMul, Nat.reduceEqDiff,  jifT, bdS, sifN, sifS, omN, omS, cdI, x25, x26, x27, x28, x29, x30, x31, x32, xr0, xr1, xr2, xr3, xr4, xr5, if_pos, if_neg, true_and, and_true, false_and, and_false, and_self, Bool.and_true, if_true, if_false, reduceIte, cond_true, cond_false, not_true_eq_false, not_false_eq_true, e, rz_2, hp]
  rfl
theorem opS_2 (S : sS) (p f lo : Nat) : (opS S p f lo).2.2 = S.2.2 := rz_2 _ _ _ _
set_option maxHeartbeats 4000000 in
set_option linter.unusedSimpArgs false in
theorem opS_I {S : sS} {p f lo t x y : Nat} (h : ¬ (x = p ∧ y < 4 ∧ 27 ≤ t ∧ t ≤ 31)) (k : Nat) : (opS S p f lo).1 t x y k = S.1 t x y k := by
  unfold opS
  simp (disch := first | assumption | omega) only [gI, gI2, gL, gL1, gL2, jcLT, jcGE, jcGT, jcLE, jcEQ, jcNE, dEQ, nIt, lgNE, lgEQ, lgGE, lgLT, lgGT, lgLE, jinT, nIc, nI0, nI1, nIo, nIs, nI_add, nIm, nIn0, szl0, szl1, szl2, szl3, szl4, szl5, Nat.add_sub_assoc, Nat.add_zero, Nat.reduceSub, Nat.reduceAdd, Nat.reduceMul, Nat.reduceEqDiff,  jifT, bdS, sifN, sifS, omN, omS, cdI, x25, x26, x27, x28, x29, x30, x31, x32, xr0, xr1, xr2, xr3, xr4, xr5, if_pos, if_neg, true_and, and_true, false_and, and_false, and_self, Bool.and_true, if_true, if_false, reduceIte, cond_true, cond_false, not_true_eq_false, not_false_eq_true, rz_I]
set_option maxHeartbeats 4000000 in
set_option linter.unusedSimpArgs false in
theorem opS_L {S : sS} {p f lo t x y : Nat} (h : ¬ (x = p ∧ y < 4 ∧ 27 ≤ t ∧ t ≤ 31)) (k : Nat) : (opS S p f lo).2.1 t x y k = S.2.1 t x y k := by
  unfold opS
  simp (disch := first | assumption | omega) only [gI, gI2, gL, gL1, gL2, jcLT, jcGE, jcGT, jcLE, jcEQ, jcNE, dEQ, nIt, lgNE, lgEQ, lgGE, lgLT, lgGT, lgLE, jinT, nIc, nI0, nI1, nIo, nIs, nI_add, nIm, nIn0, szl0, szl1, szl2, szl3, szl4, szl5, Nat.add_sub_assoc, Nat.add_zero, Nat.reduceSub, Nat.reduceAdd, Nat.reduceMul, Nat.reduceEqDiff,  jifT, bdS, sifN, sifS, omN, omS, cdI, x25, x26, x27, x28, x29, x30, x31, x32, xr0, xr1, xr2, xr3, xr4, xr5, if_pos, if_neg, true_and, and_true, false_and, and_false, and_self, Bool.and_true, if_true, if_false, reduceIte, cond_true, cond_false, not_true_eq_false, not_false_eq_true, rz_L]
def enS (S : sS) (s dp p f lo pa q kq a : Nat) : sS := siI (cpS (opS S p f lo) p q kq a pa) 25 s 0 3 (nI (dp + 1))
set_option maxHeartbeats 4000000 in
set_option linter.unusedSimpArgs false in
theorem l_29_47 {G : jG} {t : Nat} {S : sS} {s dp p f lo pa q kq a sz F : Nat} (ht : 100 < t) (hs : s < 16) (hp : S.2.2.2.1.1 p = true) (hF : S.1 1 0 0 6 = nI F) (hF2 : F ≤ 32) (hf : f < F) (hpa : S.1 2 0 0 f = nI pa) (hlo : S.1 3 0 0 f = nI lo) (h1 : pa ≤ lo) (h2 : lo ≤ 12) (hr : srx S.2.2.2.1 q kq = true) (hz : S.1 29 q kq 2 = nI sz) (hz2 : sz ≤ srl kq) (ha : a + pa ≤ sz) (hne : ¬ (q = p ∧ kq < 4)) (hd : S.1 25 s 0 3 = nI dp) :
    F_29_47 G t (s, 0) (nI f) (q, kq) (nI a) (p, 0) S = some (nI 1, enS S s dp p f lo pa q kq a) := by
  have e := l_29_74 (G := G) (t := t) (S := opS S p f lo) (s := s) (p := p) (q := q) (kq := kq) (a := a) (pa := pa) (lo := lo) (sz := sz) (dp := dp) hs (by rw [opS_2]; exact hr) (by rw [opS_I (by omega)]; exact hz) hz2 ha (by rw [opS_2]; exact hp) (by unfold opS; simp (disch := first | assumption | omega) only [gI, gI2, gL, gL1, gL2, jcLT, jcGE, jcGT, jcLE, jcEQ, jcNE, dEQ, nIt, lgNE, lgEQ, lgGE, lgLT, lgGT, lgLE, jinT, nIc, nI0, nI1, nIo, nIs, nI_add, nIm, nIn0, szl0, szl1, szl2, szl3, szl4, szl5, Nat.add_sub_assoc, Nat.add_zero, Nat.reduceSub, Nat.reduceAdd, Nat.reduceMul, Nat.reduceEqDiff,  jifT, bdS, sifN, sifS, omN, omS, cdI, x25, x26, x27, x28, x29, x30, x31, x32, xr0, xr1, xr2, xr3, xr4, xr5, if_pos, if_neg, true_and, and_true, false_and, and_false, and_self, Bool.and_true, if_true, if_false, reduceIte, cond_true, cond_false, not_true_eq_false, not_false_eq_true, rz_I]) h1 h2 (by omega) (by rw [opS_I (by omega)]; exact hd) pa 0 t (by omega) (by omega)
  have e1 := f_24 (G := G) (t := t) hF hF2 hf
  have e2 := f_17 (G := G) (t := t) (S := opS S p f lo) (F := F) (a := f) (by rw [opS_I (by omega)]; exact hF) hF2 hf
  rw [hlo] at e1
  rw [opS_I (by omega), hpa] at e2
  have e3 := f_25 (G := G) (t := t) (f := f) hp h2 (by omega)
  unfold F_29_47
  simp (disch := first | assumption | omega) only [gI, gI2, gL, gL1, gL2, jcLT, jcGE, jcGT, jcLE, jcEQ, jcNE, dEQ, nIt, lgNE, lgEQ, lgGE, lgLT, lgGT, lgLE, jinT, nIc, nI0, nI1, nIo, nIs, nI_add, nIm, nIn0, szl0, szl1, szl2, szl3, szl4, szl5, Nat.add_sub_assoc, Nat.add_zero, Nat.reduceSub, Nat.reduceAdd, Nat.reduceMul, Nat.reduceEqDiff,  jifT, bdS, sifN, sifS, omN, omS, cdI, x25, x26, x27, x28, x29, x30, x31, x32, xr0, xr1, xr2, xr3, xr4, xr5, if_pos, if_neg, true_and, and_true, false_and, and_false, and_self, Bool.and_true, if_true, if_false, reduceIte, cond_true, cond_false, not_true_eq_false, not_false_eq_true, e1, e2, e3, opS_2, hp]
  exact e
