/-! A call: the reference's enter. -/
theorem bl_lt {a b : Nat} (h : a < b) : Nat.blt a b = true := Nat.ble_eq_true_of_le h
theorem x54 {M : sK} {s : Nat} (h : s < 16) : sex M 54 s 0 = true := by
  show (Nat.blt s 16 && Nat.beq 0 0) = true
  rw [bl_lt h]; rfl
theorem x55 {M : sK} {s : Nat} (h : s < 16) : sex M 55 s 0 = true := by
  show (Nat.blt s 16 && Nat.beq 0 0) = true
  rw [bl_lt h]; rfl
theorem x56 {M : sK} {s d : Nat} (h : s < 16) (hd : d < 30) : sex M 56 s d = true := by
  show (Nat.blt s 16 && Nat.blt d 30) = true
  rw [bl_lt h, bl_lt hd]; rfl
theorem x57 {M : sK} {s d : Nat} (h : s < 16) (hd : d < 30) : sex M 57 s d = true := by
  show (Nat.blt s 16 && Nat.blt d 30) = true
  rw [bl_lt h, bl_lt hd]; rfl
theorem x58 {M : sK} {s d : Nat} (h : s < 16) (hd : d < 30) : sex M 58 s d = true := by
  show (Nat.blt s 16 && Nat.blt d 30) = true
  rw [bl_lt h, bl_lt hd]; rfl
theorem x59 {M : sK} {s d : Nat} (h : s < 16) (hd : d < 30) : sex M 59 s d = true := by
  show (Nat.blt s 16 && Nat.blt d 30) = true
  rw [bl_lt h, bl_lt hd]; rfl
theorem x60 {M : sK} {s d : Nat} (h : s < 16) (hd : d < 30) : sex M 60 s d = true := by
  show (Nat.blt s 16 && Nat.blt d 30) = true
  rw [bl_lt h, bl_lt hd]; rfl
theorem x61 {M : sK} {s d : Nat} (h : s < 16) (hd : d < 30) : sex M 61 s d = true := by
  show (Nat.blt s 16 && Nat.blt d 30) = true
  rw [bl_lt h, bl_lt hd]; rfl
theorem x62 {M : sK} {s d : Nat} (h : s < 16) (hd : d < 30) : sex M 62 s d = true := by
  show (Nat.blt s 16 && Nat.blt d 30) = true
  rw [bl_lt h, bl_lt hd]; rfl
theorem x63 {M : sK} {s d : Nat} (h : s < 16) (hd : d < 30) : sex M 63 s d = true := by
  show (Nat.blt s 16 && Nat.blt d 30) = true
  rw [bl_lt h, bl_lt hd]; rfl
theorem x51 {M : sK} {k : Nat} (h : k < 1300) : sex M 51 k 0 = true := by
  show (Nat.blt k 1300 && Nat.beq 0 0) = true
  rw [bl_lt h]; rfl
theorem x52 {M : sK} {k : Nat} (h : k < 1300) : sex M 52 k 0 = true := by
  show (Nat.blt k 1300 && Nat.beq 0 0) = true
  rw [bl_lt h]; rfl
theorem x53 {M : sK} {k : Nat} (h : k < 1300) : sex M 53 k 0 = true := by
  show (Nat.blt k 1300 && Nat.beq 0 0) = true
  rw [bl_lt h]; rfl
def mzT (T : sS) (s d : Nat) : Nat → sS
  | 0 => T
  | i + 1 => siL (siI (mzT T s d i) 57 s d i (nI 0)) 61 s d i 0
theorem mzT_2 (T : sS) (s d : Nat) : ∀ i, (mzT T s d i).2.2 = T.2.2 := by
  intro i
  induction i with
  | zero => rfl
  | succ i ih => exact ih
theorem mzT_I (T : sS) (s d : Nat) {t x y : Nat} (h : ¬ (t = 57 ∧ x = s ∧ y = d)) : ∀ i, (mzT T s d i).1 t x y = T.1 t x y := by
  intro i
  induction i with
  | zero => rfl
  | succ i ih => exact (siI_ne _ _ _ h).trans ih
theorem mzT_L (T : sS) (s d : Nat) {t x y : Nat} (h : ¬ (t = 61 ∧ x = s ∧ y = d)) : ∀ i, (mzT T s d i).2.1 t x y = T.2.1 t x y := by
  intro i
  induction i with
  | zero => rfl
  | succ i ih => exact (siL_ne _ _ _ h).trans ih
theorem mzT_z (T : sS) (s d n : Nat) : ∀ i, n < i → (mzT T s d i).1 57 s d n = nI 0 ∧ (mzT T s d i).2.1 61 s d n = 0 := by
  intro i
  induction i with
  | zero => intro h; omega
  | succ i ih =>
    intro h
    unfold mzT
    rw [gL1, gI, gL]
    by_cases e : n = i
    · rw [if_pos ⟨rfl, rfl, rfl, e⟩, if_pos ⟨rfl, rfl, rfl, e⟩]
      exact ⟨rfl, rfl⟩
    · rw [if_neg (by omega), if_neg (by omega)]
      exact ih (by omega)
set_option maxHeartbeats 4000000 in
set_option linter.unusedSimpArgs false in
theorem l_142 {G : jG} {t : Nat} {T : sS} {s d : Nat} (hs : s < 16) (hd : d < 30) : ∀ k i tt, i + k = 12 → k < tt → F_142_60 G t tt (s, d) (nI i) (mzT T s d i) = some ((), mzT T s d 12) := by
  intro k
  induction k with
  | zero =>
    intro i tt hi ht
    obtain ⟨u, rfl⟩ : ∃ u, tt = u + 1 := ⟨tt - 1, by omega⟩
    rw [F_142_60]
    have : i = 12 := by omega
    subst this
    simp (disch := first | assumption | omega) only [gI, gI2, gL, gL1, gL2, jcLT, jcGE, jcGT, jcLE, jcEQ, jcNE, dEQ, nIt, lgNE, lgEQ, lgGE, lgLT, lgGT, lgLE, jinT, nIc, nI0, nI1, nIo, nIs, nI_add, nIm, nIn0, szl0, szl1, szl2, szl3, szl4, szl5, Nat.add_sub_assoc, Nat.add_zero, Nat.reduceSub, Nat.reduceAdd, Nat.reduceMul, Nat.reduceEqDiff,  jifT, bdS, sifN, sifS, omN, omS, cdI, x25, x26, x27, x28, x29, x30, x31, x32, xr0, xr1, xr2, xr3, xr4, xr5, if_pos, if_neg, true_and, and_true, false_and, and_false, and_self, Bool.and_true, if_true, if_false, reduceIte, cond_true, cond_false, not_true_eq_false, not_false_eq_true]
  | succ k ih =>
    intro i tt hi ht
    obtain ⟨u, rfl⟩ : ∃ u, tt = u + 1 := ⟨tt - 1, by omega⟩
    rw [F_142_60]
    have e := ih (i + 1) u (by omega) (by omega)
    simp (disch := first | assumption | omega) only [gI, gI2, gL, gL1, gL2, jcLT, jcGE, jcGT, jcLE, jcEQ, jcNE, dEQ, nIt, lgNE, lgEQ, lgGE, lgLT, lgGT, lgLE, jinT, nIc, nI0, nI1, nIo, nIs, nI_add, nIm, nIn0, szl0, szl1, szl2, szl3, szl4, szl5, Nat.add_sub_assoc, Nat.add_zero, Nat.reduceSub, Nat.reduceAdd, Nat.reduceMul, Nat.reduceEqDiff,  jifT, bdS, sifN, sifS, omN, omS, cdI, x25, x26, x27, x28, x29, x30, x31, x32, xr0, xr1, xr2, xr3, xr4, xr5, if_pos, if_neg, true_and, and_true, false_and, and_false, and_self, Bool.and_true, if_true, if_false, reduceIte, cond_true, cond_false, not_true_eq_false, not_false_eq_true, x56, x57, x61]
    exact e
def meT (T : sS) (s dp f b : Nat) : sS := mzT (siI (siI (siI (siI (siI (siI (siI T 54 s 0 1 (nI (dp + 1))) 56 s dp 0 (nI f)) 56 s dp 1 (nI 0)) 56 s dp 2 (nI 0)) 56 s dp 3 (nI 0)) 56 s dp 4 (nI 0)) 56 s dp 5 (nI b)) s dp 12
theorem jfb {b : Nat} (h : b ≤ 1) : jfit 1 (.int (nI b)) = true := by
  rcases (show b = 0 ∨ b = 1 by omega) with rfl | rfl <;> rfl
set_option maxHeartbeats 4000000 in
set_option linter.unusedSimpArgs false in
theorem f_142 {G : jG} {t : Nat} {T : sS} {s dp f b : Nat} (ht : 100 < t) (hs : s < 16) (hdp : dp < 30) (hb : b ≤ 1) (hd : T.1 54 s 0 1 = nI dp) : F_142 G t (s, 0) (nI f) (nI b) T = some ((), meT T s dp f b) := by
  have e := l_142 (G := G) (t := t) (T := siI (siI (siI (siI (siI (siI (siI T 54 s 0 1 (nI (dp + 1))) 56 s dp 0 (nI f)) 56 s dp 1 (nI 0)) 56 s dp 2 (nI 0)) 56 s dp 3 (nI 0)) 56 s dp 4 (nI 0)) 56 s dp 5 (nI b)) hs hdp 12 0 t rfl (by omega)
  unfold F_142
  simp (disch := first | assumption | omega) only [gI, gI2, gL, gL1, gL2, jcLT, jcGE, jcGT, jcLE, jcEQ, jcNE, dEQ, nIt, lgNE, lgEQ, lgGE, lgLT, lgGT, lgLE, jinT, nIc, nI0, nI1, nIo, nIs, nI_add, nIm, nIn0, szl0, szl1, szl2, szl3, szl4, szl5, Nat.add_sub_assoc, Nat.add_zero, Nat.reduceSub, Nat.reduceAdd, Nat.reduceMul, Nat.reduceEqDiff,  jifT, bdS, sifN, sifS, omN, omS, cdI, x25, x26, x27, x28, x29, x30, x31, x32, xr0, xr1, xr2, xr3, xr4, xr5, if_pos, if_neg, true_and, and_true, false_and, and_false, and_self, Bool.and_true, if_true, if_false, reduceIte, cond_true, cond_false, not_true_eq_false, not_false_eq_true, x54, x55, x56, hd, jfb]
  exact e
theorem meT_2 (T : sS) (s dp f b : Nat) : (meT T s dp f b).2.2 = T.2.2 := mzT_2 _ _ _ _
set_option maxHeartbeats 4000000 in
set_option linter.unusedSimpArgs false in
theorem meT_ag (T : sS) (s dp f b : Nat) : agr (fun t i j => (t = 54 ∧ i = s ∧ j = 0) ∨ (56 ≤ t ∧ t ≤ 63 ∧ i = s ∧ j = dp)) T (meT T s dp f b) := by
  intro t i j h
  constructor
  · funext k
    unfold meT
    simp (disch := first | assumption | omega) only [gI, gI2, gL, gL1, gL2, jcLT, jcGE, jcGT, jcLE, jcEQ, jcNE, dEQ, nIt, lgNE, lgEQ, lgGE, lgLT, lgGT, lgLE, jinT, nIc, nI0, nI1, nIo, nIs, nI_add, nIm, nIn0, szl0, szl1, szl2, szl3, szl4, szl5, Nat.add_sub_assoc, Nat.add_zero, Nat.reduceSub, Nat.reduceAdd, Nat.reduceMul, Nat.reduceEqDiff,  jifT, bdS, sifN, sifS, omN, omS, cdI, x25, x26, x27, x28, x29, x30, x31, x32, xr0, xr1, xr2, xr3, xr4, xr5, if_pos, if_neg, true_and, and_true, false_and, and_false, and_self, Bool.and_true, if_true, if_false, reduceIte, cond_true, cond_false, not_true_eq_false, not_false_eq_true, mzT_I]
  · funext k
    unfold meT
    simp (disch := first | assumption | omega) only [gI, gI2, gL, gL1, gL2, jcLT, jcGE, jcGT, jcLE, jcEQ, jcNE, dEQ, nIt, lgNE, lgEQ, lgGE, lgLT, lgGT, lgLE, jinT, nIc, nI0, nI1, nIo, nIs, nI_add, nIm, nIn0, szl0, szl1, szl2, szl3, szl4, szl5, Nat.add_sub_assoc, Nat.add_zero, Nat.reduceSub, Nat.reduceAdd, Nat.reduceMul, Nat.reduceEqDiff,  jifT, bdS, sifN, sifS, omN, omS, cdI, x25, x26, x27, x28, x29, x30, x31, x32, xr0, xr1, xr2, xr3, xr4, xr5, if_pos, if_neg, true_and, and_true, false_and, and_false, and_self, Bool.and_true, if_true, if_false, reduceIte, cond_true, cond_false, not_true_eq_false, not_false_eq_true, mzT_L]
set_option maxHeartbeats 4000000 in
set_option linter.unusedSimpArgs false in
theorem meT_54 (T : sS) (s dp f b k : Nat) : (meT T s dp f b).1 54 s 0 k = if k = 1 then nI (dp + 1) else T.1 54 s 0 k := by
  unfold meT
  by_cases h : k = 1
  · subst h
    simp (disch := first | assumption | omega) only [gI, gI2, gL, gL1, gL2, jcLT, jcGE, jcGT, jcLE, jcEQ, jcNE, dEQ, nIt, lgNE, lgEQ, lgGE, lgLT, lgGT, lgLE, jinT, nIc, nI0, nI1, nIo, nIs, nI_add, nIm, nIn0, szl0, szl1, szl2, szl3, szl4, szl5, Nat.add_sub_assoc, Nat.add_zero, Nat.reduceSub, Nat.reduceAdd, Nat.reduceMul, Nat.reduceEqDiff,  jifT, bdS, sifN, sifS, omN, omS, cdI, x25, x26, x27, x28, x29, x30, x31, x32, xr0, xr1, xr2, xr3, xr4, xr5, if_pos, if_neg, true_and, and_true, false_and, and_false, and_self, Bool.and_true, if_true, if_false, reduceIte, cond_true, cond_false, not_true_eq_false, not_false_eq_true, mzT_I]
  · rw [if_neg h]
    simp (disch := first | assumption | omega) only [gI, gI2, gL, gL1, gL2, jcLT, jcGE, jcGT, jcLE, jcEQ, jcNE, dEQ, nIt, lgNE, lgEQ, lgGE, lgLT, lgGT, lgLE, jinT, nIc, nI0, nI1, nIo, nIs, nI_add, nIm, nIn0, szl0, szl1, szl2, szl3, szl4, szl5, Nat.add_sub_assoc, Nat.add_zero, Nat.reduceSub, Nat.reduceAdd, Nat.reduceMul, Nat.reduceEqDiff,  jifT, bdS, sifN, sifS, omN, omS, cdI, x25, x26, x27, x28, x29, x30, x31, x32, xr0, xr1, xr2, xr3, xr4, xr5, if_pos, if_neg, true_and, and_true, false_and, and_false, and_self, Bool.and_true, if_true, if_false, reduceIte, cond_true, cond_false, not_true_eq_false, not_false_eq_true, mzT_I]
set_option maxHeartbeats 4000000 in
set_option linter.unusedSimpArgs false in
theorem meT_56 (T : sS) (s dp f b : Nat) : (meT T s dp f b).1 56 s dp 0 = nI f ∧ (meT T s dp f b).1 56 s dp 1 = nI 0 ∧ (meT T s dp f b).1 56 s dp 2 = nI 0 ∧ (meT T s dp f b).1 56 s dp 3 = nI 0 ∧ (meT T s dp f b).1 56 s dp 4 = nI 0 ∧ (meT T s dp f b).1 56 s dp 5 = nI b := by
  unfold meT
  refine ⟨?_, ?_, ?_, ?_, ?_, ?_⟩
  all_goals simp (disch := first | assumption | omega) only [gI, gI2, gL, gL1, gL2, jcLT, jcGE, jcGT, jcLE, jcEQ, jcNE, dEQ, nIt, lgNE, lgEQ, lgGE, lgLT, lgGT, lgLE, jinT, nIc, nI0, nI1, nIo, nIs, nI_add, nIm, nIn0, szl0, szl1, szl2, szl3, szl4, szl5, Nat.add_sub_assoc, Nat.add_zero, Nat.reduceSub, Nat.reduceAdd, Nat.reduceMul, Nat.reduceEqDiff,  jifT, bdS, sifN, sifS, omN, omS, cdI, x25, x26, x27, x28, x29, x30, x31, x32, xr0, xr1, xr2, xr3, xr4, xr5, if_pos, if_neg, true_and, and_true, false_and, and_false, and_self, Bool.and_true, if_true, if_false, reduceIte, cond_true, cond_false, not_true_eq_false, not_false_eq_true, mzT_I]
theorem meT_z (T : sS) (s dp f b i : Nat) (h : i < 12) : (meT T s dp f b).1 57 s dp i = nI 0 ∧ (meT T s dp f b).2.1 61 s dp i = 0 := mzT_z _ _ _ _ _ h
