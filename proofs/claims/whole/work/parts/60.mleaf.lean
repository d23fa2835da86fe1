/-! The reference's pops and push. -/
def mpS (T : sS) (s d n : Nat) : Nat → sS
  | 0 => T
  | k + 1 => siL (siI (siI (mpS T s d n k) 56 s d 2 (nI (n - (k + 1)))) 47 0 0 k (T.1 58 s d (n - (k + 1)))) 48 0 0 k (T.2.1 62 s d (n - (k + 1)))
theorem mpS_2 (T : sS) (s d n : Nat) : ∀ k, (mpS T s d n k).2.2 = T.2.2 := by
  intro k
  induction k with
  | zero => rfl
  | succ k ih => exact ih
theorem mpS_I (T : sS) (s d n : Nat) {t x y : Nat} (h : ¬ (t = 56 ∧ x = s ∧ y = d)) (h' : t ≠ 47) : ∀ k, (mpS T s d n k).1 t x y = T.1 t x y := by
  intro k
  induction k with
  | zero => rfl
  | succ k ih =>
    show (siI (siI (mpS T s d n k) 56 s d 2 _) 47 0 0 k _).1 t x y = _
    rw [siI_ne _ _ _ (by omega), siI_ne _ _ _ h]
    exact ih
theorem mpS_L (T : sS) (s d n : Nat) {t x y : Nat} (h' : t ≠ 48) : ∀ k, (mpS T s d n k).2.1 t x y = T.2.1 t x y := by
  intro k
  induction k with
  | zero => rfl
  | succ k ih =>
    show (siL _ 48 0 0 k _).2.1 t x y = _
    rw [siL_ne _ _ _ (by omega)]
    exact ih
theorem mpS_ag (T : sS) (s d n k : Nat) : agr (fun t i j => (t = 56 ∧ i = s ∧ j = d) ∨ (47 ≤ t ∧ t ≤ 48)) T (mpS T s d n k) := fun t i j h => ⟨mpS_I _ _ _ _ (by omega) (by omega) _, mpS_L _ _ _ _ (by omega) _⟩
theorem mpS_56 (T : sS) (s d n : Nat) {i : Nat} (h : i ≠ 2) : ∀ k, (mpS T s d n k).1 56 s d i = T.1 56 s d i := by
  intro k
  induction k with
  | zero => rfl
  | succ k ih =>
    unfold mpS
    rw [gL1, gI, if_neg (by omega), gI, if_neg (by omega)]
    exact ih
theorem mpS_sz {T : sS} {s d n : Nat} (h : T.1 56 s d 2 = nI n) (k : Nat) : (mpS T s d n k).1 56 s d 2 = nI (n - k) := by
  cases k with
  | zero => exact h
  | succ k =>
    unfold mpS
    rw [gL1, gI, if_neg (by omega), gI, if_pos ⟨rfl, rfl, rfl, rfl⟩]
theorem mpS_v (T : sS) (s d n : Nat) {i : Nat} : ∀ k, i < k → (mpS T s d n k).1 47 0 0 i = T.1 58 s d (n - (i + 1)) ∧ (mpS T s d n k).2.1 48 0 0 i = T.2.1 62 s d (n - (i + 1)) := by
  intro k
  induction k with
  | zero => intro h; omega
  | succ k ih =>
    intro h
    unfold mpS
    rw [gL1, gI, gL]
    by_cases c : i = k
    · subst c
      rw [if_pos ⟨rfl, rfl, rfl, rfl⟩, if_pos ⟨rfl, rfl, rfl, rfl⟩]
      exact ⟨rfl, rfl⟩
    · rw [if_neg (by omega), if_neg (by omega), gI, if_neg (by omega)]
      exact ih (by omega)
set_option maxHeartbeats 4000000 in
set_option linter.unusedSimpArgs false in
theorem l_156 {G : jG} {t : Nat} {T : sS} {s d n k b : Nat} (hs : s < 16) (hd : d < 30) (hn : n ≤ 16) (hk : k ≤ 16) (h2 : T.1 56 s d 2 = nI n) : ∀ j i tt, i + j = k → k ≤ n → j < tt → F_156_23 G t tt (s, 0) (nI k) (s, d) (nI b) (nI i) (mpS T s d n i) = F_156_84 G t (s, 0) (nI b) (mpS T s d n k) := by
  intro j
  induction j with
  | zero =>
    intro i tt h1 hkn h3
    obtain ⟨u, rfl⟩ : ∃ u, tt = u + 1 := ⟨tt - 1, by omega⟩
    rw [F_156_23]
    have : i = k := by omega
    subst this
    simp (disch := first | assumption | omega) only [gI, gI2, gL, gL1, gL2, jcLT, jcGE, jcGT, jcLE, jcEQ, jcNE, dEQ, nIt, lgNE, lgEQ, lgGE, lgLT, lgGT, lgLE, jinT, nIc, nI0, nI1, nIo, nIs, nI_add, nIm, nIn0, szl0, szl1, szl2, szl3, szl4, szl5, Nat.add_sub_assoc, Nat.add_zero, Nat.reduceSub, Nat.reduceAdd, Nat.reduceMul, Nat.reduceEqDiff,  jifT, bdS, sifN, sifS, omN, omS, cdI, x25, x26, x27, x28, x29, x30, x31, x32, xr0, xr1, xr2, xr3, xr4, xr5, if_pos, if_neg, true_and, and_true, false_and, and_false, and_self, Bool.and_true, if_true, if_false, reduceIte, cond_true, cond_false, not_true_eq_false, not_false_eq_true]
  | succ j ih =>
    intro i tt h1 hkn h3
    obtain ⟨u, rfl⟩ : ∃ u, tt = u + 1 := ⟨tt - 1, by omega⟩
    rw [F_156_23]
    have e := ih (i + 1) u (by omega) hkn (by omega)
    have z := mpS_sz (k := i) h2
    have z2 := mpS_L T s d n (t := 62) (x := s) (y := d) (by omega) i
    have z3 := mpS_I T s d n (t := 58) (x := s) (y := d) (by omega) (by omega) i
    clear ih
    have q1 : n - i - 1 = n - (i + 1) := by omega
    simp (disch := first | assumption | omega) only [gI, gI2, gL, gL1, gL2, jcLT, jcGE, jcGT, jcLE, jcEQ, jcNE, dEQ, nIt, lgNE, lgEQ, lgGE, lgLT, lgGT, lgLE, jinT, nIc, nI0, nI1, nIo, nIs, nI_add, nIm, nIn0, szl0, szl1, szl2, szl3, szl4, szl5, Nat.add_sub_assoc, Nat.add_zero, Nat.reduceSub, Nat.reduceAdd, Nat.reduceMul, Nat.reduceEqDiff,  jifT, bdS, sifN, sifS, omN, omS, cdI, x25, x26, x27, x28, x29, x30, x31, x32, xr0, xr1, xr2, xr3, xr4, xr5, if_pos, if_neg, true_and, and_true, false_and, and_false, and_self, Bool.and_true, if_true, if_false, reduceIte, cond_true, cond_false, not_true_eq_false, not_false_eq_true, x51, x52, x53, x54, x55, x56, x57, x58, x59, x60, x61, x62, x63, z, z2, z3, q1]
    exact e
set_option maxHeartbeats 4000000 in
set_option linter.unusedSimpArgs false in
theorem e_156 {G : jG} {t : Nat} {T : sS} {s d n k : Nat} (ht : 100 < t) (hs : s < 16) (hd : d < 30) (hn : n ≤ 16) (h3 : T.1 54 s 0 1 = nI (d + 1)) (h2 : T.1 56 s d 2 = nI n) (hk : k ≤ n) : F_156 G t (s, 0) (nI k) T = some (nI 1, mpS T s d n k) := by
  have e := l_156 (G := G) (t := t) (T := T) (k := k) (b := 1) hs hd hn (by omega) h2 k 0 t (by omega) hk (by omega)
  unfold F_156
  simp (disch := first | assumption | omega) only [gI, gI2, gL, gL1, gL2, jcLT, jcGE, jcGT, jcLE, jcEQ, jcNE, dEQ, nIt, lgNE, lgEQ, lgGE, lgLT, lgGT, lgLE, jinT, nIc, nI0, nI1, nIo, nIs, nI_add, nIm, nIn0, szl0, szl1, szl2, szl3, szl4, szl5, Nat.add_sub_assoc, Nat.add_zero, Nat.reduceSub, Nat.reduceAdd, Nat.reduceMul, Nat.reduceEqDiff,  jifT, bdS, sifN, sifS, omN, omS, cdI, x25, x26, x27, x28, x29, x30, x31, x32, xr0, xr1, xr2, xr3, xr4, xr5, if_pos, if_neg, true_and, and_true, false_and, and_false, and_self, Bool.and_true, if_true, if_false, reduceIte, cond_true, cond_false, not_true_eq_false, not_false_eq_true, x51, x52, x53, x54, x55, x56, x57, x58, x59, x60, x61, x62, x63, F_151, h3, h2, F_156_18]
  refine e.trans ?_
  unfold F_156_84
  simp (disch := first | assumption | omega) only [gI, gI2, gL, gL1, gL2, jcLT, jcGE, jcGT, jcLE, jcEQ, jcNE, dEQ, nIt, lgNE, lgEQ, lgGE, lgLT, lgGT, lgLE, jinT, nIc, nI0, nI1, nIo, nIs, nI_add, nIm, nIn0, szl0, szl1, szl2, szl3, szl4, szl5, Nat.add_sub_assoc, Nat.add_zero, Nat.reduceSub, Nat.reduceAdd, Nat.reduceMul, Nat.reduceEqDiff,  jifT, bdS, sifN, sifS, omN, omS, cdI, x25, x26, x27, x28, x29, x30, x31, x32, xr0, xr1, xr2, xr3, xr4, xr5, if_pos, if_neg, true_and, and_true, false_and, and_false, and_self, Bool.and_true, if_true, if_false, reduceIte, cond_true, cond_false, not_true_eq_false, not_false_eq_true, jfb]
/-! more are wanted than there are: all are taken, and it panics -/
set_option maxHeartbeats 4000000 in
set_option linter.unusedSimpArgs false in
theorem l_156x {G : jG} {t : Nat} {T : sS} {s d n k : Nat} (hs : s < 16) (hd : d < 30) (hn : n ≤ 16) (hk : k ≤ 16) (hnk : n < k) (h2 : T.1 56 s d 2 = nI n) : ∀ j i tt, i + j = n → j < tt → F_156_23 G t tt (s, 0) (nI k) (s, d) (nI 0) (nI i) (mpS T s d n i) = F_156_84 G t (s, 0) (nI 0) (mpS T s d n n) := by
  intro j
  induction j with
  | zero =>
    intro i tt h1 h3
    obtain ⟨u, rfl⟩ : ∃ u, tt = u + 1 := ⟨tt - 1, by omega⟩
    rw [F_156_23]
    have : i = n := by omega
    subst this
    have z := mpS_sz (k := i) h2
    simp (disch := first | assumption | omega) only [gI, gI2, gL, gL1, gL2, jcLT, jcGE, jcGT, jcLE, jcEQ, jcNE, dEQ, nIt, lgNE, lgEQ, lgGE, lgLT, lgGT, lgLE, jinT, nIc, nI0, nI1, nIo, nIs, nI_add, nIm, nIn0, szl0, szl1, szl2, szl3, szl4, szl5, Nat.add_sub_assoc, Nat.add_zero, Nat.reduceSub, Nat.reduceAdd, Nat.reduceMul, Nat.reduceEqDiff,  jifT, bdS, sifN, sifS, omN, omS, cdI, x25, x26, x27, x28, x29, x30, x31, x32, xr0, xr1, xr2, xr3, xr4, xr5, if_pos, if_neg, true_and, and_true, false_and, and_false, and_self, Bool.and_true, if_true, if_false, reduceIte, cond_true, cond_false, not_true_eq_false, not_false_eq_true, x51, x52, x53, x54, x55, x56, x57, x58, x59, x60, x61, x62, x63, z, Nat.sub_self]
  | succ j ih =>
    intro i tt h1 h3
    obtain ⟨u, rfl⟩ : ∃ u, tt = u + 1 := ⟨tt - 1, by omega⟩
    rw [F_156_23]
    have e := ih (i + 1) u (by omega) (by omega)
    have z := mpS_sz (k := i) h2
    have z2 := mpS_L T s d n (t := 62) (x := s) (y := d) (by omega) i
    have z3 := mpS_I T s d n (t := 58) (x := s) (y := d) (by omega) (by omega) i
    clear ih
    have q1 : n - i - 1 = n - (i + 1) := by omega
    simp (disch := first | assumption | omega) only [gI, gI2, gL, gL1, gL2, jcLT, jcGE, jcGT, jcLE, jcEQ, jcNE, dEQ, nIt, lgNE, lgEQ, lgGE, lgLT, lgGT, lgLE, jinT, nIc, nI0, nI1, nIo, nIs, nI_add, nIm, nIn0, szl0, szl1, szl2, szl3, szl4, szl5, Nat.add_sub_assoc, Nat.add_zero, Nat.reduceSub, Nat.reduceAdd, Nat.reduceMul, Nat.reduceEqDiff,  jifT, bdS, sifN, sifS, omN, omS, cdI, x25, x26, x27, x28, x29, x30, x31, x32, xr0, xr1, xr2, xr3, xr4, xr5, if_pos, if_neg, true_and, and_true, false_and, and_false, and_self, Bool.and_true, if_true, if_false, reduceIte, cond_true, cond_false, not_true_eq_false, not_false_eq_true, x51, x52, x53, x54, x55, x56, x57, x58, x59, x60, x61, x62, x63, z, z2, z3, q1]
    exact e
set_option maxHeartbeats 4000000 in
set_option linter.unusedSimpArgs false in
theorem e_156x {G : jG} {t : Nat} {T : sS} {s d n k : Nat} (ht : 100 < t) (hs : s < 16) (hd : d < 30) (hn : n ≤ 16) (h3 : T.1 54 s 0 1 = nI (d + 1)) (h2 : T.1 56 s d 2 = nI n) (hk : k ≤ 16) (hnk : n < k) : F_156 G t (s, 0) (nI k) T = (F_155 G t (s, 0) (-3) (mpS T s d n n)).bind fun q => some (nI 0, q.2) := by
  have e := l_156x (G := G) (t := t) (T := T) (k := k) hs hd hn (by omega) hnk h2 n 0 t (by omega) (by omega)
  unfold F_156
  simp (disch := first | assumption | omega) only [gI, gI2, gL, gL1, gL2, jcLT, jcGE, jcGT, jcLE, jcEQ, jcNE, dEQ, nIt, lgNE, lgEQ, lgGE, lgLT, lgGT, lgLE, jinT, nIc, nI0, nI1, nIo, nIs, nI_add, nIm, nIn0, szl0, szl1, szl2, szl3, szl4, szl5, Nat.add_sub_assoc, Nat.add_zero, Nat.reduceSub, Nat.reduceAdd, Nat.reduceMul, Nat.reduceEqDiff,  jifT, bdS, sifN, sifS, omN, omS, cdI, x25, x26, x27, x28, x29, x30, x31, x32, xr0, xr1, xr2, xr3, xr4, xr5, if_pos, if_neg, true_and, and_true, false_and, and_false, and_self, Bool.and_true, if_true, if_false, reduceIte, cond_true, cond_false, not_true_eq_false, not_false_eq_true, x51, x52, x53, x54, x55, x56, x57, x58, x59, x60, x61, x62, x63, F_151, h3, h2, F_156_18]
  refine e.trans ?_
  unfold F_156_84
  simp (disch := first | assumption | omega) only [gI, gI2, gL, gL1, gL2, jcLT, jcGE, jcGT, jcLE, jcEQ, jcNE, dEQ, nIt, lgNE, lgEQ, lgGE, lgLT, lgGT, lgLE, jinT, nIc, nI0, nI1, nIo, nIs, nI_add, nIm, nIn0, szl0, szl1, szl2, szl3, szl4, szl5, Nat.add_sub_assoc, Nat.add_zero, Nat.reduceSub, Nat.reduceAdd, Nat.reduceMul, Nat.reduceEqDiff,  jifT, bdS, sifN, sifS, omN, omS, cdI, x25, x26, x27, x28, x29, x30, x31, x32, xr0, xr1, xr2, xr3, xr4, xr5, if_pos, if_neg, true_and, and_true, false_and, and_false, and_self, Bool.and_true, if_true, if_false, reduceIte, cond_true, cond_false, not_true_eq_false, not_false_eq_true, jfb]
def mpu (T : sS) (s d n : Nat) (k : Int32) (v : Int64) : sS := siI (siL (siI T 58 s d n k) 62 s d n v) 56 s d 2 (nI (n + 1))
set_option maxHeartbeats 4000000 in
set_option linter.unusedSimpArgs false in
theorem e_157 {G : jG} {t : Nat} {T : sS} {s d n : Nat} {k : Int32} {v : Int64} (hs : s < 16) (hd : d < 30) (hn : n < 16) (h3 : T.1 54 s 0 1 = nI (d + 1)) (h2 : T.1 56 s d 2 = nI n) : F_157 G t (s, 0) k v T = some (nI 1, mpu T s d n k v) := by
  unfold F_157
  simp (disch := first | assumption | omega) only [gI, gI2, gL, gL1, gL2, jcLT, jcGE, jcGT, jcLE, jcEQ, jcNE, dEQ, nIt, lgNE, lgEQ, lgGE, lgLT, lgGT, lgLE, jinT, nIc, nI0, nI1, nIo, nIs, nI_add, nIm, nIn0, szl0, szl1, szl2, szl3, szl4, szl5, Nat.add_sub_assoc, Nat.add_zero, Nat.reduceSub, Nat.reduceAdd, Nat.reduceMul, Nat.reduceEqDiff,  jifT, bdS, sifN, sifS, omN, omS, cdI, x25, x26, x27, x28, x29, x30, x31, x32, xr0, xr1, xr2, xr3, xr4, xr5, if_pos, if_neg, true_and, and_true, false_and, and_false, and_self, Bool.and_true, if_true, if_false, reduceIte, cond_true, cond_false, not_true_eq_false, not_false_eq_true, x51, x52, x53, x54, x55, x56, x57, x58, x59, x60, x61, x62, x63, F_151, h3, h2]
  rfl
section MLF
variable {φ : Nat → Nat} {D : Nat → Prop} {F : Nat} {P : aP} {S T : sS} {p s d f pc n m e b : Nat}
set_option maxHeartbeats 4000000 in
set_option linter.unusedSimpArgs false in
theorem frR.pops (h : frR φ D F P S p T s d f pc n m e b) (k : Nat) : frR φ D F P (siI S 29 p 1 2 (nI (n - k))) p (mpS T s d n k) s d f pc (n - k) m e b := by
  obtain ⟨hM, ⟨f1, f2, f3⟩, ⟨p1, p2, p3⟩, ⟨o1, o2, o3, o4⟩, ⟨d1, d2, d3, d4⟩, ⟨l1, l2⟩, ⟨e1, e2, e3, e4, e5⟩⟩ := h
  have z := mpS_sz (k := k) o2
  have y0 := mpS_56 T s d n (i := 0) (by omega) k
  have y1 := mpS_56 T s d n (i := 1) (by omega) k
  have y3 := mpS_56 T s d n (i := 3) (by omega) k
  have y4 := mpS_56 T s d n (i := 4) (by omega) k
  have y5 := mpS_56 T s d n (i := 5) (by omega) k
  have y7 := mpS_56 T s d n (i := 7) (by omega) k
  have yL := fun t (ht : t ≠ 48) => mpS_L T s d n (t := t) (x := s) (y := d) ht k
  have yI := fun t (ht : t ≠ 56) (ht' : t ≠ 47) => mpS_I T s d n (t := t) (x := s) (y := d) (by omega) ht' k
  refine ⟨?_, ⟨?_, ?_, ?_⟩, ⟨?_, ?_, ?_⟩, ⟨?_, ?_, ?_, fun i hi => ?_⟩, ⟨?_, ?_, ?_, fun i hi => ?_⟩, ⟨?_, fun i hi => ?_⟩, ⟨?_, ?_, ?_, ?_, ?_⟩⟩
  all_goals try rw [y0]
  all_goals try rw [y1]
  all_goals try rw [y3]
  all_goals try rw [y4]
  all_goals try rw [y5]
  all_goals try rw [y7]
  all_goals try rw [z]
  all_goals try rw [yL 62 (by omega)]
  all_goals try rw [yL 63 (by omega)]
  all_goals try rw [yL 61 (by omega)]
  all_goals try rw [yL 56 (by omega)]
  all_goals try rw [yI 58 (by omega) (by omega)]
  all_goals try rw [yI 59 (by omega) (by omega)]
  all_goals try rw [yI 60 (by omega) (by omega)]
  all_goals try rw [yI 57 (by omega) (by omega)]
  all_goals clear z y0 y1 y3 y4 y5 y7 yL yI
  all_goals try simp (disch := first | assumption | omega) only [gI, gI2, gL, gL1, gL2, jcLT, jcGE, jcGT, jcLE, jcEQ, jcNE, dEQ, nIt, lgNE, lgEQ, lgGE, lgLT, lgGT, lgLE, jinT, nIc, nI0, nI1, nIo, nIs, nI_add, nIm, nIn0, szl0, szl1, szl2, szl3, szl4, szl5, Nat.add_sub_assoc, Nat.add_zero, Nat.reduceSub, Nat.reduceAdd, Nat.reduceMul, Nat.reduceEqDiff,  jifT, bdS, sifN, sifS, omN, omS, cdI, x25, x26, x27, x28, x29, x30, x31, x32, xr0, xr1, xr2, xr3, xr4, xr5, if_pos, if_neg, true_and, and_true, false_and, and_false, and_self, Bool.and_true, if_true, if_false, reduceIte, cond_true, cond_false, not_true_eq_false, not_false_eq_true]
  all_goals first | assumption | omega | exact o4 i (by omega) | exact d4 i hi | exact l2 i hi | skip
end MLF
