/-! printed by gena1.py: each instruction of a step -/
section STI
variable {φ φ' : Nat → Nat} {D D' : Nat → Prop} {F N : Nat} {P : aP} {S S' T T' T1 : sS} {A : aS} {r s d p f pc n m e b k y g q : Nat} {G : jG} {t j : Nat} {a : Int32}
/-! what isWhole asks of DEFER -/
def whS (F : Nat) (P : aP) : Prop := ∀ f, f < F → ∀ k, k < P.2.2.2.1 f → P.2.2.2.2.1 (P.2.2.1 f + k) = 34 → ∃ a, P.2.2.2.2.2 (P.2.2.1 f + k) = nI a ∧ a < F ∧ P.1 a = 1
/-! strand r has taken instruction q of function f -/
def stC (φ : Nat → Nat) (D : Nat → Prop) (F N : Nat) (P : aP) (S T : sS) (A : aS) (r d p f q n m : Nat) : Prop := cx φ D F N P S T A r d p f (q + 1) n m ∧ gcR D S ∧ iqR P A r False ∧ T.1 33 0 0 38 = nI 0 ∧ f < F ∧ q < P.2.2.2.1 f ∧ A.2.2.2.2.2.1 + A.2.2.2.2.2.2 < 2147483648 ∧ whS F P
def stQ (D : Nat → Prop) (F N : Nat) (P : aP) (S T : sS) (A : aS) (r d p n : Nat) (G : jG) (t o : Nat) (a : Int32) : Prop := ∃ k, F_75 G t (nI o) a S = some (nI k, S) ∧ k ≤ 16 ∧ insY D F N P S T A r p G t k (if o = 32 then 1 else 0) (if n < k ∨ 16 < n - k + gvL.getD o 0 then some (-3, S) else F_116 G t (nI o) a (r, 0) (p, 0) S) (F_188 G t (r, 0) (r, d) (nI o) a T)
theorem stC.nx (h : stC φ D F N P S T A r d p f q n m) {o : Nat} (ho : P.2.2.2.2.1 (P.2.2.1 f + q) = o) (h1 : o ≠ 16) (h2 : o ≠ 19) (h3 : o ≠ 35) : q + 1 < P.2.2.2.1 f := by
  obtain ⟨⟨_, wh, _⟩, _, _, _, hf, hq, _⟩ := h
  obtain ⟨⟨l, e1, e2⟩, _⟩ := wh f hf
  by_cases c : q = l
  · subst c
    rw [ho] at e2
    omega
  · omega
theorem stC.ok (h : stC φ D F N P S T A r d p f q n m) {o : Nat} (ho : P.2.2.2.2.1 (P.2.2.1 f + q) = o) (ha : P.2.2.2.2.2 (P.2.2.1 f + q) = a) : okI (P.2.1 f) o a := by
  have := h.1.1.1.2 f h.2.2.2.2.1 q h.2.2.2.2.2.1
  rw [ho, ha] at this
  exact this
theorem stC.lo (h : stC φ D F N P S T A r d p f q n m) : P.2.1 f ≤ 12 := h.1.1.lo12 f h.2.2.2.2.1
set_option maxHeartbeats 4000000 in
set_option linter.unusedSimpArgs false in
theorem e75 {o : Nat} (hG : gG G) (ho : o < 37) (h1 : o ≠ 18) (h2 : o ≠ 20) (h3 : o ≠ 31) : F_75 G t (nI o) a S = some (nI (tkL.getD o 0), S) := by
  obtain ⟨g1, g2, g3⟩ := hG
  have g4 := (g3 o ho).1
  clear g3
  unfold F_75
  simp (disch := first | assumption | omega) only [gI, gI2, gL, gL1, gL2, jcLT, jcGE, jcGT, jcLE, jcEQ, jcNE, dEQ, nIt, lgNE, lgEQ, lgGE, lgLT, lgGT, lgLE, jinT, nIc, nI0, nI1, nIo, nIs, nI_add, nIm, nIn0, szl0, szl1, szl2, szl3, szl4, szl5, Nat.add_sub_assoc, Nat.add_zero, Nat.reduceSub, Nat.reduceAdd, Nat.reduceMul, Nat.reduceEqDiff,  jifT, bdS, sifN, sifS, omN, omS, cdI, x25, x26, x27, x28, x29, x30, x31, x32, xr0, xr1, xr2, xr3, xr4, xr5, if_pos, if_neg, true_and, and_true, false_and, and_false, and_self, Bool.and_true, if_true, if_false, reduceIte, cond_true, cond_false, not_true_eq_false, not_false_eq_true, g1, g4]
set_option maxHeartbeats 4000000 in
set_option linter.unusedSimpArgs false in
theorem e75f {o : Nat} (ho : o = 18 ∨ o = 20) (h : S.1 1 0 0 6 = nI F) (hF : F ≤ 32) (hg : g < F) (hp : S.1 2 0 0 g = nI k) : F_75 G t (nI o) (nI g) S = some (nI k, S) := by
  have e := f_17 (G := G) (t := t) h hF hg
  unfold F_75
  rcases ho with rfl | rfl
  · simp (disch := first | assumption | omega) only [gI, gI2, gL, gL1, gL2, jcLT, jcGE, jcGT, jcLE, jcEQ, jcNE, dEQ, nIt, lgNE, lgEQ, lgGE, lgLT, lgGT, lgLE, jinT, nIc, nI0, nI1, nIo, nIs, nI_add, nIm, nIn0, szl0, szl1, szl2, szl3, szl4, szl5, Nat.add_sub_assoc, Nat.add_zero, Nat.reduceSub, Nat.reduceAdd, Nat.reduceMul, Nat.reduceEqDiff,  jifT, bdS, sifN, sifS, omN, omS, cdI, x25, x26, x27, x28, x29, x30, x31, x32, xr0, xr1, xr2, xr3, xr4, xr5, if_pos, if_neg, true_and, and_true, false_and, and_false, and_self, Bool.and_true, if_true, if_false, reduceIte, cond_true, cond_false, not_true_eq_false, not_false_eq_true, F_75_12, e, hp]
  · simp (disch := first | assumption | omega) only [gI, gI2, gL, gL1, gL2, jcLT, jcGE, jcGT, jcLE, jcEQ, jcNE, dEQ, nIt, lgNE, lgEQ, lgGE, lgLT, lgGT, lgLE, jinT, nIc, nI0, nI1, nIo, nIs, nI_add, nIm, nIn0, szl0, szl1, szl2, szl3, szl4, szl5, Nat.add_sub_assoc, Nat.add_zero, Nat.reduceSub, Nat.reduceAdd, Nat.reduceMul, Nat.reduceEqDiff,  jifT, bdS, sifN, sifS, omN, omS, cdI, x25, x26, x27, x28, x29, x30, x31, x32, xr0, xr1, xr2, xr3, xr4, xr5, if_pos, if_neg, true_and, and_true, false_and, and_false, and_self, Bool.and_true, if_true, if_false, reduceIte, cond_true, cond_false, not_true_eq_false, not_false_eq_true, F_75_12, e, hp]
set_option maxHeartbeats 4000000 in
set_option linter.unusedSimpArgs false in
theorem e75s {c : Nat} (h7 : a &&& nI 7 = nI c) (hc : c ≤ 4) : F_75 G t (nI 31) a S = some (nI (3 * c), S) := by
  unfold F_75
  rw [h7]
  simp (disch := first | assumption | omega) only [gI, gI2, gL, gL1, gL2, jcLT, jcGE, jcGT, jcLE, jcEQ, jcNE, dEQ, nIt, lgNE, lgEQ, lgGE, lgLT, lgGT, lgLE, jinT, nIc, nI0, nI1, nIo, nIs, nI_add, nIm, nIn0, szl0, szl1, szl2, szl3, szl4, szl5, Nat.add_sub_assoc, Nat.add_zero, Nat.reduceSub, Nat.reduceAdd, Nat.reduceMul, Nat.reduceEqDiff,  jifT, bdS, sifN, sifS, omN, omS, cdI, x25, x26, x27, x28, x29, x30, x31, x32, xr0, xr1, xr2, xr3, xr4, xr5, if_pos, if_neg, true_and, and_true, false_and, and_false, and_self, Bool.and_true, if_true, if_false, reduceIte, cond_true, cond_false, not_true_eq_false, not_false_eq_true, nIml]
theorem and7 {k : Nat} (h : 1 ≤ k ∧ k ≤ 4 ∨ 9 ≤ k ∧ k ≤ 12) : ∃ c, (1 ≤ c ∧ c ≤ 4) ∧ nI k &&& nI 7 = nI c := by
  have : k = 1 ∨ k = 2 ∨ k = 3 ∨ k = 4 ∨ k = 9 ∨ k = 10 ∨ k = 11 ∨ k = 12 := by omega
  rcases this with rfl | rfl | rfl | rfl | rfl | rfl | rfl | rfl
  · exact ⟨1, by omega, rfl⟩
  · exact ⟨2, by omega, rfl⟩
  · exact ⟨3, by omega, rfl⟩
  · exact ⟨4, by omega, rfl⟩
  · exact ⟨1, by omega, rfl⟩
  · exact ⟨2, by omega, rfl⟩
  · exact ⟨3, by omega, rfl⟩
  · exact ⟨4, by omega, rfl⟩
theorem st_0 (hG : gG G) (ht : 2000 < t) (h : stC φ D F N P S T A r d p f q n m) (ho : P.2.2.2.2.1 (P.2.2.1 f + q) = 0) (ha : P.2.2.2.2.2 (P.2.2.1 f + q) = a) : stQ D F N P S T A r d p n G t 0 a := by
  have H := h
  have hr : r < 16 := h.1.2.2.1
  have hpc := h.nx ho (by omega) (by omega) (by omega)
  have ok := h.ok ho ha
  have wf := h.1.2.1 f h.2.2.2.2.1
  have wq := wf.2 q h.2.2.2.2.2.1
  rw [ho, ha] at wq
  have hl := h.lo
  have pg := h.1.1.1.1
  obtain ⟨hc0, gc, iq, hy, hf, hq, hW, hS⟩ := h
  refine ⟨0, e75 hG (by omega) (by omega) (by omega) (by omega), by omega, hc0.opn (g := 1) (by omega) gc iq hy (by omega) (by omega) rfl rfl (d188_0 _ _ _ _ _ _) (d116_0 _ _ _ _ _ _) (fun hk hg => ?_) (fun z => rfl)⟩
  exact (i_0 hc0 hpc (by omega) a).y gc iq hr hy
theorem st_1 (hG : gG G) (ht : 2000 < t) (h : stC φ D F N P S T A r d p f q n m) (ho : P.2.2.2.2.1 (P.2.2.1 f + q) = 1) (ha : P.2.2.2.2.2 (P.2.2.1 f + q) = a) : stQ D F N P S T A r d p n G t 1 a := by
  have H := h
  have hr : r < 16 := h.1.2.2.1
  have hpc := h.nx ho (by omega) (by omega) (by omega)
  have ok := h.ok ho ha
  have wf := h.1.2.1 f h.2.2.2.2.1
  have wq := wf.2 q h.2.2.2.2.2.1
  rw [ho, ha] at wq
  have hl := h.lo
  have pg := h.1.1.1.1
  obtain ⟨hc0, gc, iq, hy, hf, hq, hW, hS⟩ := h
  refine ⟨0, e75 hG (by omega) (by omega) (by omega) (by omega), by omega, hc0.opn (g := 1) (by omega) gc iq hy (by omega) (by omega) rfl rfl (d188_1 _ _ _ _ _ _) (d116_1 _ _ _ _ _ _) (fun hk hg => ?_) (fun z => rfl)⟩
  exact (i_1 hc0 hpc (by omega) a).y gc iq hr hy
theorem st_2 (hG : gG G) (ht : 2000 < t) (h : stC φ D F N P S T A r d p f q n m) (ho : P.2.2.2.2.1 (P.2.2.1 f + q) = 2) (ha : P.2.2.2.2.2 (P.2.2.1 f + q) = a) : stQ D F N P S T A r d p n G t 2 a := by
  have H := h
  have hr : r < 16 := h.1.2.2.1
  have hpc := h.nx ho (by omega) (by omega) (by omega)
  have ok := h.ok ho ha
  have wf := h.1.2.1 f h.2.2.2.2.1
  have wq := wf.2 q h.2.2.2.2.2.1
  rw [ho, ha] at wq
  have hl := h.lo
  have pg := h.1.1.1.1
  obtain ⟨x, rfl, hx⟩ := ok.1 (by omega)
  obtain ⟨hc0, gc, iq, hy, hf, hq, hW, hS⟩ := h
  refine ⟨0, e75 hG (by omega) (by omega) (by omega) (by omega), by omega, hc0.opn (g := 1) (by omega) gc iq hy (by omega) (by omega) rfl rfl (d188_2 _ _ _ _ _ _) (d116_2 _ _ _ _ _ _) (fun hk hg => ?_) (fun z => rfl)⟩
  exact (i_2 hc0 hpc (by omega) hl hx).y gc iq hr hy
theorem st_3 (hG : gG G) (ht : 2000 < t) (h : stC φ D F N P S T A r d p f q n m) (ho : P.2.2.2.2.1 (P.2.2.1 f + q) = 3) (ha : P.2.2.2.2.2 (P.2.2.1 f + q) = a) : stQ D F N P S T A r d p n G t 3 a := by
  have H := h
  have hr : r < 16 := h.1.2.2.1
  have hpc := h.nx ho (by omega) (by omega) (by omega)
  have ok := h.ok ho ha
  have wf := h.1.2.1 f h.2.2.2.2.1
  have wq := wf.2 q h.2.2.2.2.2.1
  rw [ho, ha] at wq
  have hl := h.lo
  have pg := h.1.1.1.1
  obtain ⟨x, rfl, hx⟩ := ok.1 (by omega)
  obtain ⟨hc0, gc, iq, hy, hf, hq, hW, hS⟩ := h
  refine ⟨1, e75 hG (by omega) (by omega) (by omega) (by omega), by omega, hc0.opn (g := 0) (by omega) gc iq hy (by omega) (by omega) rfl rfl (d188_3 _ _ _ _ _ _) (d116_3 _ _ _ _ _ _) (fun hk hg => ?_) (fun z => rfl)⟩
  obtain ⟨n1, rfl⟩ : ∃ n1, n = n1 + 1 := ⟨n - 1, by omega⟩
  exact (i_3 (by omega) hc0 hpc hl hx).y gc iq hr hy
theorem st_4 (hG : gG G) (ht : 2000 < t) (h : stC φ D F N P S T A r d p f q n m) (ho : P.2.2.2.2.1 (P.2.2.1 f + q) = 4) (ha : P.2.2.2.2.2 (P.2.2.1 f + q) = a) : stQ D F N P S T A r d p n G t 4 a := by
  have H := h
  have hr : r < 16 := h.1.2.2.1
  have hpc := h.nx ho (by omega) (by omega) (by omega)
  have ok := h.ok ho ha
  have wf := h.1.2.1 f h.2.2.2.2.1
  have wq := wf.2 q h.2.2.2.2.2.1
  rw [ho, ha] at wq
  have hl := h.lo
  have pg := h.1.1.1.1
  obtain ⟨x, rfl, hx⟩ := ok.2.1 (by omega)
  obtain ⟨hc0, gc, iq, hy, hf, hq, hW, hS⟩ := h
  refine ⟨0, e75 hG (by omega) (by omega) (by omega) (by omega), by omega, hc0.opn (g := 1) (by omega) gc iq hy (by omega) (by omega) rfl rfl (d188_4 _ _ _ _ _ _) (d116_4 _ _ _ _ _ _) (fun hk hg => ?_) (fun z => rfl)⟩
  exact (i_4 hc0 hpc (by omega) hx).y gc iq hr hy
theorem st_5 (hG : gG G) (ht : 2000 < t) (h : stC φ D F N P S T A r d p f q n m) (ho : P.2.2.2.2.1 (P.2.2.1 f + q) = 5) (ha : P.2.2.2.2.2 (P.2.2.1 f + q) = a) : stQ D F N P S T A r d p n G t 5 a := by
  have H := h
  have hr : r < 16 := h.1.2.2.1
  have hpc := h.nx ho (by omega) (by omega) (by omega)
  have ok := h.ok ho ha
  have wf := h.1.2.1 f h.2.2.2.2.1
  have wq := wf.2 q h.2.2.2.2.2.1
  rw [ho, ha] at wq
  have hl := h.lo
  have pg := h.1.1.1.1
  obtain ⟨x, rfl, hx⟩ := ok.2.1 (by omega)
  obtain ⟨hc0, gc, iq, hy, hf, hq, hW, hS⟩ := h
  refine ⟨1, e75 hG (by omega) (by omega) (by omega) (by omega), by omega, hc0.opn (g := 0) (by omega) gc iq hy (by omega) (by omega) rfl rfl (d188_5 _ _ _ _ _ _) (d116_5 _ _ _ _ _ _) (fun hk hg => ?_) (fun z => rfl)⟩
  obtain ⟨n1, rfl⟩ : ∃ n1, n = n1 + 1 := ⟨n - 1, by omega⟩
  exact i_5 (by omega) hc0 gc iq hy hpc hx
theorem st_6 (hG : gG G) (ht : 2000 < t) (h : stC φ D F N P S T A r d p f q n m) (ho : P.2.2.2.2.1 (P.2.2.1 f + q) = 6) (ha : P.2.2.2.2.2 (P.2.2.1 f + q) = a) : stQ D F N P S T A r d p n G t 6 a := by
  have H := h
  have hr : r < 16 := h.1.2.2.1
  have hpc := h.nx ho (by omega) (by omega) (by omega)
  have ok := h.ok ho ha
  have wf := h.1.2.1 f h.2.2.2.2.1
  have wq := wf.2 q h.2.2.2.2.2.1
  rw [ho, ha] at wq
  have hl := h.lo
  have pg := h.1.1.1.1
  obtain ⟨hc0, gc, iq, hy, hf, hq, hW, hS⟩ := h
  refine ⟨1, e75 hG (by omega) (by omega) (by omega) (by omega), by omega, hc0.opn (g := 2) (by omega) gc iq hy (by omega) (by omega) rfl rfl (d188_6 _ _ _ _ _ _) (d116_6 _ _ _ _ _ _) (fun hk hg => ?_) (fun z => rfl)⟩
  obtain ⟨n1, rfl⟩ : ∃ n1, n = n1 + 1 := ⟨n - 1, by omega⟩
  exact (i_6 (by omega) hc0 hpc (by omega) a).y gc iq hr hy
theorem st_7 (hG : gG G) (ht : 2000 < t) (h : stC φ D F N P S T A r d p f q n m) (ho : P.2.2.2.2.1 (P.2.2.1 f + q) = 7) (ha : P.2.2.2.2.2 (P.2.2.1 f + q) = a) : stQ D F N P S T A r d p n G t 7 a := by
  have H := h
  have hr : r < 16 := h.1.2.2.1
  have hpc := h.nx ho (by omega) (by omega) (by omega)
  have ok := h.ok ho ha
  have wf := h.1.2.1 f h.2.2.2.2.1
  have wq := wf.2 q h.2.2.2.2.2.1
  rw [ho, ha] at wq
  have hl := h.lo
  have pg := h.1.1.1.1
  obtain ⟨hc0, gc, iq, hy, hf, hq, hW, hS⟩ := h
  refine ⟨1, e75 hG (by omega) (by omega) (by omega) (by omega), by omega, hc0.opn (g := 0) (by omega) gc iq hy (by omega) (by omega) rfl rfl (d188_7 _ _ _ _ _ _) (d116_7 _ _ _ _ _ _) (fun hk hg => ?_) (fun z => rfl)⟩
  obtain ⟨n1, rfl⟩ : ∃ n1, n = n1 + 1 := ⟨n - 1, by omega⟩
  exact (i_7 (by omega) hc0 hpc a).y gc iq hr hy
theorem st_8 (hG : gG G) (ht : 2000 < t) (h : stC φ D F N P S T A r d p f q n m) (ho : P.2.2.2.2.1 (P.2.2.1 f + q) = 8) (ha : P.2.2.2.2.2 (P.2.2.1 f + q) = a) : stQ D F N P S T A r d p n G t 8 a := by
  have H := h
  have hr : r < 16 := h.1.2.2.1
  have hpc := h.nx ho (by omega) (by omega) (by omega)
  have ok := h.ok ho ha
  have wf := h.1.2.1 f h.2.2.2.2.1
  have wq := wf.2 q h.2.2.2.2.2.1
  rw [ho, ha] at wq
  have hl := h.lo
  have pg := h.1.1.1.1
  obtain ⟨hc0, gc, iq, hy, hf, hq, hW, hS⟩ := h
  refine ⟨2, e75 hG (by omega) (by omega) (by omega) (by omega), by omega, hc0.opn (g := 2) (by omega) gc iq hy (by omega) (by omega) rfl rfl (d188_8 _ _ _ _ _ _) (d116_8 _ _ _ _ _ _) (fun hk hg => ?_) (fun z => rfl)⟩
  obtain ⟨n1, rfl⟩ : ∃ n1, n = n1 + 2 := ⟨n - 2, by omega⟩
  exact (i_8 (by omega) hc0 hpc a).y gc iq hr hy
theorem st_9 (hG : gG G) (ht : 2000 < t) (h : stC φ D F N P S T A r d p f q n m) (ho : P.2.2.2.2.1 (P.2.2.1 f + q) = 9) (ha : P.2.2.2.2.2 (P.2.2.1 f + q) = a) : stQ D F N P S T A r d p n G t 9 a := by
  have H := h
  have hr : r < 16 := h.1.2.2.1
  have hpc := h.nx ho (by omega) (by omega) (by omega)
  have ok := h.ok ho ha
  have wf := h.1.2.1 f h.2.2.2.2.1
  have wq := wf.2 q h.2.2.2.2.2.1
  rw [ho, ha] at wq
  have hl := h.lo
  have pg := h.1.1.1.1
  obtain ⟨hc0, gc, iq, hy, hf, hq, hW, hS⟩ := h
  refine ⟨2, e75 hG (by omega) (by omega) (by omega) (by omega), by omega, hc0.opn (g := 1) (by omega) gc iq hy (by omega) (by omega) rfl rfl (d188_9 _ _ _ _ _ _) (d116_9 _ _ _ _ _ _) (fun hk hg => ?_) (fun z => rfl)⟩
  obtain ⟨n1, rfl⟩ : ∃ n1, n = n1 + 2 := ⟨n - 2, by omega⟩
  exact (i_9 (by omega) hc0 hpc a).y gc iq hr hy
theorem st_10 (hG : gG G) (ht : 2000 < t) (h : stC φ D F N P S T A r d p f q n m) (ho : P.2.2.2.2.1 (P.2.2.1 f + q) = 10) (ha : P.2.2.2.2.2 (P.2.2.1 f + q) = a) : stQ D F N P S T A r d p n G t 10 a := by
  have H := h
  have hr : r < 16 := h.1.2.2.1
  have hpc := h.nx ho (by omega) (by omega) (by omega)
  have ok := h.ok ho ha
  have wf := h.1.2.1 f h.2.2.2.2.1
  have wq := wf.2 q h.2.2.2.2.2.1
  rw [ho, ha] at wq
  have hl := h.lo
  have pg := h.1.1.1.1
  obtain ⟨hc0, gc, iq, hy, hf, hq, hW, hS⟩ := h
  refine ⟨2, e75 hG (by omega) (by omega) (by omega) (by omega), by omega, hc0.opn (g := 1) (by omega) gc iq hy (by omega) (by omega) rfl rfl (d188_10 _ _ _ _ _ _) (d116_10 _ _ _ _ _ _) (fun hk hg => ?_) (fun z => rfl)⟩
  obtain ⟨n1, rfl⟩ : ∃ n1, n = n1 + 2 := ⟨n - 2, by omega⟩
  exact (i_10 (by omega) hc0 hpc a).y gc iq hr hy
theorem st_11 (hG : gG G) (ht : 2000 < t) (h : stC φ D F N P S T A r d p f q n m) (ho : P.2.2.2.2.1 (P.2.2.1 f + q) = 11) (ha : P.2.2.2.2.2 (P.2.2.1 f + q) = a) : stQ D F N P S T A r d p n G t 11 a := by
  have H := h
  have hr : r < 16 := h.1.2.2.1
  have hpc := h.nx ho (by omega) (by omega) (by omega)
  have ok := h.ok ho ha
  have wf := h.1.2.1 f h.2.2.2.2.1
  have wq := wf.2 q h.2.2.2.2.2.1
  rw [ho, ha] at wq
  have hl := h.lo
  have pg := h.1.1.1.1
  obtain ⟨hc0, gc, iq, hy, hf, hq, hW, hS⟩ := h
  refine ⟨2, e75 hG (by omega) (by omega) (by omega) (by omega), by omega, hc0.opn (g := 1) (by omega) gc iq hy (by omega) (by omega) rfl rfl (d188_11 _ _ _ _ _ _) (d116_11 _ _ _ _ _ _) (fun hk hg => ?_) (fun z => rfl)⟩
  obtain ⟨n1, rfl⟩ : ∃ n1, n = n1 + 2 := ⟨n - 2, by omega⟩
  exact (i_11 (by omega) hc0 hpc a).y gc iq hr hy
theorem st_12 (hG : gG G) (ht : 2000 < t) (h : stC φ D F N P S T A r d p f q n m) (ho : P.2.2.2.2.1 (P.2.2.1 f + q) = 12) (ha : P.2.2.2.2.2 (P.2.2.1 f + q) = a) : stQ D F N P S T A r d p n G t 12 a := by
  have H := h
  have hr : r < 16 := h.1.2.2.1
  have hpc := h.nx ho (by omega) (by omega) (by omega)
  have ok := h.ok ho ha
  have wf := h.1.2.1 f h.2.2.2.2.1
  have wq := wf.2 q h.2.2.2.2.2.1
  rw [ho, ha] at wq
  have hl := h.lo
  have pg := h.1.1.1.1
  obtain ⟨hc0, gc, iq, hy, hf, hq, hW, hS⟩ := h
  refine ⟨2, e75 hG (by omega) (by omega) (by omega) (by omega), by omega, hc0.opn (g := 1) (by omega) gc iq hy (by omega) (by omega) rfl rfl (d188_12 _ _ _ _ _ _) (d116_12 _ _ _ _ _ _) (fun hk hg => ?_) (fun z => rfl)⟩
  obtain ⟨n1, rfl⟩ : ∃ n1, n = n1 + 2 := ⟨n - 2, by omega⟩
  exact (i_12 (by omega) hc0 hpc a).y gc iq hr hy
theorem st_13 (hG : gG G) (ht : 2000 < t) (h : stC φ D F N P S T A r d p f q n m) (ho : P.2.2.2.2.1 (P.2.2.1 f + q) = 13) (ha : P.2.2.2.2.2 (P.2.2.1 f + q) = a) : stQ D F N P S T A r d p n G t 13 a := by
  have H := h
  have hr : r < 16 := h.1.2.2.1
  have hpc := h.nx ho (by omega) (by omega) (by omega)
  have ok := h.ok ho ha
  have wf := h.1.2.1 f h.2.2.2.2.1
  have wq := wf.2 q h.2.2.2.2.2.1
  rw [ho, ha] at wq
  have hl := h.lo
  have pg := h.1.1.1.1
  obtain ⟨hc0, gc, iq, hy, hf, hq, hW, hS⟩ := h
  refine ⟨2, e75 hG (by omega) (by omega) (by omega) (by omega), by omega, hc0.opn (g := 1) (by omega) gc iq hy (by omega) (by omega) rfl rfl (d188_13 _ _ _ _ _ _) (d116_13 _ _ _ _ _ _) (fun hk hg => ?_) (fun z => rfl)⟩
  obtain ⟨n1, rfl⟩ : ∃ n1, n = n1 + 2 := ⟨n - 2, by omega⟩
  exact (i_13 (by omega) hc0 hpc a).y gc iq hr hy
theorem st_14 (hG : gG G) (ht : 2000 < t) (h : stC φ D F N P S T A r d p f q n m) (ho : P.2.2.2.2.1 (P.2.2.1 f + q) = 14) (ha : P.2.2.2.2.2 (P.2.2.1 f + q) = a) : stQ D F N P S T A r d p n G t 14 a := by
  have H := h
  have hr : r < 16 := h.1.2.2.1
  have hpc := h.nx ho (by omega) (by omega) (by omega)
  have ok := h.ok ho ha
  have wf := h.1.2.1 f h.2.2.2.2.1
  have wq := wf.2 q h.2.2.2.2.2.1
  rw [ho, ha] at wq
  have hl := h.lo
  have pg := h.1.1.1.1
  obtain ⟨hc0, gc, iq, hy, hf, hq, hW, hS⟩ := h
  refine ⟨2, e75 hG (by omega) (by omega) (by omega) (by omega), by omega, hc0.opn (g := 1) (by omega) gc iq hy (by omega) (by omega) rfl rfl (d188_14 _ _ _ _ _ _) (d116_14 _ _ _ _ _ _) (fun hk hg => ?_) (fun z => rfl)⟩
  obtain ⟨n1, rfl⟩ : ∃ n1, n = n1 + 2 := ⟨n - 2, by omega⟩
  exact (i_14 (by omega) hc0 hpc a).y gc iq hr hy
theorem st_15 (hG : gG G) (ht : 2000 < t) (h : stC φ D F N P S T A r d p f q n m) (ho : P.2.2.2.2.1 (P.2.2.1 f + q) = 15) (ha : P.2.2.2.2.2 (P.2.2.1 f + q) = a) : stQ D F N P S T A r d p n G t 15 a := by
  have H := h
  have hr : r < 16 := h.1.2.2.1
  have hpc := h.nx ho (by omega) (by omega) (by omega)
  have ok := h.ok ho ha
  have wf := h.1.2.1 f h.2.2.2.2.1
  have wq := wf.2 q h.2.2.2.2.2.1
  rw [ho, ha] at wq
  have hl := h.lo
  have pg := h.1.1.1.1
  obtain ⟨hc0, gc, iq, hy, hf, hq, hW, hS⟩ := h
  refine ⟨1, e75 hG (by omega) (by omega) (by omega) (by omega), by omega, hc0.opn (g := 1) (by omega) gc iq hy (by omega) (by omega) rfl rfl (d188_15 _ _ _ _ _ _) (d116_15 _ _ _ _ _ _) (fun hk hg => ?_) (fun z => rfl)⟩
  obtain ⟨n1, rfl⟩ : ∃ n1, n = n1 + 1 := ⟨n - 1, by omega⟩
  exact (i_15 (by omega) hc0 hpc a).y gc iq hr hy
theorem st_16 (hG : gG G) (ht : 2000 < t) (h : stC φ D F N P S T A r d p f q n m) (ho : P.2.2.2.2.1 (P.2.2.1 f + q) = 16) (ha : P.2.2.2.2.2 (P.2.2.1 f + q) = a) : stQ D F N P S T A r d p n G t 16 a := by
  have H := h
  have hr : r < 16 := h.1.2.2.1
  have ok := h.ok ho ha
  have wf := h.1.2.1 f h.2.2.2.2.1
  have wq := wf.2 q h.2.2.2.2.2.1
  rw [ho, ha] at wq
  have hl := h.lo
  have pg := h.1.1.1.1
  obtain ⟨x, rfl, hx⟩ := wq.1 (by omega)
  obtain ⟨hc0, gc, iq, hy, hf, hq, hW, hS⟩ := h
  refine ⟨0, e75 hG (by omega) (by omega) (by omega) (by omega), by omega, hc0.opn (g := 0) (by omega) gc iq hy (by omega) (by omega) rfl rfl (d188_16 _ _ _ _ _ _) (d116_16 _ _ _ _ _ _) (fun hk hg => ?_) (fun z => rfl)⟩
  exact (i_16 hG hc0 hx).y gc iq hr hy
theorem st_17 (hG : gG G) (ht : 2000 < t) (h : stC φ D F N P S T A r d p f q n m) (ho : P.2.2.2.2.1 (P.2.2.1 f + q) = 17) (ha : P.2.2.2.2.2 (P.2.2.1 f + q) = a) : stQ D F N P S T A r d p n G t 17 a := by
  have H := h
  have hr : r < 16 := h.1.2.2.1
  have hpc := h.nx ho (by omega) (by omega) (by omega)
  have ok := h.ok ho ha
  have wf := h.1.2.1 f h.2.2.2.2.1
  have wq := wf.2 q h.2.2.2.2.2.1
  rw [ho, ha] at wq
  have hl := h.lo
  have pg := h.1.1.1.1
  obtain ⟨x, rfl, hx⟩ := wq.1 (by omega)
  obtain ⟨hc0, gc, iq, hy, hf, hq, hW, hS⟩ := h
  refine ⟨1, e75 hG (by omega) (by omega) (by omega) (by omega), by omega, hc0.opn (g := 0) (by omega) gc iq hy (by omega) (by omega) rfl rfl (d188_17 _ _ _ _ _ _) (d116_17 _ _ _ _ _ _) (fun hk hg => ?_) (fun z => rfl)⟩
  obtain ⟨n1, rfl⟩ : ∃ n1, n = n1 + 1 := ⟨n - 1, by omega⟩
  exact (i_17 hG (by omega) hc0 hpc hx).y gc iq hr hy
theorem st_18 (hG : gG G) (ht : 2000 < t) (h : stC φ D F N P S T A r d p f q n m) (ho : P.2.2.2.2.1 (P.2.2.1 f + q) = 18) (ha : P.2.2.2.2.2 (P.2.2.1 f + q) = a) : stQ D F N P S T A r d p n G t 18 a := by
  have H := h
  have hr : r < 16 := h.1.2.2.1
  have hpc := h.nx ho (by omega) (by omega) (by omega)
  have ok := h.ok ho ha
  have wf := h.1.2.1 f h.2.2.2.2.1
  have wq := wf.2 q h.2.2.2.2.2.1
  rw [ho, ha] at wq
  have hl := h.lo
  have pg := h.1.1.1.1
  obtain ⟨x, rfl, hx⟩ := wq.2.1 (by omega)
  obtain ⟨pf, pn, pp, _⟩ := pg
  obtain ⟨⟨p1, p2, p3, p4⟩, _⟩ := pp x hx
  obtain ⟨hc0, gc, iq, hy, hf, hq, hW, hS⟩ := h
  refine ⟨P.1 x, e75f (by omega) pf.1 pf.2.2 hx p1, by omega, hc0.opn (g := 1) (by omega) gc iq hy (by omega) (by omega) ?_ rfl (d188_18 _ _ _ _ _ _) (d116_18 _ _ _ _ _ _) (fun hk hg => ?_) (fun _ => rfl)⟩
  · show jif (jin (nI x) 32) (some (T.1 37 0 0 (nI x).toNatClampNeg, T)) = _
    have : x < 32 := by omega
    rw [jif_true (jin_N (by omega) (by omega)), nI_clamp (by omega), p2]
  · exact (i_18 (by omega) hc0 hpc hx hk (by omega)).y gc iq hr hy
theorem st_19 (hG : gG G) (ht : 2000 < t) (h : stC φ D F N P S T A r d p f q n m) (ho : P.2.2.2.2.1 (P.2.2.1 f + q) = 19) (ha : P.2.2.2.2.2 (P.2.2.1 f + q) = a) : stQ D F N P S T A r d p n G t 19 a := by
  have H := h
  have hr : r < 16 := h.1.2.2.1
  have ok := h.ok ho ha
  have wf := h.1.2.1 f h.2.2.2.2.1
  have wq := wf.2 q h.2.2.2.2.2.1
  rw [ho, ha] at wq
  have hl := h.lo
  have pg := h.1.1.1.1
  obtain ⟨hc0, gc, iq, hy, hf, hq, hW, hS⟩ := h
  refine ⟨1, e75 hG (by omega) (by omega) (by omega) (by omega), by omega, hc0.opn (g := 0) (by omega) gc iq hy (by omega) (by omega) rfl rfl (d188_19 _ _ _ _ _ _) (d116_19 _ _ _ _ _ _) (fun hk hg => ?_) (fun z => rfl)⟩
  obtain ⟨n1, rfl⟩ : ∃ n1, n = n1 + 1 := ⟨n - 1, by omega⟩
  exact (i_19 (by omega) hc0 a).y gc iq hr hy
theorem st_20 (hG : gG G) (ht : 2000 < t) (h : stC φ D F N P S T A r d p f q n m) (ho : P.2.2.2.2.1 (P.2.2.1 f + q) = 20) (ha : P.2.2.2.2.2 (P.2.2.1 f + q) = a) : stQ D F N P S T A r d p n G t 20 a := by
  have H := h
  have hr : r < 16 := h.1.2.2.1
  have hpc := h.nx ho (by omega) (by omega) (by omega)
  have ok := h.ok ho ha
  have wf := h.1.2.1 f h.2.2.2.2.1
  have wq := wf.2 q h.2.2.2.2.2.1
  rw [ho, ha] at wq
  have hl := h.lo
  have pg := h.1.1.1.1
  obtain ⟨x, rfl, hx⟩ := wq.2.1 (by omega)
  obtain ⟨pf, pn, pp, _⟩ := pg
  obtain ⟨⟨p1, p2, p3, p4⟩, _⟩ := pp x hx
  obtain ⟨hc0, gc, iq, hy, hf, hq, hW, hS⟩ := h
  refine ⟨P.1 x, e75f (by omega) pf.1 pf.2.2 hx p1, by omega, hc0.opn (g := 0) (by omega) gc iq hy (by omega) (by omega) ?_ rfl (d188_20 _ _ _ _ _ _) (d116_20 _ _ _ _ _ _) (fun hk hg => ?_) (fun _ => rfl)⟩
  · show jif (jin (nI x) 32) (some (T.1 37 0 0 (nI x).toNatClampNeg, T)) = _
    have : x < 32 := by omega
    rw [jif_true (jin_N (by omega) (by omega)), nI_clamp (by omega), p2]
  · exact i_20 (by omega) hc0 gc iq hy hpc hx hk
theorem st_21 (hG : gG G) (ht : 2000 < t) (h : stC φ D F N P S T A r d p f q n m) (ho : P.2.2.2.2.1 (P.2.2.1 f + q) = 21) (ha : P.2.2.2.2.2 (P.2.2.1 f + q) = a) : stQ D F N P S T A r d p n G t 21 a := by
  have H := h
  have hr : r < 16 := h.1.2.2.1
  have hpc := h.nx ho (by omega) (by omega) (by omega)
  have ok := h.ok ho ha
  have wf := h.1.2.1 f h.2.2.2.2.1
  have wq := wf.2 q h.2.2.2.2.2.1
  rw [ho, ha] at wq
  have hl := h.lo
  have pg := h.1.1.1.1
  obtain ⟨x, rfl, hx⟩ := ok.2.2.1 (by omega)
  obtain ⟨hc0, gc, iq, hy, hf, hq, hW, hS⟩ := h
  refine ⟨0, e75 hG (by omega) (by omega) (by omega) (by omega), by omega, hc0.opn (g := 1) (by omega) gc iq hy (by omega) (by omega) rfl rfl (d188_21 _ _ _ _ _ _) (d116_21 _ _ _ _ _ _) (fun hk hg => ?_) (fun z => rfl)⟩
  exact i_21 (by omega) hc0 gc iq hy hpc (by omega) hx
theorem st_22 (hG : gG G) (ht : 2000 < t) (h : stC φ D F N P S T A r d p f q n m) (ho : P.2.2.2.2.1 (P.2.2.1 f + q) = 22) (ha : P.2.2.2.2.2 (P.2.2.1 f + q) = a) : stQ D F N P S T A r d p n G t 22 a := by
  have H := h
  have hr : r < 16 := h.1.2.2.1
  have hpc := h.nx ho (by omega) (by omega) (by omega)
  have ok := h.ok ho ha
  have wf := h.1.2.1 f h.2.2.2.2.1
  have wq := wf.2 q h.2.2.2.2.2.1
  rw [ho, ha] at wq
  have hl := h.lo
  have pg := h.1.1.1.1
  obtain ⟨x, rfl, hx⟩ := ok.2.2.2.1 (by omega)
  obtain ⟨hc0, gc, iq, hy, hf, hq, hW, hS⟩ := h
  refine ⟨1, e75 hG (by omega) (by omega) (by omega) (by omega), by omega, hc0.opn (g := 1) (by omega) gc iq hy (by omega) (by omega) rfl rfl (d188_22 _ _ _ _ _ _) (d116_22 _ _ _ _ _ _) (fun hk hg => ?_) (fun z => rfl)⟩
  obtain ⟨n1, rfl⟩ : ∃ n1, n = n1 + 1 := ⟨n - 1, by omega⟩
  exact (i_22 hG (by omega) hc0 hpc hx).y gc iq hr hy
theorem st_23 (hG : gG G) (ht : 2000 < t) (h : stC φ D F N P S T A r d p f q n m) (ho : P.2.2.2.2.1 (P.2.2.1 f + q) = 23) (ha : P.2.2.2.2.2 (P.2.2.1 f + q) = a) : stQ D F N P S T A r d p n G t 23 a := by
  have H := h
  have hr : r < 16 := h.1.2.2.1
  have hpc := h.nx ho (by omega) (by omega) (by omega)
  have ok := h.ok ho ha
  have wf := h.1.2.1 f h.2.2.2.2.1
  have wq := wf.2 q h.2.2.2.2.2.1
  rw [ho, ha] at wq
  have hl := h.lo
  have pg := h.1.1.1.1
  obtain ⟨x, rfl, hx⟩ := ok.2.2.2.1 (by omega)
  obtain ⟨hc0, gc, iq, hy, hf, hq, hW, hS⟩ := h
  refine ⟨2, e75 hG (by omega) (by omega) (by omega) (by omega), by omega, hc0.opn (g := 0) (by omega) gc iq hy (by omega) (by omega) rfl rfl (d188_23 _ _ _ _ _ _) (d116_23 _ _ _ _ _ _) (fun hk hg => ?_) (fun z => rfl)⟩
  obtain ⟨n1, rfl⟩ : ∃ n1, n = n1 + 2 := ⟨n - 2, by omega⟩
  exact i_23 hG (by omega) hc0 gc iq hy hpc hx
theorem st_24 (hG : gG G) (ht : 2000 < t) (h : stC φ D F N P S T A r d p f q n m) (ho : P.2.2.2.2.1 (P.2.2.1 f + q) = 24) (ha : P.2.2.2.2.2 (P.2.2.1 f + q) = a) : stQ D F N P S T A r d p n G t 24 a := by
  have H := h
  have hr : r < 16 := h.1.2.2.1
  have hpc := h.nx ho (by omega) (by omega) (by omega)
  have ok := h.ok ho ha
  have wf := h.1.2.1 f h.2.2.2.2.1
  have wq := wf.2 q h.2.2.2.2.2.1
  rw [ho, ha] at wq
  have hl := h.lo
  have pg := h.1.1.1.1
  obtain ⟨hc0, gc, iq, hy, hf, hq, hW, hS⟩ := h
  refine ⟨2, e75 hG (by omega) (by omega) (by omega) (by omega), by omega, hc0.opn (g := 1) (by omega) gc iq hy (by omega) (by omega) rfl rfl (d188_24 _ _ _ _ _ _) (d116_24 _ _ _ _ _ _) (fun hk hg => ?_) (fun z => rfl)⟩
  obtain ⟨n1, rfl⟩ : ∃ n1, n = n1 + 2 := ⟨n - 2, by omega⟩
  exact (i_24 hG (by omega) hc0 hpc a).y gc iq hr hy
theorem st_25 (hG : gG G) (ht : 2000 < t) (h : stC φ D F N P S T A r d p f q n m) (ho : P.2.2.2.2.1 (P.2.2.1 f + q) = 25) (ha : P.2.2.2.2.2 (P.2.2.1 f + q) = a) : stQ D F N P S T A r d p n G t 25 a := by
  have H := h
  have hr : r < 16 := h.1.2.2.1
  have hpc := h.nx ho (by omega) (by omega) (by omega)
  have ok := h.ok ho ha
  have wf := h.1.2.1 f h.2.2.2.2.1
  have wq := wf.2 q h.2.2.2.2.2.1
  rw [ho, ha] at wq
  have hl := h.lo
  have pg := h.1.1.1.1
  obtain ⟨hc0, gc, iq, hy, hf, hq, hW, hS⟩ := h
  refine ⟨3, e75 hG (by omega) (by omega) (by omega) (by omega), by omega, hc0.opn (g := 0) (by omega) gc iq hy (by omega) (by omega) rfl rfl (d188_25 _ _ _ _ _ _) (d116_25 _ _ _ _ _ _) (fun hk hg => ?_) (fun z => rfl)⟩
  obtain ⟨n1, rfl⟩ : ∃ n1, n = n1 + 3 := ⟨n - 3, by omega⟩
  exact i_25 hG (by omega) hc0 gc iq hy hpc a
theorem st_26 (hG : gG G) (ht : 2000 < t) (h : stC φ D F N P S T A r d p f q n m) (ho : P.2.2.2.2.1 (P.2.2.1 f + q) = 26) (ha : P.2.2.2.2.2 (P.2.2.1 f + q) = a) : stQ D F N P S T A r d p n G t 26 a := by
  have H := h
  have hr : r < 16 := h.1.2.2.1
  have hpc := h.nx ho (by omega) (by omega) (by omega)
  have ok := h.ok ho ha
  have wf := h.1.2.1 f h.2.2.2.2.1
  have wq := wf.2 q h.2.2.2.2.2.1
  rw [ho, ha] at wq
  have hl := h.lo
  have pg := h.1.1.1.1
  obtain ⟨hc0, gc, iq, hy, hf, hq, hW, hS⟩ := h
  refine ⟨1, e75 hG (by omega) (by omega) (by omega) (by omega), by omega, hc0.opn (g := 1) (by omega) gc iq hy (by omega) (by omega) rfl rfl (d188_26 _ _ _ _ _ _) (d116_26 _ _ _ _ _ _) (fun hk hg => ?_) (fun z => rfl)⟩
  obtain ⟨n1, rfl⟩ : ∃ n1, n = n1 + 1 := ⟨n - 1, by omega⟩
  exact (i_26 hG (by omega) hc0 hpc a).y gc iq hr hy
theorem st_27 (hG : gG G) (ht : 2000 < t) (h : stC φ D F N P S T A r d p f q n m) (ho : P.2.2.2.2.1 (P.2.2.1 f + q) = 27) (ha : P.2.2.2.2.2 (P.2.2.1 f + q) = a) : stQ D F N P S T A r d p n G t 27 a := by
  have H := h
  have hr : r < 16 := h.1.2.2.1
  have hpc := h.nx ho (by omega) (by omega) (by omega)
  have ok := h.ok ho ha
  have wf := h.1.2.1 f h.2.2.2.2.1
  have wq := wf.2 q h.2.2.2.2.2.1
  rw [ho, ha] at wq
  have hl := h.lo
  have pg := h.1.1.1.1
  obtain ⟨x, rfl, hx⟩ := ok.2.2.2.2.1 (by omega)
  obtain ⟨hc0, gc, iq, hy, hf, hq, hW, hS⟩ := h
  refine ⟨0, e75 hG (by omega) (by omega) (by omega) (by omega), by omega, hc0.opn (g := 1) (by omega) gc iq hy (by omega) (by omega) rfl rfl (d188_27 _ _ _ _ _ _) (d116_27 _ _ _ _ _ _) (fun hk hg => ?_) (fun z => rfl)⟩
  exact i_27 (by omega) hc0 gc iq hy hpc (by omega) hx
theorem st_28 (hG : gG G) (ht : 2000 < t) (h : stC φ D F N P S T A r d p f q n m) (ho : P.2.2.2.2.1 (P.2.2.1 f + q) = 28) (ha : P.2.2.2.2.2 (P.2.2.1 f + q) = a) : stQ D F N P S T A r d p n G t 28 a := by
  have H := h
  have hr : r < 16 := h.1.2.2.1
  have hpc := h.nx ho (by omega) (by omega) (by omega)
  have ok := h.ok ho ha
  have wf := h.1.2.1 f h.2.2.2.2.1
  have wq := wf.2 q h.2.2.2.2.2.1
  rw [ho, ha] at wq
  have hl := h.lo
  have pg := h.1.1.1.1
  obtain ⟨hc0, gc, iq, hy, hf, hq, hW, hS⟩ := h
  refine ⟨2, e75 hG (by omega) (by omega) (by omega) (by omega), by omega, hc0.opn (g := 0) (by omega) gc iq hy (by omega) (by omega) rfl rfl (d188_28 _ _ _ _ _ _) (d116_28 _ _ _ _ _ _) (fun hk hg => ?_) (fun z => rfl)⟩
  obtain ⟨n1, rfl⟩ : ∃ n1, n = n1 + 2 := ⟨n - 2, by omega⟩
  exact i_28 (by omega) hc0 gc iq hy hpc hW a
theorem st_29 (hG : gG G) (ht : 2000 < t) (h : stC φ D F N P S T A r d p f q n m) (ho : P.2.2.2.2.1 (P.2.2.1 f + q) = 29) (ha : P.2.2.2.2.2 (P.2.2.1 f + q) = a) : stQ D F N P S T A r d p n G t 29 a := by
  have H := h
  have hr : r < 16 := h.1.2.2.1
  have hpc := h.nx ho (by omega) (by omega) (by omega)
  have ok := h.ok ho ha
  have wf := h.1.2.1 f h.2.2.2.2.1
  have wq := wf.2 q h.2.2.2.2.2.1
  rw [ho, ha] at wq
  have hl := h.lo
  have pg := h.1.1.1.1
  obtain ⟨hc0, gc, iq, hy, hf, hq, hW, hS⟩ := h
  refine ⟨1, e75 hG (by omega) (by omega) (by omega) (by omega), by omega, hc0.opn (g := 2) (by omega) gc iq hy (by omega) (by omega) rfl rfl (d188_29 _ _ _ _ _ _) (d116_29 _ _ _ _ _ _) (fun hk hg => ?_) (fun z => rfl)⟩
  obtain ⟨n1, rfl⟩ : ∃ n1, n = n1 + 1 := ⟨n - 1, by omega⟩
  exact i_29 (by omega) hc0 gc iq hy hpc hW (by omega) a
theorem st_30 (hG : gG G) (ht : 2000 < t) (h : stC φ D F N P S T A r d p f q n m) (ho : P.2.2.2.2.1 (P.2.2.1 f + q) = 30) (ha : P.2.2.2.2.2 (P.2.2.1 f + q) = a) : stQ D F N P S T A r d p n G t 30 a := by
  have H := h
  have hr : r < 16 := h.1.2.2.1
  have hpc := h.nx ho (by omega) (by omega) (by omega)
  have ok := h.ok ho ha
  have wf := h.1.2.1 f h.2.2.2.2.1
  have wq := wf.2 q h.2.2.2.2.2.1
  rw [ho, ha] at wq
  have hl := h.lo
  have pg := h.1.1.1.1
  obtain ⟨hc0, gc, iq, hy, hf, hq, hW, hS⟩ := h
  refine ⟨1, e75 hG (by omega) (by omega) (by omega) (by omega), by omega, hc0.opn (g := 0) (by omega) gc iq hy (by omega) (by omega) rfl rfl (d188_30 _ _ _ _ _ _) (d116_30 _ _ _ _ _ _) (fun hk hg => ?_) (fun z => rfl)⟩
  obtain ⟨n1, rfl⟩ : ∃ n1, n = n1 + 1 := ⟨n - 1, by omega⟩
  exact i_30 (by omega) hc0 gc iq hy hpc hW a
theorem st_31 (hG : gG G) (ht : 2000 < t) (h : stC φ D F N P S T A r d p f q n m) (ho : P.2.2.2.2.1 (P.2.2.1 f + q) = 31) (ha : P.2.2.2.2.2 (P.2.2.1 f + q) = a) : stQ D F N P S T A r d p n G t 31 a := by
  have H := h
  have hr : r < 16 := h.1.2.2.1
  have hpc := h.nx ho (by omega) (by omega) (by omega)
  have ok := h.ok ho ha
  have wf := h.1.2.1 f h.2.2.2.2.1
  have wq := wf.2 q h.2.2.2.2.2.1
  rw [ho, ha] at wq
  have hl := h.lo
  have pg := h.1.1.1.1
  obtain ⟨x, rfl, hx⟩ := ok.2.2.2.2.2 (by omega)
  obtain ⟨c, hc, h7⟩ := and7 hx
  obtain ⟨hc0, gc, iq, hy, hf, hq, hW, hS⟩ := h
  clear wf wq ok hS
  refine ⟨3 * c, e75s h7 hc.2, by omega, hc0.opn (g := 2) (by omega) gc iq hy (by omega) (by omega) ?_ rfl (d188_31 _ _ _ _ _ _) (d116_31 _ _ _ _ _ _) (fun hk hg => ?_) (fun _ => rfl)⟩
  · show some (nI 3 * (nI x &&& nI 7), T) = _
    rw [h7, nIml]
  · exact i_31 (by omega) hc0 gc iq hy hpc hW hc (B := n - 3 * c) (by omega) (by omega) (by omega) h7 ⟨q, rfl, by rw [ha]; exact h7⟩
theorem st_32 (hG : gG G) (ht : 2000 < t) (h : stC φ D F N P S T A r d p f q n m) (ho : P.2.2.2.2.1 (P.2.2.1 f + q) = 32) (ha : P.2.2.2.2.2 (P.2.2.1 f + q) = a) : stQ D F N P S T A r d p n G t 32 a := by
  have H := h
  have hr : r < 16 := h.1.2.2.1
  have hpc := h.nx ho (by omega) (by omega) (by omega)
  have ok := h.ok ho ha
  have wf := h.1.2.1 f h.2.2.2.2.1
  have wq := wf.2 q h.2.2.2.2.2.1
  rw [ho, ha] at wq
  have hl := h.lo
  have pg := h.1.1.1.1
  obtain ⟨hc0, gc, iq, hy, hf, hq, hW, hS⟩ := h
  refine ⟨0, e75 hG (by omega) (by omega) (by omega) (by omega), by omega, hc0.opn (g := 0) (by omega) gc iq hy (by omega) (by omega) rfl rfl (d188_32 _ _ _ _ _ _) (d116_32 _ _ _ _ _ _) (fun hk hg => ?_) (fun z => absurd z (by have := hc0.rd.2.2.2.1; omega))⟩
  exact i_32 hc0 gc iq hpc a
theorem st_33 (hG : gG G) (ht : 2000 < t) (h : stC φ D F N P S T A r d p f q n m) (ho : P.2.2.2.2.1 (P.2.2.1 f + q) = 33) (ha : P.2.2.2.2.2 (P.2.2.1 f + q) = a) : stQ D F N P S T A r d p n G t 33 a := by
  have H := h
  have hr : r < 16 := h.1.2.2.1
  have hpc := h.nx ho (by omega) (by omega) (by omega)
  have ok := h.ok ho ha
  have wf := h.1.2.1 f h.2.2.2.2.1
  have wq := wf.2 q h.2.2.2.2.2.1
  rw [ho, ha] at wq
  have hl := h.lo
  have pg := h.1.1.1.1
  obtain ⟨hc0, gc, iq, hy, hf, hq, hW, hS⟩ := h
  refine ⟨1, e75 hG (by omega) (by omega) (by omega) (by omega), by omega, hc0.opn (g := 0) (by omega) gc iq hy (by omega) (by omega) rfl rfl (d188_33 _ _ _ _ _ _) (d116_33 _ _ _ _ _ _) (fun hk hg => ?_) (fun z => rfl)⟩
  obtain ⟨n1, rfl⟩ : ∃ n1, n = n1 + 1 := ⟨n - 1, by omega⟩
  exact i_33 (by omega) hc0 gc iq hy hpc a
theorem st_34 (hG : gG G) (ht : 2000 < t) (h : stC φ D F N P S T A r d p f q n m) (ho : P.2.2.2.2.1 (P.2.2.1 f + q) = 34) (ha : P.2.2.2.2.2 (P.2.2.1 f + q) = a) : stQ D F N P S T A r d p n G t 34 a := by
  have H := h
  have hr : r < 16 := h.1.2.2.1
  have hpc := h.nx ho (by omega) (by omega) (by omega)
  have ok := h.ok ho ha
  have wf := h.1.2.1 f h.2.2.2.2.1
  have wq := wf.2 q h.2.2.2.2.2.1
  rw [ho, ha] at wq
  have hl := h.lo
  have pg := h.1.1.1.1
  obtain ⟨x, e0, hx, ex⟩ := h.2.2.2.2.2.2.2 f h.2.2.2.2.1 q h.2.2.2.2.2.1 ho
  rw [ha] at e0
  subst e0
  obtain ⟨hc0, gc, iq, hy, hf, hq, hW, hS⟩ := h
  refine ⟨1, e75 hG (by omega) (by omega) (by omega) (by omega), by omega, hc0.opn (g := 0) (by omega) gc iq hy (by omega) (by omega) rfl rfl (d188_34 _ _ _ _ _ _) (d116_34 _ _ _ _ _ _) (fun hk hg => ?_) (fun z => rfl)⟩
  obtain ⟨n1, rfl⟩ : ∃ n1, n = n1 + 1 := ⟨n - 1, by omega⟩
  exact (i_34 (by omega) hc0 hpc hx ex).y gc iq hr hy
theorem st_35 (hG : gG G) (ht : 2000 < t) (h : stC φ D F N P S T A r d p f q n m) (ho : P.2.2.2.2.1 (P.2.2.1 f + q) = 35) (ha : P.2.2.2.2.2 (P.2.2.1 f + q) = a) : stQ D F N P S T A r d p n G t 35 a := by
  have H := h
  have hr : r < 16 := h.1.2.2.1
  have ok := h.ok ho ha
  have wf := h.1.2.1 f h.2.2.2.2.1
  have wq := wf.2 q h.2.2.2.2.2.1
  rw [ho, ha] at wq
  have hl := h.lo
  have pg := h.1.1.1.1
  obtain ⟨hc0, gc, iq, hy, hf, hq, hW, hS⟩ := h
  refine ⟨1, e75 hG (by omega) (by omega) (by omega) (by omega), by omega, hc0.opn (g := 0) (by omega) gc iq hy (by omega) (by omega) rfl rfl (d188_35 _ _ _ _ _ _) (d116_35 _ _ _ _ _ _) (fun hk hg => ?_) (fun z => rfl)⟩
  obtain ⟨n1, rfl⟩ : ∃ n1, n = n1 + 1 := ⟨n - 1, by omega⟩
  exact (i_35 (by omega) hc0 a).y gc iq hr hy
theorem st_36 (hG : gG G) (ht : 2000 < t) (h : stC φ D F N P S T A r d p f q n m) (ho : P.2.2.2.2.1 (P.2.2.1 f + q) = 36) (ha : P.2.2.2.2.2 (P.2.2.1 f + q) = a) : stQ D F N P S T A r d p n G t 36 a := by
  have H := h
  have hr : r < 16 := h.1.2.2.1
  have hpc := h.nx ho (by omega) (by omega) (by omega)
  have ok := h.ok ho ha
  have wf := h.1.2.1 f h.2.2.2.2.1
  have wq := wf.2 q h.2.2.2.2.2.1
  rw [ho, ha] at wq
  have hl := h.lo
  have pg := h.1.1.1.1
  obtain ⟨hc0, gc, iq, hy, hf, hq, hW, hS⟩ := h
  refine ⟨0, e75 hG (by omega) (by omega) (by omega) (by omega), by omega, hc0.opn (g := 1) (by omega) gc iq hy (by omega) (by omega) rfl rfl (d188_36 _ _ _ _ _ _) (d116_36 _ _ _ _ _ _) (fun hk hg => ?_) (fun z => rfl)⟩
  exact (i_36 hc0 hpc (by omega) a).y gc iq hr hy
end STI
