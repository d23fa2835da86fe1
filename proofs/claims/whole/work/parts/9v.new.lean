/-! NEW: the model's side, then both. -/
section NEW
variable {φ φ' : Nat → Nat} {D D' : Nat → Prop} {F N : Nat} {P : aP} {S S' T T' T1 : sS} {A : aS} {r s d p f pc n m e b k y : Nat} {G : jG} {t j : Nat} {kd cl : Nat → Nat} {fl : List Nat}
def mzS (T : sS) (i : Nat) : Nat → sS
  | 0 => T
  | n + 1 => siL (siI (mzS T i n) 52 i 0 n (nI 0)) 53 i 0 n 0
theorem mzS_2 (T : sS) (i : Nat) : ∀ n, (mzS T i n).2.2 = T.2.2 := by
  intro n
  induction n with
  | zero => rfl
  | succ n ih => exact ih
theorem mzS_ag (T : sS) (i : Nat) : ∀ n, agr (fun t a b => (t = 52 ∨ t = 53) ∧ a = i ∧ b = 0) T (mzS T i n) := by
  intro n
  induction n with
  | zero => exact agr.refl _ _
  | succ n ih => exact agr.l (agr.i ih _ _ (by omega)) _ _ (by omega)
set_option maxHeartbeats 4000000 in
set_option linter.unusedSimpArgs false in
theorem mzS_v (T : sS) (i q : Nat) : ∀ n, q < n → (mzS T i n).1 52 i 0 q = nI 0 ∧ (mzS T i n).2.1 53 i 0 q = 0 := by
  intro n
  induction n with
  | zero => intro h; omega
  | succ n ih =>
    intro h
    unfold mzS
    by_cases c : q = n
    · subst c
      rw [gL1, gL, gI]
      simp
    · rw [gL1, gL, gI, gI2]
      simp only [c, and_false, if_false]
      exact ih (by omega)
set_option maxHeartbeats 4000000 in
set_option linter.unusedSimpArgs false in
theorem l_16884 {v : Int32} {i : Nat} (hi : i < 1300) : ∀ w n tt, n + w = 16 → w < tt → F_168_84 G t tt v (i, 0) (nI n) (mzS T i n) = some (v, siI (mzS T i 16) 33 0 0 23 (T.1 33 0 0 23 + nI 1)) := by
  intro w
  induction w with
  | zero =>
    intro n tt h1 h2
    obtain ⟨u, rfl⟩ : ∃ u, tt = u + 1 := ⟨tt - 1, by omega⟩
    have : n = 16 := by omega
    subst this
    rw [F_168_84]
    have e := (mzS_ag T i 16 33 0 0 (by omega)).1
    rw [← e]
    simp (disch := first | assumption | omega) only [gI, gI2, gL, gL1, gL2, jcLT, jcGE, jcGT, jcLE, jcEQ, jcNE, dEQ, nIt, lgNE, lgEQ, lgGE, lgLT, lgGT, lgLE, jinT, nIc, nI0, nI1, nIo, nIs, nI_add, nIm, nIn0, szl0, szl1, szl2, szl3, szl4, szl5, Nat.add_sub_assoc, Nat.add_zero, Nat.reduceSub, Nat.reduceAdd, Nat.reduceMul, Nat.reduceEqDiff,  jifT, bdS, sifN, sifS, omN, omS, cdI, x25, x26, x27, x28, x29, x30, x31, x32, xr0, xr1, xr2, xr3, xr4, xr5, if_pos, if_neg, true_and, and_true, false_and, and_false, and_self, Bool.and_true, if_true, if_false, reduceIte, cond_true, cond_false, not_true_eq_false, not_false_eq_true, x51, x52, x53, x54, x55, x56, x57, x58, x59, x60, x61, x62, x63]
  | succ w ih =>
    intro n tt h1 h2
    obtain ⟨u, rfl⟩ : ∃ u, tt = u + 1 := ⟨tt - 1, by omega⟩
    have e := ih (n + 1) u (by omega) (by omega)
    rw [F_168_84]
    rw [← e]
    have hn : n < 16 := by omega
    clear ih e
    simp (disch := first | assumption | omega) only [gI, gI2, gL, gL1, gL2, jcLT, jcGE, jcGT, jcLE, jcEQ, jcNE, dEQ, nIt, lgNE, lgEQ, lgGE, lgLT, lgGT, lgLE, jinT, nIc, nI0, nI1, nIo, nIs, nI_add, nIm, nIn0, szl0, szl1, szl2, szl3, szl4, szl5, Nat.add_sub_assoc, Nat.add_zero, Nat.reduceSub, Nat.reduceAdd, Nat.reduceMul, Nat.reduceEqDiff,  jifT, bdS, sifN, sifS, omN, omS, cdI, x25, x26, x27, x28, x29, x30, x31, x32, xr0, xr1, xr2, xr3, xr4, xr5, if_pos, if_neg, true_and, and_true, false_and, and_false, and_self, Bool.and_true, if_true, if_false, reduceIte, cond_true, cond_false, not_true_eq_false, not_false_eq_true, x51, x52, x53, x54, x55, x56, x57, x58, x59, x60, x61, x62, x63, mzS, mzS_2]
def mmS (T : sS) (i k z : Nat) : sS := siI (mzS (siI (siI (siI (siI T 51 i 0 0 (nI k)) 51 i 0 1 (nI z)) 51 i 0 2 (nI 0)) 51 i 0 4 (nI 0)) i 16) 33 0 0 23 (T.1 33 0 0 23 + nI 1)
set_option maxHeartbeats 4000000 in
set_option linter.unusedSimpArgs false in
theorem l_16831 {z : Nat} {op : List Nat} (ht : 100 < t) (hm : ∀ k, k < 1300 → T.1 51 k 0 5 = nI (if k ∈ op then 1 else 0)) {q : Nat} (hq : q < 1300) (hq2 : q ∉ op) : ∀ w i tt, i + w = 1300 → w < tt → i ≤ q → ∃ i', i' < 1300 ∧ i' ∉ op ∧ F_168_31 G t tt (nI k) (nI z) (nI i) T = some (nI i', mmS T i' k z) := by
  intro w
  induction w with
  | zero => intro i tt h1 h2 h3; omega
  | succ w ih =>
    intro i tt h1 h2 h3
    obtain ⟨u, rfl⟩ : ∃ u, tt = u + 1 := ⟨tt - 1, by omega⟩
    have hi : i < 1300 := by omega
    have em := hm i hi
    by_cases c : i ∈ op
    · rw [if_pos c] at em
      obtain ⟨i', a, b, e⟩ := ih (i + 1) u (by omega) (by omega) (by
        by_cases c' : i = q
        · subst c'; exact absurd c hq2
        · omega)
      refine ⟨i', a, b, ?_⟩
      rw [← e, F_168_31]
      clear ih e hm
      simp (disch := first | assumption | omega) only [gI, gI2, gL, gL1, gL2, jcLT, jcGE, jcGT, jcLE, jcEQ, jcNE, dEQ, nIt, lgNE, lgEQ, lgGE, lgLT, lgGT, lgLE, jinT, nIc, nI0, nI1, nIo, nIs, nI_add, nIm, nIn0, szl0, szl1, szl2, szl3, szl4, szl5, Nat.add_sub_assoc, Nat.add_zero, Nat.reduceSub, Nat.reduceAdd, Nat.reduceMul, Nat.reduceEqDiff,  jifT, bdS, sifN, sifS, omN, omS, cdI, x25, x26, x27, x28, x29, x30, x31, x32, xr0, xr1, xr2, xr3, xr4, xr5, if_pos, if_neg, true_and, and_true, false_and, and_false, and_self, Bool.and_true, if_true, if_false, reduceIte, cond_true, cond_false, not_true_eq_false, not_false_eq_true, x51, x52, x53, x54, x55, x56, x57, x58, x59, x60, x61, x62, x63, em]
    · rw [if_neg c] at em
      refine ⟨i, hi, c, ?_⟩
      rw [F_168_31]
      have e := l_16884 (G := G) (t := t) (T := siI (siI (siI (siI T 51 i 0 0 (nI k)) 51 i 0 1 (nI z)) 51 i 0 2 (nI 0)) 51 i 0 4 (nI 0)) (v := nI i) hi 16 0 t (by omega) (by omega)
      have e23 : (siI (siI (siI (siI T 51 i 0 0 (nI k)) 51 i 0 1 (nI z)) 51 i 0 2 (nI 0)) 51 i 0 4 (nI 0)).1 33 0 0 = T.1 33 0 0 := by
        rw [siI_ne _ _ _ (by omega), siI_ne _ _ _ (by omega), siI_ne _ _ _ (by omega), siI_ne _ _ _ (by omega)]
      rw [e23] at e
      clear ih hm
      simp (disch := first | assumption | omega) only [gI, gI2, gL, gL1, gL2, jcLT, jcGE, jcGT, jcLE, jcEQ, jcNE, dEQ, nIt, lgNE, lgEQ, lgGE, lgLT, lgGT, lgLE, jinT, nIc, nI0, nI1, nIo, nIs, nI_add, nIm, nIn0, szl0, szl1, szl2, szl3, szl4, szl5, Nat.add_sub_assoc, Nat.add_zero, Nat.reduceSub, Nat.reduceAdd, Nat.reduceMul, Nat.reduceEqDiff,  jifT, bdS, sifN, sifS, omN, omS, cdI, x25, x26, x27, x28, x29, x30, x31, x32, xr0, xr1, xr2, xr3, xr4, xr5, if_pos, if_neg, true_and, and_true, false_and, and_false, and_self, Bool.and_true, if_true, if_false, reduceIte, cond_true, cond_false, not_true_eq_false, not_false_eq_true, x51, x52, x53, x54, x55, x56, x57, x58, x59, x60, x61, x62, x63, em]
      exact e
/-! what the model's making leaves -/
def mmR (T T' : sS) (i k z : Nat) : Prop := agr (fun t a b => t = 33 ∨ t = 46 ∨ (51 ≤ t ∧ t ≤ 53)) T T' ∧ T'.2.2 = T.2.2 ∧ (∀ j q, j ≠ i → q ≠ 5 → T'.1 51 j 0 q = T.1 51 j 0 q) ∧ (∀ j, j ≠ i → T'.1 52 j 0 = T.1 52 j 0 ∧ T'.2.1 53 j 0 = T.2.1 53 j 0) ∧
  (T'.1 51 i 0 0 = nI k ∧ T'.1 51 i 0 1 = nI z ∧ T'.1 51 i 0 2 = nI 0 ∧ T'.1 51 i 0 4 = nI 0) ∧ (∀ q, q < 16 → T'.1 52 i 0 q = nI 0 ∧ T'.2.1 53 i 0 q = 0) ∧
  (∀ q, q ≠ 23 → q ≠ 26 → q ≠ 27 → q ≠ 30 → T'.1 33 0 0 q = T.1 33 0 0 q) ∧ T'.1 33 0 0 23 = T.1 33 0 0 23 + nI 1 ∧ T'.2.1 33 = T.2.1 33
set_option maxHeartbeats 4000000 in
set_option linter.unusedSimpArgs false in
theorem mmS_r {i z : Nat} (h : moA T T1) : mmR T (mmS T1 i k z) i k z := by
  obtain ⟨h1, h2, h3, h4⟩ := h
  generalize hB : siI (siI (siI (siI T1 51 i 0 0 (nI k)) 51 i 0 1 (nI z)) 51 i 0 2 (nI 0)) 51 i 0 4 (nI 0) = B
  have aB : agr (fun t a b => t = 51 ∧ a = i) T1 B := by
    subst hB
    exact agr.i (agr.i (agr.i (agr.i (agr.refl _ _) _ _ (by omega)) _ _ (by omega)) _ _ (by omega)) _ _ (by omega)
  have sB : ∀ q, B.1 51 i 0 q = if q = 4 then nI 0 else if q = 2 then nI 0 else if q = 1 then nI z else if q = 0 then nI k else T1.1 51 i 0 q := fun q => by
    subst hB
    rw [gI, gI, gI, gI]
    simp
  have b2 : B.2.2 = T1.2.2 := by subst hB; rfl
  have e : mmS T1 i k z = siI (mzS B i 16) 33 0 0 23 (T1.1 33 0 0 23 + nI 1) := by subst hB; rfl
  have a2 := mzS_ag B i 16
  have a3 := mzS_v B i
  have a4 := mzS_2 B i 16
  rw [e]
  have a5 : agr (fun t a b => t = 33) (mzS B i 16) (siI (mzS B i 16) 33 0 0 23 (T1.1 33 0 0 23 + nI 1)) := agr.i (agr.refl _ _) _ _ (by omega)
  have c2 : T1.2 = T.2 := h2
  refine ⟨fun t a b hh => ?_, ?_, fun j q h5 h6 => ?_, fun j h5 => ?_, ⟨?_, ?_, ?_, ?_⟩, fun q hq => ?_, fun q q1 q2 q3 q4 => ?_, ?_, ?_⟩
  · rw [(a5 t a b (by omega)).1, (a5 t a b (by omega)).2, (a2 t a b (by omega)).1, (a2 t a b (by omega)).2, (aB t a b (by omega)).1, (aB t a b (by omega)).2, h1 t a b (by omega) (by omega) (by omega), h2]
    exact ⟨rfl, rfl⟩
  · show (mzS B i 16).2.2 = _
    rw [a4, b2, h2]
  · rw [(a5 51 j 0 (by omega)).1, (a2 51 j 0 (by omega)).1, (aB 51 j 0 (by omega)).1]
    exact h3 j 0 q h6
  · rw [(a5 52 j 0 (by omega)).1, (a5 53 j 0 (by omega)).2, (a2 52 j 0 (by omega)).1, (a2 53 j 0 (by omega)).2, (aB 52 j 0 (by omega)).1, (aB 53 j 0 (by omega)).2, h1 52 j 0 (by omega) (by omega) (by omega), h2]
    exact ⟨rfl, rfl⟩
  · rw [(a5 51 i 0 (by omega)).1, (a2 51 i 0 (by omega)).1, sB]; rfl
  · rw [(a5 51 i 0 (by omega)).1, (a2 51 i 0 (by omega)).1, sB]; rfl
  · rw [(a5 51 i 0 (by omega)).1, (a2 51 i 0 (by omega)).1, sB]; rfl
  · rw [(a5 51 i 0 (by omega)).1, (a2 51 i 0 (by omega)).1, sB]; rfl
  · rw [(a5 52 i 0 (by omega)).1, (a5 53 i 0 (by omega)).2]
    exact a3 q 16 hq
  · rw [gI, if_neg (by omega), (a2 33 0 0 (by omega)).1, (aB 33 0 0 (by omega)).1]
    exact h4 q q2 q3 q4
  · rw [siI_at, h4 23 (by omega) (by omega) (by omega)]
  · show (mzS B i 16).2.1 33 = _
    funext a b
    rw [(a2 33 a b (by omega)).2, (aB 33 a b (by omega)).2, h2]
end NEW
