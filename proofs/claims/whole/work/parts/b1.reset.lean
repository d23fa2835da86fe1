/-! Everything begins anew. -/
section RST
variable {φ φ' : Nat → Nat} {D D' : Nat → Prop} {F N : Nat} {P : aP} {S S' T T' T1 : sS} {A : aS} {r s d p f pc n m e b k y g q o : Nat} {G : jG} {t j : Nat} {a : Int32}
def r5 (S : sS) : Nat → sS
  | 0 => S
  | i + 1 => siL (siI (siI (r5 S i) 25 i 0 3 (nI 0)) 25 i 0 4 (nI 0)) 25 i 0 7 0
theorem r5_ag (S : sS) : ∀ i, agr (fun t _ _ => t = 25) S (r5 S i) ∧ (r5 S i).2.2 = S.2.2 := by
  intro i
  induction i with
  | zero => exact ⟨agr.refl _ _, rfl⟩
  | succ i ih => exact ⟨agr.l (agr.i (agr.i ih.1 _ _ rfl) _ _ rfl) _ _ rfl, ih.2⟩
theorem r5_v (S : sS) (s k : Nat) : ∀ i, (r5 S i).1 25 s 0 k = (if s < i ∧ (k = 3 ∨ k = 4) then nI 0 else S.1 25 s 0 k) ∧ (s < i → (r5 S i).2.1 25 s 0 7 = 0) := by
  intro i
  induction i with
  | zero => exact ⟨by rw [if_neg (by omega)]; rfl, fun h => by omega⟩
  | succ i ih =>
    unfold r5
    constructor
    · rw [gL1, gI, gI, ih.1]
      by_cases c : s = i
      · subst c
        by_cases c4 : k = 4
        · rw [if_pos ⟨rfl, rfl, rfl, c4⟩, if_pos (by omega)]
        · rw [if_neg (by omega)]
          by_cases c3 : k = 3
          · rw [if_pos ⟨rfl, rfl, rfl, c3⟩, if_pos (by omega)]
          · rw [if_neg (by omega), if_neg (by omega), if_neg (by omega)]
      · rw [if_neg (by omega), if_neg (by omega)]
        by_cases c2 : s < i ∧ (k = 3 ∨ k = 4)
        · rw [if_pos c2, if_pos (by omega)]
        · rw [if_neg c2, if_neg (by omega)]
    · intro h
      rw [gL]
      by_cases c : s = i
      · rw [if_pos ⟨rfl, c, rfl, rfl⟩]
      · rw [if_neg (by omega)]
        exact ih.2 (by omega)
def r5e (S : sS) : sS := siI (siI (siI (siI (siI (siI (r5 S 16) 8 0 0 3 (nI 0)) 8 0 0 4 (nI 0)) 8 0 0 5 (-1)) 8 0 0 6 (nI 0)) 8 0 0 7 (nI 0)) 8 0 0 8 (nI 0)
set_option maxHeartbeats 4000000 in
set_option linter.unusedSimpArgs false in
theorem l_5 : ∀ w i tt, i + w = 16 → w < tt → F_5_11 G t tt (nI i) (r5 S i) = some ((), r5e S) := by
  intro w
  induction w with
  | zero =>
    intro i tt h1 h2
    obtain ⟨u, rfl⟩ : ∃ u, tt = u + 1 := ⟨tt - 1, by omega⟩
    have : i = 16 := by omega
    subst this
    rw [F_5_11]
    simp (disch := first | assumption | omega) only [gI, gI2, gL, gL1, gL2, jcLT, jcGE, jcGT, jcLE, jcEQ, jcNE, dEQ, nIt, lgNE, lgEQ, lgGE, lgLT, lgGT, lgLE, jinT, nIc, nI0, nI1, nIo, nIs, nI_add, nIm, nIn0, szl0, szl1, szl2, szl3, szl4, szl5, Nat.add_sub_assoc, Nat.add_zero, Nat.reduceSub, Nat.reduceAdd, Nat.reduceMul, Nat.reduceEqDiff,  jifT, bdS, sifN, sifS, omN, omS, cdI, x25, x26, x27, x28, x29, x30, x31, x32, xr0, xr1, xr2, xr3, xr4, xr5, if_pos, if_neg, true_and, and_true, false_and, and_false, and_self, Bool.and_true, if_true, if_false, reduceIte, cond_true, cond_false, not_true_eq_false, not_false_eq_true, r5e]
  | succ w ih =>
    intro i tt h1 h2
    obtain ⟨u, rfl⟩ : ∃ u, tt = u + 1 := ⟨tt - 1, by omega⟩
    have e := ih (i + 1) u (by omega) (by omega)
    rw [F_5_11, ← e]
    clear ih e
    simp (disch := first | assumption | omega) only [gI, gI2, gL, gL1, gL2, jcLT, jcGE, jcGT, jcLE, jcEQ, jcNE, dEQ, nIt, lgNE, lgEQ, lgGE, lgLT, lgGT, lgLE, jinT, nIc, nI0, nI1, nIo, nIs, nI_add, nIm, nIn0, szl0, szl1, szl2, szl3, szl4, szl5, Nat.add_sub_assoc, Nat.add_zero, Nat.reduceSub, Nat.reduceAdd, Nat.reduceMul, Nat.reduceEqDiff,  jifT, bdS, sifN, sifS, omN, omS, cdI, x25, x26, x27, x28, x29, x30, x31, x32, xr0, xr1, xr2, xr3, xr4, xr5, if_pos, if_neg, true_and, and_true, false_and, and_false, and_self, Bool.and_true, if_true, if_false, reduceIte, cond_true, cond_false, not_true_eq_false, not_false_eq_true, F_4, r5]
def r11 (S : sS) : Nat → sS
  | 0 => S
  | i + 1 => siI (match S.2.2.1.2 i with
    | none => r11 S i
    | some p => siI (r11 S i) 32 p 0 1 (nI 0)) 13 0 0 i (nI (599 - i))
theorem r11_ag (S : sS) : ∀ i, agr (fun t _ _ => t = 13 ∨ t = 32) S (r11 S i) ∧ (r11 S i).2 = S.2 := by
  intro i
  induction i with
  | zero => exact ⟨agr.refl _ _, rfl⟩
  | succ i ih =>
    unfold r11
    cases S.2.2.1.2 i with
    | none => exact ⟨agr.i ih.1 _ _ (by omega), ih.2⟩
    | some p => exact ⟨agr.i (agr.i ih.1 _ _ (by omega)) _ _ (by omega), ih.2⟩
set_option maxHeartbeats 4000000 in
set_option linter.unusedSimpArgs false in
theorem r11_13 (S : sS) (k : Nat) : ∀ i, k < i → (r11 S i).1 13 0 0 k = nI (599 - k) := by
  intro i
  induction i with
  | zero => intro h; omega
  | succ i ih =>
    intro h
    unfold r11
    rw [gI]
    by_cases c : k = i
    · subst c
      rw [if_pos ⟨rfl, rfl, rfl, rfl⟩]
    · rw [if_neg (by omega)]
      cases S.2.2.1.2 i with
      | none => exact ih (by omega)
      | some p =>
        dsimp only
        rw [siI_ne _ _ _ (by omega)]
        exact ih (by omega)
set_option maxHeartbeats 4000000 in
set_option linter.unusedSimpArgs false in
theorem r11_32 (S : sS) (h p : Nat) (hp : S.2.2.1.2 h = some p) : ∀ i, h < i → (r11 S i).1 32 p 0 1 = nI 0 := by
  intro i
  induction i with
  | zero => intro h; omega
  | succ i ih =>
    intro hi
    unfold r11
    rw [siI_ne _ _ _ (by omega)]
    by_cases c : h = i
    · subst c
      rw [hp]
      exact siI_at _ _ _ _ _ _
    · cases S.2.2.1.2 i with
      | none => exact ih (by omega)
      | some p' =>
        dsimp only
        rw [gI]
        by_cases c : 32 = 32 ∧ p = p' ∧ 0 = 0 ∧ 1 = 1
        · rw [if_pos c]
        · rw [if_neg c]
          exact ih (by omega)
set_option maxHeartbeats 4000000 in
set_option linter.unusedSimpArgs false in
theorem l_11 (hM : ∀ h p, S.2.2.1.2 h = some p → S.2.2.2.1.2 p = true) : ∀ w i tt, i + w = 600 → w < tt → F_11_2 G t tt (nI i) (r11 S i) = (F_10 G t (siI (siI (siI (siI (r11 S 600) 11 0 0 7 (nI 600)) 11 0 0 8 (nI 0)) 11 0 0 9 (nI 0)) 11 0 0 10 (nI 0))).bind (fun q1 => some ((), q1.2)) := by
  intro w
  induction w with
  | zero =>
    intro i tt h1 h2
    obtain ⟨u, rfl⟩ : ∃ u, tt = u + 1 := ⟨tt - 1, by omega⟩
    have : i = 600 := by omega
    subst this
    rw [F_11_2]
    clear hM
    simp (disch := first | assumption | omega) only [gI, gI2, gL, gL1, gL2, jcLT, jcGE, jcGT, jcLE, jcEQ, jcNE, dEQ, nIt, lgNE, lgEQ, lgGE, lgLT, lgGT, lgLE, jinT, nIc, nI0, nI1, nIo, nIs, nI_add, nIm, nIn0, szl0, szl1, szl2, szl3, szl4, szl5, Nat.add_sub_assoc, Nat.add_zero, Nat.reduceSub, Nat.reduceAdd, Nat.reduceMul, Nat.reduceEqDiff,  jifT, bdS, sifN, sifS, omN, omS, cdI, x25, x26, x27, x28, x29, x30, x31, x32, xr0, xr1, xr2, xr3, xr4, xr5, if_pos, if_neg, true_and, and_true, false_and, and_false, and_self, Bool.and_true, if_true, if_false, reduceIte, cond_true, cond_false, not_true_eq_false, not_false_eq_true]
  | succ w ih =>
    intro i tt h1 h2
    obtain ⟨u, rfl⟩ : ∃ u, tt = u + 1 := ⟨tt - 1, by omega⟩
    have e := ih (i + 1) u (by omega) (by omega)
    have hX := (r11_ag S i).2
    have es : nI 599 - nI i = nI (599 - i) := nIs (by omega)
    cases hp : S.2.2.1.2 i with
    | none =>
      have er : r11 S (i + 1) = siI (r11 S i) 13 0 0 i (nI (599 - i)) := by
        rw [r11, hp]
      rw [F_11_2, ← e, er]
      have hp' : (r11 S i).2.2.1.2 i = none := by rw [hX]; exact hp
      clear ih e hM hX
      simp (disch := first | assumption | omega) only [gI, gI2, gL, gL1, gL2, jcLT, jcGE, jcGT, jcLE, jcEQ, jcNE, dEQ, nIt, lgNE, lgEQ, lgGE, lgLT, lgGT, lgLE, jinT, nIc, nI0, nI1, nIo, nIs, nI_add, nIm, nIn0, szl0, szl1, szl2, szl3, szl4, szl5, Nat.add_sub_assoc, Nat.add_zero, Nat.reduceSub, Nat.reduceAdd, Nat.reduceMul, Nat.reduceEqDiff,  jifT, bdS, sifN, sifS, omN, omS, cdI, x25, x26, x27, x28, x29, x30, x31, x32, xr0, xr1, xr2, xr3, xr4, xr5, if_pos, if_neg, true_and, and_true, false_and, and_false, and_self, Bool.and_true, if_true, if_false, reduceIte, cond_true, cond_false, not_true_eq_false, not_false_eq_true, hp', Option.map_none, F_11_25, es]
    | some p =>
      have er : r11 S (i + 1) = siI (siI (r11 S i) 32 p 0 1 (nI 0)) 13 0 0 i (nI (599 - i)) := by
        rw [r11, hp]
      rw [F_11_2, ← e, er]
      have hp' : (r11 S i).2.2.1.2 i = some p := by rw [hX]; exact hp
      have hM' : (r11 S i).2.2.2.1.2 p = true := by rw [hX]; exact hM i p hp
      clear ih e hM hX
      simp (disch := first | assumption | omega) only [gI, gI2, gL, gL1, gL2, jcLT, jcGE, jcGT, jcLE, jcEQ, jcNE, dEQ, nIt, lgNE, lgEQ, lgGE, lgLT, lgGT, lgLE, jinT, nIc, nI0, nI1, nIo, nIs, nI_add, nIm, nIn0, szl0, szl1, szl2, szl3, szl4, szl5, Nat.add_sub_assoc, Nat.add_zero, Nat.reduceSub, Nat.reduceAdd, Nat.reduceMul, Nat.reduceEqDiff,  jifT, bdS, sifN, sifS, omN, omS, cdI, x25, x26, x27, x28, x29, x30, x31, x32, xr0, xr1, xr2, xr3, xr4, xr5, if_pos, if_neg, true_and, and_true, false_and, and_false, and_self, Bool.and_true, if_true, if_false, reduceIte, cond_true, cond_false, not_true_eq_false, not_false_eq_true, hp', Option.map_some, F_11_25, es, hM']
/-! the model's side -/
def r41 (T : sS) : Nat → sS
  | 0 => T
  | i + 1 => siI (siI (siI (r41 T i) 54 i 0 0 (nI 0)) 54 i 0 1 (nI 0)) 54 i 0 2 (nI 0)
theorem r41_ag (T : sS) : ∀ i, agr (fun t _ _ => t = 54) T (r41 T i) ∧ (r41 T i).2 = T.2 := by
  intro i
  induction i with
  | zero => exact ⟨agr.refl _ _, rfl⟩
  | succ i ih => exact ⟨agr.i (agr.i (agr.i ih.1 _ _ rfl) _ _ rfl) _ _ rfl, ih.2⟩
theorem r41_v (T : sS) (s k : Nat) (hk : k ≤ 1) : ∀ i, s < i → (r41 T i).1 54 s 0 k = nI 0 := by
  intro i
  induction i with
  | zero => intro h; omega
  | succ i ih =>
    intro h
    unfold r41
    rw [gI, if_neg (by omega), gI]
    by_cases c : s = i
    · by_cases c1 : k = 1
      · rw [if_pos ⟨rfl, c, rfl, c1⟩]
      · rw [if_neg (by omega), gI, if_pos ⟨rfl, c, rfl, by omega⟩]
    · rw [if_neg (by omega), gI, if_neg (by omega)]
      exact ih (by omega)
def r46 (T : sS) : Nat → sS
  | 0 => T
  | i + 1 => siL (siI (r46 T i) 36 0 0 i (nI 0)) 43 0 0 i 0
theorem r46_ag (T : sS) : ∀ i, agr (fun t _ _ => t = 36 ∨ t = 43) T (r46 T i) ∧ (r46 T i).2.2 = T.2.2 := by
  intro i
  induction i with
  | zero => exact ⟨agr.refl _ _, rfl⟩
  | succ i ih => exact ⟨agr.l (agr.i ih.1 _ _ (by omega)) _ _ (by omega), ih.2⟩
theorem r46_I (T : sS) {t i j : Nat} (h : t ≠ 36) : ∀ n, (r46 T n).1 t i j = T.1 t i j := by
  intro n
  induction n with
  | zero => rfl
  | succ n ih =>
    unfold r46
    show (siI (r46 T n) 36 0 0 n (nI 0)).1 t i j = _
    rw [siI_ne _ _ _ (by omega)]
    exact ih
theorem r46_v (T : sS) (k : Nat) : ∀ i, k < i → (r46 T i).1 36 0 0 k = nI 0 ∧ (r46 T i).2.1 43 0 0 k = 0 := by
  intro i
  induction i with
  | zero => intro h; omega
  | succ i ih =>
    intro h
    unfold r46
    rw [gL1, gL, gI, gI2]
    by_cases c : k = i
    · subst c
      rw [if_pos ⟨rfl, rfl, rfl, rfl⟩, if_pos ⟨rfl, rfl, rfl, rfl⟩]
      exact ⟨rfl, rfl⟩
    · rw [if_neg (by omega), if_neg (by omega)]
      exact ih (by omega)
def r46e (T : sS) : sS := siI (siI (siI (siI (siI (siI (siI (siI (r46 T 16) 33 0 0 15 (nI 0)) 33 0 0 16 (-1)) 33 0 0 20 (nI 0)) 33 0 0 21 (nI 0)) 33 0 0 22 (nI 0)) 33 0 0 23 (nI 0)) 33 0 0 24 (nI 0)) 33 0 0 17 (nI 0)
set_option maxHeartbeats 4000000 in
set_option linter.unusedSimpArgs false in
theorem l_46 : ∀ w i tt, i + w = 16 → w < tt → F_141_46 G t tt (nI i) (r46 T i) = some ((), r46e T) := by
  intro w
  induction w with
  | zero =>
    intro i tt h1 h2
    obtain ⟨u, rfl⟩ : ∃ u, tt = u + 1 := ⟨tt - 1, by omega⟩
    have : i = 16 := by omega
    subst this
    rw [F_141_46]
    simp (disch := first | assumption | omega) only [gI, gI2, gL, gL1, gL2, jcLT, jcGE, jcGT, jcLE, jcEQ, jcNE, dEQ, nIt, lgNE, lgEQ, lgGE, lgLT, lgGT, lgLE, jinT, nIc, nI0, nI1, nIo, nIs, nI_add, nIm, nIn0, szl0, szl1, szl2, szl3, szl4, szl5, Nat.add_sub_assoc, Nat.add_zero, Nat.reduceSub, Nat.reduceAdd, Nat.reduceMul, Nat.reduceEqDiff,  jifT, bdS, sifN, sifS, omN, omS, cdI, x25, x26, x27, x28, x29, x30, x31, x32, xr0, xr1, xr2, xr3, xr4, xr5, if_pos, if_neg, true_and, and_true, false_and, and_false, and_self, Bool.and_true, if_true, if_false, reduceIte, cond_true, cond_false, not_true_eq_false, not_false_eq_true, x51, x52, x53, x54, x55, x56, x57, x58, x59, x60, x61, x62, x63, r46e]
  | succ w ih =>
    intro i tt h1 h2
    obtain ⟨u, rfl⟩ : ∃ u, tt = u + 1 := ⟨tt - 1, by omega⟩
    have e := ih (i + 1) u (by omega) (by omega)
    rw [F_141_46, ← e]
    clear ih e
    simp (disch := first | assumption | omega) only [gI, gI2, gL, gL1, gL2, jcLT, jcGE, jcGT, jcLE, jcEQ, jcNE, dEQ, nIt, lgNE, lgEQ, lgGE, lgLT, lgGT, lgLE, jinT, nIc, nI0, nI1, nIo, nIs, nI_add, nIm, nIn0, szl0, szl1, szl2, szl3, szl4, szl5, Nat.add_sub_assoc, Nat.add_zero, Nat.reduceSub, Nat.reduceAdd, Nat.reduceMul, Nat.reduceEqDiff,  jifT, bdS, sifN, sifS, omN, omS, cdI, x25, x26, x27, x28, x29, x30, x31, x32, xr0, xr1, xr2, xr3, xr4, xr5, if_pos, if_neg, true_and, and_true, false_and, and_false, and_self, Bool.and_true, if_true, if_false, reduceIte, cond_true, cond_false, not_true_eq_false, not_false_eq_true, x51, x52, x53, x54, x55, x56, x57, x58, x59, x60, x61, x62, x63, r46]
set_option maxHeartbeats 4000000 in
set_option linter.unusedSimpArgs false in
theorem l_41 (ht : 100 < t) : ∀ w i tt, i + w = 16 → w < tt → F_141_2 G t tt (nI i) (r41 T i) = some ((), r46e (r41 T 16)) := by
  intro w
  induction w with
  | zero =>
    intro i tt h1 h2
    obtain ⟨u, rfl⟩ : ∃ u, tt = u + 1 := ⟨tt - 1, by omega⟩
    have : i = 16 := by omega
    subst this
    have e := l_46 (G := G) (t := t) (T := r41 T 16) 16 0 t (by omega) (by omega)
    rw [F_141_2]
    simp (disch := first | assumption | omega) only [gI, gI2, gL, gL1, gL2, jcLT, jcGE, jcGT, jcLE, jcEQ, jcNE, dEQ, nIt, lgNE, lgEQ, lgGE, lgLT, lgGT, lgLE, jinT, nIc, nI0, nI1, nIo, nIs, nI_add, nIm, nIn0, szl0, szl1, szl2, szl3, szl4, szl5, Nat.add_sub_assoc, Nat.add_zero, Nat.reduceSub, Nat.reduceAdd, Nat.reduceMul, Nat.reduceEqDiff,  jifT, bdS, sifN, sifS, omN, omS, cdI, x25, x26, x27, x28, x29, x30, x31, x32, xr0, xr1, xr2, xr3, xr4, xr5, if_pos, if_neg, true_and, and_true, false_and, and_false, and_self, Bool.and_true, if_true, if_false, reduceIte, cond_true, cond_false, not_true_eq_false, not_false_eq_true, x51, x52, x53, x54, x55, x56, x57, x58, x59, x60, x61, x62, x63]
    exact e
  | succ w ih =>
    intro i tt h1 h2
    obtain ⟨u, rfl⟩ : ∃ u, tt = u + 1 := ⟨tt - 1, by omega⟩
    have e := ih (i + 1) u (by omega) (by omega)
    rw [F_141_2, ← e]
    clear ih e
    simp (disch := first | assumption | omega) only [gI, gI2, gL, gL1, gL2, jcLT, jcGE, jcGT, jcLE, jcEQ, jcNE, dEQ, nIt, lgNE, lgEQ, lgGE, lgLT, lgGT, lgLE, jinT, nIc, nI0, nI1, nIo, nIs, nI_add, nIm, nIn0, szl0, szl1, szl2, szl3, szl4, szl5, Nat.add_sub_assoc, Nat.add_zero, Nat.reduceSub, Nat.reduceAdd, Nat.reduceMul, Nat.reduceEqDiff,  jifT, bdS, sifN, sifS, omN, omS, cdI, x25, x26, x27, x28, x29, x30, x31, x32, xr0, xr1, xr2, xr3, xr4, xr5, if_pos, if_neg, true_and, and_true, false_and, and_false, and_self, Bool.and_true, if_true, if_false, reduceIte, cond_true, cond_false, not_true_eq_false, not_false_eq_true, x51, x52, x53, x54, x55, x56, x57, x58, x59, x60, x61, x62, x63, r41]
end RST
