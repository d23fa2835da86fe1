/-! Who waits for a channel: the class's side. -/
def ff (f : Nat → Bool) : Nat → Nat → Option Nat
  | 0, _ => none
  | n + 1, k => bif f k then some k else ff f n (k + 1)
theorem ff_lt {f : Nat → Bool} : ∀ n k x, ff f n k = some x → k ≤ x ∧ x < k + n ∧ f x = true := by
  intro n
  induction n with
  | zero => intro k x h; cases h
  | succ n ih =>
    intro k x h
    unfold ff at h
    cases e : f k with
    | true =>
      rw [e, cond_true] at h
      cases h
      exact ⟨Nat.le_refl _, by omega, e⟩
    | false =>
      rw [e, cond_false] at h
      obtain ⟨a, b, c⟩ := ih (k + 1) x h
      exact ⟨by omega, by omega, c⟩
theorem ff_cong {f g : Nat → Bool} : ∀ n k, (∀ x, k ≤ x → x < k + n → f x = g x) → ff f n k = ff g n k := by
  intro n
  induction n with
  | zero => intro k _; rfl
  | succ n ih =>
    intro k h
    unfold ff
    rw [h k (Nat.le_refl _) (by omega), ih (k + 1) (fun x a b => h x (by omega) (by omega))]
def oI (o : Option Nat) : Int32 := match o with
  | none => -1
  | some k => nI k
theorem oI_n : oI none = -1 := rfl
theorem oI_s (k : Nat) : oI (some k) = nI k := rfl
/-! the case k of a strand that selects: n operands, c cases; y the channel -/
def csf (S : sS) (p n c y sn rc : Nat) (k : Nat) : Bool := decide ((if S.2.1 30 p 1 (n - 3 * c + 3 * k + 1) = 0 then rc else sn) = 1 ∧ S.1 31 p 1 (n - 3 * c + 3 * k) = nI (y + 2))
/-! caseOf: p the top frame's place, n its operands -/
def csO (S : sS) (p n c st y sn rc : Nat) : Option Nat :=
  if st = 2 then (if sn = 1 ∧ S.1 31 p 1 (n - 2) = nI (y + 2) then some 0 else none)
  else if st = 3 then (if rc = 1 ∧ S.1 31 p 1 (n - 1) = nI (y + 2) then some 0 else none)
  else if st = 4 then ff (csf S p n c y sn rc) c 0 else none
theorem pEQ {a b : Nat} (ha : a < 2147483648) (hb : b < 2147483648) : (nI a = nI b) = (a = b) := propext (nI_eq ha hb)
section CAS
variable {S : sS} {G : jG} {t s p n c y sn rc : Nat}
set_option maxHeartbeats 4000000 in
set_option linter.unusedSimpArgs false in
theorem l_89 (hs : s < 16) (hM : S.2.2.2.1.1 p = true) (hc : S.1 25 s 0 6 = nI c) (hc2 : c ≤ 4) (o1 : S.1 29 p 1 2 = nI n) (hn : n ≤ 16) (hn3 : 3 * c ≤ n) (htg : ∀ i, i < n → ∃ g, S.1 31 p 1 i = nI g ∧ g < 602) (hy : y < 600) (hsn : sn ≤ 1) (hrc : rc ≤ 1) : ∀ j k tt, k + j = c → j < tt → F_89_108 G t tt (s, 0) (nI (y + 2)) (nI sn) (nI rc) (p, 1) (nI k) S = some (oI (ff (csf S p n c y sn rc) j k), S) := by
  intro j
  induction j with
  | zero =>
    intro k tt h1 h2
    obtain ⟨u, rfl⟩ : ∃ u, tt = u + 1 := ⟨tt - 1, by omega⟩
    rw [F_89_108]
    clear htg
    simp (disch := first | assumption | omega) only [gI, gI2, gL, gL1, gL2, jcLT, jcGE, jcGT, jcLE, jcEQ, jcNE, dEQ, nIt, lgNE, lgEQ, lgGE, lgLT, lgGT, lgLE, jinT, nIc, nI0, nI1, nIo, nIs, nI_add, nIm, nIn0, szl0, szl1, szl2, szl3, szl4, szl5, Nat.add_sub_assoc, Nat.add_zero, Nat.reduceSub, Nat.reduceAdd, Nat.reduceMul, Nat.reduceEqDiff,  jifT, bdS, sifN, sifS, omN, omS, cdI, x25, x26, x27, x28, x29, x30, x31, x32, xr0, xr1, xr2, xr3, xr4, xr5, if_pos, if_neg, true_and, and_true, false_and, and_false, and_self, Bool.and_true, if_true, if_false, reduceIte, cond_true, cond_false, not_true_eq_false, not_false_eq_true, hc]
    rfl
  | succ j ih =>
    intro k tt h1 h2
    obtain ⟨u, rfl⟩ : ∃ u, tt = u + 1 := ⟨tt - 1, by omega⟩
    have e := ih (k + 1) u (by omega) (by omega)
    have rw1 : rwS S p 1 n := ⟨xr1 hM, o1, hn⟩
    have e1 := f_26 (G := G) (t := t) rw1 (i := n - 3 * c + 3 * k + 1) (by omega)
    have e2 := f_27 (G := G) (t := t) rw1 (i := n - 3 * c + 3 * k) (by omega)
    obtain ⟨g, g1, g2⟩ := htg (n - 3 * c + 3 * k) (by omega)
    rw [g1] at e2
    have q1 : nI n - nI 3 * (nI c - nI k) = nI (n - 3 * c + 3 * k) := by
      rw [pk_sub (show k ≤ c by omega), nIml, pk_sub (by omega)]
      congr 1
      omega
    have e88 : F_88 G t (s, 0) (p, 1) (nI k) S = some (nI (n - 3 * c + 3 * k), S) := by
      unfold F_88
      clear htg ih e e1 e2
      rw [← q1]
      simp (disch := first | assumption | omega) only [gI, gI2, gL, gL1, gL2, jcLT, jcGE, jcGT, jcLE, jcEQ, jcNE, dEQ, nIt, lgNE, lgEQ, lgGE, lgLT, lgGT, lgLE, jinT, nIc, nI0, nI1, nIo, nIs, nI_add, nIm, nIn0, szl0, szl1, szl2, szl3, szl4, szl5, Nat.add_sub_assoc, Nat.add_zero, Nat.reduceSub, Nat.reduceAdd, Nat.reduceMul, Nat.reduceEqDiff,  jifT, bdS, sifN, sifS, omN, omS, cdI, x25, x26, x27, x28, x29, x30, x31, x32, xr0, xr1, xr2, xr3, xr4, xr5, if_pos, if_neg, true_and, and_true, false_and, and_false, and_self, Bool.and_true, if_true, if_false, reduceIte, cond_true, cond_false, not_true_eq_false, not_false_eq_true, hM, o1, hc]
    rw [F_89_108]
    unfold ff
    have hcs : csf S p n c y sn rc k = decide ((if S.2.1 30 p 1 (n - 3 * c + 3 * k + 1) = 0 then rc else sn) = 1 ∧ g = y + 2) := by
      unfold csf
      rw [g1, decide_eq_decide, nI_eq (by omega) (by omega)]
    rw [hcs]
    clear htg ih q1 hcs
    have hg : g < 602 := g2
    by_cases cz : S.2.1 30 p 1 (n - 3 * c + 3 * k + 1) = 0
    · rw [if_pos cz]
      by_cases cr : rc = 1
      · by_cases cg : g = y + 2
        · rw [decide_eq_true ⟨cr, cg⟩]
          simp (disch := first | assumption | omega) only [gI, gI2, gL, gL1, gL2, jcLT, jcGE, jcGT, jcLE, jcEQ, jcNE, dEQ, nIt, lgNE, lgEQ, lgGE, lgLT, lgGT, lgLE, jinT, nIc, nI0, nI1, nIo, nIs, nI_add, nIm, nIn0, szl0, szl1, szl2, szl3, szl4, szl5, Nat.add_sub_assoc, Nat.add_zero, Nat.reduceSub, Nat.reduceAdd, Nat.reduceMul, Nat.reduceEqDiff,  jifT, bdS, sifN, sifS, omN, omS, cdI, x25, x26, x27, x28, x29, x30, x31, x32, xr0, xr1, xr2, xr3, xr4, xr5, if_pos, if_neg, true_and, and_true, false_and, and_false, and_self, Bool.and_true, if_true, if_false, reduceIte, cond_true, cond_false, not_true_eq_false, not_false_eq_true, hc, e88, hM, e1, e2, eq_true cz, F_89_148, F_89_169, e, oI_s]
        · rw [decide_eq_false (fun z => cg z.2)]
          simp (disch := first | assumption | omega) only [gI, gI2, gL, gL1, gL2, jcLT, jcGE, jcGT, jcLE, jcEQ, jcNE, dEQ, nIt, lgNE, lgEQ, lgGE, lgLT, lgGT, lgLE, jinT, nIc, nI0, nI1, nIo, nIs, nI_add, nIm, nIn0, szl0, szl1, szl2, szl3, szl4, szl5, Nat.add_sub_assoc, Nat.add_zero, Nat.reduceSub, Nat.reduceAdd, Nat.reduceMul, Nat.reduceEqDiff,  jifT, bdS, sifN, sifS, omN, omS, cdI, x25, x26, x27, x28, x29, x30, x31, x32, xr0, xr1, xr2, xr3, xr4, xr5, if_pos, if_neg, true_and, and_true, false_and, and_false, and_self, Bool.and_true, if_true, if_false, reduceIte, cond_true, cond_false, not_true_eq_false, not_false_eq_true, hc, e88, hM, e1, e2, eq_true cz, F_89_148, F_89_169, e, oI_s]
      · rw [decide_eq_false (fun z => cr z.1)]
        simp (disch := first | assumption | omega) only [gI, gI2, gL, gL1, gL2, jcLT, jcGE, jcGT, jcLE, jcEQ, jcNE, dEQ, nIt, lgNE, lgEQ, lgGE, lgLT, lgGT, lgLE, jinT, nIc, nI0, nI1, nIo, nIs, nI_add, nIm, nIn0, szl0, szl1, szl2, szl3, szl4, szl5, Nat.add_sub_assoc, Nat.add_zero, Nat.reduceSub, Nat.reduceAdd, Nat.reduceMul, Nat.reduceEqDiff,  jifT, bdS, sifN, sifS, omN, omS, cdI, x25, x26, x27, x28, x29, x30, x31, x32, xr0, xr1, xr2, xr3, xr4, xr5, if_pos, if_neg, true_and, and_true, false_and, and_false, and_self, Bool.and_true, if_true, if_false, reduceIte, cond_true, cond_false, not_true_eq_false, not_false_eq_true, hc, e88, hM, e1, e2, eq_true cz, F_89_148, F_89_169, e, oI_s]
    · rw [if_neg cz]
      by_cases cr : sn = 1
      · by_cases cg : g = y + 2
        · rw [decide_eq_true ⟨cr, cg⟩]
          simp (disch := first | assumption | omega) only [gI, gI2, gL, gL1, gL2, jcLT, jcGE, jcGT, jcLE, jcEQ, jcNE, dEQ, nIt, lgNE, lgEQ, lgGE, lgLT, lgGT, lgLE, jinT, nIc, nI0, nI1, nIo, nIs, nI_add, nIm, nIn0, szl0, szl1, szl2, szl3, szl4, szl5, Nat.add_sub_assoc, Nat.add_zero, Nat.reduceSub, Nat.reduceAdd, Nat.reduceMul, Nat.reduceEqDiff,  jifT, bdS, sifN, sifS, omN, omS, cdI, x25, x26, x27, x28, x29, x30, x31, x32, xr0, xr1, xr2, xr3, xr4, xr5, if_pos, if_neg, true_and, and_true, false_and, and_false, and_self, Bool.and_true, if_true, if_false, reduceIte, cond_true, cond_false, not_true_eq_false, not_false_eq_true, hc, e88, hM, e1, e2, eq_false cz, F_89_148, F_89_169, e, oI_s]
        · rw [decide_eq_false (fun z => cg z.2)]
          simp (disch := first | assumption | omega) only [gI, gI2, gL, gL1, gL2, jcLT, jcGE, jcGT, jcLE, jcEQ, jcNE, dEQ, nIt, lgNE, lgEQ, lgGE, lgLT, lgGT, lgLE, jinT, nIc, nI0, nI1, nIo, nIs, nI_add, nIm, nIn0, szl0, szl1, szl2, szl3, szl4, szl5, Nat.add_sub_assoc, Nat.add_zero, Nat.reduceSub, Nat.reduceAdd, Nat.reduceMul, Nat.reduceEqDiff,  jifT, bdS, sifN, sifS, omN, omS, cdI, x25, x26, x27, x28, x29, x30, x31, x32, xr0, xr1, xr2, xr3, xr4, xr5, if_pos, if_neg, true_and, and_true, false_and, and_false, and_self, Bool.and_true, if_true, if_false, reduceIte, cond_true, cond_false, not_true_eq_false, not_false_eq_true, hc, e88, hM, e1, e2, eq_false cz, F_89_148, F_89_169, e, oI_s]
      · rw [decide_eq_false (fun z => cr z.1)]
        simp (disch := first | assumption | omega) only [gI, gI2, gL, gL1, gL2, jcLT, jcGE, jcGT, jcLE, jcEQ, jcNE, dEQ, nIt, lgNE, lgEQ, lgGE, lgLT, lgGT, lgLE, jinT, nIc, nI0, nI1, nIo, nIs, nI_add, nIm, nIn0, szl0, szl1, szl2, szl3, szl4, szl5, Nat.add_sub_assoc, Nat.add_zero, Nat.reduceSub, Nat.reduceAdd, Nat.reduceMul, Nat.reduceEqDiff,  jifT, bdS, sifN, sifS, omN, omS, cdI, x25, x26, x27, x28, x29, x30, x31, x32, xr0, xr1, xr2, xr3, xr4, xr5, if_pos, if_neg, true_and, and_true, false_and, and_false, and_self, Bool.and_true, if_true, if_false, reduceIte, cond_true, cond_false, not_true_eq_false, not_false_eq_true, hc, e88, hM, e1, e2, eq_false cz, F_89_148, F_89_169, e, oI_s]
set_option maxHeartbeats 4000000 in
set_option linter.unusedSimpArgs false in
theorem f_89 {d st : Nat} (ht : 100 < t) (hs : s < 16) (hst : S.1 25 s 0 4 = nI st) (hst2 : st ≤ 6) (h3 : S.1 25 s 0 3 = nI (d + 1)) (hd : d < 30) (hp : S.2.2.1.1 s d = some p) (hM : S.2.2.2.1.1 p = true) (o1 : S.1 29 p 1 2 = nI n) (hn : n ≤ 16) (htg : ∀ i, i < n → ∃ g, S.1 31 p 1 i = nI g ∧ g < 602) (hy : y < 600) (hsn : sn ≤ 1) (hrc : rc ≤ 1) (h2 : st = 2 → 2 ≤ n) (h3' : st = 3 → 1 ≤ n) (h4 : st = 4 → S.1 25 s 0 6 = nI c ∧ c ≤ 4 ∧ 3 * c ≤ n) : F_89 G t (s, 0) (nI (y + 2)) (nI sn) (nI rc) S = some (oI (csO S p n c st y sn rc), S) := by
  have rw1 : rwS S p 1 n := ⟨xr1 hM, o1, hn⟩
  by_cases c4 : st = 4
  · subst c4
    obtain ⟨a1, a2, a3⟩ := h4 rfl
    have e := l_89 (G := G) (t := t) hs hM a1 a2 o1 hn a3 htg hy hsn hrc c 0 t (by omega) (by omega)
    have q : csO S p n c 4 y sn rc = ff (csf S p n c y sn rc) c 0 := rfl
    rw [q]
    unfold F_89
    clear htg h2 h3' h4
    simp (disch := first | assumption | omega) only [gI, gI2, gL, gL1, gL2, jcLT, jcGE, jcGT, jcLE, jcEQ, jcNE, dEQ, nIt, lgNE, lgEQ, lgGE, lgLT, lgGT, lgLE, jinT, nIc, nI0, nI1, nIo, nIs, nI_add, nIm, nIn0, szl0, szl1, szl2, szl3, szl4, szl5, Nat.add_sub_assoc, Nat.add_zero, Nat.reduceSub, Nat.reduceAdd, Nat.reduceMul, Nat.reduceEqDiff,  jifT, bdS, sifN, sifS, omN, omS, cdI, x25, x26, x27, x28, x29, x30, x31, x32, xr0, xr1, xr2, xr3, xr4, xr5, if_pos, if_neg, true_and, and_true, false_and, and_false, and_self, Bool.and_true, if_true, if_false, reduceIte, cond_true, cond_false, not_true_eq_false, not_false_eq_true, F_66, h3, hp, hM, hst, pEQ, e]
  · by_cases c2 : st = 2
    · subst c2
      have hn2 := h2 rfl
      obtain ⟨g, g1, g2⟩ := htg (n - 2) (by omega)
      have e2 := f_27 (G := G) (t := t) rw1 (i := n - 2) (by omega)
      rw [g1] at e2
      have q : csO S p n c 2 y sn rc = if sn = 1 ∧ g = y + 2 then some 0 else none := by
        show (if sn = 1 ∧ S.1 31 p 1 (n - 2) = nI (y + 2) then some 0 else none) = _
        rw [g1]
        exact ite_congr (by rw [nI_eq (by omega) (by omega)]) (fun _ => rfl) (fun _ => rfl)
      rw [q]
      unfold F_89
      clear htg h2 h3' h4 q
      by_cases cs : sn = 1
      · by_cases cg : g = y + 2
        · rw [if_pos ⟨cs, cg⟩]
          simp (disch := first | assumption | omega) only [gI, gI2, gL, gL1, gL2, jcLT, jcGE, jcGT, jcLE, jcEQ, jcNE, dEQ, nIt, lgNE, lgEQ, lgGE, lgLT, lgGT, lgLE, jinT, nIc, nI0, nI1, nIo, nIs, nI_add, nIm, nIn0, szl0, szl1, szl2, szl3, szl4, szl5, Nat.add_sub_assoc, Nat.add_zero, Nat.reduceSub, Nat.reduceAdd, Nat.reduceMul, Nat.reduceEqDiff,  jifT, bdS, sifN, sifS, omN, omS, cdI, x25, x26, x27, x28, x29, x30, x31, x32, xr0, xr1, xr2, xr3, xr4, xr5, if_pos, if_neg, true_and, and_true, false_and, and_false, and_self, Bool.and_true, if_true, if_false, reduceIte, cond_true, cond_false, not_true_eq_false, not_false_eq_true, F_66, h3, hp, hM, hst, pEQ, o1, e2, oI_s]
        · rw [if_neg (fun z => cg z.2)]
          simp (disch := first | assumption | omega) only [gI, gI2, gL, gL1, gL2, jcLT, jcGE, jcGT, jcLE, jcEQ, jcNE, dEQ, nIt, lgNE, lgEQ, lgGE, lgLT, lgGT, lgLE, jinT, nIc, nI0, nI1, nIo, nIs, nI_add, nIm, nIn0, szl0, szl1, szl2, szl3, szl4, szl5, Nat.add_sub_assoc, Nat.add_zero, Nat.reduceSub, Nat.reduceAdd, Nat.reduceMul, Nat.reduceEqDiff,  jifT, bdS, sifN, sifS, omN, omS, cdI, x25, x26, x27, x28, x29, x30, x31, x32, xr0, xr1, xr2, xr3, xr4, xr5, if_pos, if_neg, true_and, and_true, false_and, and_false, and_self, Bool.and_true, if_true, if_false, reduceIte, cond_true, cond_false, not_true_eq_false, not_false_eq_true, F_66, h3, hp, hM, hst, pEQ, o1, e2, oI_n]
      · rw [if_neg (fun z => cs z.1)]
        simp (disch := first | assumption | omega) only [gI, gI2, gL, gL1, gL2, jcLT, jcGE, jcGT, jcLE, jcEQ, jcNE, dEQ, nIt, lgNE, lgEQ, lgGE, lgLT, lgGT, lgLE, jinT, nIc, nI0, nI1, nIo, nIs, nI_add, nIm, nIn0, szl0, szl1, szl2, szl3, szl4, szl5, Nat.add_sub_assoc, Nat.add_zero, Nat.reduceSub, Nat.reduceAdd, Nat.reduceMul, Nat.reduceEqDiff,  jifT, bdS, sifN, sifS, omN, omS, cdI, x25, x26, x27, x28, x29, x30, x31, x32, xr0, xr1, xr2, xr3, xr4, xr5, if_pos, if_neg, true_and, and_true, false_and, and_false, and_self, Bool.and_true, if_true, if_false, reduceIte, cond_true, cond_false, not_true_eq_false, not_false_eq_true, F_66, h3, hp, hM, hst, pEQ, o1, e2, oI_n]
    · by_cases c3 : st = 3
      · subst c3
        have hn2 := h3' rfl
        obtain ⟨g, g1, g2⟩ := htg (n - 1) (by omega)
        have e2 := f_27 (G := G) (t := t) rw1 (i := n - 1) (by omega)
        rw [g1] at e2
        have q : csO S p n c 3 y sn rc = if rc = 1 ∧ g = y + 2 then some 0 else none := by
          show (if rc = 1 ∧ S.1 31 p 1 (n - 1) = nI (y + 2) then some 0 else none) = _
          rw [g1]
          exact ite_congr (by rw [nI_eq (by omega) (by omega)]) (fun _ => rfl) (fun _ => rfl)
        rw [q]
        unfold F_89
        clear htg h2 h3' h4 q
        by_cases cs : rc = 1
        · by_cases cg : g = y + 2
          · rw [if_pos ⟨cs, cg⟩]
            simp (disch := first | assumption | omega) only [gI, gI2, gL, gL1, gL2, jcLT, jcGE, jcGT, jcLE, jcEQ, jcNE, dEQ, nIt, lgNE, lgEQ, lgGE, lgLT, lgGT, lgLE, jinT, nIc, nI0, nI1, nIo, nIs, nI_add, nIm, nIn0, szl0, szl1, szl2, szl3, szl4, szl5, Nat.add_sub_assoc, Nat.add_zero, Nat.reduceSub, Nat.reduceAdd, Nat.reduceMul, Nat.reduceEqDiff,  jifT, bdS, sifN, sifS, omN, omS, cdI, x25, x26, x27, x28, x29, x30, x31, x32, xr0, xr1, xr2, xr3, xr4, xr5, if_pos, if_neg, true_and, and_true, false_and, and_false, and_self, Bool.and_true, if_true, if_false, reduceIte, cond_true, cond_false, not_true_eq_false, not_false_eq_true, F_66, h3, hp, hM, hst, pEQ, o1, e2, oI_s]
          · rw [if_neg (fun z => cg z.2)]
            simp (disch := first | assumption | omega) only [gI, gI2, gL, gL1, gL2, jcLT, jcGE, jcGT, jcLE, jcEQ, jcNE, dEQ, nIt, lgNE, lgEQ, lgGE, lgLT, lgGT, lgLE, jinT, nIc, nI0, nI1, nIo, nIs, nI_add, nIm, nIn0, szl0, szl1, szl2, szl3, szl4, szl5, Nat.add_sub_assoc, Nat.add_zero, Nat.reduceSub, Nat.reduceAdd, Nat.reduceMul, Nat.reduceEqDiff,  jifT, bdS, sifN, sifS, omN, omS, cdI, x25, x26, x27, x28, x29, x30, x31, x32, xr0, xr1, xr2, xr3, xr4, xr5, if_pos, if_neg, true_and, and_true, false_and, and_false, and_self, Bool.and_true, if_true, if_false, reduceIte, cond_true, cond_false, not_true_eq_false, not_false_eq_true, F_66, h3, hp, hM, hst, pEQ, o1, e2, oI_n]
        · rw [if_neg (fun z => cs z.1)]
          simp (disch := first | assumption | omega) only [gI, gI2, gL, gL1, gL2, jcLT, jcGE, jcGT, jcLE, jcEQ, jcNE, dEQ, nIt, lgNE, lgEQ, lgGE, lgLT, lgGT, lgLE, jinT, nIc, nI0, nI1, nIo, nIs, nI_add, nIm, nIn0, szl0, szl1, szl2, szl3, szl4, szl5, Nat.add_sub_assoc, Nat.add_zero, Nat.reduceSub, Nat.reduceAdd, Nat.reduceMul, Nat.reduceEqDiff,  jifT, bdS, sifN, sifS, omN, omS, cdI, x25, x26, x27, x28, x29, x30, x31, x32, xr0, xr1, xr2, xr3, xr4, xr5, if_pos, if_neg, true_and, and_true, false_and, and_false, and_self, Bool.and_true, if_true, if_false, reduceIte, cond_true, cond_false, not_true_eq_false, not_false_eq_true, F_66, h3, hp, hM, hst, pEQ, o1, e2, oI_n]
      · have q : csO S p n c st y sn rc = none := by
          unfold csO
          rw [if_neg c2, if_neg c3, if_neg c4]
        rw [q]
        unfold F_89
        clear htg h2 h3' h4 q
        simp (disch := first | assumption | omega) only [gI, gI2, gL, gL1, gL2, jcLT, jcGE, jcGT, jcLE, jcEQ, jcNE, dEQ, nIt, lgNE, lgEQ, lgGE, lgLT, lgGT, lgLE, jinT, nIc, nI0, nI1, nIo, nIs, nI_add, nIm, nIn0, szl0, szl1, szl2, szl3, szl4, szl5, Nat.add_sub_assoc, Nat.add_zero, Nat.reduceSub, Nat.reduceAdd, Nat.reduceMul, Nat.reduceEqDiff,  jifT, bdS, sifN, sifS, omN, omS, cdI, x25, x26, x27, x28, x29, x30, x31, x32, xr0, xr1, xr2, xr3, xr4, xr5, if_pos, if_neg, true_and, and_true, false_and, and_false, and_self, Bool.and_true, if_true, if_false, reduceIte, cond_true, cond_false, not_true_eq_false, not_false_eq_true, F_66, h3, hp, hM, hst, pEQ, oI_n]
set_option maxHeartbeats 4000000 in
set_option linter.unusedSimpArgs false in
theorem f_89z (hs : s < 16) {a b g : Int32} (h3 : S.1 25 s 0 3 = nI 0) : F_89 G t (s, 0) g a b S = some (-1, S) := by
  unfold F_89
  simp (disch := first | assumption | omega) only [gI, gI2, gL, gL1, gL2, jcLT, jcGE, jcGT, jcLE, jcEQ, jcNE, dEQ, nIt, lgNE, lgEQ, lgGE, lgLT, lgGT, lgLE, jinT, nIc, nI0, nI1, nIo, nIs, nI_add, nIm, nIn0, szl0, szl1, szl2, szl3, szl4, szl5, Nat.add_sub_assoc, Nat.add_zero, Nat.reduceSub, Nat.reduceAdd, Nat.reduceMul, Nat.reduceEqDiff,  jifT, bdS, sifN, sifS, omN, omS, cdI, x25, x26, x27, x28, x29, x30, x31, x32, xr0, xr1, xr2, xr3, xr4, xr5, if_pos, if_neg, true_and, and_true, false_and, and_false, and_self, Bool.and_true, if_true, if_false, reduceIte, cond_true, cond_false, not_true_eq_false, not_false_eq_true, F_66, h3]
end CAS
