/-! digest: the model's walk. -/
section DG2
variable {φ φ' : Nat → Nat} {D D' : Nat → Prop} {F N : Nat} {P P' : aP} {S S' S0 S1 S2 T T' T0 T1 : sS} {A : aS} {r s d p f pc n m e b k y g q o F' N' lo : Nat} {G : jG} {t j : Nat} {a : Int32} {ml : List Nat} {st : List (Nat × Nat)}
variable {K : Int64 → Int32 → Int32 → Int32 → sS → Option (Int64 × sS)} {v1 v7 : Int64} {v3 v4 v5 : Int32} {tt t0 : Nat}
theorem m67n : F_201_67 G t K (tt + 1) v1 v3 v4 v5 (nI 0) v7 T = F_201_235 G t K (F_201_67 G t K tt) t (31 * v1 + v7) v3 v4 v5 T := by
  rw [F_201_67]
  rfl
theorem m67z : F_201_67 G t K (tt + 1) v1 v3 v4 v5 (nI 1) v7 T = F_201_235 G t K (F_201_67 G t K tt) t (31 * v1 + 1) v3 v4 v5 T := by
  rw [F_201_67]
  rfl
set_option maxHeartbeats 4000000 in
set_option linter.unusedSimpArgs false in
theorem m67m (hq : q < 1300) (hm : T.1 51 q 0 3 = nI m) (hm6 : m ≤ 600) : F_201_67 G t K (tt + 1) v1 v3 v4 v5 (nI 2) (Int64.ofNat q) T = F_201_235 G t K (F_201_67 G t K tt) t (31 * (31 * v1 + 2) + Int64.ofNat m) v3 v4 v5 T := by
  have eq := ofN32 (n := q) (by omega)
  have lm := l64 (n := m) (by omega)
  rw [F_201_67]
  simp (disch := first | assumption | omega) only [gI, gI2, gL, gL1, gL2, jcLT, jcGE, jcGT, jcLE, jcEQ, jcNE, dEQ, nIt, lgNE, lgEQ, lgGE, lgLT, lgGT, lgLE, jinT, nIc, nI0, nI1, nIo, nIs, nI_add, nIm, nIn0, szl0, szl1, szl2, szl3, szl4, szl5, Nat.add_sub_assoc, Nat.add_zero, Nat.reduceSub, Nat.reduceAdd, Nat.reduceMul, Nat.reduceEqDiff,  jifT, bdS, sifN, sifS, omN, omS, cdI, x25, x26, x27, x28, x29, x30, x31, x32, xr0, xr1, xr2, xr3, xr4, xr5, if_pos, if_neg, true_and, and_true, false_and, and_false, and_self, Bool.and_true, if_true, if_false, reduceIte, cond_true, cond_false, not_true_eq_false, not_false_eq_true, x51, x52, x53, x54, x55, x56, x57, x58, x59, x60, x61, x62, x63, eq, hm, lm]
set_option maxHeartbeats 4000000 in
set_option linter.unusedSimpArgs false in
theorem m67o {c L kk w : Nat} (hq : q < 1300) (hm : T.1 51 q 0 3 = -1) (hL : L < 1300) (hk : T.1 51 q 0 0 = nI kk) (hk2 : kk = 2 ∨ kk = 3) (h2 : kk = 2 → T.1 51 q 0 1 = nI w) (h3 : kk = 3 → T.1 51 q 0 2 = nI w) (hw : w ≤ 16) : F_201_67 G t K (tt + 1) v1 (nI c) (nI L) v5 (nI 2) (Int64.ofNat q) T = F_201_235 G t K (F_201_67 G t K tt) t (31 * (31 * v1 + Int64.ofNat (kk + 1)) + Int64.ofNat w) (nI (c + 1)) (nI (L + 1)) v5 (siI (siI (siI T 51 q 0 3 (nI (c + 1))) 49 0 0 L (nI q)) 50 0 0 L (nI 0)) := by
  have eq := ofN32 (n := q) (by omega)
  have lw := l64 (n := w) (by omega)
  have j0 : jcmp .lt (-1) 0 = true := by decide
  have e1 := nI_1' c
  have e2 := nI_1' L
  rw [F_201_67]
  rcases hk2 with rfl | rfl
  · have h2 := h2 rfl
    clear h3
    simp (disch := first | assumption | omega) only [gI, gI2, gL, gL1, gL2, jcLT, jcGE, jcGT, jcLE, jcEQ, jcNE, dEQ, nIt, lgNE, lgEQ, lgGE, lgLT, lgGT, lgLE, jinT, nIc, nI0, nI1, nIo, nIs, nI_add, nIm, nIn0, szl0, szl1, szl2, szl3, szl4, szl5, Nat.add_sub_assoc, Nat.add_zero, Nat.reduceSub, Nat.reduceAdd, Nat.reduceMul, Nat.reduceEqDiff,  jifT, bdS, sifN, sifS, omN, omS, cdI, x25, x26, x27, x28, x29, x30, x31, x32, xr0, xr1, xr2, xr3, xr4, xr5, if_pos, if_neg, true_and, and_true, false_and, and_false, and_self, Bool.and_true, if_true, if_false, reduceIte, cond_true, cond_false, not_true_eq_false, not_false_eq_true, x51, x52, x53, x54, x55, x56, x57, x58, x59, x60, x61, x62, x63, eq, hm, j0, F_201_186, F_201_211, hk, h2, lw, e1, e2]
    rfl
  · have h3 := h3 rfl
    clear h2
    simp (disch := first | assumption | omega) only [gI, gI2, gL, gL1, gL2, jcLT, jcGE, jcGT, jcLE, jcEQ, jcNE, dEQ, nIt, lgNE, lgEQ, lgGE, lgLT, lgGT, lgLE, jinT, nIc, nI0, nI1, nIo, nIs, nI_add, nIm, nIn0, szl0, szl1, szl2, szl3, szl4, szl5, Nat.add_sub_assoc, Nat.add_zero, Nat.reduceSub, Nat.reduceAdd, Nat.reduceMul, Nat.reduceEqDiff,  jifT, bdS, sifN, sifS, omN, omS, cdI, x25, x26, x27, x28, x29, x30, x31, x32, xr0, xr1, xr2, xr3, xr4, xr5, if_pos, if_neg, true_and, and_true, false_and, and_false, and_self, Bool.and_true, if_true, if_false, reduceIte, cond_true, cond_false, not_true_eq_false, not_false_eq_true, x51, x52, x53, x54, x55, x56, x57, x58, x59, x60, x61, x62, x63, eq, hm, j0, F_201_186, F_201_211, hk, h3, lw, e1, e2]
    rfl
theorem m235z {K67 : Int64 → Int32 → Int32 → Int32 → Int32 → Int64 → sS → Option (Int64 × sS)} : F_201_235 G t K K67 (t0 + 1) v1 v3 (nI 0) v5 T = K v1 v3 (nI 0) (v5 + Int32.ofInt 1) T := by
  rw [F_201_235]
  rfl
set_option maxHeartbeats 4000000 in
set_option linter.unusedSimpArgs false in
theorem m235 {K67 : Int64 → Int32 → Int32 → Int32 → Int32 → Int64 → sS → Option (Int64 × sS)} {L kk w i : Nat} (hL : L < 1300) (h49 : T.1 49 0 0 L = nI q) (hq : q < 1300) (hk : T.1 51 q 0 0 = nI kk) (hk2 : kk = 2 ∨ kk = 3) (h2 : kk = 2 → T.1 51 q 0 1 = nI w) (h3 : kk = 3 → T.1 51 q 0 2 = nI w) (hw : w ≤ 16) (h50 : T.1 50 0 0 L = nI i) (hi : i ≤ w) : F_201_235 G t K K67 (t0 + 1) v1 v3 (nI (L + 1)) v5 T = if i = w then F_201_235 G t K K67 t0 v1 v3 (nI L) v5 T else K67 v1 v3 (nI (L + 1)) v5 (T.1 52 q 0 i) (T.2.1 53 q 0 i) (siI T 50 0 0 L (nI (i + 1))) := by
  have pr : nI (L + 1) + Int32.ofInt (-1) = nI L := by
    rw [show Int32.ofInt (-1) = -(1 : Int32) from by decide, ← Int32.sub_eq_add_neg]
    exact nI_pred L
  have e307 : F_201_307 G t K K67 (F_201_235 G t K K67 t0) v1 v3 (nI (L + 1)) v5 (nI w) (nI i) T = if i = w then F_201_235 G t K K67 t0 v1 v3 (nI L) v5 T else K67 v1 v3 (nI (L + 1)) v5 (T.1 52 q 0 i) (T.2.1 53 q 0 i) (siI T 50 0 0 L (nI (i + 1))) := by
    unfold F_201_307
    by_cases c : i = w
    · rw [if_pos c, jcNE (by omega) (by omega), decide_eq_false (by omega), cond_false, pr]
    · rw [if_neg c]
      unfold F_201_316
      clear h2 h3 hk
      simp (disch := first | assumption | omega) only [gI, gI2, gL, gL1, gL2, jcLT, jcGE, jcGT, jcLE, jcEQ, jcNE, dEQ, nIt, lgNE, lgEQ, lgGE, lgLT, lgGT, lgLE, jinT, nIc, nI0, nI1, nIo, nIs, nI_add, nIm, nIn0, szl0, szl1, szl2, szl3, szl4, szl5, Nat.add_sub_assoc, Nat.add_zero, Nat.reduceSub, Nat.reduceAdd, Nat.reduceMul, Nat.reduceEqDiff,  jifT, bdS, sifN, sifS, omN, omS, cdI, x25, x26, x27, x28, x29, x30, x31, x32, xr0, xr1, xr2, xr3, xr4, xr5, if_pos, if_neg, true_and, and_true, false_and, and_false, and_self, Bool.and_true, if_true, if_false, reduceIte, cond_true, cond_false, not_true_eq_false, not_false_eq_true, x51, x52, x53, x54, x55, x56, x57, x58, x59, x60, x61, x62, x63, h49, h50]
  rw [← e307, F_201_235]
  clear e307 pr
  rcases hk2 with rfl | rfl
  · have h2 := h2 rfl
    clear h3
    simp (disch := first | assumption | omega) only [gI, gI2, gL, gL1, gL2, jcLT, jcGE, jcGT, jcLE, jcEQ, jcNE, dEQ, nIt, lgNE, lgEQ, lgGE, lgLT, lgGT, lgLE, jinT, nIc, nI0, nI1, nIo, nIs, nI_add, nIm, nIn0, szl0, szl1, szl2, szl3, szl4, szl5, Nat.add_sub_assoc, Nat.add_zero, Nat.reduceSub, Nat.reduceAdd, Nat.reduceMul, Nat.reduceEqDiff,  jifT, bdS, sifN, sifS, omN, omS, cdI, x25, x26, x27, x28, x29, x30, x31, x32, xr0, xr1, xr2, xr3, xr4, xr5, if_pos, if_neg, true_and, and_true, false_and, and_false, and_self, Bool.and_true, if_true, if_false, reduceIte, cond_true, cond_false, not_true_eq_false, not_false_eq_true, x51, x52, x53, x54, x55, x56, x57, x58, x59, x60, x61, x62, x63, h49, hk, h2, h50]
  · have h3 := h3 rfl
    clear h2
    simp (disch := first | assumption | omega) only [gI, gI2, gL, gL1, gL2, jcLT, jcGE, jcGT, jcLE, jcEQ, jcNE, dEQ, nIt, lgNE, lgEQ, lgGE, lgLT, lgGT, lgLE, jinT, nIc, nI0, nI1, nIo, nIs, nI_add, nIm, nIn0, szl0, szl1, szl2, szl3, szl4, szl5, Nat.add_sub_assoc, Nat.add_zero, Nat.reduceSub, Nat.reduceAdd, Nat.reduceMul, Nat.reduceEqDiff,  jifT, bdS, sifN, sifS, omN, omS, cdI, x25, x26, x27, x28, x29, x30, x31, x32, xr0, xr1, xr2, xr3, xr4, xr5, if_pos, if_neg, true_and, and_true, false_and, and_false, and_self, Bool.and_true, if_true, if_false, reduceIte, cond_true, cond_false, not_true_eq_false, not_false_eq_true, x51, x52, x53, x54, x55, x56, x57, x58, x59, x60, x61, x62, x63, h49, hk, h3, h50]
end DG2
