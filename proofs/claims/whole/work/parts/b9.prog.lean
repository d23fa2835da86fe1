/-! The program grows, or goes. -/
section PRG
variable {φ φ' : Nat → Nat} {D D' : Nat → Prop} {F N : Nat} {P P' : aP} {S S' T T' T1 : sS} {A : aS} {r s d p f pc n m e b k y g q o F' N' : Nat} {G : jG} {t j : Nat} {a : Int32}
theorem wR.prog (w : wR φ D F N P S T (A0 o)) (nD : ∀ h, ¬ D h) (aS : agr (fun t i j => 1 ≤ t ∧ t ≤ 7) S S') (hX : S'.2.2 = S.2.2) (aT : agr (fun t i j => t = 33 ∨ (37 ≤ t ∧ t ≤ 42)) T T') (h33 : ∀ k, k ≠ 13 → k ≠ 14 → k ≠ 25 → k ≠ 29 → T'.1 33 0 0 k = T.1 33 0 0 k) (hL : T'.2 = T.2) (pg : pgR S' T' F' N' P') (pa : pgA F' P') : wR φ D F' N' P' S' T' (A0 o) ∧ hk S S' := by
  obtain ⟨_, h2, h3, h4, h5, h6, ⟨⟨w1, w2⟩, w3⟩, h8, h9, h10⟩ := w
  refine ⟨⟨⟨pg, pa⟩, fun s hs => ?_, h3.keep (fun t x y => aS t 0 5 (by omega)) ⟨(aT 36 0 0 (by omega)).1, (aT 43 0 0 (by omega)).2⟩, fun h hh => absurd hh (nD h), ⟨fun h hh => absurd hh (nD h), fun h h' hh => absurd hh (nD h)⟩, h6.keep ⟨by rw [(aS 8 0 0 (by omega)).1], by rw [(aS 8 0 0 (by omega)).1], (aS 10 0 0 (by omega)).1⟩ ⟨h33 15 (by omega) (by omega) (by omega) (by omega), (aT 45 0 0 (by omega)).1⟩, ⟨⟨by rw [(aS 8 0 0 (by omega)).1]; exact w1, by rw [hL]; exact w2⟩, fun s hs z => by have : 2 ≤ 0 := z; omega⟩, ?_, h9.keep ⟨by rw [(aS 23 0 0 (by omega)).1], by rw [(aS 23 0 0 (by omega)).1], (aS 24 0 0 (by omega)).2⟩ ⟨h33 24 (by omega) (by omega) (by omega) (by omega), (aT 44 0 0 (by omega)).2⟩, h10.same hX⟩, ?_⟩
  · obtain ⟨z1, z2, z3, z4, z5, z6, z7, z8⟩ := h2 s hs
    refine ⟨?_, ?_, ?_, z4, ?_, fun z => by have : 5 ≤ 0 := z; omega, fun d hd => by have : d < 0 := hd; omega, fun d hd => by have : d + 1 < 0 := hd; omega⟩
    · rw [(aS 25 s 0 (by omega)).1]; exact z1
    · rw [(aS 25 s 0 (by omega)).1, (aT 54 s 0 (by omega)).1]; exact z2
    · rw [(aS 25 s 0 (by omega)).1, (aT 54 s 0 (by omega)).1]; exact z3
    · rw [(aS 25 s 0 (by omega)).2]; exact z5
  · unfold scaR
    rw [(aS 8 0 0 (by omega)).1, (aS 11 0 0 (by omega)).1, (aS 23 0 0 (by omega)).1, h33 16 (by omega) (by omega) (by omega) (by omega), h33 20 (by omega) (by omega) (by omega) (by omega), h33 22 (by omega) (by omega) (by omega) (by omega), h33 23 (by omega) (by omega) (by omega) (by omega), h33 21 (by omega) (by omega) (by omega) (by omega), h33 18 (by omega) (by omega) (by omega) (by omega), h33 19 (by omega) (by omega) (by omega) (by omega), h33 17 (by omega) (by omega) (by omega) (by omega)]
    exact h8
  · exact ⟨fun t i j x y => aS t i j (by omega), fun h p x t y z => aS t p 4 (by omega), fun h p x => (aS 32 p 0 (by omega)).1, by rw [hX], by rw [hX]⟩
set_option maxHeartbeats 4000000 in
set_option linter.unusedSimpArgs false in
theorem c_clear (ht : 2147483648 < t) : cal2 (F_47 G t) (F_144 G t) := by
  intro c S T h hc
  obtain ⟨φ, D, F, N, P, A, h1, h2⟩ := id h
  have w := (h1.er (nI 0)).w.1
  obtain ⟨S1, T1, e1, e2, w1, gc1, x1, y7, y5, lo, h33, ot⟩ := w.reset (G := G) (t := t) (by omega) (h1.er (nI 0)).w.2
  have pf := h1.w.1.1.1.1
  obtain ⟨w2, k2⟩ := w1.prog (F' := 0) (N' := 0) (P' := P) (S' := siI (siI S1 1 0 0 6 (nI 0)) 1 0 0 7 (nI 0)) (T' := siI (siI (siI T1 33 0 0 13 (nI 0)) 33 0 0 14 (nI 0)) 33 0 0 29 (nI 0)) (fun h => id) (agr.i (agr.i (agr.refl _ _) _ _ (by omega)) _ _ (by omega)) rfl (agr.i (agr.i (agr.i (agr.refl _ _) _ _ (by omega)) _ _ (by omega)) _ _ (by omega)) (fun k a b _ d => by simp [gI, a, b, d]) rfl ⟨⟨by simp [gI], by simp [gI], by omega⟩, ⟨by simp [gI], by simp [gI], by omega⟩, fun f hf => by omega, fun q hq => by omega, fun _ => rfl, fun f hf => by omega⟩ (fun f hf => by omega)
  refine ⟨nI F, _, _, ?_, ?_, ⟨φ, fun _ => False, 0, 0, P, A0 (A.2.2.2.2.2.1 + A.2.2.2.2.2.2), Or.inl ⟨w2, gc1.keep k2, ?_, ?_, ?_, ⟨_, rfl⟩, fun h => id⟩, ?_⟩, fun x hx => ⟨x, by omega, hx.same x1⟩⟩
  · unfold F_47
    rw [e1, bdS]
    show some (S.1 1 0 0 6, _) = _
    rw [pf.1]
  · unfold F_144
    rw [e2, bdS]
    dsimp only
    rw [gI, if_neg (by omega), pf.2.1]
  · rw [siI_ne _ _ _ (by omega), siI_ne _ _ _ (by omega)]; exact y7
  · rw [siI_ne _ _ _ (by omega), siI_ne _ _ _ (by omega)]; exact y5
  · rw [siI_at]
  · show 0 + (A.2.2.2.2.2.1 + A.2.2.2.2.2.2) ≤ _
    omega
def fnS (S : sS) (F N a b : Nat) : sS := siI (siI (siI (siI (siI S 2 0 0 F (nI a)) 3 0 0 F (nI b)) 4 0 0 F (nI N)) 5 0 0 F (nI 0)) 1 0 0 6 (nI (F + 1))
def fnT (T : sS) (F N a b : Nat) : sS := siI (siI (siI (siI (siI (siI T 33 0 0 25 (nI 0)) 37 0 0 F (nI a)) 38 0 0 F (nI b)) 39 0 0 F (nI N)) 40 0 0 F (nI 0)) 33 0 0 13 (nI (F + 1))
set_option maxHeartbeats 4000000 in
set_option linter.unusedSimpArgs false in
theorem e_64 {a b : Nat} (h6 : S.1 1 0 0 6 = nI F) (hF : F < 32) (h7 : S.1 1 0 0 7 = nI N) : F_64 G t (nI a) (nI b) S = some (nI F, fnS S F N a b) := by
  unfold F_64 fnS
  simp (disch := first | assumption | omega) only [gI, gI2, gL, gL1, gL2, jcLT, jcGE, jcGT, jcLE, jcEQ, jcNE, dEQ, nIt, lgNE, lgEQ, lgGE, lgLT, lgGT, lgLE, jinT, nIc, nI0, nI1, nIo, nIs, nI_add, nIm, nIn0, szl0, szl1, szl2, szl3, szl4, szl5, Nat.add_sub_assoc, Nat.add_zero, Nat.reduceSub, Nat.reduceAdd, Nat.reduceMul, Nat.reduceEqDiff,  jifT, bdS, sifN, sifS, omN, omS, cdI, x25, x26, x27, x28, x29, x30, x31, x32, xr0, xr1, xr2, xr3, xr4, xr5, if_pos, if_neg, true_and, and_true, false_and, and_false, and_self, Bool.and_true, if_true, if_false, reduceIte, cond_true, cond_false, not_true_eq_false, not_false_eq_true, h6, h7]
set_option maxHeartbeats 4000000 in
set_option linter.unusedSimpArgs false in
theorem e_136 {a b : Nat} (h6 : T.1 33 0 0 13 = nI F) (hF : F < 32) (h7 : T.1 33 0 0 14 = nI N) : F_136_46 G t (nI a) (nI b) (nI 0) T = some (nI F, fnT T F N a b) := by
  unfold F_136_46 fnT
  simp (disch := first | assumption | omega) only [gI, gI2, gL, gL1, gL2, jcLT, jcGE, jcGT, jcLE, jcEQ, jcNE, dEQ, nIt, lgNE, lgEQ, lgGE, lgLT, lgGT, lgLE, jinT, nIc, nI0, nI1, nIo, nIs, nI_add, nIm, nIn0, szl0, szl1, szl2, szl3, szl4, szl5, Nat.add_sub_assoc, Nat.add_zero, Nat.reduceSub, Nat.reduceAdd, Nat.reduceMul, Nat.reduceEqDiff,  jifT, bdS, sifN, sifS, omN, omS, cdI, x25, x26, x27, x28, x29, x30, x31, x32, xr0, xr1, xr2, xr3, xr4, xr5, if_pos, if_neg, true_and, and_true, false_and, and_false, and_self, Bool.and_true, if_true, if_false, reduceIte, cond_true, cond_false, not_true_eq_false, not_false_eq_true, x51, x52, x53, x54, x55, x56, x57, x58, x59, x60, x61, x62, x63, h6, h7]
def cdS (S : sS) (F N o l : Nat) (a : Int32) : sS := siI (siI (siI (siI S 6 0 0 N (nI o)) 7 0 0 N a) 1 0 0 7 (nI (N + 1))) 5 0 0 F (nI (l + 1))
def cdT (T : sS) (F N o l : Nat) (a : Int32) : sS := siI (siI (siI (siI (siI T 33 0 0 25 (nI 0)) 41 0 0 N (nI o)) 42 0 0 N a) 33 0 0 14 (nI (N + 1))) 40 0 0 F (nI (l + 1))
set_option maxHeartbeats 4000000 in
set_option linter.unusedSimpArgs false in
theorem e_49 {o l : Nat} (h6 : S.1 1 0 0 6 = nI (F + 1)) (hF : F < 32) (h7 : S.1 1 0 0 7 = nI N) (hN : N < 1500) (h5 : S.1 5 0 0 F = nI l) : F_49 G t (nI o) a S = some (nI l, cdS S F N o l a) := by
  unfold F_49 cdS
  simp (disch := first | assumption | omega) only [gI, gI2, gL, gL1, gL2, jcLT, jcGE, jcGT, jcLE, jcEQ, jcNE, dEQ, nIt, lgNE, lgEQ, lgGE, lgLT, lgGT, lgLE, jinT, nIc, nI0, nI1, nIo, nIs, nI_add, nIm, nIn0, szl0, szl1, szl2, szl3, szl4, szl5, Nat.add_sub_assoc, Nat.add_zero, Nat.reduceSub, Nat.reduceAdd, Nat.reduceMul, Nat.reduceEqDiff,  jifT, bdS, sifN, sifS, omN, omS, cdI, x25, x26, x27, x28, x29, x30, x31, x32, xr0, xr1, xr2, xr3, xr4, xr5, if_pos, if_neg, true_and, and_true, false_and, and_false, and_self, Bool.and_true, if_true, if_false, reduceIte, cond_true, cond_false, not_true_eq_false, not_false_eq_true, h6, h7, h5]
set_option maxHeartbeats 4000000 in
set_option linter.unusedSimpArgs false in
theorem e_139 {o l : Nat} (h6 : T.1 33 0 0 13 = nI (F + 1)) (hF : F < 32) (h7 : T.1 33 0 0 14 = nI N) (hN : N < 1500) (h5 : T.1 40 0 0 F = nI l) : F_139_57 G t (nI o) a (nI 0) T = some (nI l, cdT T F N o l a) := by
  unfold F_139_57 cdT
  simp (disch := first | assumption | omega) only [gI, gI2, gL, gL1, gL2, jcLT, jcGE, jcGT, jcLE, jcEQ, jcNE, dEQ, nIt, lgNE, lgEQ, lgGE, lgLT, lgGT, lgLE, jinT, nIc, nI0, nI1, nIo, nIs, nI_add, nIm, nIn0, szl0, szl1, szl2, szl3, szl4, szl5, Nat.add_sub_assoc, Nat.add_zero, Nat.reduceSub, Nat.reduceAdd, Nat.reduceMul, Nat.reduceEqDiff,  jifT, bdS, sifN, sifS, omN, omS, cdI, x25, x26, x27, x28, x29, x30, x31, x32, xr0, xr1, xr2, xr3, xr4, xr5, if_pos, if_neg, true_and, and_true, false_and, and_false, and_self, Bool.and_true, if_true, if_false, reduceIte, cond_true, cond_false, not_true_eq_false, not_false_eq_true, x51, x52, x53, x54, x55, x56, x57, x58, x59, x60, x61, x62, x63, h6, h7, h5]
end PRG
