/-! A step of both. -/
section STB
variable {φ φ' : Nat → Nat} {D D' : Nat → Prop} {F N : Nat} {P : aP} {S S' T T' T1 : sS} {A : aS} {r s d p f pc n m e b k y g q o : Nat} {G : jG} {t j : Nat} {a : Int32}
set_option maxHeartbeats 4000000 in
set_option linter.unusedSimpArgs false in
theorem e_190 {fi : Nat} (hr : r < 16) (hd : d < 30) (h16 : T.1 33 0 0 16 = nI r) (h1 : T.1 54 r 0 1 = nI (d + 1)) (f1 : T.1 56 r d 0 = nI f) (hf : f < 32) (q1 : T.1 56 r d 1 = nI q) (hfi : T.1 39 0 0 f = nI fi) (hN : fi + q < 1500) (ho : T.1 41 0 0 (fi + q) = nI o) (ha : T.1 42 0 0 (fi + q) = a) {T2 : sS} (e : F_188 G t (r, 0) (r, d) (nI o) a (skT T r d q) = some ((), T2)) : F_190 G t T = mtl G t r T2 := by
  have eT : siI (siI (siI (siI T 56 r d 1 (T.1 56 r d 1 + nI 1)) 33 0 0 21 ((siI T 56 r d 1 (T.1 56 r d 1 + nI 1)).1 33 0 0 21 + nI 1)) 33 0 0 20 ((siI (siI T 56 r d 1 (T.1 56 r d 1 + nI 1)) 33 0 0 21 ((siI T 56 r d 1 (T.1 56 r d 1 + nI 1)).1 33 0 0 21 + nI 1)).1 33 0 0 20 + nI 1)) 33 0 0 38 (nI 0) = skT T r d q := by
    unfold skT
    rw [q1, nI_add]
    simp only [gI]
    simp
  unfold F_190
  rw [show F_150 G t T = some (some (r, 0), T) from by
    unfold F_150
    clear e eT
    simp (disch := first | assumption | omega) only [gI, gI2, gL, gL1, gL2, jcLT, jcGE, jcGT, jcLE, jcEQ, jcNE, dEQ, nIt, lgNE, lgEQ, lgGE, lgLT, lgGT, lgLE, jinT, nIc, nI0, nI1, nIo, nIs, nI_add, nIm, nIn0, szl0, szl1, szl2, szl3, szl4, szl5, Nat.add_sub_assoc, Nat.add_zero, Nat.reduceSub, Nat.reduceAdd, Nat.reduceMul, Nat.reduceEqDiff,  jifT, bdS, sifN, sifS, omN, omS, cdI, x25, x26, x27, x28, x29, x30, x31, x32, xr0, xr1, xr2, xr3, xr4, xr5, if_pos, if_neg, true_and, and_true, false_and, and_false, and_self, Bool.and_true, if_true, if_false, reduceIte, cond_true, cond_false, not_true_eq_false, not_false_eq_true, x51, x52, x53, x54, x55, x56, x57, x58, x59, x60, x61, x62, x63, h16]]
  rw [bdS]
  dsimp only
  rw [bdS, show F_151 G t (r, 0) T = some (some (r, d), T) from by
    unfold F_151
    clear e eT
    simp (disch := first | assumption | omega) only [gI, gI2, gL, gL1, gL2, jcLT, jcGE, jcGT, jcLE, jcEQ, jcNE, dEQ, nIt, lgNE, lgEQ, lgGE, lgLT, lgGT, lgLE, jinT, nIc, nI0, nI1, nIo, nIs, nI_add, nIm, nIn0, szl0, szl1, szl2, szl3, szl4, szl5, Nat.add_sub_assoc, Nat.add_zero, Nat.reduceSub, Nat.reduceAdd, Nat.reduceMul, Nat.reduceEqDiff,  jifT, bdS, sifN, sifS, omN, omS, cdI, x25, x26, x27, x28, x29, x30, x31, x32, xr0, xr1, xr2, xr3, xr4, xr5, if_pos, if_neg, true_and, and_true, false_and, and_false, and_self, Bool.and_true, if_true, if_false, reduceIte, cond_true, cond_false, not_true_eq_false, not_false_eq_true, x51, x52, x53, x54, x55, x56, x57, x58, x59, x60, x61, x62, x63, h1]]
  rw [bdS]
  dsimp only
  rw [bdS, jif_true (x56 hr hd), f1, jif_true (jin_N (n := 32) (by omega) (by omega)), nI_clamp (by omega), hfi, q1]
  rw [q1] at eT
  rw [nI_add fi q, jif_true (jin_N (n := 1500) (by omega) (by omega)), jif_true (jin_N (n := 1500) (by omega) (by omega)), nI_clamp (by omega), ho, ha, eT, e, bdS]
  rfl
theorem aftR.wk (h : aftR φ D F N P S T A) (w : wkR φ F N P S T A S') : ∃ D', aftR φ D' F N P S' T A := by
  obtain ⟨D', w1, gc, hX, ag⟩ := w
  have e8 := (ag 8 0 0 (by omega)).1
  have e23 := (ag 23 0 0 (by omega)).1
  rcases h with ⟨r, _, _, iq, wh, hr, h1, h5, h7, h0⟩ | ⟨_, _, wh, h5, h7⟩
  · exact ⟨D', Or.inl ⟨r, w1, gc, iq, wh, hr, h1, by rw [e8]; exact h5, by rw [e23]; exact h7, h0⟩⟩
  · exact ⟨D', Or.inr ⟨w1, gc, wh, by rw [e8]; exact h5, by rw [e23]; exact h7⟩⟩
theorem aftR.w (h : aftR φ D F N P S T A) : wR φ D F N P S T A ∧ gcR D S := by
  rcases h with ⟨r, w, gc, _⟩ | ⟨w, gc, _⟩
  · exact ⟨w, gc⟩
  · exact ⟨w, gc⟩
set_option maxHeartbeats 4000000 in
set_option linter.unusedSimpArgs false in
theorem runR.step (hG : gG G) (ht : 2147483648 < t) (R : runR φ D F N P S T A r) (hW : A.2.2.2.2.2.1 + A.2.2.2.2.2.2 < 2147483648) :
    ∃ S' T' φ' D' A', F_120 G t S = some ((), S') ∧ F_190 G t T = some ((), T') ∧ aftR φ' D' F N P S' T' A' ∧ (∀ x, rmR S x → rmR S' x) ∧ A'.2.2.2.2.2.1 ≤ A.2.2.2.2.2.1 + 1 ∧ A'.2.2.2.2.2.2 = A.2.2.2.2.2.2 := by
  obtain ⟨d, p, f, q, n, m, hd, hp, hf, fr, sc⟩ := R.tak hW
  obtain ⟨w, gc, iq, wh, hr, h1, h5, h7, h0⟩ := R
  have st := w.2.1 r hr
  obtain ⟨_, _, ⟨d3, d3', d30⟩, _⟩ := id st
  rw [hd] at d3 d3' d30
  obtain ⟨⟨F1, F2, F3⟩, ⟨N1, N2, N3⟩, pf, pi, _⟩ := w.1.1
  obtain ⟨hM, ⟨f1, f2, f3⟩, ⟨p1, p2, _⟩, ⟨o1, o2, o3, _⟩, _⟩ := id fr
  obtain ⟨_, _, ⟨b1, b1'⟩, ⟨b2, b2', b3⟩⟩ := pf f f3
  have hq := sc.2.2.2.2.2.1
  obtain ⟨⟨i1, i2, i3⟩, i4, i5⟩ := pi (P.2.2.1 f + q) (by omega)
  obtain ⟨k, e75, hk, S2, T2, φ2, D2, A2, c1, c2, w2, gc2, iq2, rm2, h38, hw2, hn2⟩ := st_all (G := G) (t := t) hG (by omega) sc rfl i3 rfl
  have e120 := e_120 (G := G) (t := t) hG hr (by omega) h5 d3 hp hM f1 f3 F1 F3 p1 b2 hq b1 (by omega) i1 i3 i4 o1 o3 hk e75 c1
  have e190 := e_190 (G := G) (t := t) hr (by omega) (by rw [← w.2.2.2.2.2.2.2.1.1]; exact h5) d3' f2 (by omega) p2 b1' (by omega) i2 i5 c2
  have kk : kq S2 = kq (skS S p q) := (K_cD (c := kq (skS S p q)) (by
    by_cases c : n < k ∨ 16 < n - k + gvL.getD (P.2.2.2.2.1 (P.2.2.1 f + q)) 0
    · rw [if_pos c]; exact K_some rfl
    · rw [if_neg c]; exact k_116 _ _ _ _ _ rfl)).h _ c1
  have k1 : kq (skS S p q) = (nI r, nI 1) := by
    unfold kq skS
    simp only [gI]
    simp [h5, h7]
  rw [k1] at kk
  obtain ⟨S3, T3, A3, x1, x2, x3, x4, x5⟩ := turn (G := G) (t := t) (r := r) (y := if P.2.2.2.2.1 (P.2.2.1 f + q) = 32 then 1 else 0) (by omega) w2 gc2 iq2 wh hr (by
    by_cases c : P.2.2.2.2.1 (P.2.2.1 f + q) = 32
    · rw [if_pos c]; omega
    · rw [if_neg c]; omega) h38 (congrArg Prod.fst kk) (congrArg Prod.snd kk)
  obtain ⟨S4, y1, y2⟩ := x5.w.1.work (G := G) ht x5.w.2 (S3.1 23 0 0 10)
  obtain ⟨D4, y3⟩ := x5.wk y2
  refine ⟨S4, T3, φ2, D4, A3, ?_, e190.trans x2, y3, fun x hx => ?_, by rw [x4]; exact hw2.1, by rw [x4]; exact hw2.2⟩
  · rw [e120]
    have e200 : ∀ o, o ≤ 36 → F_120_200 G t (some (r, 0)) (nI o) S2 = F_120_214 G t (nI (if o = 32 then 1 else 0)) (some (r, 0)) S2 := fun o ho => by
      unfold F_120_200
      rw [jcNE (by omega) (by omega)]
      by_cases c : o = 32
      · subst c; rfl
      · rw [if_neg c, decide_eq_true c, cond_true]
    rw [e200 _ i3]
    unfold F_120_214
    rw [bdS, x1, bdS]
    dsimp only
    rw [y1]
    rfl
  · obtain ⟨_, _, _, z, _⟩ := y2
    exact ((rm2 x (hx.same rfl)).same x3).same z
end STB
