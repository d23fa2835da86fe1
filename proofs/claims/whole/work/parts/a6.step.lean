/-! A step, whole. -/
section STW
variable {φ φ' : Nat → Nat} {D D' : Nat → Prop} {F N : Nat} {P : aP} {S S' T T' T1 : sS} {A : aS} {r s d p f pc n m e b k y g q o : Nat} {G : jG} {t j : Nat} {a : Int32}
theorem sub16 : ∀ n k : Fin 17, jcmp .lt (nI n.1 - nI k.1) 0 = decide (n.1 < k.1) := by decide
theorem sub_lt (hn : n ≤ 16) (hk : k ≤ 16) : jcmp .lt (nI n - nI k) 0 = decide (n < k) := sub16 ⟨n, by omega⟩ ⟨k, by omega⟩
theorem gvB : ∀ o, o < 37 → gvL.getD o 0 ≤ 2 := by decide
theorem K_cD {X : Option (Int32 × sS)} {c : Int32 × Int32} {v : Int32} (h : Kp X c) : Kp (cD G t r p v X) c := by
  unfold cD
  refine K_bind h (fun q hq => K_bif (K_some hq) (K_bind (k_76 _ _ _ hq) (fun q3 h3 => K_bind (k_81 _ _ _ _ _ h3) (fun q6 h6 => K_some h6))))
set_option maxHeartbeats 4000000 in
set_option linter.unusedSimpArgs false in
theorem e_175 {X : Option (Int32 × sS)} {v4 : Int32} {S2 : sS} (hr : r < 16) (h : cD G t r p (nI k) X = some ((), S2)) : X.bind (fun q2 => F_120_175 G t (some (r, 0)) (p, 0) v4 (nI k) q2.1 q2.2) = F_120_200 G t (some (r, 0)) v4 S2 := by
  unfold cD at h
  cases X with
  | none => cases h
  | some q =>
    rw [bdS] at h ⊢
    unfold F_120_175
    cases c : jcmp .eq q.1 0 with
    | true =>
      rw [c, cond_true] at h
      cases h
      rw [cond_true]
    | false =>
      rw [c, cond_false] at h
      rw [cond_false]
      have hs : srx q.2.2.2.2.1 p 1 = true := by
        cases z : srx q.2.2.2.2.1 p 1 with
        | true => rfl
        | false =>
          have e : F_76 G t (p, 1) (nI k) q.2 = none := by
            unfold F_76
            show jif (srx q.2.2.2.2.1 p 1) _ = none
            rw [z]
            rfl
          rw [e] at h
          cases h
      have hM : q.2.2.2.2.1.1 p = true := by
        have e : srx q.2.2.2.2.1 p 1 = ((true && q.2.2.2.2.1.1 p) || ((false && q.2.2.2.2.1.2 p) || (false && Nat.beq p 0))) := rfl
        rw [e] at hs
        simp only [Bool.true_and, Bool.false_and, Bool.or_false] at hs
        exact hs
      rw [jif_true (show sex q.2.2.2.2.1 27 p 0 = true by rw [x27, hM]; rfl), jif_true (show sex q.2.2.2.2.1 29 p 1 = true from hs)]
      cases e76 : F_76 G t (p, 1) (nI k) q.2 with
      | none => rw [e76] at h; cases h
      | some q3 =>
        rw [e76, bdS] at h
        rw [bdS]
        cases e81 : F_81 G t (r, 0) (nI 2) q.1.toInt64 (nI 0) q3.2 with
        | none => rw [e81] at h; cases h
        | some q6 =>
          rw [e81, bdS] at h
          cases h
          show jif (sex q3.2.2.2.2.1 25 r 0) _ = _
          rw [jif_true (x25 hr), e81, bdS]
/-! the class's step, up to the instruction's end -/
set_option maxHeartbeats 4000000 in
set_option linter.unusedSimpArgs false in
theorem e_120 {L fi : Nat} (hG : gG G) (hr : r < 16) (hd : d < 30) (h5 : S.1 8 0 0 5 = nI r) (h3 : S.1 25 r 0 3 = nI (d + 1)) (hp : S.2.2.1.1 r d = some p) (hM : S.2.2.2.1.1 p = true) (f1 : S.1 27 p 0 5 = nI f) (hf : f < F) (hF : S.1 1 0 0 6 = nI F) (hF2 : F ≤ 32) (q1 : S.1 27 p 0 6 = nI q) (hL : S.1 5 0 0 f = nI L) (hq : q < L) (hfi : S.1 4 0 0 f = nI fi) (hN : fi + L ≤ 1500) (ho : S.1 6 0 0 (fi + q) = nI o) (ho2 : o ≤ 36) (ha : S.1 7 0 0 (fi + q) = a) (o1 : S.1 29 p 1 2 = nI n) (hn : n ≤ 16) (hk : k ≤ 16)
    (e75 : F_75 G t (nI o) a (skS S p q) = some (nI k, skS S p q)) {S2 : sS} (h : cD G t r p (nI k) (if n < k ∨ 16 < n - k + gvL.getD o 0 then some (-3, skS S p q) else F_116 G t (nI o) a (r, 0) (p, 0) (skS S p q)) = some ((), S2)) : F_120 G t S = F_120_200 G t (some (r, 0)) (nI o) S2 := by
  have e := e_175 (v4 := nI o) hr h
  have e66 := f_66 (G := G) (t := t) hr h3 hd
  rw [hp] at e66
  have e74 : F_74 G t (p, 0) S = some (nI (fi + q), S) := by
    unfold F_74
    clear h e e75 hG
    simp (disch := first | assumption | omega) only [gI, gI2, gL, gL1, gL2, jcLT, jcGE, jcGT, jcLE, jcEQ, jcNE, dEQ, nIt, lgNE, lgEQ, lgGE, lgLT, lgGT, lgLE, jinT, nIc, nI0, nI1, nIo, nIs, nI_add, nIm, nIn0, szl0, szl1, szl2, szl3, szl4, szl5, Nat.add_sub_assoc, Nat.add_zero, Nat.reduceSub, Nat.reduceAdd, Nat.reduceMul, Nat.reduceEqDiff,  jifT, bdS, sifN, sifS, omN, omS, cdI, x25, x26, x27, x28, x29, x30, x31, x32, xr0, xr1, xr2, xr3, xr4, xr5, if_pos, if_neg, true_and, and_true, false_and, and_false, and_self, Bool.and_true, if_true, if_false, reduceIte, cond_true, cond_false, not_true_eq_false, not_false_eq_true, f1, hF, q1, hL, hfi, hM, F_74_42]
  obtain ⟨_, g2, g3⟩ := hG
  have g4 := (g3 o (by omega)).2
  have gb : gvL.getD o 0 ≤ 2 := gvB o (by omega)
  have s29 : (skS S p q).1 29 p 1 2 = nI n := by
    unfold skS
    rw [siI_ne _ _ _ (by omega), siI_ne _ _ _ (by omega), siI_ne _ _ _ (by omega)]
    exact o1
  have sM : (skS S p q).2.2.2.1.1 p = true := hM
  have eS : siI (siI (siI S 27 p 0 6 (S.1 27 p 0 6 + nI 1)) 23 0 0 8 ((siI S 27 p 0 6 (S.1 27 p 0 6 + nI 1)).1 23 0 0 8 + nI 1)) 8 0 0 6 ((siI (siI S 27 p 0 6 (S.1 27 p 0 6 + nI 1)) 23 0 0 8 ((siI S 27 p 0 6 (S.1 27 p 0 6 + nI 1)).1 23 0 0 8 + nI 1)).1 8 0 0 6 + nI 1) = skS S p q := by
    unfold skS
    rw [q1, nI_add, siI_ne (t' := 23) _ _ _ (by omega), siI_ne (t' := 8) _ _ _ (by omega), siI_ne (t' := 8) _ _ _ (by omega)]
  unfold F_120
  rw [show F_73 G t S = some (some (r, 0), S) from by
    unfold F_73
    clear h e e75 g3
    simp (disch := first | assumption | omega) only [gI, gI2, gL, gL1, gL2, jcLT, jcGE, jcGT, jcLE, jcEQ, jcNE, dEQ, nIt, lgNE, lgEQ, lgGE, lgLT, lgGT, lgLE, jinT, nIc, nI0, nI1, nIo, nIs, nI_add, nIm, nIn0, szl0, szl1, szl2, szl3, szl4, szl5, Nat.add_sub_assoc, Nat.add_zero, Nat.reduceSub, Nat.reduceAdd, Nat.reduceMul, Nat.reduceEqDiff,  jifT, bdS, sifN, sifS, omN, omS, cdI, x25, x26, x27, x28, x29, x30, x31, x32, xr0, xr1, xr2, xr3, xr4, xr5, if_pos, if_neg, true_and, and_true, false_and, and_false, and_self, Bool.and_true, if_true, if_false, reduceIte, cond_true, cond_false, not_true_eq_false, not_false_eq_true, h5]]
  rw [bdS]
  dsimp only
  rw [sifS]
  dsimp only
  rw [jif_true (x25 hr), e66, bdS]
  dsimp only
  unfold F_120_20
  rw [show (some p).map (fun p => (p, 0)) = some (p, 0) from rfl, sifS, e74, bdS]
  dsimp only
  unfold F_120_37
  rw [nI_ne1 (by omega), cond_true, jif_true (jin_N (n := 1500) (by omega) (by omega)), jif_true (jin_N (n := 1500) (by omega) (by omega)), nI_clamp (by omega), ho, ha, bdS]
  dsimp only
  rw [jif_true (show sex S.2.2.2.1 27 p 0 = true by rw [x27, hM]; rfl), eS, e75, bdS]
  dsimp only
  rw [jif_true (show sex (skS S p q).2.2.2.1 27 p 0 = true by rw [x27, sM]; rfl), jif_true (show sex (skS S p q).2.2.2.1 29 p 1 = true from xr1 sM), s29, sub_lt hn hk]
  by_cases c : n < k
  · rw [decide_eq_true c, cond_true]
    rw [if_pos (Or.inl c), bdS] at e
    exact e
  · rw [decide_eq_false c, cond_false, g2, jif_true (jin_N (n := 37) (by omega) (by omega)), nI_clamp (by omega), g4, nIs (by omega), nI_add, jcGT (by omega) (by omega)]
    by_cases c2 : 16 < n - k + gvL.getD o 0
    · rw [decide_eq_true c2, cond_true]
      rw [if_pos (Or.inr c2), bdS] at e
      exact e
    · rw [decide_eq_false c2, cond_false]
      rw [if_neg (by omega)] at e
      exact e
end STW
