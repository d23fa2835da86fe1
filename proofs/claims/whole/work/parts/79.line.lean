/-! A strand lines up; a new strand. -/
section LIN
variable {φ : Nat → Nat} {D : Nat → Prop} {F N : Nat} {P : aP} {S S' T T' : sS} {A : aS} {r d p f pc n m e b k : Nat} {G : jG} {t : Nat}
def luS (S : sS) (s a q : Nat) : sS := siI (siI (siI S 25 s 0 4 (nI 1)) 10 0 0 ((a + q) % 16) (nI s)) 8 0 0 4 (nI (q + 1))
set_option maxHeartbeats 4000000 in
set_option linter.unusedSimpArgs false in
theorem f_30 {s a q : Nat} (hs : s < 16) (ha : S.1 8 0 0 3 = nI a) (hn : S.1 8 0 0 4 = nI q) (ha1 : a < 16) (hn1 : q < 16) (hz : S.1 25 s 0 1 = nI s) : F_30 G t (s, 0) S = some ((), luS S s a q) := by
  unfold F_30 luS
  simp (disch := first | assumption | omega) only [gI, gI2, gL, gL1, gL2, jcLT, jcGE, jcGT, jcLE, jcEQ, jcNE, dEQ, nIt, lgNE, lgEQ, lgGE, lgLT, lgGT, lgLE, jinT, nIc, nI0, nI1, nIo, nIs, nI_add, nIm, nIn0, szl0, szl1, szl2, szl3, szl4, szl5, Nat.add_sub_assoc, Nat.add_zero, Nat.reduceSub, Nat.reduceAdd, Nat.reduceMul, Nat.reduceEqDiff,  jifT, bdS, sifN, sifS, omN, omS, cdI, x25, x26, x27, x28, x29, x30, x31, x32, xr0, xr1, xr2, xr3, xr4, xr5, if_pos, if_neg, true_and, and_true, false_and, and_false, and_self, Bool.and_true, if_true, if_false, reduceIte, cond_true, cond_false, not_true_eq_false, not_false_eq_true, ha, hn, hz]
def rdT (T : sS) (s q : Nat) : sS := siI (siI (siI T 54 s 0 0 (nI 1)) 45 0 0 q (nI s)) 33 0 0 15 (nI (q + 1))
set_option maxHeartbeats 4000000 in
set_option linter.unusedSimpArgs false in
theorem f_163 {s q : Nat} (hs : s < 16) (hq : T.1 33 0 0 15 = nI q) (hq2 : q < 17) : F_163 G t (nI s) T = some ((), rdT T s q) := by
  unfold F_163 rdT
  simp (disch := first | assumption | omega) only [gI, gI2, gL, gL1, gL2, jcLT, jcGE, jcGT, jcLE, jcEQ, jcNE, dEQ, nIt, lgNE, lgEQ, lgGE, lgLT, lgGT, lgLE, jinT, nIc, nI0, nI1, nIo, nIs, nI_add, nIm, nIn0, szl0, szl1, szl2, szl3, szl4, szl5, Nat.add_sub_assoc, Nat.add_zero, Nat.reduceSub, Nat.reduceAdd, Nat.reduceMul, Nat.reduceEqDiff,  jifT, bdS, sifN, sifS, omN, omS, cdI, x25, x26, x27, x28, x29, x30, x31, x32, xr0, xr1, xr2, xr3, xr4, xr5, if_pos, if_neg, true_and, and_true, false_and, and_false, and_self, Bool.and_true, if_true, if_false, reduceIte, cond_true, cond_false, not_true_eq_false, not_false_eq_true, x51, x52, x53, x54, x55, x56, x57, x58, x59, x60, x61, x62, x63, hq]
/-! the queue gets one more -/
theorem quR.add {Q : List Nat} (h : quR S T Q) (hl : Q.length < 16) {a s : Nat} (ha : S.1 8 0 0 3 = nI a) (ha2 : a < 16) (h1 : S'.1 8 0 0 3 = nI a) (h2 : S'.1 8 0 0 4 = nI (Q.length + 1)) (h3 : S'.1 10 0 0 = upd (S.1 10 0 0) ((a + Q.length) % 16) (nI s)) (h4 : T'.1 33 0 0 15 = nI (Q.length + 1)) (h5 : T'.1 45 0 0 = upd (T.1 45 0 0) Q.length (nI s)) : quR S' T' (Q ++ [s]) := by
  obtain ⟨b, b1, b2, b3, b4, b5, b6⟩ := h
  have : b = a := (nI_eq (by omega) (by omega)).mp (b1.symm.trans ha)
  subst this
  refine ⟨b, h1, b2, by rw [List.length_append]; exact h2, by rw [List.length_append]; exact h4, by rw [List.length_append]; exact hl, fun i x hx => ?_⟩
  rw [List.getElem?_append] at hx
  rw [h3, h5]
  by_cases c : i < Q.length
  · rw [if_pos c] at hx
    obtain ⟨c1, c2⟩ := b6 i x hx
    have e1 : (b + i) % 16 ≠ (b + Q.length) % 16 := by omega
    have e2 : i ≠ Q.length := by omega
    exact ⟨(if_neg e1).trans c1, (if_neg e2).trans c2⟩
  · rw [if_neg c] at hx
    have c2 : i = Q.length := by
      by_cases c3 : i - Q.length = 0
      · omega
      · obtain ⟨q, hq⟩ : ∃ q, i - Q.length = q + 1 := ⟨i - Q.length - 1, by omega⟩
        rw [hq] at hx
        cases hx
    subst c2
    rw [Nat.sub_self] at hx
    have : s = x := Option.some.inj hx
    subst this
    exact ⟨if_pos rfl, if_pos rfl⟩
set_option maxHeartbeats 4000000 in
set_option linter.unusedSimpArgs false in
theorem wR.line (h : wR φ D F N P S T A) {s a : Nat} (hs : s < 16) (hd : 0 < A.2.1 s) (hst : 1 ≤ A.1 s ∧ A.1 s ≤ 4) (ha : S.1 8 0 0 3 = nI a) (ha2 : a < 16) (hl : A.2.2.2.1.length < 16) : wR φ D F N P (luS S s a A.2.2.2.1.length) (rdT T s A.2.2.2.1.length) (va_up A.1 s 1, A.2.1, A.2.2.1, A.2.2.2.1 ++ [s], A.2.2.2.2) ∧ hk S (luS S s a A.2.2.2.1.length) := by
  have R := h.2.1 s hs
  have ow := h.2.2.2.2.2.2.2.2.2
  have R1 : stR φ D F P (siI S 25 s 0 4 (nI 1)) (siI T 54 s 0 0 (nI 1)) s 1 (A.2.1 s) (A.2.2.1 s) := by
    obtain ⟨s1, s2, s3, s4, s5, s6, s7, s8⟩ := R
    refine ⟨by rw [gI, if_neg (by omega)]; exact s1, ⟨siI_at _ _ _ _ _ _, siI_at _ _ _ _ _ _, by omega⟩, ⟨by rw [gI, if_neg (by omega)]; exact s3.1, by rw [gI, if_neg (by omega)]; exact s3.2.1, s3.2.2⟩, by omega, fun _ => s5 (by omega), fun z => by omega, fun d hd => ?_, s8⟩
    obtain ⟨p, hp, fr⟩ := s7 d hd
    exact ⟨p, hp, fr.keep fr.1 (fun t x y j z => ⟨siI_ne _ _ _ (by omega), rfl⟩) (fun t x y => ⟨siI_ne _ _ _ (by omega), rfl⟩)⟩
  have k1 : kp S (siI S 25 s 0 4 (nI 1)) s := ⟨fun t i j z y => ⟨siI_ne _ _ _ (by omega), rfl⟩, fun s' d p z y t j u v => ⟨siI_ne _ _ _ (by omega), rfl⟩, fun h p z t j u v => ⟨siI_ne _ _ _ (by omega), rfl⟩, fun t j u v => ⟨siI_ne _ _ _ (by omega), rfl⟩, fun _ _ _ => rfl, rfl, fun _ z => z, rfl, fun k z y => by rw [gI, if_neg (by omega)]⟩
  have m1 : km T (siI T 54 s 0 0 (nI 1)) s := ⟨agr.i (agr.refl _ _) _ _ (by omega), fun k z => by rw [siI_ne _ _ _ (by omega)], rfl, rfl, rfl⟩
  have w1 := h.one hs k1 m1 (ow.same rfl) R1 (by omega)
  have qu : quR (siI S 25 s 0 4 (nI 1)) (siI T 54 s 0 0 (nI 1)) A.2.2.2.1 := w1.2.2.2.2.2.1
  have sc := w1.2.2.2.2.2.2.2.1
  have wr := w1.2.2.2.2.2.2.2.2.1
  have gl := w1.2.2.1
  have aS2 : agr (fun t _ _ => t = 8 ∨ t = 10) (siI S 25 s 0 4 (nI 1)) (luS S s a A.2.2.2.1.length) := agr.i (agr.i (agr.refl _ _) _ _ (by omega)) _ _ (by omega)
  have aT2 : agr (fun t _ _ => t = 33 ∨ t = 45) (siI T 54 s 0 0 (nI 1)) (rdT T s A.2.2.2.1.length) := agr.i (agr.i (agr.refl _ _) _ _ (by omega)) _ _ (by omega)
  have y8 : ∀ k, k ≠ 4 → (luS S s a A.2.2.2.1.length).1 8 0 0 k = (siI S 25 s 0 4 (nI 1)).1 8 0 0 k := fun k hk => by
    unfold luS
    rw [gI, if_neg (by omega), siI_ne _ _ _ (by omega)]
  have y33 : ∀ k, k ≠ 15 → (rdT T s A.2.2.2.1.length).1 33 0 0 k = (siI T 54 s 0 0 (nI 1)).1 33 0 0 k := fun k hk => by
    unfold rdT
    rw [gI, if_neg (by omega), siI_ne _ _ _ (by omega)]
  have ha' : (siI S 25 s 0 4 (nI 1)).1 8 0 0 3 = nI a := by rw [siI_ne _ _ _ (by omega)]; exact ha
  have w2 := w1.wld (S' := luS S s a A.2.2.2.1.length) (T' := rdT T s A.2.2.2.1.length) (Q := A.2.2.2.1 ++ [s]) (aS2.mono (fun t i j z => by omega)) rfl (aT2.mono (fun t i j z => by omega)) ⟨y33 13 (by omega), y33 14 (by omega)⟩ (gl.keep (fun t _ _ => aS2 t 0 5 (by omega)) ⟨(aT2 36 0 0 (by omega)).1, (aT2 43 0 0 (by omega)).2⟩) (qu.add hl ha' ha2 (by rw [y8 3 (by omega)]; exact ha') (siI_at _ _ _ _ _ _) (by
      unfold luS
      rw [siI_ne _ _ _ (by omega), siI_self]) (siI_at _ _ _ _ _ _) (by
      unfold rdT
      rw [siI_ne _ _ _ (by omega), siI_self])) ⟨y8 8 (by omega), rfl⟩ (by
      unfold scaR
      rw [y8 5 (by omega), y8 6 (by omega), y8 7 (by omega), (aS2 11 0 0 (by omega)).1, (aS2 23 0 0 (by omega)).1, y33 16 (by omega), y33 20 (by omega), y33 22 (by omega), y33 23 (by omega), y33 21 (by omega), y33 18 (by omega), y33 19 (by omega), y33 17 (by omega)]
      exact sc) (wr.keep ⟨by rw [(aS2 23 0 0 (by omega)).1], by rw [(aS2 23 0 0 (by omega)).1], rfl⟩ ⟨y33 24 (by omega), rfl⟩)
  have ea : ((aset A s 1 (A.2.1 s) (A.2.2.1 s)).1, (aset A s 1 (A.2.1 s) (A.2.2.1 s)).2.1, (aset A s 1 (A.2.1 s) (A.2.2.1 s)).2.2.1, A.2.2.2.1 ++ [s], (aset A s 1 (A.2.1 s) (A.2.2.1 s)).2.2.2.2) = (va_up A.1 s 1, A.2.1, A.2.2.1, A.2.2.2.1 ++ [s], A.2.2.2.2) := by
    unfold aset
    refine Prod.ext rfl (Prod.ext (funext fun y => ?_) (Prod.ext (funext fun y => ?_) rfl))
    all_goals
      by_cases c : y = s
      · subst c; simp only [va_up_self]
      · simp only [va_up_ne _ _ c]
  rw [ea] at w2
  exact ⟨w2.1, k1.hk.trans w2.2⟩
/-! more strands were made -/
theorem wR.made (h : wR φ D F N P S T A) : wR φ D F N P (siI S 8 0 0 7 (S.1 8 0 0 7 + nI 1)) (siI T 33 0 0 22 (T.1 33 0 0 22 + nI 1)) A ∧ hk S (siI S 8 0 0 7 (S.1 8 0 0 7 + nI 1)) := by
  have qu := h.2.2.2.2.2.1
  have sc := h.2.2.2.2.2.2.2.1
  have wr := h.2.2.2.2.2.2.2.2.1
  have gl := h.2.2.1
  have y8 : ∀ k, k ≠ 7 → (siI S 8 0 0 7 (S.1 8 0 0 7 + nI 1)).1 8 0 0 k = S.1 8 0 0 k := fun k hk => by rw [gI, if_neg (by omega)]
  have y33 : ∀ k, k ≠ 22 → (siI T 33 0 0 22 (T.1 33 0 0 22 + nI 1)).1 33 0 0 k = T.1 33 0 0 k := fun k hk => by rw [gI, if_neg (by omega)]
  have aS2 : agr (fun t _ _ => t = 8) S (siI S 8 0 0 7 (S.1 8 0 0 7 + nI 1)) := agr.i (agr.refl _ _) _ _ rfl
  have aT2 : agr (fun t _ _ => t = 33) T (siI T 33 0 0 22 (T.1 33 0 0 22 + nI 1)) := agr.i (agr.refl _ _) _ _ rfl
  refine h.wld (aS2.mono (fun t i j z => by omega)) rfl (aT2.mono (fun t i j z => by omega)) ⟨y33 13 (by omega), y33 14 (by omega)⟩ (gl.keep (fun t _ _ => aS2 t 0 5 (by omega)) ⟨(aT2 36 0 0 (by omega)).1, rfl⟩) (qu.keep ⟨y8 3 (by omega), y8 4 (by omega), (aS2 10 0 0 (by omega)).1⟩ ⟨y33 15 (by omega), (aT2 45 0 0 (by omega)).1⟩) ⟨y8 8 (by omega), rfl⟩ ?_ (wr.keep ⟨by rw [(aS2 23 0 0 (by omega)).1], by rw [(aS2 23 0 0 (by omega)).1], rfl⟩ ⟨y33 24 (by omega), rfl⟩)
  obtain ⟨g1, g2, g3, g4⟩ := sc
  refine ⟨by rw [y8 5 (by omega), y33 16 (by omega)]; exact g1, by rw [y8 6 (by omega), y33 20 (by omega)]; exact g2, by rw [siI_at, siI_at, g3], ?_⟩
  rw [(aS2 11 0 0 (by omega)).1, (aS2 23 0 0 (by omega)).1, y33 23 (by omega), y33 21 (by omega), y33 18 (by omega), y33 19 (by omega), y33 17 (by omega)]
  exact g4
end LIN
