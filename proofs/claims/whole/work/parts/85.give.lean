/-! A strand waits; a strand that waits goes on. -/
section GIV
variable {φ : Nat → Nat} {D : Nat → Prop} {F N : Nat} {P : aP} {S S' T T' : sS} {A : aS} {r d p f pc n m e b k y : Nat} {G : jG} {t : Nat}
def awS (S : sS) (r st c W : Nat) : sS := siI (siI (siI (siI S 25 r 0 4 (nI st)) 25 r 0 6 (nI c)) 25 r 0 5 (nI W)) 8 0 0 8 (nI (W + 1))
set_option maxHeartbeats 4000000 in
set_option linter.unusedSimpArgs false in
theorem f_93 {st c W : Nat} (hr : r < 16) (hW : S.1 8 0 0 8 = nI W) : F_93 G t (r, 0) (nI st) (nI c) S = some ((), awS S r st c W) := by
  unfold F_93 awS
  simp (disch := first | assumption | omega) only [gI, gI2, gL, gL1, gL2, jcLT, jcGE, jcGT, jcLE, jcEQ, jcNE, dEQ, nIt, lgNE, lgEQ, lgGE, lgLT, lgGT, lgLE, jinT, nIc, nI0, nI1, nIo, nIs, nI_add, nIm, nIn0, szl0, szl1, szl2, szl3, szl4, szl5, Nat.add_sub_assoc, Nat.add_zero, Nat.reduceSub, Nat.reduceAdd, Nat.reduceMul, Nat.reduceEqDiff,  jifT, bdS, sifN, sifS, omN, omS, cdI, x25, x26, x27, x28, x29, x30, x31, x32, xr0, xr1, xr2, xr3, xr4, xr5, if_pos, if_neg, true_and, and_true, false_and, and_false, and_self, Bool.and_true, if_true, if_false, reduceIte, cond_true, cond_false, not_true_eq_false, not_false_eq_true, hW]
def awT (T : sS) (r st V : Nat) : sS := siL (siL (siI T 54 r 0 0 (nI st)) 54 r 0 3 (Int64.ofNat V)) 33 0 0 28 (Int64.ofNat (V + 1))
theorem of64 (V : Nat) : Int64.ofNat V + 1 = Int64.ofNat (V + 1) := (Int64.ofNat_add V 1).symm
set_option maxHeartbeats 4000000 in
set_option linter.unusedSimpArgs false in
theorem f_177 {st V : Nat} (hr : r < 16) (hV : T.2.1 33 0 0 28 = Int64.ofNat V) : F_177 G t (r, 0) (nI st) T = some ((), awT T r st V) := by
  unfold F_177 awT
  simp (disch := first | assumption | omega) only [gI, gI2, gL, gL1, gL2, jcLT, jcGE, jcGT, jcLE, jcEQ, jcNE, dEQ, nIt, lgNE, lgEQ, lgGE, lgLT, lgGT, lgLE, jinT, nIc, nI0, nI1, nIo, nIs, nI_add, nIm, nIn0, szl0, szl1, szl2, szl3, szl4, szl5, Nat.add_sub_assoc, Nat.add_zero, Nat.reduceSub, Nat.reduceAdd, Nat.reduceMul, Nat.reduceEqDiff,  jifT, bdS, sifN, sifS, omN, omS, cdI, x25, x26, x27, x28, x29, x30, x31, x32, xr0, xr1, xr2, xr3, xr4, xr5, if_pos, if_neg, true_and, and_true, false_and, and_false, and_self, Bool.and_true, if_true, if_false, reduceIte, cond_true, cond_false, not_true_eq_false, not_false_eq_true, x51, x52, x53, x54, x55, x56, x57, x58, x59, x60, x61, x62, x63, hV, of64]
/-! the running strand waits -/
theorem wR.await (h : wR φ D F N P S T A) (hr : r < 16) {st c : Nat} (h1 : A.1 r = 1) (hst : 2 ≤ st ∧ st ≤ 4) (hc : ∀ d, A.2.1 r = d + 1 → (st = 2 → 2 ≤ (A.2.2.1 r d).2.2.1) ∧ (st = 3 → 1 ≤ (A.2.2.1 r d).2.2.1 ∧ (A.2.2.1 r d).2.2.1 ≤ 15) ∧
      (st = 4 → 1 ≤ c ∧ c ≤ 4 ∧ 3 * c ≤ (A.2.2.1 r d).2.2.1 ∧ (A.2.2.1 r d).2.2.1 ≤ 14 + 3 * c ∧ (∃ q, (A.2.2.1 r d).2.1 = q + 1 ∧ P.2.2.2.2.2 (P.2.2.1 (A.2.2.1 r d).1 + q) &&& nI 7 = nI c) ∧ ∃ p, S.2.2.1.1 r d = some p ∧ ∀ k, k < c → S.1 31 p 1 ((A.2.2.1 r d).2.2.1 - 3 * c + 3 * k + 1) = nI 0)) :
    wR φ D F N P (awS S r st c A.2.2.2.2.2.1) (awT T r st (A.2.2.2.2.2.1 + A.2.2.2.2.2.2)) (va_up A.1 r st, A.2.1, A.2.2.1, A.2.2.2.1, va_up A.2.2.2.2.1 r A.2.2.2.2.2.1, A.2.2.2.2.2.1 + 1, A.2.2.2.2.2.2) ∧ hk S (awS S r st c A.2.2.2.2.2.1) := by
  obtain ⟨⟨g1, g1'⟩, g2, g3, g4, g5, g6, g7, g8, g9, g10⟩ := h
  have aS : agr (fun t i j => (t = 25 ∧ i = r ∧ j = 0) ∨ t = 8) S (awS S r st c A.2.2.2.2.2.1) := agr.i (agr.i (agr.i (agr.i (agr.refl _ _) _ _ (by omega)) _ _ (by omega)) _ _ (by omega)) _ _ (by omega)
  have aT : agr (fun t i j => (t = 54 ∧ i = r ∧ j = 0) ∨ t = 33) T (awT T r st (A.2.2.2.2.2.1 + A.2.2.2.2.2.2)) := agr.l (agr.l (agr.i (agr.refl _ _) _ _ (by omega)) _ _ (by omega)) _ _ (by omega)
  have y8 : ∀ k, k ≠ 8 → (awS S r st c A.2.2.2.2.2.1).1 8 0 0 k = S.1 8 0 0 k := fun k hk => by
    unfold awS
    rw [gI, if_neg (by omega), siI_ne _ _ _ (by omega), siI_ne _ _ _ (by omega), siI_ne _ _ _ (by omega)]
  have y33 : (awT T r st (A.2.2.2.2.2.1 + A.2.2.2.2.2.2)).1 33 0 0 = T.1 33 0 0 := by
    unfold awT
    rw [gL1, gL1, siI_ne _ _ _ (by omega)]
  have y25 : ∀ k, k ≠ 4 → k ≠ 5 → k ≠ 6 → (awS S r st c A.2.2.2.2.2.1).1 25 r 0 k = S.1 25 r 0 k := fun k a b d => by
    unfold awS
    rw [siI_ne _ _ _ (by omega), gI, if_neg (by omega), gI, if_neg (by omega), gI, if_neg (by omega)]
  have y54 : ∀ k, k ≠ 0 → (awT T r st (A.2.2.2.2.2.1 + A.2.2.2.2.2.2)).1 54 r 0 k = T.1 54 r 0 k := fun k a => by
    unfold awT
    rw [gL1, gL1, gI, if_neg (by omega)]
  have k0 : hk S (awS S r st c A.2.2.2.2.2.1) := ⟨fun t i j x y => aS t i j (by omega), fun h p x t y z => aS t p 4 (by omega), fun h p x => (aS 32 p 0 (by omega)).1, rfl, rfl⟩
  refine ⟨⟨⟨g1.keep (fun t x y => (aS t 0 0 (by omega)).1) (fun t x y => (aT t 0 0 (by omega)).1) ⟨by rw [y33], by rw [y33]⟩, g1'⟩, fun s hs => ?_, g3.keep (fun t x y => aS t 0 5 (by omega)) ⟨(aT 36 0 0 (by omega)).1, (aT 43 0 0 (by omega)).2⟩, fun x hx => (g4 x hx).keep k0 (fun t x y => aT t _ 0 (by omega)), g5, g6.keep ⟨y8 3 (by omega), y8 4 (by omega), (aS 10 0 0 (by omega)).1⟩ ⟨by rw [y33], (aT 45 0 0 (by omega)).1⟩, ?_, ?_, g9.keep ⟨by rw [(aS 23 0 0 (by omega)).1], by rw [(aS 23 0 0 (by omega)).1], (aS 24 0 0 (by omega)).2⟩ ⟨by rw [y33], (aT 44 0 0 (by omega)).2⟩, g10.same rfl⟩, k0⟩
  · show stR φ D F P _ _ s (va_up A.1 r st s) (A.2.1 s) (A.2.2.1 s)
    by_cases c' : s = r
    · subst c'
      rw [va_up_self]
      obtain ⟨s1, s2, s3, s4, s5, s6, s7, s8⟩ := g2 s hs
      refine ⟨by rw [y25 1 (by omega) (by omega) (by omega)]; exact s1, ⟨?_, ?_, by omega⟩, ⟨by rw [y25 3 (by omega) (by omega) (by omega)]; exact s3.1, by rw [y54 1 (by omega)]; exact s3.2.1, s3.2.2⟩, by omega, fun _ => s5 (by omega), fun z => by omega, fun d hd => ?_, s8⟩
      · unfold awS
        rw [siI_ne _ _ _ (by omega), gI, if_neg (by omega), gI, if_neg (by omega), siI_at]
      · unfold awT
        rw [gL1, gL1, siI_at]
      · obtain ⟨p, hp, fr⟩ := s7 d hd
        exact ⟨p, hp, fr.keep fr.1 (fun t x y j z => aS t p j (by omega)) (fun t x y => aT t s d (by omega))⟩
    · rw [va_up_ne _ _ c']
      exact (g2 s hs).keep (aS 25 s 0 (by omega)) (aT 54 s 0 (by omega)).1 (fun d p hp => ⟨hp, fun z => z, fun t x y j z => aS t p j (by omega)⟩) (fun d t x y => aT t s d (by omega))
  · obtain ⟨⟨w1, w2⟩, w3⟩ := g7
    refine ⟨⟨siI_at _ _ _ _ _ _, ?_⟩, fun s hs hs2 hs4 => ?_⟩
    · unfold awT
      rw [gL, if_pos ⟨rfl, rfl, rfl, rfl⟩]
      show Int64.ofNat _ = Int64.ofNat (A.2.2.2.2.2.1 + 1 + A.2.2.2.2.2.2)
      congr 1
      omega
    · have hs2 : 2 ≤ va_up A.1 r st s := hs2
      have hs4 : va_up A.1 r st s ≤ 4 := hs4
      show (_ = nI (va_up A.2.2.2.2.1 r A.2.2.2.2.2.1 s) ∧ _ = Int64.ofNat (va_up A.2.2.2.2.1 r A.2.2.2.2.2.1 s + A.2.2.2.2.2.2) ∧ va_up A.2.2.2.2.1 r A.2.2.2.2.2.1 s < A.2.2.2.2.2.1 + 1) ∧ ∀ d, A.2.1 s = d + 1 → (va_up A.1 r st s = 2 → 2 ≤ (A.2.2.1 s d).2.2.1) ∧ (va_up A.1 r st s = 3 → _) ∧ (va_up A.1 r st s = 4 → _)
      by_cases c' : s = r
      · subst c'
        rw [va_up_self, va_up_self]
        refine ⟨⟨?_, ?_, by omega⟩, fun d hd => ?_⟩
        · unfold awS
          rw [siI_ne _ _ _ (by omega), siI_at]
        · unfold awT
          rw [gL, if_neg (by omega), gL, if_pos ⟨rfl, rfl, rfl, rfl⟩]
        · obtain ⟨q1, q2, q3⟩ := hc d hd
          refine ⟨q1, q2, fun z => ?_⟩
          obtain ⟨u1, u2, u3, u4, u5, p, u6, u7⟩ := q3 z
          refine ⟨c, u1, u2, ?_, u3, u4, u5, p, u6, fun k hk => by rw [(aS 31 p 1 (by omega)).1]; exact u7 k hk⟩
          unfold awS
          rw [siI_ne _ _ _ (by omega), gI, if_neg (by omega), siI_at]
      · rw [va_up_ne _ _ c'] at hs2 hs4 ⊢
        rw [va_up_ne _ _ c']
        obtain ⟨⟨q1, q2, q3⟩, q4⟩ := w3 s hs hs2 hs4
        refine ⟨⟨by rw [(aS 25 s 0 (by omega)).1]; exact q1, by rw [(aT 54 s 0 (by omega)).2]; exact q2, by omega⟩, fun d hd => ?_⟩
        obtain ⟨z1, z2, z3⟩ := q4 d hd
        refine ⟨z1, z2, fun z => ?_⟩
        obtain ⟨c, c1, c2, c3, c4, c5, c6, p, c7, c8⟩ := z3 z
        exact ⟨c, c1, c2, by rw [(aS 25 s 0 (by omega)).1]; exact c3, c4, c5, c6, p, c7, fun k hk => by rw [(aS 31 p 1 (by omega)).1]; exact c8 k hk⟩
  · obtain ⟨u1, u2, u3, u4, u5, u6, u7, u8⟩ := g8
    unfold scaR
    rw [y8 5 (by omega), y8 6 (by omega), y8 7 (by omega), (aS 11 0 0 (by omega)).1, (aS 23 0 0 (by omega)).1, y33]
    exact ⟨u1, u2, u3, u4, u5, u6, u7, u8⟩
/-! lining up and other names -/
theorem luS_I {s a q t' i' j' k' : Nat} {x : Int32} (h : t' ≠ 25) (h2 : t' ≠ 10) (h3 : t' ≠ 8) : luS (siI S t' i' j' k' x) s a q = siI (luS S s a q) t' i' j' k' x := by
  unfold luS
  rw [siI_comm S _ _ _ _ (by omega), siI_comm (siI S 25 s 0 4 (nI 1)) _ _ _ _ (by omega), siI_comm (siI (siI S 25 s 0 4 (nI 1)) 10 0 0 _ _) _ _ _ _ (by omega)]
theorem luS_L {s a q t' i' j' k' : Nat} {x : Int64} : luS (siL S t' i' j' k' x) s a q = siL (luS S s a q) t' i' j' k' x := rfl
theorem luS_p {s a q p' k' n' : Nat} {x : Int64} {g : Int32} : luS (rpush S p' k' n' x g) s a q = rpush (luS S s a q) p' k' n' x g := by
  unfold rpush
  rw [luS_I (by omega) (by omega) (by omega), luS_I (by omega) (by omega) (by omega), luS_L]
/-! a strand that waits gets a value and a flag: q operands are dropped -/
set_option maxHeartbeats 4000000 in
set_option linter.unusedSimpArgs false in
theorem wR.give (h : wR φ D F N P S T A) {s a q dd pp : Nat} (hs : s < 16) (hd : A.2.1 s = dd + 1) (hst : 1 ≤ A.1 s ∧ A.1 s ≤ 4) (ha : S.1 8 0 0 3 = nI a) (ha2 : a < 16) (hl : A.2.2.2.1.length < 16) (hp : S.2.2.1.1 s dd = some pp) (hq : q ≤ (A.2.2.1 s dd).2.2.1) (hq2 : (A.2.2.1 s dd).2.2.1 - q ≤ 14) {x v x2 : Int64} {g kk : Int32} (hv : vr φ D x g kk v) (he : (A.2.2.1 s dd).2.2.2.2 = 0 ∧ (A.2.2.1 s dd).2.1 < P.2.2.2.1 (A.2.2.1 s dd).1) :
    ∃ A', wR φ D F N P (luS (rpush (rpush (siI S 29 pp 1 2 (nI ((A.2.2.1 s dd).2.2.1 - q))) pp 1 ((A.2.2.1 s dd).2.2.1 - q) x g) pp 1 ((A.2.2.1 s dd).2.2.1 - q + 1) x2 (nI 0)) s a A.2.2.2.1.length) (mpu (mpu (siI (rdT T s A.2.2.2.1.length) 56 s dd 2 (nI ((A.2.2.1 s dd).2.2.1 - q))) s dd ((A.2.2.1 s dd).2.2.1 - q) kk v) s dd ((A.2.2.1 s dd).2.2.1 - q + 1) (nI 0) x2) A' ∧
      hk S (luS (rpush (rpush (siI S 29 pp 1 2 (nI ((A.2.2.1 s dd).2.2.1 - q))) pp 1 ((A.2.2.1 s dd).2.2.1 - q) x g) pp 1 ((A.2.2.1 s dd).2.2.1 - q + 1) x2 (nI 0)) s a A.2.2.2.1.length) ∧
      A'.1 s = 1 ∧ tpR P (A'.2.1 s) (A'.2.2.1 s) ∧ (∀ z, z ≠ s → A'.1 z = A.1 z ∧ A'.2.1 z = A.2.1 z ∧ A'.2.2.1 z = A.2.2.1 z) ∧ A'.2.2.2.1 = A.2.2.2.1 ++ [s] ∧ A'.2.2.2.2 = A.2.2.2.2 := by
  obtain ⟨w1, k1⟩ := h.line hs (by omega) hst ha ha2 hl
  have R := w1.2.1 s hs
  obtain ⟨pp', hp', fr⟩ := R.fr (d := dd) (show dd < A.2.1 s by omega)
  have epp : pp' = pp := by
    have : S.2.2.1.1 s dd = some pp' := hp'
    rw [hp] at this
    exact (Option.some.inj this).symm
  subst epp
  generalize hfd : A.2.2.1 s dd = fd at hq hq2 he
  obtain ⟨f, pc, n, m, e⟩ := fd
  dsimp only at hq hq2 he ⊢
  have fr : frR φ D F P (luS S s a A.2.2.2.1.length) pp' (rdT T s A.2.2.2.1.length) s dd f pc n m e (dfb (A.2.2.1 s) dd) := by
    have fr2 : frR φ D F P (luS S s a A.2.2.2.1.length) pp' (rdT T s A.2.2.2.1.length) s dd (A.2.2.1 s dd).1 (A.2.2.1 s dd).2.1 (A.2.2.1 s dd).2.2.1 (A.2.2.1 s dd).2.2.2.1 (A.2.2.1 s dd).2.2.2.2 (dfb (A.2.2.1 s) dd) := fr
    rw [hfd] at fr2
    exact fr2
  have fr3 := ((fr.drop q).push (by omega) hv).push (x := x2) (g := nI 0) (k := nI 0) (v := x2) (by omega) (Or.inl ⟨rfl, rfl, rfl⟩)
  have aS3 : agr (fun t i j => 27 ≤ t ∧ t ≤ 31 ∧ i = pp' ∧ j < 4) (luS S s a A.2.2.2.1.length) (rpush (rpush (siI (luS S s a A.2.2.2.1.length) 29 pp' 1 2 (nI (n - q))) pp' 1 (n - q) x g) pp' 1 (n - q + 1) x2 (nI 0)) := ((dr_ag _ _ _).trans (rp_ag _ _ _ _ _)).trans (rp_ag _ _ _ _ _)
  have aT3 : agr (fun t i j => (56 ≤ t ∧ t ≤ 63 ∧ i = s ∧ j = dd) ∨ (46 ≤ t ∧ t ≤ 50)) (rdT T s A.2.2.2.1.length) (mpu (mpu (siI (rdT T s A.2.2.2.1.length) 56 s dd 2 (nI (n - q))) s dd (n - q) kk v) s dd (n - q + 1) (nI 0) x2) := ((agr.i (agr.refl _ _) _ _ (by omega)).trans (mu_ag _ _ _ _ _ _)).trans (mu_ag _ _ _ _ _ _)
  obtain ⟨w2, k2, m2, ow2⟩ := w1.frm (r := s) (d := dd) (p := pp') hs (va_up_self _ _ _) hd hp' aS3 rfl aT3 rfl fr3
  have eS : luS (rpush (rpush (siI S 29 pp' 1 2 (nI (n - q))) pp' 1 (n - q) x g) pp' 1 (n - q + 1) x2 (nI 0)) s a A.2.2.2.1.length = rpush (rpush (siI (luS S s a A.2.2.2.1.length) 29 pp' 1 2 (nI (n - q))) pp' 1 (n - q) x g) pp' 1 (n - q + 1) x2 (nI 0) := by
    rw [luS_p, luS_p, luS_I (by omega) (by omega) (by omega)]
  rw [eS]
  refine ⟨_, w2, k1.trans k2.hk, aset_1 _ _ _ _ _, ?_, fun z hz => ⟨?_, ?_, ?_⟩, rfl, rfl⟩
  · rw [aset_2, aset_3]
    intro y hy
    have : y = dd := by omega
    subst this
    rw [fset_at]
    exact he
  · rw [aset_1n _ _ _ _ hz]
    exact va_up_ne _ _ hz
  · rw [aset_2n _ _ _ _ hz]
  · rw [aset_3n _ _ _ _ hz]
end GIV
