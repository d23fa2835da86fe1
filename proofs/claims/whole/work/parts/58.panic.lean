/-! A panic and a return, for the whole of both sides. -/
theorem ms_le {φ : Nat → Nat} {D : Nat → Prop} {F : Nat} {P : aP} {S T : sS} {s st dp : Nat} {fs : aFs} (R : stR φ D F P S T s st dp fs) : ∀ k, k ≤ dp → ms fs k ≤ 7 * k := by
  intro k
  induction k with
  | zero => intro _; exact Nat.le_refl _
  | succ k ih =>
    intro h
    obtain ⟨p, _, fr⟩ := R.fr (d := k) (by omega)
    have := fr.2.2.2.2.1.2.2.1
    have := ih (by omega)
    show ms fs k + (fs k).2.2.2.1 + 1 ≤ _
    omega
theorem prS.of {S T : sS} {F N : Nat} {P : aP} (h : pgR S T F N P) (w : whR F P) : prS S F P := by
  obtain ⟨⟨a1, a2, a3⟩, _, a4, _⟩ := h
  refine ⟨a1, a3, fun g hg => ?_⟩
  obtain ⟨⟨b1, b2, b3, b4⟩, ⟨b5, b6, b7⟩, _⟩ := a4 g hg
  obtain ⟨⟨l, hl, _⟩, _⟩ := w g hg
  exact ⟨b1, b5, b4, b7, by omega, b3⟩
section PAN
variable {φ : Nat → Nat} {D : Nat → Prop} {F N : Nat} {P : aP} {S T : sS} {A : aS} {r : Nat} {G : jG} {t : Nat}
set_option maxHeartbeats 4000000 in
set_option linter.unusedSimpArgs false in
theorem e_81 {d p e : Nat} {x : Int64} {g : Int32} (hr : r < 16) (h3 : S.1 25 r 0 3 = nI (d + 1)) (hd : d < 30) (hp : S.2.2.1.1 r d = some p) (hM : S.2.2.2.1.1 p = true) : F_81 G t (r, 0) (nI e) x g S = F_81_23 G t t (r, 0) (nI 0) (endS S p e x g) := by
  have e1 := f_79 (G := G) (t := t) (e := e) (x := x) (g := g) hM
  unfold F_81
  simp (disch := first | assumption | omega) only [gI, gI2, gL, gL1, gL2, jcLT, jcGE, jcGT, jcLE, jcEQ, jcNE, dEQ, nIt, lgNE, lgEQ, lgGE, lgLT, lgGT, lgLE, jinT, nIc, nI0, nI1, nIo, nIs, nI_add, nIm, nIn0, szl0, szl1, szl2, szl3, szl4, szl5, Nat.add_sub_assoc, Nat.add_zero, Nat.reduceSub, Nat.reduceAdd, Nat.reduceMul, Nat.reduceEqDiff,  jifT, bdS, sifN, sifS, omN, omS, cdI, x25, x26, x27, x28, x29, x30, x31, x32, xr0, xr1, xr2, xr3, xr4, xr5, if_pos, if_neg, true_and, and_true, false_and, and_false, and_self, Bool.and_true, if_true, if_false, reduceIte, cond_true, cond_false, not_true_eq_false, not_false_eq_true, F_66, h3, hp, hM, e1, F_81_20]
set_option maxHeartbeats 4000000 in
set_option linter.unusedSimpArgs false in
theorem e_155 {d : Nat} {x : Int64} (hr : r < 16) (h3 : T.1 54 r 0 1 = nI (d + 1)) (hd : d < 30) : F_155 G t (r, 0) x T = F_154_0 G t t (r, 0) (siL (siI T 56 r d 4 (nI 2)) 56 r d 6 x) := by
  unfold F_155
  simp (disch := first | assumption | omega) only [gI, gI2, gL, gL1, gL2, jcLT, jcGE, jcGT, jcLE, jcEQ, jcNE, dEQ, nIt, lgNE, lgEQ, lgGE, lgLT, lgGT, lgLE, jinT, nIc, nI0, nI1, nIo, nIs, nI_add, nIm, nIn0, szl0, szl1, szl2, szl3, szl4, szl5, Nat.add_sub_assoc, Nat.add_zero, Nat.reduceSub, Nat.reduceAdd, Nat.reduceMul, Nat.reduceEqDiff,  jifT, bdS, sifN, sifS, omN, omS, cdI, x25, x26, x27, x28, x29, x30, x31, x32, xr0, xr1, xr2, xr3, xr4, xr5, if_pos, if_neg, true_and, and_true, false_and, and_false, and_self, Bool.and_true, if_true, if_false, reduceIte, cond_true, cond_false, not_true_eq_false, not_false_eq_true, x51, x52, x53, x54, x55, x56, x57, x58, x59, x60, x61, x62, x63, F_151, h3, F_154]
  cases F_154_0 G t t (r, 0) (siL (siI T 56 r d 4 (nI 2)) 56 r d 6 x) with
  | none => rfl
  | some q => rfl
/-! what is left when a frame ended -/
def pnR (φ : Nat → Nat) (D : Nat → Prop) (F N : Nat) (P : aP) (S T S' T' : sS) (A : aS) (r : Nat) : Prop := ∃ st' dp' fs', wR φ D F N P S' T' (aset A r st' dp' fs') ∧ tpR P dp' fs' ∧ (st' = 1 ∧ 0 < dp' ∨ 5 ≤ st') ∧ kp S S' r ∧ km T T' r ∧ ∀ x, rmR S x → rmR S' x
set_option maxHeartbeats 4000000 in
set_option linter.unusedSimpArgs false in
theorem wR.ended (ht : 1000 < t) (h : wR φ D F N P S T A) (w : whR F P) (hr : r < 16) {d p : Nat} (h1 : A.1 r = 1) (hd : A.2.1 r = d + 1) (hp : S.2.2.1.1 r d = some p) {S1 T1 : sS} (aS : agr (fun t i j => 27 ≤ t ∧ t ≤ 31 ∧ i = p ∧ j < 4) S S1) (hX : S1.2.2 = S.2.2)
    (aT : agr (fun t i j => (56 ≤ t ∧ t ≤ 63 ∧ i = r ∧ j = d) ∨ (46 ≤ t ∧ t ≤ 50)) T T1) (hT : T1.2.2 = T.2.2) {f pc n m e : Nat} (fr : frR φ D F P S1 p T1 r d f pc n m e (dfb (A.2.2.1 r) d)) (he : e ≠ 0) :
    ∃ S' T', F_81_23 G t t (r, 0) (nI 0) S1 = some ((), S') ∧ F_154_0 G t t (r, 0) T1 = some ((), T') ∧ pnR φ D F N P S T S' T' A r := by
  obtain ⟨w1, k1, m1, ow1⟩ := h.frm hr h1 hd hp aS hX aT hT fr
  have R := w1.2.1 r hr
  rw [aset_1, aset_2, aset_3] at R
  have hdp := R.2.2.1.2.2
  obtain ⟨S', T', st', dp', fs', r1, r2, r3, r4, r5, r6, r7, r8, r9⟩ := fin (G := G) (t := t) ht hr (by omega) 210 S1 T1 (d + 1) _ 0 t t (by have := ms_le R (d + 1) (Nat.le_refl _); omega) (by omega) (by omega) (by omega) ow1 (prS.of w1.1.1 w) (by omega) R (fun y hy z => by
    have : y = d := by omega
    subst this
    rw [fset_at] at z
    exact absurd z he)
  have w2 := w1.one hr r8 r9.km r6 r3 (by omega)
  have ea : aset (aset A r 1 (d + 1) (fset (A.2.2.1 r) d (f, pc, n, m, e))) r st' dp' fs' = aset A r st' dp' fs' := by
    unfold aset
    refine Prod.ext (funext fun y => ?_) (Prod.ext (funext fun y => ?_) (Prod.ext (funext fun y => ?_) rfl))
    all_goals
      by_cases c : y = r
      · subst c; simp only [va_up_self]
      · simp only [va_up_ne _ _ c]
  rw [ea] at w2
  exact ⟨S', T', r1, r2, st', dp', fs', w2, r4, r5, k1.trans r8, m1.trans r9.km, fun x hx => r7 x (hx.same hX)⟩
/-! a panic by number x after k operands are dropped -/
theorem wR.panic (ht : 1000 < t) (h : wR φ D F N P S T A) (w : whR F P) (hr : r < 16) {d p : Nat} (h1 : A.1 r = 1) (hd : A.2.1 r = d + 1) (hp : S.2.2.1.1 r d = some p) {S1 T1 : sS} (aS : agr (fun t i j => 27 ≤ t ∧ t ≤ 31 ∧ i = p ∧ j < 4) S S1) (hX : S1.2.2 = S.2.2)
    (aT : agr (fun t i j => (56 ≤ t ∧ t ≤ 63 ∧ i = r ∧ j = d) ∨ (46 ≤ t ∧ t ≤ 50)) T T1) (hT : T1.2.2 = T.2.2) {f pc n m e : Nat} (fr : frR φ D F P S1 p T1 r d f pc n m e (dfb (A.2.2.1 r) d)) (x : Int64) :
    ∃ S' T', F_81 G t (r, 0) (nI 2) x (nI 0) S1 = some ((), S') ∧ F_155 G t (r, 0) x T1 = some ((), T') ∧ pnR φ D F N P S T S' T' A r := by
  have R := h.2.1 r hr
  rw [h1, hd] at R
  have hd30 := R.2.2.1.2.2
  obtain ⟨S', T', q1, q2, q3⟩ := h.ended (G := G) ht w hr h1 hd hp (S1 := endS S1 p 2 x (nI 0)) (T1 := siL (siI T1 56 r d 4 (nI 2)) 56 r d 6 x) (aS.trans (endS_ag _ _ _ _ _)) hX (agr.l (agr.i aT _ _ (by omega)) _ _ (by omega)) hT (fr.end2 x) (by omega)
  refine ⟨S', T', ?_, ?_, q3⟩
  · rw [e_81 (d := d) (p := p) hr (by rw [(aS 25 r 0 (by omega)).1]; exact R.2.2.1.1) (by omega) (by rw [hX]; exact hp) fr.1]
    exact q1
  · rw [e_155 (d := d) hr (by rw [(aT 54 r 0 (by omega)).1]; exact R.2.2.1.2.1) (by omega)]
    exact q2
end PAN
