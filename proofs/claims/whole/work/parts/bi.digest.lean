/-! digest: both walk alike. -/
section DIG
variable {φ φ' : Nat → Nat} {D D' : Nat → Prop} {F N : Nat} {P P' : aP} {S S' S0 S1 S2 T T' T0 T1 : sS} {A : aS} {r s d p f pc n m e b k y g q o F' N' lo : Nat} {G : jG} {t j : Nat} {a : Int32} {ml : List Nat} {st : List (Nat × Nat)}
def szO (S : sS) (h : Nat) : Nat := match S.2.2.1.2 h with
  | none => 0
  | some p => (S.1 29 p 4 2).toNatClampNeg
def dgR (φ : Nat → Nat) (D : Nat → Prop) (S0 T0 S T : sS) (ml : List Nat) (st : List (Nat × Nat)) : Prop :=
  (agr (fun t _ _ => 18 ≤ t ∧ t ≤ 21) S0 S ∧ S.2.2 = S0.2.2) ∧
  ((∀ t i j, t ≠ 49 → t ≠ 50 → t ≠ 51 → T.1 t i j = T0.1 t i j) ∧ T.2 = T0.2 ∧ ∀ i j q, q ≠ 3 → T.1 51 i j q = T0.1 51 i j q) ∧
  (ml.Nodup ∧ (∀ h, h ∈ ml → D h) ∧ S.1 18 0 0 5 = nI ml.length) ∧
  (∀ h, D h → ∃ m, S.1 19 0 0 h = nI m ∧ m ≤ 600 ∧ (m = 0 ↔ h ∉ ml) ∧ (m = 0 → T.1 51 (φ h) 0 3 = -1) ∧ (m ≠ 0 → T.1 51 (φ h) 0 3 = nI m)) ∧
  (S.1 18 0 0 4 = nI st.length ∧ (∀ d x, st[d]? = some x → (S.1 20 0 0 d = nI x.1 ∧ S.1 21 0 0 d = nI x.2 ∧ T.1 49 0 0 d = nI (φ x.1) ∧ T.1 50 0 0 d = nI x.2) ∧ x.1 ∈ ml ∧ x.2 ≤ szO S0 x.1) ∧ (st.map Prod.fst).Nodup)
theorem siL_tw (S : sS) (t i j k : Nat) (x x' : Int64) : siL (siL S t i j k x) t i j k x' = siL S t i j k x' := by
  refine Prod.ext rfl (Prod.ext (funext fun t' => funext fun i' => funext fun j' => funext fun k' => ?_) rfl)
  rw [gL, gL, gL]
  by_cases c : t' = t ∧ i' = i ∧ j' = j ∧ k' = k
  · rw [if_pos c, if_pos c]
  · rw [if_neg c, if_neg c, if_neg c]
theorem e_59 {v : Int64} : F_59 G t v S = some ((), siL S 18 0 0 6 (31 * S.2.1 18 0 0 6 + v)) := rfl
theorem dgR.sum (R : dgR φ D S0 T0 S T ml st) (v : Int64) : dgR φ D S0 T0 (siL S 18 0 0 6 v) T ml st := by
  obtain ⟨⟨a1, a2⟩, b, c, d, e⟩ := R
  exact ⟨⟨agr.l a1 _ _ (by omega), a2⟩, b, c, d, e⟩
/-! an object's kind and size, on both sides -/
set_option maxHeartbeats 4000000 in
set_option linter.unusedSimpArgs false in
theorem obR.dg {h : Nat} (R : dgR φ D S0 T0 S T ml st) (o : obR φ D S0 T0 h) : ∃ p k w, S.2.2.1.2 h = some p ∧ S.2.2.2.1.2 p = true ∧ S.1 32 p 0 1 = nI k ∧ (k = 2 ∨ k = 3) ∧ S.1 29 p 4 2 = nI w ∧ w ≤ 16 ∧ szO S0 h = w ∧ T.1 51 (φ h) 0 0 = nI k ∧ (k = 2 → T.1 51 (φ h) 0 1 = nI w) ∧ (k = 3 → T.1 51 (φ h) 0 2 = nI w) ∧ ∀ i, i < w → vr φ D (S.2.1 30 p 4 i) (S.1 31 p 4 i) (T.1 52 (φ h) 0 i) (T.2.1 53 (φ h) 0 i) := by
  obtain ⟨⟨a1, a2⟩, ⟨b1, b2, b3⟩, _⟩ := R
  obtain ⟨p, k, z, w, c, c1, c2, ⟨c3, c4, c5⟩, ⟨c6, c7, c8, c9⟩, ⟨c10, c11, c12, c13⟩, _, _, vv⟩ := o
  refine ⟨p, k, w, by rw [a2]; exact c1, by rw [a2]; exact c2, by rw [(a1 32 p 0 (by omega)).1]; exact c3, c5, by rw [(a1 29 p 4 (by omega)).1]; exact c10, by omega, ?_, by rw [b3 _ _ 0 (by omega)]; exact c4, fun hk => ?_, fun hk => by rw [b3 _ _ 2 (by omega)]; exact c11 hk, fun i hi => ?_⟩
  · unfold szO
    rw [c1]
    dsimp only
    rw [c10, nI_clamp (by omega)]
  · rw [b3 _ _ 1 (by omega), c7, c13 hk]
  · rw [(a1 30 p 4 (by omega)).2, (a1 31 p 4 (by omega)).1, b1 52 _ _ (by omega) (by omega) (by omega), b2]
    exact vv i hi
/-! the class adds a value -/
set_option maxHeartbeats 4000000 in
set_option linter.unusedSimpArgs false in
theorem e60n {x : Int64} {sz i : Nat} (hr : rwS S p k sz) (hi : i < sz) (hs : sz ≤ 16) (hx : S.2.1 30 p k i = x) (hg : S.1 31 p k i = nI 0) : F_60 G t (p, k) (nI i) S = some ((), siL S 18 0 0 6 (31 * S.2.1 18 0 0 6 + x)) := by
  have e27 := f_27 (G := G) (t := t) hr hi
  have e26 := f_26 (G := G) (t := t) hr hi
  rw [hg] at e27
  unfold F_60
  show jif (srx S.2.2.2.1 p k) _ = _
  rw [jif_true hr.1, e27, bdS]
  dsimp only
  rw [f_58n (by omega), bdS]
  dsimp only
  rw [sifN, show jcmp .ne (nI 0) (nI 1) = true from by decide, cond_true, jif_true (show sex S.2.2.2.1 29 p k = true from hr.1), e26, bdS, hx]
  rfl
set_option maxHeartbeats 4000000 in
set_option linter.unusedSimpArgs false in
theorem e60z {sz i : Nat} (hr : rwS S p k sz) (hi : i < sz) (hg : S.1 31 p k i = nI 1) : F_60 G t (p, k) (nI i) S = some ((), siL S 18 0 0 6 (31 * S.2.1 18 0 0 6 + 1)) := by
  have e27 := f_27 (G := G) (t := t) hr hi
  rw [hg] at e27
  unfold F_60
  show jif (srx S.2.2.2.1 p k) _ = _
  rw [jif_true hr.1, e27, bdS]
  dsimp only
  rw [f_58n (by omega), bdS]
  rfl
set_option maxHeartbeats 4000000 in
set_option linter.unusedSimpArgs false in
theorem e60m {sz i h p1 mm : Nat} (hr : rwS S p k sz) (hi : i < sz) (hg : S.1 31 p k i = nI (h + 2)) (hh : h < 600) (hp : S.2.2.1.2 h = some p1) (hm : S.1 19 0 0 h = nI mm) (hm0 : mm ≠ 0) (hm6 : mm ≤ 600) : F_60 G t (p, k) (nI i) S = some ((), siL S 18 0 0 6 (31 * (31 * S.2.1 18 0 0 6 + 2) + Int64.ofNat mm)) := by
  have e27 := f_27 (G := G) (t := t) hr hi
  rw [hg] at e27
  have es : nI (h + 2) - nI 2 = nI h := by rw [nIs (by omega)]; rfl
  unfold F_60
  show jif (srx S.2.2.2.1 p k) _ = _
  rw [jif_true hr.1, e27, bdS]
  dsimp only
  rw [f_58o hh, hp, bdS]
  show jif (jin (nI (h + 2) - nI 2) 600) _ = _
  rw [es, jif_true (jin_N (by omega) (by omega)), nI_clamp (by omega), hm]
  rw [show jcmp .le (nI mm) 0 = false from by
    show jcmp .le (nI mm) (nI 0) = false
    rw [jcLE (by omega) (by omega)]; exact decide_eq_false (by omega)]
  rw [cond_false, e_59, bdS]
  dsimp only
  rw [jif_true (jin_N (by omega) (by omega)), gL1, hm, e_59, bdS, l64 (by omega), gL, if_pos ⟨rfl, rfl, rfl, rfl⟩, siL_tw]
/-! an object met for the first time -/
def nwD (S : sS) (h c L : Nat) (s : Int64) : sS := siI (siI (siI (siL (siI (siI S 18 0 0 5 (nI (c + 1))) 19 0 0 h (nI (c + 1))) 18 0 0 6 s) 20 0 0 L (nI h)) 21 0 0 L (nI 0)) 18 0 0 4 (nI (L + 1))
set_option maxHeartbeats 4000000 in
set_option linter.unusedSimpArgs false in
theorem e60o {sz i h p1 c L kk w : Nat} (hr : rwS S p k sz) (hi : i < sz) (hg : S.1 31 p k i = nI (h + 2)) (hh : h < 600) (hp : S.2.2.1.2 h = some p1) (hM : S.2.2.2.1.2 p1 = true) (hm : S.1 19 0 0 h = nI 0) (h5 : S.1 18 0 0 5 = nI c) (hk : S.1 32 p1 0 1 = nI kk) (hk2 : kk = 2 ∨ kk = 3) (hw : S.1 29 p1 4 2 = nI w) (hw2 : w ≤ 16) (h4 : S.1 18 0 0 4 = nI L) (hL : L < 600) : F_60 G t (p, k) (nI i) S = some ((), nwD S h c L (31 * (31 * S.2.1 18 0 0 6 + Int64.ofNat (kk + 1)) + Int64.ofNat w)) := by
  have e27 := f_27 (G := G) (t := t) hr hi
  rw [hg] at e27
  have es : nI (h + 2) - nI 2 = nI h := by rw [nIs (by omega)]; rfl
  have e117 : ∀ v : Int64, F_60_117 G t (p1, 0) (nI h) v (siI (siI S 18 0 0 5 (nI (c + 1))) 19 0 0 h (nI (c + 1))) = some ((), nwD S h c L (31 * (31 * S.2.1 18 0 0 6 + v) + Int64.ofNat w)) := fun v => by
    have lw := l64 (n := w) (by omega)
    unfold F_60_117 nwD
    clear e27 hr
    simp (disch := first | assumption | omega) only [gI, gI2, gL, gL1, gL2, jcLT, jcGE, jcGT, jcLE, jcEQ, jcNE, dEQ, nIt, lgNE, lgEQ, lgGE, lgLT, lgGT, lgLE, jinT, nIc, nI0, nI1, nIo, nIs, nI_add, nIm, nIn0, szl0, szl1, szl2, szl3, szl4, szl5, Nat.add_sub_assoc, Nat.add_zero, Nat.reduceSub, Nat.reduceAdd, Nat.reduceMul, Nat.reduceEqDiff,  jifT, bdS, sifN, sifS, omN, omS, cdI, x25, x26, x27, x28, x29, x30, x31, x32, xr0, xr1, xr2, xr3, xr4, xr5, if_pos, if_neg, true_and, and_true, false_and, and_false, and_self, Bool.and_true, if_true, if_false, reduceIte, cond_true, cond_false, not_true_eq_false, not_false_eq_true, F_59, hM, hw, h4, lw, siL_tw]
  unfold F_60
  show jif (srx S.2.2.2.1 p k) _ = _
  rw [jif_true hr.1, e27, bdS]
  dsimp only
  rw [f_58o hh, hp, bdS]
  dsimp only
  rw [show (some p1).map (fun p => (p, 0)) = some (p1, 0) from rfl, sifS]
  dsimp only
  rw [es, jif_true (jin_N (by omega) (by omega)), nI_clamp (by omega), hm, show jcmp .le (nI 0) 0 = true from by decide, cond_true, jif_true (jin_N (by omega) (by omega)), h5, nI_add]
  have k32 : (siI (siI S 18 0 0 5 (nI (c + 1))) 19 0 0 h ((siI S 18 0 0 5 (nI (c + 1))).1 18 0 0 5)).1 32 p1 0 1 = nI kk := by
    rw [siI_ne _ _ _ (by omega), siI_ne _ _ _ (by omega)]; exact hk
  rw [jif_true (show sex (siI (siI S 18 0 0 5 (nI (c + 1))) 19 0 0 h ((siI S 18 0 0 5 (nI (c + 1))).1 18 0 0 5)).2.2.2.1 32 p1 0 = true by rw [x32]; show (S.2.2.2.1.2 p1 && true) = true; rw [hM]; rfl), k32, siI_at]
  rcases hk2 with rfl | rfl
  · rw [show jcmp .ne (nI 2) (nI 2) = false from by decide, cond_false]
    exact e117 3
  · rw [show jcmp .ne (nI 3) (nI 2) = true from by decide, cond_true]
    exact e117 4
end DIG
