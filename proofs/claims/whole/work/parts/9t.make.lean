/-! The class makes an object. -/
section MAK
variable {φ φ' : Nat → Nat} {D D' : Nat → Prop} {F N : Nat} {P : aP} {S S' T T' : sS} {A : aS} {r s d p f pc n m e b k y : Nat} {G : jG} {t j : Nat} {kd cl : Nat → Nat} {fl : List Nat}
set_option maxHeartbeats 4000000 in
set_option linter.unusedSimpArgs false in
theorem f_82 {z : Nat} (hk : k = 2 ∨ k = 3) : F_82 G t (nI k) (nI z) S = some (nI (k + z), S) := by
  unfold F_82
  rcases hk with rfl | rfl
  · simp (disch := first | assumption | omega) only [gI, gI2, gL, gL1, gL2, jcLT, jcGE, jcGT, jcLE, jcEQ, jcNE, dEQ, nIt, lgNE, lgEQ, lgGE, lgLT, lgGT, lgLE, jinT, nIc, nI0, nI1, nIo, nIs, nI_add, nIm, nIn0, szl0, szl1, szl2, szl3, szl4, szl5, Nat.add_sub_assoc, Nat.add_zero, Nat.reduceSub, Nat.reduceAdd, Nat.reduceMul, Nat.reduceEqDiff,  jifT, bdS, sifN, sifS, omN, omS, cdI, x25, x26, x27, x28, x29, x30, x31, x32, xr0, xr1, xr2, xr3, xr4, xr5, if_pos, if_neg, true_and, and_true, false_and, and_false, and_self, Bool.and_true, if_true, if_false, reduceIte, cond_true, cond_false, not_true_eq_false, not_false_eq_true]
  · simp (disch := first | assumption | omega) only [gI, gI2, gL, gL1, gL2, jcLT, jcGE, jcGT, jcLE, jcEQ, jcNE, dEQ, nIt, lgNE, lgEQ, lgGE, lgLT, lgGT, lgLE, jinT, nIc, nI0, nI1, nIo, nIs, nI_add, nIm, nIn0, szl0, szl1, szl2, szl3, szl4, szl5, Nat.add_sub_assoc, Nat.add_zero, Nat.reduceSub, Nat.reduceAdd, Nat.reduceMul, Nat.reduceEqDiff,  jifT, bdS, sifN, sifS, omN, omS, cdI, x25, x26, x27, x28, x29, x30, x31, x32, xr0, xr1, xr2, xr3, xr4, xr5, if_pos, if_neg, true_and, and_true, false_and, and_false, and_self, Bool.and_true, if_true, if_false, reduceIte, cond_true, cond_false, not_true_eq_false, not_false_eq_true]
set_option maxHeartbeats 4000000 in
set_option linter.unusedSimpArgs false in
theorem f_83 {z U L : Nat} (h9 : S.1 11 0 0 9 = nI U) (hU : U ≤ 1200) (h7 : S.1 11 0 0 7 = nI L) (hL : L ≤ 600) (hk : k = 2 ∨ k = 3) (hz : z ≤ 16) : F_83 G t (nI k) (nI z) S = some (nI (if U + (k + z) ≤ 1200 ∧ 0 < L then 1 else 0), S) := by
  unfold F_83
  rw [f_82 hk, bdS]
  dsimp only
  rw [h9, nI_add, h7]
  by_cases c : U + (k + z) ≤ 1200
  · by_cases c2 : 0 < L
    · rw [if_pos ⟨c, c2⟩]
      simp (disch := first | assumption | omega) only [gI, gI2, gL, gL1, gL2, jcLT, jcGE, jcGT, jcLE, jcEQ, jcNE, dEQ, nIt, lgNE, lgEQ, lgGE, lgLT, lgGT, lgLE, jinT, nIc, nI0, nI1, nIo, nIs, nI_add, nIm, nIn0, szl0, szl1, szl2, szl3, szl4, szl5, Nat.add_sub_assoc, Nat.add_zero, Nat.reduceSub, Nat.reduceAdd, Nat.reduceMul, Nat.reduceEqDiff,  jifT, bdS, sifN, sifS, omN, omS, cdI, x25, x26, x27, x28, x29, x30, x31, x32, xr0, xr1, xr2, xr3, xr4, xr5, if_pos, if_neg, true_and, and_true, false_and, and_false, and_self, Bool.and_true, if_true, if_false, reduceIte, cond_true, cond_false, not_true_eq_false, not_false_eq_true]
    · rw [if_neg (fun q => c2 q.2)]
      simp (disch := first | assumption | omega) only [gI, gI2, gL, gL1, gL2, jcLT, jcGE, jcGT, jcLE, jcEQ, jcNE, dEQ, nIt, lgNE, lgEQ, lgGE, lgLT, lgGT, lgLE, jinT, nIc, nI0, nI1, nIo, nIs, nI_add, nIm, nIn0, szl0, szl1, szl2, szl3, szl4, szl5, Nat.add_sub_assoc, Nat.add_zero, Nat.reduceSub, Nat.reduceAdd, Nat.reduceMul, Nat.reduceEqDiff,  jifT, bdS, sifN, sifS, omN, omS, cdI, x25, x26, x27, x28, x29, x30, x31, x32, xr0, xr1, xr2, xr3, xr4, xr5, if_pos, if_neg, true_and, and_true, false_and, and_false, and_self, Bool.and_true, if_true, if_false, reduceIte, cond_true, cond_false, not_true_eq_false, not_false_eq_true]
  · rw [if_neg (fun q => c q.1)]
    simp (disch := first | assumption | omega) only [gI, gI2, gL, gL1, gL2, jcLT, jcGE, jcGT, jcLE, jcEQ, jcNE, dEQ, nIt, lgNE, lgEQ, lgGE, lgLT, lgGT, lgLE, jinT, nIc, nI0, nI1, nIo, nIs, nI_add, nIm, nIn0, szl0, szl1, szl2, szl3, szl4, szl5, Nat.add_sub_assoc, Nat.add_zero, Nat.reduceSub, Nat.reduceAdd, Nat.reduceMul, Nat.reduceEqDiff,  jifT, bdS, sifN, sifS, omN, omS, cdI, x25, x26, x27, x28, x29, x30, x31, x32, xr0, xr1, xr2, xr3, xr4, xr5, if_pos, if_neg, true_and, and_true, false_and, and_false, and_self, Bool.and_true, if_true, if_false, reduceIte, cond_true, cond_false, not_true_eq_false, not_false_eq_true]
def becS (S : sS) (p k z w : Nat) : sS := rz (siI (siI (siI (siI (siI S 32 p 0 1 (nI k)) 32 p 0 2 (nI z)) 32 p 0 3 (nI (k + z))) 32 p 0 4 (nI 0)) 29 p 4 2 (nI w)) p 4 w
theorem becS_2 (z w : Nat) : (becS S p k z w).2.2 = S.2.2 := rz_2 _ _ _ _
theorem becS_ag (z w : Nat) : agr (fun t i j => (t = 32 ∧ i = p) ∨ (29 ≤ t ∧ t ≤ 31 ∧ i = p ∧ j = 4)) S (becS S p k z w) := by
  intro t i j h
  unfold becS
  rw [rz_I _ _ _ (by omega), rz_L _ _ _ (by omega)]
  exact agr.i (agr.i (agr.i (agr.i (agr.i (agr.refl (fun t i j => (t = 32 ∧ i = p) ∨ (29 ≤ t ∧ t ≤ 31 ∧ i = p ∧ j = 4)) _) _ _ (by omega)) _ _ (by omega)) _ _ (by omega)) _ _ (by omega)) _ _ (by omega) t i j h
set_option maxHeartbeats 4000000 in
set_option linter.unusedSimpArgs false in
theorem becS_32 (z w q : Nat) : (becS S p k z w).1 32 p 0 q = if q = 1 then nI k else if q = 2 then nI z else if q = 3 then nI (k + z) else if q = 4 then nI 0 else S.1 32 p 0 q := by
  unfold becS
  rw [rz_I _ _ _ (by omega), siI_ne _ _ _ (by omega), gI, gI, gI, gI]
  by_cases c1 : q = 1
  · subst c1; simp
  · by_cases c2 : q = 2
    · subst c2; simp
    · by_cases c3 : q = 3
      · subst c3; simp
      · by_cases c4 : q = 4
        · subst c4; simp
        · simp [c1, c2, c3, c4]
theorem becS_29 (z w : Nat) : (becS S p k z w).1 29 p 4 2 = nI w := by
  unfold becS
  rw [rz_I _ _ _ (by omega), siI_at]
set_option maxHeartbeats 4000000 in
set_option linter.unusedSimpArgs false in
theorem f_85 {z : Nat} (hk : k = 2 ∨ k = 3) (hz : z ≤ 16) (hM : S.2.2.2.1.2 p = true) (ht : 100 < t) : F_85 G t (p, 0) (nI k) (nI z) S = some ((), becS S p k z (if k = 2 then z else 0)) := by
  have e3 : ∀ w, w ≤ 16 → ∀ S0 : sS, S0.2.2.2.1.2 p = true → F_3 G t (p, 4) (nI w) S0 = some ((), rz (siI S0 29 p 4 2 (nI w)) p 4 w) := fun w hw S0 h0 => f_3 (xr4 h0) hw (by omega)
  unfold F_85
  rcases hk with rfl | rfl
  · rw [if_pos rfl]
    simp (disch := first | assumption | omega) only [gI, gI2, gL, gL1, gL2, jcLT, jcGE, jcGT, jcLE, jcEQ, jcNE, dEQ, nIt, lgNE, lgEQ, lgGE, lgLT, lgGT, lgLE, jinT, nIc, nI0, nI1, nIo, nIs, nI_add, nIm, nIn0, szl0, szl1, szl2, szl3, szl4, szl5, Nat.add_sub_assoc, Nat.add_zero, Nat.reduceSub, Nat.reduceAdd, Nat.reduceMul, Nat.reduceEqDiff,  jifT, bdS, sifN, sifS, omN, omS, cdI, x25, x26, x27, x28, x29, x30, x31, x32, xr0, xr1, xr2, xr3, xr4, xr5, if_pos, if_neg, true_and, and_true, false_and, and_false, and_self, Bool.and_true, if_true, if_false, reduceIte, cond_true, cond_false, not_true_eq_false, not_false_eq_true, F_82, F_85_38, hM]
    rw [e3 z hz (siI (siI (siI (siI S 32 p 0 1 (nI 2)) 32 p 0 2 (nI z)) 32 p 0 3 (nI (2 + z))) 32 p 0 4 (nI 0)) hM]
    rfl
  · rw [if_neg (by omega)]
    simp (disch := first | assumption | omega) only [gI, gI2, gL, gL1, gL2, jcLT, jcGE, jcGT, jcLE, jcEQ, jcNE, dEQ, nIt, lgNE, lgEQ, lgGE, lgLT, lgGT, lgLE, jinT, nIc, nI0, nI1, nIo, nIs, nI_add, nIm, nIn0, szl0, szl1, szl2, szl3, szl4, szl5, Nat.add_sub_assoc, Nat.add_zero, Nat.reduceSub, Nat.reduceAdd, Nat.reduceMul, Nat.reduceEqDiff,  jifT, bdS, sifN, sifS, omN, omS, cdI, x25, x26, x27, x28, x29, x30, x31, x32, xr0, xr1, xr2, xr3, xr4, xr5, if_pos, if_neg, true_and, and_true, false_and, and_false, and_self, Bool.and_true, if_true, if_false, reduceIte, cond_true, cond_false, not_true_eq_false, not_false_eq_true, F_82, F_85_38, hM]
    rw [e3 0 (by omega) (siI (siI (siI (siI S 32 p 0 1 (nI 3)) 32 p 0 2 (nI z)) 32 p 0 3 (nI (3 + z))) 32 p 0 4 (nI 0)) hM]
    rfl
def mkS (S : sS) (x p k z w c U O M : Nat) (v : Int32) : sS := siI (siI (siI (siI (siI (becS S p k z w) 16 0 0 x (nI c)) 11 0 0 9 (nI (U + (k + z)))) 11 0 0 13 v) 11 0 0 8 (nI (O + 1))) 11 0 0 10 (S.1 11 0 0 10 + nI 1)
set_option maxHeartbeats 4000000 in
set_option linter.unusedSimpArgs false in
theorem e8661 {z x ro sw U O M : Nat} (hk : k = 2 ∨ k = 3) (hz : z ≤ 16) (hx : x < 600) (hM : S.2.2.2.1.2 p = true) (ht : 100 < t) (h11 : S.1 11 0 0 11 = nI ro) (hro : ro ≤ 2) (h12 : S.1 11 0 0 12 = nI sw) (hsw : sw ≤ 600) (h9 : S.1 11 0 0 9 = nI U) (hU : U ≤ 1200) (h8 : S.1 11 0 0 8 = nI O) (hO : O ≤ 600) :
    ∃ v, F_86_61 G t (nI k) (nI z) (nI x) (p, 0) S = some (nI (x + 2), mkS S x p k z (if k = 2 then z else 0) (if ro = 1 ∨ (ro = 2 ∧ sw ≤ x) then 2 else 0) U O M v) := by
  refine ⟨(becS S p k z (if k = 2 then z else 0)).1 11 0 0 13 + nI (k + z), ?_⟩
  have e := f_85 (G := G) (t := t) hk hz hM ht
  generalize hw : (if k = 2 then z else 0) = w at e ⊢
  have b11 : (becS S p k z w).1 11 0 0 = S.1 11 0 0 := (becS_ag z w 11 0 0 (by omega)).1
  have b32 : (becS S p k z w).1 32 p 0 3 = nI (k + z) := by rw [becS_32]; rfl
  have b2 := becS_2 (S := S) (p := p) (k := k) z w
  have hM' : (becS S p k z w).2.2.2.1.2 p = true := by rw [b2]; exact hM
  rw [← b11] at h11 h12 h9 h8
  unfold F_86_61 mkS
  rw [← b11]
  generalize becS S p k z w = B at *
  clear b11 b2 hw
  by_cases c1 : ro = 1
  · subst c1
    rw [if_pos (Or.inl rfl)]
    simp (disch := first | assumption | omega) only [gI, gI2, gL, gL1, gL2, jcLT, jcGE, jcGT, jcLE, jcEQ, jcNE, dEQ, nIt, lgNE, lgEQ, lgGE, lgLT, lgGT, lgLE, jinT, nIc, nI0, nI1, nIo, nIs, nI_add, nIm, nIn0, szl0, szl1, szl2, szl3, szl4, szl5, Nat.add_sub_assoc, Nat.add_zero, Nat.reduceSub, Nat.reduceAdd, Nat.reduceMul, Nat.reduceEqDiff,  jifT, bdS, sifN, sifS, omN, omS, cdI, x25, x26, x27, x28, x29, x30, x31, x32, xr0, xr1, xr2, xr3, xr4, xr5, if_pos, if_neg, true_and, and_true, false_and, and_false, and_self, Bool.and_true, if_true, if_false, reduceIte, cond_true, cond_false, not_true_eq_false, not_false_eq_true, e, hM, F_86_92, F_86_97, F_86_117, hM', h11, h12, h9, h8, b32]
    rfl
  · by_cases c2 : ro = 2
    · subst c2
      by_cases c3 : sw ≤ x
      · rw [if_pos (Or.inr ⟨rfl, c3⟩)]
        simp (disch := first | assumption | omega) only [gI, gI2, gL, gL1, gL2, jcLT, jcGE, jcGT, jcLE, jcEQ, jcNE, dEQ, nIt, lgNE, lgEQ, lgGE, lgLT, lgGT, lgLE, jinT, nIc, nI0, nI1, nIo, nIs, nI_add, nIm, nIn0, szl0, szl1, szl2, szl3, szl4, szl5, Nat.add_sub_assoc, Nat.add_zero, Nat.reduceSub, Nat.reduceAdd, Nat.reduceMul, Nat.reduceEqDiff,  jifT, bdS, sifN, sifS, omN, omS, cdI, x25, x26, x27, x28, x29, x30, x31, x32, xr0, xr1, xr2, xr3, xr4, xr5, if_pos, if_neg, true_and, and_true, false_and, and_false, and_self, Bool.and_true, if_true, if_false, reduceIte, cond_true, cond_false, not_true_eq_false, not_false_eq_true, e, hM, F_86_92, F_86_97, F_86_117, hM', h11, h12, h9, h8, b32]
        rfl
      · rw [if_neg (by omega)]
        simp (disch := first | assumption | omega) only [gI, gI2, gL, gL1, gL2, jcLT, jcGE, jcGT, jcLE, jcEQ, jcNE, dEQ, nIt, lgNE, lgEQ, lgGE, lgLT, lgGT, lgLE, jinT, nIc, nI0, nI1, nIo, nIs, nI_add, nIm, nIn0, szl0, szl1, szl2, szl3, szl4, szl5, Nat.add_sub_assoc, Nat.add_zero, Nat.reduceSub, Nat.reduceAdd, Nat.reduceMul, Nat.reduceEqDiff,  jifT, bdS, sifN, sifS, omN, omS, cdI, x25, x26, x27, x28, x29, x30, x31, x32, xr0, xr1, xr2, xr3, xr4, xr5, if_pos, if_neg, true_and, and_true, false_and, and_false, and_self, Bool.and_true, if_true, if_false, reduceIte, cond_true, cond_false, not_true_eq_false, not_false_eq_true, e, hM, F_86_96, F_86_97, F_86_117, hM', h11, h12, h9, h8, b32]
        rfl
    · rw [if_neg (by omega)]
      simp (disch := first | assumption | omega) only [gI, gI2, gL, gL1, gL2, jcLT, jcGE, jcGT, jcLE, jcEQ, jcNE, dEQ, nIt, lgNE, lgEQ, lgGE, lgLT, lgGT, lgLE, jinT, nIc, nI0, nI1, nIo, nIs, nI_add, nIm, nIn0, szl0, szl1, szl2, szl3, szl4, szl5, Nat.add_sub_assoc, Nat.add_zero, Nat.reduceSub, Nat.reduceAdd, Nat.reduceMul, Nat.reduceEqDiff,  jifT, bdS, sifN, sifS, omN, omS, cdI, x25, x26, x27, x28, x29, x30, x31, x32, xr0, xr1, xr2, xr3, xr4, xr5, if_pos, if_neg, true_and, and_true, false_and, and_false, and_self, Bool.and_true, if_true, if_false, reduceIte, cond_true, cond_false, not_true_eq_false, not_false_eq_true, e, hM, F_86_96, F_86_97, F_86_117, hM', h11, h12, h9, h8, b32]
      rfl
/-! a new thing in its place -/
def nhT (S : sS) (x : Nat) : sS := ssT (snT S) x S.2.2.2.2.1
theorem nhT_ag (S : sS) (x : Nat) : agr (fun t i _ => 27 ≤ t ∧ t ≤ 32 ∧ i = S.2.2.2.2.1) S (nhT S x) := fun t i j h => snZ_old' (by omega)
theorem nhT_M (S : sS) (x q : Nat) : (nhT S x).2.2.2.1.2 q = true ↔ q = S.2.2.2.2.1 ∨ S.2.2.2.1.2 q = true := by
  show (Nat.beq q S.2.2.2.2.1 || S.2.2.2.1.2 q) = true ↔ _
  rw [Bool.or_eq_true]
  exact ⟨fun z => z.elim (fun y => Or.inl (Nat.eq_of_beq_eq_true y)) Or.inr, fun z => z.elim (fun y => Or.inl (by rw [y]; exact Nat.beq_refl _)) Or.inr⟩
theorem nhT_own {x : Nat} (h : own S) (hx : x < 600) (h0 : S.2.2.1.2 x = none) : own (nhT S x) := by
  have mk := nhT_M S x
  obtain ⟨a1, a2, a3, a4, a5, a6, a7⟩ := h
  refine ⟨a1, a2, fun y p hp => ?_, fun y y' p h1 h2 => ?_, fun p hp => ?_, fun p hp => ?_, Nat.lt_of_lt_of_le a7 (Nat.le_add_right _ 4)⟩
  · have hp' : va_up S.2.2.1.2 x (some S.2.2.2.2.1) y = some p := hp
    by_cases c : y = x
    · subst c
      rw [va_up_self] at hp'
      cases hp'
      exact ⟨hx, (mk _).mpr (Or.inl rfl)⟩
    · rw [va_up_ne _ _ c] at hp'
      exact ⟨(a3 y p hp').1, (mk _).mpr (Or.inr (a3 y p hp').2)⟩
  · have h1' : va_up S.2.2.1.2 x (some S.2.2.2.2.1) y = some p := h1
    have h2' : va_up S.2.2.1.2 x (some S.2.2.2.2.1) y' = some p := h2
    by_cases c : y = x
    · by_cases c' : y' = x
      · omega
      · rw [va_up_ne _ _ c'] at h2'
        rw [c, va_up_self] at h1'
        cases h1'
        have := (a6 _ (a3 _ _ h2').2).1
        omega
    · rw [va_up_ne _ _ c] at h1'
      by_cases c' : y' = x
      · rw [c', va_up_self] at h2'
        cases h2'
        have := (a6 _ (a3 _ _ h1').2).1
        omega
      · rw [va_up_ne _ _ c'] at h2'
        exact a4 _ _ _ h1' h2'
  · have hp' : S.2.2.2.1.1 p = true := hp
    have := a5 p hp'
    refine ⟨⟨Nat.lt_of_lt_of_le this.1.1 (Nat.le_add_right _ 4), this.1.2⟩, ?_⟩
    cases z : (nhT S x).2.2.2.1.2 p with
    | false => rfl
    | true =>
      rcases (mk p).mp z with e | e
      · omega
      · rw [this.2] at e; cases e
  · show p < S.2.2.2.2.1 + 4 ∧ 0 < p
    rcases (mk p).mp hp with e | e
    · omega
    · have := a6 p e
      omega
theorem nhT_rm {x y : Nat} (h : rmR S y) (hx : x < 600) (h0 : S.2.2.1.2 x = none) : rmR (nhT S x) y := by
  have e : cT (nhT S x).2.2.1.2 = cT S.2.2.1.2 + 1 := cnt_one 600 x _ _ hx h0 (by
    show (va_up S.2.2.1.2 x (some S.2.2.2.2.1) x).isSome = true
    rw [va_up_self]
    rfl) (fun q hq => va_up_ne _ _ hq)
  unfold rmR at h ⊢
  rw [e]
  show S.2.2.2.2.2.1 + 4 = 7857 + 14 * cF S.2.2.1.1 + 4 * (cT S.2.2.1.2 + 1) + y ∧ S.2.2.2.2.2.2 + 40 ≤ 200000 + 96 * cF S.2.2.1.1 + 40 * (cT S.2.2.1.2 + 1) + 6 * y
  omega
/-! what making an object leaves: x where, p its place, c its colour -/
def mkR (S S' : sS) (x p k z w c U O L : Nat) : Prop :=
  (S'.2.2.1.1 = S.2.2.1.1 ∧ S'.2.2.1.2 x = some p ∧ (∀ y, y ≠ x → S'.2.2.1.2 y = S.2.2.1.2 y) ∧ S'.2.2.2.1.1 = S.2.2.2.1.1 ∧ S'.2.2.2.1.2 p = true ∧ ∀ q, S.2.2.2.1.2 q = true → S'.2.2.2.1.2 q = true) ∧
  ((∀ y, y ≠ x → S.2.2.1.2 y ≠ some p) ∧ (∀ s d, S.2.2.1.1 s d ≠ some p) ∧ p ≠ 0) ∧
  agr (fun t i j => t = 11 ∨ (t = 16 ∧ i = 0 ∧ j = 0) ∨ (27 ≤ t ∧ t ≤ 32 ∧ i = p)) S S' ∧
  (S'.1 11 0 0 7 = nI L ∧ S'.1 11 0 0 8 = nI (O + 1) ∧ S'.1 11 0 0 9 = nI (U + (k + z)) ∧ S'.1 11 0 0 10 = S.1 11 0 0 10 + nI 1 ∧ S'.1 11 0 0 11 = S.1 11 0 0 11 ∧ S'.1 11 0 0 12 = S.1 11 0 0 12) ∧
  (S'.1 16 0 0 x = nI c ∧ ∀ y, y ≠ x → S'.1 16 0 0 y = S.1 16 0 0 y) ∧
  (S'.1 32 p 0 1 = nI k ∧ S'.1 32 p 0 2 = nI z ∧ S'.1 32 p 0 3 = nI (k + z) ∧ S'.1 32 p 0 4 = nI 0 ∧ S'.1 29 p 4 2 = nI w) ∧
  (∀ i, i < w → S'.2.1 30 p 4 i = 0 ∧ S'.1 31 p 4 i = nI 0) ∧
  own S' ∧ ∀ y, rmR S y → rmR S' y
set_option maxHeartbeats 4000000 in
set_option linter.unusedSimpArgs false in
theorem mkS_r {B : sS} {x z w c U O L M : Nat} {v : Int32} (hB : (B.2.2.1.1 = S.2.2.1.1 ∧ B.2.2.1.2 x = some p ∧ (∀ y, y ≠ x → B.2.2.1.2 y = S.2.2.1.2 y) ∧ B.2.2.2.1.1 = S.2.2.2.1.1 ∧ B.2.2.2.1.2 p = true ∧ ∀ q, S.2.2.2.1.2 q = true → B.2.2.2.1.2 q = true))
    (hp : (∀ y, y ≠ x → S.2.2.1.2 y ≠ some p) ∧ (∀ s d, S.2.2.1.1 s d ≠ some p) ∧ p ≠ 0) (ag : agr (fun t i j => t = 11 ∨ (27 ≤ t ∧ t ≤ 32 ∧ i = p)) S B) (h11 : ∀ q, B.1 11 0 0 q = if q = 7 then nI L else S.1 11 0 0 q) (ow : own B) (rm : ∀ y, rmR S y → rmR B y) : mkR S (mkS B x p k z w c U O M v) x p k z w c U O L := by
  have a1 := becS_ag (S := B) (p := p) (k := k) z w
  have a2 := becS_2 (S := B) (p := p) (k := k) z w
  have a11 := (a1 11 0 0 (by omega)).1
  have e2 : (mkS B x p k z w c U O M v).2.2 = B.2.2 := a2
  have a3 : agr (fun t i j => t = 11 ∨ (t = 16 ∧ i = 0 ∧ j = 0)) (becS B p k z w) (mkS B x p k z w c U O M v) := by
    unfold mkS
    exact agr.i (agr.i (agr.i (agr.i (agr.i (agr.refl _ _) _ _ (by omega)) _ _ (by omega)) _ _ (by omega)) _ _ (by omega)) _ _ (by omega)
  refine ⟨by rw [e2]; exact hB, hp, ?_, ⟨?_, ?_, ?_, ?_, ?_, ?_⟩, ⟨?_, fun y hy => ?_⟩, ⟨?_, ?_, ?_, ?_, ?_⟩, fun i hi => ?_, ow.same e2, fun y hy => (rm y hy).same e2⟩
  · exact (ag.mono (fun t i j z => by omega)).trans ((a1.mono (fun t i j z => by omega)).trans (a3.mono (fun t i j z => by omega)))
  · unfold mkS
    simp only [gI]
    rw [a11]
    simp [h11]
  · unfold mkS
    simp only [gI]
    simp
  · unfold mkS
    simp only [gI]
    simp
  · unfold mkS
    simp only [gI]
    simp [h11]
  · unfold mkS
    simp only [gI]
    rw [a11]
    simp [h11]
  · unfold mkS
    simp only [gI]
    rw [a11]
    simp [h11]
  · unfold mkS
    simp only [gI]
    simp
  · unfold mkS
    simp only [gI]
    simp only [hy]
    rw [(a1 16 0 0 (by omega)).1, (ag 16 0 0 (by omega)).1]
    simp
  · rw [(a3 32 p 0 (by omega)).1, becS_32]; rfl
  · rw [(a3 32 p 0 (by omega)).1, becS_32]; rfl
  · rw [(a3 32 p 0 (by omega)).1, becS_32]; rfl
  · rw [(a3 32 p 0 (by omega)).1, becS_32]; rfl
  · rw [(a3 29 p 4 (by omega)).1, becS_29]
  · rw [(a3 30 p 4 (by omega)).2, (a3 31 p 4 (by omega)).1]
    unfold becS
    rw [rz_num _ _ _ _ _ hi, rz_tag _ _ _ _ _ hi]
    exact ⟨rfl, rfl⟩
theorem obC_le (kd : Nat → Nat) (n : Nat) : obC kd n ≤ n := by
  induction n with
  | zero => exact Nat.le_refl _
  | succ n ih =>
    rw [obC_s]
    by_cases c : kd n = 0
    · rw [if_pos c]; omega
    · rw [if_neg c]; omega
set_option maxHeartbeats 4000000 in
set_option linter.unusedSimpArgs false in
theorem f_86 {z ro sw : Nat} (H : hpR S kd cl fl) (ow : own S) (hk : k = 2 ∨ k = 3) (hz : z ≤ 16) (ht : 100 < t) (h11 : S.1 11 0 0 11 = nI ro) (hro : ro ≤ 2) (h12 : S.1 11 0 0 12 = nI sw) (hsw : sw ≤ 600) (hU : usC kd cl 600 + (k + z) ≤ 1200) (hfl : fl ≠ []) :
    ∃ x fl' p S', fl = fl' ++ [x] ∧ x < 600 ∧ kd x = 0 ∧ F_86 G t (nI k) (nI z) S = some (nI (x + 2), S') ∧ mkR S S' x p k z (if k = 2 then z else 0) (if ro = 1 ∨ (ro = 2 ∧ sw ≤ x) then 2 else 0) (usC kd cl 600) (obC kd 600) fl'.length := by
  obtain ⟨h1, ⟨f1, f2, f3, f4⟩, ⟨g1, g2, g3⟩⟩ := H
  rcases List.eq_nil_or_concat fl with c | ⟨fl', x, e0⟩
  · exact absurd c hfl
  · rw [List.concat_eq_append] at e0
    subst e0
    have hx := (f4 x).mp (List.mem_append.mpr (Or.inr (List.mem_singleton.mpr rfl)))
    have hl : fl'.length < 600 := by
      have := nd_len 600 (fl' ++ [x]) f3 (fun y hy => ((f4 y).mp hy).1)
      rw [List.length_append, List.length_singleton] at this
      omega
    have e13 : S.1 13 0 0 fl'.length = nI x := f2 _ _ (by rw [List.getElem?_append_right (Nat.le_refl _), Nat.sub_self]; rfl)
    rw [List.length_append, List.length_singleton] at f1
    have e83 := f_83 (G := G) (t := t) (z := z) g2 g3 f1 (by omega) hk hz
    rw [if_pos ⟨hU, by omega⟩] at e83
    have hO := obC_le kd 600
    obtain ⟨hx6, hx0⟩ := hx
    have T0 := h1 x hx6
    rw [hx0] at T0
    generalize hu : usC kd cl 600 = U at *
    generalize ho : obC kd 600 = O at *
    generalize hL : fl'.length = L at *
    have s11 : ∀ q, (siI S 11 0 0 7 (nI L)).1 11 0 0 q = if q = 7 then nI L else S.1 11 0 0 q := fun q => by
      rw [gI]
      simp
    rcases hh : S.2.2.1.2 x with _ | p
    · obtain ⟨v, e⟩ := e8661 (G := G) (t := t) (S := nhT (siI S 11 0 0 7 (nI L)) x) (p := S.2.2.2.2.1) (k := k) (z := z) (x := x) (ro := ro) (sw := sw) (U := U) (O := O) (M := 0) hk hz hx6 ((nhT_M _ _ _).mpr (Or.inl rfl)) ht (by
        rw [(nhT_ag _ x 11 0 0 (by omega)).1, s11]; exact h11) hro (by
        rw [(nhT_ag _ x 11 0 0 (by omega)).1, s11]; exact h12) hsw (by
        rw [(nhT_ag _ x 11 0 0 (by omega)).1, s11]; exact g2) g3 (by
        rw [(nhT_ag _ x 11 0 0 (by omega)).1, s11]; exact g1) hO
      refine ⟨x, fl', S.2.2.2.2.1, _, rfl, hx6, hx0, ?_, mkS_r (S := S) (B := nhT (siI S 11 0 0 7 (nI L)) x) (M := 0) (v := v) ⟨rfl, va_up_self _ _ _, fun y hy => va_up_ne _ _ hy, rfl, (nhT_M _ _ _).mpr (Or.inl rfl), fun q hq => (nhT_M _ _ _).mpr (Or.inr hq)⟩ ⟨fun y hy z => ?_, fun s d z => ?_, ?_⟩ ?_ (fun q => ?_) (nhT_own (ow.same rfl) hx6 hh) (fun y hy => nhT_rm (hy.same rfl) hx6 hh)⟩
      · clear h1 f2 f3 f4 T0 ow s11
        unfold F_86
        simp (disch := first | assumption | omega) only [gI, gI2, gL, gL1, gL2, jcLT, jcGE, jcGT, jcLE, jcEQ, jcNE, dEQ, nIt, lgNE, lgEQ, lgGE, lgLT, lgGT, lgLE, jinT, nIc, nI0, nI1, nIo, nIs, nI_add, nIm, nIn0, szl0, szl1, szl2, szl3, szl4, szl5, Nat.add_sub_assoc, Nat.add_zero, Nat.reduceSub, Nat.reduceAdd, Nat.reduceMul, Nat.reduceEqDiff,  jifT, bdS, sifN, sifS, omN, omS, cdI, x25, x26, x27, x28, x29, x30, x31, x32, xr0, xr1, xr2, xr3, xr4, xr5, if_pos, if_neg, true_and, and_true, false_and, and_false, and_self, Bool.and_true, if_true, if_false, reduceIte, cond_true, cond_false, not_true_eq_false, not_false_eq_true, e83, f1, e13, hh, Option.map_none]
        rw [jif_true (show (snT (siI S 11 0 0 7 (nI L))).2.2.2.1.2 S.2.2.2.2.1 = true from (nhT_M (siI S 11 0 0 7 (nI L)) x S.2.2.2.2.1).mpr (Or.inl rfl))]
        exact e
      · have := ow.2.2.2.2.2.1 _ (ow.2.2.1 y _ z).2
        omega
      · have := (ow.2.2.2.2.1 _ (ow.1 s d _ z).2.2).1
        omega
      · have := ow.2.2.2.2.2.2
        omega
      · exact (agr.i (agr.refl _ _) _ _ (by omega)).trans ((nhT_ag (siI S 11 0 0 7 (nI L)) x).mono (fun t i j z => by
          have z' : 27 ≤ t ∧ t ≤ 32 ∧ i = S.2.2.2.2.1 := z
          omega))
      · rw [(nhT_ag _ x 11 0 0 (by omega)).1, s11, hL]
    · have hM := (ow.2.2.1 x p hh).2
      obtain ⟨v, e⟩ := e8661 (G := G) (t := t) (S := siI S 11 0 0 7 (nI L)) (p := p) (k := k) (z := z) (x := x) (ro := ro) (sw := sw) (U := U) (O := O) (M := 0) hk hz hx6 hM ht (by rw [s11]; exact h11) hro (by rw [s11]; exact h12) hsw (by rw [s11]; exact g2) g3 (by rw [s11]; exact g1) hO
      refine ⟨x, fl', p, _, rfl, hx6, hx0, ?_, mkS_r (S := S) (B := siI S 11 0 0 7 (nI L)) (M := 0) (v := v) ⟨rfl, hh, fun y hy => rfl, rfl, hM, fun q hq => hq⟩ ⟨fun y hy z => hy (ow.2.2.2.1 y x p z hh), fun s d z => ?_, ?_⟩ ?_ (by rw [hL]; exact s11) (ow.same rfl) (fun y hy => hy.same rfl)⟩
      · clear h1 f2 f3 f4 T0 ow s11
        unfold F_86
        simp (disch := first | assumption | omega) only [gI, gI2, gL, gL1, gL2, jcLT, jcGE, jcGT, jcLE, jcEQ, jcNE, dEQ, nIt, lgNE, lgEQ, lgGE, lgLT, lgGT, lgLE, jinT, nIc, nI0, nI1, nIo, nIs, nI_add, nIm, nIn0, szl0, szl1, szl2, szl3, szl4, szl5, Nat.add_sub_assoc, Nat.add_zero, Nat.reduceSub, Nat.reduceAdd, Nat.reduceMul, Nat.reduceEqDiff,  jifT, bdS, sifN, sifS, omN, omS, cdI, x25, x26, x27, x28, x29, x30, x31, x32, xr0, xr1, xr2, xr3, xr4, xr5, if_pos, if_neg, true_and, and_true, false_and, and_false, and_self, Bool.and_true, if_true, if_false, reduceIte, cond_true, cond_false, not_true_eq_false, not_false_eq_true, e83, f1, e13, hh, Option.map_some]
        exact e
      · have := (ow.2.2.2.2.1 _ (ow.1 s d _ z).2.2).2
        rw [hM] at this
        cases this
      · have := (ow.2.2.2.2.2.1 p hM).2
        omega
      · exact agr.i (agr.refl _ _) _ _ (by omega)
end MAK
