/-! check: nothing is found wrong. -/
section CHK
variable {φ φ' : Nat → Nat} {D D' : Nat → Prop} {F N : Nat} {P P' : aP} {S S' S1 S2 T T' T1 : sS} {A : aS} {r s d p f pc n m e b k y g q o F' N' lo : Nat} {G : jG} {t j : Nat} {a : Int32} {kd cl co : Nat → Nat} {fl gl : List Nat}
set_option maxHeartbeats 4000000 in
set_option linter.unusedSimpArgs false in
theorem e40_10 {v : Int32} (hf7 : S.1 11 0 0 7 = nI fl.length) (h13 : ∀ (i x : Nat), fl[i]? = some x → S.1 13 0 0 i = nI x) (nd : fl.Nodup) (h6 : ∀ x, x ∈ fl → x < 600) (hl : fl.length ≤ 600) : ∀ w i tt S1, i + w = fl.length → w < tt → agr (fun t a b => t = 14) S S1 → S1.2 = S.2 → (∀ h, h < 600 → S1.1 14 0 0 h = nI (if h ∈ fl.take i then 1 else 0)) →
    ∃ S', F_40_10 G t tt (nI i) S1 = F_40_45 G t t (nI 0) (nI 0) (nI 0) S' ∧ agr (fun t a b => t = 14) S S' ∧ S'.2 = S.2 ∧ ∀ h, h < 600 → S'.1 14 0 0 h = nI (if h ∈ fl then 1 else 0) := by
  intro w
  induction w with
  | zero =>
    intro i tt S1 h1 h2 ag hX hc
    obtain ⟨u, rfl⟩ : ∃ u, tt = u + 1 := ⟨tt - 1, by omega⟩
    have : i = fl.length := by omega
    subst this
    refine ⟨S1, ?_, ag, hX, fun h hh => ?_⟩
    · have e7 : S1.1 11 0 0 7 = nI fl.length := by rw [(ag 11 0 0 (by omega)).1]; exact hf7
      rw [F_40_10]
      clear hc h13 h6 ag
      simp (disch := first | assumption | omega) only [gI, gI2, gL, gL1, gL2, jcLT, jcGE, jcGT, jcLE, jcEQ, jcNE, dEQ, nIt, lgNE, lgEQ, lgGE, lgLT, lgGT, lgLE, jinT, nIc, nI0, nI1, nIo, nIs, nI_add, nIm, nIn0, szl0, szl1, szl2, szl3, szl4, szl5, Nat.add_sub_assoc, Nat.add_zero, Nat.reduceSub, Nat.reduceAdd, Nat.reduceMul, Nat.reduceEqDiff,  jifT, bdS, sifN, sifS, omN, omS, cdI, x25, x26, x27, x28, x29, x30, x31, x32, xr0, xr1, xr2, xr3, xr4, xr5, if_pos, if_neg, true_and, and_true, false_and, and_false, and_self, Bool.and_true, if_true, if_false, reduceIte, cond_true, cond_false, not_true_eq_false, not_false_eq_true, e7]
    · have := hc h hh
      rw [List.take_length] at this
      exact this
  | succ w ih =>
    intro i tt S1 h1 h2 ag hX hc
    obtain ⟨u, rfl⟩ : ∃ u, tt = u + 1 := ⟨tt - 1, by omega⟩
    have hi : i < fl.length := by omega
    have hx : fl[i]? = some fl[i] := List.getElem?_eq_getElem hi
    generalize fl[i] = x at hx
    have hxm : x ∈ fl := List.mem_of_getElem? hx
    have x6 := h6 x hxm
    have e13 : S1.1 13 0 0 i = nI x := by rw [(ag 13 0 0 (by omega)).1]; exact h13 i x hx
    have e7 : S1.1 11 0 0 7 = nI fl.length := by rw [(ag 11 0 0 (by omega)).1]; exact hf7
    have tk : fl.take (i + 1) = fl.take i ++ [x] := by rw [List.take_add_one, hx]; rfl
    have nx : x ∉ fl.take i := fun z => by
      obtain ⟨i', z1⟩ := List.mem_iff_getElem?.mp z
      rw [List.getElem?_take] at z1
      by_cases c : i' < i
      · rw [if_pos c] at z1
        have := (List.getElem?_inj (show i' < fl.length by omega) nd).mp (z1.trans hx.symm)
        omega
      · rw [if_neg c] at z1
        cases z1
    have e14 : S1.1 14 0 0 x = nI 0 := by rw [hc x x6, if_neg nx]
    obtain ⟨S', x1, x2, x3, x4⟩ := ih (i + 1) u (siI S1 14 0 0 x (nI 1)) (by omega) (by omega) (agr.i ag _ _ rfl) hX (fun h hh => by
      rw [gI, tk]
      by_cases c : h = x
      · subst c
        rw [if_pos ⟨rfl, rfl, rfl, rfl⟩, if_pos (List.mem_append.mpr (Or.inr (List.mem_singleton.mpr rfl)))]
      · rw [if_neg (fun z => c z.2.2.2), hc h hh]
        by_cases c2 : h ∈ fl.take i
        · rw [if_pos c2, if_pos (List.mem_append.mpr (Or.inl c2))]
        · rw [if_neg c2, if_neg (fun z => by
            rcases List.mem_append.mp z with z | z
            · exact c2 z
            · exact c (List.mem_singleton.mp z))])
    refine ⟨S', ?_, x2, x3, x4⟩
    rw [← x1, F_40_10]
    clear ih x1 x2 x4 hc h13 h6 ag tk nx hx hxm nd
    simp (disch := first | assumption | omega) only [gI, gI2, gL, gL1, gL2, jcLT, jcGE, jcGT, jcLE, jcEQ, jcNE, dEQ, nIt, lgNE, lgEQ, lgGE, lgLT, lgGT, lgLE, jinT, nIc, nI0, nI1, nIo, nIs, nI_add, nIm, nIn0, szl0, szl1, szl2, szl3, szl4, szl5, Nat.add_sub_assoc, Nat.add_zero, Nat.reduceSub, Nat.reduceAdd, Nat.reduceMul, Nat.reduceEqDiff,  jifT, bdS, sifN, sifS, omN, omS, cdI, x25, x26, x27, x28, x29, x30, x31, x32, xr0, xr1, xr2, xr3, xr4, xr5, if_pos, if_neg, true_and, and_true, false_and, and_false, and_self, Bool.and_true, if_true, if_false, reduceIte, cond_true, cond_false, not_true_eq_false, not_false_eq_true, e7, e13, e14]
set_option maxHeartbeats 4000000 in
set_option linter.unusedSimpArgs false in
theorem e40_45 (H : hpR S kd cl fl) (hc1 : ∀ h, h < 600 → S.1 16 0 1 h = nI (co h) ∧ (co h ≠ 0 → kd h ≠ 0)) : ∀ w i tt S1, i + w = 600 → w < tt → agr (fun t a b => t = 14) S S1 → S1.2 = S.2 → (∀ h, i ≤ h → h < 600 → S1.1 14 0 0 h = nI (if kd h = 0 then 1 else 0)) →
    ∃ S', F_40_45 G t tt (nI 0) (nI (usC kd cl i)) (nI i) S1 = some (nI 0, S') ∧ agr (fun t a b => t = 14) S S' ∧ S'.2 = S.2 := by
  intro w
  induction w with
  | zero =>
    intro i tt S1 h1 h2 ag hX hc
    obtain ⟨u, rfl⟩ : ∃ u, tt = u + 1 := ⟨tt - 1, by omega⟩
    have : i = 600 := by omega
    subst this
    refine ⟨S1, ?_, ag, hX⟩
    have e9 : S1.1 11 0 0 9 = nI (usC kd cl 600) := by rw [(ag 11 0 0 (by omega)).1]; exact H.2.2.2.1
    have u6 := H.2.2.2.2
    generalize usC kd cl 600 = U at e9 u6 ⊢
    rw [F_40_45]
    clear hc ag H hc1
    simp (disch := first | assumption | omega) only [gI, gI2, gL, gL1, gL2, jcLT, jcGE, jcGT, jcLE, jcEQ, jcNE, dEQ, nIt, lgNE, lgEQ, lgGE, lgLT, lgGT, lgLE, jinT, nIc, nI0, nI1, nIo, nIs, nI_add, nIm, nIn0, szl0, szl1, szl2, szl3, szl4, szl5, Nat.add_sub_assoc, Nat.add_zero, Nat.reduceSub, Nat.reduceAdd, Nat.reduceMul, Nat.reduceEqDiff,  jifT, bdS, sifN, sifS, omN, omS, cdI, x25, x26, x27, x28, x29, x30, x31, x32, xr0, xr1, xr2, xr3, xr4, xr5, if_pos, if_neg, true_and, and_true, false_and, and_false, and_self, Bool.and_true, if_true, if_false, reduceIte, cond_true, cond_false, not_true_eq_false, not_false_eq_true, e9]
  | succ w ih =>
    intro i tt S1 h1 h2 ag hX hc
    obtain ⟨u, rfl⟩ : ∃ u, tt = u + 1 := ⟨tt - 1, by omega⟩
    have hi : i < 600 := by omega
    have e14 := hc i (by omega) hi
    obtain ⟨c16, cw⟩ := hc1 i hi
    have e16 : S1.1 16 0 1 i = nI (co i) := by rw [(ag 16 0 1 (by omega)).1]; exact c16
    have um := usC_s kd cl i
    by_cases k0 : kd i = 0
    · rw [if_pos k0] at e14 um
      have c0 : co i = 0 := Classical.byContradiction (fun z => cw z k0)
      rw [c0] at e16
      obtain ⟨S', x1, x2, x3⟩ := ih (i + 1) u S1 (by omega) (by omega) ag hX (fun h z z' => hc h (by omega) z')
      refine ⟨S', ?_, x2, x3⟩
      rw [← x1, um, Nat.add_zero, F_40_45]
      rcases H.1 i hi with ⟨z, _⟩ | ⟨p, z1, z2, z3, _⟩
      · have z' : S1.2.2.1.2 i = none := by rw [hX]; exact z
        clear ih x1 x2 hc ag H hc1 um
        simp (disch := first | assumption | omega) only [gI, gI2, gL, gL1, gL2, jcLT, jcGE, jcGT, jcLE, jcEQ, jcNE, dEQ, nIt, lgNE, lgEQ, lgGE, lgLT, lgGT, lgLE, jinT, nIc, nI0, nI1, nIo, nIs, nI_add, nIm, nIn0, szl0, szl1, szl2, szl3, szl4, szl5, Nat.add_sub_assoc, Nat.add_zero, Nat.reduceSub, Nat.reduceAdd, Nat.reduceMul, Nat.reduceEqDiff,  jifT, bdS, sifN, sifS, omN, omS, cdI, x25, x26, x27, x28, x29, x30, x31, x32, xr0, xr1, xr2, xr3, xr4, xr5, if_pos, if_neg, true_and, and_true, false_and, and_false, and_self, Bool.and_true, if_true, if_false, reduceIte, cond_true, cond_false, not_true_eq_false, not_false_eq_true, z', Option.map_none, F_40_94, e16, F_40_109, e14, F_40_122]
      · have z1' : S1.2.2.1.2 i = some p := by rw [hX]; exact z1
        have z2' : S1.2.2.2.1.2 p = true := by rw [hX]; exact z2
        have z3' : S1.1 32 p 0 1 = nI 0 := by rw [(ag 32 p 0 (by omega)).1, z3, k0]
        clear ih x1 x2 hc ag H hc1 um
        simp (disch := first | assumption | omega) only [gI, gI2, gL, gL1, gL2, jcLT, jcGE, jcGT, jcLE, jcEQ, jcNE, dEQ, nIt, lgNE, lgEQ, lgGE, lgLT, lgGT, lgLE, jinT, nIc, nI0, nI1, nIo, nIs, nI_add, nIm, nIn0, szl0, szl1, szl2, szl3, szl4, szl5, Nat.add_sub_assoc, Nat.add_zero, Nat.reduceSub, Nat.reduceAdd, Nat.reduceMul, Nat.reduceEqDiff,  jifT, bdS, sifN, sifS, omN, omS, cdI, x25, x26, x27, x28, x29, x30, x31, x32, xr0, xr1, xr2, xr3, xr4, xr5, if_pos, if_neg, true_and, and_true, false_and, and_false, and_self, Bool.and_true, if_true, if_false, reduceIte, cond_true, cond_false, not_true_eq_false, not_false_eq_true, z1', z2', z3', Option.map_some, F_40_94, e16, F_40_109, e14, F_40_122]
    · rw [if_neg k0] at e14 um
      rcases H.1 i hi with ⟨_, z⟩ | ⟨p, z1, z2, z3, z4, z5⟩
      · exact absurd z k0
      · obtain ⟨w', _, _, y3, _, _, _⟩ := z5 k0
        have kk : kd i = 2 ∨ kd i = 3 := z4.elim (fun z => absurd z k0) id
        have z1' : S1.2.2.1.2 i = some p := by rw [hX]; exact z1
        have z2' : S1.2.2.2.1.2 p = true := by rw [hX]; exact z2
        have z3' : S1.1 32 p 0 1 = nI (kd i) := by rw [(ag 32 p 0 (by omega)).1]; exact z3
        have z4' : S1.1 32 p 0 3 = nI (cl i) := by rw [(ag 32 p 0 (by omega)).1]; exact y3
        obtain ⟨S', x1, x2, x3⟩ := ih (i + 1) u (siI S1 14 0 0 i (nI 1)) (by omega) (by omega) (agr.i ag _ _ rfl) hX (fun h z z' => by
          rw [gI, if_neg (by omega)]
          exact hc h (by omega) z')
        refine ⟨S', ?_, x2, x3⟩
        rw [← x1, um, F_40_45]
        clear ih x1 x2 hc ag H hc1 um z5 y3 z4
        generalize kd i = kx at kk z3'
        simp (disch := first | assumption | omega) only [gI, gI2, gL, gL1, gL2, jcLT, jcGE, jcGT, jcLE, jcEQ, jcNE, dEQ, nIt, lgNE, lgEQ, lgGE, lgLT, lgGT, lgLE, jinT, nIc, nI0, nI1, nIo, nIs, nI_add, nIm, nIn0, szl0, szl1, szl2, szl3, szl4, szl5, Nat.add_sub_assoc, Nat.add_zero, Nat.reduceSub, Nat.reduceAdd, Nat.reduceMul, Nat.reduceEqDiff,  jifT, bdS, sifN, sifS, omN, omS, cdI, x25, x26, x27, x28, x29, x30, x31, x32, xr0, xr1, xr2, xr3, xr4, xr5, if_pos, if_neg, true_and, and_true, false_and, and_false, and_self, Bool.and_true, if_true, if_false, reduceIte, cond_true, cond_false, not_true_eq_false, not_false_eq_true, z1', z2', z3', z4', Option.map_some, F_40_109, e14, F_40_122]
/-! how many are grey below n -/
def gy (co : Nat → Nat) : Nat → Nat
  | 0 => 0
  | n + 1 => gy co n + if co n = 1 then 1 else 0
set_option maxHeartbeats 4000000 in
set_option linter.unusedSimpArgs false in
theorem gy_fl (co : Nat → Nat) : ∀ n, gy co n = ((List.range n).filter fun h => co h == 1).length := by
  intro n
  induction n with
  | zero => rfl
  | succ n ih =>
    rw [List.range_succ, List.filter_append, List.length_append, ← ih]
    show gy co n + _ = _
    by_cases c : co n = 1
    · simp [c]
    · simp [c]
set_option maxHeartbeats 4000000 in
set_option linter.unusedSimpArgs false in
theorem gy_list {l : List Nat} (h1 : l.Nodup) (h2 : ∀ h, h ∈ l ↔ h < 600 ∧ co h = 1) : gy co 600 = l.length := by
  rw [gy_fl]
  refine List.Perm.length_eq ((List.perm_ext_iff_of_nodup (List.nodup_range.filter _) h1).mpr (fun h => ?_))
  rw [h2, List.mem_filter, List.mem_range]
  simp
theorem gy_le (co : Nat → Nat) (n : Nat) : gy co n ≤ n := by
  induction n with
  | zero => exact Nat.le_refl _
  | succ n ih =>
    show gy co n + _ ≤ _
    by_cases c : co n = 1
    · rw [if_pos c]; omega
    · rw [if_neg c]; omega
/-! one place looked at -/
set_option maxHeartbeats 4000000 in
set_option linter.unusedSimpArgs false in
theorem e43 {K : Int32 → Int32 → Int32 → sS → Option (Int32 × sS)} {v2 : Int32} {h c ro sw c1 c2 us : Nat} (hh : h < 600) (hc : c ≤ 2) (hc1 : c1 ≤ 2) (hc2 : c2 ≤ 2) (h11 : S.1 11 0 0 11 = nI ro) (hro : ro ≤ 2) (h12 : S.1 11 0 0 12 = nI sw) (hsw : sw ≤ 600) (e42 : F_42 G t (nI h) S = some (nI us, S)) (hus : us ≤ 1) (e1 : S.1 16 0 1 h = nI c1) (e2 : S.1 16 0 2 h = nI c2) (g1 : (ro = 0 ∨ (ro = 2 ∧ h < sw) ∨ us = 0) → c = 0) (g2 : ¬ (ro = 0 ∨ (ro = 2 ∧ h < sw)) → c1 ≠ 0 → c2 ≠ 0) : F_43_55 G t K (nI 0) v2 (nI h) (nI c) S = K (nI 0) v2 (nI (h + 1)) S := by
  have e127 : ∀ v6 w0 : Nat, v6 ≤ 1 → w0 ≤ 1 → (v6 = 1 → c = 0) → (w0 = 1 → c2 ≠ 0) → F_43_127 G t K (nI 0) v2 (nI h) (nI c) (nI v6) (nI w0) S = K (nI 0) v2 (nI (h + 1)) S := fun v6 w0 a1 a2 a3 a4 => by
    have e142 : F_43_142 G t K (nI 0) v2 (nI h) (nI w0) S = K (nI 0) v2 (nI (h + 1)) S := by
      unfold F_43_142 F_43_162
      clear e42 g1 g2
      by_cases c0 : w0 = 0
      · subst c0
        simp (disch := first | assumption | omega) only [gI, gI2, gL, gL1, gL2, jcLT, jcGE, jcGT, jcLE, jcEQ, jcNE, dEQ, nIt, lgNE, lgEQ, lgGE, lgLT, lgGT, lgLE, jinT, nIc, nI0, nI1, nIo, nIs, nI_add, nIm, nIn0, szl0, szl1, szl2, szl3, szl4, szl5, Nat.add_sub_assoc, Nat.add_zero, Nat.reduceSub, Nat.reduceAdd, Nat.reduceMul, Nat.reduceEqDiff,  jifT, bdS, sifN, sifS, omN, omS, cdI, x25, x26, x27, x28, x29, x30, x31, x32, xr0, xr1, xr2, xr3, xr4, xr5, if_pos, if_neg, true_and, and_true, false_and, and_false, and_self, Bool.and_true, if_true, if_false, reduceIte, cond_true, cond_false, not_true_eq_false, not_false_eq_true]
      · have := a4 (by omega)
        simp (disch := first | assumption | omega) only [gI, gI2, gL, gL1, gL2, jcLT, jcGE, jcGT, jcLE, jcEQ, jcNE, dEQ, nIt, lgNE, lgEQ, lgGE, lgLT, lgGT, lgLE, jinT, nIc, nI0, nI1, nIo, nIs, nI_add, nIm, nIn0, szl0, szl1, szl2, szl3, szl4, szl5, Nat.add_sub_assoc, Nat.add_zero, Nat.reduceSub, Nat.reduceAdd, Nat.reduceMul, Nat.reduceEqDiff,  jifT, bdS, sifN, sifS, omN, omS, cdI, x25, x26, x27, x28, x29, x30, x31, x32, xr0, xr1, xr2, xr3, xr4, xr5, if_pos, if_neg, true_and, and_true, false_and, and_false, and_self, Bool.and_true, if_true, if_false, reduceIte, cond_true, cond_false, not_true_eq_false, not_false_eq_true, e2]
    unfold F_43_127
    clear e42 g1 g2
    by_cases c0 : v6 = 0
    · subst c0
      simp (disch := first | assumption | omega) only [gI, gI2, gL, gL1, gL2, jcLT, jcGE, jcGT, jcLE, jcEQ, jcNE, dEQ, nIt, lgNE, lgEQ, lgGE, lgLT, lgGT, lgLE, jinT, nIc, nI0, nI1, nIo, nIs, nI_add, nIm, nIn0, szl0, szl1, szl2, szl3, szl4, szl5, Nat.add_sub_assoc, Nat.add_zero, Nat.reduceSub, Nat.reduceAdd, Nat.reduceMul, Nat.reduceEqDiff,  jifT, bdS, sifN, sifS, omN, omS, cdI, x25, x26, x27, x28, x29, x30, x31, x32, xr0, xr1, xr2, xr3, xr4, xr5, if_pos, if_neg, true_and, and_true, false_and, and_false, and_self, Bool.and_true, if_true, if_false, reduceIte, cond_true, cond_false, not_true_eq_false, not_false_eq_true, e142]
    · have := a3 (by omega)
      subst this
      simp (disch := first | assumption | omega) only [gI, gI2, gL, gL1, gL2, jcLT, jcGE, jcGT, jcLE, jcEQ, jcNE, dEQ, nIt, lgNE, lgEQ, lgGE, lgLT, lgGT, lgLE, jinT, nIc, nI0, nI1, nIo, nIs, nI_add, nIm, nIn0, szl0, szl1, szl2, szl3, szl4, szl5, Nat.add_sub_assoc, Nat.add_zero, Nat.reduceSub, Nat.reduceAdd, Nat.reduceMul, Nat.reduceEqDiff,  jifT, bdS, sifN, sifS, omN, omS, cdI, x25, x26, x27, x28, x29, x30, x31, x32, xr0, xr1, xr2, xr3, xr4, xr5, if_pos, if_neg, true_and, and_true, false_and, and_false, and_self, Bool.and_true, if_true, if_false, reduceIte, cond_true, cond_false, not_true_eq_false, not_false_eq_true, e142]
  have e83 : ∀ w0 : Nat, w0 ≤ 1 → (w0 = 1 ↔ ro = 0 ∨ (ro = 2 ∧ h < sw)) → F_43_83 G t K (nI 0) v2 (nI h) (nI c) (nI w0) S = K (nI 0) v2 (nI (h + 1)) S := fun w0 a1 a2 => by
    have e103 : ∀ v6 : Nat, v6 ≤ 1 → (v6 = 1 → c = 0) → F_43_103 G t K (nI 0) v2 (nI h) (nI c) (nI w0) (nI v6) S = K (nI 0) v2 (nI (h + 1)) S := fun v6 b1 b2 => by
      have x0 := e127 v6 0 b1 (by omega) b2 (fun z => by omega)
      unfold F_43_103 F_43_126
      by_cases c0 : w0 = 0
      · subst c0
        by_cases d0 : c1 = 0
        · subst d0
          clear e42 g1 g2 e127
          simp (disch := first | assumption | omega) only [gI, gI2, gL, gL1, gL2, jcLT, jcGE, jcGT, jcLE, jcEQ, jcNE, dEQ, nIt, lgNE, lgEQ, lgGE, lgLT, lgGT, lgLE, jinT, nIc, nI0, nI1, nIo, nIs, nI_add, nIm, nIn0, szl0, szl1, szl2, szl3, szl4, szl5, Nat.add_sub_assoc, Nat.add_zero, Nat.reduceSub, Nat.reduceAdd, Nat.reduceMul, Nat.reduceEqDiff,  jifT, bdS, sifN, sifS, omN, omS, cdI, x25, x26, x27, x28, x29, x30, x31, x32, xr0, xr1, xr2, xr3, xr4, xr5, if_pos, if_neg, true_and, and_true, false_and, and_false, and_self, Bool.and_true, if_true, if_false, reduceIte, cond_true, cond_false, not_true_eq_false, not_false_eq_true, e1, x0]
        · have x1 := e127 v6 1 b1 (by omega) b2 (fun _ => g2 (by omega) d0)
          clear e42 g1 g2 e127 x0
          simp (disch := first | assumption | omega) only [gI, gI2, gL, gL1, gL2, jcLT, jcGE, jcGT, jcLE, jcEQ, jcNE, dEQ, nIt, lgNE, lgEQ, lgGE, lgLT, lgGT, lgLE, jinT, nIc, nI0, nI1, nIo, nIs, nI_add, nIm, nIn0, szl0, szl1, szl2, szl3, szl4, szl5, Nat.add_sub_assoc, Nat.add_zero, Nat.reduceSub, Nat.reduceAdd, Nat.reduceMul, Nat.reduceEqDiff,  jifT, bdS, sifN, sifS, omN, omS, cdI, x25, x26, x27, x28, x29, x30, x31, x32, xr0, xr1, xr2, xr3, xr4, xr5, if_pos, if_neg, true_and, and_true, false_and, and_false, and_self, Bool.and_true, if_true, if_false, reduceIte, cond_true, cond_false, not_true_eq_false, not_false_eq_true, e1, x1]
      · clear e42 g1 g2 e127
        simp (disch := first | assumption | omega) only [gI, gI2, gL, gL1, gL2, jcLT, jcGE, jcGT, jcLE, jcEQ, jcNE, dEQ, nIt, lgNE, lgEQ, lgGE, lgLT, lgGT, lgLE, jinT, nIc, nI0, nI1, nIo, nIs, nI_add, nIm, nIn0, szl0, szl1, szl2, szl3, szl4, szl5, Nat.add_sub_assoc, Nat.add_zero, Nat.reduceSub, Nat.reduceAdd, Nat.reduceMul, Nat.reduceEqDiff,  jifT, bdS, sifN, sifS, omN, omS, cdI, x25, x26, x27, x28, x29, x30, x31, x32, xr0, xr1, xr2, xr3, xr4, xr5, if_pos, if_neg, true_and, and_true, false_and, and_false, and_self, Bool.and_true, if_true, if_false, reduceIte, cond_true, cond_false, not_true_eq_false, not_false_eq_true, x0]
    unfold F_43_83 F_43_98
    by_cases c0 : w0 = 0
    · subst c0
      by_cases u0 : us = 0
      · subst u0
        have x1 := e103 1 (by omega) (fun _ => g1 (by omega))
        clear g1 g2 e127 e103 a2
        simp (disch := first | assumption | omega) only [gI, gI2, gL, gL1, gL2, jcLT, jcGE, jcGT, jcLE, jcEQ, jcNE, dEQ, nIt, lgNE, lgEQ, lgGE, lgLT, lgGT, lgLE, jinT, nIc, nI0, nI1, nIo, nIs, nI_add, nIm, nIn0, szl0, szl1, szl2, szl3, szl4, szl5, Nat.add_sub_assoc, Nat.add_zero, Nat.reduceSub, Nat.reduceAdd, Nat.reduceMul, Nat.reduceEqDiff,  jifT, bdS, sifN, sifS, omN, omS, cdI, x25, x26, x27, x28, x29, x30, x31, x32, xr0, xr1, xr2, xr3, xr4, xr5, if_pos, if_neg, true_and, and_true, false_and, and_false, and_self, Bool.and_true, if_true, if_false, reduceIte, cond_true, cond_false, not_true_eq_false, not_false_eq_true, e42, x1]
      · have x1 := e103 0 (by omega) (fun z => by omega)
        have : us = 1 := by omega
        subst this
        clear g1 g2 e127 e103 a2
        simp (disch := first | assumption | omega) only [gI, gI2, gL, gL1, gL2, jcLT, jcGE, jcGT, jcLE, jcEQ, jcNE, dEQ, nIt, lgNE, lgEQ, lgGE, lgLT, lgGT, lgLE, jinT, nIc, nI0, nI1, nIo, nIs, nI_add, nIm, nIn0, szl0, szl1, szl2, szl3, szl4, szl5, Nat.add_sub_assoc, Nat.add_zero, Nat.reduceSub, Nat.reduceAdd, Nat.reduceMul, Nat.reduceEqDiff,  jifT, bdS, sifN, sifS, omN, omS, cdI, x25, x26, x27, x28, x29, x30, x31, x32, xr0, xr1, xr2, xr3, xr4, xr5, if_pos, if_neg, true_and, and_true, false_and, and_false, and_self, Bool.and_true, if_true, if_false, reduceIte, cond_true, cond_false, not_true_eq_false, not_false_eq_true, e42, x1]
    · have x1 := e103 1 (by omega) (fun _ => g1 (by omega))
      clear e42 g1 g2 e127 e103 a2
      simp (disch := first | assumption | omega) only [gI, gI2, gL, gL1, gL2, jcLT, jcGE, jcGT, jcLE, jcEQ, jcNE, dEQ, nIt, lgNE, lgEQ, lgGE, lgLT, lgGT, lgLE, jinT, nIc, nI0, nI1, nIo, nIs, nI_add, nIm, nIn0, szl0, szl1, szl2, szl3, szl4, szl5, Nat.add_sub_assoc, Nat.add_zero, Nat.reduceSub, Nat.reduceAdd, Nat.reduceMul, Nat.reduceEqDiff,  jifT, bdS, sifN, sifS, omN, omS, cdI, x25, x26, x27, x28, x29, x30, x31, x32, xr0, xr1, xr2, xr3, xr4, xr5, if_pos, if_neg, true_and, and_true, false_and, and_false, and_self, Bool.and_true, if_true, if_false, reduceIte, cond_true, cond_false, not_true_eq_false, not_false_eq_true, x1]
  have y0 := e83 0 (by omega)
  have y1 := e83 1 (by omega)
  clear e127 e83 e42 g1 g2
  unfold F_43_55 F_43_78 F_43_82
  have : ro = 0 ∨ ro = 1 ∨ ro = 2 := by omega
  rcases this with rfl | rfl | rfl
  · have y1 := y1 (by omega)
    clear y0
    simp (disch := first | assumption | omega) only [gI, gI2, gL, gL1, gL2, jcLT, jcGE, jcGT, jcLE, jcEQ, jcNE, dEQ, nIt, lgNE, lgEQ, lgGE, lgLT, lgGT, lgLE, jinT, nIc, nI0, nI1, nIo, nIs, nI_add, nIm, nIn0, szl0, szl1, szl2, szl3, szl4, szl5, Nat.add_sub_assoc, Nat.add_zero, Nat.reduceSub, Nat.reduceAdd, Nat.reduceMul, Nat.reduceEqDiff,  jifT, bdS, sifN, sifS, omN, omS, cdI, x25, x26, x27, x28, x29, x30, x31, x32, xr0, xr1, xr2, xr3, xr4, xr5, if_pos, if_neg, true_and, and_true, false_and, and_false, and_self, Bool.and_true, if_true, if_false, reduceIte, cond_true, cond_false, not_true_eq_false, not_false_eq_true, h11, y1]
  · have y0 := y0 (by omega)
    clear y1
    simp (disch := first | assumption | omega) only [gI, gI2, gL, gL1, gL2, jcLT, jcGE, jcGT, jcLE, jcEQ, jcNE, dEQ, nIt, lgNE, lgEQ, lgGE, lgLT, lgGT, lgLE, jinT, nIc, nI0, nI1, nIo, nIs, nI_add, nIm, nIn0, szl0, szl1, szl2, szl3, szl4, szl5, Nat.add_sub_assoc, Nat.add_zero, Nat.reduceSub, Nat.reduceAdd, Nat.reduceMul, Nat.reduceEqDiff,  jifT, bdS, sifN, sifS, omN, omS, cdI, x25, x26, x27, x28, x29, x30, x31, x32, xr0, xr1, xr2, xr3, xr4, xr5, if_pos, if_neg, true_and, and_true, false_and, and_false, and_self, Bool.and_true, if_true, if_false, reduceIte, cond_true, cond_false, not_true_eq_false, not_false_eq_true, h11, y0]
  · by_cases cs : h < sw
    · have y1 := y1 (by omega)
      clear y0
      simp (disch := first | assumption | omega) only [gI, gI2, gL, gL1, gL2, jcLT, jcGE, jcGT, jcLE, jcEQ, jcNE, dEQ, nIt, lgNE, lgEQ, lgGE, lgLT, lgGT, lgLE, jinT, nIc, nI0, nI1, nIo, nIs, nI_add, nIm, nIn0, szl0, szl1, szl2, szl3, szl4, szl5, Nat.add_sub_assoc, Nat.add_zero, Nat.reduceSub, Nat.reduceAdd, Nat.reduceMul, Nat.reduceEqDiff,  jifT, bdS, sifN, sifS, omN, omS, cdI, x25, x26, x27, x28, x29, x30, x31, x32, xr0, xr1, xr2, xr3, xr4, xr5, if_pos, if_neg, true_and, and_true, false_and, and_false, and_self, Bool.and_true, if_true, if_false, reduceIte, cond_true, cond_false, not_true_eq_false, not_false_eq_true, h11, h12, y1]
    · have y0 := y0 (by omega)
      clear y1
      simp (disch := first | assumption | omega) only [gI, gI2, gL, gL1, gL2, jcLT, jcGE, jcGT, jcLE, jcEQ, jcNE, dEQ, nIt, lgNE, lgEQ, lgGE, lgLT, lgGT, lgLE, jinT, nIc, nI0, nI1, nIo, nIs, nI_add, nIm, nIn0, szl0, szl1, szl2, szl3, szl4, szl5, Nat.add_sub_assoc, Nat.add_zero, Nat.reduceSub, Nat.reduceAdd, Nat.reduceMul, Nat.reduceEqDiff,  jifT, bdS, sifN, sifS, omN, omS, cdI, x25, x26, x27, x28, x29, x30, x31, x32, xr0, xr1, xr2, xr3, xr4, xr5, if_pos, if_neg, true_and, and_true, false_and, and_false, and_self, Bool.and_true, if_true, if_false, reduceIte, cond_true, cond_false, not_true_eq_false, not_false_eq_true, h11, h12, y0]
set_option maxHeartbeats 4000000 in
set_option linter.unusedSimpArgs false in
theorem l_43 {ro sw : Nat} {c1 c2 : Nat → Nat} (H : hpR S kd cl fl) (g6 : (∀ h, h < 600 → S.1 16 0 0 h = nI (co h) ∧ co h ≤ 2) ∧ S.1 15 0 0 2 = nI gl.length ∧ gl.Nodup ∧ ∀ h, h ∈ gl ↔ h < 600 ∧ co h = 1) (h11 : S.1 11 0 0 11 = nI ro) (hro : ro ≤ 2) (h12 : S.1 11 0 0 12 = nI sw) (hsw : sw ≤ 600) (e1 : ∀ h, h < 600 → S.1 16 0 1 h = nI (c1 h) ∧ c1 h ≤ 2) (e2 : ∀ h, h < 600 → S.1 16 0 2 h = nI (c2 h) ∧ c2 h ≤ 2) (g1 : ∀ h, h < 600 → (ro = 0 ∨ (ro = 2 ∧ h < sw) ∨ kd h = 0) → co h = 0) (g2 : ∀ h, h < 600 → ¬ (ro = 0 ∨ (ro = 2 ∧ h < sw)) → c1 h ≠ 0 → c2 h ≠ 0) : ∀ w i tt, i + w = 600 → w < tt → F_43_28 G t tt (nI 0) (nI (gy co i)) (nI i) S = some (nI 0, S) := by
  intro w
  induction w with
  | zero =>
    intro i tt a1 a2
    obtain ⟨u, rfl⟩ : ∃ u, tt = u + 1 := ⟨tt - 1, by omega⟩
    have : i = 600 := by omega
    subst this
    have e15 := g6.2.1
    rw [← gy_list g6.2.2.1 g6.2.2.2] at e15
    have := gy_le co 600
    generalize gy co 600 = U at e15 this ⊢
    rw [F_43_28]
    clear H g6 e1 e2 g1 g2
    simp (disch := first | assumption | omega) only [gI, gI2, gL, gL1, gL2, jcLT, jcGE, jcGT, jcLE, jcEQ, jcNE, dEQ, nIt, lgNE, lgEQ, lgGE, lgLT, lgGT, lgLE, jinT, nIc, nI0, nI1, nIo, nIs, nI_add, nIm, nIn0, szl0, szl1, szl2, szl3, szl4, szl5, Nat.add_sub_assoc, Nat.add_zero, Nat.reduceSub, Nat.reduceAdd, Nat.reduceMul, Nat.reduceEqDiff,  jifT, bdS, sifN, sifS, omN, omS, cdI, x25, x26, x27, x28, x29, x30, x31, x32, xr0, xr1, xr2, xr3, xr4, xr5, if_pos, if_neg, true_and, and_true, false_and, and_false, and_self, Bool.and_true, if_true, if_false, reduceIte, cond_true, cond_false, not_true_eq_false, not_false_eq_true, e15]
  | succ w ih =>
    intro i tt a1 a2
    obtain ⟨u, rfl⟩ : ∃ u, tt = u + 1 := ⟨tt - 1, by omega⟩
    have hi : i < 600 := by omega
    have e := ih (i + 1) u (by omega) (by omega)
    have ge := gy_le co i
    obtain ⟨c0, cb⟩ := g6.1 i hi
    have e42 : F_42 G t (nI i) S = some (nI (if kd i = 0 then 0 else 1), S) := by
      unfold F_42
      rcases H.1 i hi with ⟨z, z'⟩ | ⟨p, z1, z2, z3, z4, _⟩
      · rw [if_pos z']
        clear H g6 e1 e2 g1 g2 ih e
        simp (disch := first | assumption | omega) only [gI, gI2, gL, gL1, gL2, jcLT, jcGE, jcGT, jcLE, jcEQ, jcNE, dEQ, nIt, lgNE, lgEQ, lgGE, lgLT, lgGT, lgLE, jinT, nIc, nI0, nI1, nIo, nIs, nI_add, nIm, nIn0, szl0, szl1, szl2, szl3, szl4, szl5, Nat.add_sub_assoc, Nat.add_zero, Nat.reduceSub, Nat.reduceAdd, Nat.reduceMul, Nat.reduceEqDiff,  jifT, bdS, sifN, sifS, omN, omS, cdI, x25, x26, x27, x28, x29, x30, x31, x32, xr0, xr1, xr2, xr3, xr4, xr5, if_pos, if_neg, true_and, and_true, false_and, and_false, and_self, Bool.and_true, if_true, if_false, reduceIte, cond_true, cond_false, not_true_eq_false, not_false_eq_true, z, Option.map_none]
      · clear H g6 e1 e2 g1 g2 ih e
        by_cases k0 : kd i = 0
        · rw [if_pos k0]
          rw [k0] at z3
          simp (disch := first | assumption | omega) only [gI, gI2, gL, gL1, gL2, jcLT, jcGE, jcGT, jcLE, jcEQ, jcNE, dEQ, nIt, lgNE, lgEQ, lgGE, lgLT, lgGT, lgLE, jinT, nIc, nI0, nI1, nIo, nIs, nI_add, nIm, nIn0, szl0, szl1, szl2, szl3, szl4, szl5, Nat.add_sub_assoc, Nat.add_zero, Nat.reduceSub, Nat.reduceAdd, Nat.reduceMul, Nat.reduceEqDiff,  jifT, bdS, sifN, sifS, omN, omS, cdI, x25, x26, x27, x28, x29, x30, x31, x32, xr0, xr1, xr2, xr3, xr4, xr5, if_pos, if_neg, true_and, and_true, false_and, and_false, and_self, Bool.and_true, if_true, if_false, reduceIte, cond_true, cond_false, not_true_eq_false, not_false_eq_true, z1, z2, z3, Option.map_some]
        · rw [if_neg k0]
          have kk : kd i = 2 ∨ kd i = 3 := z4.elim (fun z => absurd z k0) id
          clear z4 k0
          generalize kd i = kx at kk z3
          simp (disch := first | assumption | omega) only [gI, gI2, gL, gL1, gL2, jcLT, jcGE, jcGT, jcLE, jcEQ, jcNE, dEQ, nIt, lgNE, lgEQ, lgGE, lgLT, lgGT, lgLE, jinT, nIc, nI0, nI1, nIo, nIs, nI_add, nIm, nIn0, szl0, szl1, szl2, szl3, szl4, szl5, Nat.add_sub_assoc, Nat.add_zero, Nat.reduceSub, Nat.reduceAdd, Nat.reduceMul, Nat.reduceEqDiff,  jifT, bdS, sifN, sifS, omN, omS, cdI, x25, x26, x27, x28, x29, x30, x31, x32, xr0, xr1, xr2, xr3, xr4, xr5, if_pos, if_neg, true_and, and_true, false_and, and_false, and_self, Bool.and_true, if_true, if_false, reduceIte, cond_true, cond_false, not_true_eq_false, not_false_eq_true, z1, z2, z3, Option.map_some]
    have st : ∀ v2, F_43_55 G t (F_43_28 G t u) (nI 0) v2 (nI i) (nI (co i)) S = F_43_28 G t u (nI 0) v2 (nI (i + 1)) S := fun v2 => e43 hi cb (e1 i hi).2 (e2 i hi).2 h11 hro h12 hsw e42 (by
      by_cases k0 : kd i = 0
      · rw [if_pos k0]; omega
      · rw [if_neg k0]; omega) (e1 i hi).1 (e2 i hi).1 (fun z => g1 i hi (by
      rcases z with z | z | z
      · exact Or.inl z
      · exact Or.inr (Or.inl z)
      · refine Or.inr (Or.inr ?_)
        apply Classical.byContradiction
        intro k0
        rw [if_neg k0] at z
        omega)) (g2 i hi)
    rw [F_43_28, ← e, show gy co (i + 1) = gy co i + (if co i = 1 then 1 else 0) from rfl]
    have s1 := st (nI (gy co i))
    have s2 := st (nI (gy co i + 1))
    clear H g6 e1 e2 g1 g2 ih e e42 st
    generalize gy co i = U at ge s1 s2 ⊢
    by_cases cc : co i = 1
    · rw [cc] at c0 s1 s2
      rw [if_pos cc]
      simp (disch := first | assumption | omega) only [gI, gI2, gL, gL1, gL2, jcLT, jcGE, jcGT, jcLE, jcEQ, jcNE, dEQ, nIt, lgNE, lgEQ, lgGE, lgLT, lgGT, lgLE, jinT, nIc, nI0, nI1, nIo, nIs, nI_add, nIm, nIn0, szl0, szl1, szl2, szl3, szl4, szl5, Nat.add_sub_assoc, Nat.add_zero, Nat.reduceSub, Nat.reduceAdd, Nat.reduceMul, Nat.reduceEqDiff,  jifT, bdS, sifN, sifS, omN, omS, cdI, x25, x26, x27, x28, x29, x30, x31, x32, xr0, xr1, xr2, xr3, xr4, xr5, if_pos, if_neg, true_and, and_true, false_and, and_false, and_self, Bool.and_true, if_true, if_false, reduceIte, cond_true, cond_false, not_true_eq_false, not_false_eq_true, c0, s2]
    · rw [if_neg cc]
      simp (disch := first | assumption | omega) only [gI, gI2, gL, gL1, gL2, jcLT, jcGE, jcGT, jcLE, jcEQ, jcNE, dEQ, nIt, lgNE, lgEQ, lgGE, lgLT, lgGT, lgLE, jinT, nIc, nI0, nI1, nIo, nIs, nI_add, nIm, nIn0, szl0, szl1, szl2, szl3, szl4, szl5, Nat.add_sub_assoc, Nat.add_zero, Nat.reduceSub, Nat.reduceAdd, Nat.reduceMul, Nat.reduceEqDiff,  jifT, bdS, sifN, sifS, omN, omS, cdI, x25, x26, x27, x28, x29, x30, x31, x32, xr0, xr1, xr2, xr3, xr4, xr5, if_pos, if_neg, true_and, and_true, false_and, and_false, and_self, Bool.and_true, if_true, if_false, reduceIte, cond_true, cond_false, not_true_eq_false, not_false_eq_true, c0, s1]
end CHK
