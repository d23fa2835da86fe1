/-! isWhole's outer loop; begin. -/
section BEG
variable {φ φ' : Nat → Nat} {D D' : Nat → Prop} {F N : Nat} {P P' : aP} {S S' T T' T1 : sS} {A : aS} {r s d p f pc n m e b k y g q o F' N' lo : Nat} {G : jG} {t j : Nat} {a : Int32}
def fnO (F : Nat) (P : aP) (f : Nat) : Prop := (∃ l, P.2.2.2.1 f = l + 1 ∧ (P.2.2.2.2.1 (P.2.2.1 f + l) = 16 ∨ P.2.2.2.2.1 (P.2.2.1 f + l) = 19 ∨ P.2.2.2.2.1 (P.2.2.1 f + l) = 35)) ∧ ∀ k, k < P.2.2.2.1 f → inO F P (P.2.2.2.1 f) (P.2.2.2.2.1 (P.2.2.1 f + k)) (P.2.2.2.2.2 (P.2.2.1 f + k))
set_option maxHeartbeats 4000000 in
set_option linter.unusedSimpArgs false in
theorem l_whole (ht : 2000 < t) (pg : pgR S T F N P) : ∀ w f tt tt', f + w = F → w < tt → w < tt' → ∃ k, k ≤ 1 ∧ F_20_2 G t tt (nI f) S = some (nI k, S) ∧ F_140_2 G t tt' (nI f) T = some (nI k, T) ∧ (k = 1 → ∀ g, f ≤ g → g < F → fnO F P g) := by
  obtain ⟨⟨p1, p2, p3⟩, ⟨n1, n2, n3⟩, pf, pi, pz⟩ := id pg
  intro w
  induction w with
  | zero =>
    intro f tt tt' h1 h2 h3
    obtain ⟨u, rfl⟩ : ∃ u, tt = u + 1 := ⟨tt - 1, by omega⟩
    obtain ⟨u', rfl⟩ : ∃ u', tt' = u' + 1 := ⟨tt' - 1, by omega⟩
    have : f = F := by omega
    subst this
    refine ⟨1, by omega, ?_, ?_, fun _ g z z' => by omega⟩
    · rw [F_20_2]
      dsimp only
      rw [p1, jcGE (by omega) (by omega), decide_eq_true (by omega), cond_true]
    · rw [F_140_2]
      dsimp only
      rw [p2, jcGE (by omega) (by omega), decide_eq_true (by omega), cond_true]
  | succ w ih =>
    intro f tt tt' h1 h2 h3
    obtain ⟨u, rfl⟩ : ∃ u, tt = u + 1 := ⟨tt - 1, by omega⟩
    obtain ⟨u', rfl⟩ : ∃ u', tt' = u' + 1 := ⟨tt' - 1, by omega⟩
    have hf : f < F := by omega
    obtain ⟨_, _, ⟨q7, q8⟩, ⟨q9, q10, q11⟩⟩ := pf f hf
    have jf : jin (nI f) 32 = true := jin_N (by omega) (by omega)
    have fc : (nI f).toNatClampNeg = f := nI_clamp (by omega)
    have eC : F_20_2 G t (u + 1) (nI f) S = (F_18 G t (nI f) S).bind (fun q1 => bif jcmp .ne q1.1 0 then (F_20_22 G t (F_20_2 G t u) t (nI f) (nI 0) q1.2) else (some ((nI 0), q1.2))) := by
      rw [F_20_2]
      dsimp only
      rw [p1, jcGE (by omega) (by omega), decide_eq_false (by omega), cond_false]
    by_cases cL : P.2.2.2.1 f = 0
    · rw [cL] at q9 q10
      refine ⟨0, by omega, ?_, ?_, fun z => by omega⟩
      · rw [eC]
        unfold F_18
        rw [jif_true jf, fc, q9]
        rfl
      · rw [F_140_2]
        dsimp only
        rw [p2, jcGE (by omega) (by omega), decide_eq_false (by omega), cond_false, jif_true jf, fc, q10]
        rfl
    · obtain ⟨l, hl⟩ : ∃ l, P.2.2.2.1 f = l + 1 := ⟨P.2.2.2.1 f - 1, by omega⟩
      obtain ⟨⟨i1, i2, i3⟩, i4, i5⟩ := pi (P.2.2.1 f + l) (by omega)
      have nz : jcmp .ne (nI (l + 1)) 0 = true := by
        show jcmp .ne (nI (l + 1)) (nI 0) = true
        rw [jcNE (by omega) (by omega)]; exact decide_eq_true (by omega)
      have es : nI (P.2.2.1 f) + nI (l + 1) - nI 1 = nI (P.2.2.1 f + l) := by
        rw [nI_add, nIs (by omega)]
        exact congrArg nI (by omega)
      have ji : jin (nI (P.2.2.1 f + l)) 1500 = true := jin_N (by omega) (by omega)
      have ci : (nI (P.2.2.1 f + l)).toNatClampNeg = P.2.2.1 f + l := nI_clamp (by omega)
      generalize ho : P.2.2.2.2.1 (P.2.2.1 f + l) = o at i1 i2 i3
      have en : ∀ c, c ≤ 36 → jcmp .eq (nI o) (nI c) = decide (o = c) := fun c hc => jcEQ (by omega) (by omega)
      have ne : jcmp .ne (nI o) (nI 35) = decide (¬ o = 35) := jcNE (by omega) (by omega)
      have e18 : F_18 G t (nI f) S = some (nI (if o = 16 ∨ o = 19 ∨ o = 35 then 1 else 0), S) := by
        unfold F_18 F_18_50
        rw [jif_true jf, fc, q9, hl, nz, cond_true, jif_true jf, jif_true jf, q7, es, jif_true ji, ci, i1, en 16 (by omega), en 19 (by omega), ne]
        by_cases c16 : o = 16
        · rw [decide_eq_true c16, cond_true, if_pos (Or.inl c16)]
        · rw [decide_eq_false c16, cond_false]
          by_cases c19 : o = 19
          · rw [decide_eq_true c19, cond_true, if_pos (Or.inr (Or.inl c19))]
          · rw [decide_eq_false c19, cond_false]
            by_cases c35 : o = 35
            · rw [decide_eq_false (fun z => z c35), cond_false, if_pos (Or.inr (Or.inr c35))]
            · rw [decide_eq_true c35, cond_true, if_neg (by omega)]
      have e140 : F_140_2 G t (u' + 1) (nI f) T = if o = 16 ∨ o = 19 ∨ o = 35 then F_140_71 G t (F_140_2 G t u') t (nI f) (nI (P.2.2.1 f + 0)) T else some (nI 0, T) := by
        rw [F_140_2]
        dsimp only
        rw [p2, jcGE (by omega) (by omega), decide_eq_false (by omega), cond_false, jif_true jf, fc, q10, hl, nz, cond_true, jif_true jf, jif_true jf, q8, es, jif_true ji, ci, i2]
        unfold F_140_43 F_140_64
        rw [jif_true jf, fc, q8, en 16 (by omega), en 19 (by omega), en 35 (by omega), Nat.add_zero]
        by_cases c16 : o = 16
        · rw [decide_eq_true c16, cond_true, if_pos (Or.inl c16)]
        · rw [decide_eq_false c16, cond_false]
          by_cases c19 : o = 19
          · rw [decide_eq_true c19, cond_true, if_pos (Or.inr (Or.inl c19))]
          · rw [decide_eq_false c19, cond_false]
            by_cases c35 : o = 35
            · rw [decide_eq_true c35, cond_true, if_pos (Or.inr (Or.inr c35))]
            · rw [decide_eq_false c35, cond_false, if_neg (by omega)]
      rw [eC, e18, e140, bdS]
      dsimp only
      by_cases cO : o = 16 ∨ o = 19 ∨ o = 35
      · rw [if_pos cO, if_pos cO, show jcmp .ne (nI 1) 0 = true from by decide, cond_true]
        rcases l_20 (G := G) (t := t) pg hf rfl rfl (F_20_2 G t u) (F_140_2 G t u') (P.2.2.2.1 f) 0 t t (by omega) (by omega) (by omega) with ⟨x1, x2, x3⟩ | ⟨x1, x2⟩
        · obtain ⟨k, k1, k2, k3, k4⟩ := ih (f + 1) u u' (by omega) (by omega) (by omega)
          refine ⟨k, k1, x1.trans k2, x2.trans k3, fun z g z1 z2 => ?_⟩
          by_cases cg : g = f
          · subst cg
            exact ⟨⟨l, hl, by rw [ho]; exact cO⟩, fun k hk => x3 k (by omega) hk⟩
          · exact k4 z g (by omega) z2
        · exact ⟨0, by omega, x1, x2, fun z => by omega⟩
      · rw [if_neg cO, if_neg cO]
        exact ⟨0, by omega, rfl, rfl, fun z => by omega⟩
theorem fnO.wh (h : ∀ g, g < F → fnO F P g) : whR F P ∧ whS F P := by
  refine ⟨fun f hf => ⟨(h f hf).1, fun k hk => ?_⟩, fun f hf k hk ho => ((h f hf).2 k hk).2.2 ho⟩
  obtain ⟨a1, a2, a3⟩ := (h f hf).2 k hk
  exact ⟨a1, a2, fun z => by
    obtain ⟨x, x1, _, x2⟩ := a3 z
    exact ⟨x, x1, x2⟩⟩
/-! the first strand is launched -/
set_option maxHeartbeats 4000000 in
set_option linter.unusedSimpArgs false in
theorem e31b {g a : Int32} {tt qa : Nat} {S1 : sS} (hqa : qa < 16) (h4 : S.1 25 0 0 4 = nI 0) (e1 : F_29 G t (0, 0) g (0, 5) a (rnS S 0) = some (nI 1, S1)) (h1 : (siI S1 8 0 0 7 (S1.1 8 0 0 7 + nI 1)).1 8 0 0 3 = nI qa) (h2 : (siI S1 8 0 0 7 (S1.1 8 0 0 7 + nI 1)).1 8 0 0 4 = nI 0) (h3 : (siI S1 8 0 0 7 (S1.1 8 0 0 7 + nI 1)).1 25 0 0 1 = nI 0) : F_31_3 G t (tt + 1) g (0, 5) a (nI 0) S = some (nI 1, luS (siI S1 8 0 0 7 (S1.1 8 0 0 7 + nI 1)) 0 qa 0) := by
  have e2 := f_22 (G := G) (t := t) (s := 0) (by omega) h4 (by omega)
  rw [if_pos (Or.inl rfl)] at e2
  have e3 := f_30 (G := G) (t := t) (S := siI S1 8 0 0 7 (S1.1 8 0 0 7 + nI 1)) (s := 0) (a := qa) (q := 0) (by omega) h1 h2 hqa (by omega) h3
  have e4 : F_4 G t (0, 0) (nI 1) S = some ((), rnS S 0) := by
    unfold F_4 rnS
    simp (disch := first | assumption | omega) only [gI, gI2, gL, gL1, gL2, jcLT, jcGE, jcGT, jcLE, jcEQ, jcNE, dEQ, nIt, lgNE, lgEQ, lgGE, lgLT, lgGT, lgLE, jinT, nIc, nI0, nI1, nIo, nIs, nI_add, nIm, nIn0, szl0, szl1, szl2, szl3, szl4, szl5, Nat.add_sub_assoc, Nat.add_zero, Nat.reduceSub, Nat.reduceAdd, Nat.reduceMul, Nat.reduceEqDiff,  jifT, bdS, sifN, sifS, omN, omS, cdI, x25, x26, x27, x28, x29, x30, x31, x32, xr0, xr1, xr2, xr3, xr4, xr5, if_pos, if_neg, true_and, and_true, false_and, and_false, and_self, Bool.and_true, if_true, if_false, reduceIte, cond_true, cond_false, not_true_eq_false, not_false_eq_true]
  rw [F_31_3]
  clear h1 h2 h3
  simp (disch := first | assumption | omega) only [gI, gI2, gL, gL1, gL2, jcLT, jcGE, jcGT, jcLE, jcEQ, jcNE, dEQ, nIt, lgNE, lgEQ, lgGE, lgLT, lgGT, lgLE, jinT, nIc, nI0, nI1, nIo, nIs, nI_add, nIm, nIn0, szl0, szl1, szl2, szl3, szl4, szl5, Nat.add_sub_assoc, Nat.add_zero, Nat.reduceSub, Nat.reduceAdd, Nat.reduceMul, Nat.reduceEqDiff,  jifT, bdS, sifN, sifS, omN, omS, cdI, x25, x26, x27, x28, x29, x30, x31, x32, xr0, xr1, xr2, xr3, xr4, xr5, if_pos, if_neg, true_and, and_true, false_and, and_false, and_self, Bool.and_true, if_true, if_false, reduceIte, cond_true, cond_false, not_true_eq_false, not_false_eq_true, e2, e4, e1, e3]
theorem agr.ci {E : Nat → Nat → Nat → Prop} (h : agr E S S') (t i j k : Nat) (x : Int32) : agr E (siI S t i j k x) (siI S' t i j k x) := by
  intro t' i' j' z
  refine ⟨?_, (h t' i' j' z).2⟩
  funext k'
  rw [gI, gI, (h t' i' j' z).1]
theorem agr.cl {E : Nat → Nat → Nat → Prop} (h : agr E S S') (t i j k : Nat) (x : Int64) : agr E (siL S t i j k x) (siL S' t i j k x) := by
  intro t' i' j' z
  refine ⟨(h t' i' j' z).1, ?_⟩
  funext k'
  rw [gL, gL, (h t' i' j' z).2]
theorem meT_c {E : Nat → Nat → Nat → Prop} (h : agr E T T') (s dp f b : Nat) : agr E (meT T s dp f b) (meT T' s dp f b) := by
  unfold meT
  have : ∀ n X Y, agr E X Y → agr E (mzT X s dp n) (mzT Y s dp n) := by
    intro n
    induction n with
    | zero => intro X Y h; exact h
    | succ n ih => intro X Y h; exact ((ih X Y h).ci _ _ _ _ _).cl _ _ _ _ _
  exact this 12 _ _ (((((((h.ci _ _ _ _ _).ci _ _ _ _ _).ci _ _ _ _ _).ci _ _ _ _ _).ci _ _ _ _ _).ci _ _ _ _ _).ci _ _ _ _ _)
end BEG
