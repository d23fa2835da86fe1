/-! isWhole, on both sides. -/
section WHO
variable {φ φ' : Nat → Nat} {D D' : Nat → Prop} {F N : Nat} {P P' : aP} {S S' T T' T1 : sS} {A : aS} {r s d p f pc n m e b k y g q o F' N' lo : Nat} {G : jG} {t j : Nat} {a : Int32}
def inO (F : Nat) (P : aP) (L o : Nat) (a : Int32) : Prop := (o = 16 ∨ o = 17 → ∃ x, a = nI x ∧ x < L) ∧ (o = 18 ∨ o = 20 ∨ o = 34 → ∃ x, a = nI x ∧ x < F) ∧ (o = 34 → ∃ x, a = nI x ∧ x < F ∧ P.1 x = 1)
/-! the model's look at one instruction -/
def mLk (G : jG) (t : Nat) (k2 : Int32 → sS → Option (Int32 × sS)) (k71 : Int32 → Int32 → sS → Option (Int32 × sS)) (f v3 o : Nat) (a : Int32) (T : sS) : Option (Int32 × sS) := bif jcmp .eq (nI o) (nI 16) then (F_140_118 G t k2 k71 (nI f) (nI v3) (nI o) a T) else (bif jcmp .ne (nI o) (nI 17) then (F_140_136 G t k2 k71 (nI f) (nI v3) (nI o) a T) else (F_140_118 G t k2 k71 (nI f) (nI v3) (nI o) a T))
theorem nI_1' (v : Nat) : nI v + Int32.ofInt 1 = nI (v + 1) := nI_1 v
theorem in_all {L : Nat} (pg : pgR S T F N P) (hf : f < F) (ho : o ≤ 36) (hL : P.2.2.2.1 f = L) : ∃ k, k ≤ 1 ∧ F_19 G t (nI f) (nI o) a S = some (nI k, S) ∧ (k = 1 → inO F P L o a) ∧ ∀ k2 k71 v3, mLk G t k2 k71 f v3 o a T = if k = 1 then k71 (nI f) (nI (v3 + 1)) T else some (nI 0, T) := by
  obtain ⟨⟨p1, p2, p3⟩, ⟨n1, n2, n3⟩, pf, pi, pz⟩ := pg
  obtain ⟨_, _, _, ⟨q9, q10, q11⟩⟩ := pf f hf
  rw [hL] at q9 q10 q11
  have f32 : f < 32 := by omega
  have jf : jin (nI f) 32 = true := jin_N (by omega) (by omega)
  have fc : (nI f).toNatClampNeg = f := nI_clamp (by omega)
  have en : ∀ c, c ≤ 36 → jcmp .eq (nI o) (nI c) = decide (o = c) := fun c hc => jcEQ (by omega) (by omega)
  have ne : ∀ c, c ≤ 36 → jcmp .ne (nI o) (nI c) = decide (¬ o = c) := fun c hc => jcNE (by omega) (by omega)
  have eqI : ∀ c, c ≤ 36 → (decide (nI o = nI c)) = decide (o = c) := fun c hc => decide_eq_decide.mpr (nI_eq (by omega) (by omega))
  -- the last part of the model's look
  have m73 : ∀ k2 k71 v3, o ≠ 34 → F_140_173 G t k2 k71 (nI f) (nI v3) (nI o) a T = k71 (nI f) (nI (v3 + 1)) T := fun k2 k71 v3 h => by
    unfold F_140_173 F_140_193
    rw [ne 34 (by omega), decide_eq_true h, cond_true, nI_1']
  have m36 : ∀ k2 k71 v3, o ≠ 18 → o ≠ 20 → o ≠ 34 → F_140_136 G t k2 k71 (nI f) (nI v3) (nI o) a T = k71 (nI f) (nI (v3 + 1)) T := fun k2 k71 v3 h1 h2 h3 => by
    unfold F_140_136
    rw [en 18 (by omega), decide_eq_false h1, cond_false, en 20 (by omega), decide_eq_false h2, cond_false, ne 34 (by omega), decide_eq_true h3, cond_true, m73 k2 k71 v3 h3]
  by_cases h16 : o = 16 ∨ o = 17
  · have m18 : ∀ k2 k71 v3, mLk G t k2 k71 f v3 o a T = F_140_118 G t k2 k71 (nI f) (nI v3) (nI o) a T := fun k2 k71 v3 => by
      unfold mLk
      rw [en 16 (by omega), ne 17 (by omega)]
      rcases h16 with rfl | rfl
      · rfl
      · rfl
    have c19 : F_19 G t (nI f) (nI o) a S = F_19_52 G t (nI f) a S := by
      unfold F_19
      rw [eqI 16 (by omega), eqI 17 (by omega)]
      rcases h16 with rfl | rfl
      · rfl
      · rfl
    rw [c19]
    rcases le_or a 1 (by omega) with c | ⟨j, j2, rfl⟩
    · refine ⟨0, by omega, ?_, fun z => by omega, fun k2 k71 v3 => ?_⟩
      · unfold F_19_52
        rw [c, cond_true]
      · rw [m18, if_neg (by omega)]
        unfold F_140_118
        rw [c, cond_true]
    · have l1 : jcmp .lt (nI j) 0 = false := by
        show jcmp .lt (nI j) (nI 0) = false
        rw [jcLT (by omega) (by omega)]; exact decide_eq_false (by omega)
      by_cases cj : j < L
      · refine ⟨1, by omega, ?_, fun _ => ⟨fun _ => ⟨j, rfl, cj⟩, fun z => by omega, fun z => by omega⟩, fun k2 k71 v3 => ?_⟩
        · unfold F_19_52
          rw [l1, cond_false, jif_true jf, fc, q9, jcGE (by omega) (by omega), decide_eq_false (by omega), cond_false]
        · rw [m18, if_pos rfl]
          unfold F_140_118
          rw [l1, cond_false, jif_true jf, fc, q10, jcLT (by omega) (by omega), decide_eq_true cj, cond_true]
          exact m36 k2 k71 v3 (by omega) (by omega) (by omega)
      · refine ⟨0, by omega, ?_, fun z => by omega, fun k2 k71 v3 => ?_⟩
        · unfold F_19_52
          rw [l1, cond_false, jif_true jf, fc, q9, jcGE (by omega) (by omega), decide_eq_true (by omega), cond_true]
        · rw [m18, if_neg (by omega)]
          unfold F_140_118
          rw [l1, cond_false, jif_true jf, fc, q10, jcLT (by omega) (by omega), decide_eq_false cj, cond_false]
  · have mm : ∀ k2 k71 v3, mLk G t k2 k71 f v3 o a T = F_140_136 G t k2 k71 (nI f) (nI v3) (nI o) a T := fun k2 k71 v3 => by
      unfold mLk
      rw [en 16 (by omega), ne 17 (by omega), decide_eq_false (by omega), cond_false, decide_eq_true (by omega), cond_true]
    by_cases h18 : o = 18 ∨ o = 20 ∨ o = 34
    · have m57 : ∀ k2 k71 v3, F_140_136 G t k2 k71 (nI f) (nI v3) (nI o) a T = F_140_157 G t k2 k71 (nI f) (nI v3) (nI o) a T := fun k2 k71 v3 => by
        unfold F_140_136
        rw [en 18 (by omega), en 20 (by omega), ne 34 (by omega)]
        rcases h18 with rfl | rfl | rfl
        · rfl
        · rfl
        · rfl
      by_cases h34 : o = 34
      · subst h34
        have c19 : F_19 G t (nI f) (nI 34) a S = (bif jcmp .lt a 0 then (some ((nI 0), S)) else (bif jcmp .ge a (S.1 1 0 0 6) then (some ((nI 0), S)) else (jif (jin a 32) (bif jcmp .ne (S.1 2 0 0 a.toNatClampNeg) (nI 1) then (some ((nI 0), S)) else (some ((nI 1), S)))))) := rfl
        rw [c19]
        rcases le_or a 1 (by omega) with c | ⟨j, j2, rfl⟩
        · refine ⟨0, by omega, ?_, fun z => by omega, fun k2 k71 v3 => ?_⟩
          · rw [c, cond_true]
          · rw [mm, m57, if_neg (by omega)]
            unfold F_140_157
            rw [c, cond_true]
        · have l1 : jcmp .lt (nI j) 0 = false := by
            show jcmp .lt (nI j) (nI 0) = false
            rw [jcLT (by omega) (by omega)]; exact decide_eq_false (by omega)
          by_cases cj : j < F
          · obtain ⟨⟨y1, y2, y3, y4⟩, _⟩ := pf j cj
            by_cases c1 : P.1 j = 1
            · refine ⟨1, by omega, ?_, fun _ => ⟨fun z => by omega, fun _ => ⟨j, rfl, cj⟩, fun _ => ⟨j, rfl, cj, c1⟩⟩, fun k2 k71 v3 => ?_⟩
              · rw [l1, cond_false, p1, jcGE (by omega) (by omega), decide_eq_false (by omega), cond_false, jif_true (jin_N (by omega) (by omega)), nI_clamp (by omega), y1, c1]
                rfl
              · rw [mm, m57, if_pos rfl]
                unfold F_140_157 F_140_173 F_140_193
                rw [l1, cond_false, p2, jcLT (by omega) (by omega), decide_eq_true cj, cond_true, show jcmp .ne (nI 34) (nI 34) = false from by decide, cond_false, jif_true (jin_N (by omega) (by omega)), nI_clamp (by omega), y2, c1, show jcmp .eq (nI 1) (nI 1) = true from by decide, cond_true, nI_1']
            · refine ⟨0, by omega, ?_, fun z => by omega, fun k2 k71 v3 => ?_⟩
              · rw [l1, cond_false, p1, jcGE (by omega) (by omega), decide_eq_false (by omega), cond_false, jif_true (jin_N (by omega) (by omega)), nI_clamp (by omega), y1, jcNE (by omega) (by omega), decide_eq_true c1, cond_true]
              · rw [mm, m57, if_neg (by omega)]
                unfold F_140_157 F_140_173 F_140_193
                rw [l1, cond_false, p2, jcLT (by omega) (by omega), decide_eq_true cj, cond_true, show jcmp .ne (nI 34) (nI 34) = false from by decide, cond_false, jif_true (jin_N (by omega) (by omega)), nI_clamp (by omega), y2, jcEQ (by omega) (by omega), decide_eq_false c1, cond_false]
          · refine ⟨0, by omega, ?_, fun z => by omega, fun k2 k71 v3 => ?_⟩
            · rw [l1, cond_false, p1, jcGE (by omega) (by omega), decide_eq_true (by omega), cond_true]
            · rw [mm, m57, if_neg (by omega)]
              unfold F_140_157
              rw [l1, cond_false, p2, jcLT (by omega) (by omega), decide_eq_false cj, cond_false]
      · have c19 : F_19 G t (nI f) (nI o) a S = F_19_72 G t a S := by
          have : o = 18 ∨ o = 20 := by omega
          rcases this with rfl | rfl
          · rfl
          · rfl
        rw [c19]
        rcases le_or a 1 (by omega) with c | ⟨j, j2, rfl⟩
        · refine ⟨0, by omega, ?_, fun z => by omega, fun k2 k71 v3 => ?_⟩
          · unfold F_19_72
            rw [c, cond_true]
          · rw [mm, m57, if_neg (by omega)]
            unfold F_140_157
            rw [c, cond_true]
        · have l1 : jcmp .lt (nI j) 0 = false := by
            show jcmp .lt (nI j) (nI 0) = false
            rw [jcLT (by omega) (by omega)]; exact decide_eq_false (by omega)
          by_cases cj : j < F
          · refine ⟨1, by omega, ?_, fun _ => ⟨fun z => by omega, fun _ => ⟨j, rfl, cj⟩, fun z => by omega⟩, fun k2 k71 v3 => ?_⟩
            · unfold F_19_72
              rw [l1, cond_false, p1, jcGE (by omega) (by omega), decide_eq_false (by omega), cond_false]
            · rw [mm, m57, if_pos rfl]
              unfold F_140_157
              rw [l1, cond_false, p2, jcLT (by omega) (by omega), decide_eq_true cj, cond_true]
              exact m73 k2 k71 v3 h34
          · refine ⟨0, by omega, ?_, fun z => by omega, fun k2 k71 v3 => ?_⟩
            · unfold F_19_72
              rw [l1, cond_false, p1, jcGE (by omega) (by omega), decide_eq_true (by omega), cond_true]
            · rw [mm, m57, if_neg (by omega)]
              unfold F_140_157
              rw [l1, cond_false, p2, jcLT (by omega) (by omega), decide_eq_false cj, cond_false]
    · refine ⟨1, by omega, ?_, fun _ => ⟨fun z => by omega, fun z => by omega, fun z => by omega⟩, fun k2 k71 v3 => ?_⟩
      · unfold F_19
        rw [eqI 16 (by omega), eqI 17 (by omega), eqI 18 (by omega), eqI 20 (by omega), eqI 34 (by omega), decide_eq_false (by omega), cond_false, decide_eq_false (by omega), cond_false, decide_eq_false (by omega), cond_false, decide_eq_false (by omega), cond_false, decide_eq_false (by omega), cond_false]
      · rw [mm, if_pos rfl]
        exact m36 k2 k71 v3 (by omega) (by omega) (by omega)
set_option maxHeartbeats 4000000 in
set_option linter.unusedSimpArgs false in
theorem l_20 {L fi : Nat} (pg : pgR S T F N P) (hf : f < F) (hL : P.2.2.2.1 f = L) (hfi : P.2.2.1 f = fi) (K : Int32 → sS → Option (Int32 × sS)) (K' : Int32 → sS → Option (Int32 × sS)) : ∀ w i tt tt', i + w = L → w < tt → w < tt' →
    (F_20_22 G t K tt (nI f) (nI i) S = K (nI (f + 1)) S ∧ F_140_71 G t K' tt' (nI f) (nI (fi + i)) T = K' (nI (f + 1)) T ∧ ∀ k, i ≤ k → k < L → inO F P L (P.2.2.2.2.1 (fi + k)) (P.2.2.2.2.2 (fi + k))) ∨
    (F_20_22 G t K tt (nI f) (nI i) S = some (nI 0, S) ∧ F_140_71 G t K' tt' (nI f) (nI (fi + i)) T = some (nI 0, T)) := by
  have ia := fun (o : Nat) (a : Int32) (ho : o ≤ 36) => in_all (G := G) (t := t) (a := a) pg hf ho hL
  obtain ⟨⟨p1, p2, p3⟩, ⟨n1, n2, n3⟩, pf, pi, pz⟩ := pg
  obtain ⟨_, _, ⟨q7, q8⟩, ⟨q9, q10, q11⟩⟩ := pf f hf
  rw [hL] at q9 q10 q11
  rw [hfi] at q7 q8 q11
  have f32 : f < 32 := by omega
  have jf : jin (nI f) 32 = true := jin_N (by omega) (by omega)
  have fc : (nI f).toNatClampNeg = f := nI_clamp (by omega)
  intro w
  induction w with
  | zero =>
    intro i tt tt' h1 h2 h3
    obtain ⟨u, rfl⟩ : ∃ u, tt = u + 1 := ⟨tt - 1, by omega⟩
    obtain ⟨u', rfl⟩ : ∃ u', tt' = u' + 1 := ⟨tt' - 1, by omega⟩
    have : i = L := by omega
    subst this
    refine Or.inl ⟨?_, ?_, fun k z z' => by omega⟩
    · rw [F_20_22]
      dsimp only
      rw [jif_true jf, fc, q9, jcGE (by omega) (by omega), decide_eq_true (by omega), cond_true, nI_1']
    · rw [F_140_71]
      dsimp only
      rw [jif_true jf, jif_true jf, fc, q8, q10, nI_add, jcGE (by omega) (by omega), decide_eq_true (by omega), cond_true, nI_1']
  | succ w ih =>
    intro i tt tt' h1 h2 h3
    obtain ⟨u, rfl⟩ : ∃ u, tt = u + 1 := ⟨tt - 1, by omega⟩
    obtain ⟨u', rfl⟩ : ∃ u', tt' = u' + 1 := ⟨tt' - 1, by omega⟩
    obtain ⟨⟨i1, i2, i3⟩, i4, i5⟩ := pi (fi + i) (by omega)
    obtain ⟨k, k1, k2, k3, k4⟩ := ia _ (P.2.2.2.2.2 (fi + i)) i3
    have ji : jin (nI (fi + i)) 1500 = true := jin_N (by omega) (by omega)
    have ci : (nI (fi + i)).toNatClampNeg = fi + i := nI_clamp (by omega)
    have eC : F_20_22 G t K (u + 1) (nI f) (nI i) S = bif jcmp .ne (nI k) 0 then (F_20_22 G t K u (nI f) (nI (i + 1)) S) else (some ((nI 0), S)) := by
      rw [F_20_22]
      dsimp only
      rw [jif_true jf, fc, q9, jcGE (by omega) (by omega), decide_eq_false (by omega), cond_false, jif_true jf, q7, nI_add, jif_true ji, jif_true jf, jif_true ji, ci, i1, i4, k2, bdS, nI_1']
    have eM : F_140_71 G t K' (u' + 1) (nI f) (nI (fi + i)) T = mLk G t K' (F_140_71 G t K' u') f (fi + i) (P.2.2.2.2.1 (fi + i)) (P.2.2.2.2.2 (fi + i)) T := by
      rw [F_140_71]
      dsimp only
      rw [jif_true jf, jif_true jf, fc, q8, q10, nI_add, jcGE (by omega) (by omega), decide_eq_false (by omega), cond_false, jif_true ji, jif_true ji, ci, i2, i5]
      rfl
    rw [eC, eM, k4]
    by_cases ck : k = 1
    · subst ck
      rw [if_pos rfl, show jcmp .ne (nI 1) 0 = true from by decide, cond_true, show fi + i + 1 = fi + (i + 1) by omega]
      rcases ih (i + 1) u u' (by omega) (by omega) (by omega) with ⟨x1, x2, x3⟩ | x
      · refine Or.inl ⟨x1, x2, fun k z z' => ?_⟩
        by_cases ci : k = i
        · subst ci; exact k3 rfl
        · exact x3 k (by omega) z'
      · exact Or.inr x
    · have : k = 0 := by omega
      subst this
      rw [if_neg (by omega)]
      exact Or.inr ⟨rfl, rfl⟩
end WHO
