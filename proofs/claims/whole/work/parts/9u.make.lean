/-! The collector after an object was made. -/
section MAK2
variable {φ φ' : Nat → Nat} {D D' : Nat → Prop} {F N : Nat} {P : aP} {S S' T T' : sS} {A : aS} {r s d p f pc n m e b k y : Nat} {G : jG} {t j : Nat} {kd cl : Nat → Nat} {fl : List Nat}
theorem usC_full {kd cl : Nat → Nat} : ∀ n, (∀ h, h < n → kd h ≠ 0 ∧ 2 ≤ cl h) → 2 * n ≤ usC kd cl n := by
  intro n
  induction n with
  | zero => intro _; exact Nat.zero_le _
  | succ n ih =>
    intro h
    have a := ih (fun x hx => h x (by omega))
    have b := h n (by omega)
    rw [usC_s, if_neg b.1]
    omega
/-! where there are cells, there is a free place -/
theorem hpR.free (H : hpR S kd cl fl) (hU : usC kd cl 600 < 1200) : fl ≠ [] := by
  intro c
  subst c
  have := usC_full (kd := kd) (cl := cl) 600 (fun h hh => by
    have k0 : kd h ≠ 0 := fun z => by
      have := (H.2.1.2.2.2 h).mpr ⟨hh, z⟩
      cases this
    refine ⟨k0, ?_⟩
    rcases H.1 h hh with ⟨_, z⟩ | ⟨p, _, _, _, _, z⟩
    · exact absurd z k0
    · obtain ⟨w, _, _, _, z, _⟩ := z k0
      exact z)
  omega
theorem mkR.ot {x z w c U O L y q t : Nat} (M : mkR S S' x p k z w c U O L) (ow : own S) (hy : y ≠ x) (hp : S.2.2.1.2 y = some q) : q ≠ p ∧ S'.2.2.1.2 y = some q ∧ (∀ t j, 27 ≤ t → t ≤ 32 → S'.1 t q j = S.1 t q j ∧ S'.2.1 t q j = S.2.1 t q j) := by
  have np : q ≠ p := fun z => M.2.1.1 y hy (z ▸ hp)
  exact ⟨np, by rw [M.1.2.2.1 y hy]; exact hp, fun t j h1 h2 => M.2.2.1 t q j (by omega)⟩
theorem mkR.rf {x z w c U O L : Nat} (M : mkR S S' x p k z w c U O L) (ow : own S) {h : Nat} (hh : h ≠ x) (g : Nat) : rfC S' h g ↔ rfC S h g := by
  constructor
  · rintro ⟨q, w', i, h1, h2⟩
    have h1' := h1
    rw [M.1.2.2.1 h hh] at h1'
    obtain ⟨a, b, c⟩ := M.ot (t := 0) ow hh h1'
    rw [(c 29 4 (by omega) (by omega)).1, (c 31 4 (by omega) (by omega)).1] at h2
    exact ⟨q, w', i, h1', h2⟩
  · rintro ⟨q, w', i, h1, h2⟩
    obtain ⟨a, b, c⟩ := M.ot (t := 0) ow hh h1
    refine ⟨q, w', i, b, ?_⟩
    rw [(c 29 4 (by omega) (by omega)).1, (c 31 4 (by omega) (by omega)).1]
    exact h2
theorem mkR.no {x z w c U O L : Nat} (M : mkR S S' x p k z w c U O L) (hw : w ≤ 16) (g : Nat) (hg : g < 600) : ¬ rfC S' x g := by
  rintro ⟨q, w', i, h1, h2, h3, h4, h5, h6⟩
  rw [M.1.2.1] at h1
  cases h1
  rw [M.2.2.2.2.2.1.2.2.2.2] at h2
  have : w = w' := (nI_eq (by omega) (by omega)).mp h2
  subst this
  rw [(M.2.2.2.2.2.2.1 i h4).2] at h5
  have : 0 = g + 2 := (nI_eq (by omega) (by omega)).mp h5
  omega
theorem gcR.make {z U : Nat} (gc : gcR D S) (ow : own S) (hk : k = 2 ∨ k = 3) (hz : z ≤ 16) (hz3 : k = 3 → z ≤ 8) (ht : 100 < t) (h9 : S.1 11 0 0 9 = nI U) (hU2 : U ≤ 1200) (hU : U + (k + z) ≤ 1200) :
    ∃ x p S' c O L, F_83 G t (nI k) (nI z) S = some (nI 1, S) ∧ F_86 G t (nI k) (nI z) S = some (nI (x + 2), S') ∧ x < 600 ∧ ¬ D x ∧ mkR S S' x p k z (if k = 2 then z else 0) c U O L ∧ gcR (fun h => D h ∨ h = x) S' := by
  obtain ⟨kd, cl, co, fl, gl, ro, sw, g1, g2, g3, g4, ⟨g5, g5', g5''⟩, ⟨g6, g6', g6'', g6n, g6m⟩, g7⟩ := gc
  have H : hpR S kd cl fl := ⟨g1, g2, g3⟩
  have eU : usC kd cl 600 = U := (nI_eq (by have := g3.2.2; omega) (by omega)).mp (by rw [← g3.2.1, h9])
  have hro : ro ≤ 2 := by rcases g7 with z | z | z <;> omega
  have hf := H.free (by omega)
  obtain ⟨x, fl', p, S', rfl, hx, hx0, e86, M⟩ := f_86 (G := G) (t := t) (z := z) H ow hk hz ht g5 hro g5' g5'' (by omega) hf
  have hl : 0 < (fl' ++ [x]).length := by rw [List.length_append, List.length_singleton]; omega
  have hl6 : (fl' ++ [x]).length ≤ 600 := nd_len 600 _ g2.2.2.1 (fun y hy => ((g2.2.2.2 y).mp hy).1)
  have e83 := f_83 (G := G) (t := t) (z := z) h9 hU2 g2.1 hl6 hk hz
  rw [if_pos ⟨hU, hl⟩] at e83
  have hD : ¬ D x := fun z => (g4 x z).2 hx0
  have c0 : co x = 0 := by
    rcases g7 with ⟨_, z⟩ | ⟨_, E, _, z2, _, z4, _⟩ | ⟨_, z, _⟩
    · exact z x hx
    · exact Classical.byContradiction (fun c => (z2 x (z4 x hx c)).2 hx0)
    · exact Classical.byContradiction (fun c => (z x hx).2.2 c hx0)
  have hnf : x ∉ fl' := by
    have := g2.2.2.1
    rw [List.nodup_append] at this
    exact fun z => this.2.2 x z x (List.mem_singleton.mpr rfl) rfl
  have hM := M
  rw [eU] at M
  generalize hc : (if ro = 1 ∨ ro = 2 ∧ sw ≤ x then 2 else 0) = c at M hM
  have hw : (if k = 2 then z else 0) ≤ 16 := by
    by_cases c : k = 2
    · rw [if_pos c]; exact hz
    · rw [if_neg c]; omega
  have hc1 : c ≠ 1 ∧ c ≤ 2 := by
    by_cases q : ro = 1 ∨ ro = 2 ∧ sw ≤ x
    · rw [if_pos q] at hc; omega
    · rw [if_neg q] at hc; omega
  obtain ⟨u1, u2⟩ := usC_set (kd := va_up kd x k) (kd' := kd) (cl := va_up cl x (k + z)) (cl' := cl) (x := x) hx0 (by rw [va_up_self]; omega) (fun y hy => ⟨(va_up_ne _ _ hy).symm, (va_up_ne _ _ hy).symm⟩) 600 hx
  rw [va_up_self, eU] at u1
  refine ⟨x, p, S', c, obC kd 600, fl'.length, e83, e86, hx, hD, M, va_up kd x k, va_up cl x (k + z), va_up co x c, fl', gl, ro, sw, fun h hh => ?_, ⟨M.2.2.2.1.1, fun i y hy => ?_, ?_, fun h => ?_⟩, ⟨?_, ?_, by omega⟩, fun h hh => ?_, ⟨?_, ?_, g5''⟩, ⟨fun h hh => ?_, ?_, fun i y hy => ?_, g6n, fun h => ?_⟩, ?_⟩
  · by_cases q : h = x
    · subst q
      rw [va_up_self, va_up_self]
      refine Or.inr ⟨p, M.1.2.1, M.1.2.2.2.2.1, M.2.2.2.2.2.1.1, by omega, fun _ => ⟨_, M.2.2.2.2.2.1.2.2.2.2, hw, M.2.2.2.2.2.1.2.2.1, by omega, ?_, fun i hi => ⟨0, (M.2.2.2.2.2.2.1 i hi).2, by omega⟩⟩⟩
      have := (M.2.2.2.2.2.2.1)
      rcases hk with rfl | rfl
      · omega
      · have := hz3 rfl
        omega
    · rw [va_up_ne _ _ q, va_up_ne _ _ q]
      rcases g1 h hh with ⟨y1, y2⟩ | ⟨p', y1, y2, y3⟩
      · exact Or.inl ⟨by rw [M.1.2.2.1 h q]; exact y1, y2⟩
      · obtain ⟨a, b, c⟩ := M.ot (t := 0) ow q y1
        refine Or.inr ⟨p', b, M.1.2.2.2.2.2 p' y2, ?_⟩
        rw [(c 29 4 (by omega) (by omega)).1, (c 31 4 (by omega) (by omega)).1, (c 32 0 (by omega) (by omega)).1]
        exact y3
  · rw [(M.2.2.1 13 0 0 (by have := M.2.1.2.2; omega)).1]
    refine g2.2.1 i y ?_
    rw [List.getElem?_append]
    by_cases q : i < fl'.length
    · rw [if_pos q]; exact hy
    · rw [List.getElem?_eq_none (by omega)] at hy; cases hy
  · have := g2.2.2.1
    rw [List.nodup_append] at this
    exact this.1
  · have := g2.2.2.2 h
    rw [List.mem_append, List.mem_singleton] at this
    by_cases q : h = x
    · subst q
      rw [va_up_self]
      exact ⟨fun z => absurd z hnf, fun z => by omega⟩
    · rw [va_up_ne _ _ q, ← this]
      exact ⟨Or.inl, fun z => z.elim id (fun z => absurd z q)⟩
  · rw [M.2.2.2.1.2.1, u2]
  · rw [M.2.2.2.1.2.2.1, u1]
  · rcases hh with hh | rfl
    · have := g4 h hh
      refine ⟨this.1, ?_⟩
      rw [va_up_ne _ _ (fun q : h = x => hD (q ▸ hh))]
      exact this.2
    · refine ⟨hx, ?_⟩
      rw [va_up_self]
      omega
  · rw [M.2.2.2.1.2.2.2.2.1]; exact g5
  · rw [M.2.2.2.1.2.2.2.2.2]; exact g5'
  · by_cases q : h = x
    · subst q
      rw [va_up_self]
      exact ⟨M.2.2.2.2.1.1, hc1.2⟩
    · rw [va_up_ne _ _ q, M.2.2.2.2.1.2 h q]
      exact g6 h hh
  · rw [(M.2.2.1 15 0 0 (by have := M.2.1.2.2; omega)).1]; exact g6'
  · rw [(M.2.2.1 17 0 0 (by have := M.2.1.2.2; omega)).1]; exact g6'' i y hy
  · rw [g6m]
    by_cases q : h = x
    · subst q
      rw [va_up_self, c0]
      exact ⟨fun z => by omega, fun z => by omega⟩
    · rw [va_up_ne _ _ q]
  · rcases g7 with ⟨z1, z2⟩ | ⟨z1, E, z2, z3, z4, z5, z6⟩ | ⟨z1, z2, z3⟩
    · refine Or.inl ⟨z1, fun h hh => ?_⟩
      rw [if_neg (by omega)] at hc
      by_cases q : h = x
      · subst q; rw [va_up_self]; exact hc.symm
      · rw [va_up_ne _ _ q]; exact z2 h hh
    · rw [if_pos (Or.inl z1)] at hc
      have nE : ¬ E x := fun z => (z3 x z).2 hx0
      refine Or.inr (Or.inl ⟨z1, fun h => E h ∨ h = x, fun h hh => hh.imp (z2 h) id, fun h hh => ?_, fun h g hh rf => ?_, fun h hh hc' => ?_, fun h hh => ?_⟩)
      · rcases hh with hh | rfl
        · rw [va_up_ne _ _ (fun q : h = x => nE (q ▸ hh))]
          exact z3 h hh
        · rw [va_up_self]
          exact ⟨hx, by omega⟩
      · rcases hh with hh | rfl
        · exact Or.inl (z4 h g hh ((M.rf ow (fun q => nE (q ▸ hh)) g).mp rf))
        · obtain ⟨_, _, _, _, _, _, _, _, g6⟩ := id rf
          exact absurd rf (M.no hw g g6)
      · by_cases q : h = x
        · exact Or.inr q
        · rw [va_up_ne _ _ q] at hc'
          exact Or.inl (z5 h hh hc')
      · rcases hh with hh | rfl
        · have nx : h ≠ x := fun q => nE (q ▸ hh)
          rw [va_up_ne _ _ nx]
          rcases z6 h hh with y | y
          · exact Or.inl y
          · refine Or.inr (fun X x1 x2 => ?_)
            refine (y (fun g => X g ∧ E g) (fun g g6 gc => ⟨x1 g g6 ?_, z5 g g6 (by omega)⟩) (fun g x' hg rf x6 cx => ⟨x2 g x' hg.1 ((M.rf ow (fun q => nE (q ▸ hg.2)) x').mpr rf) x6 ?_, z4 g x' hg.2 rf⟩)).1
            · rw [va_up_ne _ _ (fun q => by rw [q, c0] at gc; omega)]
              exact gc
            · rw [va_up_ne _ _ (fun q : x' = x => nE (q ▸ z4 g x' hg.2 rf))]
              exact cx
        · rw [va_up_self]
          exact Or.inl hc.symm
    · refine Or.inr (Or.inr ⟨z1, fun h hh => ?_, fun h hh hs => ?_⟩)
      · by_cases q : h = x
        · subst q
          rw [va_up_self, va_up_self]
          refine ⟨hc1.1, fun z => ?_, fun _ => by omega⟩
          rw [if_neg (by omega)] at hc
          exact hc.symm
        · rw [va_up_ne _ _ q, va_up_ne _ _ q]
          exact z2 h hh
      · rcases hh with hh | rfl
        · rw [va_up_ne _ _ (fun q : h = x => hD (q ▸ hh))]
          exact z3 h hh hs
        · rw [va_up_self]
          rw [if_pos (Or.inr ⟨z1, hs⟩)] at hc
          exact hc.symm
end MAK2
