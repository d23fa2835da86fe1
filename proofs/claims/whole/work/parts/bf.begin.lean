/-! begin, as a call. -/
section BG2
variable {φ φ' : Nat → Nat} {D D' : Nat → Prop} {F N : Nat} {P P' : aP} {S S' T T' T1 : sS} {A : aS} {r s d p f pc n m e b k y g q o F' N' lo : Nat} {G : jG} {t j : Nat} {a : Int32}
def lnT (T : sS) (g : Nat) : sS := siI (siI (siI (meT (siI (siI T 33 0 0 29 (nI 1)) 33 0 0 17 (nI 1)) 0 0 g 0) 54 0 0 0 (nI 1)) 33 0 0 22 (nI 1)) 33 0 0 16 (nI 0)
set_option maxHeartbeats 4000000 in
set_option linter.unusedSimpArgs false in
theorem launch (ht : 2000 < t) (w : wR φ (fun _ => False) F N P S T (A0 o)) (gc : gcR (fun _ => False) S) (wh : whR F P ∧ whS F P) (hg : g < F) (hg0 : P.1 g = 0) (h87 : S.1 8 0 0 7 = nI 0) (h20 : T.1 33 0 0 20 = nI 0) : ∃ S', F_33 G t (nI g) S = some ((), S') ∧ runR φ (fun _ => False) F N P S' (lnT T g) (aset (A0 o) 0 1 1 (fun _ => (g, 0, 0, 0, 0))) 0 ∧ ∀ x, rmR S x → rmR S' x := by
  obtain ⟨⟨F1, F2, F3⟩, _, pg, _⟩ := w.1.1
  obtain ⟨⟨b1, b2, b3, b4⟩, ⟨b5, b6, b7⟩, _⟩ := pg g hg
  obtain ⟨⟨l, hl, _⟩, _⟩ := wh.1 g hg
  have ow := w.2.2.2.2.2.2.2.2.2
  obtain ⟨z1, ⟨z2, z2', _⟩, ⟨z3, z3', _⟩, _⟩ := id (w.2.1 0 (by omega))
  obtain ⟨qa, qa1, qa2, qa3, qa4, qa5, qa6⟩ := w.2.2.2.2.2.1
  have q3 : S.1 8 0 0 4 = nI 0 := qa3
  have q4 : T.1 33 0 0 15 = nI 0 := qa4
  have d1 : S.1 25 0 0 4 = nI 0 := z2
  have rn : ∀ t' i' j' k', ¬ (t' = 25 ∧ i' = 0 ∧ j' = 0) → (rnS S 0).1 t' i' j' k' = S.1 t' i' j' k' := fun t' i' j' k' c => by
    unfold rnS
    rw [gL1, siI_ne _ _ _ c, siI_ne _ _ _ c]
  have sc := w.2.2.2.2.2.2.2.1
  obtain ⟨p', S1, hF, en⟩ := f_29 (G := G) (t := t) (S := rnS S 0) (s := 0) (dp := 0) (f := g) (lo := P.2.1 g) (pa := P.1 g) (q := 0) (kq := 5) (a := 0) (sz := 16) (F := F) (by omega) (by omega) (by omega) (ow.same rfl) (by rw [rn _ _ _ _ (by omega)]; exact F1) F3 hg (by rw [rn _ _ _ _ (by omega)]; exact b1) (by rw [rn _ _ _ _ (by omega)]; exact b5) b4 b7 rfl (by rw [rn _ _ _ _ (by omega)]; exact w.2.2.1.1) (by decide) (by omega) (fun z => by omega) ow.2.2.2.2.2.2 (by
    unfold rnS
    rw [gL1, gI, if_neg (by omega), siI_at])
  have eag := en.2.2.1
  have s1 : ∀ t' i' j', ¬ (t' = 25 ∧ i' = 0 ∧ j' = 0) → ¬ (27 ≤ t' ∧ t' ≤ 32 ∧ i' = p') → S1.1 t' i' j' = S.1 t' i' j' := fun t' i' j' c c2 => by
    rw [(eag t' i' j' (by omega)).1]
    funext k'
    exact rn t' i' j' k' c
  have e8 : S1.1 8 0 0 = S.1 8 0 0 := s1 8 0 0 (by omega) (by omega)
  have c22 : S.1 8 0 0 7 = T.1 33 0 0 22 := sc.2.2.1
  have rn1 : (rnS S 0).1 25 0 0 1 = nI 0 := by
    unfold rnS
    rw [gL1, gI, if_neg (by omega), gI, if_neg (by omega)]
    exact z1
  have rn4 : (rnS S 0).1 25 0 0 4 = nI 1 := by unfold rnS; rw [gL1, siI_at]
  have ec31 := e31b (G := G) (t := t) (g := nI g) (a := nI 0) (tt := t - 1) (qa := qa) (S1 := S1) qa2 d1 hF (by rw [gI, if_neg (by omega), e8]; exact qa1) (by rw [gI, if_neg (by omega), e8]; exact q3) (by
    rw [siI_ne _ _ _ (by omega), en.2.2.2.1.1, if_neg (by omega)]
    exact rn1)
  rw [show t - 1 + 1 = t by omega] at ec31
  have s25 : S1.1 25 0 0 4 = nI 1 := by rw [en.2.2.2.1.1, if_neg (by omega)]; exact rn4
  -- the model's frame
  have u1 := f_142 (G := G) (t := t) (T := T) (s := 0) (dp := 0) (f := g) (b := 0) (by omega) (by omega) (by omega) (by omega) z3'
  have kz : kp S S1 0 := by
    have k0 : kp S (rnS S 0) 0 := by
      have ag0 : agr (fun t i j => t = 25 ∧ i = 0 ∧ j = 0) S (rnS S 0) := agr.l (agr.i (agr.i (agr.refl _ _) _ _ (by omega)) _ _ (by omega)) _ _ (by omega)
      refine ⟨fun t i j c c2 => ag0 t i j c, fun s' d p c c2 t j u v => ag0 t p j (by omega), fun h p c t j u v => ag0 t p j (by omega), fun t j u v => ag0 t 0 j (by omega), fun _ _ _ => rfl, rfl, fun _ c => c, rfl, fun k' c c2 => ?_⟩
      unfold rnS
      rw [gL1, gI, if_neg (by omega), gI, if_neg (by omega)]
    refine k0.trans (kp.of (ow.same rfl) (fun s' d' c => (en.2.1.1 s' d' c).1) en.1.2.2.2.2.2.2 en.2.1.2 en.2.2.1 (fun s' d' c => en.1.2.1 s' d' (by omega)) en.1.2.2.1 en.1.2.2.2.1 en.1.2.2.2.2.1 (fun k' c c2 => ?_))
    rw [en.2.2.2.1.1, if_neg c]
  have aM := meT_ag T 0 0 g 0
  have mz : km T (siI (meT T 0 0 g 0) 54 0 0 0 (nI 1)) 0 := by
    refine ⟨(aM.mono (fun t i j c => by omega)).trans (agr.i (agr.refl _ _) _ _ (by omega)), fun k' c => by rw [siI_ne _ _ _ (by omega), (aM 33 0 0 (by omega)).1], by rw [gI2, (aM 33 0 0 (by omega)).2], ?_, ?_⟩
    · rw [gI2, meT_2]
    · rw [gI2]
      unfold meT
      rw [mzT_L _ _ _ (by omega)]
      rfl
  have R0 : stR φ (fun _ => False) F P S1 (siI (meT T 0 0 g 0) 54 0 0 0 (nI 1)) 0 1 1 (fun _ => (g, 0, 0, 0, 0)) := by
    refine ⟨by rw [en.2.2.2.1.1, if_neg (by omega)]; exact rn1, ⟨s25, siI_at _ _ _ _ _ _, by omega⟩, ⟨by rw [en.2.2.2.1.1, if_pos rfl], by rw [gI, if_neg (by omega), meT_54, if_pos rfl], by omega⟩, by omega, fun _ => ?_, fun c => by omega, fun y hy => ?_, fun y hy => by omega⟩
    · rw [en.2.2.2.1.2]
      unfold rnS
      rw [gL, if_pos ⟨rfl, rfl, rfl, rfl⟩]
    · have : y = 0 := by omega
      subst this
      refine ⟨p', en.1.1, ?_⟩
      show frR φ (fun _ => False) F P _ p' (siI (meT T 0 0 g 0) 54 0 0 0 (nI 1)) 0 0 g 0 0 0 0 0
      refine frR.keep (T := meT T 0 0 g 0) ?_ en.1.2.2.2.2.2.1 (fun _ _ _ _ _ => ⟨rfl, rfl⟩) (fun t _ _ => ⟨siI_ne _ _ _ (by omega), rfl⟩)
      refine frR.new (q := 0) (kq := 0) (a := 0) en.2.2.2.2.1 en.1.2.2.2.2.2.1 hg (meT_56 T 0 0 g 0) (by omega) (fun i hi => ?_)
      obtain ⟨x1, x2⟩ := en.2.2.2.2.2.1
      rw [(x2 i (by omega) hi).1, (x2 i (by omega) hi).2]
      obtain ⟨y1, y2⟩ := meT_z T 0 0 g 0 i (by omega)
      rw [y1, y2]
      exact Or.inl ⟨rfl, rfl, rfl⟩
  have w2 := w.one (by omega) kz mz en.2.2.2.2.2.2.1 R0 (by omega)
  -- numbers and the queue
  have eL : luS (siI S1 8 0 0 7 (S1.1 8 0 0 7 + nI 1)) 0 qa 0 = siI (siI (siI S1 8 0 0 7 (S1.1 8 0 0 7 + nI 1)) 10 0 0 qa (nI 0)) 8 0 0 4 (nI 1) := by
    unfold luS
    rw [siI_id (siI S1 8 0 0 7 (S1.1 8 0 0 7 + nI 1)) 25 0 0 4 (by rw [siI_ne _ _ _ (by omega)]; exact s25), Nat.add_zero, Nat.mod_eq_of_lt qa2]
  rw [eL] at ec31
  generalize hS2 : siI (siI (siI S1 8 0 0 7 (S1.1 8 0 0 7 + nI 1)) 10 0 0 qa (nI 0)) 8 0 0 4 (nI 1) = S2 at ec31
  have aS2 : agr (fun t i j => t = 8 ∨ t = 10) S1 S2 := by
    subst hS2
    exact agr.i (agr.i (agr.i (agr.refl _ _) _ _ (by omega)) _ _ (by omega)) _ _ (by omega)
  have e32 := f_32 (G := G) (t := t) (S := S2) (x := 0) (a := qa) (L := 0) (by subst hS2; simp [gI]) (by omega) (by subst hS2; simp [gI, e8, qa1]) qa2 (by subst hS2; simp [gI])
  have e33 : F_33 G t (nI g) S = some ((), siI (nxS S2 0 qa 0) 23 0 0 7 (nI 1)) := by
    unfold F_33 F_31
    rw [ec31, bdS, e32, bdS]
  have aF : agr (fun t i j => t = 8 ∨ t = 10 ∨ t = 23) S1 (siI (nxS S2 0 qa 0) 23 0 0 7 (nI 1)) := (aS2.mono (fun t i j z => by omega)).trans (agr.i (agr.i (agr.i (agr.i (agr.i (agr.refl _ _) _ _ (by omega)) _ _ (by omega)) _ _ (by omega)) _ _ (by omega)) _ _ (by omega))
  have xF : (siI (nxS S2 0 qa 0) 23 0 0 7 (nI 1)).2.2 = S1.2.2 := by subst hS2; rfl
  have f8 : ∀ k, (siI (nxS S2 0 qa 0) 23 0 0 7 (nI 1)).1 8 0 0 k = if k = 4 then nI 0 else if k = 3 then nI ((qa + 1) % 16) else if k = 5 then nI 0 else if k = 6 then nI 0 else if k = 7 then S.1 8 0 0 7 + nI 1 else S.1 8 0 0 k := fun k => by
    subst hS2
    unfold nxS
    simp only [gI, e8]
    by_cases a1 : k = 4
    · subst a1; simp
    · by_cases a2 : k = 3
      · subst a2; simp
      · by_cases a3 : k = 5
        · subst a3; simp
        · by_cases a4 : k = 6
          · subst a4; simp
          · by_cases a5 : k = 7
            · subst a5; simp
            · simp [a1, a2, a3, a4, a5]
  have f23 : ∀ k, (siI (nxS S2 0 qa 0) 23 0 0 7 (nI 1)).1 23 0 0 k = if k = 7 then nI 1 else S.1 23 0 0 k := fun k => by
    rw [gI, ← s1 23 0 0 (by omega) (by omega)]
    have : (nxS S2 0 qa 0).1 23 0 0 = S1.1 23 0 0 := by
      unfold nxS
      rw [siI_ne _ _ _ (by omega), siI_ne _ _ _ (by omega), siI_ne _ _ _ (by omega), siI_ne _ _ _ (by omega), (aS2 23 0 0 (by omega)).1]
    rw [this]
    simp
  have aT0 : agr (fun t i j => t = 33) T (siI (siI T 33 0 0 29 (nI 1)) 33 0 0 17 (nI 1)) := agr.i (agr.i (agr.refl _ _) _ _ rfl) _ _ rfl
  have aT : agr (fun t i j => t = 33) (siI (meT T 0 0 g 0) 54 0 0 0 (nI 1)) (lnT T g) := ((meT_c aT0 0 0 g 0).ci 54 0 0 0 (nI 1)).trans (agr.i (agr.i (agr.refl _ _) _ _ rfl) _ _ rfl)
  have f33 : ∀ k, (lnT T g).1 33 0 0 k = if k = 16 then nI 0 else if k = 22 then nI 1 else if k = 17 then nI 1 else if k = 29 then nI 1 else T.1 33 0 0 k := fun k => by
    unfold lnT
    rw [gI, gI, siI_ne _ _ _ (by omega), (meT_ag _ 0 0 g 0 33 0 0 (by omega)).1, gI, gI]
    simp
  have wF : wR φ (fun _ => False) F N P (siI (nxS S2 0 qa 0) 23 0 0 7 (nI 1)) (lnT T g) (aset (A0 o) 0 1 1 (fun _ => (g, 0, 0, 0, 0))) ∧ hk S1 (siI (nxS S2 0 qa 0) 23 0 0 7 (nI 1)) := by
    have xL : (lnT T g).2.1 33 0 0 = (siI (meT T 0 0 g 0) 54 0 0 0 (nI 1)).2.1 33 0 0 := by
      show (meT (siI (siI T 33 0 0 29 (nI 1)) 33 0 0 17 (nI 1)) 0 0 g 0).2.1 33 0 0 = (meT T 0 0 g 0).2.1 33 0 0
      rw [(meT_ag _ 0 0 g 0 33 0 0 (by omega)).2, (meT_ag _ 0 0 g 0 33 0 0 (by omega)).2]
      rfl
    have m33 : ∀ k, (siI (meT T 0 0 g 0) 54 0 0 0 (nI 1)).1 33 0 0 k = T.1 33 0 0 k := fun k => by
      rw [siI_ne _ _ _ (by omega), (meT_ag _ 0 0 g 0 33 0 0 (by omega)).1]
    have wr := w2.2.2.2.2.2.2.2.2.1
    obtain ⟨c1, c2, c3, c4, c5, c6, c7, c8⟩ := sc
    refine w2.wld (Q := []) (aF.mono (fun t i j z => by omega)) xF (aT.mono (fun t i j z => by omega)) ⟨?_, ?_⟩ (w2.2.2.1.keep (fun t x y => aF t 0 5 (by omega)) ⟨(aT 36 0 0 (by omega)).1, (aT 43 0 0 (by omega)).2⟩) ⟨(qa + 1) % 16, ?_, by omega, ?_, ?_, by show 0 ≤ 16; omega, fun i x hx => by cases hx⟩ ⟨?_, by rw [xL]⟩ ?_ (wr.keep ⟨?_, ?_, (aF 24 0 0 (by omega)).2⟩ ⟨?_, (aT 44 0 0 (by omega)).2⟩)
    · rw [f33, m33]; rfl
    · rw [f33, m33]; rfl
    · rw [f8]; rfl
    · rw [f8]; rfl
    · rw [f33]; exact q4
    · rw [f8, e8]; rfl
    · unfold scaR
      rw [f8, f8, f8, f23, f23, f23, f23, f33, f33, f33, f33, f33, f33, f33, f33, (aF 11 0 0 (by omega)).1, s1 11 0 0 (by omega) (by omega), h87]
      exact ⟨rfl, h20.symm, rfl, c4, c5, c6, c7, rfl⟩
    · rw [f23, s1 23 0 0 (by omega) (by omega)]; rfl
    · rw [f23, s1 23 0 0 (by omega) (by omega)]; rfl
    · rw [f33, m33]; rfl
  refine ⟨_, e33, ⟨wF.1, (gc.keep kz.hk).keep wF.2, ⟨fun s hs _ => ?_, ?_, fun s => ?_, ?_⟩, wh, by omega, aset_1 _ _ _ _ _, ?_, ?_, ?_⟩, fun x hx => ?_⟩
  · by_cases c : s = 0
    · subst c
      rw [aset_2, aset_3]
      intro d hd
      refine ⟨rfl, ?_⟩
      show 0 < P.2.2.2.1 g
      omega
    · rw [aset_2n _ _ _ _ c, aset_3n _ _ _ _ c]
      intro d hd
      have : 0 = d + 1 := hd
      omega
  · exact List.nodup_nil
  · refine ⟨fun z => (by cases z), fun z => ?_⟩
    obtain ⟨z1, z2, z3⟩ := z
    rw [aset_1n _ _ _ _ z3] at z2
    have : 0 = 1 := z2
    omega
  · rw [aset_1]; omega
  · rw [f8]; rfl
  · rw [f23]; rfl
  · rw [aset_1]; omega
  · exact ((en.2.2.2.2.2.2.2.1 x (hx.same rfl))).same xF
set_option maxHeartbeats 4000000 in
set_option linter.unusedSimpArgs false in
theorem c_begin (ht : 2147483648 < t) (v1 : Int32) : ∀ c S T, topR c S T → c < 1000 → ∃ e S' T', F_127 G t v1 S = some (nI e, S') ∧ e ≤ 1 ∧ F_143 G t v1 T = some ((), T') ∧ T'.1 33 0 0 25 = nI e ∧ topR (c + 1) S' T' ∧ ∀ x, rmR S x → ∃ x', x' ≤ x + 1 ∧ rmR S' x' := by
  intro c S T h hc
  obtain ⟨φ, D, F, N, P, A, h1, h2⟩ := id h
  have pg := h1.w.1.1.1
  obtain ⟨⟨p1, p2, p3⟩, ⟨n1, n2, n3⟩, pf, pi, pz⟩ := id pg
  have e25 : ∀ w0, (siI T 33 0 0 25 (nI w0)).1 33 0 0 25 = nI w0 := fun w0 => siI_at _ _ _ _ _ _
  have BAD : F_34 G t v1 S = some (.inr 0, sxc S) → F_143 G t v1 T = F_143_34 G t v1 (nI 1) T → ∃ e S' T', F_127 G t v1 S = some (nI e, S') ∧ e ≤ 1 ∧ F_143 G t v1 T = some ((), T') ∧ T'.1 33 0 0 25 = nI e ∧ topR (c + 1) S' T' ∧ ∀ x, rmR S x → ∃ x', x' ≤ x + 1 ∧ rmR S' x' := fun a1 a2 => by
    refine ⟨1, sxc S, siI T 33 0 0 25 (nI 1), ?_, by omega, ?_, e25 1, ⟨φ, D, F, N, P, A, (h1.exc).er (nI 1), by omega⟩, fun x hx => ⟨x + 1, by omega, hx.exc⟩⟩
    · unfold F_127
      rw [a1, bdS]
      rfl
    · rw [a2]
      unfold F_143_34
      rw [e25]
      rfl
  rcases le_or v1 1 (by omega) with c1 | ⟨g, j2, rfl⟩
  · refine BAD ?_ ?_
    · unfold F_34
      rw [c1, cond_true]
    · unfold F_143 F_143_29
      rw [c1, cond_true]
  · have l1 : jcmp .lt (nI g) 0 = false := by
      show jcmp .lt (nI g) (nI 0) = false
      rw [jcLT (by omega) (by omega)]; exact decide_eq_false (by omega)
    by_cases hg : g < F
    · have l2 : jcmp .ge (nI g) (nI F) = false := by rw [jcGE (by omega) (by omega)]; exact decide_eq_false (by omega)
      obtain ⟨⟨b1, b2, b3, b4⟩, _⟩ := pf g hg
      have e17 := f_17 (G := G) (t := t) p1 p3 hg
      rw [b1] at e17
      by_cases c0 : P.1 g = 0
      · rw [c0] at e17 b2
        obtain ⟨k, k1, k2, k3, k4⟩ := l_whole (G := G) (t := t) (by omega) pg F 0 t t (by omega) (by omega) (by omega)
        have e20 : F_20 G t S = some (nI k, S) := k2
        have e140 : F_140 G t T = some (nI k, T) := k3
        by_cases ck : k = 1
        · subst ck
          have wh := fnO.wh (fun g hg => k4 rfl g (by omega) hg)
          have W := (h1.er (nI 0)).w
          obtain ⟨S1, T1, e1, e2, w1, gc1, x1, y7, y5, lo, h33, ot, y87, y20⟩ := W.1.reset (G := G) (t := t) (by omega) W.2
          obtain ⟨S2, a1, a2, a3⟩ := launch (G := G) (t := t) (by omega) w1 gc1 wh hg c0 y87 y20
          have t54 : T1.1 54 0 0 1 = nI 0 := (w1.2.1 0 (by omega)).2.2.1.2.1
          have u1 := f_142 (G := G) (t := t) (T := siI (siI T1 33 0 0 29 (nI 1)) 33 0 0 17 (nI 1)) (s := 0) (dp := 0) (f := g) (b := 0) (by omega) (by omega) (by omega) (by omega) (by rw [siI_ne _ _ _ (by omega), siI_ne _ _ _ (by omega)]; exact t54)
          have q29 : (lnT T1 g).1 33 0 0 29 = nI 1 := by
            unfold lnT
            rw [gI, if_neg (by omega), gI, if_neg (by omega), siI_ne _ _ _ (by omega), (meT_ag _ 0 0 g 0 33 0 0 (by omega)).1, gI, if_neg (by omega), siI_at]
          have q25 : (lnT T1 g).1 33 0 0 25 = nI 0 := by
            unfold lnT
            rw [gI, if_neg (by omega), gI, if_neg (by omega), siI_ne _ _ _ (by omega), (meT_ag _ 0 0 g 0 33 0 0 (by omega)).1, gI, if_neg (by omega), gI, if_neg (by omega), h33 25 (by omega)]
            exact e25 0
          refine ⟨0, S2, lnT T1 g, ?_, by omega, ?_, q25, ⟨φ, fun _ => False, F, N, P, _, Or.inr ⟨q29, Or.inl ⟨0, a2⟩⟩, ?_⟩, fun x hx => ⟨x, by omega, a3 x (hx.same x1)⟩⟩
          · unfold F_127 F_34
            rw [l1, cond_false, p1, l2, cond_false, e17, bdS]
            dsimp only
            rw [show jcmp .ne (nI 0) 0 = false from by decide, cond_false, e20, bdS]
            dsimp only
            rw [show jcmp .ne (nI 1) 0 = true from by decide, cond_true, e1, bdS]
            dsimp only
            rw [a1, bdS, bdS]
            rfl
          · unfold F_143 F_143_34
            rw [l1, cond_false, p2, l2, cond_false, jif_true (jin_N (by omega) (by omega)), nI_clamp (by omega), b2, show jcmp .ne (nI 0) 0 = false from by decide, cond_false, e140, bdS]
            dsimp only
            rw [show jcmp .ne (nI 1) 0 = true from by decide, cond_true, e25, show jcmp .le (nI 0) 0 = true from by decide, cond_true, e2, bdS]
            show jif (jin (nI 0) 16) ((F_142 G t (0, 0) (nI g) (nI 0) (siI (siI T1 33 0 0 29 (nI 1)) 33 0 0 17 (nI 1))).bind _) = _
            rw [jif_true (jin_N (by omega) (by omega)), u1, bdS, jif_true (jin_N (by omega) (by omega))]
            rfl
          · show 0 + (A.2.2.2.2.2.1 + A.2.2.2.2.2.2) ≤ _
            omega
        · have : k = 0 := by omega
          subst this
          refine BAD ?_ ?_
          · unfold F_34
            rw [l1, cond_false, p1, l2, cond_false, e17, bdS]
            dsimp only
            rw [show jcmp .ne (nI 0) 0 = false from by decide, cond_false, e20, bdS]
            rfl
          · unfold F_143 F_143_29
            rw [l1, cond_false, p2, l2, cond_false, jif_true (jin_N (by omega) (by omega)), nI_clamp (by omega), b2, show jcmp .ne (nI 0) 0 = false from by decide, cond_false, e140, bdS]
            rfl
      · have nz : jcmp .ne (nI (P.1 g)) 0 = true := by
          show jcmp .ne (nI (P.1 g)) (nI 0) = true
          rw [jcNE (by omega) (by omega)]; exact decide_eq_true c0
        refine BAD ?_ ?_
        · unfold F_34
          rw [l1, cond_false, p1, l2, cond_false, e17, bdS]
          dsimp only
          rw [nz, cond_true]
        · unfold F_143 F_143_29
          rw [l1, cond_false, p2, l2, cond_false, jif_true (jin_N (by omega) (by omega)), nI_clamp (by omega), b2, nz, cond_true]
    · have l2 : jcmp .ge (nI g) (nI F) = true := by rw [jcGE (by omega) (by omega)]; exact decide_eq_true (by omega)
      refine BAD ?_ ?_
      · unfold F_34
        rw [l1, cond_false, p1, l2, cond_true]
      · unfold F_143 F_143_29
        rw [l1, cond_false, p2, l2, cond_true]
end BG2
