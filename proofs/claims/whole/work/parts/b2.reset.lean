/-! Anew: what holds then. -/
section RS2
variable {φ φ' : Nat → Nat} {D D' : Nat → Prop} {F N : Nat} {P : aP} {S S' T T' T1 : sS} {A : aS} {r s d p f pc n m e b k y g q o : Nat} {G : jG} {t j : Nat} {a : Int32}
def A0 (o : Nat) : aS := (fun _ => 0, fun _ => 0, fun _ _ => (0, 0, 0, 0, 0), [], fun _ => 0, 0, o)
theorem fresh_w (pg : pgR S T F N P) (pa : pgA F P) (h25 : ∀ s, s < 16 → S.1 25 s 0 1 = nI s ∧ S.1 25 s 0 3 = nI 0 ∧ S.1 25 s 0 4 = nI 0 ∧ S.2.1 25 s 0 7 = 0) (h54 : ∀ s, s < 16 → T.1 54 s 0 0 = nI 0 ∧ T.1 54 s 0 1 = nI 0)
    (g29 : S.1 29 0 5 2 = nI 16) (g30 : ∀ i, i < 16 → (S.2.1 30 0 5 i = 0 ∧ S.1 31 0 5 i = nI 0) ∧ T.1 36 0 0 i = nI 0 ∧ T.2.1 43 0 0 i = 0) (h8 : S.1 8 0 0 3 = nI 0 ∧ S.1 8 0 0 4 = nI 0 ∧ S.1 8 0 0 8 = nI 0 ∧ T.1 33 0 0 15 = nI 0) (h28 : T.2.1 33 0 0 28 = Int64.ofNat o) (sc : scaR S T) (w : S.1 23 0 0 5 = nI 0 ∧ S.1 23 0 0 6 = nI 0 ∧ T.1 33 0 0 24 = nI 0) (ow : own S) :
    wR φ (fun _ => False) F N P S T (A0 o) := by
  refine ⟨⟨pg, pa⟩, fun s hs => ?_, ⟨g29, fun i hi => ?_⟩, fun h hh => absurd hh id, ⟨fun h hh => absurd hh id, fun h h' hh => absurd hh id⟩, ⟨0, h8.1, by omega, h8.2.1, h8.2.2.2, by show 0 ≤ 16; omega, fun i x hx => by cases hx⟩, ⟨⟨h8.2.2.1, by rw [h28]; show _ = Int64.ofNat (0 + o); rw [Nat.zero_add]⟩, fun s hs h2 => by have : 2 ≤ 0 := h2; omega⟩, sc, ⟨0, 0, w.1, by omega, w.2.1, w.2.2, by omega, fun i hi => by omega⟩, ow⟩
  · obtain ⟨a1, a2, a3, a4⟩ := h25 s hs
    obtain ⟨b1, b2⟩ := h54 s hs
    refine ⟨a1, ⟨a3, b1, by show 0 ≤ 6; omega⟩, ⟨a2, b2, by show 0 ≤ 30; omega⟩, ⟨fun _ => Or.inl rfl, fun _ => rfl⟩, fun _ => a4, fun z => by have : 5 ≤ 0 := z; omega, fun d hd => by have : d < 0 := hd; omega, fun d hd => by have : d + 1 < 0 := hd; omega⟩
  · obtain ⟨⟨a1, a2⟩, b1, b2⟩ := g30 i hi
    exact Or.inl ⟨a2, b1, by rw [a1, b2]⟩
theorem fresh_gc {sw : Nat} (th : ∀ h, h < 600 → S.2.2.1.2 h = none ∨ ∃ p, S.2.2.1.2 h = some p ∧ S.2.2.2.1.2 p = true ∧ S.1 32 p 0 1 = nI 0) (h7 : S.1 11 0 0 7 = nI 600) (h8 : S.1 11 0 0 8 = nI 0) (h9 : S.1 11 0 0 9 = nI 0) (h11 : S.1 11 0 0 11 = nI 0) (h12 : S.1 11 0 0 12 = nI sw) (hsw : sw ≤ 600) (h13 : ∀ i, i < 600 → S.1 13 0 0 i = nI (599 - i)) (tr : trS S 0 (fun _ => 0) []) : gcR (fun _ => False) S := by
  have u0 : ∀ n, usC (fun _ => 0) (fun _ => 0) n = 0 ∧ obC (fun _ => 0) n = 0 := by
    intro n
    induction n with
    | zero => exact ⟨rfl, rfl⟩
    | succ n ih => exact ⟨by rw [usC_s, ih.1]; rfl, by rw [obC_s, ih.2]; rfl⟩
  refine ⟨fun _ => 0, fun _ => 0, fun _ => 0, (List.range 600).reverse, [], 0, sw, fun h hh => ?_, ⟨?_, fun i x hx => ?_, ?_, fun h => ?_⟩, ⟨?_, ?_, ?_⟩, fun h hh => absurd hh id, ⟨h11, h12, hsw⟩, tr, Or.inl ⟨rfl, fun _ _ => rfl⟩⟩
  · rcases th h hh with z | ⟨p, z1, z2, z3⟩
    · exact Or.inl ⟨z, rfl⟩
    · exact Or.inr ⟨p, z1, z2, z3, Or.inl rfl, fun z => absurd rfl z⟩
  · rw [List.length_reverse, List.length_range]; exact h7
  · have hi : i < 600 := by
      by_cases c : i < 600
      · exact c
      · rw [List.getElem?_eq_none (by rw [List.length_reverse, List.length_range]; omega)] at hx
        cases hx
    rw [List.getElem?_reverse (by rw [List.length_range]; exact hi), List.length_range, List.getElem?_range (by omega)] at hx
    have := Option.some.inj hx
    rw [h13 i hi]
    exact congrArg nI (by omega)
  · exact List.pairwise_reverse.mpr (List.Pairwise.imp (fun h z => h z.symm) (List.nodup_range (n := 600)))
  · rw [List.mem_reverse, List.mem_range]
    exact ⟨fun z => ⟨z, rfl⟩, fun z => z.1⟩
  · rw [(u0 600).2]; exact h8
  · rw [(u0 600).1]; exact h9
  · rw [(u0 600).1]; omega
/-! reset, of both -/
set_option maxHeartbeats 4000000 in
set_option linter.unusedSimpArgs false in
theorem wR.reset (ht : 1000 < t) (w : wR φ D F N P S T A) (gc : gcR D S) : ∃ S' T', F_21 G t S = some ((), S') ∧ F_141 G t T = some ((), T') ∧ wR φ (fun _ => False) F N P S' T' (A0 (A.2.2.2.2.2.1 + A.2.2.2.2.2.2)) ∧ gcR (fun _ => False) S' ∧ S'.2.2 = S.2.2 ∧ S'.1 23 0 0 7 = nI 0 ∧ S'.1 8 0 0 5 = -1 ∧ (∀ t i j, t ≤ 7 → S'.1 t i j = S.1 t i j) ∧ (∀ k, k = 13 ∨ k = 14 ∨ k = 25 ∨ k = 29 → T'.1 33 0 0 k = T.1 33 0 0 k) ∧ (∀ t i j, t ≠ 33 → t ≠ 36 → t ≠ 54 → T'.1 t i j = T.1 t i j) ∧ S'.1 8 0 0 7 = nI 0 ∧ T'.1 33 0 0 20 = nI 0 := by
  obtain ⟨kd, cl, co, fl, gl, ro, sw, g1, g2, g3, g4, ⟨g5, g5', g5''⟩, g6, g7⟩ := gc
  obtain ⟨⟨pg, pa⟩, st, _, _, _, _, ⟨⟨w8, w28⟩, _⟩, sc, _, ow⟩ := w
  obtain ⟨c1, c2, c3, c4, c5, c6, c7, c8⟩ := sc
  have eA : F_3 G t (0, 5) (nI 16) S = some ((), rz (siI S 29 0 5 2 (nI 16)) 0 5 16) := f_3 (p := 0) (k := 5) (n := 16) (by rfl) (by decide) (by omega)
  generalize hSa : rz (siI S 29 0 5 2 (nI 16)) 0 5 16 = Sa at eA
  have agA : agr (fun t i j => 29 ≤ t ∧ t ≤ 31 ∧ i = 0 ∧ j = 5) S Sa := fun t i j hh => by
    subst hSa
    rw [rz_I _ _ _ (by omega), rz_L _ _ _ (by omega)]
    exact ⟨siI_ne _ _ _ (by omega), rfl⟩
  have xA : Sa.2.2 = S.2.2 := by subst hSa; exact rz_2 _ _ _ _
  have vA : ∀ i, i < 16 → Sa.2.1 30 0 5 i = 0 ∧ Sa.1 31 0 5 i = nI 0 := fun i hi => by
    subst hSa
    exact ⟨rz_num _ _ _ _ _ hi, rz_tag _ _ _ _ _ hi⟩
  have zA : Sa.1 29 0 5 2 = nI 16 := by
    subst hSa
    rw [rz_I _ _ _ (by omega)]
    exact siI_at _ _ _ _ _ _
  clear hSa
  have eB := l_5 (G := G) (t := t) (S := Sa) 16 0 t (by omega) (by omega)
  have agB0 := r5_ag Sa 16
  have agB : agr (fun t i j => t = 25 ∨ t = 8) Sa (r5e Sa) := (agB0.1.mono (fun t i j z => by omega)).trans (agr.i (agr.i (agr.i (agr.i (agr.i (agr.i (agr.refl _ _) _ _ (by omega)) _ _ (by omega)) _ _ (by omega)) _ _ (by omega)) _ _ (by omega)) _ _ (by omega))
  have xB : (r5e Sa).2.2 = Sa.2.2 := agB0.2
  have v25 : ∀ s k, s < 16 → (r5e Sa).1 25 s 0 k = (if k = 3 ∨ k = 4 then nI 0 else Sa.1 25 s 0 k) ∧ (r5e Sa).2.1 25 s 0 7 = 0 := fun s k hs => by
    unfold r5e
    rw [siI_ne _ _ _ (by omega), siI_ne _ _ _ (by omega), siI_ne _ _ _ (by omega), siI_ne _ _ _ (by omega), siI_ne _ _ _ (by omega), siI_ne _ _ _ (by omega)]
    obtain ⟨v1, v2⟩ := r5_v Sa s k 16
    refine ⟨?_, v2 hs⟩
    rw [v1]
    by_cases c : k = 3 ∨ k = 4
    · rw [if_pos ⟨hs, c⟩, if_pos c]
    · rw [if_neg (fun z => c z.2), if_neg c]
  have v8 : ∀ k, (r5e Sa).1 8 0 0 k = if k = 5 then -1 else if k = 3 ∨ k = 4 ∨ k = 6 ∨ k = 7 ∨ k = 8 then nI 0 else (r5 Sa 16).1 8 0 0 k := fun k => by
    unfold r5e
    simp only [gI]
    by_cases c8 : k = 8
    · subst c8; simp
    · by_cases c7 : k = 7
      · subst c7; simp
      · by_cases c6 : k = 6
        · subst c6; simp
        · by_cases c5 : k = 5
          · subst c5; simp
          · by_cases c4 : k = 4
            · subst c4; simp
            · by_cases c3 : k = 3
              · subst c3; simp
              · simp [c3, c4, c5, c6, c7, c8]
  generalize hSb : r5e Sa = Sb at *
  have owB : own Sb := ow.same (xB.trans xA)
  have eC := l_11 (G := G) (t := t) (S := Sb) (fun h p hp => (owB.2.2.1 h p hp).2) 600 0 t (by omega) (by omega)
  have agC := r11_ag Sb 600
  have vC := r11_13 Sb
  have wC := r11_32 Sb
  generalize hSc : r11 Sb 600 = Sc at *
  obtain ⟨Sd, d1, d2, d3, d4, _, _⟩ := f_9 (G := G) (t := t) (S := siI (siI (siI (siI (siI (siI Sc 11 0 0 7 (nI 600)) 11 0 0 8 (nI 0)) 11 0 0 9 (nI 0)) 11 0 0 10 (nI 0)) 11 0 0 11 (nI 0)) 11 0 0 13 (nI 0)) (j := 0) ht (by omega)
  have eD : F_11 G t Sb = some ((), Sd) := by
    unfold F_11
    show F_11_2 G t t (nI 0) (r11 Sb 0) = _
    rw [eC]
    unfold F_10
    rw [d1]
    rfl
  have agD : agr (fun t i j => t = 11 ∨ t = 13 ∨ (15 ≤ t ∧ t ≤ 17) ∨ t = 32) Sb Sd := (agC.1.mono (fun t i j z => by omega)).trans ((agr.i (agr.i (agr.i (agr.i (agr.i (agr.i (agr.refl _ _) _ _ (by omega)) _ _ (by omega)) _ _ (by omega)) _ _ (by omega)) _ _ (by omega)) _ _ (by omega)).trans (d3.mono (fun t i j z => by omega)))
  have xD : Sd.2.2 = Sb.2.2 := by
    rw [d4]
    show Sc.2.2 = Sb.2.2
    rw [agC.2]
  have v11 : ∀ k, Sd.1 11 0 0 k = if k = 7 then nI 600 else if k = 8 ∨ k = 9 ∨ k = 10 ∨ k = 11 ∨ k = 13 then nI 0 else Sc.1 11 0 0 k := fun k => by
    rw [(d3 11 0 0 (by omega)).1]
    simp only [gI]
    by_cases c8 : k = 13
    · subst c8; simp
    · by_cases c7 : k = 11
      · subst c7; simp
      · by_cases c6 : k = 10
        · subst c6; simp
        · by_cases c5 : k = 9
          · subst c5; simp
          · by_cases c4 : k = 8
            · subst c4; simp
            · by_cases c3 : k = 7
              · subst c3; simp
              · simp [c3, c4, c5, c6, c7, c8]
  have t41 := r41_ag T 16
  have v41 := r41_v T
  have eM := l_41 (G := G) (t := t) (T := T) (by omega) 16 0 t (by omega) (by omega)
  generalize hTa : r41 T 16 = Ta at *
  have t46 := r46_ag Ta 16
  have v46 := r46_v Ta
  have agM : agr (fun t i j => t = 33 ∨ t = 36 ∨ t = 43) Ta (r46e Ta) := (t46.1.mono (fun t i j z => by omega)).trans (agr.i (agr.i (agr.i (agr.i (agr.i (agr.i (agr.i (agr.i (agr.refl _ _) _ _ (by omega)) _ _ (by omega)) _ _ (by omega)) _ _ (by omega)) _ _ (by omega)) _ _ (by omega)) _ _ (by omega)) _ _ (by omega))
  have v33 : ∀ k, (r46e Ta).1 33 0 0 k = if k = 16 then -1 else if k = 15 ∨ k = 17 ∨ k = 20 ∨ k = 21 ∨ k = 22 ∨ k = 23 ∨ k = 24 then nI 0 else T.1 33 0 0 k := fun k => by
    unfold r46e
    simp only [gI]
    rw [(t46.1 33 0 0 (by omega)).1, (t41.1 33 0 0 (by omega)).1]
    by_cases a1 : k = 17
    · subst a1; simp
    · by_cases a2 : k = 24
      · subst a2; simp
      · by_cases a3 : k = 23
        · subst a3; simp
        · by_cases a4 : k = 22
          · subst a4; simp
          · by_cases a5 : k = 21
            · subst a5; simp
            · by_cases a6 : k = 20
              · subst a6; simp
              · by_cases a7 : k = 16
                · subst a7; simp
                · by_cases a8 : k = 15
                  · subst a8; simp
                  · simp [a1, a2, a3, a4, a5, a6, a7, a8]
  have v36 : ∀ k, k < 16 → (r46e Ta).1 36 0 0 k = nI 0 ∧ (r46e Ta).2.1 43 0 0 k = 0 := fun k hk => by
    unfold r46e
    rw [siI_ne _ _ _ (by omega), siI_ne _ _ _ (by omega), siI_ne _ _ _ (by omega), siI_ne _ _ _ (by omega), siI_ne _ _ _ (by omega), siI_ne _ _ _ (by omega), siI_ne _ _ _ (by omega), siI_ne _ _ _ (by omega)]
    exact v46 k 16 hk
  have xM : (r46e Ta).2.1 33 0 0 = T.2.1 33 0 0 := by
    show (r46 Ta 16).2.1 33 0 0 = _
    rw [(t46.1 33 0 0 (by omega)).2, t41.2]
  generalize hTb : r46e Ta = Tb at *
  have fin : agr (fun t i j => t = 23) Sd (siI (siI (siI (siI Sd 23 0 0 5 (nI 0)) 23 0 0 6 (nI 0)) 23 0 0 8 (nI 0)) 23 0 0 7 (nI 0)) := agr.i (agr.i (agr.i (agr.i (agr.refl _ _) _ _ rfl) _ _ rfl) _ _ rfl) _ _ rfl
  have v23 : ∀ k, (siI (siI (siI (siI Sd 23 0 0 5 (nI 0)) 23 0 0 6 (nI 0)) 23 0 0 8 (nI 0)) 23 0 0 7 (nI 0)).1 23 0 0 k = if k = 5 ∨ k = 6 ∨ k = 7 ∨ k = 8 then nI 0 else S.1 23 0 0 k := fun k => by
    simp only [gI]
    rw [(agD 23 0 0 (by omega)).1, (agB 23 0 0 (by omega)).1, (agA 23 0 0 (by omega)).1]
    by_cases a1 : k = 7
    · subst a1; simp
    · by_cases a2 : k = 8
      · subst a2; simp
      · by_cases a3 : k = 6
        · subst a3; simp
        · by_cases a4 : k = 5
          · subst a4; simp
          · simp [a1, a2, a3, a4]
  have xE : (siI (siI (siI (siI Sd 23 0 0 5 (nI 0)) 23 0 0 6 (nI 0)) 23 0 0 8 (nI 0)) 23 0 0 7 (nI 0)).2.2 = S.2.2 := by
    show Sd.2.2 = S.2.2
    rw [xD, xB, xA]
  have e21 : F_21 G t S = some ((), siI (siI (siI (siI Sd 23 0 0 5 (nI 0)) 23 0 0 6 (nI 0)) 23 0 0 8 (nI 0)) 23 0 0 7 (nI 0)) := by
    unfold F_21 F_5
    rw [eA, bdS]
    have eB' : F_5_11 G t t (nI 0) Sa = some ((), Sb) := eB
    rw [eB', bdS, eD]
    rfl
  generalize hSe : siI (siI (siI (siI Sd 23 0 0 5 (nI 0)) 23 0 0 6 (nI 0)) 23 0 0 8 (nI 0)) 23 0 0 7 (nI 0) = Se at *
  have low : ∀ t i j, t ≤ 7 → Se.1 t i j = S.1 t i j := fun t i j ht => by
    rw [(fin t i j (by omega)).1, (agD t i j (by omega)).1, (agB t i j (by omega)).1, (agA t i j (by omega)).1]
  have e25 : ∀ s, Se.1 25 s 0 = Sb.1 25 s 0 ∧ Se.2.1 25 s 0 = Sb.2.1 25 s 0 := fun s => by
    rw [(fin 25 s 0 (by omega)).1, (fin 25 s 0 (by omega)).2, (agD 25 s 0 (by omega)).1, (agD 25 s 0 (by omega)).2]
    exact ⟨rfl, rfl⟩
  have e8 : Se.1 8 0 0 = Sb.1 8 0 0 := by rw [(fin 8 0 0 (by omega)).1, (agD 8 0 0 (by omega)).1]
  have e11 : Se.1 11 0 0 = Sd.1 11 0 0 := (fin 11 0 0 (by omega)).1
  have g05 : ∀ t, 29 ≤ t → t ≤ 31 → Se.1 t 0 5 = Sa.1 t 0 5 ∧ Se.2.1 t 0 5 = Sa.2.1 t 0 5 := fun t h1 h2 => by
    rw [(fin t 0 5 (by omega)).1, (fin t 0 5 (by omega)).2, (agD t 0 5 (by omega)).1, (agD t 0 5 (by omega)).2, (agB t 0 5 (by omega)).1, (agB t 0 5 (by omega)).2]
    exact ⟨rfl, rfl⟩
  refine ⟨Se, Tb, e21, eM, fresh_w ?_ pa (fun s hs => ?_) (fun s hs => ?_) ?_ (fun i hi => ?_) ⟨?_, ?_, ?_, ?_⟩ ?_ ?_ ⟨?_, ?_, ?_⟩ (ow.same xE), fresh_gc (sw := sw) (fun h hh => ?_) ?_ ?_ ?_ ?_ ?_ g5'' (fun i hi => ?_) ?_, xE, ?_, ?_, low, fun k hk => ?_, fun t i j h1 h2 h3 => ?_, ?_, ?_⟩
  · refine pg.keep (fun t x y => low t 0 0 y) (fun t x y => ?_) ⟨?_, ?_⟩
    · rw [(agM t 0 0 (by omega)).1, (t41.1 t 0 0 (by omega)).1]
    · rw [v33]; rfl
    · rw [v33]; rfl
  · rw [(e25 s).1, (e25 s).2]
    refine ⟨?_, ?_, ?_, (v25 s 0 hs).2⟩
    · rw [(v25 s 1 hs).1, if_neg (by omega), (agA 25 s 0 (by omega)).1]
      exact (st s hs).1
    · rw [(v25 s 3 hs).1, if_pos (by omega)]
    · rw [(v25 s 4 hs).1, if_pos (by omega)]
  · rw [(agM 54 s 0 (by omega)).1, ← hTa]
    exact ⟨v41 s 0 (by omega) 16 hs, v41 s 1 (by omega) 16 hs⟩
  · rw [(g05 29 (by omega) (by omega)).1]; exact zA
  · rw [(g05 30 (by omega) (by omega)).2, (g05 31 (by omega) (by omega)).1]
    exact ⟨vA i hi, v36 i hi⟩
  · rw [e8, v8]; rfl
  · rw [e8, v8]; rfl
  · rw [e8, v8]; rfl
  · rw [v33]; rfl
  · rw [xM]; exact w28
  · unfold scaR
    rw [e8, v8, v8, v8, e11, v11, v23, v23, v23, v23, v33, v33, v33, v33, v33, v33, v33, v33]
    exact ⟨rfl, rfl, rfl, rfl, rfl, c6, c7, rfl⟩
  · rw [v23]; rfl
  · rw [v23]; rfl
  · rw [v33]; rfl
  · rw [xE]
    cases hp : S.2.2.1.2 h with
    | none => exact Or.inl rfl
    | some p =>
      refine Or.inr ⟨p, rfl, (ow.2.2.1 h p hp).2, ?_⟩
      rw [(fin 32 p 0 (by omega)).1, (d3 32 p 0 (by omega)).1, siI_ne _ _ _ (by omega), siI_ne _ _ _ (by omega), siI_ne _ _ _ (by omega), siI_ne _ _ _ (by omega), siI_ne _ _ _ (by omega), siI_ne _ _ _ (by omega), ← hSc]
      exact r11_32 Sb h p (by rw [xB, xA]; exact hp) 600 hh
  · rw [e11, v11]; rfl
  · rw [e11, v11]; rfl
  · rw [e11, v11]; rfl
  · rw [e11, v11]; rfl
  · rw [e11, v11]
    show Sc.1 11 0 0 12 = nI sw
    rw [(agC.1 11 0 0 (by omega)).1, (agB 11 0 0 (by omega)).1, (agA 11 0 0 (by omega)).1]
    exact g5'
  · rw [(fin 13 0 0 (by omega)).1, (d3 13 0 0 (by omega)).1, siI_ne _ _ _ (by omega), siI_ne _ _ _ (by omega), siI_ne _ _ _ (by omega), siI_ne _ _ _ (by omega), siI_ne _ _ _ (by omega), siI_ne _ _ _ (by omega), ← hSc]
    exact r11_13 Sb i 600 hi
  · unfold trS
    rw [(fin 15 0 0 (by omega)).1, (fin 16 0 0 (by omega)).1, (fin 17 0 0 (by omega)).1]
    exact d2
  · rw [v23]; rfl
  · rw [e8, v8]; rfl
  · rw [v33, if_neg (by omega), if_neg (by omega)]
  · by_cases c : t = 43
    · subst c
      rw [← hTb]
      unfold r46e
      rw [siI_ne _ _ _ (by omega), siI_ne _ _ _ (by omega), siI_ne _ _ _ (by omega), siI_ne _ _ _ (by omega), siI_ne _ _ _ (by omega), siI_ne _ _ _ (by omega), siI_ne _ _ _ (by omega), siI_ne _ _ _ (by omega)]
      rw [r46_I Ta (by omega), (t41.1 43 i j (by omega)).1]
    · rw [(agM t i j (by omega)).1, (t41.1 t i j (by omega)).1]
  · rw [e8, v8]; rfl
  · rw [v33]; rfl
end RS2
