/-! check, as a call. -/
section CH2
variable {φ φ' : Nat → Nat} {D D' : Nat → Prop} {F N : Nat} {P P' : aP} {S S' S1 S2 T T' T1 : sS} {A : aS} {r s d p f pc n m e b k y g q o F' N' lo : Nat} {G : jG} {t j : Nat} {a : Int32} {kd cl co : Nat → Nat} {fl gl : List Nat}
def cp2 (S : sS) : sS := siI (saI (saI S 16 0 2 (va_cpy (S.1 16 0 0) (S.1 16 0 2) 0 0 600)) 17 0 2 (va_cpy (S.1 17 0 0) (S.1 17 0 2) 0 0 600)) 15 0 2 2 (S.1 15 0 0 2)
theorem e_41 : F_41 G t (0, 2) (0, 0) S = some ((), cp2 S) := by
  have q1 : (saI S 16 0 2 (va_cpy (S.1 16 0 0) (S.1 16 0 2) 0 0 600)).1 17 0 0 = S.1 17 0 0 := saI_ne _ _ (by omega)
  have q2 : (saI S 16 0 2 (va_cpy (S.1 16 0 0) (S.1 16 0 2) 0 0 600)).1 17 0 2 = S.1 17 0 2 := saI_ne _ _ (by omega)
  have q3 : (saI (saI S 16 0 2 (va_cpy (S.1 16 0 0) (S.1 16 0 2) 0 0 600)) 17 0 2 (va_cpy (S.1 17 0 0) (S.1 17 0 2) 0 0 600)).1 15 0 0 = S.1 15 0 0 := by rw [saI_ne _ _ (by omega), saI_ne _ _ (by omega)]
  unfold F_41 cp2
  show jif (sex S.2.2.2.1 15 0 0) _ = _
  rw [jif_true (x15 (by omega))]
  show jif (sex S.2.2.2.1 15 0 2) _ = _
  rw [jif_true (x15 (by omega))]
  show some ((), siI (saI (saI S 16 0 2 (va_cpy (S.1 16 0 0) (S.1 16 0 2) 0 0 600)) 17 0 2 (va_cpy ((saI S 16 0 2 (va_cpy (S.1 16 0 0) (S.1 16 0 2) 0 0 600)).1 17 0 0) ((saI S 16 0 2 (va_cpy (S.1 16 0 0) (S.1 16 0 2) 0 0 600)).1 17 0 2) 0 0 600)) 15 0 2 2 ((saI (saI S 16 0 2 (va_cpy (S.1 16 0 0) (S.1 16 0 2) 0 0 600)) 17 0 2 (va_cpy ((saI S 16 0 2 (va_cpy (S.1 16 0 0) (S.1 16 0 2) 0 0 600)).1 17 0 0) ((saI S 16 0 2 (va_cpy (S.1 16 0 0) (S.1 16 0 2) 0 0 600)).1 17 0 2) 0 0 600)).1 15 0 0 2)) = _
  rw [q1, q2, q3]
theorem cp2_ag (S : sS) : agr (fun t a b => 15 ≤ t ∧ t ≤ 17 ∧ a = 0 ∧ b = 2) S (cp2 S) ∧ (cp2 S).2 = S.2 := by
  refine ⟨fun t i j z => ⟨?_, rfl⟩, rfl⟩
  unfold cp2
  rw [siI_ne _ _ _ (by omega), saI_ne _ _ (by omega), saI_ne _ _ (by omega)]
theorem cp2_tr (hT : trS S 0 co gl) (hl : gl.length ≤ 600) : trS (cp2 S) 2 co gl := by
  obtain ⟨h1, h2, h3, h4, h5⟩ := hT
  refine ⟨fun h hh => ?_, ?_, fun i x hx => ?_, h4, h5⟩
  · unfold cp2
    rw [siI_ne _ _ _ (by omega), saI_ne _ _ (by omega), saI_self]
    unfold va_cpy
    rw [if_pos (by omega), show 0 + (h - 0) = h by omega]
    exact h1 h hh
  · unfold cp2
    rw [siI_at]
    exact h2
  · unfold cp2
    rw [siI_ne _ _ _ (by omega), saI_self]
    unfold va_cpy
    have : i < gl.length := by
      by_cases c : i < gl.length
      · exact c
      · rw [List.getElem?_eq_none (by omega)] at hx; cases hx
    rw [if_pos (by omega), show 0 + (i - 0) = i by omega]
    exact h3 i x hx
set_option maxHeartbeats 4000000 in
set_option linter.unusedSimpArgs false in
theorem c_check (ht : 2147483648 < t) : cal2 (F_45 G t) (F_203 G t) := by
  intro c S T h hc
  obtain ⟨φ, D, F, N, P, A, h1, h2⟩ := id h
  obtain ⟨w, gc0⟩ := h1.w
  obtain ⟨S1, c1, bl, e39, t1, ag1, x1, _, _, r1, _, _⟩ := w.f39 (G := G) (t := t) (by omega)
  have cb1 : clB S S1 := ⟨ag1.mono (fun t i j z => by omega), x1⟩
  have gc := gc0.qry cb1
  have wS := w.qry cb1 (moB.refl T)
  obtain ⟨kd, cl, co, fl, gl, ro, sw, g1, g2, g3, g4, ⟨g5, g5', g5''⟩, g6, g7⟩ := gc
  have H : hpR S1 kd cl fl := ⟨g1, g2, g3⟩
  have hfl : fl.length ≤ 600 := nd_len 600 _ g2.2.2.1 (fun y hy => ((g2.2.2.2 y).mp hy).1)
  have hgl : gl.length ≤ 600 := nd_len 600 _ g6.2.2.2.1 (fun y hy => ((g6.2.2.2.2 y).mp hy).1)
  have hro : ro ≤ 2 := by rcases g7 with z | z | z <;> omega
  have rD : ∀ h, c1 h ≠ 0 → h < 600 → D h := fun x z hx => by
    rcases r1 x hx with ⟨_, y⟩ | ⟨y, _⟩
    · exact w.reD y
    · exact absurd y z
  -- the places
  obtain ⟨S2, e8, x2, ag2, f2, _, x2'⟩ := l_8 (G := G) (t := t) (S := S1) (tg := 14) (i0 := 0) (j0 := 0) (L := 600) (v := nI 0) (fun S' hS' => rfl) rfl rfl (by omega) 600 0 t S1 (by omega) (by omega) rfl
  have ag2' : agr (fun t a b => t = 14) S1 S2 := ag2.mono (fun t i j z => z.1)
  have H2 : hpR S2 kd cl fl := ⟨fun h hh => (g1 h hh).ag (by funext i j; exact (ag2' 29 i j (by omega)).1) (by funext i j; exact (ag2' 31 i j (by omega)).1) (by funext i j; exact (ag2' 32 i j (by omega)).1) x2, by rw [(ag2' 11 0 0 (by omega)).1, (ag2' 13 0 0 (by omega)).1]; exact g2, by rw [(ag2' 11 0 0 (by omega)).1]; exact g3⟩
  obtain ⟨S3, y1, y2, y3, y4⟩ := e40_10 (G := G) (t := t) (v := 0) H2.2.1.1 H2.2.1.2.1 g2.2.2.1 (fun x hx => ((g2.2.2.2 x).mp hx).1) hfl fl.length 0 t S2 (by omega) (by omega) (agr.refl _ _) rfl (fun h hh => by
    rw [f2 h (by omega) hh, if_neg (by rw [List.take_zero]; exact List.not_mem_nil)])
  obtain ⟨S4, z1, z2, z3⟩ := e40_45 (G := G) (t := t) (co := c1) H2 (fun h hh => ⟨by
    rw [(ag2' 16 0 1 (by omega)).1]; exact (t1.1 h hh).1, fun z => (g4 h (rD h z hh)).2⟩) 600 0 t S3 (by omega) (by omega) y2 y3 (fun h _ hh => by
    rw [y4 h hh]
    by_cases k0 : kd h = 0
    · rw [if_pos k0, if_pos ((g2.2.2.2 h).mpr ⟨hh, k0⟩)]
    · rw [if_neg k0, if_neg (fun z => k0 ((g2.2.2.2 h).mp z).2)])
  have e40 : F_40 G t S1 = some (nI 0, S4) := by
    unfold F_40 F_8
    show (F_8_5 G t t (14, 0, 0) (nI 0) (nI 0) (nI 600) S1).bind _ = _
    rw [e8, bdS]
    dsimp only
    rw [y1]
    exact z1
  have ag4 : agr (fun t a b => t = 14) S1 S4 := ag2'.trans z2
  have x4 : S4.2.2 = S1.2.2 := by rw [z3]; exact x2
  have cb4 : clB S1 S4 := ⟨ag4.mono (fun t i j z => by omega), x4⟩
  -- the colours foreseen
  have T4 : trS S4 0 co gl := by
    unfold trS
    rw [(ag4 15 0 0 (by omega)).1, (ag4 16 0 0 (by omega)).1, (ag4 17 0 0 (by omega)).1]
    exact g6
  have T5 := cp2_tr T4 hgl
  have ag5 := cp2_ag S4
  have F38 : ∃ S6 c2, F_38 G t (0, 2) (cp2 S4) = some ((), S6) ∧ trS S6 2 c2 [] ∧ agr (fun t a b => 15 ≤ t ∧ t ≤ 17 ∧ a = 0 ∧ b = 2) (cp2 S4) S6 ∧ S6.2.2 = S4.2.2 ∧ ∀ h, h < 600 → ¬ (ro = 0 ∨ (ro = 2 ∧ h < sw)) → c1 h ≠ 0 → c2 h ≠ 0 := by
    have nogrey : gl = [] → ∃ S6 c2, F_38 G t (0, 2) (cp2 S4) = some ((), S6) ∧ trS S6 2 c2 [] ∧ agr (fun t a b => 15 ≤ t ∧ t ≤ 17 ∧ a = 0 ∧ b = 2) (cp2 S4) S6 ∧ S6.2.2 = S4.2.2 ∧ c2 = co := fun z => by
      subst z
      have e37 := e37n (G := G) (t := t) (S := cp2 S4) (j := 2) (by omega) T5.2.1
      refine ⟨cp2 S4, co, ?_, T5, agr.refl _ _, by rw [ag5.2], rfl⟩
      obtain ⟨u, hu⟩ : ∃ u, t = u + 1 := ⟨t - 1, by omega⟩
      have : F_38_2 G t (u + 1) (0, 2) (nI 0) (cp2 S4) = some ((), cp2 S4) := by
        rw [F_38_2]
        dsimp only
        rw [show jcmp .gt (nI 0) (nI 600) = false from by decide, cond_false, jif_true (x15 (by omega)), e37, bdS]
        rfl
      unfold F_38
      rw [← hu] at this
      exact this
    rcases g7 with ⟨q0, q⟩ | ⟨q0, E, q1, q2, q3, q4, q5⟩ | ⟨q0, q, qD⟩
    · obtain ⟨S6, c2, a1, a2, a3, a4, a5⟩ := nogrey (by
        rcases hg : gl with _ | ⟨x, l⟩
        · rfl
        · have := (g6.2.2.2.2 x).mp (by rw [hg]; exact List.mem_cons_self)
          have := q x this.1
          omega)
      exact ⟨S6, c2, a1, a2, a3, a4, fun h hh z => absurd (Or.inl q0) z⟩
    · have e29 : (cp2 S4).1 29 = S1.1 29 := by
        funext i j
        rw [(ag5.1 29 i j (by omega)).1, (ag4 29 i j (by omega)).1]
      have e31 : (cp2 S4).1 31 = S1.1 31 := by
        funext i j
        rw [(ag5.1 31 i j (by omega)).1, (ag4 31 i j (by omega)).1]
      have e32 : (cp2 S4).1 32 = S1.1 32 := by
        funext i j
        rw [(ag5.1 32 i j (by omega)).1, (ag4 32 i j (by omega)).1]
      have x5 : (cp2 S4).2.2 = S1.2.2 := by rw [ag5.2]; exact x4
      have rr := rfC.ag e29 e31 x5
      have hU : ∀ h, E h → h < 600 ∧ thU (cp2 S4) h (cl h) := fun h hh => by
        have k0 := (q2 h hh).2
        refine ⟨(q2 h hh).1, ?_⟩
        rcases (g1 h (q2 h hh).1).ag e29 e31 e32 x5 with ⟨_, z⟩ | ⟨p, hp, hM, hk, hk3, hu⟩
        · exact absurd z k0
        · obtain ⟨w', u1, u2, u3, u4, u5, u6⟩ := hu k0
          exact ⟨p, kd h, hp, hM, hk, hk3.elim (fun z => absurd z k0) id, u3, u5, w', ⟨xr4 hM, u1, u2⟩, u6⟩
      obtain ⟨a, ha⟩ := nI_any ((cp2 S4).1 15 0 2 3)
      obtain ⟨b, hb⟩ := nI_any ((cp2 S4).1 15 0 2 4)
      obtain ⟨S6, c2, nl, a1, a2, a3⟩ := l_38 (G := G) (t := t) (S := cp2 S4) (j := 2) (X := E) (cl := cl) (co := co) (a := a) (b := b) (by omega) (by omega) hU (fun h g hh rf => q3 h g hh ((rr h g).mp rf)) 600 t (cp2 S4) co gl [] (by rw [List.length_nil]) (by omega) T5 ⟨agr.refl _ _, rfl, q4, fun h hh => ⟨id, id⟩, List.nodup_nil, fun h => ⟨fun z => (by cases z), fun z => absurd z.2.1 z.2.2⟩, fun h g z => (by cases z), ha, hb⟩
      obtain ⟨b1, b2, b3, b4, b5, b6, b7, _, _⟩ := a3
      refine ⟨S6, c2, a1, a2, b1, by rw [b2, ag5.2], fun h hh _ hr => ?_⟩
      have two : ∀ x, x < 600 → c2 x ≠ 0 → c2 x = 2 := fun x hx z => by
        have n1 : c2 x ≠ 1 := fun z1 => by
          have := (a2.2.2.2.2 x).mpr ⟨hx, z1⟩
          cases this
        have := (a2.1 x hx).2
        omega
      have Eh : E h := q1 h (rD h hr hh)
      rcases q5 h Eh with z | z
      · have := (b4 h hh).1 z
        omega
      · exact (z (fun x => c2 x ≠ 0 ∧ co x ≠ 2 ∧ x < 600) (fun x hx cx => ⟨(b4 x hx).2 (by omega), by omega, hx⟩) (fun x y' hx rf y6 cy => ⟨b7 x y' ((b6 x).mpr ⟨hx.2.2, two x hx.2.2 hx.1, hx.2.1⟩) ((rr x y').mpr rf), by omega, y6⟩)).1
    · obtain ⟨S6, c2, a1, a2, a3, a4, a5⟩ := nogrey (by
        rcases hg : gl with _ | ⟨x, l⟩
        · rfl
        · have := (g6.2.2.2.2 x).mp (by rw [hg]; exact List.mem_cons_self)
          exact absurd this.2 (q x this.1).1)
      refine ⟨S6, c2, a1, a2, a3, a4, fun h hh z hr => ?_⟩
      subst a5
      have := qD h (rD h hr hh) (by omega)
      omega
  obtain ⟨S6, c2, e38, T6, ag6, x6, fore⟩ := F38
  have ag46 : agr (fun t a b => 15 ≤ t ∧ t ≤ 17 ∧ a = 0 ∧ b = 2) S4 S6 := ag5.1.trans ag6
  have cb6 : clB S4 S6 := ⟨ag46.mono (fun t i j z => by omega), x6⟩
  have eT : ∀ t i j, t ≠ 14 → ¬ (15 ≤ t ∧ t ≤ 17 ∧ j = 2) → S6.1 t i j = S1.1 t i j := fun t i j a b => by
    rw [(ag46 t i j (by omega)).1, (ag4 t i j (by omega)).1]
  have H6 : hpR S6 kd cl fl := ⟨fun h hh => (g1 h hh).ag (by funext i j; exact eT 29 i j (by omega) (by omega)) (by funext i j; exact eT 31 i j (by omega) (by omega)) (by funext i j; exact eT 32 i j (by omega) (by omega)) (x6.trans x4), by rw [eT 11 0 0 (by omega) (by omega), eT 13 0 0 (by omega) (by omega)]; exact g2, by rw [eT 11 0 0 (by omega) (by omega)]; exact g3⟩
  have e43 := l_43 (G := G) (t := t) (c1 := c1) (c2 := c2) H6 (co := co) (gl := gl) (by
    rw [eT 15 0 0 (by omega) (by omega), eT 16 0 0 (by omega) (by omega)]
    exact ⟨g6.1, g6.2.1, g6.2.2.2⟩) (by rw [eT 11 0 0 (by omega) (by omega)]; exact g5) hro (by rw [eT 11 0 0 (by omega) (by omega)]; exact g5') g5'' (fun h hh => by
    rw [eT 16 0 1 (by omega) (by omega)]; exact t1.1 h hh) (fun h hh => T6.1 h hh) (fun h hh z => by
    rcases g7 with ⟨_, q⟩ | ⟨q0, E, _, q2, _, q4, _⟩ | ⟨q0, q, _⟩
    · exact q h hh
    · rcases z with z | z | z
      · omega
      · omega
      · exact Classical.byContradiction (fun cc => (q2 h (q4 h hh cc)).2 z)
    · rcases z with z | z | z
      · omega
      · exact (q h hh).2.1 z.2
      · exact Classical.byContradiction (fun cc => (q h hh).2.2 cc z)) fore 600 0 t (by omega) (by omega)
  have cbA : clB S S6 := (cb1.trans cb4).trans cb6
  refine ⟨nI 0, S6, siI T 33 0 0 25 (nI 0), ?_, rfl, ⟨φ, D, F, N, P, A, h1.qry cbA (moB.er _ _), by omega⟩, fun x hx => ⟨x, by omega, hx.same cbA.2⟩⟩
  unfold F_45 F_44 F_43
  rw [e39, bdS]
  dsimp only
  rw [e40, bdS]
  dsimp only
  rw [e_41, bdS]
  dsimp only
  rw [e38, bdS]
  dsimp only
  have e43' : F_43_28 G t t (nI 0) (nI 0) (nI 0) S6 = some (nI 0, S6) := e43
  rw [e43', bdS]
  rfl
end CH2
