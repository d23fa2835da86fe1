/-! digest: step by step. -/
section DG3
variable {φ φ' : Nat → Nat} {D D' : Nat → Prop} {F N : Nat} {P P' : aP} {S S' S0 S1 S2 T T' T0 T1 : sS} {A : aS} {r s d p f pc n m e b k y g q o F' N' lo : Nat} {G : jG} {t j : Nat} {a : Int32} {ml : List Nat} {st : List (Nat × Nat)}
def pot (S0 : sS) (ml : List Nat) (st : List (Nat × Nat)) : Nat := 17 * (600 - ml.length) + (st.map (fun x => szO S0 x.1 - x.2 + 1)).sum
set_option maxHeartbeats 4000000 in
set_option linter.unusedSimpArgs false in
theorem dg_add {sz i : Nat} {kk : Int32} {vv : Int64} (hD : ∀ h, D h → obR φ D S0 T0 h) (hE : (∀ h, D h → h < 600 ∧ φ h < 1300) ∧ ∀ h h', D h → D h' → φ h = φ h' → h = h') (R : dgR φ D S0 T0 S T ml st) (hr : rwS S p k sz) (hi : i < sz) (hs : sz ≤ 16) (hv : vr φ D (S.2.1 30 p k i) (S.1 31 p k i) kk vv) :
    ∃ S' T' ml' st', F_60 G t (p, k) (nI i) S = some ((), S') ∧ (∀ K tt v5, F_201_67 G t K (tt + 1) (S.2.1 18 0 0 6) (nI ml.length) (nI st.length) v5 kk vv T = F_201_235 G t K (F_201_67 G t K tt) t (S'.2.1 18 0 0 6) (nI ml'.length) (nI st'.length) v5 T') ∧ dgR φ D S0 T0 S' T' ml' st' ∧ pot S0 ml' st' ≤ pot S0 ml st := by
  have sg : ∀ v : Int64, (siL S 18 0 0 6 v).2.1 18 0 0 6 = v := fun v => by rw [gL, if_pos ⟨rfl, rfl, rfl, rfl⟩]
  rcases hv with ⟨g1, g2, g3⟩ | ⟨g1, g2, g3⟩ | ⟨h, hh, g1, g2, g3, g4⟩
  · refine ⟨_, T, ml, st, e60n hr hi hs g3 g1, fun K tt v5 => ?_, R.sum _, Nat.le_refl _⟩
    rw [g2, m67n, sg]
  · refine ⟨_, T, ml, st, e60z hr hi g1, fun K tt v5 => ?_, R.sum _, Nat.le_refl _⟩
    rw [g2, m67z, sg]
  · obtain ⟨h6, f13⟩ := hE.1 h hh
    obtain ⟨p1, kx, w, o1, o2, o3, o4, o5, o6, o7, o8, o9, o10, _⟩ := obR.dg R (hD h hh)
    obtain ⟨mm, m1, m2, m3, m4, m5⟩ := R.2.2.2.1 h hh
    by_cases c0 : mm = 0
    · have nin := m3.mp c0
      rw [c0] at m1
      obtain ⟨⟨a1, a2⟩, ⟨b1, b2, b3⟩, ⟨c1, c2, c3⟩, cm, ⟨d1, d2, d3⟩⟩ := R
      have nst : h ∉ st.map Prod.fst := fun z => by
        obtain ⟨x, z1, z2⟩ := List.mem_map.mp z
        obtain ⟨dd, z3⟩ := List.mem_iff_getElem?.mp z1
        exact nin (z2 ▸ (d2 dd x z3).2.1)
      have Ls : st.length < 600 := by
        have := nd_len 600 (h :: st.map Prod.fst) (List.nodup_cons.mpr ⟨nst, d3⟩) (fun y hy => by
          rcases List.mem_cons.mp hy with rfl | hy
          · exact h6
          · obtain ⟨x, z1, z2⟩ := List.mem_map.mp hy
            obtain ⟨dd, z3⟩ := List.mem_iff_getElem?.mp z1
            exact z2 ▸ (hE.1 _ (c2 _ (d2 dd x z3).2.1)).1)
        rw [List.length_cons, List.length_map] at this
        omega
      have Lm : ml.length < 600 := by
        have := nd_len 600 (h :: ml) (List.nodup_cons.mpr ⟨nin, c1⟩) (fun y hy => by
          rcases List.mem_cons.mp hy with rfl | hy
          · exact h6
          · exact (hE.1 _ (c2 _ hy)).1)
        rw [List.length_cons] at this
        omega
      have eC := e60o (G := G) (t := t) hr hi g1 h6 o1 o2 m1 c3 o3 o4 o5 o6 d1 Ls
      generalize hsm : 31 * (31 * S.2.1 18 0 0 6 + Int64.ofNat (kx + 1)) + Int64.ofNat w = sm at eC
      have s6 : (nwD S h ml.length st.length sm).2.1 18 0 0 6 = sm := by
        unfold nwD
        rw [gI2, gI2, gI2, gL, if_pos ⟨rfl, rfl, rfl, rfl⟩]
      refine ⟨_, siI (siI (siI T 51 (φ h) 0 3 (nI (ml.length + 1))) 49 0 0 st.length (nI (φ h))) 50 0 0 st.length (nI 0), ml ++ [h], st ++ [(h, 0)], eC, fun K tt v5 => ?_, ⟨⟨?_, a2⟩, ⟨fun t i j x y z => ?_, b2, fun i j q' x => ?_⟩, ⟨?_, fun x hx => ?_, ?_⟩, fun x hx => ?_, ⟨?_, fun dd x hx => ?_, ?_⟩⟩, ?_⟩
      · rw [g2, g4, m67o f13 (m4 c0) (by omega) o8 o4 o9 o10 o6, hsm, s6, List.length_append, List.length_append]
        rfl
      · unfold nwD
        exact a1.trans (agr.i (agr.i (agr.i (agr.l (agr.i (agr.i (agr.refl _ _) _ _ (by omega)) _ _ (by omega)) _ _ (by omega)) _ _ (by omega)) _ _ (by omega)) _ _ (by omega))
      · rw [siI_ne _ _ _ (by omega), siI_ne _ _ _ (by omega), siI_ne _ _ _ (by omega)]
        exact b1 t i j x y z
      · rw [siI_ne _ _ _ (by omega), siI_ne _ _ _ (by omega), gI, if_neg (by omega)]
        exact b3 i j q' x
      · rw [List.nodup_append]
        refine ⟨c1, List.nodup_cons.mpr ⟨List.not_mem_nil, List.nodup_nil⟩, fun a ha b hb => ?_⟩
        rw [List.mem_singleton] at hb
        subst hb
        exact fun z => nin (z ▸ ha)
      · rcases List.mem_append.mp hx with z | z
        · exact c2 x z
        · rw [List.mem_singleton] at z; rw [z]; exact hh
      · rw [List.length_append]
        unfold nwD
        simp [gI, gL1]
      · by_cases cx : x = h
        · subst cx
          refine ⟨ml.length + 1, ?_, by omega, ⟨fun z => by omega, fun z => absurd (List.mem_append.mpr (Or.inr (List.mem_singleton.mpr rfl))) z⟩, fun z => by omega, fun _ => ?_⟩
          · unfold nwD
            simp [gI, gL1]
          · rw [siI_ne _ _ _ (by omega), siI_ne _ _ _ (by omega), siI_at]
        · obtain ⟨mx, n1, n2, n3, n4, n5⟩ := cm x hx
          have nf : φ x ≠ φ h := fun z => cx (hE.2 x h hx hh z)
          have eT : (siI (siI (siI T 51 (φ h) 0 3 (nI (ml.length + 1))) 49 0 0 st.length (nI (φ h))) 50 0 0 st.length (nI 0)).1 51 (φ x) 0 3 = T.1 51 (φ x) 0 3 := by
            rw [siI_ne _ _ _ (by omega), siI_ne _ _ _ (by omega), siI_ne _ _ _ (by omega)]
          refine ⟨mx, ?_, n2, ⟨fun z w => ?_, fun z => n3.mpr (fun w => z (List.mem_append.mpr (Or.inl w)))⟩, fun z => by rw [eT]; exact n4 z, fun z => by rw [eT]; exact n5 z⟩
          · rw [← n1]
            unfold nwD
            simp [gI, gL1, cx]
          · rcases List.mem_append.mp w with w | w
            · exact n3.mp z w
            · exact cx (List.mem_singleton.mp w)
      · rw [List.length_append]
        unfold nwD
        simp [gI, gL1]
      · rw [List.getElem?_append] at hx
        by_cases cd : dd < st.length
        · rw [if_pos cd] at hx
          obtain ⟨⟨q1, q2, q3, q4⟩, q5, q6⟩ := d2 dd x hx
          refine ⟨⟨?_, ?_, ?_, ?_⟩, List.mem_append.mpr (Or.inl q5), q6⟩
          · rw [← q1]; unfold nwD; simp [gI, gL1, show dd ≠ st.length by omega]
          · rw [← q2]; unfold nwD; simp [gI, gL1, show dd ≠ st.length by omega]
          · rw [← q3]; simp [gI, gL1, show dd ≠ st.length by omega]
          · rw [← q4]; simp [gI, gL1, show dd ≠ st.length by omega]
        · rw [if_neg cd] at hx
          have : dd = st.length := by
            by_cases c3 : dd - st.length = 0
            · omega
            · obtain ⟨z, hz⟩ : ∃ z, dd - st.length = z + 1 := ⟨dd - st.length - 1, by omega⟩
              rw [hz] at hx
              cases hx
          subst this
          rw [Nat.sub_self] at hx
          have : (h, 0) = x := Option.some.inj hx
          subst this
          refine ⟨⟨?_, ?_, ?_, ?_⟩, List.mem_append.mpr (Or.inr (List.mem_singleton.mpr rfl)), Nat.zero_le _⟩
          · unfold nwD; simp [gI, gL1]
          · unfold nwD; simp [gI, gL1]
          · simp [gI, gL1]
          · simp [gI, gL1]
      · rw [List.map_append, List.nodup_append]
        refine ⟨d3, List.nodup_cons.mpr ⟨List.not_mem_nil, List.nodup_nil⟩, fun a ha b hb => ?_⟩
        have hb : b ∈ [h] := hb
        rw [List.mem_singleton] at hb
        subst hb
        exact fun z => nst (z ▸ ha)
      · unfold pot
        rw [List.length_append, List.map_append, List.sum_append]
        show 17 * (600 - (ml.length + 1)) + ((st.map _).sum + (szO S0 h - 0 + 1 + 0)) ≤ _
        rw [o7]
        omega
    · refine ⟨_, T, ml, st, e60m hr hi g1 h6 o1 m1 c0 m2, fun K tt v5 => ?_, R.sum _, Nat.le_refl _⟩
      rw [g2, g4, m67m f13 (m5 c0) m2, sg]
end DG3
