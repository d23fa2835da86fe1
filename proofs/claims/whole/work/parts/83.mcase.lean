/-! Who waits for a channel: the reference's side. -/
section MCA
variable {φ : Nat → Nat} {D : Nat → Prop} {S T : sS} {G : jG} {t s d p n c y snd : Nat}
/-! is the value the channel y -/
theorem vr.chan {x v : Int64} {g k : Int32} (h : vr φ D x g k v) (hD : ∀ h, D h → obR φ D S T h) (hE : ∀ h, D h → h < 600 ∧ φ h < 1300) (inj : ∀ h h', D h → D h' → φ h = φ h' → h = h') (hy : D y) (hk : T.1 51 (φ y) 0 0 = nI 3) :
    (g = nI (y + 2) ∧ F_170 G t k v (nI 3) T = some (nI 1, T) ∧ v = Int64.ofNat (φ y) ∧ k = nI 2) ∨ (g ≠ nI (y + 2) ∧ ((F_170 G t k v (nI 3) T = some (nI 0, T)) ∨ (F_170 G t k v (nI 3) T = some (nI 1, T) ∧ ¬ v = Int64.ofNat (φ y))) ∧ ((k ≠ nI 2 ∧ ∃ q, q < 2 ∧ k = nI q) ∨ k = nI 2 ∧ ¬ v = Int64.ofNat (φ y))) := by
  have hy6 := hE y hy
  rcases h.obj hD hE with ⟨q, h1, h2, h3, h4, h5⟩ | ⟨h, h0, h1, h2, h3, h4, h5, h6, h7⟩
  · right
    refine ⟨fun z => ?_, Or.inl (by rw [h3]; exact f_170n h1), Or.inl ⟨fun z => ?_, q, h1, h3⟩⟩
    · rw [h2] at z
      have := (nI_eq (by omega) (by omega)).mp z
      omega
    · rw [h3] at z
      have := (nI_eq (by omega) (by omega)).mp z
      omega
  · obtain ⟨p1, kd, z, w, cc, o1, o2, ⟨o3, o4, o5⟩, _⟩ := h7
    have e := f_170o (G := G) (t := t) (ty := 3) h2 o4 (by omega) (by omega)
    by_cases c : h = y
    · subst c
      have : kd = 3 := (nI_eq (by omega) (by omega)).mp (o4.symm.trans hk)
      subst this
      rw [if_pos rfl] at e
      exact Or.inl ⟨h3, by rw [h4, h6]; exact e, h6, h4⟩
    · right
      have nv : ¬ v = Int64.ofNat (φ y) := fun q => by
        rw [h6] at q
        exact c (inj h y h0 hy ((eq64 (by omega) (by omega)).mp q))
      refine ⟨fun q => ?_, ?_, Or.inr ⟨h4, nv⟩⟩
      · rw [h3] at q
        have := (nI_eq (by omega) (by omega)).mp q
        omega
      · by_cases c3 : kd = 3
        · rw [if_pos c3] at e
          exact Or.inr ⟨by rw [h4, h6]; exact e, nv⟩
        · rw [if_neg c3] at e
          exact Or.inl (by rw [h4, h6]; exact e)
set_option maxHeartbeats 4000000 in
set_option linter.unusedSimpArgs false in
theorem l_173 (hs : s < 16) (hd : d < 30) (hc2 : c ≤ 4) (o2 : T.1 56 s d 2 = nI n) (hn : n ≤ 16) (hn3 : 3 * c ≤ n) (hv : ∀ i, i < n → vr φ D (S.2.1 30 p 1 i) (S.1 31 p 1 i) (T.1 58 s d i) (T.2.1 62 s d i)) (hnum : ∀ k, k < c → S.1 31 p 1 (n - 3 * c + 3 * k + 1) = nI 0) (hD : ∀ h, D h → obR φ D S T h) (hE : ∀ h, D h → h < 600 ∧ φ h < 1300) (inj : ∀ h h', D h → D h' → φ h = φ h' → h = h') (hy : D y) (hk : T.1 51 (φ y) 0 0 = nI 3) (hsn : snd ≤ 1) : ∀ j k tt, k + j = c → j < tt → F_173_37 G t tt (nI (φ y)) (nI snd) (s, d) (nI c) (nI k) T = some (oI (ff (csf S p n c y snd (1 - snd)) j k), T) := by
  intro j
  induction j with
  | zero =>
    intro k tt h1 h2
    obtain ⟨u, rfl⟩ : ∃ u, tt = u + 1 := ⟨tt - 1, by omega⟩
    rw [F_173_37]
    clear hv hnum hD hE inj hk
    simp (disch := first | assumption | omega) only [gI, gI2, gL, gL1, gL2, jcLT, jcGE, jcGT, jcLE, jcEQ, jcNE, dEQ, nIt, lgNE, lgEQ, lgGE, lgLT, lgGT, lgLE, jinT, nIc, nI0, nI1, nIo, nIs, nI_add, nIm, nIn0, szl0, szl1, szl2, szl3, szl4, szl5, Nat.add_sub_assoc, Nat.add_zero, Nat.reduceSub, Nat.reduceAdd, Nat.reduceMul, Nat.reduceEqDiff,  jifT, bdS, sifN, sifS, omN, omS, cdI, x25, x26, x27, x28, x29, x30, x31, x32, xr0, xr1, xr2, xr3, xr4, xr5, if_pos, if_neg, true_and, and_true, false_and, and_false, and_self, Bool.and_true, if_true, if_false, reduceIte, cond_true, cond_false, not_true_eq_false, not_false_eq_true]
    rfl
  | succ j ih =>
    intro k tt h1 h2
    obtain ⟨u, rfl⟩ : ∃ u, tt = u + 1 := ⟨tt - 1, by omega⟩
    have e := ih (k + 1) u (by omega) (by omega)
    have hy6 := hE y hy
    have ch := (hv (n - 3 * c + 3 * k) (by omega)).chan (G := G) (t := t) hD hE inj hy hk
    have nm : S.2.1 30 p 1 (n - 3 * c + 3 * k + 1) = T.2.1 62 s d (n - 3 * c + 3 * k + 1) := by
      have v2 := hv (n - 3 * c + 3 * k + 1) (by omega)
      obtain ⟨ga, ka, a1, a2, a3, a4, a5, a6, a7, a8⟩ := v2.ix (fun h z => (hE h z).1)
      rw [hnum k (by omega)] at a1
      have := (nI_eq (by omega) (by omega)).mp a1
      exact a7 this.symm
    have q1 : nI n - nI 3 * nI (c - k) = nI (n - 3 * c + 3 * k) := by
      rw [nIml, pk_sub (by omega)]
      congr 1
      omega
    have y3 := l64 (n := φ y) (by omega)
    rw [F_173_37]
    unfold ff
    have hb1 : n - 3 * c + 3 * k + 1 < 16 := by omega
    clear ih hv hnum hD hE inj hk
    rcases ch with ⟨g1, g2, g3, g4⟩ | ⟨g1, g2, _⟩
    · have hcs : csf S p n c y snd (1 - snd) k = decide ((if T.2.1 62 s d (n - 3 * c + 3 * k + 1) = 0 then 1 - snd else snd) = 1) := by
        unfold csf
        rw [decide_eq_decide, nm]
        exact ⟨fun z => z.1, fun z => ⟨z, g1⟩⟩
      rw [hcs]
      clear hcs
      rw [g3] at g2
      by_cases cz : T.2.1 62 s d (n - 3 * c + 3 * k + 1) = 0
      · rw [if_pos cz]
        by_cases cs : snd = 0
        · subst cs
          simp (disch := first | assumption | omega) only [gI, gI2, gL, gL1, gL2, jcLT, jcGE, jcGT, jcLE, jcEQ, jcNE, dEQ, nIt, lgNE, lgEQ, lgGE, lgLT, lgGT, lgLE, jinT, nIc, nI0, nI1, nIo, nIs, nI_add, nIm, nIn0, szl0, szl1, szl2, szl3, szl4, szl5, Nat.add_sub_assoc, Nat.add_zero, Nat.reduceSub, Nat.reduceAdd, Nat.reduceMul, Nat.reduceEqDiff,  jifT, bdS, sifN, sifS, omN, omS, cdI, x25, x26, x27, x28, x29, x30, x31, x32, xr0, xr1, xr2, xr3, xr4, xr5, if_pos, if_neg, true_and, and_true, false_and, and_false, and_self, Bool.and_true, if_true, if_false, reduceIte, cond_true, cond_false, not_true_eq_false, not_false_eq_true, x51, x52, x53, x54, x55, x56, x57, x58, x59, x60, x61, x62, x63, o2, q1, g2, g3, y3, eq_true cz, F_173_117, F_173_124, decide_true, oI_s]
        · have : snd = 1 := by omega
          subst this
          simp (disch := first | assumption | omega) only [gI, gI2, gL, gL1, gL2, jcLT, jcGE, jcGT, jcLE, jcEQ, jcNE, dEQ, nIt, lgNE, lgEQ, lgGE, lgLT, lgGT, lgLE, jinT, nIc, nI0, nI1, nIo, nIs, nI_add, nIm, nIn0, szl0, szl1, szl2, szl3, szl4, szl5, Nat.add_sub_assoc, Nat.add_zero, Nat.reduceSub, Nat.reduceAdd, Nat.reduceMul, Nat.reduceEqDiff,  jifT, bdS, sifN, sifS, omN, omS, cdI, x25, x26, x27, x28, x29, x30, x31, x32, xr0, xr1, xr2, xr3, xr4, xr5, if_pos, if_neg, true_and, and_true, false_and, and_false, and_self, Bool.and_true, if_true, if_false, reduceIte, cond_true, cond_false, not_true_eq_false, not_false_eq_true, x51, x52, x53, x54, x55, x56, x57, x58, x59, x60, x61, x62, x63, o2, q1, g2, g3, y3, eq_true cz, F_173_117, F_173_124, decide_false, e]
      · rw [if_neg cz]
        by_cases cs : snd = 0
        · subst cs
          simp (disch := first | assumption | omega) only [gI, gI2, gL, gL1, gL2, jcLT, jcGE, jcGT, jcLE, jcEQ, jcNE, dEQ, nIt, lgNE, lgEQ, lgGE, lgLT, lgGT, lgLE, jinT, nIc, nI0, nI1, nIo, nIs, nI_add, nIm, nIn0, szl0, szl1, szl2, szl3, szl4, szl5, Nat.add_sub_assoc, Nat.add_zero, Nat.reduceSub, Nat.reduceAdd, Nat.reduceMul, Nat.reduceEqDiff,  jifT, bdS, sifN, sifS, omN, omS, cdI, x25, x26, x27, x28, x29, x30, x31, x32, xr0, xr1, xr2, xr3, xr4, xr5, if_pos, if_neg, true_and, and_true, false_and, and_false, and_self, Bool.and_true, if_true, if_false, reduceIte, cond_true, cond_false, not_true_eq_false, not_false_eq_true, x51, x52, x53, x54, x55, x56, x57, x58, x59, x60, x61, x62, x63, o2, q1, g2, g3, y3, eq_false cz, F_173_117, F_173_124, decide_false, e]
        · have : snd = 1 := by omega
          subst this
          simp (disch := first | assumption | omega) only [gI, gI2, gL, gL1, gL2, jcLT, jcGE, jcGT, jcLE, jcEQ, jcNE, dEQ, nIt, lgNE, lgEQ, lgGE, lgLT, lgGT, lgLE, jinT, nIc, nI0, nI1, nIo, nIs, nI_add, nIm, nIn0, szl0, szl1, szl2, szl3, szl4, szl5, Nat.add_sub_assoc, Nat.add_zero, Nat.reduceSub, Nat.reduceAdd, Nat.reduceMul, Nat.reduceEqDiff,  jifT, bdS, sifN, sifS, omN, omS, cdI, x25, x26, x27, x28, x29, x30, x31, x32, xr0, xr1, xr2, xr3, xr4, xr5, if_pos, if_neg, true_and, and_true, false_and, and_false, and_self, Bool.and_true, if_true, if_false, reduceIte, cond_true, cond_false, not_true_eq_false, not_false_eq_true, x51, x52, x53, x54, x55, x56, x57, x58, x59, x60, x61, x62, x63, o2, q1, g2, g3, y3, eq_false cz, F_173_117, F_173_124, decide_true, oI_s]
    · have hcs : csf S p n c y snd (1 - snd) k = false := decide_eq_false (fun z => g1 z.2)
      rw [hcs, cond_false]
      clear hcs
      rcases g2 with g2 | ⟨g2, g3⟩
      · simp (disch := first | assumption | omega) only [gI, gI2, gL, gL1, gL2, jcLT, jcGE, jcGT, jcLE, jcEQ, jcNE, dEQ, nIt, lgNE, lgEQ, lgGE, lgLT, lgGT, lgLE, jinT, nIc, nI0, nI1, nIo, nIs, nI_add, nIm, nIn0, szl0, szl1, szl2, szl3, szl4, szl5, Nat.add_sub_assoc, Nat.add_zero, Nat.reduceSub, Nat.reduceAdd, Nat.reduceMul, Nat.reduceEqDiff,  jifT, bdS, sifN, sifS, omN, omS, cdI, x25, x26, x27, x28, x29, x30, x31, x32, xr0, xr1, xr2, xr3, xr4, xr5, if_pos, if_neg, true_and, and_true, false_and, and_false, and_self, Bool.and_true, if_true, if_false, reduceIte, cond_true, cond_false, not_true_eq_false, not_false_eq_true, x51, x52, x53, x54, x55, x56, x57, x58, x59, x60, x61, x62, x63, o2, q1, g2, F_173_117, F_173_124, e]
      · simp (disch := first | assumption | omega) only [gI, gI2, gL, gL1, gL2, jcLT, jcGE, jcGT, jcLE, jcEQ, jcNE, dEQ, nIt, lgNE, lgEQ, lgGE, lgLT, lgGT, lgLE, jinT, nIc, nI0, nI1, nIo, nIs, nI_add, nIm, nIn0, szl0, szl1, szl2, szl3, szl4, szl5, Nat.add_sub_assoc, Nat.add_zero, Nat.reduceSub, Nat.reduceAdd, Nat.reduceMul, Nat.reduceEqDiff,  jifT, bdS, sifN, sifS, omN, omS, cdI, x25, x26, x27, x28, x29, x30, x31, x32, xr0, xr1, xr2, xr3, xr4, xr5, if_pos, if_neg, true_and, and_true, false_and, and_false, and_self, Bool.and_true, if_true, if_false, reduceIte, cond_true, cond_false, not_true_eq_false, not_false_eq_true, x51, x52, x53, x54, x55, x56, x57, x58, x59, x60, x61, x62, x63, o2, q1, g2, y3, eq_false g3, F_173_117, F_173_124, e]
set_option maxHeartbeats 4000000 in
set_option linter.unusedSimpArgs false in
theorem f_173 {f pc q fi : Nat} (ht : 100 < t) (hs : s < 16) (hd : d < 30) (h3 : T.1 54 s 0 1 = nI (d + 1)) (hf : T.1 56 s d 0 = nI f) (hf2 : f < 32) (hpc : T.1 56 s d 1 = nI (pc + 1)) (hfi : T.1 39 0 0 f = nI fi) (hb : fi + pc < 1500) (ha : T.1 42 0 0 (fi + pc) &&& nI 7 = nI c) (hc2 : c ≤ 4) (o2 : T.1 56 s d 2 = nI n) (hn : n ≤ 16) (hn3 : 3 * c ≤ n) (hv : ∀ i, i < n → vr φ D (S.2.1 30 p 1 i) (S.1 31 p 1 i) (T.1 58 s d i) (T.2.1 62 s d i)) (hnum : ∀ k, k < c → S.1 31 p 1 (n - 3 * c + 3 * k + 1) = nI 0) (hD : ∀ h, D h → obR φ D S T h) (hE : ∀ h, D h → h < 600 ∧ φ h < 1300) (inj : ∀ h h', D h → D h' → φ h = φ h' → h = h') (hy : D y) (hk : T.1 51 (φ y) 0 0 = nI 3) (hsn : snd ≤ 1) : F_173 G t (s, 0) (nI (φ y)) (nI snd) T = some (oI (ff (csf S p n c y snd (1 - snd)) c 0), T) := by
  have e := l_173 (G := G) (t := t) hs hd hc2 o2 hn hn3 hv hnum hD hE inj hy hk hsn c 0 t (by omega) (by omega)
  have q1 : fi + (pc + 1) - 1 = fi + pc := by omega
  clear hv hnum hD hE inj hk
  unfold F_173
  simp (disch := first | assumption | omega) only [gI, gI2, gL, gL1, gL2, jcLT, jcGE, jcGT, jcLE, jcEQ, jcNE, dEQ, nIt, lgNE, lgEQ, lgGE, lgLT, lgGT, lgLE, jinT, nIc, nI0, nI1, nIo, nIs, nI_add, nIm, nIn0, szl0, szl1, szl2, szl3, szl4, szl5, Nat.add_sub_assoc, Nat.add_zero, Nat.reduceSub, Nat.reduceAdd, Nat.reduceMul, Nat.reduceEqDiff,  jifT, bdS, sifN, sifS, omN, omS, cdI, x25, x26, x27, x28, x29, x30, x31, x32, xr0, xr1, xr2, xr3, xr4, xr5, if_pos, if_neg, true_and, and_true, false_and, and_false, and_self, Bool.and_true, if_true, if_false, reduceIte, cond_true, cond_false, not_true_eq_false, not_false_eq_true, x51, x52, x53, x54, x55, x56, x57, x58, x59, x60, x61, x62, x63, F_151, h3, hf, hpc, hfi, q1, ha, e]
end MCA
