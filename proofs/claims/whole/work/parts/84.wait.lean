/-! Who waits, on both sides. -/
/-! what the class's caseOf answers of a strand -/
def cO (S : sS) (A : aS) (s y sn rc : Nat) : Option Nat := match A.2.1 s with
  | 0 => none
  | d + 1 => match S.2.2.1.1 s d with
    | none => none
    | some p => csO S p (A.2.2.1 s d).2.2.1 (S.1 25 s 0 6).toNatClampNeg (A.1 s) y sn rc
set_option maxHeartbeats 4000000 in
set_option linter.unusedSimpArgs false in
theorem cO_e {S : sS} {A : aS} {s d p : Nat} (h1 : A.2.1 s = d + 1) (h2 : S.2.2.1.1 s d = some p) (y sn rc : Nat) : cO S A s y sn rc = csO S p (A.2.2.1 s d).2.2.1 (S.1 25 s 0 6).toNatClampNeg (A.1 s) y sn rc := by
  unfold cO
  rw [h1]
  dsimp only
  rw [h2]
theorem cO_z {S : sS} {A : aS} {s : Nat} (h1 : A.2.1 s = 0) (y sn rc : Nat) : cO S A s y sn rc = none := by
  unfold cO
  rw [h1]
theorem csO_st {S : sS} {p n c st y sn rc k : Nat} (h : csO S p n c st y sn rc = some k) : (2 ≤ st ∧ st ≤ 4) ∧ (st = 4 → k < c) ∧ (st ≠ 4 → k = 0) := by
  unfold csO at h
  by_cases c2 : st = 2
  · rw [if_pos c2] at h
    split at h
    · cases h
      exact ⟨by omega, fun _ => by omega, fun _ => rfl⟩
    · cases h
  · rw [if_neg c2] at h
    by_cases c3 : st = 3
    · rw [if_pos c3] at h
      split at h
      · cases h
        exact ⟨by omega, fun _ => by omega, fun _ => rfl⟩
      · cases h
    · rw [if_neg c3] at h
      by_cases c4 : st = 4
      · rw [if_pos c4] at h
        have := ff_lt _ _ _ h
        exact ⟨by omega, fun _ => by omega, fun z => absurd c4 z⟩
      · rw [if_neg c4] at h
        cases h
section WAI
variable {φ : Nat → Nat} {D : Nat → Prop} {F N : Nat} {P : aP} {S T : sS} {A : aS} {G : jG} {t y s sn rc : Nat}
theorem frR.tg {f pc n m e b p d : Nat} (fr : frR φ D F P S p T s d f pc n m e b) (hE : ∀ h, D h → h < 600 ∧ φ h < 1300) : ∀ i, i < n → ∃ g, S.1 31 p 1 i = nI g ∧ g < 602 := fun i hi => by
  obtain ⟨g, _, g1, _, g2, _⟩ := (fr.2.2.2.1.2.2.2 i hi).ix (fun h z => (hE h z).1)
  exact ⟨g, g1, g2⟩
theorem wR.cls (h : wR φ D F N P S T A) (ht : 100 < t) (hs : s < 16) (hy : y < 600) (hsn : sn ≤ 1) (hrc : rc ≤ 1) : F_89 G t (s, 0) (nI (y + 2)) (nI sn) (nI rc) S = some (oI (cO S A s y sn rc), S) ∧ ∀ k, cO S A s y sn rc = some k → k < 16 ∧ 2 ≤ A.1 s ∧ A.1 s ≤ 4 := by
  have R := h.2.1 s hs
  have hE := h.2.2.2.2.1.1
  cases e : A.2.1 s with
  | zero =>
    rw [cO_z e]
    have h3 := R.2.2.1.1
    rw [e] at h3
    exact ⟨f_89z hs h3, fun k z => by cases z⟩
  | succ d =>
    obtain ⟨p, hp, fr⟩ := R.fr (d := d) (by omega)
    have h3 := R.2.2.1.1
    have h30 := R.2.2.1.2.2
    rw [e] at h3 h30
    rw [cO_e e hp]
    have wt := h.2.2.2.2.2.2.1.2 s hs
    have st := R.2.1
    refine ⟨f_89 (d := d) ht hs st.1 st.2.2 h3 (by omega) hp fr.1 fr.2.2.2.1.1 fr.2.2.2.1.2.2.1 (fr.tg hE) hy hsn hrc (fun z => ?_) (fun z => ?_) (fun z => ?_), fun k z => ?_⟩
    · exact ((wt (by omega) (by omega)).2 d e).1 z
    · exact (((wt (by omega) (by omega)).2 d e).2.1 z).1
    · obtain ⟨c, c1, c2, c3, c4, _⟩ := ((wt (by omega) (by omega)).2 d e).2.2 z
      rw [c3, nI_clamp (by omega)]
      exact ⟨rfl, c2, c4⟩
    · obtain ⟨q1, q2, q3⟩ := csO_st z
      refine ⟨?_, q1⟩
      by_cases c4 : A.1 s = 4
      · obtain ⟨c, c1, c2, c3, _⟩ := ((wt (by omega) (by omega)).2 d e).2.2 c4
        have := q2 c4
        rw [c3, nI_clamp (by omega)] at this
        omega
      · have := q3 c4
        omega
set_option maxHeartbeats 4000000 in
set_option linter.unusedSimpArgs false in
theorem wR.mdl (h : wR φ D F N P S T A) (ht : 100 < t) (hs : s < 16) (hy : D y) (hk : T.1 51 (φ y) 0 0 = nI 3) {snd : Nat} (hsn : snd ≤ 1) (h2 : 2 ≤ A.1 s) (h4 : A.1 s ≤ 4) : F_174 G t (nI s) (nI (φ y)) (nI snd) T = some (nI (bif (cO S A s y snd (1 - snd)).isSome then 1 else 0), T) ∧ (A.1 s = 4 → F_173 G t (s, 0) (nI (φ y)) (nI snd) T = some (oI (cO S A s y snd (1 - snd)), T)) := by
  have R := h.2.1 s hs
  obtain ⟨hE, inj⟩ := h.2.2.2.2.1
  have hD := h.2.2.2.1
  have hy6 := hE y hy
  obtain ⟨d, e⟩ : ∃ d, A.2.1 s = d + 1 := ⟨A.2.1 s - 1, by have := R.2.2.2.1; omega⟩
  obtain ⟨p, hp, fr⟩ := R.fr (d := d) (by omega)
  have t3 := R.2.2.1.2.1
  have h30 := R.2.2.1.2.2
  rw [e] at t3 h30
  rw [cO_e e hp]
  obtain ⟨_, wt⟩ := h.2.2.2.2.2.2.1.2 s hs h2 h4
  obtain ⟨wt2, wt3, wt4⟩ := wt d e
  have st := R.2.1.2.1
  have o2 := fr.2.2.2.1.2.1
  have hn := fr.2.2.2.1.2.2.1
  have hv := fr.2.2.2.1.2.2.2
  have y3 := l64 (n := φ y) (by omega)
  generalize hfd : A.2.2.1 s d = fd at fr o2 hn hv wt2 wt3 wt4
  obtain ⟨f, pc, n, m, ee⟩ := fd
  dsimp only at fr o2 hn hv wt2 wt3 wt4 ⊢
  by_cases c4 : A.1 s = 4
  · obtain ⟨c, c1, c2, c3, c5, c6, ⟨q, c7, c8⟩, p', c9, c10⟩ := wt4 c4
    have : p' = p := by rw [hp] at c9; exact (Option.some.inj c9).symm
    subst this
    rw [c3, nI_clamp (by omega), c4]
    have eq : csO S p' n c 4 y snd (1 - snd) = ff (csf S p' n c y snd (1 - snd)) c 0 := rfl
    rw [eq]
    obtain ⟨pf, _, pg, pq, _⟩ := h.1.1
    have hf := fr.2.1.2.2
    obtain ⟨_, _, pg4, pg5⟩ := pg f hf
    have hpc := fr.2.2.1
    rw [c7] at hpc
    have hb : P.2.2.1 f + q < N := by omega
    have pa := (pq _ hb).2.2
    have e173 := f_173 (G := G) (t := t) (S := S) (p := p') (f := f) (pc := q) (q := 0) (fi := P.2.2.1 f) ht hs (by omega) t3 fr.2.1.2.1 (by omega) hpc.2.1 pg4.2 (by omega) (by rw [pa]; exact c8) c2 o2 hn c5 hv c10 hD hE inj hy hk hsn
    refine ⟨?_, fun _ => e173⟩
    rw [c4] at st
    clear wt2 wt3 wt4 hv hD hE inj wt pg pq eq R h fr pf pg4 pg5 hpc pa c8 c10
    unfold F_174
    cases ec : ff (csf S p' n c y snd (1 - snd)) c 0 with
    | none =>
      rw [ec, oI_n] at e173
      have jl := jLm1
      rw [nI0] at jl
      simp (disch := first | assumption | omega) only [gI, gI2, gL, gL1, gL2, jcLT, jcGE, jcGT, jcLE, jcEQ, jcNE, dEQ, nIt, lgNE, lgEQ, lgGE, lgLT, lgGT, lgLE, jinT, nIc, nI0, nI1, nIo, nIs, nI_add, nIm, nIn0, szl0, szl1, szl2, szl3, szl4, szl5, Nat.add_sub_assoc, Nat.add_zero, Nat.reduceSub, Nat.reduceAdd, Nat.reduceMul, Nat.reduceEqDiff,  jifT, bdS, sifN, sifS, omN, omS, cdI, x25, x26, x27, x28, x29, x30, x31, x32, xr0, xr1, xr2, xr3, xr4, xr5, if_pos, if_neg, true_and, and_true, false_and, and_false, and_self, Bool.and_true, if_true, if_false, reduceIte, cond_true, cond_false, not_true_eq_false, not_false_eq_true, x51, x52, x53, x54, x55, x56, x57, x58, x59, x60, x61, x62, x63, st, e173, jl]
      rfl
    | some k =>
      have hk16 := (ff_lt _ _ _ ec).2.1
      rw [ec, oI_s] at e173
      simp (disch := first | assumption | omega) only [gI, gI2, gL, gL1, gL2, jcLT, jcGE, jcGT, jcLE, jcEQ, jcNE, dEQ, nIt, lgNE, lgEQ, lgGE, lgLT, lgGT, lgLE, jinT, nIc, nI0, nI1, nIo, nIs, nI_add, nIm, nIn0, szl0, szl1, szl2, szl3, szl4, szl5, Nat.add_sub_assoc, Nat.add_zero, Nat.reduceSub, Nat.reduceAdd, Nat.reduceMul, Nat.reduceEqDiff,  jifT, bdS, sifN, sifS, omN, omS, cdI, x25, x26, x27, x28, x29, x30, x31, x32, xr0, xr1, xr2, xr3, xr4, xr5, if_pos, if_neg, true_and, and_true, false_and, and_false, and_self, Bool.and_true, if_true, if_false, reduceIte, cond_true, cond_false, not_true_eq_false, not_false_eq_true, x51, x52, x53, x54, x55, x56, x57, x58, x59, x60, x61, x62, x63, st, e173]
      rfl
  · refine ⟨?_, fun z => absurd z c4⟩
    by_cases c2 : A.1 s = 2
    · have hn2 := wt2 c2
      have ch := (hv (n - 2) (by omega)).chan (G := G) (t := t) hD hE inj hy hk
      rw [c2] at st ⊢
      have eq : csO S p n (S.1 25 s 0 6).toNatClampNeg 2 y snd (1 - snd) = if snd = 1 ∧ S.1 31 p 1 (n - 2) = nI (y + 2) then some 0 else none := rfl
      rw [eq]
      clear wt2 wt3 wt4 hv hD hE inj wt R h fr eq
      unfold F_174
      by_cases cs : snd = 1
      · subst cs
        rcases ch with ⟨g1, g2, g3, g4⟩ | ⟨g1, _, g4⟩
        · rw [if_pos ⟨rfl, g1⟩]
          simp (disch := first | assumption | omega) only [gI, gI2, gL, gL1, gL2, jcLT, jcGE, jcGT, jcLE, jcEQ, jcNE, dEQ, nIt, lgNE, lgEQ, lgGE, lgLT, lgGT, lgLE, jinT, nIc, nI0, nI1, nIo, nIs, nI_add, nIm, nIn0, szl0, szl1, szl2, szl3, szl4, szl5, Nat.add_sub_assoc, Nat.add_zero, Nat.reduceSub, Nat.reduceAdd, Nat.reduceMul, Nat.reduceEqDiff,  jifT, bdS, sifN, sifS, omN, omS, cdI, x25, x26, x27, x28, x29, x30, x31, x32, xr0, xr1, xr2, xr3, xr4, xr5, if_pos, if_neg, true_and, and_true, false_and, and_false, and_self, Bool.and_true, if_true, if_false, reduceIte, cond_true, cond_false, not_true_eq_false, not_false_eq_true, x51, x52, x53, x54, x55, x56, x57, x58, x59, x60, x61, x62, x63, st, F_174_48, F_174_74, F_151, t3, o2, g4, g3, y3]
          rfl
        · rw [if_neg (fun z => g1 z.2)]
          rcases g4 with ⟨g4, q, g5, g6⟩ | ⟨g4, g5⟩
          · simp (disch := first | assumption | omega) only [gI, gI2, gL, gL1, gL2, jcLT, jcGE, jcGT, jcLE, jcEQ, jcNE, dEQ, nIt, lgNE, lgEQ, lgGE, lgLT, lgGT, lgLE, jinT, nIc, nI0, nI1, nIo, nIs, nI_add, nIm, nIn0, szl0, szl1, szl2, szl3, szl4, szl5, Nat.add_sub_assoc, Nat.add_zero, Nat.reduceSub, Nat.reduceAdd, Nat.reduceMul, Nat.reduceEqDiff,  jifT, bdS, sifN, sifS, omN, omS, cdI, x25, x26, x27, x28, x29, x30, x31, x32, xr0, xr1, xr2, xr3, xr4, xr5, if_pos, if_neg, true_and, and_true, false_and, and_false, and_self, Bool.and_true, if_true, if_false, reduceIte, cond_true, cond_false, not_true_eq_false, not_false_eq_true, x51, x52, x53, x54, x55, x56, x57, x58, x59, x60, x61, x62, x63, st, F_174_48, F_174_74, F_151, t3, o2, g6]
            rfl
          · simp (disch := first | assumption | omega) only [gI, gI2, gL, gL1, gL2, jcLT, jcGE, jcGT, jcLE, jcEQ, jcNE, dEQ, nIt, lgNE, lgEQ, lgGE, lgLT, lgGT, lgLE, jinT, nIc, nI0, nI1, nIo, nIs, nI_add, nIm, nIn0, szl0, szl1, szl2, szl3, szl4, szl5, Nat.add_sub_assoc, Nat.add_zero, Nat.reduceSub, Nat.reduceAdd, Nat.reduceMul, Nat.reduceEqDiff,  jifT, bdS, sifN, sifS, omN, omS, cdI, x25, x26, x27, x28, x29, x30, x31, x32, xr0, xr1, xr2, xr3, xr4, xr5, if_pos, if_neg, true_and, and_true, false_and, and_false, and_self, Bool.and_true, if_true, if_false, reduceIte, cond_true, cond_false, not_true_eq_false, not_false_eq_true, x51, x52, x53, x54, x55, x56, x57, x58, x59, x60, x61, x62, x63, st, F_174_48, F_174_74, F_151, t3, o2, g4, eq_false g5, y3]
            rfl
      · have : snd = 0 := by omega
        subst this
        rw [if_neg (fun z => by omega)]
        simp (disch := first | assumption | omega) only [gI, gI2, gL, gL1, gL2, jcLT, jcGE, jcGT, jcLE, jcEQ, jcNE, dEQ, nIt, lgNE, lgEQ, lgGE, lgLT, lgGT, lgLE, jinT, nIc, nI0, nI1, nIo, nIs, nI_add, nIm, nIn0, szl0, szl1, szl2, szl3, szl4, szl5, Nat.add_sub_assoc, Nat.add_zero, Nat.reduceSub, Nat.reduceAdd, Nat.reduceMul, Nat.reduceEqDiff,  jifT, bdS, sifN, sifS, omN, omS, cdI, x25, x26, x27, x28, x29, x30, x31, x32, xr0, xr1, xr2, xr3, xr4, xr5, if_pos, if_neg, true_and, and_true, false_and, and_false, and_self, Bool.and_true, if_true, if_false, reduceIte, cond_true, cond_false, not_true_eq_false, not_false_eq_true, x51, x52, x53, x54, x55, x56, x57, x58, x59, x60, x61, x62, x63, st, F_174_48, F_174_74, F_151, t3, o2]
        rfl
    · have c3 : A.1 s = 3 := by omega
      have hn2 := (wt3 c3).1
      have ch := (hv (n - 1) (by omega)).chan (G := G) (t := t) hD hE inj hy hk
      rw [c3] at st ⊢
      have eq : csO S p n (S.1 25 s 0 6).toNatClampNeg 3 y snd (1 - snd) = if 1 - snd = 1 ∧ S.1 31 p 1 (n - 1) = nI (y + 2) then some 0 else none := rfl
      rw [eq]
      clear wt2 wt3 wt4 hv hD hE inj wt R h fr eq
      unfold F_174
      by_cases cs : snd = 0
      · subst cs
        rcases ch with ⟨g1, g2, g3, g4⟩ | ⟨g1, _, g4⟩
        · rw [if_pos ⟨rfl, g1⟩]
          simp (disch := first | assumption | omega) only [gI, gI2, gL, gL1, gL2, jcLT, jcGE, jcGT, jcLE, jcEQ, jcNE, dEQ, nIt, lgNE, lgEQ, lgGE, lgLT, lgGT, lgLE, jinT, nIc, nI0, nI1, nIo, nIs, nI_add, nIm, nIn0, szl0, szl1, szl2, szl3, szl4, szl5, Nat.add_sub_assoc, Nat.add_zero, Nat.reduceSub, Nat.reduceAdd, Nat.reduceMul, Nat.reduceEqDiff,  jifT, bdS, sifN, sifS, omN, omS, cdI, x25, x26, x27, x28, x29, x30, x31, x32, xr0, xr1, xr2, xr3, xr4, xr5, if_pos, if_neg, true_and, and_true, false_and, and_false, and_self, Bool.and_true, if_true, if_false, reduceIte, cond_true, cond_false, not_true_eq_false, not_false_eq_true, x51, x52, x53, x54, x55, x56, x57, x58, x59, x60, x61, x62, x63, st, F_174_48, F_174_74, F_151, t3, o2, g4, g3, y3]
          rfl
        · rw [if_neg (fun z => g1 z.2)]
          rcases g4 with ⟨g4, q, g5, g6⟩ | ⟨g4, g5⟩
          · simp (disch := first | assumption | omega) only [gI, gI2, gL, gL1, gL2, jcLT, jcGE, jcGT, jcLE, jcEQ, jcNE, dEQ, nIt, lgNE, lgEQ, lgGE, lgLT, lgGT, lgLE, jinT, nIc, nI0, nI1, nIo, nIs, nI_add, nIm, nIn0, szl0, szl1, szl2, szl3, szl4, szl5, Nat.add_sub_assoc, Nat.add_zero, Nat.reduceSub, Nat.reduceAdd, Nat.reduceMul, Nat.reduceEqDiff,  jifT, bdS, sifN, sifS, omN, omS, cdI, x25, x26, x27, x28, x29, x30, x31, x32, xr0, xr1, xr2, xr3, xr4, xr5, if_pos, if_neg, true_and, and_true, false_and, and_false, and_self, Bool.and_true, if_true, if_false, reduceIte, cond_true, cond_false, not_true_eq_false, not_false_eq_true, x51, x52, x53, x54, x55, x56, x57, x58, x59, x60, x61, x62, x63, st, F_174_48, F_174_74, F_151, t3, o2, g6]
            rfl
          · simp (disch := first | assumption | omega) only [gI, gI2, gL, gL1, gL2, jcLT, jcGE, jcGT, jcLE, jcEQ, jcNE, dEQ, nIt, lgNE, lgEQ, lgGE, lgLT, lgGT, lgLE, jinT, nIc, nI0, nI1, nIo, nIs, nI_add, nIm, nIn0, szl0, szl1, szl2, szl3, szl4, szl5, Nat.add_sub_assoc, Nat.add_zero, Nat.reduceSub, Nat.reduceAdd, Nat.reduceMul, Nat.reduceEqDiff,  jifT, bdS, sifN, sifS, omN, omS, cdI, x25, x26, x27, x28, x29, x30, x31, x32, xr0, xr1, xr2, xr3, xr4, xr5, if_pos, if_neg, true_and, and_true, false_and, and_false, and_self, Bool.and_true, if_true, if_false, reduceIte, cond_true, cond_false, not_true_eq_false, not_false_eq_true, x51, x52, x53, x54, x55, x56, x57, x58, x59, x60, x61, x62, x63, st, F_174_48, F_174_74, F_151, t3, o2, g4, eq_false g5, y3]
            rfl
      · have : snd = 1 := by omega
        subst this
        rw [if_neg (fun z => by omega)]
        simp (disch := first | assumption | omega) only [gI, gI2, gL, gL1, gL2, jcLT, jcGE, jcGT, jcLE, jcEQ, jcNE, dEQ, nIt, lgNE, lgEQ, lgGE, lgLT, lgGT, lgLE, jinT, nIc, nI0, nI1, nIo, nIs, nI_add, nIm, nIn0, szl0, szl1, szl2, szl3, szl4, szl5, Nat.add_sub_assoc, Nat.add_zero, Nat.reduceSub, Nat.reduceAdd, Nat.reduceMul, Nat.reduceEqDiff,  jifT, bdS, sifN, sifS, omN, omS, cdI, x25, x26, x27, x28, x29, x30, x31, x32, xr0, xr1, xr2, xr3, xr4, xr5, if_pos, if_neg, true_and, and_true, false_and, and_false, and_self, Bool.and_true, if_true, if_false, reduceIte, cond_true, cond_false, not_true_eq_false, not_false_eq_true, x51, x52, x53, x54, x55, x56, x57, x58, x59, x60, x61, x62, x63, st, F_174_48, F_174_74, F_151, t3, o2]
        rfl
/-! who waits longest to send (1) or to receive (0) -/
def lw (S : sS) (A : aS) (y sn rc : Nat) : Option Nat := bw A.2.2.2.2.1 (fun s => (cO S A s y sn rc).isSome) 16 none 0
theorem wR.lwC (h : wR φ D F N P S T A) (ht : 100 < t) (hy : y < 600) (hsn : sn ≤ 1) (hrc : rc ≤ 1) (hW : A.2.2.2.2.2.1 + A.2.2.2.2.2.2 < 2147483648) : F_90 G t (nI (y + 2)) (nI sn) (nI rc) S = some ((lw S A y sn rc).map fun x => (x, 0), S) := by
  refine f_90 ht (fun s hs => ?_) (fun s hs hm => ?_)
  · obtain ⟨e, k⟩ := h.cls (G := G) ht hs hy hsn hrc
    exact ⟨_, e, rfl, fun x hx => (k x hx).1⟩
  · obtain ⟨e, k⟩ := h.cls (G := G) (t := t) ht hs hy hsn hrc
    obtain ⟨x, hx⟩ := Option.isSome_iff_exists.mp hm
    have := k x hx
    have w := (h.2.2.2.2.2.2.1.2 s hs this.2.1 this.2.2).1
    exact ⟨w.1, by omega⟩
theorem wR.lwM (h : wR φ D F N P S T A) (ht : 100 < t) (hy : D y) (hk : T.1 51 (φ y) 0 0 = nI 3) {snd : Nat} (hsn : snd ≤ 1) (hW : A.2.2.2.2.2.1 + A.2.2.2.2.2.2 < 2147483648) : F_175 G t (nI (φ y)) (nI snd) T = some (oI (lw S A y snd (1 - snd)), T) := by
  have hy6 := h.2.2.2.2.1.1 y hy
  refine f_175 (st := A.1) (o := A.2.2.2.2.2.2) ht (fun s hs => ⟨(h.2.1 s hs).2.1.2.1, (h.2.1 s hs).2.1.2.2⟩) (fun s hs h2 h4 => (h.mdl ht hs hy hk hsn h2 h4).1) (fun s hs hm => ?_)
  obtain ⟨e, k⟩ := h.cls (G := G) (t := t) ht hs hy6.1 hsn (show 1 - snd ≤ 1 by omega)
  obtain ⟨x, hx⟩ := Option.isSome_iff_exists.mp hm
  have := k x hx
  have w := (h.2.2.2.2.2.2.1.2 s hs this.2.1 this.2.2).1
  exact ⟨this.2, w.2.1, by omega⟩
theorem wR.lwS (h : wR φ D F N P S T A) (ht : 100 < t) (hy : y < 600) (hsn : sn ≤ 1) (hrc : rc ≤ 1) {x : Nat} (hx : lw S A y sn rc = some x) : x < 16 ∧ (∃ k, cO S A x y sn rc = some k ∧ k < 16) ∧ 2 ≤ A.1 x ∧ A.1 x ≤ 4 := by
  have b := bw_m 16 none 0 (fun y z => by cases z) x hx
  obtain ⟨k, hk⟩ := Option.isSome_iff_exists.mp b.1
  have := (h.cls (G := fun _ => (0, fun _ => 0)) (t := t) ht (show x < 16 by omega) hy hsn hrc).2 k hk
  exact ⟨by omega, ⟨k, hk, this.1⟩, this.2⟩
end WAI
