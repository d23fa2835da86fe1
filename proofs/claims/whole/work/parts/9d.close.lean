/-! CLOSE: who waits for the channel in any way. -/
theorem ff_or {f g h : Nat → Bool} (e : ∀ x, f x = (g x || h x)) (ex : ∀ x, g x = true → h x = true → False) : ∀ n k, (ff f n k = none ∧ ff g n k = none ∧ ff h n k = none) ∨ (∃ a, ff f n k = some a ∧ ff g n k = some a ∧ ∀ b, ff h n k = some b → a < b) ∨ (∃ a, ff f n k = some a ∧ ff h n k = some a ∧ ∀ b, ff g n k = some b → a < b) := by
  intro n
  induction n with
  | zero => intro k; exact Or.inl ⟨rfl, rfl, rfl⟩
  | succ n ih =>
    intro k
    unfold ff
    have ek := e k
    cases eg : g k with
    | true =>
      have eh : h k = false := by
        cases eh : h k with
        | false => rfl
        | true => exact (ex k eg eh).elim
      rw [eg, eh] at ek
      rw [ek, eh]
      refine Or.inr (Or.inl ⟨k, rfl, rfl, fun b hb => ?_⟩)
      have := ff_lt n (k + 1) b hb
      omega
    | false =>
      cases eh : h k with
      | true =>
        rw [eg, eh] at ek
        rw [ek]
        refine Or.inr (Or.inr ⟨k, rfl, rfl, fun b hb => ?_⟩)
        have := ff_lt n (k + 1) b hb
        omega
      | false =>
        rw [eg, eh] at ek
        rw [ek]
        exact ih (k + 1)
set_option maxHeartbeats 4000000 in
set_option linter.unusedSimpArgs false in
theorem csf_or (S : sS) (p n c y k : Nat) : csf S p n c y 1 1 k = (csf S p n c y 1 0 k || csf S p n c y 0 1 k) := by
  unfold csf
  by_cases a : S.2.1 30 p 1 (n - 3 * c + 3 * k + 1) = 0
  · by_cases b : S.1 31 p 1 (n - 3 * c + 3 * k) = nI (y + 2)
    · simp [a, b]
    · simp [a, b]
  · by_cases b : S.1 31 p 1 (n - 3 * c + 3 * k) = nI (y + 2)
    · simp [a, b]
    · simp [a, b]
set_option maxHeartbeats 4000000 in
set_option linter.unusedSimpArgs false in
theorem csf_s {S : sS} {p n c y k : Nat} (h : csf S p n c y 1 0 k = true) : S.2.1 30 p 1 (n - 3 * c + 3 * k + 1) ≠ 0 := by
  unfold csf at h
  intro a
  rw [if_pos a] at h
  simp at h
set_option maxHeartbeats 4000000 in
set_option linter.unusedSimpArgs false in
theorem csf_r {S : sS} {p n c y k : Nat} (h : csf S p n c y 0 1 k = true) : S.2.1 30 p 1 (n - 3 * c + 3 * k + 1) = 0 := by
  unfold csf at h
  apply Classical.byContradiction
  intro a
  rw [if_neg a] at h
  simp at h
theorem csO_2 (S : sS) (p n c y sn rc : Nat) : csO S p n c 2 y sn rc = if sn = 1 ∧ S.1 31 p 1 (n - 2) = nI (y + 2) then some 0 else none := rfl
theorem csO_3 (S : sS) (p n c y sn rc : Nat) : csO S p n c 3 y sn rc = if rc = 1 ∧ S.1 31 p 1 (n - 1) = nI (y + 2) then some 0 else none := rfl
theorem csO_4 (S : sS) (p n c y sn rc : Nat) : csO S p n c 4 y sn rc = ff (csf S p n c y sn rc) c 0 := rfl
theorem csO_e {S : sS} {p n c st y sn rc : Nat} (h : st < 2 ∨ 4 < st) : csO S p n c st y sn rc = none := by
  unfold csO
  rw [if_neg (by omega), if_neg (by omega), if_neg (by omega)]
theorem csO_sp (S : sS) (p n c st y : Nat) : (csO S p n c st y 1 1 = none ∧ csO S p n c st y 1 0 = none ∧ csO S p n c st y 0 1 = none) ∨ (∃ a, csO S p n c st y 1 1 = some a ∧ csO S p n c st y 1 0 = some a ∧ (st = 2 ∨ st = 4 ∧ S.2.1 30 p 1 (n - 3 * c + 3 * a + 1) ≠ 0) ∧ ∀ b, csO S p n c st y 0 1 = some b → a < b) ∨ (∃ a, csO S p n c st y 1 1 = some a ∧ csO S p n c st y 0 1 = some a ∧ (st = 3 ∨ st = 4 ∧ S.2.1 30 p 1 (n - 3 * c + 3 * a + 1) = 0) ∧ ∀ b, csO S p n c st y 1 0 = some b → a < b) := by
  by_cases c2 : st = 2
  · subst c2
    rw [csO_2, csO_2, csO_2]
    by_cases e : S.1 31 p 1 (n - 2) = nI (y + 2)
    · rw [if_pos ⟨rfl, e⟩, if_neg (fun z => absurd z.1 (by decide))]
      exact Or.inr (Or.inl ⟨0, rfl, rfl, Or.inl rfl, fun b hb => by cases hb⟩)
    · rw [if_neg (fun z => e z.2), if_neg (fun z => e z.2)]
      exact Or.inl ⟨rfl, rfl, rfl⟩
  · by_cases c3 : st = 3
    · subst c3
      rw [csO_3, csO_3, csO_3]
      by_cases e : S.1 31 p 1 (n - 1) = nI (y + 2)
      · rw [if_pos ⟨rfl, e⟩, if_neg (fun z => absurd z.1 (by decide))]
        exact Or.inr (Or.inr ⟨0, rfl, rfl, Or.inl rfl, fun b hb => by cases hb⟩)
      · rw [if_neg (fun z => e z.2), if_neg (fun z => e z.2)]
        exact Or.inl ⟨rfl, rfl, rfl⟩
    · by_cases c4 : st = 4
      · subst c4
        rw [csO_4, csO_4, csO_4]
        rcases ff_or (csf_or S p n c y) (fun x a b => csf_s a (csf_r b)) c 0 with z | ⟨a, z1, z2, z3⟩ | ⟨a, z1, z2, z3⟩
        · exact Or.inl z
        · exact Or.inr (Or.inl ⟨a, z1, z2, Or.inr ⟨rfl, csf_s (ff_lt c 0 a z2).2.2⟩, z3⟩)
        · exact Or.inr (Or.inr ⟨a, z1, z2, Or.inr ⟨rfl, csf_r (ff_lt c 0 a z2).2.2⟩, z3⟩)
      · rw [csO_e (by omega), csO_e (by omega), csO_e (by omega)]
        exact Or.inl ⟨rfl, rfl, rfl⟩
set_option maxHeartbeats 4000000 in
set_option linter.unusedSimpArgs false in
theorem cO_or (S : sS) (A : aS) (s y : Nat) : (cO S A s y 1 1).isSome = ((cO S A s y 1 0).isSome || (cO S A s y 0 1).isSome) := by
  unfold cO
  cases A.2.1 s with
  | zero => rfl
  | succ d =>
    dsimp only
    cases S.2.2.1.1 s d with
    | none => rfl
    | some p =>
      dsimp only
      rcases csO_sp S p (A.2.2.1 s d).2.2.1 (S.1 25 s 0 6).toNatClampNeg (A.1 s) y with ⟨z1, z2, z3⟩ | ⟨a, z1, z2, _⟩ | ⟨a, z1, z2, _⟩
      · rw [z1, z2, z3]; rfl
      · rw [z1, z2]; rfl
      · rw [z1, z2]; simp
section CLO
variable {φ : Nat → Nat} {D : Nat → Prop} {F N : Nat} {P : aP} {S S' T T' : sS} {A : aS} {r d p f pc n m e b k y : Nat} {G : jG} {t : Nat}
set_option maxHeartbeats 4000000 in
set_option linter.unusedSimpArgs false in
theorem l_185 {k94 : Int32 → sS → Option (Unit × sS)} {cc : Int32} {st w : Nat → Nat} {o : Nat} {m m1 m2 : Nat → Bool} {T : sS} (hor : ∀ s, m s = (m1 s || m2 s)) (hst : ∀ s, s < 16 → T.1 54 s 0 0 = nI (st s) ∧ st s ≤ 6) (hc : ∀ s, s < 16 → 2 ≤ st s → st s ≤ 4 → F_174 G t (nI s) cc (nI 1) T = some (nI (bif m1 s then 1 else 0), T) ∧ F_174 G t (nI s) cc (nI 0) T = some (nI (bif m2 s then 1 else 0), T)) (hm : ∀ s, s < 16 → m s = true → (2 ≤ st s ∧ st s ≤ 4) ∧ T.2.1 54 s 0 3 = Int64.ofNat (w s + o) ∧ w s + o < 2147483648) : ∀ j s b' tt, s + j = 16 → j < tt → (∀ x, b' = some x → m x = true ∧ x < s) → F_185_99 G t k94 tt cc (oI b') (nI s) T = match bw w m j b' s with
    | none => some ((), T)
    | some x => bif m2 x then F_185_223 G t k94 cc (nI x) (x, 0) (nI 0) T else F_185_223 G t k94 cc (nI x) (x, 0) (nI 1) T := by
  intro j
  induction j with
  | zero =>
    intro s b' tt h1 h2 hb
    obtain ⟨u, rfl⟩ : ∃ u, tt = u + 1 := ⟨tt - 1, by omega⟩
    have : s = 16 := by omega
    subst this
    rw [F_185_99]
    unfold bw
    cases b' with
    | none =>
      have jl : jcmp .ge (-1) (nI 0) = false := by decide
      rw [oI_n]
      clear hc hm hst hor hb
      dsimp only
      simp (disch := first | assumption | omega) only [gI, gI2, gL, gL1, gL2, jcLT, jcGE, jcGT, jcLE, jcEQ, jcNE, dEQ, nIt, lgNE, lgEQ, lgGE, lgLT, lgGT, lgLE, jinT, nIc, nI0, nI1, nIo, nIs, nI_add, nIm, nIn0, szl0, szl1, szl2, szl3, szl4, szl5, Nat.add_sub_assoc, Nat.add_zero, Nat.reduceSub, Nat.reduceAdd, Nat.reduceMul, Nat.reduceEqDiff,  jifT, bdS, sifN, sifS, omN, omS, cdI, x25, x26, x27, x28, x29, x30, x31, x32, xr0, xr1, xr2, xr3, xr4, xr5, if_pos, if_neg, true_and, and_true, false_and, and_false, and_self, Bool.and_true, if_true, if_false, reduceIte, cond_true, cond_false, not_true_eq_false, not_false_eq_true, x51, x52, x53, x54, x55, x56, x57, x58, x59, x60, x61, x62, x63, jl]
    | some x =>
      obtain ⟨x1, x2⟩ := hb x rfl
      obtain ⟨⟨y1, y2⟩, _⟩ := hm x x2 x1
      have c0 := (hc x x2 y1 y2).2
      rw [oI_s]
      clear hc hm hst hor hb
      dsimp only
      cases mx : m2 x with
      | true =>
        rw [mx, cond_true] at c0
        simp (disch := first | assumption | omega) only [gI, gI2, gL, gL1, gL2, jcLT, jcGE, jcGT, jcLE, jcEQ, jcNE, dEQ, nIt, lgNE, lgEQ, lgGE, lgLT, lgGT, lgLE, jinT, nIc, nI0, nI1, nIo, nIs, nI_add, nIm, nIn0, szl0, szl1, szl2, szl3, szl4, szl5, Nat.add_sub_assoc, Nat.add_zero, Nat.reduceSub, Nat.reduceAdd, Nat.reduceMul, Nat.reduceEqDiff,  jifT, bdS, sifN, sifS, omN, omS, cdI, x25, x26, x27, x28, x29, x30, x31, x32, xr0, xr1, xr2, xr3, xr4, xr5, if_pos, if_neg, true_and, and_true, false_and, and_false, and_self, Bool.and_true, if_true, if_false, reduceIte, cond_true, cond_false, not_true_eq_false, not_false_eq_true, x51, x52, x53, x54, x55, x56, x57, x58, x59, x60, x61, x62, x63, c0]
      | false =>
        rw [mx, cond_false] at c0
        simp (disch := first | assumption | omega) only [gI, gI2, gL, gL1, gL2, jcLT, jcGE, jcGT, jcLE, jcEQ, jcNE, dEQ, nIt, lgNE, lgEQ, lgGE, lgLT, lgGT, lgLE, jinT, nIc, nI0, nI1, nIo, nIs, nI_add, nIm, nIn0, szl0, szl1, szl2, szl3, szl4, szl5, Nat.add_sub_assoc, Nat.add_zero, Nat.reduceSub, Nat.reduceAdd, Nat.reduceMul, Nat.reduceEqDiff,  jifT, bdS, sifN, sifS, omN, omS, cdI, x25, x26, x27, x28, x29, x30, x31, x32, xr0, xr1, xr2, xr3, xr4, xr5, if_pos, if_neg, true_and, and_true, false_and, and_false, and_self, Bool.and_true, if_true, if_false, reduceIte, cond_true, cond_false, not_true_eq_false, not_false_eq_true, x51, x52, x53, x54, x55, x56, x57, x58, x59, x60, x61, x62, x63, c0]
  | succ j ih =>
    intro s b' tt h1 h2 hb
    obtain ⟨u, rfl⟩ : ∃ u, tt = u + 1 := ⟨tt - 1, by omega⟩
    have e := ih (s + 1) (stp w m b' s) u (by omega) (by omega) (stp_m hb)
    obtain ⟨s1, s2⟩ := hst s (by omega)
    unfold bw
    rw [← e]
    by_cases c : 2 ≤ st s ∧ st s ≤ 4
    · obtain ⟨c0, c1⟩ := hc s (by omega) c.1 c.2
      have orS := hor s
      cases ms : m s with
      | false =>
        have q : stp w m b' s = b' := by unfold stp; rw [ms]; rfl
        rw [q]
        rw [ms] at orS
        have z1 : m1 s = false := by
          cases z : m1 s with
          | false => rfl
          | true => rw [z] at orS; simp at orS
        have z2 : m2 s = false := by
          cases z : m2 s with
          | false => rfl
          | true => rw [z] at orS; simp at orS
        rw [z1, cond_false] at c0
        rw [z2, cond_false] at c1
        clear e ih hc hm hb hst hor
        rw [F_185_99]
        simp (disch := first | assumption | omega) only [gI, gI2, gL, gL1, gL2, jcLT, jcGE, jcGT, jcLE, jcEQ, jcNE, dEQ, nIt, lgNE, lgEQ, lgGE, lgLT, lgGT, lgLE, jinT, nIc, nI0, nI1, nIo, nIs, nI_add, nIm, nIn0, szl0, szl1, szl2, szl3, szl4, szl5, Nat.add_sub_assoc, Nat.add_zero, Nat.reduceSub, Nat.reduceAdd, Nat.reduceMul, Nat.reduceEqDiff,  jifT, bdS, sifN, sifS, omN, omS, cdI, x25, x26, x27, x28, x29, x30, x31, x32, xr0, xr1, xr2, xr3, xr4, xr5, if_pos, if_neg, true_and, and_true, false_and, and_false, and_self, Bool.and_true, if_true, if_false, reduceIte, cond_true, cond_false, not_true_eq_false, not_false_eq_true, x51, x52, x53, x54, x55, x56, x57, x58, x59, x60, x61, x62, x63, F_185_189, F_185_159, F_185_186, s1, c0, c1]
      | true =>
        obtain ⟨_, m2', m3⟩ := hm s (by omega) ms
        have go : F_185_99 G t k94 (u + 1) cc (oI b') (nI s) T = F_185_159 G t k94 (F_185_99 G t k94 u) cc (oI b') (nI s) T := by
          rw [F_185_99]
          rw [ms] at orS
          cases z1 : m1 s with
          | true =>
            rw [z1, cond_true] at c0
            clear e ih hc hm hb hst hor
            simp (disch := first | assumption | omega) only [gI, gI2, gL, gL1, gL2, jcLT, jcGE, jcGT, jcLE, jcEQ, jcNE, dEQ, nIt, lgNE, lgEQ, lgGE, lgLT, lgGT, lgLE, jinT, nIc, nI0, nI1, nIo, nIs, nI_add, nIm, nIn0, szl0, szl1, szl2, szl3, szl4, szl5, Nat.add_sub_assoc, Nat.add_zero, Nat.reduceSub, Nat.reduceAdd, Nat.reduceMul, Nat.reduceEqDiff,  jifT, bdS, sifN, sifS, omN, omS, cdI, x25, x26, x27, x28, x29, x30, x31, x32, xr0, xr1, xr2, xr3, xr4, xr5, if_pos, if_neg, true_and, and_true, false_and, and_false, and_self, Bool.and_true, if_true, if_false, reduceIte, cond_true, cond_false, not_true_eq_false, not_false_eq_true, x51, x52, x53, x54, x55, x56, x57, x58, x59, x60, x61, x62, x63, s1, c0]
          | false =>
            have z2 : m2 s = true := by rw [z1] at orS; simpa using orS.symm
            rw [z1, cond_false] at c0
            rw [z2, cond_true] at c1
            clear e ih hc hm hb hst hor
            simp (disch := first | assumption | omega) only [gI, gI2, gL, gL1, gL2, jcLT, jcGE, jcGT, jcLE, jcEQ, jcNE, dEQ, nIt, lgNE, lgEQ, lgGE, lgLT, lgGT, lgLE, jinT, nIc, nI0, nI1, nIo, nIs, nI_add, nIm, nIn0, szl0, szl1, szl2, szl3, szl4, szl5, Nat.add_sub_assoc, Nat.add_zero, Nat.reduceSub, Nat.reduceAdd, Nat.reduceMul, Nat.reduceEqDiff,  jifT, bdS, sifN, sifS, omN, omS, cdI, x25, x26, x27, x28, x29, x30, x31, x32, xr0, xr1, xr2, xr3, xr4, xr5, if_pos, if_neg, true_and, and_true, false_and, and_false, and_self, Bool.and_true, if_true, if_false, reduceIte, cond_true, cond_false, not_true_eq_false, not_false_eq_true, x51, x52, x53, x54, x55, x56, x57, x58, x59, x60, x61, x62, x63, s1, c0, c1]
        rw [go]
        clear go
        cases b' with
        | none =>
          have q : stp w m none s = some s := by unfold stp; rw [ms]; rfl
          rw [q, oI_n, oI_s]
          have jl := jLm1
          rw [nI0] at jl
          clear e ih hc hm hb hst hor
          simp (disch := first | assumption | omega) only [gI, gI2, gL, gL1, gL2, jcLT, jcGE, jcGT, jcLE, jcEQ, jcNE, dEQ, nIt, lgNE, lgEQ, lgGE, lgLT, lgGT, lgLE, jinT, nIc, nI0, nI1, nIo, nIs, nI_add, nIm, nIn0, szl0, szl1, szl2, szl3, szl4, szl5, Nat.add_sub_assoc, Nat.add_zero, Nat.reduceSub, Nat.reduceAdd, Nat.reduceMul, Nat.reduceEqDiff,  jifT, bdS, sifN, sifS, omN, omS, cdI, x25, x26, x27, x28, x29, x30, x31, x32, xr0, xr1, xr2, xr3, xr4, xr5, if_pos, if_neg, true_and, and_true, false_and, and_false, and_self, Bool.and_true, if_true, if_false, reduceIte, cond_true, cond_false, not_true_eq_false, not_false_eq_true, x51, x52, x53, x54, x55, x56, x57, x58, x59, x60, x61, x62, x63, F_185_189, F_185_159, F_185_186, s1, jl]
        | some x =>
          obtain ⟨x1, x2⟩ := hb x rfl
          obtain ⟨_, z2, z3⟩ := hm x (by omega) x1
          have q : stp w m (some x) s = if w s < w x then some s else some x := by unfold stp; rw [ms]; rfl
          rw [q]
          have key := le64 (a := w x + o) (b := w s + o) (by omega) (by omega)
          clear e ih hc hm hb hst hor
          by_cases cl : w s < w x
          · rw [if_pos cl, oI_s, oI_s]
            have k2 : ¬ Int64.ofNat (w x + o) ≤ Int64.ofNat (w s + o) := fun z => by have := key.mp z; omega
            simp (disch := first | assumption | omega) only [gI, gI2, gL, gL1, gL2, jcLT, jcGE, jcGT, jcLE, jcEQ, jcNE, dEQ, nIt, lgNE, lgEQ, lgGE, lgLT, lgGT, lgLE, jinT, nIc, nI0, nI1, nIo, nIs, nI_add, nIm, nIn0, szl0, szl1, szl2, szl3, szl4, szl5, Nat.add_sub_assoc, Nat.add_zero, Nat.reduceSub, Nat.reduceAdd, Nat.reduceMul, Nat.reduceEqDiff,  jifT, bdS, sifN, sifS, omN, omS, cdI, x25, x26, x27, x28, x29, x30, x31, x32, xr0, xr1, xr2, xr3, xr4, xr5, if_pos, if_neg, true_and, and_true, false_and, and_false, and_self, Bool.and_true, if_true, if_false, reduceIte, cond_true, cond_false, not_true_eq_false, not_false_eq_true, x51, x52, x53, x54, x55, x56, x57, x58, x59, x60, x61, x62, x63, F_185_189, F_185_159, F_185_186, s1, m2', z2, eq_false k2]
          · rw [if_neg cl, oI_s]
            have k2 : Int64.ofNat (w x + o) ≤ Int64.ofNat (w s + o) := key.mpr (by omega)
            simp (disch := first | assumption | omega) only [gI, gI2, gL, gL1, gL2, jcLT, jcGE, jcGT, jcLE, jcEQ, jcNE, dEQ, nIt, lgNE, lgEQ, lgGE, lgLT, lgGT, lgLE, jinT, nIc, nI0, nI1, nIo, nIs, nI_add, nIm, nIn0, szl0, szl1, szl2, szl3, szl4, szl5, Nat.add_sub_assoc, Nat.add_zero, Nat.reduceSub, Nat.reduceAdd, Nat.reduceMul, Nat.reduceEqDiff,  jifT, bdS, sifN, sifS, omN, omS, cdI, x25, x26, x27, x28, x29, x30, x31, x32, xr0, xr1, xr2, xr3, xr4, xr5, if_pos, if_neg, true_and, and_true, false_and, and_false, and_self, Bool.and_true, if_true, if_false, reduceIte, cond_true, cond_false, not_true_eq_false, not_false_eq_true, x51, x52, x53, x54, x55, x56, x57, x58, x59, x60, x61, x62, x63, F_185_189, F_185_159, F_185_186, s1, m2', z2, eq_true k2]
    · have ms : m s = false := by
        cases ms : m s with
        | false => rfl
        | true => exact absurd (hm s (by omega) ms).1 c
      have q : stp w m b' s = b' := by unfold stp; rw [ms]; rfl
      rw [q]
      clear e ih hc hm hb hst hor
      by_cases c2 : st s < 2
      · rw [F_185_99]
        simp (disch := first | assumption | omega) only [gI, gI2, gL, gL1, gL2, jcLT, jcGE, jcGT, jcLE, jcEQ, jcNE, dEQ, nIt, lgNE, lgEQ, lgGE, lgLT, lgGT, lgLE, jinT, nIc, nI0, nI1, nIo, nIs, nI_add, nIm, nIn0, szl0, szl1, szl2, szl3, szl4, szl5, Nat.add_sub_assoc, Nat.add_zero, Nat.reduceSub, Nat.reduceAdd, Nat.reduceMul, Nat.reduceEqDiff,  jifT, bdS, sifN, sifS, omN, omS, cdI, x25, x26, x27, x28, x29, x30, x31, x32, xr0, xr1, xr2, xr3, xr4, xr5, if_pos, if_neg, true_and, and_true, false_and, and_false, and_self, Bool.and_true, if_true, if_false, reduceIte, cond_true, cond_false, not_true_eq_false, not_false_eq_true, x51, x52, x53, x54, x55, x56, x57, x58, x59, x60, x61, x62, x63, F_185_189, s1]
      · rw [F_185_99]
        simp (disch := first | assumption | omega) only [gI, gI2, gL, gL1, gL2, jcLT, jcGE, jcGT, jcLE, jcEQ, jcNE, dEQ, nIt, lgNE, lgEQ, lgGE, lgLT, lgGT, lgLE, jinT, nIc, nI0, nI1, nIo, nIs, nI_add, nIm, nIn0, szl0, szl1, szl2, szl3, szl4, szl5, Nat.add_sub_assoc, Nat.add_zero, Nat.reduceSub, Nat.reduceAdd, Nat.reduceMul, Nat.reduceEqDiff,  jifT, bdS, sifN, sifS, omN, omS, cdI, x25, x26, x27, x28, x29, x30, x31, x32, xr0, xr1, xr2, xr3, xr4, xr5, if_pos, if_neg, true_and, and_true, false_and, and_false, and_self, Bool.and_true, if_true, if_false, reduceIte, cond_true, cond_false, not_true_eq_false, not_false_eq_true, x51, x52, x53, x54, x55, x56, x57, x58, x59, x60, x61, x62, x63, F_185_189, s1]
end CLO
