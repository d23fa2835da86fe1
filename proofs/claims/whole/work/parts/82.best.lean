/-! Who waits longest. -/
def stp (w : Nat → Nat) (m : Nat → Bool) (b : Option Nat) (s : Nat) : Option Nat := bif m s then (match b with
  | none => some s
  | some x => if w s < w x then some s else some x) else b
def bw (w : Nat → Nat) (m : Nat → Bool) : Nat → Option Nat → Nat → Option Nat
  | 0, b, _ => b
  | n + 1, b, s => bw w m n (stp w m b s) (s + 1)
set_option maxHeartbeats 4000000 in
set_option linter.unusedSimpArgs false in
theorem stp_m {w : Nat → Nat} {m : Nat → Bool} {b : Option Nat} {s : Nat} (hb : ∀ x, b = some x → m x = true ∧ x < s) : ∀ x, stp w m b s = some x → m x = true ∧ x < s + 1 := by
  intro x h
  unfold stp at h
  cases e : m s with
  | false =>
    rw [e, cond_false] at h
    have := hb x h
    exact ⟨this.1, by omega⟩
  | true =>
    rw [e, cond_true] at h
    cases b with
    | none =>
      cases h
      exact ⟨e, by omega⟩
    | some y =>
      have hy := hb y rfl
      dsimp only at h
      split at h
      · cases h
        exact ⟨e, by omega⟩
      · cases h
        exact ⟨hy.1, by omega⟩
theorem bw_m {w : Nat → Nat} {m : Nat → Bool} : ∀ n b s, (∀ x, b = some x → m x = true ∧ x < s) → ∀ x, bw w m n b s = some x → m x = true ∧ x < s + n := by
  intro n
  induction n with
  | zero => intro b s hb x h; exact hb x h
  | succ n ih =>
    intro b s hb x h
    have := ih (stp w m b s) (s + 1) (stp_m hb) x h
    exact ⟨this.1, by omega⟩
set_option maxHeartbeats 4000000 in
set_option linter.unusedSimpArgs false in
theorem bw_none {w : Nat → Nat} {m : Nat → Bool} : ∀ n b s, bw w m n b s = none → b = none ∧ ∀ y, s ≤ y → y < s + n → m y = false := by
  intro n
  induction n with
  | zero => intro b s h; exact ⟨h, fun y a c => by omega⟩
  | succ n ih =>
    intro b s h
    obtain ⟨h1, h2⟩ := ih (stp w m b s) (s + 1) h
    unfold stp at h1
    cases e : m s with
    | true =>
      rw [e, cond_true] at h1
      cases b with
      | none => cases h1
      | some y =>
        dsimp only at h1
        split at h1 <;> cases h1
    | false =>
      rw [e, cond_false] at h1
      refine ⟨h1, fun y a c => ?_⟩
      by_cases q : y = s
      · subst q; exact e
      · exact h2 y (by omega) (by omega)
theorem bw_cong {w : Nat → Nat} {m m' : Nat → Bool} : ∀ n b s, (∀ y, s ≤ y → y < s + n → m y = m' y) → bw w m n b s = bw w m' n b s := by
  intro n
  induction n with
  | zero => intro b s _; rfl
  | succ n ih =>
    intro b s h
    unfold bw
    have : stp w m b s = stp w m' b s := by unfold stp; rw [h s (Nat.le_refl _) (by omega)]
    rw [this]
    exact ih _ _ (fun y a c => h y (by omega) (by omega))
theorem jEm (k : Nat) (h : k < 2147483648) : jcmp .eq (nI k) (-1) = false := by
  refine decide_eq_false fun z => ?_
  have := congrArg Int32.toInt z
  rw [nI_toInt h] at this
  have h2 : ((-1 : Int32)).toInt = -1 := by decide
  rw [h2] at this
  omega
theorem jEm1 : jcmp .eq (-1) (-1) = true := by decide
section BES
variable {S : sS} {G : jG} {t : Nat}
set_option maxHeartbeats 4000000 in
set_option linter.unusedSimpArgs false in
theorem l_90 {g a b : Int32} {w : Nat → Nat} {m : Nat → Bool} (hc : ∀ s, s < 16 → ∃ o, F_89 G t (s, 0) g a b S = some (oI o, S) ∧ m s = o.isSome ∧ ∀ k, o = some k → k < 16) (hw : ∀ s, s < 16 → m s = true → S.1 25 s 0 5 = nI (w s) ∧ w s < 2147483648) : ∀ j s b' tt, s + j = 16 → j < tt → (∀ x, b' = some x → m x = true ∧ x < s) → F_90_6 G t tt g a b (b'.map fun x => (x, 0)) (nI s) S = some ((bw w m j b' s).map fun x => (x, 0), S) := by
  intro j
  induction j with
  | zero =>
    intro s b' tt h1 h2 _
    obtain ⟨u, rfl⟩ : ∃ u, tt = u + 1 := ⟨tt - 1, by omega⟩
    have : s = 16 := by omega
    subst this
    rw [F_90_6]
    clear hc hw
    simp (disch := first | assumption | omega) only [gI, gI2, gL, gL1, gL2, jcLT, jcGE, jcGT, jcLE, jcEQ, jcNE, dEQ, nIt, lgNE, lgEQ, lgGE, lgLT, lgGT, lgLE, jinT, nIc, nI0, nI1, nIo, nIs, nI_add, nIm, nIn0, szl0, szl1, szl2, szl3, szl4, szl5, Nat.add_sub_assoc, Nat.add_zero, Nat.reduceSub, Nat.reduceAdd, Nat.reduceMul, Nat.reduceEqDiff,  jifT, bdS, sifN, sifS, omN, omS, cdI, x25, x26, x27, x28, x29, x30, x31, x32, xr0, xr1, xr2, xr3, xr4, xr5, if_pos, if_neg, true_and, and_true, false_and, and_false, and_self, Bool.and_true, if_true, if_false, reduceIte, cond_true, cond_false, not_true_eq_false, not_false_eq_true]
    rfl
  | succ j ih =>
    intro s b' tt h1 h2 hb
    obtain ⟨u, rfl⟩ : ∃ u, tt = u + 1 := ⟨tt - 1, by omega⟩
    have e := ih (s + 1) (stp w m b' s) u (by omega) (by omega) (stp_m hb)
    obtain ⟨o, o1, o2, o3⟩ := hc s (by omega)
    unfold bw
    rw [← e, F_90_6]
    have hws := hw s (by omega)
    cases b' with
    | none =>
      cases o with
      | none =>
        have q : stp w m none s = none := by unfold stp; rw [o2]; rfl
        rw [q]
        rw [oI_n] at o1
        clear e ih hc hw hb hws
        simp (disch := first | assumption | omega) only [gI, gI2, gL, gL1, gL2, jcLT, jcGE, jcGT, jcLE, jcEQ, jcNE, dEQ, nIt, lgNE, lgEQ, lgGE, lgLT, lgGT, lgLE, jinT, nIc, nI0, nI1, nIo, nIs, nI_add, nIm, nIn0, szl0, szl1, szl2, szl3, szl4, szl5, Nat.add_sub_assoc, Nat.add_zero, Nat.reduceSub, Nat.reduceAdd, Nat.reduceMul, Nat.reduceEqDiff,  jifT, bdS, sifN, sifS, omN, omS, cdI, x25, x26, x27, x28, x29, x30, x31, x32, xr0, xr1, xr2, xr3, xr4, xr5, if_pos, if_neg, true_and, and_true, false_and, and_false, and_self, Bool.and_true, if_true, if_false, reduceIte, cond_true, cond_false, not_true_eq_false, not_false_eq_true, F_90_43, F_90_48, F_90_72, o1, jEm1]
      | some k =>
        have q : stp w m none s = some s := by unfold stp; rw [o2]; rfl
        rw [q]
        have hk := o3 k rfl
        rw [oI_s] at o1
        have jk := jEm k (by omega)
        clear e ih hc hw hb hws
        simp (disch := first | assumption | omega) only [gI, gI2, gL, gL1, gL2, jcLT, jcGE, jcGT, jcLE, jcEQ, jcNE, dEQ, nIt, lgNE, lgEQ, lgGE, lgLT, lgGT, lgLE, jinT, nIc, nI0, nI1, nIo, nIs, nI_add, nIm, nIn0, szl0, szl1, szl2, szl3, szl4, szl5, Nat.add_sub_assoc, Nat.add_zero, Nat.reduceSub, Nat.reduceAdd, Nat.reduceMul, Nat.reduceEqDiff,  jifT, bdS, sifN, sifS, omN, omS, cdI, x25, x26, x27, x28, x29, x30, x31, x32, xr0, xr1, xr2, xr3, xr4, xr5, if_pos, if_neg, true_and, and_true, false_and, and_false, and_self, Bool.and_true, if_true, if_false, reduceIte, cond_true, cond_false, not_true_eq_false, not_false_eq_true, F_90_43, F_90_48, F_90_72, o1, jk]
    | some x =>
      obtain ⟨x1, x2⟩ := hb x rfl
      have hwx := hw x (by omega) x1
      cases o with
      | none =>
        have q : stp w m (some x) s = some x := by unfold stp; rw [o2]; rfl
        rw [q]
        rw [oI_n] at o1
        clear e ih hc hw hb hws
        cases cb : jcmp .ge (S.1 25 s 0 5) (S.1 25 x 0 5) with
        | true => simp (disch := first | assumption | omega) only [gI, gI2, gL, gL1, gL2, jcLT, jcGE, jcGT, jcLE, jcEQ, jcNE, dEQ, nIt, lgNE, lgEQ, lgGE, lgLT, lgGT, lgLE, jinT, nIc, nI0, nI1, nIo, nIs, nI_add, nIm, nIn0, szl0, szl1, szl2, szl3, szl4, szl5, Nat.add_sub_assoc, Nat.add_zero, Nat.reduceSub, Nat.reduceAdd, Nat.reduceMul, Nat.reduceEqDiff,  jifT, bdS, sifN, sifS, omN, omS, cdI, x25, x26, x27, x28, x29, x30, x31, x32, xr0, xr1, xr2, xr3, xr4, xr5, if_pos, if_neg, true_and, and_true, false_and, and_false, and_self, Bool.and_true, if_true, if_false, reduceIte, cond_true, cond_false, not_true_eq_false, not_false_eq_true, F_90_43, F_90_48, F_90_72, o1, jEm1, cb]
        | false => simp (disch := first | assumption | omega) only [gI, gI2, gL, gL1, gL2, jcLT, jcGE, jcGT, jcLE, jcEQ, jcNE, dEQ, nIt, lgNE, lgEQ, lgGE, lgLT, lgGT, lgLE, jinT, nIc, nI0, nI1, nIo, nIs, nI_add, nIm, nIn0, szl0, szl1, szl2, szl3, szl4, szl5, Nat.add_sub_assoc, Nat.add_zero, Nat.reduceSub, Nat.reduceAdd, Nat.reduceMul, Nat.reduceEqDiff,  jifT, bdS, sifN, sifS, omN, omS, cdI, x25, x26, x27, x28, x29, x30, x31, x32, xr0, xr1, xr2, xr3, xr4, xr5, if_pos, if_neg, true_and, and_true, false_and, and_false, and_self, Bool.and_true, if_true, if_false, reduceIte, cond_true, cond_false, not_true_eq_false, not_false_eq_true, F_90_43, F_90_48, F_90_72, o1, jEm1, cb]
      | some k =>
        have ms : m s = true := by rw [o2]; rfl
        obtain ⟨y1, y2⟩ := hws ms
        have q : stp w m (some x) s = if w s < w x then some s else some x := by unfold stp; rw [ms]; rfl
        rw [q]
        have hk := o3 k rfl
        rw [oI_s] at o1
        have jk := jEm k (by omega)
        obtain ⟨z1, z2⟩ := hwx
        clear e ih hc hw hb hws
        by_cases cl : w s < w x
        · rw [if_pos cl]
          simp (disch := first | assumption | omega) only [gI, gI2, gL, gL1, gL2, jcLT, jcGE, jcGT, jcLE, jcEQ, jcNE, dEQ, nIt, lgNE, lgEQ, lgGE, lgLT, lgGT, lgLE, jinT, nIc, nI0, nI1, nIo, nIs, nI_add, nIm, nIn0, szl0, szl1, szl2, szl3, szl4, szl5, Nat.add_sub_assoc, Nat.add_zero, Nat.reduceSub, Nat.reduceAdd, Nat.reduceMul, Nat.reduceEqDiff,  jifT, bdS, sifN, sifS, omN, omS, cdI, x25, x26, x27, x28, x29, x30, x31, x32, xr0, xr1, xr2, xr3, xr4, xr5, if_pos, if_neg, true_and, and_true, false_and, and_false, and_self, Bool.and_true, if_true, if_false, reduceIte, cond_true, cond_false, not_true_eq_false, not_false_eq_true, F_90_43, F_90_48, F_90_72, o1, jk, y1, z1]
        · rw [if_neg cl]
          simp (disch := first | assumption | omega) only [gI, gI2, gL, gL1, gL2, jcLT, jcGE, jcGT, jcLE, jcEQ, jcNE, dEQ, nIt, lgNE, lgEQ, lgGE, lgLT, lgGT, lgLE, jinT, nIc, nI0, nI1, nIo, nIs, nI_add, nIm, nIn0, szl0, szl1, szl2, szl3, szl4, szl5, Nat.add_sub_assoc, Nat.add_zero, Nat.reduceSub, Nat.reduceAdd, Nat.reduceMul, Nat.reduceEqDiff,  jifT, bdS, sifN, sifS, omN, omS, cdI, x25, x26, x27, x28, x29, x30, x31, x32, xr0, xr1, xr2, xr3, xr4, xr5, if_pos, if_neg, true_and, and_true, false_and, and_false, and_self, Bool.and_true, if_true, if_false, reduceIte, cond_true, cond_false, not_true_eq_false, not_false_eq_true, F_90_43, F_90_48, F_90_72, o1, jk, y1, z1]
theorem f_90 {g a b : Int32} {w : Nat → Nat} {m : Nat → Bool} (ht : 100 < t) (hc : ∀ s, s < 16 → ∃ o, F_89 G t (s, 0) g a b S = some (oI o, S) ∧ m s = o.isSome ∧ ∀ k, o = some k → k < 16) (hw : ∀ s, s < 16 → m s = true → S.1 25 s 0 5 = nI (w s) ∧ w s < 2147483648) : F_90 G t g a b S = some ((bw w m 16 none 0).map fun x => (x, 0), S) := l_90 hc hw 16 0 none t (by omega) (by omega) (fun x h => by cases h)
theorem jLm1 : jcmp .lt (-1) 0 = true := by decide
set_option maxHeartbeats 4000000 in
set_option linter.unusedSimpArgs false in
theorem l_175 {cc sn : Int32} {st w : Nat → Nat} {o : Nat} {m : Nat → Bool} {T : sS} (hst : ∀ s, s < 16 → T.1 54 s 0 0 = nI (st s) ∧ st s ≤ 6) (hc : ∀ s, s < 16 → 2 ≤ st s → st s ≤ 4 → F_174 G t (nI s) cc sn T = some (nI (bif m s then 1 else 0), T)) (hm : ∀ s, s < 16 → m s = true → (2 ≤ st s ∧ st s ≤ 4) ∧ T.2.1 54 s 0 3 = Int64.ofNat (w s + o) ∧ w s + o < 2147483648) : ∀ j s b' tt, s + j = 16 → j < tt → (∀ x, b' = some x → m x = true ∧ x < s) → F_175_5 G t tt cc sn (oI b') (nI s) T = some (oI (bw w m j b' s), T) := by
  intro j
  induction j with
  | zero =>
    intro s b' tt h1 h2 _
    obtain ⟨u, rfl⟩ : ∃ u, tt = u + 1 := ⟨tt - 1, by omega⟩
    have : s = 16 := by omega
    subst this
    rw [F_175_5]
    clear hc hm hst
    simp (disch := first | assumption | omega) only [gI, gI2, gL, gL1, gL2, jcLT, jcGE, jcGT, jcLE, jcEQ, jcNE, dEQ, nIt, lgNE, lgEQ, lgGE, lgLT, lgGT, lgLE, jinT, nIc, nI0, nI1, nIo, nIs, nI_add, nIm, nIn0, szl0, szl1, szl2, szl3, szl4, szl5, Nat.add_sub_assoc, Nat.add_zero, Nat.reduceSub, Nat.reduceAdd, Nat.reduceMul, Nat.reduceEqDiff,  jifT, bdS, sifN, sifS, omN, omS, cdI, x25, x26, x27, x28, x29, x30, x31, x32, xr0, xr1, xr2, xr3, xr4, xr5, if_pos, if_neg, true_and, and_true, false_and, and_false, and_self, Bool.and_true, if_true, if_false, reduceIte, cond_true, cond_false, not_true_eq_false, not_false_eq_true]
    rfl
  | succ j ih =>
    intro s b' tt h1 h2 hb
    obtain ⟨u, rfl⟩ : ∃ u, tt = u + 1 := ⟨tt - 1, by omega⟩
    have e := ih (s + 1) (stp w m b' s) u (by omega) (by omega) (stp_m hb)
    obtain ⟨s1, s2⟩ := hst s (by omega)
    unfold bw
    rw [← e, F_175_5]
    by_cases c : 2 ≤ st s ∧ st s ≤ 4
    · have c0 := hc s (by omega) c.1 c.2
      cases ms : m s with
      | false =>
        have q : stp w m b' s = b' := by unfold stp; rw [ms]; rfl
        rw [q]
        rw [ms, cond_false] at c0
        clear e ih hc hm hb hst
        simp (disch := first | assumption | omega) only [gI, gI2, gL, gL1, gL2, jcLT, jcGE, jcGT, jcLE, jcEQ, jcNE, dEQ, nIt, lgNE, lgEQ, lgGE, lgLT, lgGT, lgLE, jinT, nIc, nI0, nI1, nIo, nIs, nI_add, nIm, nIn0, szl0, szl1, szl2, szl3, szl4, szl5, Nat.add_sub_assoc, Nat.add_zero, Nat.reduceSub, Nat.reduceAdd, Nat.reduceMul, Nat.reduceEqDiff,  jifT, bdS, sifN, sifS, omN, omS, cdI, x25, x26, x27, x28, x29, x30, x31, x32, xr0, xr1, xr2, xr3, xr4, xr5, if_pos, if_neg, true_and, and_true, false_and, and_false, and_self, Bool.and_true, if_true, if_false, reduceIte, cond_true, cond_false, not_true_eq_false, not_false_eq_true, x51, x52, x53, x54, x55, x56, x57, x58, x59, x60, x61, x62, x63, F_175_81, F_175_78, s1, c0]
      | true =>
        obtain ⟨_, m2, m3⟩ := hm s (by omega) ms
        rw [ms, cond_true] at c0
        cases b' with
        | none =>
          have q : stp w m none s = some s := by unfold stp; rw [ms]; rfl
          rw [q, oI_n, oI_s]
          have jl := jLm1
          rw [nI0] at jl
          clear e ih hc hm hb hst
          simp (disch := first | assumption | omega) only [gI, gI2, gL, gL1, gL2, jcLT, jcGE, jcGT, jcLE, jcEQ, jcNE, dEQ, nIt, lgNE, lgEQ, lgGE, lgLT, lgGT, lgLE, jinT, nIc, nI0, nI1, nIo, nIs, nI_add, nIm, nIn0, szl0, szl1, szl2, szl3, szl4, szl5, Nat.add_sub_assoc, Nat.add_zero, Nat.reduceSub, Nat.reduceAdd, Nat.reduceMul, Nat.reduceEqDiff,  jifT, bdS, sifN, sifS, omN, omS, cdI, x25, x26, x27, x28, x29, x30, x31, x32, xr0, xr1, xr2, xr3, xr4, xr5, if_pos, if_neg, true_and, and_true, false_and, and_false, and_self, Bool.and_true, if_true, if_false, reduceIte, cond_true, cond_false, not_true_eq_false, not_false_eq_true, x51, x52, x53, x54, x55, x56, x57, x58, x59, x60, x61, x62, x63, F_175_81, F_175_78, s1, c0, jl]
        | some x =>
          obtain ⟨x1, x2⟩ := hb x rfl
          obtain ⟨_, z2, z3⟩ := hm x (by omega) x1
          have q : stp w m (some x) s = if w s < w x then some s else some x := by unfold stp; rw [ms]; rfl
          rw [q]
          have key := le64 (a := w x + o) (b := w s + o) (by omega) (by omega)
          clear e ih hc hm hb hst
          by_cases cl : w s < w x
          · rw [if_pos cl, oI_s, oI_s]
            have k2 : ¬ Int64.ofNat (w x + o) ≤ Int64.ofNat (w s + o) := fun z => by have := key.mp z; omega
            simp (disch := first | assumption | omega) only [gI, gI2, gL, gL1, gL2, jcLT, jcGE, jcGT, jcLE, jcEQ, jcNE, dEQ, nIt, lgNE, lgEQ, lgGE, lgLT, lgGT, lgLE, jinT, nIc, nI0, nI1, nIo, nIs, nI_add, nIm, nIn0, szl0, szl1, szl2, szl3, szl4, szl5, Nat.add_sub_assoc, Nat.add_zero, Nat.reduceSub, Nat.reduceAdd, Nat.reduceMul, Nat.reduceEqDiff,  jifT, bdS, sifN, sifS, omN, omS, cdI, x25, x26, x27, x28, x29, x30, x31, x32, xr0, xr1, xr2, xr3, xr4, xr5, if_pos, if_neg, true_and, and_true, false_and, and_false, and_self, Bool.and_true, if_true, if_false, reduceIte, cond_true, cond_false, not_true_eq_false, not_false_eq_true, x51, x52, x53, x54, x55, x56, x57, x58, x59, x60, x61, x62, x63, F_175_81, F_175_78, s1, c0, m2, z2, eq_false k2]
          · rw [if_neg cl, oI_s]
            have k2 : Int64.ofNat (w x + o) ≤ Int64.ofNat (w s + o) := key.mpr (by omega)
            simp (disch := first | assumption | omega) only [gI, gI2, gL, gL1, gL2, jcLT, jcGE, jcGT, jcLE, jcEQ, jcNE, dEQ, nIt, lgNE, lgEQ, lgGE, lgLT, lgGT, lgLE, jinT, nIc, nI0, nI1, nIo, nIs, nI_add, nIm, nIn0, szl0, szl1, szl2, szl3, szl4, szl5, Nat.add_sub_assoc, Nat.add_zero, Nat.reduceSub, Nat.reduceAdd, Nat.reduceMul, Nat.reduceEqDiff,  jifT, bdS, sifN, sifS, omN, omS, cdI, x25, x26, x27, x28, x29, x30, x31, x32, xr0, xr1, xr2, xr3, xr4, xr5, if_pos, if_neg, true_and, and_true, false_and, and_false, and_self, Bool.and_true, if_true, if_false, reduceIte, cond_true, cond_false, not_true_eq_false, not_false_eq_true, x51, x52, x53, x54, x55, x56, x57, x58, x59, x60, x61, x62, x63, F_175_81, F_175_78, s1, c0, m2, z2, eq_true k2]
    · have ms : m s = false := by
        cases ms : m s with
        | false => rfl
        | true => exact absurd (hm s (by omega) ms).1 c
      have q : stp w m b' s = b' := by unfold stp; rw [ms]; rfl
      rw [q]
      clear e ih hc hm hb hst
      by_cases c2 : st s < 2
      · simp (disch := first | assumption | omega) only [gI, gI2, gL, gL1, gL2, jcLT, jcGE, jcGT, jcLE, jcEQ, jcNE, dEQ, nIt, lgNE, lgEQ, lgGE, lgLT, lgGT, lgLE, jinT, nIc, nI0, nI1, nIo, nIs, nI_add, nIm, nIn0, szl0, szl1, szl2, szl3, szl4, szl5, Nat.add_sub_assoc, Nat.add_zero, Nat.reduceSub, Nat.reduceAdd, Nat.reduceMul, Nat.reduceEqDiff,  jifT, bdS, sifN, sifS, omN, omS, cdI, x25, x26, x27, x28, x29, x30, x31, x32, xr0, xr1, xr2, xr3, xr4, xr5, if_pos, if_neg, true_and, and_true, false_and, and_false, and_self, Bool.and_true, if_true, if_false, reduceIte, cond_true, cond_false, not_true_eq_false, not_false_eq_true, x51, x52, x53, x54, x55, x56, x57, x58, x59, x60, x61, x62, x63, F_175_81, s1]
      · simp (disch := first | assumption | omega) only [gI, gI2, gL, gL1, gL2, jcLT, jcGE, jcGT, jcLE, jcEQ, jcNE, dEQ, nIt, lgNE, lgEQ, lgGE, lgLT, lgGT, lgLE, jinT, nIc, nI0, nI1, nIo, nIs, nI_add, nIm, nIn0, szl0, szl1, szl2, szl3, szl4, szl5, Nat.add_sub_assoc, Nat.add_zero, Nat.reduceSub, Nat.reduceAdd, Nat.reduceMul, Nat.reduceEqDiff,  jifT, bdS, sifN, sifS, omN, omS, cdI, x25, x26, x27, x28, x29, x30, x31, x32, xr0, xr1, xr2, xr3, xr4, xr5, if_pos, if_neg, true_and, and_true, false_and, and_false, and_self, Bool.and_true, if_true, if_false, reduceIte, cond_true, cond_false, not_true_eq_false, not_false_eq_true, x51, x52, x53, x54, x55, x56, x57, x58, x59, x60, x61, x62, x63, F_175_81, s1]
theorem f_175 {cc sn : Int32} {st w : Nat → Nat} {o : Nat} {m : Nat → Bool} {T : sS} (ht : 100 < t) (hst : ∀ s, s < 16 → T.1 54 s 0 0 = nI (st s) ∧ st s ≤ 6) (hc : ∀ s, s < 16 → 2 ≤ st s → st s ≤ 4 → F_174 G t (nI s) cc sn T = some (nI (bif m s then 1 else 0), T)) (hm : ∀ s, s < 16 → m s = true → (2 ≤ st s ∧ st s ≤ 4) ∧ T.2.1 54 s 0 3 = Int64.ofNat (w s + o) ∧ w s + o < 2147483648) : F_175 G t cc sn T = some (oI (bw w m 16 none 0), T) := l_175 hst hc hm 16 0 none t (by omega) (by omega) (fun x h => by cases h)
end BES
