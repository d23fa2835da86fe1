/-! CLOSE: one waiter, in all. -/
section CL2
variable {φ : Nat → Nat} {D : Nat → Prop} {F N : Nat} {P : aP} {S S' T T' : sS} {A : aS} {r d p f pc n m e b k y : Nat} {G : jG} {t : Nat}
theorem jgeN {a b : Nat} (h : a < b) (hb : b < 2147483648) : jcmp .ge (nI a) (nI b) = false := jc_geF h hb
/-! the reference's choice -/
set_option maxHeartbeats 4000000 in
set_option linter.unusedSimpArgs false in
theorem e185c {k94 : Int32 → sS → Option (Unit × sS)} {cc : Int32} {s st k b : Nat} {o1 o2 : Option Nat} (hs : s < 16) (hst : T.1 54 s 0 0 = nI st) (hst2 : st ≤ 6) (h1 : F_174 G t (nI s) cc (nI 1) T = some (nI (bif o1.isSome then 1 else 0), T)) (h3 : st = 4 → F_173 G t (s, 0) cc (nI 1) T = some (oI o1, T) ∧ F_173 G t (s, 0) cc (nI 0) T = some (oI o2, T)) (hk : k < 16) (hb : ∀ x, o1 = some x ∨ o2 = some x → x < 16) (hsp : (b = 1 ∧ o1 = some k ∧ ∀ x, o2 = some x → st = 4 ∧ k < x) ∨ (b = 0 ∧ o2 = some k ∧ ∀ x, o1 = some x → st = 4 ∧ k < x)) : (bif o2.isSome then F_185_223 G t k94 cc (nI s) (s, 0) (nI 0) T else F_185_223 G t k94 cc (nI s) (s, 0) (nI 1) T) = F_185_275 G t k94 cc (nI s) (s, 0) (nI b) T := by
  rcases hsp with ⟨rfl, e1, e2⟩ | ⟨rfl, e1, e2⟩
  · subst e1
    cases o2 with
    | none =>
      clear h3 hb e2
      rw [Option.isSome_none, cond_false]
      unfold F_185_223
      by_cases c : st = 4
      · simp (disch := first | assumption | omega) only [gI, gI2, gL, gL1, gL2, jcLT, jcGE, jcGT, jcLE, jcEQ, jcNE, dEQ, nIt, lgNE, lgEQ, lgGE, lgLT, lgGT, lgLE, jinT, nIc, nI0, nI1, nIo, nIs, nI_add, nIm, nIn0, szl0, szl1, szl2, szl3, szl4, szl5, Nat.add_sub_assoc, Nat.add_zero, Nat.reduceSub, Nat.reduceAdd, Nat.reduceMul, Nat.reduceEqDiff,  jifT, bdS, sifN, sifS, omN, omS, cdI, x25, x26, x27, x28, x29, x30, x31, x32, xr0, xr1, xr2, xr3, xr4, xr5, if_pos, if_neg, true_and, and_true, false_and, and_false, and_self, Bool.and_true, if_true, if_false, reduceIte, cond_true, cond_false, not_true_eq_false, not_false_eq_true, x51, x52, x53, x54, x55, x56, x57, x58, x59, x60, x61, x62, x63, hst]
      · simp (disch := first | assumption | omega) only [gI, gI2, gL, gL1, gL2, jcLT, jcGE, jcGT, jcLE, jcEQ, jcNE, dEQ, nIt, lgNE, lgEQ, lgGE, lgLT, lgGT, lgLE, jinT, nIc, nI0, nI1, nIo, nIs, nI_add, nIm, nIn0, szl0, szl1, szl2, szl3, szl4, szl5, Nat.add_sub_assoc, Nat.add_zero, Nat.reduceSub, Nat.reduceAdd, Nat.reduceMul, Nat.reduceEqDiff,  jifT, bdS, sifN, sifS, omN, omS, cdI, x25, x26, x27, x28, x29, x30, x31, x32, xr0, xr1, xr2, xr3, xr4, xr5, if_pos, if_neg, true_and, and_true, false_and, and_false, and_self, Bool.and_true, if_true, if_false, reduceIte, cond_true, cond_false, not_true_eq_false, not_false_eq_true, x51, x52, x53, x54, x55, x56, x57, x58, x59, x60, x61, x62, x63, hst]
    | some x =>
      obtain ⟨c4, e3⟩ := e2 x rfl
      obtain ⟨g3, g4⟩ := h3 c4
      have := hb x (Or.inr rfl)
      rw [oI_s] at g3 g4
      rw [Option.isSome_some, cond_true] at h1 ⊢
      subst c4
      clear hb e2 h3
      unfold F_185_223
      simp (disch := first | assumption | omega) only [gI, gI2, gL, gL1, gL2, jcLT, jcGE, jcGT, jcLE, jcEQ, jcNE, dEQ, nIt, lgNE, lgEQ, lgGE, lgLT, lgGT, lgLE, jinT, nIc, nI0, nI1, nIo, nIs, nI_add, nIm, nIn0, szl0, szl1, szl2, szl3, szl4, szl5, Nat.add_sub_assoc, Nat.add_zero, Nat.reduceSub, Nat.reduceAdd, Nat.reduceMul, Nat.reduceEqDiff,  jifT, bdS, sifN, sifS, omN, omS, cdI, x25, x26, x27, x28, x29, x30, x31, x32, xr0, xr1, xr2, xr3, xr4, xr5, if_pos, if_neg, true_and, and_true, false_and, and_false, and_self, Bool.and_true, if_true, if_false, reduceIte, cond_true, cond_false, not_true_eq_false, not_false_eq_true, x51, x52, x53, x54, x55, x56, x57, x58, x59, x60, x61, x62, x63, F_185_273, hst, h1, g3, g4]
  · subst e1
    rw [Option.isSome_some, cond_true]
    by_cases c4 : st = 4
    · obtain ⟨g3, g4⟩ := h3 c4
      rw [oI_s] at g4
      subst c4
      clear h3
      cases o1 with
      | none =>
        rw [Option.isSome_none, cond_false] at h1
        clear hb e2
        unfold F_185_223
        simp (disch := first | assumption | omega) only [gI, gI2, gL, gL1, gL2, jcLT, jcGE, jcGT, jcLE, jcEQ, jcNE, dEQ, nIt, lgNE, lgEQ, lgGE, lgLT, lgGT, lgLE, jinT, nIc, nI0, nI1, nIo, nIs, nI_add, nIm, nIn0, szl0, szl1, szl2, szl3, szl4, szl5, Nat.add_sub_assoc, Nat.add_zero, Nat.reduceSub, Nat.reduceAdd, Nat.reduceMul, Nat.reduceEqDiff,  jifT, bdS, sifN, sifS, omN, omS, cdI, x25, x26, x27, x28, x29, x30, x31, x32, xr0, xr1, xr2, xr3, xr4, xr5, if_pos, if_neg, true_and, and_true, false_and, and_false, and_self, Bool.and_true, if_true, if_false, reduceIte, cond_true, cond_false, not_true_eq_false, not_false_eq_true, x51, x52, x53, x54, x55, x56, x57, x58, x59, x60, x61, x62, x63, F_185_273, hst, h1]
      | some x =>
        have e3 := (e2 x rfl).2
        have := hb x (Or.inl rfl)
        rw [Option.isSome_some, cond_true] at h1
        rw [oI_s] at g3
        clear hb e2
        unfold F_185_223
        simp (disch := first | assumption | omega) only [gI, gI2, gL, gL1, gL2, jcLT, jcGE, jcGT, jcLE, jcEQ, jcNE, dEQ, nIt, lgNE, lgEQ, lgGE, lgLT, lgGT, lgLE, jinT, nIc, nI0, nI1, nIo, nIs, nI_add, nIm, nIn0, szl0, szl1, szl2, szl3, szl4, szl5, Nat.add_sub_assoc, Nat.add_zero, Nat.reduceSub, Nat.reduceAdd, Nat.reduceMul, Nat.reduceEqDiff,  jifT, bdS, sifN, sifS, omN, omS, cdI, x25, x26, x27, x28, x29, x30, x31, x32, xr0, xr1, xr2, xr3, xr4, xr5, if_pos, if_neg, true_and, and_true, false_and, and_false, and_self, Bool.and_true, if_true, if_false, reduceIte, cond_true, cond_false, not_true_eq_false, not_false_eq_true, x51, x52, x53, x54, x55, x56, x57, x58, x59, x60, x61, x62, x63, F_185_273, hst, h1, g3, g4]
    · clear h3 hb e2
      unfold F_185_223
      simp (disch := first | assumption | omega) only [gI, gI2, gL, gL1, gL2, jcLT, jcGE, jcGT, jcLE, jcEQ, jcNE, dEQ, nIt, lgNE, lgEQ, lgGE, lgLT, lgGT, lgLE, jinT, nIc, nI0, nI1, nIo, nIs, nI_add, nIm, nIn0, szl0, szl1, szl2, szl3, szl4, szl5, Nat.add_sub_assoc, Nat.add_zero, Nat.reduceSub, Nat.reduceAdd, Nat.reduceMul, Nat.reduceEqDiff,  jifT, bdS, sifN, sifS, omN, omS, cdI, x25, x26, x27, x28, x29, x30, x31, x32, xr0, xr1, xr2, xr3, xr4, xr5, if_pos, if_neg, true_and, and_true, false_and, and_false, and_self, Bool.and_true, if_true, if_false, reduceIte, cond_true, cond_false, not_true_eq_false, not_false_eq_true, x51, x52, x53, x54, x55, x56, x57, x58, x59, x60, x61, x62, x63, hst]
/-! the reference lets a sender panic -/
set_option maxHeartbeats 4000000 in
set_option linter.unusedSimpArgs false in
theorem e185s {k94 : Int32 → sS → Option (Unit × sS)} {cc : Int32} {s st c dd L : Nat} {T1 T2 : sS} (hs : s < 16) (hdd : dd < 30) (h3 : T.1 54 s 0 1 = nI (dd + 1)) (hst : T.1 54 s 0 0 = nI st) (hst2 : st = 2 ∨ st = 4) (o2 : T.1 56 s dd 2 = nI n) (hn : n ≤ 16) (hdw : dw st c ≤ n) (h4 : st = 4 → c ≤ 4 ∧ ∃ f fi pc, T.1 56 s dd 0 = nI f ∧ f < 32 ∧ T.1 39 0 0 f = nI fi ∧ T.1 56 s dd 1 = nI (pc + 1) ∧ fi + pc < 1500 ∧ T.1 42 0 0 (fi + pc) &&& nI 7 = nI c) (hq : T.1 33 0 0 15 = nI L) (hq2 : L < 16) (eM : F_155 G t (s, 0) (-4) (rdT (siI T 56 s dd 2 (nI (n - dw st c))) s L) = some ((), T1)) (eR : F_178 G t (nI s) T1 = some ((), T2)) : F_185_275 G t k94 cc (nI s) (s, 0) (nI 1) T = k94 cc T2 := by
  have e163 := f_163 (G := G) (t := t) (T := siI T 56 s dd 2 (nI (n - dw st c))) (s := s) (q := L) hs (by rw [siI_ne _ _ _ (by omega)]; exact hq) (by omega)
  rcases hst2 with c2 | c4
  · subst c2
    have e9 : dw 2 c = 2 := rfl
    rw [e9] at eM e163 hdw
    clear h4
    unfold F_185_275
    simp (disch := first | assumption | omega) only [gI, gI2, gL, gL1, gL2, jcLT, jcGE, jcGT, jcLE, jcEQ, jcNE, dEQ, nIt, lgNE, lgEQ, lgGE, lgLT, lgGT, lgLE, jinT, nIc, nI0, nI1, nIo, nIs, nI_add, nIm, nIn0, szl0, szl1, szl2, szl3, szl4, szl5, Nat.add_sub_assoc, Nat.add_zero, Nat.reduceSub, Nat.reduceAdd, Nat.reduceMul, Nat.reduceEqDiff,  jifT, bdS, sifN, sifS, omN, omS, cdI, x25, x26, x27, x28, x29, x30, x31, x32, xr0, xr1, xr2, xr3, xr4, xr5, if_pos, if_neg, true_and, and_true, false_and, and_false, and_self, Bool.and_true, if_true, if_false, reduceIte, cond_true, cond_false, not_true_eq_false, not_false_eq_true, x51, x52, x53, x54, x55, x56, x57, x58, x59, x60, x61, x62, x63, F_151, F_185_347, h3, hst, o2, e163, eM, eR]
  · subst c4
    obtain ⟨c1, f, fi, pc, q1, q2, q3, q4, q5, q6⟩ := h4 rfl
    have e9 : dw 4 c = 3 * c := rfl
    rw [e9] at eM e163 hdw
    have q7 : nI fi + nI (pc + 1) - nI 1 = nI (fi + pc) := by rw [nI_add, nIs (by omega)]; rfl
    have q8 : fi + (pc + 1) - 1 = fi + pc := by omega
    have q9 : nI n - nI 3 * nI c = nI (n - 3 * c) := by rw [nIml, nIs (by omega)]
    clear h4
    unfold F_185_275
    simp (disch := first | assumption | omega) only [gI, gI2, gL, gL1, gL2, jcLT, jcGE, jcGT, jcLE, jcEQ, jcNE, dEQ, nIt, lgNE, lgEQ, lgGE, lgLT, lgGT, lgLE, jinT, nIc, nI0, nI1, nIo, nIs, nI_add, nIm, nIn0, szl0, szl1, szl2, szl3, szl4, szl5, Nat.add_sub_assoc, Nat.add_zero, Nat.reduceSub, Nat.reduceAdd, Nat.reduceMul, Nat.reduceEqDiff,  jifT, bdS, sifN, sifS, omN, omS, cdI, x25, x26, x27, x28, x29, x30, x31, x32, xr0, xr1, xr2, xr3, xr4, xr5, if_pos, if_neg, true_and, and_true, false_and, and_false, and_self, Bool.and_true, if_true, if_false, reduceIte, cond_true, cond_false, not_true_eq_false, not_false_eq_true, x51, x52, x53, x54, x55, x56, x57, x58, x59, x60, x61, x62, x63, F_151, F_185_347, h3, hst, o2, q1, q3, q4, q7, q8, q6, q9, e163, eM, eR]
/-! how many wait -/
def wcn (g : Nat → Nat) : Nat → Nat
  | 0 => 0
  | n + 1 => wcn g n + if 2 ≤ g n ∧ g n ≤ 4 then 1 else 0
theorem wcn_same {g g' : Nat → Nat} : ∀ n, (∀ z, z < n → g' z = g z) → wcn g' n = wcn g n := by
  intro n
  induction n with
  | zero => intro _; rfl
  | succ n ih =>
    intro h
    unfold wcn
    rw [ih (fun z hz => h z (by omega)), h n (by omega)]
theorem wcn_set {g g' : Nat → Nat} {s : Nat} (h1 : 2 ≤ g s ∧ g s ≤ 4) (h2 : ¬ (2 ≤ g' s ∧ g' s ≤ 4)) (h : ∀ z, z ≠ s → g' z = g z) : ∀ n, s < n → wcn g n = wcn g' n + 1 := by
  intro n
  induction n with
  | zero => intro z; omega
  | succ n ih =>
    intro z
    unfold wcn
    by_cases c : s = n
    · subst c
      rw [if_pos h1, if_neg h2, wcn_same s (fun z hz => h z (by omega))]
    · rw [ih (by omega), h n (by omega)]
      omega
theorem wcn_le (g : Nat → Nat) : ∀ n, wcn g n ≤ n := by
  intro n
  induction n with
  | zero => exact Nat.le_refl _
  | succ n ih =>
    unfold wcn
    split <;> omega
theorem wcn_lt {g : Nat → Nat} {s : Nat} (h : ¬ (2 ≤ g s ∧ g s ≤ 4)) : ∀ n, s < n → wcn g n < n := by
  intro n
  induction n with
  | zero => intro z; omega
  | succ n ih =>
    intro z
    unfold wcn
    by_cases c : s = n
    · subst c
      have := wcn_le g s
      rw [if_neg h]
      omega
    · have := ih (by omega)
      split <;> omega
/-! what one waiter's leaving keeps -/
def clJ (φ : Nat → Nat) (D : Nat → Prop) (F N : Nat) (P : aP) (S T : sS) (A : aS) (r d p f pc n m y : Nat) (S' T' : sS) (A' : aS) : Prop := cx φ D F N P S' T' A' r d p f pc n m ∧ hk S S' ∧ iqR P A' r False ∧ (∀ x, rmR S x → rmR S' x) ∧ T'.1 33 0 0 38 = T.1 33 0 0 38 ∧ A'.2.2.2.2 = A.2.2.2.2 ∧ T'.1 51 (φ y) 0 = T.1 51 (φ y) 0 ∧ wcn A.1 16 = wcn A'.1 16 + 1
theorem cx.clI (h : cx φ D F N P S T A r d p f pc n m) (iq : iqR P A r False) {s : Nat} (hs : s < 16) (hsr : s ≠ r) (hst : 2 ≤ A.1 s ∧ A.1 s ≤ 4) {A' : aS} (w : wR φ D F N P S' T' A') (k : hk S S') (hA : A'.1 s = 1 ∧ A'.2.2.2.1 = A.2.2.2.1 ++ [s] ∨ 5 ≤ A'.1 s ∧ A'.2.2.2.1 = A.2.2.2.1) (tp : tpR P (A'.2.1 s) (A'.2.2.1 s)) (ot : ∀ z, z ≠ s → A'.1 z = A.1 z ∧ A'.2.1 z = A.2.1 z ∧ A'.2.2.1 z = A.2.2.1 z) (hw : A'.2.2.2.2 = A.2.2.2.2) (rm : ∀ x, rmR S x → rmR S' x) (h38 : T'.1 33 0 0 38 = T.1 33 0 0 38) (h51 : T'.1 51 (φ y) 0 = T.1 51 (φ y) 0) (hX : ∀ s' d, s' ≠ s → S'.2.2.1.1 s' d = S.2.2.1.1 s' d) : clJ φ D F N P S T A r d p f pc n m y S' T' A' := by
  obtain ⟨w0, wh, hr, a1, a2, a3, a4⟩ := h
  obtain ⟨q1, q2, q3, q9⟩ := iq
  obtain ⟨o1, o2, o3⟩ := ot r hsr.symm
  refine ⟨⟨w, wh, hr, o1.trans a1, o2.trans a2, (hX r d hsr.symm).trans a3, by rw [o3]; exact a4⟩, k, ⟨fun x hx hxr => ?_, ?_, fun x => ?_, ?_⟩, rm, h38, hw, h51, ?_⟩
  · by_cases c : x = s
    · subst c; exact tp
    · rw [(ot x c).2.1, (ot x c).2.2]
      exact q1 x hx hxr
  · rcases hA with ⟨_, e⟩ | ⟨_, e⟩
    · rw [e, List.nodup_append]
      refine ⟨q2, List.nodup_cons.mpr ⟨List.not_mem_nil, List.nodup_nil⟩, fun a ha b hb => ?_⟩
      rw [List.mem_singleton] at hb
      subst hb
      intro c'
      subst c'
      have := ((q3 a).mp ha).2.1
      omega
    · rw [e]; exact q2
  · rcases hA with ⟨e1, e⟩ | ⟨e1, e⟩
    · rw [e, List.mem_append, List.mem_singleton]
      by_cases c : x = s
      · subst c
        exact ⟨fun _ => ⟨hs, e1, hsr⟩, fun _ => Or.inr rfl⟩
      · rw [(ot x c).1]
        exact ⟨fun z => z.elim (q3 x).mp (fun z => absurd z c), fun z => Or.inl ((q3 x).mpr z)⟩
    · rw [e]
      by_cases c : x = s
      · subst c
        exact ⟨fun z => by have := ((q3 x).mp z).2.1; omega, fun z => by omega⟩
      · rw [(ot x c).1]
        exact q3 x
  · by_cases c : 0 = s
    · rw [c]; omega
    · rw [(ot 0 c).1]; exact q9
  · exact wcn_set hst (by omega) (fun z hz => (ot z hz).1) 16 hs
end CL2
