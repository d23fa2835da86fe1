/-! What a call leaves. -/
theorem enS_2 (S : sS) (s dp p f lo pa q kq a : Nat) : (enS S s dp p f lo pa q kq a).2.2 = S.2.2 := by
  unfold enS
  rw [gI2, cpS_2, opS_2]
set_option maxHeartbeats 4000000 in
set_option linter.unusedSimpArgs false in
theorem enS_ag (S : sS) (s dp p f lo pa q kq a : Nat) : agr (fun t i j => (t = 25 ∧ i = s ∧ j = 0) ∨ (27 ≤ t ∧ t ≤ 31 ∧ i = p ∧ j < 4)) S (enS S s dp p f lo pa q kq a) := by
  intro t i j h
  have h1 : ¬ (t = 25 ∧ i = s ∧ j = 0) := by omega
  have h2 : ¬ (i = p ∧ j < 4 ∧ 27 ≤ t ∧ t ≤ 31) := by omega
  constructor
  · funext k
    unfold enS
    simp (disch := first | assumption | omega) only [gI, gI2, gL, gL1, gL2, jcLT, jcGE, jcGT, jcLE, jcEQ, jcNE, dEQ, nIt, lgNE, lgEQ, lgGE, lgLT, lgGT, lgLE, jinT, nIc, nI0, nI1, nIo, nIs, nI_add, nIm, nIn0, szl0, szl1, szl2, szl3, szl4, szl5, Nat.add_sub_assoc, Nat.add_zero, Nat.reduceSub, Nat.reduceAdd, Nat.reduceMul, Nat.reduceEqDiff,  jifT, bdS, sifN, sifS, omN, omS, cdI, x25, x26, x27, x28, x29, x30, x31, x32, xr0, xr1, xr2, xr3, xr4, xr5, if_pos, if_neg, true_and, and_true, false_and, and_false, and_self, Bool.and_true, if_true, if_false, reduceIte, cond_true, cond_false, not_true_eq_false, not_false_eq_true, cpS_I, opS_I]
  · funext k
    unfold enS
    simp (disch := first | assumption | omega) only [gI, gI2, gL, gL1, gL2, jcLT, jcGE, jcGT, jcLE, jcEQ, jcNE, dEQ, nIt, lgNE, lgEQ, lgGE, lgLT, lgGT, lgLE, jinT, nIc, nI0, nI1, nIo, nIs, nI_add, nIm, nIn0, szl0, szl1, szl2, szl3, szl4, szl5, Nat.add_sub_assoc, Nat.add_zero, Nat.reduceSub, Nat.reduceAdd, Nat.reduceMul, Nat.reduceEqDiff,  jifT, bdS, sifN, sifS, omN, omS, cdI, x25, x26, x27, x28, x29, x30, x31, x32, xr0, xr1, xr2, xr3, xr4, xr5, if_pos, if_neg, true_and, and_true, false_and, and_false, and_self, Bool.and_true, if_true, if_false, reduceIte, cond_true, cond_false, not_true_eq_false, not_false_eq_true, cpS_L, opS_L]
set_option maxHeartbeats 4000000 in
set_option linter.unusedSimpArgs false in
theorem enS_25 (S : sS) (s dp p f lo pa q kq a k : Nat) : (enS S s dp p f lo pa q kq a).1 25 s 0 k = if k = 3 then nI (dp + 1) else S.1 25 s 0 k := by
  unfold enS
  by_cases h : k = 3
  · subst h
    simp (disch := first | assumption | omega) only [gI, gI2, gL, gL1, gL2, jcLT, jcGE, jcGT, jcLE, jcEQ, jcNE, dEQ, nIt, lgNE, lgEQ, lgGE, lgLT, lgGT, lgLE, jinT, nIc, nI0, nI1, nIo, nIs, nI_add, nIm, nIn0, szl0, szl1, szl2, szl3, szl4, szl5, Nat.add_sub_assoc, Nat.add_zero, Nat.reduceSub, Nat.reduceAdd, Nat.reduceMul, Nat.reduceEqDiff,  jifT, bdS, sifN, sifS, omN, omS, cdI, x25, x26, x27, x28, x29, x30, x31, x32, xr0, xr1, xr2, xr3, xr4, xr5, if_pos, if_neg, true_and, and_true, false_and, and_false, and_self, Bool.and_true, if_true, if_false, reduceIte, cond_true, cond_false, not_true_eq_false, not_false_eq_true]
  · rw [if_neg h]
    simp (disch := first | assumption | omega) only [gI, gI2, gL, gL1, gL2, jcLT, jcGE, jcGT, jcLE, jcEQ, jcNE, dEQ, nIt, lgNE, lgEQ, lgGE, lgLT, lgGT, lgLE, jinT, nIc, nI0, nI1, nIo, nIs, nI_add, nIm, nIn0, szl0, szl1, szl2, szl3, szl4, szl5, Nat.add_sub_assoc, Nat.add_zero, Nat.reduceSub, Nat.reduceAdd, Nat.reduceMul, Nat.reduceEqDiff,  jifT, bdS, sifN, sifS, omN, omS, cdI, x25, x26, x27, x28, x29, x30, x31, x32, xr0, xr1, xr2, xr3, xr4, xr5, if_pos, if_neg, true_and, and_true, false_and, and_false, and_self, Bool.and_true, if_true, if_false, reduceIte, cond_true, cond_false, not_true_eq_false, not_false_eq_true, cpS_I, opS_I]
set_option maxHeartbeats 4000000 in
set_option linter.unusedSimpArgs false in
theorem enS_25L (S : sS) (s dp p f lo pa q kq a k : Nat) : (enS S s dp p f lo pa q kq a).2.1 25 s 0 k = S.2.1 25 s 0 k := by
  unfold enS
  simp (disch := first | assumption | omega) only [gI, gI2, gL, gL1, gL2, jcLT, jcGE, jcGT, jcLE, jcEQ, jcNE, dEQ, nIt, lgNE, lgEQ, lgGE, lgLT, lgGT, lgLE, jinT, nIc, nI0, nI1, nIo, nIs, nI_add, nIm, nIn0, szl0, szl1, szl2, szl3, szl4, szl5, Nat.add_sub_assoc, Nat.add_zero, Nat.reduceSub, Nat.reduceAdd, Nat.reduceMul, Nat.reduceEqDiff,  jifT, bdS, sifN, sifS, omN, omS, cdI, x25, x26, x27, x28, x29, x30, x31, x32, xr0, xr1, xr2, xr3, xr4, xr5, if_pos, if_neg, true_and, and_true, false_and, and_false, and_self, Bool.and_true, if_true, if_false, reduceIte, cond_true, cond_false, not_true_eq_false, not_false_eq_true, cpS_L, opS_L]
set_option maxHeartbeats 4000000 in
set_option linter.unusedSimpArgs false in
theorem enS_27 (S : sS) (s dp p f lo pa q kq a : Nat) : (enS S s dp p f lo pa q kq a).1 27 p 0 5 = nI f ∧ (enS S s dp p f lo pa q kq a).1 27 p 0 6 = nI 0 ∧ (enS S s dp p f lo pa q kq a).1 27 p 0 7 = nI 0 ∧ (enS S s dp p f lo pa q kq a).1 29 p 0 2 = nI lo ∧ (enS S s dp p f lo pa q kq a).1 29 p 1 2 = nI 0 ∧ (enS S s dp p f lo pa q kq a).1 29 p 2 2 = nI 0 ∧ (enS S s dp p f lo pa q kq a).1 29 p 3 2 = nI 0 := by
  unfold enS
  refine ⟨?_, ?_, ?_, ?_, ?_, ?_, ?_⟩
  all_goals (rw [gI, if_neg (by omega), cpS_I _ _ _ _ _ (by omega)]; unfold opS; simp (disch := first | assumption | omega) only [gI, gI2, gL, gL1, gL2, jcLT, jcGE, jcGT, jcLE, jcEQ, jcNE, dEQ, nIt, lgNE, lgEQ, lgGE, lgLT, lgGT, lgLE, jinT, nIc, nI0, nI1, nIo, nIs, nI_add, nIm, nIn0, szl0, szl1, szl2, szl3, szl4, szl5, Nat.add_sub_assoc, Nat.add_zero, Nat.reduceSub, Nat.reduceAdd, Nat.reduceMul, Nat.reduceEqDiff,  jifT, bdS, sifN, sifS, omN, omS, cdI, x25, x26, x27, x28, x29, x30, x31, x32, xr0, xr1, xr2, xr3, xr4, xr5, if_pos, if_neg, true_and, and_true, false_and, and_false, and_self, Bool.and_true, if_true, if_false, reduceIte, cond_true, cond_false, not_true_eq_false, not_false_eq_true, rz_I])
theorem enS_loc {S : sS} {s dp p f lo pa q kq a : Nat} (hne : ¬ (q = p ∧ kq < 4)) {i : Nat} (hi : i < pa) : (enS S s dp p f lo pa q kq a).2.1 30 p 0 i = S.2.1 30 q kq (a + i) ∧ (enS S s dp p f lo pa q kq a).1 31 p 0 i = S.1 31 q kq (a + i) := by
  unfold enS
  rw [gI2, gI, if_neg (by omega), cpS_n, cpS_t, if_pos hi, if_pos hi, opS_I (by omega), opS_L (by omega)]
  exact ⟨rfl, rfl⟩
set_option maxHeartbeats 4000000 in
set_option linter.unusedSimpArgs false in
theorem enS_zer {S : sS} {s dp p f lo pa q kq a : Nat} {i : Nat} (hi : ¬ i < pa) (hl : i < lo) : (enS S s dp p f lo pa q kq a).2.1 30 p 0 i = 0 ∧ (enS S s dp p f lo pa q kq a).1 31 p 0 i = nI 0 := by
  unfold enS
  rw [gI2, gI, if_neg (by omega), cpS_n, cpS_t, if_neg hi, if_neg hi]
  unfold opS
  simp (disch := omega) only [gI, gI2, gL1, gL2, if_neg, rz_num, rz_tag]
  exact ⟨trivial, nI_0.symm⟩
theorem nbF {a b : Nat} (h : a ≠ b) : Nat.beq a b = false := by
  cases z : Nat.beq a b with
  | false => rfl
  | true => exact absurd (Nat.eq_of_beq_eq_true z) h
/-! counting -/
set_option maxHeartbeats 4000000 in
set_option linter.unusedSimpArgs false in
theorem cnt_one {α : Type} (n k0 : Nat) (X Y : Nat → Option α) (hk : k0 < n) (h0 : X k0 = none) (h1 : (Y k0).isSome = true) (hx : ∀ k, k ≠ k0 → Y k = X k) : (List.range n).countP (fun k => (Y k).isSome) = (List.range n).countP (fun k => (X k).isSome) + 1 := by
  induction n with
  | zero => omega
  | succ n ih =>
    rw [List.range_succ, List.countP_append, List.countP_append]
    by_cases h : k0 = n
    · subst h
      have e : ∀ m, m ≤ k0 → (List.range m).countP (fun k => (Y k).isSome) = (List.range m).countP (fun k => (X k).isSome) := by
        intro m
        induction m with
        | zero => intro _; rfl
        | succ m ihm =>
          intro hm
          rw [List.range_succ, List.countP_append, List.countP_append, ihm (by omega)]
          congr 1
          simp only [List.countP_cons, List.countP_nil, hx m (by omega)]
      rw [e k0 (Nat.le_refl _)]
      simp only [List.countP_cons, List.countP_nil, h0, h1]
      rfl
    · rw [ih (by omega)]
      have : List.countP (fun k => (Y k).isSome) [n] = List.countP (fun k => (X k).isSome) [n] := by
        simp only [List.countP_cons, List.countP_nil, hx n (by omega)]
      omega
theorem cF_one {X Y : Nat → Nat → Option Nat} {s d : Nat} (hs : s < 16) (hd : d < 30) (h0 : X s d = none) (h1 : (Y s d).isSome = true) (hx : ∀ s' d', ¬ (s' = s ∧ d' = d) → Y s' d' = X s' d') : cF Y = cF X + 1 := by
  refine cnt_one 480 (s * 30 + d) (fun k => X (k / 30) (k % 30)) (fun k => Y (k / 30) (k % 30)) (by omega) ?_ ?_ ?_
  · show X ((s * 30 + d) / 30) ((s * 30 + d) % 30) = none
    rw [show (s * 30 + d) / 30 = s by omega, show (s * 30 + d) % 30 = d by omega]; exact h0
  · show (Y ((s * 30 + d) / 30) ((s * 30 + d) % 30)).isSome = true
    rw [show (s * 30 + d) / 30 = s by omega, show (s * 30 + d) % 30 = d by omega]; exact h1
  · intro k hk
    exact hx _ _ (by omega)
/-! a new frame in its place -/
def nwS (S : sS) (s dp : Nat) : sS := ssF (snF S) s dp S.2.2.2.2.1
theorem snZ_old' {S : sS} {p t i j : Nat} (h : ¬ (i = p ∧ 27 ≤ t ∧ t ≤ 32)) : (snZ S p).1 t i j = S.1 t i j ∧ (snZ S p).2 t i j = S.2.1 t i j := by
  have e : (Nat.beq i p && (Nat.ble 27 t && Nat.ble t 32)) = false := by
    cases z : (Nat.beq i p && (Nat.ble 27 t && Nat.ble t 32)) with
    | false => rfl
    | true =>
      rw [Bool.and_eq_true, Bool.and_eq_true] at z
      exact absurd ⟨Nat.eq_of_beq_eq_true z.1, Nat.le_of_ble_eq_true z.2.1, Nat.le_of_ble_eq_true z.2.2⟩ h
  constructor
  · show (bif (Nat.beq i p && (Nat.ble 27 t && Nat.ble t 32)) then (fun _ => 0) else S.1 t i j) = _
    rw [e]; rfl
  · show (bif (Nat.beq i p && (Nat.ble 27 t && Nat.ble t 32)) then (fun _ => 0) else S.2.1 t i j) = _
    rw [e]; rfl
theorem nwS_ag (S : sS) (s dp : Nat) : agr (fun t i _ => 27 ≤ t ∧ t ≤ 32 ∧ i = S.2.2.2.2.1) S (nwS S s dp) := fun t i j h => snZ_old' (by omega)
theorem nwS_F (S : sS) (s dp s' d' : Nat) : (nwS S s dp).2.2.1.1 s' d' = if s' = s ∧ d' = dp then some S.2.2.2.2.1 else S.2.2.1.1 s' d' := by
  show (bif Nat.beq s' s then va_up (S.2.2.1.1 s') dp (some S.2.2.2.2.1) else S.2.2.1.1 s') d' = _
  by_cases h : s' = s
  · subst h
    rw [Nat.beq_refl, cond_true]
    by_cases h2 : d' = dp
    · subst h2; rw [if_pos ⟨rfl, rfl⟩, va_up_self]
    · rw [if_neg fun z => h2 z.2, va_up_ne _ _ h2]
  · rw [if_neg fun z => h z.1, nbF h]
    rfl
theorem nwS_own {S : sS} {s dp : Nat} (h : own S) (hs : s < 16) (hd : dp < 30) (h0 : S.2.2.1.1 s dp = none) : own (nwS S s dp) := by
  obtain ⟨a1, a2, a3, a4, a5, a6, a7⟩ := h
  have mk : ∀ q, (nwS S s dp).2.2.2.1.1 q = true ↔ q = S.2.2.2.2.1 ∨ S.2.2.2.1.1 q = true := fun q => by
    show (Nat.beq q S.2.2.2.2.1 || S.2.2.2.1.1 q) = true ↔ _
    rw [Bool.or_eq_true]
    exact ⟨fun z => z.elim (fun y => Or.inl (Nat.eq_of_beq_eq_true y)) Or.inr, fun z => z.elim (fun y => Or.inl (by rw [y]; exact Nat.beq_refl _)) Or.inr⟩
  refine ⟨fun s' d' p hp => ?_, fun s1 d1 s2 d2 p h1 h2 => ?_, a3, a4, fun p hp => ?_, fun p hp => ?_, Nat.lt_of_lt_of_le a7 (Nat.le_add_right _ 14)⟩
  · rw [nwS_F] at hp
    by_cases e : s' = s ∧ d' = dp
    · rw [if_pos e] at hp
      cases hp
      exact ⟨by omega, by omega, (mk _).mpr (Or.inl rfl)⟩
    · rw [if_neg e] at hp
      obtain ⟨b1, b2, b3⟩ := a1 s' d' p hp
      exact ⟨b1, b2, (mk _).mpr (Or.inr b3)⟩
  · rw [nwS_F] at h1 h2
    by_cases e1 : s1 = s ∧ d1 = dp
    · by_cases e2 : s2 = s ∧ d2 = dp
      · omega
      · rw [if_pos e1] at h1
        rw [if_neg e2] at h2
        cases h1
        have := (a5 _ (a1 _ _ _ h2).2.2).1.1
        omega
    · by_cases e2 : s2 = s ∧ d2 = dp
      · rw [if_neg e1] at h1
        rw [if_pos e2] at h2
        cases h2
        have := (a5 _ (a1 _ _ _ h1).2.2).1.1
        omega
      · rw [if_neg e1] at h1
        rw [if_neg e2] at h2
        exact a2 _ _ _ _ _ h1 h2
  · show (p < S.2.2.2.2.1 + 14 ∧ 0 < p) ∧ S.2.2.2.1.2 p = false
    rcases (mk p).mp hp with e | e
    · subst e
      refine ⟨⟨by omega, a7⟩, ?_⟩
      cases z : S.2.2.2.1.2 S.2.2.2.2.1 with
      | false => rfl
      | true => have := a6 _ z; omega
    · have := a5 p e
      exact ⟨⟨by omega, this.1.2⟩, this.2⟩
  · show p < S.2.2.2.2.1 + 14 ∧ 0 < p
    have := a6 p hp
    omega
theorem nwS_rm {S : sS} {s dp x : Nat} (h : rmR S x) (hs : s < 16) (hd : dp < 30) (h0 : S.2.2.1.1 s dp = none) : rmR (nwS S s dp) x := by
  have e : cF (nwS S s dp).2.2.1.1 = cF S.2.2.1.1 + 1 := cF_one hs hd h0 (by rw [nwS_F, if_pos ⟨rfl, rfl⟩]; rfl) (fun s' d' z => by rw [nwS_F, if_neg z])
  unfold rmR at h ⊢
  rw [e]
  show S.2.2.2.2.2.1 + 14 = 7857 + 14 * (cF S.2.2.1.1 + 1) + 4 * cT S.2.2.1.2 + x ∧ S.2.2.2.2.2.2 + 96 ≤ 200000 + 96 * (cF S.2.2.1.1 + 1) + 40 * cT S.2.2.1.2 + 6 * x
  omega
/-! what a call leaves: p is the frame's place -/
def enR (S S' : sS) (s dp p f lo pa q kq a : Nat) : Prop :=
  (S'.2.2.1.1 s dp = some p ∧ (∀ s' d', ¬ (s' = s ∧ d' = dp) → S'.2.2.1.1 s' d' = S.2.2.1.1 s' d') ∧ S'.2.2.1.2 = S.2.2.1.2 ∧ (∀ q, S.2.2.2.1.1 q = true → S'.2.2.2.1.1 q = true) ∧ S'.2.2.2.1.2 = S.2.2.2.1.2 ∧ S'.2.2.2.1.1 p = true ∧ 0 < p) ∧
  ((∀ s' d', S.2.2.1.1 s' d' = some p → s' = s ∧ d' = dp) ∧ ∀ h, S.2.2.1.2 h ≠ some p) ∧
  agr (fun t i j => (t = 25 ∧ i = s ∧ j = 0) ∨ (27 ≤ t ∧ t ≤ 32 ∧ i = p)) S S' ∧
  ((∀ k, S'.1 25 s 0 k = if k = 3 then nI (dp + 1) else S.1 25 s 0 k) ∧ ∀ k, S'.2.1 25 s 0 k = S.2.1 25 s 0 k) ∧
  (S'.1 27 p 0 5 = nI f ∧ S'.1 27 p 0 6 = nI 0 ∧ S'.1 27 p 0 7 = nI 0 ∧ S'.1 29 p 0 2 = nI lo ∧ S'.1 29 p 1 2 = nI 0 ∧ S'.1 29 p 2 2 = nI 0 ∧ S'.1 29 p 3 2 = nI 0) ∧
  ((∀ i, i < pa → S'.2.1 30 p 0 i = S.2.1 30 q kq (a + i) ∧ S'.1 31 p 0 i = S.1 31 q kq (a + i)) ∧ ∀ i, ¬ i < pa → i < lo → S'.2.1 30 p 0 i = 0 ∧ S'.1 31 p 0 i = nI 0) ∧
  (own S' ∧ (∀ x, rmR S x → rmR S' x) ∧ (S'.2.2.2.2.1 = S.2.2.2.2.1 ∨ S.2.2.2.2.1 ≤ S'.2.2.2.2.1))
set_option maxHeartbeats 4000000 in
set_option linter.unusedSimpArgs false in
theorem f_29 {G : jG} {t : Nat} {S : sS} {s dp f lo pa q kq a sz F : Nat} (ht : 100 < t) (hs : s < 16) (hdp : dp < 30) (ow : own S) (hF : S.1 1 0 0 6 = nI F) (hF2 : F ≤ 32) (hf : f < F) (hpa : S.1 2 0 0 f = nI pa) (hlo : S.1 3 0 0 f = nI lo) (h1 : pa ≤ lo) (h2 : lo ≤ 12) (hr : srx S.2.2.2.1 q kq = true) (hz : S.1 29 q kq 2 = nI sz) (hz2 : sz ≤ srl kq) (ha : a + pa ≤ sz) (hne : kq < 4 → S.2.2.1.1 s dp ≠ some q) (hq : q < S.2.2.2.2.1) (hd : S.1 25 s 0 3 = nI dp) :
    ∃ p S', F_29 G t (s, 0) (nI f) (q, kq) (nI a) S = some (nI 1, S') ∧ enR S S' s dp p f lo pa q kq a := by
  have hw := ow
  obtain ⟨a1, a2, a3, a4, a5, a6, a7⟩ := ow
  cases hX : S.2.2.1.1 s dp with
  | some p =>
    obtain ⟨b1, b2, b3⟩ := a1 s dp p hX
    have hqp : ¬ (q = p ∧ kq < 4) := fun z => hne z.2 (by rw [hX, z.1])
    refine ⟨p, enS S s dp p f lo pa q kq a, ?_, ?_⟩
    · have e := l_29_47 (G := G) ht hs b3 hF hF2 hf hpa hlo h1 h2 hr hz hz2 ha hqp hd
      unfold F_29
      simp (disch := first | assumption | omega) only [gI, gI2, gL, gL1, gL2, jcLT, jcGE, jcGT, jcLE, jcEQ, jcNE, dEQ, nIt, lgNE, lgEQ, lgGE, lgLT, lgGT, lgLE, jinT, nIc, nI0, nI1, nIo, nIs, nI_add, nIm, nIn0, szl0, szl1, szl2, szl3, szl4, szl5, Nat.add_sub_assoc, Nat.add_zero, Nat.reduceSub, Nat.reduceAdd, Nat.reduceMul, Nat.reduceEqDiff,  jifT, bdS, sifN, sifS, omN, omS, cdI, x25, x26, x27, x28, x29, x30, x31, x32, xr0, xr1, xr2, xr3, xr4, xr5, if_pos, if_neg, true_and, and_true, false_and, and_false, and_self, Bool.and_true, if_true, if_false, reduceIte, cond_true, cond_false, not_true_eq_false, not_false_eq_true, hd, hX]
      exact e
    · have e2 := enS_2 S s dp p f lo pa q kq a
      refine ⟨⟨?_, fun s' d' _ => ?_, ?_, fun q hq => ?_, ?_, ?_, (a5 p b3).1.2⟩, ⟨fun s' d' h => a2 _ _ _ _ _ h hX, fun h hh => ?_⟩, ?_, ⟨enS_25 S s dp p f lo pa q kq a, enS_25L S s dp p f lo pa q kq a⟩, enS_27 S s dp p f lo pa q kq a, ⟨fun i hi => enS_loc hqp hi, fun i hi hl => enS_zer hi hl⟩, ?_, fun x hx => ?_, Or.inl ?_⟩
      · rw [e2]; exact hX
      · rw [e2]
      · rw [e2]
      · rw [e2]; exact hq
      · rw [e2]
      · rw [e2]; exact b3
      · have := (a3 h p hh).2
        rw [(a5 p b3).2] at this
        cases this
      · exact (enS_ag S s dp p f lo pa q kq a).mono (fun t i j z => by omega)
      · unfold own
        rw [e2]
        exact hw
      · unfold rmR
        rw [e2]
        exact hx
      · rw [e2]
  | none =>
    have ag := nwS_ag S s dp
    have hM : (nwS S s dp).2.2.2.1.1 S.2.2.2.2.1 = true := by
      show (Nat.beq S.2.2.2.2.1 S.2.2.2.2.1 || _) = true
      rw [Nat.beq_refl]; rfl
    have kM : ∀ q, S.2.2.2.1.1 q = true → (nwS S s dp).2.2.2.1.1 q = true := fun q h => by
      show (Nat.beq q S.2.2.2.2.1 || S.2.2.2.1.1 q) = true
      rw [h]; exact Bool.or_true _
    have kr : srx (nwS S s dp).2.2.2.1 q kq = true := by
      show ((Nat.blt kq 4 && (Nat.beq q S.2.2.2.2.1 || S.2.2.2.1.1 q)) || ((Nat.beq kq 4 && S.2.2.2.1.2 q) || (Nat.beq kq 5 && Nat.beq q 0))) = true
      rw [nbF (show q ≠ S.2.2.2.2.1 by omega), Bool.false_or]
      exact hr
    have hqp : ¬ (q = S.2.2.2.2.1 ∧ kq < 4) := by omega
    have g : ∀ t i j k, ¬ (27 ≤ t ∧ t ≤ 32 ∧ i = S.2.2.2.2.1) → (nwS S s dp).1 t i j k = S.1 t i j k := fun t i j k h => by rw [(ag t i j h).1]
    have gl : ∀ t i j k, ¬ (27 ≤ t ∧ t ≤ 32 ∧ i = S.2.2.2.2.1) → (nwS S s dp).2.1 t i j k = S.2.1 t i j k := fun t i j k h => by rw [(ag t i j h).2]
    have e2 := enS_2 (nwS S s dp) s dp S.2.2.2.2.1 f lo pa q kq a
    refine ⟨S.2.2.2.2.1, enS (nwS S s dp) s dp S.2.2.2.2.1 f lo pa q kq a, ?_, ?_⟩
    · have e := l_29_47 (G := G) (t := t) (S := nwS S s dp) (s := s) (dp := dp) (p := S.2.2.2.2.1) (f := f) (lo := lo) (pa := pa) (q := q) (kq := kq) (a := a) (sz := sz) (F := F) ht hs hM (by rw [g _ _ _ _ (by omega)]; exact hF) hF2 hf (by rw [g _ _ _ _ (by omega)]; exact hpa) (by rw [g _ _ _ _ (by omega)]; exact hlo) h1 h2 kr (by rw [g _ _ _ _ (by omega)]; exact hz) hz2 ha hqp (by rw [g _ _ _ _ (by omega)]; exact hd)
      have k1 : (snF S).1 25 s 0 3 = nI dp := by
        have := g 25 s 0 3 (by omega)
        exact this.trans hd
      have k2 : sex (snF S).2.2.2.1 27 S.2.2.2.2.1 0 = true := by
        show (((Nat.beq S.2.2.2.2.1 S.2.2.2.2.1) || _) && true) = true
        rw [Nat.beq_refl]; rfl
      unfold F_29
      simp (disch := first | assumption | omega) only [gI, gI2, gL, gL1, gL2, jcLT, jcGE, jcGT, jcLE, jcEQ, jcNE, dEQ, nIt, lgNE, lgEQ, lgGE, lgLT, lgGT, lgLE, jinT, nIc, nI0, nI1, nIo, nIs, nI_add, nIm, nIn0, szl0, szl1, szl2, szl3, szl4, szl5, Nat.add_sub_assoc, Nat.add_zero, Nat.reduceSub, Nat.reduceAdd, Nat.reduceMul, Nat.reduceEqDiff,  jifT, bdS, sifN, sifS, omN, omS, cdI, x25, x26, x27, x28, x29, x30, x31, x32, xr0, xr1, xr2, xr3, xr4, xr5, if_pos, if_neg, true_and, and_true, false_and, and_false, and_self, Bool.and_true, if_true, if_false, reduceIte, cond_true, cond_false, not_true_eq_false, not_false_eq_true, hd, hX, k1, k2]
      exact e
    · refine ⟨⟨?_, fun s' d' h => ?_, ?_, fun q hq => ?_, ?_, ?_, a7⟩, ⟨fun s' d' h => ?_, fun h hh => ?_⟩, ?_, ⟨fun k => ?_, fun k => ?_⟩, enS_27 _ s dp _ f lo pa q kq a, ⟨fun i hi => ?_, fun i hi hl => enS_zer hi hl⟩, ?_, fun x hx => ?_, Or.inr ?_⟩
      · rw [e2, nwS_F, if_pos ⟨rfl, rfl⟩]
      · rw [e2, nwS_F, if_neg h]
      · rw [e2]; rfl
      · rw [e2]; exact kM q hq
      · rw [e2]; rfl
      · rw [e2]; exact hM
      · have := (a5 _ (a1 _ _ _ h).2.2).1.1
        omega
      · have := (a6 _ (a3 _ _ hh).2).1
        omega
      · exact (ag.mono (fun t i j z => by omega)).trans ((enS_ag (nwS S s dp) s dp S.2.2.2.2.1 f lo pa q kq a).mono (fun t i j z => by omega))
      · rw [enS_25, g _ _ _ _ (by omega)]
      · rw [enS_25L, gl _ _ _ _ (by omega)]
      · have := enS_loc (S := nwS S s dp) (s := s) (dp := dp) (f := f) (lo := lo) (a := a) hqp hi
        rw [g _ _ _ _ (by omega), gl _ _ _ _ (by omega)] at this
        exact this
      · have := nwS_own hw hs hdp hX
        unfold own at this ⊢
        rw [e2]
        exact this
      · have := nwS_rm hx hs hdp hX
        unfold rmR at this ⊢
        rw [e2]
        exact this
      · rw [e2]
        exact Nat.le_add_right _ 14
