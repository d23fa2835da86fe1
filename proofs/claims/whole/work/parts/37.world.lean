/-! The class's constructors, one by one. -/
theorem jw_same {μ : jS} {a : Nat} {e : va_E} (h : μ.1 a = e) : jw μ a e = μ := by
  obtain ⟨m, r⟩ := μ
  show (va_up m a e, r) = (m, r)
  have : va_up m a e = m := by
    funext k
    unfold va_up
    by_cases hk : k = a
    · rw [if_pos hk, hk]; exact h.symm
    · rw [if_neg hk]
  rw [this]
theorem updL_same (i : Nat) : vp_updL (fun _ => 0) i 0 = fun _ => 0 := by
  funext k
  unfold vp_updL
  by_cases hk : k = i
  · rw [if_pos hk]
  · rw [if_neg hk]
theorem upd_same (i : Nat) : upd (fun _ => 0) i 0 = fun _ => 0 := by
  funext k
  unfold upd
  by_cases hk : k = i
  · rw [if_pos hk]
  · rw [if_neg hk]
/-- zeros over zeros -/
theorem z_3l {G : jG} {Q : Option Value ⊕ Nat → jS → Prop} {μ : jS} {r rn rt N : Nat} (h1 : μ.1 r = .inr (1, [.ref rn, .ref rt, .int (nI N)])) (h2 : μ.1 rn = .inl (1, N, .inr (.inl fun _ => 0))) (h3 : μ.1 rt = .inl (0, N, .inl fun _ => 0)) (hN : N < 2 ^ 30) (q : Q (.inl none) μ) : ∀ d i, i + d = N → ∀ lv, jld lv 0 = some (.ref r) → jld lv 2 = some (.int (nI i)) → jX G jP 3 24 lv [] μ Q := by
  intro d
  induction d with
  | zero =>
    intro i hi lv l0 l2
    refine jX.lin l2 (by rfl) (by rfl) ?_
    refine jX.lrn l0 (by rfl) (by rfl) ?_
    refine jX.gf (by rfl) (by rfl) (by rfl) h1 (by rfl) ?_
    refine jX.geN (t := 52) (by rfl) (by rfl) (by rfl) (by omega) (by omega) (fun _ => ?_) (fun z => by omega)
    exact jX.ret (by rfl) (by rfl) (by rfl) (by rfl) q
  | succ d ih =>
    intro i hi lv l0 l2
    refine jX.lin l2 (by rfl) (by rfl) ?_
    refine jX.lrn l0 (by rfl) (by rfl) ?_
    refine jX.gf (by rfl) (by rfl) (by rfl) h1 (by rfl) ?_
    refine jX.geN (t := 52) (by rfl) (by rfl) (by rfl) (by omega) (by omega) (fun z => by omega) (fun _ => ?_)
    refine jX.lrn l0 (by rfl) (by rfl) ?_
    refine jX.gf (by rfl) (by rfl) (by rfl) h1 (by rfl) ?_
    refine jX.lin l2 (by rfl) (by rfl) ?_
    refine jX.go (pc' := 38) (by rfl) (by rfl) (by rfl) ?_
    refine jX.lastN (by rfl) (by rfl) h2 (by omega) (by omega) ?_
    rw [show vp_updL (fun _ => 0) i (Int64.ofNat ((0 : Fin 2) : Nat)) = fun _ => 0 from updL_same i, jw_same h2]
    refine jX.lrn l0 (by rfl) (by rfl) ?_
    refine jX.gf (by rfl) (by rfl) (by rfl) h1 (by rfl) ?_
    refine jX.lin l2 (by rfl) (by rfl) ?_
    refine jX.ic (v := 0) (n := 1) (by rfl) (by rfl) (by decide) ?_
    refine jX.iastN (by rfl) (by rfl) h3 (by omega) (by omega) ?_
    rw [upd_same, jw_same h3]
    refine jX.inc l2 (by rfl) (by rfl) (by rfl) (fun lv' l2' kp => ?_)
    refine jX.go (pc' := 24) (by rfl) (by rfl) (by rfl) ?_
    have e : nI i + Int32.ofInt 1 = nI (i + 1) := nI_1 i
    rw [e] at l2'
    exact ih (i + 1) (by omega) lv' (kp 0 _ l0 (by rfl) (by rfl)) l2'
theorem z_3 {G : jG} {Q : Option Value ⊕ Nat → jS → Prop} {μ : jS} {r rn rt N : Nat} {s : Int32} (h1 : μ.1 r = .inr (1, [.ref rn, .ref rt, .int s])) (h2 : μ.1 rn = .inl (1, N, .inr (.inl fun _ => 0))) (h3 : μ.1 rt = .inl (0, N, .inl fun _ => 0)) (hN : N < 2 ^ 30) (q : ∀ μ' : jS, μ'.2 = μ.2 → μ'.1 r = .inr (1, [.ref rn, .ref rt, .int (nI N)]) → (∀ k, k ≠ r → μ'.1 k = μ.1 k) → Q (.inl none) μ') : jX G jP 3 0 (lv_args 0 [.ref r, .int (nI N)]) [] μ Q := by
  have l0 : jld (lv_args 0 [.ref r, .int (nI N)]) 0 = some (.ref r) := by rfl
  have l1 : jld (lv_args 0 [.ref r, .int (nI N)]) 1 = some (.int (nI N)) := by rfl
  generalize lv_args 0 [.ref r, .int (nI N)] = lv at *
  refine jX.lrn l0 (by rfl) (by rfl) ?_
  refine jX.lin l1 (by rfl) (by rfl) ?_
  refine jX.lrn l0 (by rfl) (by rfl) ?_
  refine jX.gf (by rfl) (by rfl) (by rfl) h1 (by rfl) ?_
  refine jX.alen (by rfl) (by rfl) h2 ?_
  refine jX.geN (t := 14) (b := N) (by rfl) (by rfl) (by rfl) (by omega) (by omega) (fun _ => ?_) (fun z => by omega)
  refine jX.lrn l0 (by rfl) (by rfl) ?_
  refine jX.gf (by rfl) (by rfl) (by rfl) h1 (by rfl) ?_
  refine jX.alen (by rfl) (by rfl) h2 ?_
  refine jX.pfs (fs' := [.ref rn, .ref rt, .int (nI N)]) (by rfl) (by rfl) (by rfl) h1 (by rfl) (by rfl) (by rfl) (by rfl) ?_
  have n1 : rn ≠ r := fun e => by rw [e, h1] at h2; cases h2
  have n2 : rt ≠ r := fun e => by rw [e, h1] at h3; cases h3
  refine jX.ic (v := nI 0) (n := 1) (by rfl) (by rfl) (by decide) ?_
  refine jX.s1 (k := 2) (pc' := 24) (by rfl) (by rfl) (by rfl) (fun lv' l2 kp => ?_)
  exact z_3l jw_self ((jw_ne n1).trans h2) ((jw_ne n2).trans h3) hN (q _ rfl jw_self (fun k h => jw_ne h)) N 0 (by omega) lv' (kp 0 _ l0 (by rfl) (by rfl)) l2
/-- a new strand, renewed -/
theorem z_4 {G : jG} {Q : Option Value ⊕ Nat → jS → Prop} {μ : jS} {a : Nat} {p v f : Value} (h : μ.1 a = .inr (2, [p, v, f, .int 0, .int 0, .int 0, .int 0, .long 0])) (q : Q (.inl none) μ) : jX G jP 4 0 (lv_args 0 [.ref a, .int 0]) [] μ Q := by
  have l0 : jld (lv_args 0 [.ref a, .int 0]) 0 = some (.ref a) := by rfl
  have l1 : jld (lv_args 0 [.ref a, .int 0]) 1 = some (.int 0) := by rfl
  generalize lv_args 0 [.ref a, .int 0] = lv at *
  refine jX.lrn l0 (by rfl) (by rfl) ?_
  refine jX.ic (v := 0) (n := 1) (by rfl) (by rfl) (by decide) ?_
  refine jX.pfs (fs' := [p, v, f, .int 0, .int 0, .int 0, .int 0, .long 0]) (by rfl) (by rfl) (by rfl) h (by rfl) (by rfl) (by rfl) (by rfl) ?_
  rw [jw_same h]
  refine jX.lrn l0 (by rfl) (by rfl) ?_
  refine jX.lin l1 (by rfl) (by rfl) ?_
  refine jX.pfs (fs' := [p, v, f, .int 0, .int 0, .int 0, .int 0, .long 0]) (by rfl) (by rfl) (by rfl) h (by rfl) (by rfl) (by rfl) (by rfl) ?_
  rw [jw_same h]
  refine jX.lrn l0 (by rfl) (by rfl) ?_
  refine jX.go (pc' := 12) (st' := [.long 0, .ref a]) (by rfl) (by rfl) (by rfl) ?_
  refine jX.pfs (fs' := [p, v, f, .int 0, .int 0, .int 0, .int 0, .long 0]) (by rfl) (by rfl) (by rfl) h (by rfl) (by rfl) (by rfl) (by rfl) ?_
  rw [jw_same h]
  exact jX.ret (by rfl) (by rfl) (by rfl) (by rfl) q
/-- the first n of so many strands -/
def cSt (n : Nat) : Nat → Option Nat := fun q => bif Nat.blt q n then some (14 + 2 * q) else none
theorem cSt_up (n : Nat) : va_up (cSt n) n (some (14 + 2 * n)) = cSt (n + 1) := by
  funext k
  unfold va_up cSt
  by_cases hk : k = n
  · rw [if_pos hk, hk, show Nat.blt n (n + 1) = true from Nat.ble_eq_true_of_le (Nat.lt_succ_self n), cond_true]
  · rw [if_neg hk]
    cases e : Nat.blt k n with
    | true =>
      have := Nat.le_of_ble_eq_true e
      rw [show Nat.blt k (n + 1) = true from Nat.ble_eq_true_of_le (by omega)]
    | false =>
      cases e2 : Nat.blt k (n + 1) with
      | true =>
        have h2 : k < n + 1 := Nat.le_of_ble_eq_true e2
        rw [show Nat.blt k n = true from Nat.ble_eq_true_of_le (by omega)] at e
        cases e
      | false => rfl
theorem cSt_at {n k : Nat} (h : k < n) : cSt n k = some (14 + 2 * k) := by
  unfold cSt
  rw [show Nat.blt k n = true from Nat.ble_eq_true_of_le h, cond_true]
def cSo (s : Nat) : va_E := .inr (2, [.ref 1, .int (nI s), .ref (15 + 2 * s), .int 0, .int 0, .int 0, .int 0, .long 0])
def cSf : va_E := .inl (12, 30, .inr (.inr (.inr (.inr fun _ => none))))
/-- the world's reset, at first -/
theorem z_5l {G : jG} {Q : Option Value ⊕ Nat → jS → Prop} {μ : jS} {x : Value} (h8 : μ.1 8 = .inr (3, [x, .ref 12, .ref 13, .int 0, .int 0, .int 0, .int 0, .int 0, .int 0])) (h12 : μ.1 12 = .inl (4, 16, .inr (.inr (.inr (.inr (cSt 16)))))) (hs : ∀ s, s < 16 → μ.1 (14 + 2 * s) = cSo s) (q : ∀ μ' : jS, μ'.2 = μ.2 → μ'.1 8 = .inr (3, [x, .ref 12, .ref 13, .int 0, .int 0, .int (-1), .int 0, .int 0, .int 0]) → (∀ k, k ≠ 8 → μ'.1 k = μ.1 k) → Q (.inl none) μ') : ∀ d i, i + d = 16 → ∀ lv, jld lv 0 = some (.ref 8) → jld lv 1 = some (.int (nI i)) → jX G jP 5 11 lv [] μ Q := by
  intro d
  induction d with
  | zero =>
    intro i hi lv l0 l1
    refine jX.lin l1 (by rfl) (by rfl) ?_
    refine jX.ic (v := nI 16) (n := 2) (by rfl) (by rfl) (by decide) ?_
    refine jX.geN (t := 33) (by rfl) (by rfl) (by rfl) (by omega) (by omega) (fun _ => ?_) (fun z => by omega)
    refine jX.pfi (x := 0) (l := 1) (pc1 := 35) l0 h8 (by rfl) (by rfl) (by rfl) (by rfl) (by decide) (by rfl) (by rfl) (by rfl) (by rfl) (by rfl) (by rfl) (fun μ1 n1 a1 k1 => ?_)
    refine jX.pfi (x := 0) (l := 1) (pc1 := 40) l0 a1 (by rfl) (by rfl) (by rfl) (by rfl) (by decide) (by rfl) (by rfl) (by rfl) (by rfl) (by rfl) (by rfl) (fun μ2 n2 a2 k2 => ?_)
    refine jX.pfi (x := -1) (l := 1) (pc1 := 45) l0 a2 (by rfl) (by rfl) (by rfl) (by rfl) (by decide) (by rfl) (by rfl) (by rfl) (by rfl) (by rfl) (by rfl) (fun μ3 n3 a3 k3 => ?_)
    refine jX.pfi (x := 0) (l := 1) (pc1 := 50) l0 a3 (by rfl) (by rfl) (by rfl) (by rfl) (by decide) (by rfl) (by rfl) (by rfl) (by rfl) (by rfl) (by rfl) (fun μ4 n4 a4 k4 => ?_)
    refine jX.pfi (x := 0) (l := 1) (pc1 := 55) l0 a4 (by rfl) (by rfl) (by rfl) (by rfl) (by decide) (by rfl) (by rfl) (by rfl) (by rfl) (by rfl) (by rfl) (fun μ5 n5 a5 k5 => ?_)
    refine jX.pfi (x := 0) (l := 1) (pc1 := 60) l0 a5 (by rfl) (by rfl) (by rfl) (by rfl) (by decide) (by rfl) (by rfl) (by rfl) (by rfl) (by rfl) (by rfl) (fun μ6 n6 a6 k6 => ?_)
    exact jX.ret (by rfl) (by rfl) (by rfl) (by rfl) (q _ (n6.trans (n5.trans (n4.trans (n3.trans (n2.trans n1))))) a6 (fun k h => (k6 k h).trans ((k5 k h).trans ((k4 k h).trans ((k3 k h).trans ((k2 k h).trans (k1 k h)))))))
  | succ d ih =>
    intro i hi lv l0 l1
    refine jX.lin l1 (by rfl) (by rfl) ?_
    refine jX.ic (v := nI 16) (n := 2) (by rfl) (by rfl) (by decide) ?_
    refine jX.geN (t := 33) (by rfl) (by rfl) (by rfl) (by omega) (by omega) (fun z => by omega) (fun _ => ?_)
    refine jX.lrn l0 (by rfl) (by rfl) ?_
    refine jX.gf (by rfl) (by rfl) (by rfl) h8 (by rfl) ?_
    refine jX.lin l1 (by rfl) (by rfl) ?_
    refine jX.aaldN (by rfl) (by rfl) h12 (by decide) (by omega) ?_
    rw [cSt_at (by omega : i < 16)]
    refine jX.ic (v := 0) (n := 1) (by rfl) (by rfl) (by decide) ?_
    refine jX.cv (y := 4) (as := [.ref (14 + 2 * i), .int 0]) (rest := []) (by rfl) (by rfl) (by rfl) (by rfl) (by rfl) (by rfl) (by rfl) (by unfold jrec; simp only [hs i (by omega), cSo]; rfl) (Nat.le_of_ble_eq_true rfl) (Nat.le_of_ble_eq_true rfl) ?_
    refine z_4 (hs i (by omega)) ⟨rfl, ?_⟩
    refine jX.inc l1 (by rfl) (by rfl) (by rfl) (fun lv' l1' kp => ?_)
    refine jX.go (pc' := 11) (by rfl) (by rfl) (by rfl) ?_
    have e : nI i + Int32.ofInt 1 = nI (i + 1) := nI_1 i
    rw [e] at l1'
    exact ih (i + 1) (by omega) lv' (kp 0 _ l0 (by rfl) (by rfl)) l1'
theorem z_5 {G : jG} {Q : Option Value ⊕ Nat → jS → Prop} {μ : jS} (h8 : μ.1 8 = .inr (3, [.ref 9, .ref 12, .ref 13, .int 0, .int 0, .int 0, .int 0, .int 0, .int 0])) (h9 : μ.1 9 = .inr (1, [.ref 10, .ref 11, .int 0])) (h10 : μ.1 10 = .inl (1, 16, .inr (.inl fun _ => 0))) (h11 : μ.1 11 = .inl (0, 16, .inl fun _ => 0)) (h12 : μ.1 12 = .inl (4, 16, .inr (.inr (.inr (.inr (cSt 16)))))) (hs : ∀ s, s < 16 → μ.1 (14 + 2 * s) = cSo s) (q : ∀ μ' : jS, μ'.2 = μ.2 → μ'.1 8 = .inr (3, [.ref 9, .ref 12, .ref 13, .int 0, .int 0, .int (-1), .int 0, .int 0, .int 0]) → μ'.1 9 = .inr (1, [.ref 10, .ref 11, .int (nI 16)]) → (∀ k, k ≠ 8 → k ≠ 9 → μ'.1 k = μ.1 k) → Q (.inl none) μ') : jX G jP 5 0 (lv_args 0 [.ref 8]) [] μ Q := by
  have l0 : jld (lv_args 0 [.ref 8]) 0 = some (.ref 8) := by rfl
  generalize lv_args 0 [Value.ref 8] = lv at *
  refine jX.lrn l0 (by rfl) (by rfl) ?_
  refine jX.gf (by rfl) (by rfl) (by rfl) h8 (by rfl) ?_
  refine jX.ic (v := nI 16) (n := 2) (by rfl) (by rfl) (by decide) ?_
  refine jX.cv (y := 3) (as := [.ref 9, .int (nI 16)]) (rest := []) (by rfl) (by rfl) (by rfl) (by rfl) (by rfl) (by rfl) (by rfl) (by unfold jrec; simp only [h9]; rfl) (Nat.le_of_ble_eq_true rfl) (Nat.le_of_ble_eq_true rfl) ?_
  refine z_3 h9 h10 h11 (by decide) (fun μ1 n1 a1 k1 => ⟨rfl, ?_⟩)
  refine jX.ic (v := nI 0) (n := 1) (by rfl) (by rfl) (by decide) ?_
  refine jX.s1 (k := 1) (pc' := 11) (by rfl) (by rfl) (by rfl) (fun lv' l1 kp => ?_)
  refine z_5l (x := .ref 9) ((k1 8 (by decide)).trans h8) ((k1 12 (by decide)).trans h12) (fun s h => (k1 _ (by omega)).trans (hs s h)) (fun μ2 n2 a2 k2 => q μ2 (n2.trans n1) a2 ((k2 9 (by decide)).trans a1) (fun k h1 h2 => (k2 k h1).trans (k1 k h2))) 16 0 (by omega) lv' (kp 0 _ l0 (by rfl) (by rfl)) l1
