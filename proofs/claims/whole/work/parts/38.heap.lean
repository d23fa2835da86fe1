/-! The heap is made. -/
theorem z_8l {G : jG} {Q : Option Value ⊕ Nat → jS → Prop} {μ : jS} {a N : Nat} (h : μ.1 a = .inl (0, N, .inl fun _ => 0)) (hN : N < 2 ^ 30) (q : Q (.inl none) μ) : ∀ d i, i + d = N → ∀ lv, jld lv 0 = some (.ref a) → jld lv 1 = some (.int 0) → jld lv 2 = some (.int (nI i)) → jld lv 3 = some (.int (nI N)) → jX G jP 8 5 lv [] μ Q := by
  intro d
  induction d with
  | zero =>
    intro i hi lv l0 l1 l2 l3
    refine jX.lin l2 (by rfl) (by rfl) ?_
    refine jX.lin l3 (by rfl) (by rfl) ?_
    refine jX.geN (t := 20) (by rfl) (by rfl) (by rfl) (by omega) (by omega) (fun _ => ?_) (fun z => by omega)
    exact jX.ret (by rfl) (by rfl) (by rfl) (by rfl) q
  | succ d ih =>
    intro i hi lv l0 l1 l2 l3
    refine jX.lin l2 (by rfl) (by rfl) ?_
    refine jX.lin l3 (by rfl) (by rfl) ?_
    refine jX.geN (t := 20) (by rfl) (by rfl) (by rfl) (by omega) (by omega) (fun z => by omega) (fun _ => ?_)
    refine jX.lrn l0 (by rfl) (by rfl) ?_
    refine jX.lin l2 (by rfl) (by rfl) ?_
    refine jX.lin l1 (by rfl) (by rfl) ?_
    refine jX.iastN (by rfl) (by rfl) h (by omega) (by omega) ?_
    rw [upd_same, jw_same h]
    refine jX.inc l2 (by rfl) (by rfl) (by rfl) (fun lv' l2' kp => ?_)
    refine jX.go (pc' := 5) (by rfl) (by rfl) (by rfl) ?_
    have e : nI i + Int32.ofInt 1 = nI (i + 1) := nI_1 i
    rw [e] at l2'
    exact ih (i + 1) (by omega) lv' (kp 0 _ l0 (by rfl) (by rfl)) (kp 1 _ l1 (by rfl) (by rfl)) l2' (kp 3 _ l3 (by rfl) (by rfl))
theorem z_8 {G : jG} {Q : Option Value ⊕ Nat → jS → Prop} {μ : jS} {a N : Nat} (h : μ.1 a = .inl (0, N, .inl fun _ => 0)) (hN : N < 2 ^ 30) (q : Q (.inl none) μ) : jX G jP 8 0 (lv_args 0 [.ref a, .int 0]) [] μ Q := by
  have l0 : jld (lv_args 0 [.ref a, .int 0]) 0 = some (.ref a) := by rfl
  have l1 : jld (lv_args 0 [.ref a, .int 0]) 1 = some (.int 0) := by rfl
  generalize lv_args 0 [.ref a, .int 0] = lv at *
  refine jX.ic (v := nI 0) (n := 1) (by rfl) (by rfl) (by decide) ?_
  refine jX.s1 (k := 2) (pc' := 2) (by rfl) (by rfl) (by rfl) (fun lv' l2 kp => ?_)
  replace l0 := kp 0 _ l0 (by rfl) (by rfl)
  replace l1 := kp 1 _ l1 (by rfl) (by rfl)
  refine jX.lrn l0 (by rfl) (by rfl) ?_
  refine jX.alen (by rfl) (by rfl) h ?_
  refine jX.s1 (k := 3) (pc' := 5) (by rfl) (by rfl) (by rfl) (fun lv' l3 kp => ?_)
  exact z_8l h hN q N 0 (by omega) lv' (kp 0 _ l0 (by rfl) (by rfl)) (kp 1 _ l1 (by rfl) (by rfl)) (kp 2 _ l2 (by rfl) (by rfl)) l3
theorem z_9 {G : jG} {Q : Option Value ⊕ Nat → jS → Prop} {μ : jS} {a b c : Nat} (h : μ.1 a = .inr (4, [.ref b, .ref c, .int 0, .int 0, .int 0])) (hb : μ.1 b = .inl (0, 600, .inl fun _ => 0)) (q : Q (.inl none) μ) : jX G jP 9 0 (lv_args 0 [.ref a]) [] μ Q := by
  have l0 : jld (lv_args 0 [.ref a]) 0 = some (.ref a) := by rfl
  generalize lv_args 0 [Value.ref a] = lv at *
  refine jX.lrn l0 (by rfl) (by rfl) ?_
  refine jX.gf (by rfl) (by rfl) (by rfl) h (by rfl) ?_
  refine jX.ic (v := 0) (n := 1) (by rfl) (by rfl) (by decide) ?_
  refine jX.cv (y := 8) (as := [.ref b, .int 0]) (rest := []) (by rfl) (by rfl) (by rfl) (by rfl) (by rfl) (by rfl) (by rfl) (by rfl) (Nat.le_of_ble_eq_true rfl) (Nat.le_of_ble_eq_true rfl) ?_
  refine z_8 hb (by decide) ⟨rfl, ?_⟩
  refine jX.lrn l0 (by rfl) (by rfl) ?_
  refine jX.ic (v := 0) (n := 1) (by rfl) (by rfl) (by decide) ?_
  refine jX.pfs (fs' := [.ref b, .ref c, .int 0, .int 0, .int 0]) (by rfl) (by rfl) (by rfl) h (by rfl) (by rfl) (by rfl) (by rfl) ?_
  rw [jw_same h]
  refine jX.lrn l0 (by rfl) (by rfl) ?_
  refine jX.ic (v := 0) (n := 1) (by rfl) (by rfl) (by decide) ?_
  refine jX.pfs (fs' := [.ref b, .ref c, .int 0, .int 0, .int 0]) (by rfl) (by rfl) (by rfl) h (by rfl) (by rfl) (by rfl) (by rfl) ?_
  rw [jw_same h]
  refine jX.lrn l0 (by rfl) (by rfl) ?_
  refine jX.ic (v := 0) (n := 1) (by rfl) (by rfl) (by decide) ?_
  refine jX.pfs (fs' := [.ref b, .ref c, .int 0, .int 0, .int 0]) (by rfl) (by rfl) (by rfl) h (by rfl) (by rfl) (by rfl) (by rfl) ?_
  rw [jw_same h]
  exact jX.ret (by rfl) (by rfl) (by rfl) (by rfl) q
def cFr (n : Nat) : Nat → Int32 := fun q => bif Nat.blt q n then nI 599 - nI q else 0
theorem cFr_up (n : Nat) : upd (cFr n) n (nI 599 - nI n) = cFr (n + 1) := by
  funext k
  unfold upd cFr
  by_cases hk : k = n
  · rw [if_pos hk, hk, show Nat.blt n (n + 1) = true from Nat.ble_eq_true_of_le (Nat.lt_succ_self n), cond_true]
  · rw [if_neg hk]
    cases e : Nat.blt k n with
    | true =>
      have := Nat.le_of_ble_eq_true e
      rw [show Nat.blt k (n + 1) = true from Nat.ble_eq_true_of_le (by omega)]
    | false =>
      cases e2 : Nat.blt k (n + 1) with
      | true =>
        have h2 : k < n + 1 := Nat.le_of_ble_eq_true e2
        rw [show Nat.blt k n = true from Nat.ble_eq_true_of_le (by omega)] at e
        cases e
      | false => rfl
/-- the heap's object: with so many free places -/
def cHp (x : Int32) : va_E := .inr (5, [.ref 8, .ref 47, .ref 48, .ref 49, .ref 52, .ref 55, .ref 58, .int x, .int 0, .int 0, .int 0, .int 0, .int 0, .int 0])
theorem z_10 {G : jG} {Q : Option Value ⊕ Nat → jS → Prop} {μ : jS} {x : Int32} {b c : Nat} (h : μ.1 46 = cHp x) (h49 : μ.1 49 = .inr (4, [.ref b, .ref c, .int 0, .int 0, .int 0])) (hb : μ.1 b = .inl (0, 600, .inl fun _ => 0)) (q : Q (.inl none) μ) : jX G jP 10 0 (lv_args 0 [.ref 46]) [] μ Q := by
  have l0 : jld (lv_args 0 [.ref 46]) 0 = some (.ref 46) := by rfl
  generalize lv_args 0 [Value.ref 46] = lv at *
  have h' : μ.1 46 = .inr (5, [.ref 8, .ref 47, .ref 48, .ref 49, .ref 52, .ref 55, .ref 58, .int x, .int 0, .int 0, .int 0, .int 0, .int 0, .int 0]) := h
  refine jX.lrn l0 (by rfl) (by rfl) ?_
  refine jX.ic (v := 0) (n := 1) (by rfl) (by rfl) (by decide) ?_
  refine jX.pfs (fs' := [.ref 8, .ref 47, .ref 48, .ref 49, .ref 52, .ref 55, .ref 58, .int x, .int 0, .int 0, .int 0, .int 0, .int 0, .int 0]) (by rfl) (by rfl) (by rfl) h' (by rfl) (by rfl) (by rfl) (by rfl) ?_
  rw [jw_same h']
  refine jX.lrn l0 (by rfl) (by rfl) ?_
  refine jX.ic (v := 0) (n := 1) (by rfl) (by rfl) (by decide) ?_
  refine jX.pfs (fs' := [.ref 8, .ref 47, .ref 48, .ref 49, .ref 52, .ref 55, .ref 58, .int x, .int 0, .int 0, .int 0, .int 0, .int 0, .int 0]) (by rfl) (by rfl) (by rfl) h' (by rfl) (by rfl) (by rfl) (by rfl) ?_
  rw [jw_same h']
  refine jX.lrn l0 (by rfl) (by rfl) ?_
  refine jX.gf (by rfl) (by rfl) (by rfl) h' (by rfl) ?_
  refine jX.cv (y := 9) (as := [.ref 49]) (rest := []) (by rfl) (by rfl) (by rfl) (by rfl) (by rfl) (by rfl) (by rfl) (by unfold jrec; simp only [h49]; rfl) (Nat.le_of_ble_eq_true rfl) (Nat.le_of_ble_eq_true rfl) ?_
  exact z_9 h49 hb ⟨rfl, jX.ret (by rfl) (by rfl) (by rfl) (by rfl) q⟩
theorem z_11l {G : jG} {Q : Option Value ⊕ Nat → jS → Prop} {μ0 : jS} (h46 : μ0.1 46 = cHp 0) (h47 : μ0.1 47 = .inl (13, 600, .inr (.inr (.inr (.inr fun _ => none))))) (q : ∀ (lv : jL) (μ : jS), jld lv 0 = some (.ref 46) → μ.2 = μ0.2 → μ.1 48 = .inl (0, 600, .inl (cFr 600)) → (∀ k, k ≠ 48 → μ.1 k = μ0.1 k) → jX G jP 11 42 lv [] μ Q) : ∀ d i, i + d = 600 → ∀ (lv : jL) (μ : jS), jld lv 0 = some (.ref 46) → jld lv 1 = some (.int (nI i)) → μ.2 = μ0.2 → μ.1 48 = .inl (0, 600, .inl (cFr i)) → (∀ k, k ≠ 48 → μ.1 k = μ0.1 k) → jX G jP 11 2 lv [] μ Q := by
  intro d
  induction d with
  | zero =>
    intro i hi lv μ l0 l1 hn h48 hk
    obtain rfl : i = 600 := by omega
    refine jX.lin l1 (by rfl) (by rfl) ?_
    refine jX.ic (v := nI 600) (n := 3) (by rfl) (by rfl) (by decide) ?_
    refine jX.geN (t := 42) (by rfl) (by rfl) (by rfl) (by omega) (by omega) (fun _ => ?_) (fun z => by omega)
    exact q lv μ l0 hn h48 hk
  | succ d ih =>
    intro i hi lv μ l0 l1 hn h48 hk
    refine jX.lin l1 (by rfl) (by rfl) ?_
    refine jX.ic (v := nI 600) (n := 3) (by rfl) (by rfl) (by decide) ?_
    refine jX.geN (t := 42) (by rfl) (by rfl) (by rfl) (by omega) (by omega) (fun z => by omega) (fun _ => ?_)
    have h46' : μ.1 46 = .inr (5, [.ref 8, .ref 47, .ref 48, .ref 49, .ref 52, .ref 55, .ref 58, .int 0, .int 0, .int 0, .int 0, .int 0, .int 0, .int 0]) := (hk 46 (by decide)).trans h46
    refine jX.lrn l0 (by rfl) (by rfl) ?_
    refine jX.gf (by rfl) (by rfl) (by rfl) h46' (by rfl) ?_
    refine jX.lin l1 (by rfl) (by rfl) ?_
    refine jX.aaldN (by rfl) (by rfl) ((hk 47 (by decide)).trans h47) (by decide) (by omega) ?_
    refine jX.s1 (k := 2) (pc' := 16) (v := .null) (by rfl) (by rfl) (by rfl) (fun lv l2 kp => ?_)
    replace l0 := kp 0 _ l0 (by rfl) (by rfl)
    replace l1 := kp 1 _ l1 (by rfl) (by rfl)
    refine jX.lnn l2 (by rfl) (by rfl) ?_
    refine jX.go (pc' := 25) (by rfl) (by rfl) (by rfl) ?_
    refine jX.lrn l0 (by rfl) (by rfl) ?_
    refine jX.gf (by rfl) (by rfl) (by rfl) h46' (by rfl) ?_
    refine jX.lin l1 (by rfl) (by rfl) ?_
    refine jX.ic (v := nI 599) (n := 3) (by rfl) (by rfl) (by decide) ?_
    refine jX.lin l1 (by rfl) (by rfl) ?_
    refine jX.go (pc' := 35) (by rfl) (by rfl) (by rfl) ?_
    refine jX.iastN (by rfl) (by rfl) h48 (by decide) (by omega) ?_
    rw [cFr_up]
    refine jX.inc l1 (by rfl) (by rfl) (by rfl) (fun lv' l1' kp => ?_)
    refine jX.go (pc' := 2) (by rfl) (by rfl) (by rfl) ?_
    have e : nI i + Int32.ofInt 1 = nI (i + 1) := nI_1 i
    rw [e] at l1'
    exact ih (i + 1) (by omega) lv' _ (kp 0 _ l0 (by rfl) (by rfl)) l1' hn jw_self (fun k h => (jw_ne h).trans (hk k h))
theorem z_11 {G : jG} {Q : Option Value ⊕ Nat → jS → Prop} {μ : jS} (h46 : μ.1 46 = cHp 0) (h47 : μ.1 47 = .inl (13, 600, .inr (.inr (.inr (.inr fun _ => none))))) (h48 : μ.1 48 = .inl (0, 600, .inl fun _ => 0)) (h49 : μ.1 49 = .inr (4, [.ref 50, .ref 51, .int 0, .int 0, .int 0])) (h50 : μ.1 50 = .inl (0, 600, .inl fun _ => 0)) (q : ∀ μ' : jS, μ'.2 = μ.2 → μ'.1 46 = cHp (nI 600) → μ'.1 48 = .inl (0, 600, .inl (cFr 600)) → (∀ k, k ≠ 46 → k ≠ 48 → μ'.1 k = μ.1 k) → Q (.inl none) μ') : jX G jP 11 0 (lv_args 0 [.ref 46]) [] μ Q := by
  have l0 : jld (lv_args 0 [.ref 46]) 0 = some (.ref 46) := by rfl
  generalize lv_args 0 [Value.ref 46] = lv at *
  refine jX.ic (v := nI 0) (n := 1) (by rfl) (by rfl) (by decide) ?_
  refine jX.s1 (k := 1) (pc' := 2) (by rfl) (by rfl) (by rfl) (fun lv' l1 kp => ?_)
  refine z_11l (μ0 := μ) h46 h47 (fun lv μ1 l0 n1 a1 k1 => ?_) 600 0 (by omega) lv' μ (kp 0 _ l0 (by rfl) (by rfl)) l1 rfl h48 (fun _ _ => rfl)
  have h46' : μ1.1 46 = .inr (5, [.ref 8, .ref 47, .ref 48, .ref 49, .ref 52, .ref 55, .ref 58, .int 0, .int 0, .int 0, .int 0, .int 0, .int 0, .int 0]) := (k1 46 (by decide)).trans h46
  refine jX.pfi (x := nI 600) (l := 3) (pc1 := 46) l0 h46' (by rfl) (by rfl) (by rfl) (by rfl) (by decide) (by rfl) (by rfl) (by rfl) (by rfl) (by rfl) (by rfl) (fun μ2 n2 a2 k2 => ?_)
  refine jX.pfi (x := 0) (l := 1) (pc1 := 51) l0 a2 (by rfl) (by rfl) (by rfl) (by rfl) (by decide) (by rfl) (by rfl) (by rfl) (by rfl) (by rfl) (by rfl) (fun μ3 n3 a3 k3 => ?_)
  refine jX.pfi (x := 0) (l := 1) (pc1 := 56) l0 a3 (by rfl) (by rfl) (by rfl) (by rfl) (by decide) (by rfl) (by rfl) (by rfl) (by rfl) (by rfl) (by rfl) (fun μ4 n4 a4 k4 => ?_)
  refine jX.pfi (x := 0) (l := 1) (pc1 := 61) l0 a4 (by rfl) (by rfl) (by rfl) (by rfl) (by decide) (by rfl) (by rfl) (by rfl) (by rfl) (by rfl) (by rfl) (fun μ5 n5 a5 k5 => ?_)
  have a5' : μ5.1 46 = cHp (nI 600) := a5
  have w : ∀ k, k ≠ 46 → μ5.1 k = μ1.1 k := fun k h => (k5 k h).trans ((k4 k h).trans ((k3 k h).trans (k2 k h)))
  refine jX.lrn l0 (by rfl) (by rfl) ?_
  refine jX.cv (y := 10) (as := [.ref 46]) (rest := []) (by rfl) (by rfl) (by rfl) (by rfl) (by rfl) (by rfl) (by rfl) (by unfold jrec; simp only [a5', cHp]; rfl) (Nat.le_of_ble_eq_true rfl) (Nat.le_of_ble_eq_true rfl) ?_
  refine z_10 a5' ((w 49 (by decide)).trans ((k1 49 (by decide)).trans h49)) ((w 50 (by decide)).trans ((k1 50 (by decide)).trans h50)) ⟨rfl, ?_⟩
  exact jX.ret (by rfl) (by rfl) (by rfl) (by rfl) (q μ5 (n5.trans (n4.trans (n3.trans (n2.trans n1)))) a5' ((w 48 (by decide)).trans a1) (fun k h1 h2 => (w k h1).trans (k1 k h2)))
/-- 'new Tracer()' in a body -/
theorem jX.ntr {G : jG} {Q : Option Value ⊕ Nat → jS → Prop} {μ : jS} {j pc k k2 n c z : Nat} {lv : jL} {st : List Value} (hn : μ.2 = (n, c, z)) (h0 : jP.2.1 j pc = none) (h1 : jP.1 j pc = some (.new k)) (hB : (jP.2.2.2.2.1 j).2.1 k = some (4, [.null, .null, .int 0, .int 0, .int 0])) (h2 : jP.2.1 j (pc + 3) = none) (h3 : jP.1 j (pc + 3) = some .dup) (h7 : jP.2.1 j (pc + 3 + 1) = none) (h8 : jP.1 j (pc + 3 + 1) = some (.invokespecial k2)) (h9 : jP.2.2.2.1 j k2 = some (9, 1, some 4)) (hs : ((Value.ref n :: st).map fun v => v.category).sum ≤ 8)
    (K : ∀ μ' : jS, μ'.2 = (n + 3, c + 3, z + 5 + 600 + 600) → μ'.1 n = .inr (4, [.ref (n + 1), .ref (n + 2), .int 0, .int 0, .int 0]) → μ'.1 (n + 1) = .inl (0, 600, .inl fun _ => 0) → μ'.1 (n + 2) = .inl (0, 600, .inl fun _ => 0) → (∀ q, q < n → μ'.1 q = μ.1 q) → jX G jP j (pc + 3 + 1 + 3) lv (.ref n :: st) μ' Q) : jX G jP j pc lv st μ Q := by
  obtain ⟨f, n', c', z'⟩ := μ
  cases hn
  refine jX.newo h0 h1 hB ?_
  refine jX.go (pc' := pc + 3 + 1) h2 h3 (by rfl) ?_
  refine jX.cv (y := 7) h7 h8 (by rfl) (by rfl) (by rfl) h9 (by rfl) (jrec_new _ _ _) hs (Nat.le_of_ble_eq_true rfl) ?_
  refine n_7 (c := c + 1) (z := z + 5) jnew_self (by rfl) (fun μ' q1 q2 q3 q4 q5 => ⟨rfl, K μ' q1 q2 q3 q4 fun q hq => (q5 q hq).trans (jnew_ne (Nat.ne_of_lt hq))⟩)
theorem n_12 {G : jG} {Q : Option Value ⊕ Nat → jS → Prop} {μ : jS} {c z : Nat} (ha : μ.1 46 = .inr (5, [.null, .null, .null, .null, .null, .null, .null, .int 0, .int 0, .int 0, .int 0, .int 0, .int 0, .int 0])) (hl : μ.2 = (47, c, z)) (q : ∀ μ' : jS, μ'.2 = (59, c + 12, z + 600 + 600 + 5 + 600 + 600 + 5 + 600 + 600 + 5 + 600 + 600 + 600) → μ'.1 46 = cHp (nI 600) → μ'.1 47 = .inl (13, 600, .inr (.inr (.inr (.inr fun _ => none)))) → μ'.1 48 = .inl (0, 600, .inl (cFr 600)) → (∀ t, t < 3 → μ'.1 (49 + 3 * t) = .inr (4, [.ref (50 + 3 * t), .ref (51 + 3 * t), .int 0, .int 0, .int 0]) ∧ μ'.1 (50 + 3 * t) = .inl (0, 600, .inl fun _ => 0) ∧ μ'.1 (51 + 3 * t) = .inl (0, 600, .inl fun _ => 0)) → μ'.1 58 = .inl (0, 600, .inl fun _ => 0) → (∀ k, k < 46 → μ'.1 k = μ.1 k) → Q (.inl none) μ') : jX G jP 12 0 (lv_args 0 [.ref 46, .ref 8]) [] μ Q := by
  have l0 : jld (lv_args 0 [.ref 46, .ref 8]) 0 = some (.ref 46) := by rfl
  have l1 : jld (lv_args 0 [.ref 46, .ref 8]) 1 = some (.ref 8) := by rfl
  generalize lv_args 0 [Value.ref 46, Value.ref 8] = lv at *
  refine jX.cobj (rc := none) l0 (by rfl) (by rfl) (by rfl) (by rfl) (by rfl) ?_
  refine jX.arO 600 13 (l := 3) (pc1 := 8) l0 hl (by omega) ha (by decide) (by rfl) (by rfl) (by rfl) (by rfl) (by decide) (by rfl) (by rfl) (by rfl) (by rfl) (by rfl) (by rfl) (by rfl) (by rfl) (by rfl) (fun μ1 n1 a1 f1 k1 => ?_)
  refine jX.arI 600 (l := 3) (pc1 := 18) l0 n1 (by omega) a1 (by decide) (by rfl) (by rfl) (by rfl) (by rfl) (by decide) (by rfl) (by rfl) (by rfl) (by rfl) (by rfl) (by rfl) (by rfl) (by rfl) (fun μ2 n2 a2 f2 k2 => ?_)
  refine jX.lrn l0 (by rfl) (by rfl) ?_
  refine jX.ntr n2 (by rfl) (by rfl) (by rfl) (by rfl) (by rfl) (by rfl) (by rfl) (by rfl) (Nat.le_of_ble_eq_true rfl) (fun μ3 n3 t1 t2 t3 k3 => ?_)
  refine jX.pfs (by rfl) (by rfl) (by rfl) ((k3 46 (by omega)).trans a2) (by rfl) (by rfl) (by rfl) (by rfl) ?_
  refine jX.lrn l0 (by rfl) (by rfl) ?_
  refine jX.ntr (μ := jw μ3 46 _) n3 (by rfl) (by rfl) (by rfl) (by rfl) (by rfl) (by rfl) (by rfl) (by rfl) (Nat.le_of_ble_eq_true rfl) (fun μ4 n4 u1 u2 u3 k4 => ?_)
  refine jX.pfs (by rfl) (by rfl) (by rfl) ((k4 46 (by omega)).trans jw_self) (by rfl) (by rfl) (by rfl) (by rfl) ?_
  refine jX.lrn l0 (by rfl) (by rfl) ?_
  refine jX.ntr (μ := jw μ4 46 _) n4 (by rfl) (by rfl) (by rfl) (by rfl) (by rfl) (by rfl) (by rfl) (by rfl) (Nat.le_of_ble_eq_true rfl) (fun μ5 n5 v1 v2 v3 k5 => ?_)
  refine jX.pfs (by rfl) (by rfl) (by rfl) ((k5 46 (by omega)).trans jw_self) (by rfl) (by rfl) (by rfl) (by rfl) ?_
  refine jX.arI (μ := jw μ5 46 _) 600 (l := 3) (pc1 := 60) l0 n5 (by omega) jw_self (by decide) (by rfl) (by rfl) (by rfl) (by rfl) (by decide) (by rfl) (by rfl) (by rfl) (by rfl) (by rfl) (by rfl) (by rfl) (by rfl) (fun μ6 n6 a6 f6 k6 => ?_)
  refine jX.pfr (b := 1) l0 l1 a6 (by rfl) (by rfl) (by rfl) (by rfl) (by rfl) (by rfl) (by rfl) (by rfl) (by rfl) (fun μ7 n7 a7 k7 => ?_)
  have a7' : μ7.1 46 = cHp 0 := a7
  have w5 : ∀ k, k < 58 → k ≠ 46 → μ7.1 k = μ5.1 k := fun k h1 h2 => (k7 k h2).trans ((k6 k h1 h2).trans (jw_ne h2))
  have w4 : ∀ k, k < 55 → k ≠ 46 → μ7.1 k = μ4.1 k := fun k h1 h2 => (w5 k (by omega) h2).trans ((k5 k h1).trans (jw_ne h2))
  have w3 : ∀ k, k < 52 → k ≠ 46 → μ7.1 k = μ3.1 k := fun k h1 h2 => (w4 k (by omega) h2).trans ((k4 k h1).trans (jw_ne h2))
  have w2 : ∀ k, k < 49 → k ≠ 46 → μ7.1 k = μ2.1 k := fun k h1 h2 => (w3 k (by omega) h2).trans (k3 k h1)
  have w1 : ∀ k, k < 48 → k ≠ 46 → μ7.1 k = μ1.1 k := fun k h1 h2 => (w2 k (by omega) h2).trans (k2 k h1 h2)
  refine jX.lrn l0 (by rfl) (by rfl) ?_
  refine jX.cv (y := 11) (as := [.ref 46]) (rest := []) (by rfl) (by rfl) (by rfl) (by rfl) (by rfl) (by rfl) (by rfl) (by unfold jrec; simp only [a7', cHp]; rfl) (Nat.le_of_ble_eq_true rfl) (Nat.le_of_ble_eq_true rfl) ?_
  refine z_11 a7' ((w1 47 (by omega) (by omega)).trans f1) ((w2 48 (by omega) (by omega)).trans f2) ((w3 49 (by omega) (by omega)).trans t1) ((w3 50 (by omega) (by omega)).trans t2) (fun μ8 n8 a8 b8 k8 => ⟨rfl, ?_⟩)
  refine jX.ret (by rfl) (by rfl) (by rfl) (by rfl) (q μ8 (n8.trans (n7.trans n6)) a8 ?_ b8 (fun t ht => ?_) ?_ (fun k hk => ?_))
  · exact (k8 47 (by omega) (by omega)).trans ((w1 47 (by omega) (by omega)).trans f1)
  · rcases (show t = 0 ∨ t = 1 ∨ t = 2 by omega) with rfl | rfl | rfl
    · exact ⟨(k8 49 (by omega) (by omega)).trans ((w3 49 (by omega) (by omega)).trans t1), (k8 50 (by omega) (by omega)).trans ((w3 50 (by omega) (by omega)).trans t2), (k8 51 (by omega) (by omega)).trans ((w3 51 (by omega) (by omega)).trans t3)⟩
    · exact ⟨(k8 52 (by omega) (by omega)).trans ((w4 52 (by omega) (by omega)).trans u1), (k8 53 (by omega) (by omega)).trans ((w4 53 (by omega) (by omega)).trans u2), (k8 54 (by omega) (by omega)).trans ((w4 54 (by omega) (by omega)).trans u3)⟩
    · exact ⟨(k8 55 (by omega) (by omega)).trans ((w5 55 (by omega) (by omega)).trans v1), (k8 56 (by omega) (by omega)).trans ((w5 56 (by omega) (by omega)).trans v2), (k8 57 (by omega) (by omega)).trans ((w5 57 (by omega) (by omega)).trans v3)⟩
  · exact (k8 58 (by omega) (by omega)).trans ((k7 58 (by omega)).trans f6)
  · exact (k8 k (by omega) (by omega)).trans ((w1 k (by omega) (by omega)).trans (k1 k (by omega) (by omega)))
