/-! The class's object is made. -/
theorem n_15 {G : jG} {Q : Option Value ⊕ Nat → jS → Prop} {μ : jS} {c z : Nat} (ha : μ.1 63 = .inr (8, [.null, .null, .null, .null, .null, .int 0, .int 0, .int 0, .int 0, .int 0, .int 0])) (hl : μ.2 = (64, c, z)) (q : ∀ μ' : jS, μ'.2 = (66, c + 2, z + 2000 + 2) → μ'.1 63 = .inr (8, [.ref 1, .ref 8, .ref 46, .ref 65, .ref 64, .int 0, .int 0, .int 0, .int 0, .int (nI 10), .int (nI 5)]) → μ'.1 64 = .inl (1, 2000, .inr (.inl fun _ => 0)) → μ'.1 65 = .inr (7, [.ref 8, .ref 46]) → (∀ k, k < 63 → μ'.1 k = μ.1 k) → Q (.inl none) μ') : jX G jP 15 0 (lv_args 0 [.ref 63, .ref 1, .ref 8, .ref 46]) [] μ Q := by
  have l0 : jld (lv_args 0 [.ref 63, .ref 1, .ref 8, .ref 46]) 0 = some (.ref 63) := by rfl
  have l1 : jld (lv_args 0 [.ref 63, .ref 1, .ref 8, .ref 46]) 1 = some (.ref 1) := by rfl
  have l2 : jld (lv_args 0 [.ref 63, .ref 1, .ref 8, .ref 46]) 2 = some (.ref 8) := by rfl
  have l3 : jld (lv_args 0 [.ref 63, .ref 1, .ref 8, .ref 46]) 3 = some (.ref 46) := by rfl
  generalize lv_args 0 [Value.ref 63, Value.ref 1, Value.ref 8, Value.ref 46] = lv at *
  refine jX.cobj (rc := none) l0 (by rfl) (by rfl) (by rfl) (by rfl) (by rfl) ?_
  refine jX.arL 2000 (l := 3) (pc1 := 8) l0 hl (by omega) ha (by decide) (by rfl) (by rfl) (by rfl) (by rfl) (by decide) (by rfl) (by rfl) (by rfl) (by rfl) (by rfl) (by rfl) (by rfl) (by rfl) (fun μ1 n1 a1 f1 k1 => ?_)
  refine jX.pfi (x := nI 10) (l := 2) (pc1 := 16) l0 a1 (by rfl) (by rfl) (by rfl) (by rfl) (by decide) (by rfl) (by rfl) (by rfl) (by rfl) (by rfl) (by rfl) (fun μ2 n2 a2 k2 => ?_)
  refine jX.pfi (x := nI 5) (l := 1) (pc1 := 21) l0 a2 (by rfl) (by rfl) (by rfl) (by rfl) (by decide) (by rfl) (by rfl) (by rfl) (by rfl) (by rfl) (by rfl) (fun μ3 n3 a3 k3 => ?_)
  refine jX.pfr (b := 1) l0 l1 a3 (by rfl) (by rfl) (by rfl) (by rfl) (by rfl) (by rfl) (by rfl) (by rfl) (by rfl) (fun μ4 n4 a4 k4 => ?_)
  refine jX.pfr (b := 2) l0 l2 a4 (by rfl) (by rfl) (by rfl) (by rfl) (by rfl) (by rfl) (by rfl) (by rfl) (by rfl) (fun μ5 n5 a5 k5 => ?_)
  refine jX.pfr (b := 3) l0 l3 a5 (by rfl) (by rfl) (by rfl) (by rfl) (by rfl) (by rfl) (by rfl) (by rfl) (by rfl) (fun μ6 n6 a6 k6 => ?_)
  have w : ∀ k, k ≠ 63 → μ6.1 k = μ1.1 k := fun k h => (k6 k h).trans ((k5 k h).trans ((k4 k h).trans ((k3 k h).trans (k2 k h))))
  have n6' : μ6.2 = (65, c + 1, z + 2000) := n6.trans (n5.trans (n4.trans (n3.trans (n2.trans n1))))
  refine jX.lrn l0 (by rfl) (by rfl) ?_
  refine jX.newo (by rfl) (by rfl) (by rfl) ?_
  have hn : μ6.2.1 = 65 := congrArg Prod.fst n6'
  refine jX.go (pc' := 44) (by rfl) (by rfl) (by rfl) ?_
  refine jX.lrn l2 (by rfl) (by rfl) ?_
  refine jX.lrn l3 (by rfl) (by rfl) ?_
  refine jX.cv (y := 14) (as := [.ref μ6.2.1, .ref 8, .ref 46]) (rest := [.ref μ6.2.1, .ref 63]) (by rfl) (by rfl) (by rfl) (by rfl) (by rfl) (by rfl) (by rfl) (jrec_new _ _ _) (Nat.le_of_ble_eq_true rfl) (Nat.le_of_ble_eq_true rfl) ?_
  refine n_14 (c := c + 2) (z := z + 2000 + 2) jnew_self (by
    show (μ6.2.1 + 1, μ6.2.2.1 + 1, μ6.2.2.2 + 2) = (μ6.2.1 + 1, c + 2, z + 2000 + 2)
    rw [n6']) (fun μ7 m7 a7 k7 => ⟨rfl, ?_⟩)
  rw [hn] at m7 a7 k7 ⊢
  have w7 : ∀ k, k < 65 → μ7.1 k = μ6.1 k := fun k h => (k7 k h).trans (jnew_ne (by omega))
  refine jX.pf (by rfl) (by rfl) (by rfl) ((w7 63 (by omega)).trans a6) (by decide) (by rfl) (by rfl) ?_
  refine jX.ret (by rfl) (by rfl) (by rfl) (by rfl) (q _ m7 jw_self ?_ ((jw_ne (by decide)).trans a7) (fun k hk => ?_))
  · exact (jw_ne (by decide)).trans ((w7 64 (by omega)).trans ((w 64 (by decide)).trans f1))
  · exact (jw_ne (by omega)).trans ((w7 k (by omega)).trans ((w k (by omega)).trans (k1 k (by omega) (by omega))))
/-- what lies at the places of the class's object -/
def cCls (μ : jS) : Prop :=
  μ.1 0 = .inr (9, [.ref 1, .ref 8, .ref 46, .ref 59, .ref 63]) ∧
  (μ.1 1 = .inr (0, [.ref 2, .ref 3, .ref 4, .ref 5, .ref 6, .ref 7, .int 0, .int 0]) ∧ μ.1 2 = .inl (0, 32, .inl fun _ => 0) ∧ μ.1 3 = .inl (0, 32, .inl fun _ => 0) ∧ μ.1 4 = .inl (0, 32, .inl fun _ => 0) ∧ μ.1 5 = .inl (0, 32, .inl fun _ => 0) ∧ μ.1 6 = .inl (0, 1500, .inl fun _ => 0) ∧ μ.1 7 = .inl (0, 1500, .inl fun _ => 0)) ∧
  (μ.1 8 = .inr (3, [.ref 9, .ref 12, .ref 13, .int 0, .int 0, .int (-1), .int 0, .int 0, .int 0]) ∧ μ.1 9 = .inr (1, [.ref 10, .ref 11, .int (nI 16)]) ∧ μ.1 10 = .inl (1, 16, .inr (.inl fun _ => 0)) ∧ μ.1 11 = .inl (0, 16, .inl fun _ => 0) ∧ μ.1 12 = .inl (4, 16, .inr (.inr (.inr (.inr (cSt 16))))) ∧ μ.1 13 = .inl (0, 16, .inl fun _ => 0) ∧ (∀ s, s < 16 → μ.1 (14 + 2 * s) = cSo s ∧ μ.1 (15 + 2 * s) = cSf)) ∧
  (μ.1 46 = cHp (nI 600) ∧ μ.1 47 = .inl (13, 600, .inr (.inr (.inr (.inr fun _ => none)))) ∧ μ.1 48 = .inl (0, 600, .inl (cFr 600)) ∧ (∀ t, t < 3 → μ.1 (49 + 3 * t) = .inr (4, [.ref (50 + 3 * t), .ref (51 + 3 * t), .int 0, .int 0, .int 0]) ∧ μ.1 (50 + 3 * t) = .inl (0, 600, .inl fun _ => 0) ∧ μ.1 (51 + 3 * t) = .inl (0, 600, .inl fun _ => 0)) ∧ μ.1 58 = .inl (0, 600, .inl fun _ => 0)) ∧
  (μ.1 59 = .inr (6, [.ref 46, .ref 60, .ref 61, .ref 62, .int 0, .int 0, .long 0]) ∧ μ.1 60 = .inl (0, 600, .inl fun _ => 0) ∧ μ.1 61 = .inl (0, 600, .inl fun _ => 0) ∧ μ.1 62 = .inl (0, 600, .inl fun _ => 0)) ∧
  (μ.1 63 = .inr (8, [.ref 1, .ref 8, .ref 46, .ref 65, .ref 64, .int 0, .int 0, .int 0, .int 0, .int (nI 10), .int (nI 5)]) ∧ μ.1 64 = .inl (1, 2000, .inr (.inl fun _ => 0)) ∧ μ.1 65 = .inr (7, [.ref 8, .ref 46]))
theorem n_16 {G : jG} {Q : Option Value ⊕ Nat → jS → Prop} {μ : jS} {c z : Nat} (ha : μ.1 0 = .inr (9, [.null, .null, .null, .null, .null])) (hl : μ.2 = (1, c, z)) (q : ∀ (μ' : jS) (z' : Nat), z' ≤ z + 60000 → μ'.2 = (66, c + 65, z') → cCls μ' → Q (.inl none) μ') : jX G jP 16 0 (lv_args 0 [.ref 0]) [] μ Q := by
  have l0 : jld (lv_args 0 [.ref 0]) 0 = some (.ref 0) := by rfl
  generalize lv_args 0 [Value.ref 0] = lv at *
  obtain ⟨m0, n', c', z'⟩ := μ
  cases hl
  refine jX.cobj (rc := none) l0 (by rfl) (by rfl) (by rfl) (by rfl) (by rfl) ?_
  refine jX.lrn l0 (by rfl) (by rfl) ?_
  refine jX.newo (by rfl) (by rfl) (by rfl) ?_
  refine jX.go (pc' := 9) (by rfl) (by rfl) (by rfl) ?_
  refine jX.cv (y := 0) (as := [.ref 1]) (rest := [.ref 1, .ref 0]) (by rfl) (by rfl) (by rfl) (by rfl) (by rfl) (by rfl) (by rfl) (jrec_new _ _ _) (Nat.le_of_ble_eq_true rfl) (Nat.le_of_ble_eq_true rfl) ?_
  refine n_0 (a := 1) (c := c + 1) (z := z + 8) jnew_self (by rfl) (fun μ1 m1 p1 p2 p3 p4 p5 p6 p7 k1 => ⟨rfl, ?_⟩)
  refine jX.pf (by rfl) (by rfl) (by rfl) ((k1 0 (by omega)).trans ((jnew_ne (by show 0 ≠ 1; decide)).trans ha)) (by decide) (by rfl) (by rfl) ?_
  -- the world
  refine jX.lrn l0 (by rfl) (by rfl) ?_
  obtain ⟨f1, r1⟩ := μ1
  have m1 : r1 = (8, c + 1 + 6, z + 8 + 32 + 32 + 32 + 32 + 1500 + 1500) := m1
  subst m1
  refine jX.newo (by rfl) (by rfl) (by rfl) ?_
  refine jX.go (pc' := 20) (by rfl) (by rfl) (by rfl) ?_
  refine jX.lrn l0 (by rfl) (by rfl) ?_
  refine jX.gf (v := .ref 1) (by rfl) (by rfl) (by rfl) ((jnew_ne (by show 0 ≠ 8; decide)).trans jw_self) (by rfl) ?_
  refine jX.cv (y := 6) (as := [.ref 8, .ref 1]) (rest := [.ref 8, .ref 0]) (by rfl) (by rfl) (by rfl) (by rfl) (by rfl) (by rfl) (by rfl) (jrec_new _ _ _) (Nat.le_of_ble_eq_true rfl) (Nat.le_of_ble_eq_true rfl) ?_
  refine n_6 (c := c + 8) (z := z + 8 + 32 + 32 + 32 + 32 + 1500 + 1500 + 9) jnew_self (by rfl) (fun μ2 m2 w8 w9 w10 w11 w12 w13 ws k2 => ⟨rfl, ?_⟩)
  have e2 : ∀ k, k < 8 → k ≠ 0 → μ2.1 k = f1 k := fun k h1 h2 => (k2 k h1).trans ((jnew_ne (by show k ≠ 8; omega)).trans (jw_ne h2))
  refine jX.pf (by rfl) (by rfl) (by rfl) ((k2 0 (by omega)).trans ((jnew_ne (by show 0 ≠ 8; decide)).trans jw_self)) (by decide) (by rfl) (by rfl) ?_
  -- the heap
  refine jX.lrn l0 (by rfl) (by rfl) ?_
  obtain ⟨f2, r2⟩ := μ2
  have m2 : r2 = (46, c + 8 + 37, z + 8 + 32 + 32 + 32 + 32 + 1500 + 1500 + 9 + 3 + 2 * 16 + 16 + 16 + 38 * 16) := m2
  subst m2
  refine jX.newo (by rfl) (by rfl) (by rfl) ?_
  refine jX.go (pc' := 35) (by rfl) (by rfl) (by rfl) ?_
  refine jX.lrn l0 (by rfl) (by rfl) ?_
  refine jX.gf (v := .ref 8) (by rfl) (by rfl) (by rfl) ((jnew_ne (by show 0 ≠ 46; decide)).trans jw_self) (by rfl) ?_
  refine jX.cv (y := 12) (as := [.ref 46, .ref 8]) (rest := [.ref 46, .ref 0]) (by rfl) (by rfl) (by rfl) (by rfl) (by rfl) (by rfl) (by rfl) (jrec_new _ _ _) (Nat.le_of_ble_eq_true rfl) (Nat.le_of_ble_eq_true rfl) ?_
  refine n_12 (c := c + 46) (z := z + 8 + 32 + 32 + 32 + 32 + 1500 + 1500 + 9 + 3 + 2 * 16 + 16 + 16 + 38 * 16 + 14) jnew_self (by rfl) (fun μ3 m3 h46 h47 h48 ht h58 k3 => ⟨rfl, ?_⟩)
  have e3 : ∀ k, k < 46 → k ≠ 0 → μ3.1 k = f2 k := fun k h1 h2 => (k3 k h1).trans ((jnew_ne (by show k ≠ 46; omega)).trans (jw_ne h2))
  refine jX.pf (by rfl) (by rfl) (by rfl) ((k3 0 (by omega)).trans ((jnew_ne (by show 0 ≠ 46; decide)).trans jw_self)) (by decide) (by rfl) (by rfl) ?_
  -- the digester
  refine jX.lrn l0 (by rfl) (by rfl) ?_
  obtain ⟨f3, r3⟩ := μ3
  have m3 : r3 = (59, c + 46 + 12, z + 8 + 32 + 32 + 32 + 32 + 1500 + 1500 + 9 + 3 + 2 * 16 + 16 + 16 + 38 * 16 + 14 + 600 + 600 + 5 + 600 + 600 + 5 + 600 + 600 + 5 + 600 + 600 + 600) := m3
  subst m3
  refine jX.newo (by rfl) (by rfl) (by rfl) ?_
  refine jX.go (pc' := 50) (by rfl) (by rfl) (by rfl) ?_
  refine jX.lrn l0 (by rfl) (by rfl) ?_
  refine jX.gf (v := .ref 46) (by rfl) (by rfl) (by rfl) ((jnew_ne (by show 0 ≠ 59; decide)).trans jw_self) (by rfl) ?_
  refine jX.cv (y := 13) (as := [.ref 59, .ref 46]) (rest := [.ref 59, .ref 0]) (by rfl) (by rfl) (by rfl) (by rfl) (by rfl) (by rfl) (by rfl) (jrec_new _ _ _) (Nat.le_of_ble_eq_true rfl) (Nat.le_of_ble_eq_true rfl) ?_
  refine n_13 (a := 59) (c := c + 59) (z := z + 8 + 32 + 32 + 32 + 32 + 1500 + 1500 + 9 + 3 + 2 * 16 + 16 + 16 + 38 * 16 + 14 + 600 + 600 + 5 + 600 + 600 + 5 + 600 + 600 + 5 + 600 + 600 + 600 + 7) jnew_self (by rfl) (fun μ4 m4 d59 d60 d61 d62 k4 => ⟨rfl, ?_⟩)
  have e4 : ∀ k, k < 59 → k ≠ 0 → μ4.1 k = f3 k := fun k h1 h2 => (k4 k h1).trans ((jnew_ne (by show k ≠ 59; omega)).trans (jw_ne h2))
  refine jX.pf (by rfl) (by rfl) (by rfl) ((k4 0 (by omega)).trans ((jnew_ne (by show 0 ≠ 59; decide)).trans jw_self)) (by decide) (by rfl) (by rfl) ?_
  -- the machine
  refine jX.lrn l0 (by rfl) (by rfl) ?_
  obtain ⟨f4, n4, c4, z4⟩ := μ4
  obtain ⟨rfl, rfl, hz4⟩ : n4 = 63 ∧ c4 = c + 59 + 3 ∧ z4 = z + 8 + 32 + 32 + 32 + 32 + 1500 + 1500 + 9 + 3 + 2 * 16 + 16 + 16 + 38 * 16 + 14 + 600 + 600 + 5 + 600 + 600 + 5 + 600 + 600 + 5 + 600 + 600 + 600 + 7 + 600 + 600 + 600 := by
    have m4 : (n4, c4, z4) = (59 + 4, c + 59 + 3, z + 8 + 32 + 32 + 32 + 32 + 1500 + 1500 + 9 + 3 + 2 * 16 + 16 + 16 + 38 * 16 + 14 + 600 + 600 + 5 + 600 + 600 + 5 + 600 + 600 + 5 + 600 + 600 + 600 + 7 + 600 + 600 + 600) := m4
    simp only [Prod.mk.injEq] at m4
    exact m4
  have hz5 : z4 ≤ z + 20000 := by omega
  clear hz4
  refine jX.newo (by rfl) (by rfl) (by rfl) ?_
  refine jX.go (pc' := 65) (by rfl) (by rfl) (by rfl) ?_
  refine jX.lrn l0 (by rfl) (by rfl) ?_
  refine jX.gf (v := .ref 1) (by rfl) (by rfl) (by rfl) ((jnew_ne (by show 0 ≠ 63; decide)).trans jw_self) (by rfl) ?_
  refine jX.lrn l0 (by rfl) (by rfl) ?_
  refine jX.gf (v := .ref 8) (by rfl) (by rfl) (by rfl) ((jnew_ne (by show 0 ≠ 63; decide)).trans jw_self) (by rfl) ?_
  refine jX.lrn l0 (by rfl) (by rfl) ?_
  refine jX.gf (v := .ref 46) (by rfl) (by rfl) (by rfl) ((jnew_ne (by show 0 ≠ 63; decide)).trans jw_self) (by rfl) ?_
  refine jX.cv (y := 15) (as := [.ref 63, .ref 1, .ref 8, .ref 46]) (rest := [.ref 63, .ref 0]) (by rfl) (by rfl) (by rfl) (by rfl) (by rfl) (by rfl) (by rfl) (jrec_new _ _ _) (Nat.le_of_ble_eq_true rfl) (Nat.le_of_ble_eq_true rfl) ?_
  refine n_15 (c := c + 63) (z := z4 + 11) jnew_self (by rfl) (fun μ5 m5 b63 b64 b65 k5 => ⟨rfl, ?_⟩)
  have e5 : ∀ k, k < 63 → k ≠ 0 → μ5.1 k = f4 k := fun k h1 h2 => (k5 k h1).trans ((jnew_ne (by show k ≠ 63; omega)).trans (jw_ne h2))
  refine jX.pf (by rfl) (by rfl) (by rfl) ((k5 0 (by omega)).trans ((jnew_ne (by show 0 ≠ 63; decide)).trans jw_self)) (by decide) (by rfl) (by rfl) ?_
  refine jX.ret (by rfl) (by rfl) (by rfl) (by rfl) (q _ (z4 + 11 + 2000 + 2) (by omega) m5 ?_)
  have g5 : ∀ k, k ≠ 0 → (jw μ5 0 (Sum.inr (9, [.ref 1, .ref 8, .ref 46, .ref 59, .ref 63]))).1 k = μ5.1 k := fun k h => jw_ne h
  have g4 : ∀ k, k < 63 → k ≠ 0 → (jw μ5 0 (Sum.inr (9, [.ref 1, .ref 8, .ref 46, .ref 59, .ref 63]))).1 k = f4 k := fun k h1 h2 => (g5 k h2).trans (e5 k h1 h2)
  have g3 : ∀ k, k < 59 → k ≠ 0 → (jw μ5 0 (Sum.inr (9, [.ref 1, .ref 8, .ref 46, .ref 59, .ref 63]))).1 k = f3 k := fun k h1 h2 => (g4 k (by omega) h2).trans (e4 k h1 h2)
  have g2 : ∀ k, k < 46 → k ≠ 0 → (jw μ5 0 (Sum.inr (9, [.ref 1, .ref 8, .ref 46, .ref 59, .ref 63]))).1 k = f2 k := fun k h1 h2 => (g3 k (by omega) h2).trans (e3 k h1 h2)
  have g1 : ∀ k, k < 8 → k ≠ 0 → (jw μ5 0 (Sum.inr (9, [.ref 1, .ref 8, .ref 46, .ref 59, .ref 63]))).1 k = f1 k := fun k h1 h2 => (g2 k (by omega) h2).trans (e2 k h1 h2)
  refine ⟨jw_self, ⟨(g1 1 (by omega) (by omega)).trans p1, (g1 2 (by omega) (by omega)).trans p2, (g1 3 (by omega) (by omega)).trans p3, (g1 4 (by omega) (by omega)).trans p4, (g1 5 (by omega) (by omega)).trans p5, (g1 6 (by omega) (by omega)).trans p6, (g1 7 (by omega) (by omega)).trans p7⟩, ⟨(g2 8 (by omega) (by omega)).trans w8, (g2 9 (by omega) (by omega)).trans w9, (g2 10 (by omega) (by omega)).trans w10, (g2 11 (by omega) (by omega)).trans w11, (g2 12 (by omega) (by omega)).trans w12, (g2 13 (by omega) (by omega)).trans w13, fun s h => ⟨(g2 _ (by omega) (by omega)).trans (ws s h).1, (g2 _ (by omega) (by omega)).trans (ws s h).2⟩⟩, ⟨(g3 46 (by omega) (by omega)).trans h46, (g3 47 (by omega) (by omega)).trans h47, (g3 48 (by omega) (by omega)).trans h48, fun t h => ⟨(g3 _ (by omega) (by omega)).trans (ht t h).1, (g3 _ (by omega) (by omega)).trans (ht t h).2.1, (g3 _ (by omega) (by omega)).trans (ht t h).2.2⟩, (g3 58 (by omega) (by omega)).trans h58⟩, ⟨(g4 59 (by omega) (by omega)).trans d59, (g4 60 (by omega) (by omega)).trans d60, (g4 61 (by omega) (by omega)).trans d61, (g4 62 (by omega) (by omega)).trans d62⟩, ⟨(g5 63 (by omega)).trans b63, (g5 64 (by omega)).trans b64, (g5 65 (by omega)).trans b65⟩⟩
