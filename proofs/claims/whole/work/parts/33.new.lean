/-! New frames and things: the class makes them when they are first wanted. -/
/-- a new row of N values -/
theorem n_row {G : jG} {Q : Option Value ⊕ Nat → jS → Prop} {μ : jS} {a N : Nat} (ha : μ.1 a = .inr (1, [.null, .null, .int 0])) (hl : a < μ.2.1) (hN : N < 2 ^ 31) (q : ∀ μ' : jS, μ'.2 = (μ.2.1 + 2, μ.2.2.1 + 2, μ.2.2.2 + 2 * N) → μ'.1 a = .inr (1, [.ref μ.2.1, .ref (μ.2.1 + 1), .int 0]) → μ'.1 μ.2.1 = .inl (1, N, .inr (.inl fun _ => 0)) → μ'.1 (μ.2.1 + 1) = .inl (0, N, .inl fun _ => 0) → (∀ k, k ≠ a → k < μ.2.1 → μ'.1 k = μ.1 k) → Q (.inl none) μ') : jX G jP 1 0 (lv_args 0 [.ref a, .int (nI N)]) [] μ Q := by
  refine jX.go (pc' := 1) (by rfl) (by rfl) (by rfl) ?_
  refine jX.obj (by rfl) (by rfl) (by rfl) (by rfl) (by rfl) (by rfl) (by rfl) (by rfl) (Nat.le_of_ble_eq_true rfl) ?_
  refine jX.go (pc' := 5) (by rfl) (by rfl) (by rfl) ?_
  refine jX.go (pc' := 6) (by rfl) (by rfl) (by rfl) ?_
  refine jX.newlN (by rfl) (by rfl) hN ?_
  have n1 : a ≠ μ.2.1 := Nat.ne_of_lt hl
  refine jX.pfs (fs' := [.ref μ.2.1, .null, .int 0]) (by rfl) (by rfl) (by rfl) ((jnew_ne n1).trans ha) (by rfl) (by rfl) (by rfl) (by rfl) ?_
  refine jX.go (pc' := 12) (by rfl) (by rfl) (by rfl) ?_
  refine jX.go (pc' := 13) (by rfl) (by rfl) (by rfl) ?_
  refine jX.newiN (by rfl) (by rfl) hN ?_
  have n2 : a ≠ μ.2.1 + 1 := by omega
  refine jX.pfs (fs' := [.ref μ.2.1, .ref (μ.2.1 + 1), .int 0]) (by rfl) (by rfl) (by rfl) ((jnew_ne n2).trans jw_self) (by rfl) (by rfl) (by rfl) (by rfl) ?_
  refine jX.ret (by rfl) (by rfl) (by rfl) (by rfl) (q _ ?_ jw_self ?_ ?_ ?_)
  · show (μ.2.1 + 1 + 1, μ.2.2.1 + 1 + 1, μ.2.2.2 + N + N) = _
    exact Prod.ext rfl (Prod.ext rfl (by show μ.2.2.2 + N + N = μ.2.2.2 + 2 * N; omega))
  · refine (jw_ne n1.symm).trans ((jnew_ne (by show μ.2.1 ≠ μ.2.1 + 1; omega)).trans ((jw_ne n1.symm).trans jnew_self))
  · exact (jw_ne n2.symm).trans jnew_self
  · intro k h1 h2
    exact (jw_ne h1).trans ((jnew_ne (by show k ≠ μ.2.1 + 1; omega)).trans ((jw_ne h1).trans (jnew_ne (by omega))))
theorem jrec_new {μ : jS} {c : Nat} (fs : List Value) (n : Nat) (as : List Value) : jrec (jnew μ (.inr (c, fs)) n) (some c) (.ref μ.2.1 :: as) = true := by
  unfold jrec
  simp only [jnew_self]
  exact Nat.beq_refl c
/-- 'new Row(N)' in a body -/
theorem jX.nrow {G : jG} {Q : Option Value ⊕ Nat → jS → Prop} {μ : jS} {j pc pc3 pc4 k k2 : Nat} {lv : jL} {st : List Value} {N : Nat} {i : Instr} (hN : N < 2 ^ 31) (h0 : jP.2.1 j pc = none) (h1 : jP.1 j pc = some (.new k)) (hB : (jP.2.2.2.2.1 j).2.1 k = some (1, [.null, .null, .int 0])) (h2 : jP.2.1 j (pc + 3) = none) (h3 : jP.1 j (pc + 3) = some .dup) (h4 : jP.2.1 j (pc + 3 + 1) = none) (h5 : jP.1 j (pc + 3 + 1) = some i) (h6 : jcst i = some (nI N, pc3)) (hp : pc + 3 + 1 + pc3 = pc4) (h7 : jP.2.1 j pc4 = none) (h8 : jP.1 j pc4 = some (.invokespecial k2)) (h9 : jP.2.2.2.1 j k2 = some (3, 2, some 1)) (hs : ((Value.ref μ.2.1 :: st).map fun v => v.category).sum ≤ 8)
    (K : ∀ μ' : jS, μ'.2 = (μ.2.1 + 3, μ.2.2.1 + 3, μ.2.2.2 + 3 + 2 * N) → μ'.1 μ.2.1 = .inr (1, [.ref (μ.2.1 + 1), .ref (μ.2.1 + 2), .int 0]) → μ'.1 (μ.2.1 + 1) = .inl (1, N, .inr (.inl fun _ => 0)) → μ'.1 (μ.2.1 + 2) = .inl (0, N, .inl fun _ => 0) → (∀ q, q < μ.2.1 → μ'.1 q = μ.1 q) → jX G jP j (pc4 + 3) lv (.ref μ.2.1 :: st) μ' Q) : jX G jP j pc lv st μ Q := by
  refine jX.newo h0 h1 hB ?_
  refine jX.go (pc' := pc + 3 + 1) h2 h3 (by rfl) ?_
  refine jX.ic h4 h5 h6 ?_
  rw [hp]
  refine jX.cv (y := 1) h7 h8 (by rfl) (by rfl) (by rfl) h9 (by rfl) (jrec_new _ _ _) hs (Nat.le_of_ble_eq_true rfl) ?_
  refine n_row (jnew_self) (by show μ.2.1 < μ.2.1 + 1; omega) hN (fun μ' q1 q2 q3 q4 q5 => ⟨rfl, K μ' ?_ q2 q3 q4 fun q hq => ?_⟩)
  · rw [q1]
    show (μ.2.1 + 1 + 2, μ.2.2.1 + 1 + 2, μ.2.2.2 + 3 + 2 * N) = _
    rfl
  · exact (q5 q (by omega) (by show q < μ.2.1 + 1; omega)).trans (jnew_ne (by omega))
theorem jX.nro {G : jG} {Q : Option Value ⊕ Nat → jS → Prop} {μ : jS} {j pc pc3 pc4 k k2 n c z : Nat} {lv : jL} {st : List Value} (N : Nat) {i : Instr} (hn : μ.2 = (n, c, z)) (hN : N < 2 ^ 31) (h0 : jP.2.1 j pc = none) (h1 : jP.1 j pc = some (.new k)) (hB : (jP.2.2.2.2.1 j).2.1 k = some (1, [.null, .null, .int 0])) (h2 : jP.2.1 j (pc + 3) = none) (h3 : jP.1 j (pc + 3) = some .dup) (h4 : jP.2.1 j (pc + 3 + 1) = none) (h5 : jP.1 j (pc + 3 + 1) = some i) (h6 : jcst i = some (nI N, pc3)) (hp : pc + 3 + 1 + pc3 = pc4) (h7 : jP.2.1 j pc4 = none) (h8 : jP.1 j pc4 = some (.invokespecial k2)) (h9 : jP.2.2.2.1 j k2 = some (3, 2, some 1)) (hs : ((Value.ref n :: st).map fun v => v.category).sum ≤ 8)
    (K : ∀ μ' : jS, μ'.2 = (n + 3, c + 3, z + 3 + 2 * N) → μ'.1 n = .inr (1, [.ref (n + 1), .ref (n + 2), .int 0]) → μ'.1 (n + 1) = .inl (1, N, .inr (.inl fun _ => 0)) → μ'.1 (n + 2) = .inl (0, N, .inl fun _ => 0) → (∀ q, q < n → μ'.1 q = μ.1 q) → jX G jP j (pc4 + 3) lv (.ref n :: st) μ' Q) : jX G jP j pc lv st μ Q := by
  obtain ⟨f, n', c', z'⟩ := μ
  cases hn
  exact jX.nrow hN h0 h1 hB h2 h3 h4 h5 h6 hp h7 h8 h9 hs K
/-- a new frame -/
theorem n_frame {G : jG} {Q : Option Value ⊕ Nat → jS → Prop} {μ : jS} {a c z : Nat} (ha : μ.1 a = .inr (10, [.null, .null, .null, .null, .null, .int 0, .int 0, .int 0])) (hl : μ.2 = (a + 1, c, z)) (q : ∀ μ' : jS, μ'.2 = (a + 14, c + 13, z + 88) → μ'.1 a = .inr (10, [.ref (a + 1), .ref (a + 4), .ref (a + 7), .ref (a + 10), .ref (a + 11), .int 0, .int 0, .int 0]) →
    μ'.1 (a + 1) = .inr (1, [.ref (a + 2), .ref (a + 3), .int 0]) → μ'.1 (a + 2) = .inl (1, 12, .inr (.inl fun _ => 0)) → μ'.1 (a + 3) = .inl (0, 12, .inl fun _ => 0) →
    μ'.1 (a + 4) = .inr (1, [.ref (a + 5), .ref (a + 6), .int 0]) → μ'.1 (a + 5) = .inl (1, 16, .inr (.inl fun _ => 0)) → μ'.1 (a + 6) = .inl (0, 16, .inl fun _ => 0) →
    μ'.1 (a + 7) = .inr (1, [.ref (a + 8), .ref (a + 9), .int 0]) → μ'.1 (a + 8) = .inl (1, 6, .inr (.inl fun _ => 0)) → μ'.1 (a + 9) = .inl (0, 6, .inl fun _ => 0) →
    μ'.1 (a + 10) = .inl (0, 6, .inl fun _ => 0) →
    μ'.1 (a + 11) = .inr (1, [.ref (a + 12), .ref (a + 13), .int 0]) → μ'.1 (a + 12) = .inl (1, 1, .inr (.inl fun _ => 0)) → μ'.1 (a + 13) = .inl (0, 1, .inl fun _ => 0) →
    (∀ k, k < a → μ'.1 k = μ.1 k) → Q (.inl none) μ') : jX G jP 23 0 (lv_args 0 [.ref a]) [] μ Q := by
  refine jX.go (pc' := 1) (by rfl) (by rfl) (by rfl) ?_
  refine jX.obj (by rfl) (by rfl) (by rfl) (by rfl) (by rfl) (by rfl) (by rfl) (by rfl) (Nat.le_of_ble_eq_true rfl) ?_
  refine jX.go (pc' := 5) (by rfl) (by rfl) (by rfl) ?_
  refine jX.nro 12 hl (by decide) (by rfl) (by rfl) (by rfl) (by rfl) (by rfl) (by rfl) (by rfl) (by decide) (pc3 := 2) (pc4 := 11) (by rfl) (by rfl) (by rfl) (by rfl) (Nat.le_of_ble_eq_true rfl) (fun μ1 c1 r1 r2 r3 k1 => ?_)
  refine jX.pfs (fs' := [.ref (a + 1), .null, .null, .null, .null, .int 0, .int 0, .int 0]) (by rfl) (by rfl) (by rfl) ((k1 a (by omega)).trans ha) (by rfl) (by rfl) (by rfl) (by rfl) ?_
  refine jX.go (pc' := 18) (by rfl) (by rfl) (by rfl) ?_
  refine jX.nro (μ := jw μ1 a _) 16 c1 (by decide) (by rfl) (by rfl) (by rfl) (by rfl) (by rfl) (by rfl) (by rfl) (by decide) (pc3 := 2) (pc4 := 24) (by rfl) (by rfl) (by rfl) (by rfl) (Nat.le_of_ble_eq_true rfl) (fun μ2 c2 s1 s2 s3 k2 => ?_)
  have e2 : μ2.1 a = _ := (k2 a (by omega)).trans jw_self
  refine jX.pfs (fs' := [.ref (a + 1), .ref (a + 4), .null, .null, .null, .int 0, .int 0, .int 0]) (by rfl) (by rfl) (by rfl) e2 (by rfl) (by rfl) (by rfl) (by rfl) ?_
  refine jX.go (pc' := 31) (by rfl) (by rfl) (by rfl) ?_
  refine jX.nro (μ := jw μ2 a _) 6 c2 (by decide) (by rfl) (by rfl) (by rfl) (by rfl) (by rfl) (by rfl) (by rfl) (by decide) (pc3 := 2) (pc4 := 37) (by rfl) (by rfl) (by rfl) (by rfl) (Nat.le_of_ble_eq_true rfl) (fun μ3 c3 t1 t2 t3 k3 => ?_)
  have e3 : μ3.1 a = _ := (k3 a (by omega)).trans jw_self
  refine jX.pfs (fs' := [.ref (a + 1), .ref (a + 4), .ref (a + 7), .null, .null, .int 0, .int 0, .int 0]) (by rfl) (by rfl) (by rfl) e3 (by rfl) (by rfl) (by rfl) (by rfl) ?_
  refine jX.go (pc' := 44) (by rfl) (by rfl) (by rfl) ?_
  refine jX.ic (v := nI 6) (n := 2) (by rfl) (by rfl) (by decide) ?_
  refine jX.newiN (by rfl) (by rfl) (by decide) ?_
  have c3' : μ3.2.1 = a + 10 := congrArg Prod.fst c3
  have hx : (jw μ3 a (Sum.inr (10, [.ref (a + 1), .ref (a + 4), .ref (a + 7), .null, .null, .int 0, .int 0, .int 0]))).2.1 = a + 10 := c3'
  have hx4 : (jnew (jw μ3 a (Sum.inr (10, [.ref (a + 1), .ref (a + 4), .ref (a + 7), .null, .null, .int 0, .int 0, .int 0]))) (Sum.inl (0, 6, Sum.inl fun _ => 0)) 6).2 = (a + 11, c + 10, z + 87 - 4) := by
    show (μ3.2.1 + 1, μ3.2.2.1 + 1, μ3.2.2.2 + 6) = _
    rw [c3]
    exact Prod.ext rfl (Prod.ext rfl (by show z + 3 + 2 * 12 + 3 + 2 * 16 + 3 + 2 * 6 + 6 = z + 87 - 4; omega))
  have hq4 : ∀ k, k ≠ a + 10 → (jnew (jw μ3 a (Sum.inr (10, [.ref (a + 1), .ref (a + 4), .ref (a + 7), .null, .null, .int 0, .int 0, .int 0]))) (Sum.inl (0, 6, Sum.inl fun _ => 0)) 6).1 k = (jw μ3 a (Sum.inr (10, [.ref (a + 1), .ref (a + 4), .ref (a + 7), .null, .null, .int 0, .int 0, .int 0]))).1 k := fun k h => jnew_ne (by rw [hx]; exact h)
  have hp4 : (jnew (jw μ3 a (Sum.inr (10, [.ref (a + 1), .ref (a + 4), .ref (a + 7), .null, .null, .int 0, .int 0, .int 0]))) (Sum.inl (0, 6, Sum.inl fun _ => 0)) 6).1 (a + 10) = Sum.inl (0, 6, Sum.inl fun _ => 0) := by
    have := @jnew_self (jw μ3 a (Sum.inr (10, [.ref (a + 1), .ref (a + 4), .ref (a + 7), .null, .null, .int 0, .int 0, .int 0]))) (Sum.inl (0, 6, Sum.inl fun _ => 0)) 6
    rw [hx] at this
    exact this
  rw [hx]
  generalize (jnew (jw μ3 a (Sum.inr (10, [.ref (a + 1), .ref (a + 4), .ref (a + 7), .null, .null, .int 0, .int 0, .int 0]))) (Sum.inl (0, 6, Sum.inl fun _ => 0)) 6) = μ4 at hx4 hq4 hp4 ⊢
  refine jX.pfs (fs' := [.ref (a + 1), .ref (a + 4), .ref (a + 7), .ref (a + 10), .null, .int 0, .int 0, .int 0]) (by rfl) (by rfl) (by rfl) ((hq4 a (by omega)).trans jw_self) (by rfl) (by rfl) (by rfl) (by rfl) ?_
  refine jX.go (pc' := 52) (by rfl) (by rfl) (by rfl) ?_
  refine jX.nro (μ := jw μ4 a _) 1 hx4 (by decide) (by rfl) (by rfl) (by rfl) (by rfl) (by rfl) (by rfl) (by rfl) (by decide) (pc3 := 1) (pc4 := 57) (by rfl) (by rfl) (by rfl) (by rfl) (Nat.le_of_ble_eq_true rfl) (fun μ5 c5 u1 u2 u3 k5 => ?_)
  have e5 : μ5.1 a = _ := (k5 a (by omega)).trans jw_self
  refine jX.pfs (fs' := [.ref (a + 1), .ref (a + 4), .ref (a + 7), .ref (a + 10), .ref (a + 11), .int 0, .int 0, .int 0]) (by rfl) (by rfl) (by rfl) e5 (by rfl) (by rfl) (by rfl) (by rfl) ?_
  have w5 : ∀ k, k ≠ a → k < a + 11 → (jw μ5 a (Sum.inr (10, [.ref (a + 1), .ref (a + 4), .ref (a + 7), .ref (a + 10), .ref (a + 11), .int 0, .int 0, .int 0]))).1 k = μ4.1 k := fun k h1 h2 => (jw_ne h1).trans ((k5 k h2).trans (jw_ne h1))
  have w4 : ∀ k, k ≠ a → k < a + 10 → μ4.1 k = μ3.1 k := fun k h1 h2 => (hq4 k (by omega)).trans (jw_ne h1)
  have w3 : ∀ k, k ≠ a → k < a + 7 → μ3.1 k = μ2.1 k := fun k h1 h2 => (k3 k h2).trans (jw_ne h1)
  have w2 : ∀ k, k ≠ a → k < a + 4 → μ2.1 k = μ1.1 k := fun k h1 h2 => (k2 k h2).trans (jw_ne h1)
  refine jX.ret (by rfl) (by rfl) (by rfl) (by rfl) (q _ ?_ jw_self ?_ ?_ ?_ ?_ ?_ ?_ ?_ ?_ ?_ ?_ ?_ ?_ ?_ ?_)
  · show μ5.2 = _
    rw [c5]
    exact Prod.ext rfl (Prod.ext rfl (by show z + 87 - 4 + 3 + 2 * 1 = z + 88; omega))
  · exact (w5 _ (by omega) (by omega)).trans ((w4 _ (by omega) (by omega)).trans ((w3 _ (by omega) (by omega)).trans ((w2 _ (by omega) (by omega)).trans r1)))
  · exact (w5 _ (by omega) (by omega)).trans ((w4 _ (by omega) (by omega)).trans ((w3 _ (by omega) (by omega)).trans ((w2 _ (by omega) (by omega)).trans r2)))
  · exact (w5 _ (by omega) (by omega)).trans ((w4 _ (by omega) (by omega)).trans ((w3 _ (by omega) (by omega)).trans ((w2 _ (by omega) (by omega)).trans r3)))
  · exact (w5 _ (by omega) (by omega)).trans ((w4 _ (by omega) (by omega)).trans ((w3 _ (by omega) (by omega)).trans s1))
  · exact (w5 _ (by omega) (by omega)).trans ((w4 _ (by omega) (by omega)).trans ((w3 _ (by omega) (by omega)).trans s2))
  · exact (w5 _ (by omega) (by omega)).trans ((w4 _ (by omega) (by omega)).trans ((w3 _ (by omega) (by omega)).trans s3))
  · exact (w5 _ (by omega) (by omega)).trans ((w4 _ (by omega) (by omega)).trans t1)
  · exact (w5 _ (by omega) (by omega)).trans ((w4 _ (by omega) (by omega)).trans t2)
  · exact (w5 _ (by omega) (by omega)).trans ((w4 _ (by omega) (by omega)).trans t3)
  · exact (w5 _ (by omega) (by omega)).trans hp4
  · exact (jw_ne (by omega)).trans u1
  · exact (jw_ne (by omega)).trans u2
  · exact (jw_ne (by omega)).trans u3
  · intro k hk
    exact (w5 _ (by omega) (by omega)).trans ((w4 _ (by omega) (by omega)).trans ((w3 _ (by omega) (by omega)).trans ((w2 _ (by omega) (by omega)).trans (k1 k (by omega)))))
/-- a new thing -/
theorem n_thing {G : jG} {Q : Option Value ⊕ Nat → jS → Prop} {μ : jS} {a c z : Nat} (ha : μ.1 a = .inr (11, [.null, .int 0, .int 0, .int 0, .int 0])) (hl : μ.2 = (a + 1, c, z)) (q : ∀ μ' : jS, μ'.2 = (a + 4, c + 3, z + 35) → μ'.1 a = .inr (11, [.ref (a + 1), .int 0, .int 0, .int 0, .int 0]) →
    μ'.1 (a + 1) = .inr (1, [.ref (a + 2), .ref (a + 3), .int 0]) → μ'.1 (a + 2) = .inl (1, 16, .inr (.inl fun _ => 0)) → μ'.1 (a + 3) = .inl (0, 16, .inl fun _ => 0) → (∀ k, k < a → μ'.1 k = μ.1 k) → Q (.inl none) μ') : jX G jP 84 0 (lv_args 0 [.ref a]) [] μ Q := by
  refine jX.go (pc' := 1) (by rfl) (by rfl) (by rfl) ?_
  refine jX.obj (by rfl) (by rfl) (by rfl) (by rfl) (by rfl) (by rfl) (by rfl) (by rfl) (Nat.le_of_ble_eq_true rfl) ?_
  refine jX.go (pc' := 5) (by rfl) (by rfl) (by rfl) ?_
  refine jX.nro 16 hl (by decide) (by rfl) (by rfl) (by rfl) (by rfl) (by rfl) (by rfl) (by rfl) (by decide) (pc3 := 2) (pc4 := 11) (by rfl) (by rfl) (by rfl) (by rfl) (Nat.le_of_ble_eq_true rfl) (fun μ1 c1 r1 r2 r3 k1 => ?_)
  refine jX.pfs (fs' := [.ref (a + 1), .int 0, .int 0, .int 0, .int 0]) (by rfl) (by rfl) (by rfl) ((k1 a (by omega)).trans ha) (by rfl) (by rfl) (by rfl) (by rfl) ?_
  refine jX.ret (by rfl) (by rfl) (by rfl) (by rfl) (q _ ?_ jw_self ?_ ?_ ?_ ?_)
  · show μ1.2 = _
    rw [c1]
  · exact (jw_ne (by omega)).trans r1
  · exact (jw_ne (by omega)).trans r2
  · exact (jw_ne (by omega)).trans r3
  · intro k hk
    exact (jw_ne (by omega)).trans (k1 k (by omega))
/-- what a new frame or thing at p changes in the store -/
def snZ (S : sS) (p : Nat) : (Nat → Nat → Nat → Nat → Int32) × (Nat → Nat → Nat → Nat → Int64) :=
  (fun t i j => bif Nat.beq i p && (Nat.ble 27 t && Nat.ble t 32) then (fun _ => 0) else S.1 t i j, fun t i j => bif Nat.beq i p && (Nat.ble 27 t && Nat.ble t 32) then (fun _ => 0) else S.2.1 t i j)
def snF (S : sS) : sS := ((snZ S S.2.2.2.2.1).1, (snZ S S.2.2.2.2.1).2, S.2.2.1, (fun q => Nat.beq q S.2.2.2.2.1 || S.2.2.2.1.1 q, S.2.2.2.1.2), S.2.2.2.2.1 + 14, S.2.2.2.2.2.1 + 14, S.2.2.2.2.2.2 + 96)
def snT (S : sS) : sS := ((snZ S S.2.2.2.2.1).1, (snZ S S.2.2.2.2.1).2, S.2.2.1, (S.2.2.2.1.1, fun q => Nat.beq q S.2.2.2.2.1 || S.2.2.2.1.2 q), S.2.2.2.2.1 + 4, S.2.2.2.2.2.1 + 4, S.2.2.2.2.2.2 + 40)
theorem spl_add {t : Nat} (h1 : 27 ≤ t) (h2 : t ≤ 32) (i j : Nat) : spl t i j = i + spl t 0 j := by
  have h : t = 27 ∨ t = 28 ∨ t = 29 ∨ t = 30 ∨ t = 31 ∨ t = 32 := by omega
  rcases h with rfl | rfl | rfl | rfl | rfl | rfl
  · show i = i + 0; omega
  · show i + 10 = i + (0 + 10); omega
  · show i + sro j = i + (0 + sro j); omega
  · show i + sro j + 1 = i + (0 + sro j + 1); omega
  · show i + sro j + 2 = i + (0 + sro j + 2); omega
  · show i = i + 0; omega
theorem snZ_old {S : sS} {p t i j : Nat} (h : ¬ (i = p ∧ 27 ≤ t ∧ t ≤ 32)) : (snZ S p).1 t i j = S.1 t i j ∧ (snZ S p).2 t i j = S.2.1 t i j := by
  have e : (Nat.beq i p && (Nat.ble 27 t && Nat.ble t 32)) = false := by
    cases e : (Nat.beq i p && (Nat.ble 27 t && Nat.ble t 32)) with
    | false => rfl
    | true =>
      rw [Bool.and_eq_true, Bool.and_eq_true] at e
      exact absurd ⟨Nat.eq_of_beq_eq_true e.1, Nat.le_of_ble_eq_true e.2.1, Nat.le_of_ble_eq_true e.2.2⟩ h
  constructor
  · show (bif Nat.beq i p && (Nat.ble 27 t && Nat.ble t 32) then (fun _ => 0) else S.1 t i j) = _
    rw [e, cond_false]
  · show (bif Nat.beq i p && (Nat.ble 27 t && Nat.ble t 32) then (fun _ => 0) else S.2.1 t i j) = _
    rw [e, cond_false]
theorem snZ_new {S : sS} {p t : Nat} (j : Nat) (h1 : 27 ≤ t) (h2 : t ≤ 32) : (snZ S p).1 t p j = (fun _ => 0) ∧ (snZ S p).2 t p j = (fun _ => 0) := by
  have e : (Nat.beq p p && (Nat.ble 27 t && Nat.ble t 32)) = true := by rw [Nat.beq_refl, Nat.ble_eq_true_of_le h1, Nat.ble_eq_true_of_le h2]; rfl
  constructor
  · show (bif Nat.beq p p && (Nat.ble 27 t && Nat.ble t 32) then (fun _ => 0) else S.1 t p j) = _
    rw [e, cond_true]
  · show (bif Nat.beq p p && (Nat.ble 27 t && Nat.ble t 32) then (fun _ => 0) else S.2.1 t p j) = _
    rw [e, cond_true]
/-- something new lies behind all that was there -/
theorem sR.grow {S : sS} {μ μ' : jS} {M' : sK} {c' : Nat × Nat × Nat} (R : sR S μ) (nw : Nat → Nat → Bool) (hM : ∀ t i j, sex M' t i j = true → sex S.2.2.2.1 t i j = true ∨ (i = μ.2.1 ∧ nw t j = true)) (hnw : ∀ t j, nw t j = true → 27 ≤ t ∧ t ≤ 32) (hinj : ∀ t j t' j', nw t j = true → nw t' j' = true → spl t 0 j = spl t' 0 j' → t = t' ∧ j = j') (hkeep : ∀ q, q < μ.2.1 → μ'.1 q = μ.1 q) (hcell : ∀ t j, nw t j = true → μ'.1 (spl t μ.2.1 j) = scl t μ.2.1 j (fun _ => 0) (fun _ => 0) S.2.2.1 ∧ spl t μ.2.1 j < μ'.2.1) (hle : μ.2.1 ≤ μ'.2.1) (hc : μ'.2 = c') : sR ((snZ S μ.2.1).1, (snZ S μ.2.1).2, S.2.2.1, M', c') μ' := by
  refine ⟨fun t i j h => ?_, fun t i j t' i' j' h h' e => ?_, hc⟩
  · rcases hM t i j h with h | ⟨rfl, hw⟩
    · obtain ⟨h1, h2⟩ := R.1 t i j h
      refine ⟨(hkeep _ h2).trans (h1.trans ?_), Nat.lt_of_lt_of_le h2 hle⟩
      have hn : ¬ (i = μ.2.1 ∧ 27 ≤ t ∧ t ≤ 32) := by
        rintro ⟨rfl, h3, h4⟩
        rw [spl_add h3 h4] at h2
        omega
      obtain ⟨e1, e2⟩ := snZ_old (S := S) (j := j) hn
      show scl t i j (S.1 t i j) (S.2.1 t i j) S.2.2.1 = scl t i j ((snZ S μ.2.1).1 t i j) ((snZ S μ.2.1).2 t i j) S.2.2.1
      rw [e1, e2]
    · obtain ⟨h1, h2⟩ := hcell t j hw
      obtain ⟨h3, h4⟩ := hnw t j hw
      obtain ⟨e1, e2⟩ := snZ_new (S := S) (p := μ.2.1) j h3 h4
      refine ⟨h1.trans ?_, h2⟩
      show scl t μ.2.1 j (fun _ => 0) (fun _ => 0) S.2.2.1 = scl t μ.2.1 j ((snZ S μ.2.1).1 t μ.2.1 j) ((snZ S μ.2.1).2 t μ.2.1 j) S.2.2.1
      rw [e1, e2]
  · rcases hM t i j h with h | ⟨rfl, hw⟩
    · rcases hM t' i' j' h' with h' | ⟨rfl, hw'⟩
      · exact R.2.1 _ _ _ _ _ _ h h' e
      · obtain ⟨h3, h4⟩ := hnw t' j' hw'
        have := (R.1 t i j h).2
        rw [e, spl_add h3 h4] at this
        omega
    · obtain ⟨h3, h4⟩ := hnw t j hw
      rcases hM t' i' j' h' with h' | ⟨rfl, hw'⟩
      · have := (R.1 t' i' j' h').2
        rw [← e, spl_add h3 h4] at this
        omega
      · obtain ⟨h5, h6⟩ := hnw t' j' hw'
        rw [spl_add h3 h4, spl_add h5 h6] at e
        obtain ⟨e1, e2⟩ := hinj t j t' j' hw hw' (by omega)
        exact ⟨e1, rfl, e2⟩
def nwF (t j : Nat) : Bool := Nat.ble 27 t && (bif Nat.ble t 28 then Nat.beq j 0 else Nat.ble t 31 && Nat.blt j 4)
def nwT (t j : Nat) : Bool := bif Nat.beq t 32 then Nat.beq j 0 else Nat.ble 29 t && (Nat.ble t 31 && Nat.beq j 4)
theorem nwF_b {t j : Nat} (h : nwF t j = true) : 27 ≤ t ∧ t ≤ 31 ∧ j < 4 ∧ (t ≤ 28 → j = 0) := by
  unfold nwF at h
  rw [Bool.and_eq_true] at h
  obtain ⟨h1, h2⟩ := h
  have h1 := Nat.le_of_ble_eq_true h1
  cases e : Nat.ble t 28 with
  | true =>
    rw [e, cond_true] at h2
    have := Nat.eq_of_beq_eq_true h2
    have := Nat.le_of_ble_eq_true e
    exact ⟨h1, by omega, by omega, fun _ => by omega⟩
  | false =>
    rw [e, cond_false, Bool.and_eq_true] at h2
    have h3 := Nat.le_of_ble_eq_true h2.1
    have h4 : j < 4 := Nat.le_of_ble_eq_true h2.2
    exact ⟨h1, h3, h4, fun z => by rw [Nat.ble_eq_true_of_le z] at e; cases e⟩
theorem nwT_b {t j : Nat} (h : nwT t j = true) : (t = 32 ∧ j = 0) ∨ ((t = 29 ∨ t = 30 ∨ t = 31) ∧ j = 4) := by
  unfold nwT at h
  cases e : Nat.beq t 32 with
  | true =>
    rw [e, cond_true] at h
    exact Or.inl ⟨Nat.eq_of_beq_eq_true e, Nat.eq_of_beq_eq_true h⟩
  | false =>
    rw [e, cond_false, Bool.and_eq_true, Bool.and_eq_true] at h
    have h1 := Nat.le_of_ble_eq_true h.1
    have h2 := Nat.le_of_ble_eq_true h.2.1
    exact Or.inr ⟨by omega, Nat.eq_of_beq_eq_true h.2.2⟩
theorem nwF_all : ∀ t : Fin 32, ∀ t' : Fin 32, ∀ j : Fin 4, ∀ j' : Fin 4, nwF t j = true → nwF t' j' = true → spl t 0 j = spl t' 0 j' → t = t' ∧ j = j' := by decide +kernel
theorem nwF_inj {t j t' j' : Nat} (h : nwF t j = true) (h' : nwF t' j' = true) (e : spl t 0 j = spl t' 0 j') : t = t' ∧ j = j' := by
  obtain ⟨-, a2, a3, -⟩ := nwF_b h
  obtain ⟨-, b2, b3, -⟩ := nwF_b h'
  have := nwF_all ⟨t, by omega⟩ ⟨t', by omega⟩ ⟨j, a3⟩ ⟨j', b3⟩ h h' e
  exact ⟨congrArg Fin.val this.1, congrArg Fin.val this.2⟩
theorem nwT_inj {t j t' j' : Nat} (h : nwT t j = true) (h' : nwT t' j' = true) (e : spl t 0 j = spl t' 0 j') : t = t' ∧ j = j' := by
  rcases nwT_b h with ⟨rfl, rfl⟩ | ⟨rfl | rfl | rfl, rfl⟩ <;> rcases nwT_b h' with ⟨rfl, rfl⟩ | ⟨rfl | rfl | rfl, rfl⟩ <;> first | exact ⟨rfl, rfl⟩ | (exact absurd e (by decide))
theorem sex_F {M : sK} {p t i j : Nat} (h : sex (fun q => Nat.beq q p || M.1 q, M.2) t i j = true) : sex M t i j = true ∨ (i = p ∧ nwF t j = true) := by
  by_cases ht : 27 ≤ t ∧ t ≤ 32
  · have ht' : t = 27 ∨ t = 28 ∨ t = 29 ∨ t = 30 ∨ t = 31 ∨ t = 32 := by omega
    have row : ∀ {u : Nat}, 29 ≤ u → u ≤ 31 → srx (fun q => Nat.beq q p || M.1 q, M.2) i j = true → srx M i j = true ∨ (i = p ∧ nwF u j = true) := by
      intro u hu1 hu2 h
      unfold srx at h ⊢
      simp only [Bool.or_eq_true, Bool.and_eq_true] at h ⊢
      rcases h with ⟨h1, h2 | h2⟩ | h | h
      · refine Or.inr ⟨Nat.eq_of_beq_eq_true h2, ?_⟩
        unfold nwF
        rw [Nat.ble_eq_true_of_le (by omega : 27 ≤ u), show Nat.ble u 28 = false by cases e : Nat.ble u 28 with | false => rfl | true => (have := Nat.le_of_ble_eq_true e; omega), Nat.ble_eq_true_of_le hu2, h1]
        rfl
      · exact Or.inl (Or.inl ⟨h1, h2⟩)
      · exact Or.inl (Or.inr (Or.inl h))
      · exact Or.inl (Or.inr (Or.inr h))
    have ob : ∀ {u : Nat}, (u = 27 ∨ u = 28) → ((Nat.beq i p || M.1 i) && Nat.beq j 0) = true → (M.1 i && Nat.beq j 0) = true ∨ (i = p ∧ nwF u j = true) := by
      intro u hu h
      rw [Bool.and_eq_true, Bool.or_eq_true] at h
      rcases h.1 with h1 | h1
      · refine Or.inr ⟨Nat.eq_of_beq_eq_true h1, ?_⟩
        rcases hu with rfl | rfl
        · exact h.2
        · exact h.2
      · exact Or.inl (by rw [h1, h.2]; rfl)
    rcases ht' with rfl | rfl | rfl | rfl | rfl | rfl
    · exact ob (Or.inl rfl) h
    · exact ob (Or.inr rfl) h
    · exact row (by omega) (by omega) h
    · exact row (by omega) (by omega) h
    · exact row (by omega) (by omega) h
    · exact Or.inl h
  · refine Or.inl ?_
    have e : (Nat.ble 27 t && Nat.ble t 32) = false := by
      cases e : (Nat.ble 27 t && Nat.ble t 32) with
      | false => rfl
      | true =>
        rw [Bool.and_eq_true] at e
        exact absurd ⟨Nat.le_of_ble_eq_true e.1, Nat.le_of_ble_eq_true e.2⟩ ht
    unfold sex at h ⊢
    rw [e, cond_false] at h ⊢
    exact h
theorem sex_T {M : sK} {p t i j : Nat} (h : sex (M.1, fun q => Nat.beq q p || M.2 q) t i j = true) : sex M t i j = true ∨ (i = p ∧ nwT t j = true) := by
  by_cases ht : 27 ≤ t ∧ t ≤ 32
  · have ht' : t = 27 ∨ t = 28 ∨ t = 29 ∨ t = 30 ∨ t = 31 ∨ t = 32 := by omega
    have row : ∀ {u : Nat}, (u = 29 ∨ u = 30 ∨ u = 31) → srx (M.1, fun q => Nat.beq q p || M.2 q) i j = true → srx M i j = true ∨ (i = p ∧ nwT u j = true) := by
      intro u hu h
      unfold srx at h ⊢
      simp only [Bool.or_eq_true, Bool.and_eq_true] at h ⊢
      rcases h with h | ⟨h1, h2 | h2⟩ | h
      · exact Or.inl (Or.inl h)
      · refine Or.inr ⟨Nat.eq_of_beq_eq_true h2, ?_⟩
        rcases hu with rfl | rfl | rfl
        · exact h1
        · exact h1
        · exact h1
      · exact Or.inl (Or.inr (Or.inl ⟨h1, h2⟩))
      · exact Or.inl (Or.inr (Or.inr h))
    rcases ht' with rfl | rfl | rfl | rfl | rfl | rfl
    · exact Or.inl h
    · exact Or.inl h
    · exact row (by omega) h
    · exact row (by omega) h
    · exact row (by omega) h
    · have h : ((Nat.beq i p || M.2 i) && Nat.beq j 0) = true := h
      rw [Bool.and_eq_true, Bool.or_eq_true] at h
      rcases h.1 with h1 | h1
      · exact Or.inr ⟨Nat.eq_of_beq_eq_true h1, h.2⟩
      · refine Or.inl ?_
        show (M.2 i && Nat.beq j 0) = true
        rw [h1, h.2]
        rfl
  · refine Or.inl ?_
    have e : (Nat.ble 27 t && Nat.ble t 32) = false := by
      cases e : (Nat.ble 27 t && Nat.ble t 32) with
      | false => rfl
      | true =>
        rw [Bool.and_eq_true] at e
        exact absurd ⟨Nat.le_of_ble_eq_true e.1, Nat.le_of_ble_eq_true e.2⟩ ht
    unfold sex at h ⊢
    rw [e, cond_false] at h ⊢
    exact h
/-- 'new Frame()' in a body -/
theorem jX.nF {G : jG} {Q : Option Value ⊕ Nat → jS → Prop} {μ : jS} {S : sS} {j pc k k2 : Nat} {lv : jL} {st : List Value} (R : sR S μ) (h0 : jP.2.1 j pc = none) (h1 : jP.1 j pc = some (.new k)) (hB : (jP.2.2.2.2.1 j).2.1 k = some (10, [.null, .null, .null, .null, .null, .int 0, .int 0, .int 0])) (h2 : (jP.2.1 j (pc + 3), jP.2.1 j (pc + 3 + 1)) = (none, none)) (h3 : jP.1 j (pc + 3) = some .dup) (h8 : jP.1 j (pc + 3 + 1) = some (.invokespecial k2)) (h9 : jP.2.2.2.1 j k2 = some (25, 1, some 10)) (hs : ((Value.ref S.2.2.2.2.1 :: st).map fun v => v.category).sum ≤ 8)
    (K : ∀ μ' : jS, sR (snF S) μ' → jX G jP j (pc + 3 + 1 + 3) lv (.ref (spl 27 S.2.2.2.2.1 0) :: st) μ' Q) : jX G jP j pc lv st μ Q := by
  have e0 : S.2.2.2.2 = μ.2 := R.2.2.symm
  rw [e0] at hs K
  refine jX.newo h0 h1 hB ?_
  refine jX.go (pc' := pc + 3 + 1) (congrArg Prod.fst h2) h3 (by rfl) ?_
  refine jX.cv (y := 23) (congrArg Prod.snd h2) h8 (by rfl) (by rfl) (by rfl) h9 (by rfl) (jrec_new _ _ _) hs (Nat.le_of_ble_eq_true rfl) ?_
  refine n_frame (a := μ.2.1) (c := μ.2.2.1 + 1) (z := μ.2.2.2 + 8) jnew_self (by rfl) (fun μ' c1 f0 a1 a2 a3 a4 a5 a6 a7 a8 a9 a10 a11 a12 a13 kp => ⟨rfl, K μ' ?_⟩)
  unfold snF
  rw [e0]
  refine R.grow nwF (fun t i j h => sex_F h) (fun t j h => ⟨(nwF_b h).1, by have := (nwF_b h).2.1; omega⟩) (fun t j t' j' => nwF_inj) (fun q hq => (kp q hq).trans (jnew_ne (by omega))) (fun t j h => ?_) (by rw [c1]; show μ.2.1 ≤ μ.2.1 + 14; omega) c1
  obtain ⟨b1, b2, b3, b4⟩ := nwF_b h
  have hlt : μ'.2.1 = μ.2.1 + 14 := congrArg Prod.fst c1
  rw [hlt]
  have ht : t = 27 ∨ t = 28 ∨ t = 29 ∨ t = 30 ∨ t = 31 := by omega
  have hj : j = 0 ∨ j = 1 ∨ j = 2 ∨ j = 3 := by omega
  rcases ht with rfl | rfl | rfl | rfl | rfl
  · obtain rfl := b4 (by omega)
    exact ⟨f0, by show μ.2.1 < _; omega⟩
  · obtain rfl := b4 (by omega)
    exact ⟨a10, by show μ.2.1 + 10 < _; omega⟩
  · rcases hj with rfl | rfl | rfl | rfl
    · exact ⟨a1, by show μ.2.1 + 1 < _; omega⟩
    · exact ⟨a4, by show μ.2.1 + 4 < _; omega⟩
    · exact ⟨a7, by show μ.2.1 + 7 < _; omega⟩
    · exact ⟨a11, by show μ.2.1 + 11 < _; omega⟩
  · rcases hj with rfl | rfl | rfl | rfl
    · exact ⟨a2, by show μ.2.1 + 1 + 1 < _; omega⟩
    · exact ⟨a5, by show μ.2.1 + 4 + 1 < _; omega⟩
    · exact ⟨a8, by show μ.2.1 + 7 + 1 < _; omega⟩
    · exact ⟨a12, by show μ.2.1 + 11 + 1 < _; omega⟩
  · rcases hj with rfl | rfl | rfl | rfl
    · exact ⟨a3, by show μ.2.1 + 1 + 2 < _; omega⟩
    · exact ⟨a6, by show μ.2.1 + 4 + 2 < _; omega⟩
    · exact ⟨a9, by show μ.2.1 + 7 + 2 < _; omega⟩
    · exact ⟨a13, by show μ.2.1 + 11 + 2 < _; omega⟩
/-- 'new Thing()' in a body -/
theorem jX.nT {G : jG} {Q : Option Value ⊕ Nat → jS → Prop} {μ : jS} {S : sS} {j pc k k2 : Nat} {lv : jL} {st : List Value} (R : sR S μ) (h0 : jP.2.1 j pc = none) (h1 : jP.1 j pc = some (.new k)) (hB : (jP.2.2.2.2.1 j).2.1 k = some (11, [.null, .int 0, .int 0, .int 0, .int 0])) (h2 : (jP.2.1 j (pc + 3), jP.2.1 j (pc + 3 + 1)) = (none, none)) (h3 : jP.1 j (pc + 3) = some .dup) (h8 : jP.1 j (pc + 3 + 1) = some (.invokespecial k2)) (h9 : jP.2.2.2.1 j k2 = some (86, 1, some 11)) (hs : ((Value.ref S.2.2.2.2.1 :: st).map fun v => v.category).sum ≤ 8)
    (K : ∀ μ' : jS, sR (snT S) μ' → jX G jP j (pc + 3 + 1 + 3) lv (.ref (spl 32 S.2.2.2.2.1 0) :: st) μ' Q) : jX G jP j pc lv st μ Q := by
  have e0 : S.2.2.2.2 = μ.2 := R.2.2.symm
  rw [e0] at hs K
  refine jX.newo h0 h1 hB ?_
  refine jX.go (pc' := pc + 3 + 1) (congrArg Prod.fst h2) h3 (by rfl) ?_
  refine jX.cv (y := 84) (congrArg Prod.snd h2) h8 (by rfl) (by rfl) (by rfl) h9 (by rfl) (jrec_new _ _ _) hs (Nat.le_of_ble_eq_true rfl) ?_
  refine n_thing (a := μ.2.1) (c := μ.2.2.1 + 1) (z := μ.2.2.2 + 5) jnew_self (by rfl) (fun μ' c1 f0 a1 a2 a3 kp => ⟨rfl, K μ' ?_⟩)
  unfold snT
  rw [e0]
  refine R.grow nwT (fun t i j h => sex_T h) (fun t j h => by rcases nwT_b h with ⟨h, -⟩ | ⟨h | h | h, -⟩ <;> omega) (fun t j t' j' => nwT_inj) (fun q hq => (kp q hq).trans (jnew_ne (by omega))) (fun t j h => ?_) (by rw [c1]; show μ.2.1 ≤ μ.2.1 + 4; omega) c1
  have hlt : μ'.2.1 = μ.2.1 + 4 := congrArg Prod.fst c1
  rw [hlt]
  rcases nwT_b h with ⟨rfl, rfl⟩ | ⟨rfl | rfl | rfl, rfl⟩
  · exact ⟨f0, by show μ.2.1 < _; omega⟩
  · exact ⟨a1, by show μ.2.1 + 1 < _; omega⟩
  · exact ⟨a2, by show μ.2.1 + 1 + 1 < _; omega⟩
  · exact ⟨a3, by show μ.2.1 + 1 + 2 < _; omega⟩
/-- the store's references are read in two arrays alone -/
theorem scl_X {t i j : Nat} {f : Nat → Int32} {g : Nat → Int64} {X X' : sX} (h1 : t = 26 → X'.1 i = X.1 i) (h2 : t = 12 → X'.2 = X.2) : scl t i j f g X' = scl t i j f g X := by
  unfold scl
  cases e : Nat.beq t 26 with
  | true => rw [cond_true, cond_true, h1 (Nat.eq_of_beq_eq_true e)]
  | false =>
    rw [cond_false, cond_false]
    cases e2 : Nat.beq t 12 with
    | true => rw [cond_true, cond_true, h2 (Nat.eq_of_beq_eq_true e2)]
    | false => rw [cond_false, cond_false]
theorem jX.stF {G : jG} {Q : Option Value ⊕ Nat → jS → Prop} {μ : jS} {S : sS} {j pc p s : Nat} {lv : jL} {st : List Value} {x : Int32} (R : sR S μ) (gv : sex S.2.2.2.1 27 p 0 = true) (go : sex S.2.2.2.1 26 s 0 = true) (hX : jP.2.1 j pc = none) (hI : jP.1 j pc = some .aastore) (hi : jin x 30 = true) (K : ∀ μ', sR (ssF S s x.toNatClampNeg p) μ' → jX G jP j (pc + 1) lv st μ' Q) : jX G jP j pc lv (.ref (spl 27 p 0) :: .int x :: .ref (spl 26 s 0) :: st) μ Q := by
  refine jX.aast (d := 10) (n := 30) (f := S.2.2.1.1 s) hX hI (R.1 _ _ _ go).1 (R.1 _ _ _ gv).1 (jin_vp hi) (K _ ?_)
  have h := R.wr (S' := ssF S s x.toNatClampNeg p) go rfl (fun t' i' j' hne hE => by
    show scl t' i' j' (S.1 t' i' j') (S.2.1 t' i' j') (ssF S s x.toNatClampNeg p).2.2.1 = scl t' i' j' (S.1 t' i' j') (S.2.1 t' i' j') S.2.2.1
    refine scl_X (fun e => ?_) (fun _ => rfl)
    subst e
    have hE : (Nat.blt i' 16 && Nat.beq j' 0) = true := hE
    rw [Bool.and_eq_true] at hE
    have hj := Nat.eq_of_beq_eq_true hE.2
    have hi' : ¬ i' = s := fun z => hne ⟨rfl, z, hj⟩
    show (bif Nat.beq i' s then _ else S.2.2.1.1 i') = _
    cases e : Nat.beq i' s with
    | true => exact absurd (Nat.eq_of_beq_eq_true e) hi'
    | false => rfl)
  have e : sce (ssF S s x.toNatClampNeg p) 26 s 0 = .inl (10 + 2, 30, .inr (.inr (.inr (.inr (va_up (S.2.2.1.1 s) x.toNatClampNeg (some (spl 27 p 0))))))) := by
    show Sum.inl (12, 30, Sum.inr (Sum.inr (Sum.inr (Sum.inr (bif Nat.beq s s then va_up (S.2.2.1.1 s) x.toNatClampNeg (some p) else S.2.2.1.1 s))))) = _
    rw [Nat.beq_refl, cond_true]
    rfl
  rw [e] at h
  exact h
theorem jX.stT {G : jG} {Q : Option Value ⊕ Nat → jS → Prop} {μ : jS} {S : sS} {j pc p : Nat} {lv : jL} {st : List Value} {x : Int32} (R : sR S μ) (gv : sex S.2.2.2.1 32 p 0 = true) (go : sex S.2.2.2.1 12 0 0 = true) (hX : jP.2.1 j pc = none) (hI : jP.1 j pc = some .aastore) (hi : jin x 600 = true) (K : ∀ μ', sR (ssT S x.toNatClampNeg p) μ' → jX G jP j (pc + 1) lv st μ' Q) : jX G jP j pc lv (.ref (spl 32 p 0) :: .int x :: .ref (spl 12 0 0) :: st) μ Q := by
  refine jX.aast (d := 11) (n := 600) (f := S.2.2.1.2) hX hI (R.1 _ _ _ go).1 (R.1 _ _ _ gv).1 (jin_vp hi) (K _ ?_)
  have h := R.wr (S' := ssT S x.toNatClampNeg p) go rfl (fun t' i' j' hne hE => by
    show scl t' i' j' (S.1 t' i' j') (S.2.1 t' i' j') (ssT S x.toNatClampNeg p).2.2.1 = scl t' i' j' (S.1 t' i' j') (S.2.1 t' i' j') S.2.2.1
    refine scl_X (fun _ => rfl) (fun e => ?_)
    subst e
    have hE : (Nat.beq i' 0 && Nat.beq j' 0) = true := hE
    rw [Bool.and_eq_true] at hE
    exact absurd ⟨rfl, Nat.eq_of_beq_eq_true hE.1, Nat.eq_of_beq_eq_true hE.2⟩ hne)
  exact h
