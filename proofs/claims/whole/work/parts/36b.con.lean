/-! printed by con.py: what plain constructors make -/
/-- StrandRuntime$Program -/
theorem n_0 {G : jG} {Q : Option Value ⊕ Nat → jS → Prop} {μ : jS} {a c z : Nat} (ha : μ.1 a = .inr (0, [.null, .null, .null, .null, .null, .null, .int 0, .int 0])) (hl : μ.2 = (a + 1, c, z)) (q : ∀ μ' : jS, μ'.2 = (a + 7, c + 6, z + 32 + 32 + 32 + 32 + 1500 + 1500) → μ'.1 a = .inr (0, [.ref (a + 1), .ref (a + 2), .ref (a + 3), .ref (a + 4), .ref (a + 5), .ref (a + 6), .int 0, .int 0]) → μ'.1 (a + 1) = .inl (0, 32, .inl fun _ => 0) → μ'.1 (a + 2) = .inl (0, 32, .inl fun _ => 0) → μ'.1 (a + 3) = .inl (0, 32, .inl fun _ => 0) → μ'.1 (a + 4) = .inl (0, 32, .inl fun _ => 0) → μ'.1 (a + 5) = .inl (0, 1500, .inl fun _ => 0) → μ'.1 (a + 6) = .inl (0, 1500, .inl fun _ => 0) → (∀ k, k < a → μ'.1 k = μ.1 k) → Q (.inl none) μ') : jX G jP 0 0 (lv_args 0 [.ref a]) [] μ Q := by
  have l0 : jld (lv_args 0 [.ref a]) 0 = some (.ref a) := by rfl
  generalize lv_args 0 [.ref a] = lv at *
  refine jX.cobj (rc := none) l0 (by rfl) (by rfl) (by rfl) (by rfl) (by rfl) ?_
  refine jX.arI 32 (l := 2) (pc1 := 7) l0 hl (by omega) ha (by decide) (by rfl) (by rfl) (by rfl) (by rfl) (by decide) (by rfl) (by rfl) (by rfl) (by rfl) (by rfl) (by rfl) (by rfl) (by rfl) (fun μ1 n1 a1 f1 k1 => ?_)
  have n1 : μ1.2 = (a + 2, c + 1, z + 32) := n1
  have a1 : μ1.1 a = .inr (0, [.ref (a + 1), .null, .null, .null, .null, .null, .int 0, .int 0]) := a1
  refine jX.arI 32 (l := 2) (pc1 := 15) l0 n1 (by omega) a1 (by decide) (by rfl) (by rfl) (by rfl) (by rfl) (by decide) (by rfl) (by rfl) (by rfl) (by rfl) (by rfl) (by rfl) (by rfl) (by rfl) (fun μ2 n2 a2 f2 k2 => ?_)
  have n2 : μ2.2 = (a + 3, c + 2, z + 32 + 32) := n2
  have a2 : μ2.1 a = .inr (0, [.ref (a + 1), .ref (a + 2), .null, .null, .null, .null, .int 0, .int 0]) := a2
  refine jX.arI 32 (l := 2) (pc1 := 23) l0 n2 (by omega) a2 (by decide) (by rfl) (by rfl) (by rfl) (by rfl) (by decide) (by rfl) (by rfl) (by rfl) (by rfl) (by rfl) (by rfl) (by rfl) (by rfl) (fun μ3 n3 a3 f3 k3 => ?_)
  have n3 : μ3.2 = (a + 4, c + 3, z + 32 + 32 + 32) := n3
  have a3 : μ3.1 a = .inr (0, [.ref (a + 1), .ref (a + 2), .ref (a + 3), .null, .null, .null, .int 0, .int 0]) := a3
  refine jX.arI 32 (l := 2) (pc1 := 31) l0 n3 (by omega) a3 (by decide) (by rfl) (by rfl) (by rfl) (by rfl) (by decide) (by rfl) (by rfl) (by rfl) (by rfl) (by rfl) (by rfl) (by rfl) (by rfl) (fun μ4 n4 a4 f4 k4 => ?_)
  have n4 : μ4.2 = (a + 5, c + 4, z + 32 + 32 + 32 + 32) := n4
  have a4 : μ4.1 a = .inr (0, [.ref (a + 1), .ref (a + 2), .ref (a + 3), .ref (a + 4), .null, .null, .int 0, .int 0]) := a4
  refine jX.arI 1500 (l := 3) (pc1 := 40) l0 n4 (by omega) a4 (by decide) (by rfl) (by rfl) (by rfl) (by rfl) (by decide) (by rfl) (by rfl) (by rfl) (by rfl) (by rfl) (by rfl) (by rfl) (by rfl) (fun μ5 n5 a5 f5 k5 => ?_)
  have n5 : μ5.2 = (a + 6, c + 5, z + 32 + 32 + 32 + 32 + 1500) := n5
  have a5 : μ5.1 a = .inr (0, [.ref (a + 1), .ref (a + 2), .ref (a + 3), .ref (a + 4), .ref (a + 5), .null, .int 0, .int 0]) := a5
  refine jX.arI 1500 (l := 3) (pc1 := 49) l0 n5 (by omega) a5 (by decide) (by rfl) (by rfl) (by rfl) (by rfl) (by decide) (by rfl) (by rfl) (by rfl) (by rfl) (by rfl) (by rfl) (by rfl) (by rfl) (fun μ6 n6 a6 f6 k6 => ?_)
  have n6 : μ6.2 = (a + 7, c + 6, z + 32 + 32 + 32 + 32 + 1500 + 1500) := n6
  have a6 : μ6.1 a = .inr (0, [.ref (a + 1), .ref (a + 2), .ref (a + 3), .ref (a + 4), .ref (a + 5), .ref (a + 6), .int 0, .int 0]) := a6
  refine jX.ret (by rfl) (by rfl) (by rfl) (by rfl) (q _ n6 a6 ((k6 _ (by omega) (by omega)).trans ((k5 _ (by omega) (by omega)).trans ((k4 _ (by omega) (by omega)).trans ((k3 _ (by omega) (by omega)).trans ((k2 _ (by omega) (by omega)).trans (f1)))))) ((k6 _ (by omega) (by omega)).trans ((k5 _ (by omega) (by omega)).trans ((k4 _ (by omega) (by omega)).trans ((k3 _ (by omega) (by omega)).trans (f2))))) ((k6 _ (by omega) (by omega)).trans ((k5 _ (by omega) (by omega)).trans ((k4 _ (by omega) (by omega)).trans (f3)))) ((k6 _ (by omega) (by omega)).trans ((k5 _ (by omega) (by omega)).trans (f4))) ((k6 _ (by omega) (by omega)).trans (f5)) (f6) (fun k hk => ?_))
  exact (k6 _ (by omega) (by omega)).trans ((k5 _ (by omega) (by omega)).trans ((k4 _ (by omega) (by omega)).trans ((k3 _ (by omega) (by omega)).trans ((k2 _ (by omega) (by omega)).trans ((k1 _ (by omega) (by omega)))))))
/-- StrandRuntime$Strand -/
theorem n_2 {G : jG} {Q : Option Value ⊕ Nat → jS → Prop} {μ : jS} {a c z : Nat} {v1 : Nat} {x2 : Int32} (ha : μ.1 a = .inr (2, [.null, .int 0, .null, .int 0, .int 0, .int 0, .int 0, .long 0])) (hl : μ.2 = (a + 1, c, z)) (q : ∀ μ' : jS, μ'.2 = (a + 2, c + 1, z + 30) → μ'.1 a = .inr (2, [.ref v1, .int x2, .ref (a + 1), .int 0, .int 0, .int 0, .int 0, .long 0]) → μ'.1 (a + 1) = .inl (12, 30, .inr (.inr (.inr (.inr fun _ => none)))) → (∀ k, k < a → μ'.1 k = μ.1 k) → Q (.inl none) μ') : jX G jP 2 0 (lv_args 0 [.ref a, .ref v1, .int x2]) [] μ Q := by
  have l0 : jld (lv_args 0 [.ref a, .ref v1, .int x2]) 0 = some (.ref a) := by rfl
  have l1 : jld (lv_args 0 [.ref a, .ref v1, .int x2]) 1 = some (.ref v1) := by rfl
  have l2 : jld (lv_args 0 [.ref a, .ref v1, .int x2]) 2 = some (.int x2) := by rfl
  generalize lv_args 0 [.ref a, .ref v1, .int x2] = lv at *
  refine jX.cobj (rc := none) l0 (by rfl) (by rfl) (by rfl) (by rfl) (by rfl) ?_
  refine jX.arO 30 12 (l := 2) (pc1 := 7) l0 hl (by omega) ha (by decide) (by rfl) (by rfl) (by rfl) (by rfl) (by decide) (by rfl) (by rfl) (by rfl) (by rfl) (by rfl) (by rfl) (by rfl) (by rfl) (by rfl) (fun μ1 n1 a1 f1 k1 => ?_)
  have n1 : μ1.2 = (a + 2, c + 1, z + 30) := n1
  have a1 : μ1.1 a = .inr (2, [.null, .int 0, .ref (a + 1), .int 0, .int 0, .int 0, .int 0, .long 0]) := a1
  refine jX.pfr (b := 1) l0 l1 a1 (by rfl) (by rfl) (by rfl) (by rfl) (by rfl) (by rfl) (by rfl) (by rfl) (by rfl) (fun μ2 n2 a2 k2 => ?_)
  have n2 : μ2.2 = (a + 2, c + 1, z + 30) := n2.trans n1
  have a2 : μ2.1 a = .inr (2, [.ref v1, .int 0, .ref (a + 1), .int 0, .int 0, .int 0, .int 0, .long 0]) := a2
  refine jX.pfx (b := 2) l0 l2 a2 (by rfl) (by rfl) (by rfl) (by rfl) (by rfl) (by rfl) (by rfl) (by rfl) (by rfl) (fun μ3 n3 a3 k3 => ?_)
  have n3 : μ3.2 = (a + 2, c + 1, z + 30) := n3.trans n2
  have a3 : μ3.1 a = .inr (2, [.ref v1, .int x2, .ref (a + 1), .int 0, .int 0, .int 0, .int 0, .long 0]) := a3
  refine jX.ret (by rfl) (by rfl) (by rfl) (by rfl) (q _ n3 a3 ((k3 _ (by omega)).trans ((k2 _ (by omega)).trans (f1))) (fun k hk => ?_))
  exact (k3 _ (by omega)).trans ((k2 _ (by omega)).trans ((k1 _ (by omega) (by omega))))
/-- StrandRuntime$Tracer -/
theorem n_7 {G : jG} {Q : Option Value ⊕ Nat → jS → Prop} {μ : jS} {a c z : Nat} (ha : μ.1 a = .inr (4, [.null, .null, .int 0, .int 0, .int 0])) (hl : μ.2 = (a + 1, c, z)) (q : ∀ μ' : jS, μ'.2 = (a + 3, c + 2, z + 600 + 600) → μ'.1 a = .inr (4, [.ref (a + 1), .ref (a + 2), .int 0, .int 0, .int 0]) → μ'.1 (a + 1) = .inl (0, 600, .inl fun _ => 0) → μ'.1 (a + 2) = .inl (0, 600, .inl fun _ => 0) → (∀ k, k < a → μ'.1 k = μ.1 k) → Q (.inl none) μ') : jX G jP 7 0 (lv_args 0 [.ref a]) [] μ Q := by
  have l0 : jld (lv_args 0 [.ref a]) 0 = some (.ref a) := by rfl
  generalize lv_args 0 [.ref a] = lv at *
  refine jX.cobj (rc := none) l0 (by rfl) (by rfl) (by rfl) (by rfl) (by rfl) ?_
  refine jX.arI 600 (l := 3) (pc1 := 8) l0 hl (by omega) ha (by decide) (by rfl) (by rfl) (by rfl) (by rfl) (by decide) (by rfl) (by rfl) (by rfl) (by rfl) (by rfl) (by rfl) (by rfl) (by rfl) (fun μ1 n1 a1 f1 k1 => ?_)
  have n1 : μ1.2 = (a + 2, c + 1, z + 600) := n1
  have a1 : μ1.1 a = .inr (4, [.ref (a + 1), .null, .int 0, .int 0, .int 0]) := a1
  refine jX.arI 600 (l := 3) (pc1 := 17) l0 n1 (by omega) a1 (by decide) (by rfl) (by rfl) (by rfl) (by rfl) (by decide) (by rfl) (by rfl) (by rfl) (by rfl) (by rfl) (by rfl) (by rfl) (by rfl) (fun μ2 n2 a2 f2 k2 => ?_)
  have n2 : μ2.2 = (a + 3, c + 2, z + 600 + 600) := n2
  have a2 : μ2.1 a = .inr (4, [.ref (a + 1), .ref (a + 2), .int 0, .int 0, .int 0]) := a2
  refine jX.ret (by rfl) (by rfl) (by rfl) (by rfl) (q _ n2 a2 ((k2 _ (by omega) (by omega)).trans (f1)) (f2) (fun k hk => ?_))
  exact (k2 _ (by omega) (by omega)).trans ((k1 _ (by omega) (by omega)))
/-- StrandRuntime$Digest -/
theorem n_13 {G : jG} {Q : Option Value ⊕ Nat → jS → Prop} {μ : jS} {a c z : Nat} {v1 : Nat} (ha : μ.1 a = .inr (6, [.null, .null, .null, .null, .int 0, .int 0, .long 0])) (hl : μ.2 = (a + 1, c, z)) (q : ∀ μ' : jS, μ'.2 = (a + 4, c + 3, z + 600 + 600 + 600) → μ'.1 a = .inr (6, [.ref v1, .ref (a + 1), .ref (a + 2), .ref (a + 3), .int 0, .int 0, .long 0]) → μ'.1 (a + 1) = .inl (0, 600, .inl fun _ => 0) → μ'.1 (a + 2) = .inl (0, 600, .inl fun _ => 0) → μ'.1 (a + 3) = .inl (0, 600, .inl fun _ => 0) → (∀ k, k < a → μ'.1 k = μ.1 k) → Q (.inl none) μ') : jX G jP 13 0 (lv_args 0 [.ref a, .ref v1]) [] μ Q := by
  have l0 : jld (lv_args 0 [.ref a, .ref v1]) 0 = some (.ref a) := by rfl
  have l1 : jld (lv_args 0 [.ref a, .ref v1]) 1 = some (.ref v1) := by rfl
  generalize lv_args 0 [.ref a, .ref v1] = lv at *
  refine jX.cobj (rc := none) l0 (by rfl) (by rfl) (by rfl) (by rfl) (by rfl) ?_
  refine jX.arI 600 (l := 3) (pc1 := 8) l0 hl (by omega) ha (by decide) (by rfl) (by rfl) (by rfl) (by rfl) (by decide) (by rfl) (by rfl) (by rfl) (by rfl) (by rfl) (by rfl) (by rfl) (by rfl) (fun μ1 n1 a1 f1 k1 => ?_)
  have n1 : μ1.2 = (a + 2, c + 1, z + 600) := n1
  have a1 : μ1.1 a = .inr (6, [.null, .ref (a + 1), .null, .null, .int 0, .int 0, .long 0]) := a1
  refine jX.arI 600 (l := 3) (pc1 := 17) l0 n1 (by omega) a1 (by decide) (by rfl) (by rfl) (by rfl) (by rfl) (by decide) (by rfl) (by rfl) (by rfl) (by rfl) (by rfl) (by rfl) (by rfl) (by rfl) (fun μ2 n2 a2 f2 k2 => ?_)
  have n2 : μ2.2 = (a + 3, c + 2, z + 600 + 600) := n2
  have a2 : μ2.1 a = .inr (6, [.null, .ref (a + 1), .ref (a + 2), .null, .int 0, .int 0, .long 0]) := a2
  refine jX.arI 600 (l := 3) (pc1 := 26) l0 n2 (by omega) a2 (by decide) (by rfl) (by rfl) (by rfl) (by rfl) (by decide) (by rfl) (by rfl) (by rfl) (by rfl) (by rfl) (by rfl) (by rfl) (by rfl) (fun μ3 n3 a3 f3 k3 => ?_)
  have n3 : μ3.2 = (a + 4, c + 3, z + 600 + 600 + 600) := n3
  have a3 : μ3.1 a = .inr (6, [.null, .ref (a + 1), .ref (a + 2), .ref (a + 3), .int 0, .int 0, .long 0]) := a3
  refine jX.pfr (b := 1) l0 l1 a3 (by rfl) (by rfl) (by rfl) (by rfl) (by rfl) (by rfl) (by rfl) (by rfl) (by rfl) (fun μ4 n4 a4 k4 => ?_)
  have n4 : μ4.2 = (a + 4, c + 3, z + 600 + 600 + 600) := n4.trans n3
  have a4 : μ4.1 a = .inr (6, [.ref v1, .ref (a + 1), .ref (a + 2), .ref (a + 3), .int 0, .int 0, .long 0]) := a4
  refine jX.ret (by rfl) (by rfl) (by rfl) (by rfl) (q _ n4 a4 ((k4 _ (by omega)).trans ((k3 _ (by omega) (by omega)).trans ((k2 _ (by omega) (by omega)).trans (f1)))) ((k4 _ (by omega)).trans ((k3 _ (by omega) (by omega)).trans (f2))) ((k4 _ (by omega)).trans (f3)) (fun k hk => ?_))
  exact (k4 _ (by omega)).trans ((k3 _ (by omega) (by omega)).trans ((k2 _ (by omega) (by omega)).trans ((k1 _ (by omega) (by omega)))))
/-- StrandRuntime$Channels -/
theorem n_14 {G : jG} {Q : Option Value ⊕ Nat → jS → Prop} {μ : jS} {a c z : Nat} {v1 : Nat} {v2 : Nat} (ha : μ.1 a = .inr (7, [.null, .null])) (hl : μ.2 = (a + 1, c, z)) (q : ∀ μ' : jS, μ'.2 = (a + 1, c + 0, z) → μ'.1 a = .inr (7, [.ref v1, .ref v2]) → (∀ k, k < a → μ'.1 k = μ.1 k) → Q (.inl none) μ') : jX G jP 14 0 (lv_args 0 [.ref a, .ref v1, .ref v2]) [] μ Q := by
  have l0 : jld (lv_args 0 [.ref a, .ref v1, .ref v2]) 0 = some (.ref a) := by rfl
  have l1 : jld (lv_args 0 [.ref a, .ref v1, .ref v2]) 1 = some (.ref v1) := by rfl
  have l2 : jld (lv_args 0 [.ref a, .ref v1, .ref v2]) 2 = some (.ref v2) := by rfl
  generalize lv_args 0 [.ref a, .ref v1, .ref v2] = lv at *
  refine jX.cobj (rc := none) l0 (by rfl) (by rfl) (by rfl) (by rfl) (by rfl) ?_
  refine jX.pfr (b := 1) l0 l1 ha (by rfl) (by rfl) (by rfl) (by rfl) (by rfl) (by rfl) (by rfl) (by rfl) (by rfl) (fun μ1 n1 a1 k1 => ?_)
  have n1 : μ1.2 = (a + 1, c + 0, z) := n1.trans hl
  have a1 : μ1.1 a = .inr (7, [.ref v1, .null]) := a1
  refine jX.pfr (b := 2) l0 l2 a1 (by rfl) (by rfl) (by rfl) (by rfl) (by rfl) (by rfl) (by rfl) (by rfl) (by rfl) (fun μ2 n2 a2 k2 => ?_)
  have n2 : μ2.2 = (a + 1, c + 0, z) := n2.trans n1
  have a2 : μ2.1 a = .inr (7, [.ref v1, .ref v2]) := a2
  refine jX.ret (by rfl) (by rfl) (by rfl) (by rfl) (q _ n2 a2 (fun k hk => ?_))
  exact (k2 _ (by omega)).trans ((k1 _ (by omega)))
/-- StrandRuntimeModel$Thing -/
theorem n_132 {G : jG} {Q : Option Value ⊕ Nat → jS → Prop} {μ : jS} {a c z : Nat} (ha : μ.1 a = .inr (12, [.int 0, .int 0, .int 0, .int 0, .int 0, .int 0, .null, .null])) (hl : μ.2 = (a + 1, c, z)) (q : ∀ μ' : jS, μ'.2 = (a + 3, c + 2, z + 16 + 16) → μ'.1 a = .inr (12, [.int 0, .int 0, .int 0, .int 0, .int 0, .int 0, .ref (a + 1), .ref (a + 2)]) → μ'.1 (a + 1) = .inl (0, 16, .inl fun _ => 0) → μ'.1 (a + 2) = .inl (1, 16, .inr (.inl fun _ => 0)) → (∀ k, k < a → μ'.1 k = μ.1 k) → Q (.inl none) μ') : jX G jP 132 0 (lv_args 0 [.ref a]) [] μ Q := by
  have l0 : jld (lv_args 0 [.ref a]) 0 = some (.ref a) := by rfl
  generalize lv_args 0 [.ref a] = lv at *
  refine jX.cobj (rc := none) l0 (by rfl) (by rfl) (by rfl) (by rfl) (by rfl) ?_
  refine jX.arI 16 (l := 2) (pc1 := 7) l0 hl (by omega) ha (by decide) (by rfl) (by rfl) (by rfl) (by rfl) (by decide) (by rfl) (by rfl) (by rfl) (by rfl) (by rfl) (by rfl) (by rfl) (by rfl) (fun μ1 n1 a1 f1 k1 => ?_)
  have n1 : μ1.2 = (a + 2, c + 1, z + 16) := n1
  have a1 : μ1.1 a = .inr (12, [.int 0, .int 0, .int 0, .int 0, .int 0, .int 0, .ref (a + 1), .null]) := a1
  refine jX.arL 16 (l := 2) (pc1 := 15) l0 n1 (by omega) a1 (by decide) (by rfl) (by rfl) (by rfl) (by rfl) (by decide) (by rfl) (by rfl) (by rfl) (by rfl) (by rfl) (by rfl) (by rfl) (by rfl) (fun μ2 n2 a2 f2 k2 => ?_)
  have n2 : μ2.2 = (a + 3, c + 2, z + 16 + 16) := n2
  have a2 : μ2.1 a = .inr (12, [.int 0, .int 0, .int 0, .int 0, .int 0, .int 0, .ref (a + 1), .ref (a + 2)]) := a2
  refine jX.ret (by rfl) (by rfl) (by rfl) (by rfl) (q _ n2 a2 ((k2 _ (by omega) (by omega)).trans (f1)) (f2) (fun k hk => ?_))
  exact (k2 _ (by omega) (by omega)).trans ((k1 _ (by omega) (by omega)))
/-- StrandRuntimeModel$Strand -/
theorem n_133 {G : jG} {Q : Option Value ⊕ Nat → jS → Prop} {μ : jS} {a c z : Nat} (ha : μ.1 a = .inr (13, [.int 0, .int 0, .int 0, .long 0, .null])) (hl : μ.2 = (a + 1, c, z)) (q : ∀ μ' : jS, μ'.2 = (a + 2, c + 1, z + 30) → μ'.1 a = .inr (13, [.int 0, .int 0, .int 0, .long 0, .ref (a + 1)]) → μ'.1 (a + 1) = .inl (16, 30, .inr (.inr (.inr (.inr fun _ => none)))) → (∀ k, k < a → μ'.1 k = μ.1 k) → Q (.inl none) μ') : jX G jP 133 0 (lv_args 0 [.ref a]) [] μ Q := by
  have l0 : jld (lv_args 0 [.ref a]) 0 = some (.ref a) := by rfl
  generalize lv_args 0 [.ref a] = lv at *
  refine jX.cobj (rc := none) l0 (by rfl) (by rfl) (by rfl) (by rfl) (by rfl) ?_
  refine jX.arO 30 16 (l := 2) (pc1 := 7) l0 hl (by omega) ha (by decide) (by rfl) (by rfl) (by rfl) (by rfl) (by decide) (by rfl) (by rfl) (by rfl) (by rfl) (by rfl) (by rfl) (by rfl) (by rfl) (by rfl) (fun μ1 n1 a1 f1 k1 => ?_)
  have n1 : μ1.2 = (a + 2, c + 1, z + 30) := n1
  have a1 : μ1.1 a = .inr (13, [.int 0, .int 0, .int 0, .long 0, .ref (a + 1)]) := a1
  refine jX.ret (by rfl) (by rfl) (by rfl) (by rfl) (q _ n1 a1 (f1) (fun k hk => ?_))
  exact (k1 _ (by omega) (by omega))
/-- StrandRuntimeModel$Frame -/
theorem n_134 {G : jG} {Q : Option Value ⊕ Nat → jS → Prop} {μ : jS} {a c z : Nat} (ha : μ.1 a = .inr (14, [.int 0, .int 0, .int 0, .int 0, .int 0, .int 0, .long 0, .int 0, .long 0, .null, .null, .null, .null, .null, .null, .null])) (hl : μ.2 = (a + 1, c, z)) (q : ∀ μ' : jS, μ'.2 = (a + 8, c + 7, z + 12 + 16 + 6 + 6 + 12 + 16 + 6) → μ'.1 a = .inr (14, [.int 0, .int 0, .int 0, .int 0, .int 0, .int 0, .long 0, .int 0, .long 0, .ref (a + 1), .ref (a + 2), .ref (a + 3), .ref (a + 4), .ref (a + 5), .ref (a + 6), .ref (a + 7)]) → μ'.1 (a + 1) = .inl (0, 12, .inl fun _ => 0) → μ'.1 (a + 2) = .inl (0, 16, .inl fun _ => 0) → μ'.1 (a + 3) = .inl (0, 6, .inl fun _ => 0) → μ'.1 (a + 4) = .inl (0, 6, .inl fun _ => 0) → μ'.1 (a + 5) = .inl (1, 12, .inr (.inl fun _ => 0)) → μ'.1 (a + 6) = .inl (1, 16, .inr (.inl fun _ => 0)) → μ'.1 (a + 7) = .inl (1, 6, .inr (.inl fun _ => 0)) → (∀ k, k < a → μ'.1 k = μ.1 k) → Q (.inl none) μ') : jX G jP 134 0 (lv_args 0 [.ref a]) [] μ Q := by
  have l0 : jld (lv_args 0 [.ref a]) 0 = some (.ref a) := by rfl
  generalize lv_args 0 [.ref a] = lv at *
  refine jX.cobj (rc := none) l0 (by rfl) (by rfl) (by rfl) (by rfl) (by rfl) ?_
  refine jX.arI 12 (l := 2) (pc1 := 7) l0 hl (by omega) ha (by decide) (by rfl) (by rfl) (by rfl) (by rfl) (by decide) (by rfl) (by rfl) (by rfl) (by rfl) (by rfl) (by rfl) (by rfl) (by rfl) (fun μ1 n1 a1 f1 k1 => ?_)
  have n1 : μ1.2 = (a + 2, c + 1, z + 12) := n1
  have a1 : μ1.1 a = .inr (14, [.int 0, .int 0, .int 0, .int 0, .int 0, .int 0, .long 0, .int 0, .long 0, .ref (a + 1), .null, .null, .null, .null, .null, .null]) := a1
  refine jX.arI 16 (l := 2) (pc1 := 15) l0 n1 (by omega) a1 (by decide) (by rfl) (by rfl) (by rfl) (by rfl) (by decide) (by rfl) (by rfl) (by rfl) (by rfl) (by rfl) (by rfl) (by rfl) (by rfl) (fun μ2 n2 a2 f2 k2 => ?_)
  have n2 : μ2.2 = (a + 3, c + 2, z + 12 + 16) := n2
  have a2 : μ2.1 a = .inr (14, [.int 0, .int 0, .int 0, .int 0, .int 0, .int 0, .long 0, .int 0, .long 0, .ref (a + 1), .ref (a + 2), .null, .null, .null, .null, .null]) := a2
  refine jX.arI 6 (l := 2) (pc1 := 23) l0 n2 (by omega) a2 (by decide) (by rfl) (by rfl) (by rfl) (by rfl) (by decide) (by rfl) (by rfl) (by rfl) (by rfl) (by rfl) (by rfl) (by rfl) (by rfl) (fun μ3 n3 a3 f3 k3 => ?_)
  have n3 : μ3.2 = (a + 4, c + 3, z + 12 + 16 + 6) := n3
  have a3 : μ3.1 a = .inr (14, [.int 0, .int 0, .int 0, .int 0, .int 0, .int 0, .long 0, .int 0, .long 0, .ref (a + 1), .ref (a + 2), .ref (a + 3), .null, .null, .null, .null]) := a3
  refine jX.arI 6 (l := 2) (pc1 := 31) l0 n3 (by omega) a3 (by decide) (by rfl) (by rfl) (by rfl) (by rfl) (by decide) (by rfl) (by rfl) (by rfl) (by rfl) (by rfl) (by rfl) (by rfl) (by rfl) (fun μ4 n4 a4 f4 k4 => ?_)
  have n4 : μ4.2 = (a + 5, c + 4, z + 12 + 16 + 6 + 6) := n4
  have a4 : μ4.1 a = .inr (14, [.int 0, .int 0, .int 0, .int 0, .int 0, .int 0, .long 0, .int 0, .long 0, .ref (a + 1), .ref (a + 2), .ref (a + 3), .ref (a + 4), .null, .null, .null]) := a4
  refine jX.arL 12 (l := 2) (pc1 := 39) l0 n4 (by omega) a4 (by decide) (by rfl) (by rfl) (by rfl) (by rfl) (by decide) (by rfl) (by rfl) (by rfl) (by rfl) (by rfl) (by rfl) (by rfl) (by rfl) (fun μ5 n5 a5 f5 k5 => ?_)
  have n5 : μ5.2 = (a + 6, c + 5, z + 12 + 16 + 6 + 6 + 12) := n5
  have a5 : μ5.1 a = .inr (14, [.int 0, .int 0, .int 0, .int 0, .int 0, .int 0, .long 0, .int 0, .long 0, .ref (a + 1), .ref (a + 2), .ref (a + 3), .ref (a + 4), .ref (a + 5), .null, .null]) := a5
  refine jX.arL 16 (l := 2) (pc1 := 47) l0 n5 (by omega) a5 (by decide) (by rfl) (by rfl) (by rfl) (by rfl) (by decide) (by rfl) (by rfl) (by rfl) (by rfl) (by rfl) (by rfl) (by rfl) (by rfl) (fun μ6 n6 a6 f6 k6 => ?_)
  have n6 : μ6.2 = (a + 7, c + 6, z + 12 + 16 + 6 + 6 + 12 + 16) := n6
  have a6 : μ6.1 a = .inr (14, [.int 0, .int 0, .int 0, .int 0, .int 0, .int 0, .long 0, .int 0, .long 0, .ref (a + 1), .ref (a + 2), .ref (a + 3), .ref (a + 4), .ref (a + 5), .ref (a + 6), .null]) := a6
  refine jX.arL 6 (l := 2) (pc1 := 55) l0 n6 (by omega) a6 (by decide) (by rfl) (by rfl) (by rfl) (by rfl) (by decide) (by rfl) (by rfl) (by rfl) (by rfl) (by rfl) (by rfl) (by rfl) (by rfl) (fun μ7 n7 a7 f7 k7 => ?_)
  have n7 : μ7.2 = (a + 8, c + 7, z + 12 + 16 + 6 + 6 + 12 + 16 + 6) := n7
  have a7 : μ7.1 a = .inr (14, [.int 0, .int 0, .int 0, .int 0, .int 0, .int 0, .long 0, .int 0, .long 0, .ref (a + 1), .ref (a + 2), .ref (a + 3), .ref (a + 4), .ref (a + 5), .ref (a + 6), .ref (a + 7)]) := a7
  refine jX.ret (by rfl) (by rfl) (by rfl) (by rfl) (q _ n7 a7 ((k7 _ (by omega) (by omega)).trans ((k6 _ (by omega) (by omega)).trans ((k5 _ (by omega) (by omega)).trans ((k4 _ (by omega) (by omega)).trans ((k3 _ (by omega) (by omega)).trans ((k2 _ (by omega) (by omega)).trans (f1))))))) ((k7 _ (by omega) (by omega)).trans ((k6 _ (by omega) (by omega)).trans ((k5 _ (by omega) (by omega)).trans ((k4 _ (by omega) (by omega)).trans ((k3 _ (by omega) (by omega)).trans (f2)))))) ((k7 _ (by omega) (by omega)).trans ((k6 _ (by omega) (by omega)).trans ((k5 _ (by omega) (by omega)).trans ((k4 _ (by omega) (by omega)).trans (f3))))) ((k7 _ (by omega) (by omega)).trans ((k6 _ (by omega) (by omega)).trans ((k5 _ (by omega) (by omega)).trans (f4)))) ((k7 _ (by omega) (by omega)).trans ((k6 _ (by omega) (by omega)).trans (f5))) ((k7 _ (by omega) (by omega)).trans (f6)) (f7) (fun k hk => ?_))
  exact (k7 _ (by omega) (by omega)).trans ((k6 _ (by omega) (by omega)).trans ((k5 _ (by omega) (by omega)).trans ((k4 _ (by omega) (by omega)).trans ((k3 _ (by omega) (by omega)).trans ((k2 _ (by omega) (by omega)).trans ((k1 _ (by omega) (by omega))))))))
