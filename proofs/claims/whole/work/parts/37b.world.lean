/-! The world is made. -/
theorem n_6l {G : jG} {Q : Option Value ⊕ Nat → jS → Prop} {μ0 : jS} {c z : Nat} {W : va_E} (hW : W = .inr (3, [.ref 9, .ref 12, .ref 13, .int 0, .int 0, .int 0, .int 0, .int 0, .int 0])) (h8 : μ0.1 8 = W) (q : ∀ (lv : jL) (μ : jS), jld lv 0 = some (.ref 8) → μ.2 = (46, c + 2 * 16, z + 38 * 16) → (∀ k, k < 14 → k ≠ 12 → μ.1 k = μ0.1 k) → μ.1 12 = .inl (4, 16, .inr (.inr (.inr (.inr (cSt 16))))) → (∀ s, s < 16 → μ.1 (14 + 2 * s) = cSo s ∧ μ.1 (15 + 2 * s) = cSf) → jX G jP 6 63 lv [] μ Q) : ∀ d i, i + d = 16 → ∀ (lv : jL) (μ : jS), jld lv 0 = some (.ref 8) → jld lv 1 = some (.ref 1) → jld lv 2 = some (.int (nI i)) → μ.2 = (14 + 2 * i, c + 2 * i, z + 38 * i) → (∀ k, k < 14 → k ≠ 12 → μ.1 k = μ0.1 k) → μ.1 12 = .inl (4, 16, .inr (.inr (.inr (.inr (cSt i))))) → (∀ s, s < i → μ.1 (14 + 2 * s) = cSo s ∧ μ.1 (15 + 2 * s) = cSf) → jX G jP 6 36 lv [] μ Q := by
  intro d
  induction d with
  | zero =>
    intro i hi lv μ l0 l1 l2 hn hk h12 hs
    obtain rfl : i = 16 := by omega
    refine jX.lin l2 (by rfl) (by rfl) ?_
    refine jX.ic (v := nI 16) (n := 2) (by rfl) (by rfl) (by decide) ?_
    refine jX.geN (t := 63) (by rfl) (by rfl) (by rfl) (by omega) (by omega) (fun _ => ?_) (fun z => by omega)
    exact q lv μ l0 hn hk h12 hs
  | succ d ih =>
    intro i hi lv μ l0 l1 l2 hn hk h12 hs
    refine jX.lin l2 (by rfl) (by rfl) ?_
    refine jX.ic (v := nI 16) (n := 2) (by rfl) (by rfl) (by decide) ?_
    refine jX.geN (t := 63) (by rfl) (by rfl) (by rfl) (by omega) (by omega) (fun z => by omega) (fun _ => ?_)
    refine jX.lrn l0 (by rfl) (by rfl) ?_
    refine jX.gf (by rfl) (by rfl) (by rfl) ((hk 8 (by omega) (by omega)).trans (h8.trans hW)) (by rfl) ?_
    refine jX.lin l2 (by rfl) (by rfl) ?_
    refine jX.newo (by rfl) (by rfl) (by rfl) ?_
    have hn1 : μ.2.1 = 14 + 2 * i := congrArg Prod.fst hn
    refine jX.go (pc' := 51) (by rfl) (by rfl) (by rfl) ?_
    refine jX.lrn l1 (by rfl) (by rfl) ?_
    refine jX.lin l2 (by rfl) (by rfl) ?_
    refine jX.cv (y := 2) (as := [.ref μ.2.1, .ref 1, .int (nI i)]) (rest := [.ref μ.2.1, .int (nI i), .ref 12]) (by rfl) (by rfl) (by rfl) (by rfl) (by rfl) (by rfl) (by rfl) (jrec_new _ _ _) (Nat.le_of_ble_eq_true rfl) (Nat.le_of_ble_eq_true rfl) ?_
    refine n_2 (c := c + 2 * i + 1) (z := z + 38 * i + 8) jnew_self (by
      show (μ.2.1 + 1, μ.2.2.1 + 1, μ.2.2.2 + 8) = (μ.2.1 + 1, c + 2 * i + 1, z + 38 * i + 8)
      rw [hn]) (fun μ1 m1 a1 f1 k1 => ⟨rfl, ?_⟩)
    rw [hn1] at m1 a1 f1 k1 ⊢
    have kk : ∀ k, k < 14 + 2 * i → μ1.1 k = μ.1 k := fun k h => (k1 k h).trans (jnew_ne (by omega))
    refine jX.aastN (d := 2) (by rfl) (by rfl) ((kk 12 (by omega)).trans h12) a1 (by decide) (by omega) ?_
    rw [cSt_up]
    refine jX.inc l2 (by rfl) (by rfl) (by rfl) (fun lv' l2' kp => ?_)
    refine jX.go (pc' := 36) (by rfl) (by rfl) (by rfl) ?_
    have e : nI i + Int32.ofInt 1 = nI (i + 1) := nI_1 i
    rw [e] at l2'
    refine ih (i + 1) (by omega) lv' _ (kp 0 _ l0 (by rfl) (by rfl)) (kp 1 _ l1 (by rfl) (by rfl)) l2' ?_ (fun k h1 h2 => (jw_ne h2).trans ((kk k (by omega)).trans (hk k h1 h2))) jw_self (fun s hs' => ?_)
    · show μ1.2 = _
      rw [m1]
      exact Prod.ext (by show 14 + 2 * i + 2 = 14 + 2 * (i + 1); omega) (Prod.ext (by show c + 2 * i + 1 + 1 = c + 2 * (i + 1); omega) (by show z + 38 * i + 8 + 30 = z + 38 * (i + 1); omega))
    · by_cases h : s = i
      · subst h
        refine ⟨(jw_ne (by omega)).trans (a1.trans ?_), (jw_ne (by omega)).trans ?_⟩
        · unfold cSo
          rw [show 15 + 2 * s = 14 + 2 * s + 1 by omega]
        · rw [show 15 + 2 * s = 14 + 2 * s + 1 by omega]
          exact f1
      · obtain ⟨b1, b2⟩ := hs s (by omega)
        exact ⟨(jw_ne (by omega)).trans ((kk _ (by omega)).trans b1), (jw_ne (by omega)).trans ((kk _ (by omega)).trans b2)⟩
theorem n_6 {G : jG} {Q : Option Value ⊕ Nat → jS → Prop} {μ : jS} {c z : Nat} (ha : μ.1 8 = .inr (3, [.null, .null, .null, .int 0, .int 0, .int 0, .int 0, .int 0, .int 0])) (hl : μ.2 = (9, c, z)) (q : ∀ μ' : jS, μ'.2 = (46, c + 37, z + 3 + 2 * 16 + 16 + 16 + 38 * 16) → μ'.1 8 = .inr (3, [.ref 9, .ref 12, .ref 13, .int 0, .int 0, .int (-1), .int 0, .int 0, .int 0]) → μ'.1 9 = .inr (1, [.ref 10, .ref 11, .int (nI 16)]) → μ'.1 10 = .inl (1, 16, .inr (.inl fun _ => 0)) → μ'.1 11 = .inl (0, 16, .inl fun _ => 0) → μ'.1 12 = .inl (4, 16, .inr (.inr (.inr (.inr (cSt 16))))) → μ'.1 13 = .inl (0, 16, .inl fun _ => 0) → (∀ s, s < 16 → μ'.1 (14 + 2 * s) = cSo s ∧ μ'.1 (15 + 2 * s) = cSf) → (∀ k, k < 8 → μ'.1 k = μ.1 k) → Q (.inl none) μ') : jX G jP 6 0 (lv_args 0 [.ref 8, .ref 1]) [] μ Q := by
  have l0 : jld (lv_args 0 [.ref 8, .ref 1]) 0 = some (.ref 8) := by rfl
  have l1 : jld (lv_args 0 [.ref 8, .ref 1]) 1 = some (.ref 1) := by rfl
  generalize lv_args 0 [Value.ref 8, Value.ref 1] = lv at *
  refine jX.cobj (rc := none) l0 (by rfl) (by rfl) (by rfl) (by rfl) (by rfl) ?_
  refine jX.lrn l0 (by rfl) (by rfl) ?_
  refine jX.nro 16 hl (by decide) (by rfl) (by rfl) (by rfl) (by rfl) (by rfl) (by rfl) (by rfl) (by decide) (pc3 := 2) (pc4 := 11) (by rfl) (by rfl) (by rfl) (by rfl) (Nat.le_of_ble_eq_true rfl) (fun μ1 c1 r1 r2 r3 k1 => ?_)
  refine jX.pfs (fs' := [.ref 9, .null, .null, .int 0, .int 0, .int 0, .int 0, .int 0, .int 0]) (by rfl) (by rfl) (by rfl) ((k1 8 (by omega)).trans ha) (by rfl) (by rfl) (by rfl) (by rfl) ?_
  refine jX.arO 16 4 (l := 2) (pc1 := 20) (n := 12) l0 c1 (by omega) jw_self (by decide) (by rfl) (by rfl) (by rfl) (by rfl) (by decide) (by rfl) (by rfl) (by rfl) (by rfl) (by rfl) (by rfl) (by rfl) (by rfl) (by rfl) (fun μ2 n2 a2 f2 k2 => ?_)
  refine jX.arI 16 (l := 2) (pc1 := 29) (n := 13) l0 n2 (by omega) a2 (by decide) (by rfl) (by rfl) (by rfl) (by rfl) (by decide) (by rfl) (by rfl) (by rfl) (by rfl) (by rfl) (by rfl) (by rfl) (by rfl) (fun μ3 n3 a3 f3 k3 => ?_)
  refine jX.ic (v := nI 0) (n := 1) (by rfl) (by rfl) (by decide) ?_
  refine jX.s1 (k := 2) (pc' := 36) (by rfl) (by rfl) (by rfl) (fun lv' l2 kp => ?_)
  refine n_6l (μ0 := μ3) (c := c + 5) (z := z + 3 + 2 * 16 + 16 + 16) rfl a3 (fun lv μ4 l0 n4 k4 h12 hs => ?_) 16 0 (by omega) lv' μ3 (kp 0 _ l0 (by rfl) (by rfl)) (kp 1 _ l1 (by rfl) (by rfl)) l2 n3 (fun _ _ _ => rfl) ((k3 12 (by omega) (by omega)).trans f2) (fun s hs => by omega)
  refine jX.lrn l0 (by rfl) (by rfl) ?_
  have w3 : ∀ k, k < 12 → k ≠ 8 → μ4.1 k = μ1.1 k := fun k h1 h2 => (k4 k (by omega) (by omega)).trans ((k3 k (by omega) h2).trans ((k2 k (by omega) h2).trans (jw_ne h2)))
  have e8 : μ4.1 8 = .inr (3, [.ref 9, .ref 12, .ref 13, .int 0, .int 0, .int 0, .int 0, .int 0, .int 0]) := (k4 8 (by omega) (by omega)).trans a3
  refine jX.cv (y := 5) (as := [.ref 8]) (rest := []) (by rfl) (by rfl) (by rfl) (by rfl) (by rfl) (by rfl) (by rfl) (by unfold jrec; simp only [e8]; rfl) (Nat.le_of_ble_eq_true rfl) (Nat.le_of_ble_eq_true rfl) ?_
  refine z_5 e8 ((w3 9 (by omega) (by omega)).trans r1) ((w3 10 (by omega) (by omega)).trans r2) ((w3 11 (by omega) (by omega)).trans r3) h12 (fun s h => (hs s h).1) (fun μ5 n5 a5 b5 k5 => ⟨rfl, ?_⟩)
  refine jX.ret (by rfl) (by rfl) (by rfl) (by rfl) (q μ5 (n5.trans n4) a5 b5 ?_ ?_ ?_ ?_ (fun s h => ?_) (fun k hk => ?_))
  · exact (k5 10 (by omega) (by omega)).trans ((w3 10 (by omega) (by omega)).trans r2)
  · exact (k5 11 (by omega) (by omega)).trans ((w3 11 (by omega) (by omega)).trans r3)
  · exact (k5 12 (by omega) (by omega)).trans h12
  · exact (k5 13 (by omega) (by omega)).trans ((k4 13 (by omega) (by omega)).trans f3)
  · exact ⟨(k5 _ (by omega) (by omega)).trans (hs s h).1, (k5 _ (by omega) (by omega)).trans (hs s h).2⟩
  · exact (k5 k (by omega) (by omega)).trans ((w3 k (by omega) (by omega)).trans (k1 k (by omega)))
