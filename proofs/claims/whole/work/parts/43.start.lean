/-! The law's first steps: both objects are made. -/
theorem cCls.kept {μ μ' : jS} (h : cCls μ) (k : ∀ q, q < 66 → μ'.1 q = μ.1 q) : cCls μ' := by
  obtain ⟨h0, ⟨p1, p2, p3, p4, p5, p6, p7⟩, ⟨w8, w9, w10, w11, w12, w13, ws⟩, ⟨h46, h47, h48, ht, h58⟩, ⟨d1, d2, d3, d4⟩, b1, b2, b3⟩ := h
  exact ⟨(k 0 (by omega)).trans h0, ⟨(k 1 (by omega)).trans p1, (k 2 (by omega)).trans p2, (k 3 (by omega)).trans p3, (k 4 (by omega)).trans p4, (k 5 (by omega)).trans p5, (k 6 (by omega)).trans p6, (k 7 (by omega)).trans p7⟩, ⟨(k 8 (by omega)).trans w8, (k 9 (by omega)).trans w9, (k 10 (by omega)).trans w10, (k 11 (by omega)).trans w11, (k 12 (by omega)).trans w12, (k 13 (by omega)).trans w13, fun s h => ⟨(k _ (by omega)).trans (ws s h).1, (k _ (by omega)).trans (ws s h).2⟩⟩, ⟨(k 46 (by omega)).trans h46, (k 47 (by omega)).trans h47, (k 48 (by omega)).trans h48, fun t h => ⟨(k _ (by omega)).trans (ht t h).1, (k _ (by omega)).trans (ht t h).2.1, (k _ (by omega)).trans (ht t h).2.2⟩, (k 58 (by omega)).trans h58⟩, ⟨(k 59 (by omega)).trans d1, (k 60 (by omega)).trans d2, (k 61 (by omega)).trans d3, (k 62 (by omega)).trans d4⟩, (k 63 (by omega)).trans b1, (k 64 (by omega)).trans b2, (k 65 (by omega)).trans b3⟩
theorem mMod.kept {μ μ' : jS} (h : mMod μ) (k : ∀ q, q < 7856 → μ'.1 q = μ.1 q) : mMod μ' := by
  obtain ⟨h1, h2, h3, ⟨g3, g4, g5, g6, g7, g8, g9, g10, g11, g12, g13, g14, g15, g16, g17⟩, ht, hs⟩ := h
  refine ⟨(k 66 (by omega)).trans h1, (k 67 (by omega)).trans h2, (k 68 (by omega)).trans h3, ⟨(k 69 (by omega)).trans g3, (k 70 (by omega)).trans g4, (k 71 (by omega)).trans g5, (k 72 (by omega)).trans g6, (k 73 (by omega)).trans g7, (k 74 (by omega)).trans g8, (k 75 (by omega)).trans g9, (k 76 (by omega)).trans g10, (k 77 (by omega)).trans g11, (k 78 (by omega)).trans g12, (k 79 (by omega)).trans g13, (k 80 (by omega)).trans g14, (k 81 (by omega)).trans g15, (k 82 (by omega)).trans g16, (k 83 (by omega)).trans g17⟩, fun q hq => ?_, fun s h => (hs s h).kept fun q h1 h2 => k q (by omega)⟩
  obtain ⟨b1, b2, b3⟩ := ht q hq
  exact ⟨(k _ (by omega)).trans b1, (k _ (by omega)).trans b2, (k _ (by omega)).trans b3⟩
theorem law_start {G : jG} {Q : Option Value ⊕ Nat → jS → Prop} (q : ∀ (lv : jL) (μ : jS) (z : Nat), jld lv 0 = some (.float 0) → jld lv 1 = some (.ref 0) → jld lv 2 = some (.ref 66) → jld lv 3 = some (.ref 7856) → jld lv 4 = some (.int (nI 0)) → z ≤ 200000 → μ.2 = (7857, 7857, z) → cCls μ → mMod μ → μ.1 7856 = .inl (1, 1, .inr (.inl fun _ => 0)) → jX G jP 204 23 lv [] μ Q) : jX G jP 204 0 [(0, .float 0)] [] jμ0 Q := by
  have l0 : jld ([(0, .float 0)] : jL) 0 = some (.float 0) := by rfl
  generalize ([(0, Value.float 0)] : jL) = lv at *
  refine jX.newo (by rfl) (by rfl) (by rfl) ?_
  refine jX.go (pc' := 4) (by rfl) (by rfl) (by rfl) ?_
  refine jX.cv (y := 16) (as := [.ref 0]) (rest := [.ref 0]) (by rfl) (by rfl) (by rfl) (by rfl) (by rfl) (by rfl) (by rfl) (jrec_new _ _ _) (Nat.le_of_ble_eq_true rfl) (Nat.le_of_ble_eq_true rfl) ?_
  refine n_16 (c := 1) (z := 5) jnew_self (by rfl) (fun μ1 z1 hz1 m1 c1 => ⟨rfl, ?_⟩)
  refine jX.s1 (k := 1) (pc' := 8) (by rfl) (by rfl) (by rfl) (fun lv l1 kp => ?_)
  replace l0 := kp 0 _ l0 (by rfl) (by rfl)
  obtain ⟨f1, r1⟩ := μ1
  have m1 : r1 = (66, 66, z1) := m1
  subst m1
  refine jX.newo (by rfl) (by rfl) (by rfl) ?_
  refine jX.go (pc' := 12) (by rfl) (by rfl) (by rfl) ?_
  refine jX.cv (y := 135) (as := [.ref 66]) (rest := [.ref 66]) (by rfl) (by rfl) (by rfl) (by rfl) (by rfl) (by rfl) (by rfl) (jrec_new _ _ _) (Nat.le_of_ble_eq_true rfl) (Nat.le_of_ble_eq_true rfl) ?_
  refine n_135 (c := 67) (z := z1 + 41) jnew_self (by rfl) (fun μ2 z2 hz2 m2 c2 k2 => ⟨rfl, ?_⟩)
  have c1' : cCls μ2 := c1.kept fun q hq => (k2 q hq).trans (jnew_ne (by show q ≠ 66; omega))
  refine jX.s1 (k := 2) (pc' := 16) (by rfl) (by rfl) (by rfl) (fun lv l2 kp => ?_)
  replace l0 := kp 0 _ l0 (by rfl) (by rfl)
  replace l1 := kp 1 _ l1 (by rfl) (by rfl)
  obtain ⟨f2, r2⟩ := μ2
  have m2 : r2 = (7856, 67 + 7789, z2) := m2
  subst m2
  refine jX.ic (v := nI 1) (n := 1) (by rfl) (by rfl) (by decide) ?_
  refine jX.newlN (by rfl) (by rfl) (by decide) ?_
  refine jX.s1 (k := 3) (pc' := 20) (by rfl) (by rfl) (by rfl) (fun lv l3 kp => ?_)
  replace l0 := kp 0 _ l0 (by rfl) (by rfl)
  replace l1 := kp 1 _ l1 (by rfl) (by rfl)
  replace l2 := kp 2 _ l2 (by rfl) (by rfl)
  refine jX.ic (v := nI 0) (n := 1) (by rfl) (by rfl) (by decide) ?_
  refine jX.s1 (k := 4) (pc' := 23) (by rfl) (by rfl) (by rfl) (fun lv l4 kp => ?_)
  refine q lv _ (z2 + 1) (kp 0 _ l0 (by rfl) (by rfl)) (kp 1 _ l1 (by rfl) (by rfl)) (kp 2 _ l2 (by rfl) (by rfl)) (kp 3 _ l3 (by rfl) (by rfl)) l4 (by omega) (by rfl) (c1'.kept fun q hq => jnew_ne (by show q ≠ 7856; omega)) (c2.kept fun q hq => jnew_ne (by show q ≠ 7856; omega)) jnew_self
