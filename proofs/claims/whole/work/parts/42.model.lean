/-! The model's strands; the model's object whole. -/
def mSd (μ : jS) (s : Nat) : Prop := μ.1 (3984 + 242 * s) = mSt s ∧ μ.1 (3985 + 242 * s) = .inl (16, 30, .inr (.inr (.inr (.inr (gAr (3986 + 242 * s) 8 30))))) ∧ ∀ d, d < 30 → mFr μ (3986 + 242 * s + 8 * d)
theorem mSd.kept {μ μ' : jS} {s : Nat} (h : mSd μ s) (k : ∀ q, 3984 + 242 * s ≤ q → q < 3984 + 242 * (s + 1) → μ'.1 q = μ.1 q) : mSd μ' s :=
  ⟨(k _ (by omega) (by omega)).trans h.1, (k _ (by omega) (by omega)).trans h.2.1, fun d hd => (h.2.2 d hd).kept fun q h1 h2 => k q (by omega) (by omega)⟩
theorem m_3l {G : jG} {Q : Option Value ⊕ Nat → jS → Prop} {μ0 : jS} {c z : Nat} (h66 : μ0.1 66 = mOb 0) (q : ∀ (lv : jL) (μ : jS), jld lv 0 = some (.ref 66) → μ.2 = (7856, c + 242 * 16, z + 2735 * 16) → (∀ k, k < 3984 → k ≠ 68 → μ.1 k = μ0.1 k) → μ.1 68 = .inl (15, 16, .inr (.inr (.inr (.inr (gAr 3984 242 16))))) → (∀ s, s < 16 → mSd μ s) → jX G jP 135 247 lv [] μ Q) : ∀ d i, i + d = 16 → ∀ (lv : jL) (μ : jS), jld lv 0 = some (.ref 66) → jld lv 1 = some (.int (nI i)) → μ.2 = (3984 + 242 * i, c + 242 * i, z + 2735 * i) → (∀ k, k < 3984 → k ≠ 68 → μ.1 k = μ0.1 k) → μ.1 68 = .inl (15, 16, .inr (.inr (.inr (.inr (gAr 3984 242 i))))) → (∀ s, s < i → mSd μ s) → jX G jP 135 190 lv [] μ Q := by
  intro d
  induction d with
  | zero =>
    intro i hi lv μ l0 l1 hn hk h68 hs
    obtain rfl : i = 16 := by omega
    refine jX.lin l1 (by rfl) (by rfl) ?_
    refine jX.ic (v := nI 16) (n := 2) (by rfl) (by rfl) (by decide) ?_
    refine jX.geN (t := 247) (by rfl) (by rfl) (by rfl) (by omega) (by omega) (fun _ => ?_) (fun z => by omega)
    exact q lv μ l0 hn hk h68 hs
  | succ d ih =>
    intro i hi lv μ l0 l1 hn hk h68 hs
    refine jX.lin l1 (by rfl) (by rfl) ?_
    refine jX.ic (v := nI 16) (n := 2) (by rfl) (by rfl) (by decide) ?_
    refine jX.geN (t := 247) (by rfl) (by rfl) (by rfl) (by omega) (by omega) (fun z => by omega) (fun _ => ?_)
    refine jX.lrn l0 (by rfl) (by rfl) ?_
    refine jX.gf (v := .ref 68) (by rfl) (by rfl) (by rfl) ((hk 66 (by omega) (by omega)).trans h66) (by rfl) ?_
    refine jX.lin l1 (by rfl) (by rfl) ?_
    refine jX.newo (by rfl) (by rfl) (by rfl) ?_
    have hn1 : μ.2.1 = 3984 + 242 * i := congrArg Prod.fst hn
    refine jX.go (pc' := 205) (by rfl) (by rfl) (by rfl) ?_
    refine jX.cv (y := 133) (as := [.ref μ.2.1]) (rest := [.ref μ.2.1, .int (nI i), .ref 68]) (by rfl) (by rfl) (by rfl) (by rfl) (by rfl) (by rfl) (by rfl) (jrec_new _ _ _) (Nat.le_of_ble_eq_true rfl) (Nat.le_of_ble_eq_true rfl) ?_
    refine n_133 (c := c + 242 * i + 1) (z := z + 2735 * i + 5) jnew_self (by
      show (μ.2.1 + 1, μ.2.2.1 + 1, μ.2.2.2 + 5) = (μ.2.1 + 1, c + 242 * i + 1, z + 2735 * i + 5)
      rw [hn]) (fun μ1 m1 a1 f1 k1 => ⟨rfl, ?_⟩)
    rw [hn1] at m1 a1 f1 k1 ⊢
    have kk : ∀ k, k < 3984 + 242 * i → μ1.1 k = μ.1 k := fun k h => (k1 k h).trans (jnew_ne (by omega))
    refine jX.aastN (d := 13) (by rfl) (by rfl) ((kk 68 (by omega)).trans h68) a1 (by decide) (by omega) ?_
    rw [gAr_up]
    rw [show 3984 + 242 * i + 1 = 3985 + 242 * i by omega] at a1 f1
    refine jX.ic (v := nI 0) (n := 1) (by rfl) (by rfl) (by decide) ?_
    refine jX.s1 (k := 2) (pc' := 211) (by rfl) (by rfl) (by rfl) (fun lv' l2 kp => ?_)
    refine m_2l (s := i) (c := c + 242 * i + 2) (z := z + 2735 * i + 35) (by omega) ((jw_ne (by decide)).trans ((kk 66 (by omega)).trans ((hk 66 (by omega) (by omega)).trans h66))) jw_self (gAr_at (by omega)) ((jw_ne (by omega)).trans a1) (fun lv2 μ2 l0' l1' n2 k2 h2 hf => ?_) 30 0 (by omega) lv' _ (kp 0 _ l0 (by rfl) (by rfl)) (kp 1 _ l1 (by rfl) (by rfl)) l2 ?_ (fun _ _ => rfl) ((jw_ne (by omega)).trans f1) (fun i hi => by omega)
    · refine jX.inc l1' (by rfl) (by rfl) (by rfl) (fun lv3 l1'' kp => ?_)
      refine jX.go (pc' := 190) (by rfl) (by rfl) (by rfl) ?_
      have e : nI i + Int32.ofInt 1 = nI (i + 1) := nI_1 i
      rw [e] at l1''
      refine ih (i + 1) (by omega) lv3 μ2 (kp 0 _ l0' (by rfl) (by rfl)) l1'' ?_ (fun k h1 h2 => (k2 k (by omega)).trans ((jw_ne h2).trans ((kk k (by omega)).trans (hk k h1 h2)))) ((k2 68 (by omega)).trans jw_self) (fun s hs' => ?_)
      · rw [n2]
        exact Prod.ext (by show 3986 + 242 * i + 8 * 30 = 3984 + 242 * (i + 1); omega) (Prod.ext (by show c + 242 * i + 2 + 8 * 30 = c + 242 * (i + 1); omega) (by show z + 2735 * i + 35 + 90 * 30 = z + 2735 * (i + 1); omega))
      · by_cases h : s = i
        · subst h
          exact ⟨(k2 _ (by omega)).trans ((jw_ne (by omega)).trans a1), h2, hf⟩
        · exact (hs s (by omega)).kept fun q h1 h2 => (k2 q (by omega)).trans ((jw_ne (by omega)).trans (kk q (by omega)))
    · show μ1.2 = _
      rw [m1]
      exact Prod.ext (by show 3984 + 242 * i + 2 = 3986 + 242 * i + 8 * 0; omega) (Prod.ext (by show c + 242 * i + 1 + 1 = c + 242 * i + 2 + 8 * 0; omega) (by show z + 2735 * i + 5 + 30 = z + 2735 * i + 35 + 90 * 0; omega))
/-- what lies at the places of the model's object -/
def mMod (μ : jS) : Prop :=
  μ.1 66 = mOb (-1) ∧ μ.1 67 = .inl (14, 1300, .inr (.inr (.inr (.inr (gAr 84 3 1300))))) ∧ μ.1 68 = .inl (15, 16, .inr (.inr (.inr (.inr (gAr 3984 242 16))))) ∧
  (μ.1 69 = .inl (0, 16, .inl fun _ => 0) ∧ μ.1 70 = .inl (0, 32, .inl fun _ => 0) ∧ μ.1 71 = .inl (0, 32, .inl fun _ => 0) ∧ μ.1 72 = .inl (0, 32, .inl fun _ => 0) ∧ μ.1 73 = .inl (0, 32, .inl fun _ => 0) ∧ μ.1 74 = .inl (0, 1500, .inl fun _ => 0) ∧ μ.1 75 = .inl (0, 1500, .inl fun _ => 0) ∧ μ.1 76 = .inl (1, 16, .inr (.inl fun _ => 0)) ∧ μ.1 77 = .inl (1, 2000, .inr (.inl fun _ => 0)) ∧ μ.1 78 = .inl (0, 17, .inl fun _ => 0) ∧ μ.1 79 = .inl (0, 1300, .inl fun _ => 0) ∧ μ.1 80 = .inl (0, 16, .inl fun _ => 0) ∧ μ.1 81 = .inl (1, 16, .inr (.inl fun _ => 0)) ∧ μ.1 82 = .inl (0, 1300, .inl fun _ => 0) ∧ μ.1 83 = .inl (0, 1300, .inl fun _ => 0)) ∧
  (∀ k, k < 1300 → mTg μ k) ∧ ∀ s, s < 16 → mSd μ s
theorem n_135 {G : jG} {Q : Option Value ⊕ Nat → jS → Prop} {μ : jS} {c z : Nat} (ha : μ.1 66 = .inr (15, [.null, .null, .null, .null, .null, .null, .null, .null, .null, .null, .null, .null, .null, .int 0, .int 0, .int 0, .int 0, .int 0, .int 0, .int 0, .int 0, .int 0, .int 0, .int 0, .int 0, .int 0, .int 0, .int 0, .long 0, .int 0, .int 0, .null, .null, .int 0, .long 0, .int 0, .int 0, .long 0, .int 0, .null, .null])) (hl : μ.2 = (67, c, z)) (q : ∀ (μ' : jS) (z' : Nat), z' ≤ z + 120000 → μ'.2 = (7856, c + 7789, z') → mMod μ' → (∀ k, k < 66 → μ'.1 k = μ.1 k) → Q (.inl none) μ') : jX G jP 135 0 (lv_args 0 [.ref 66]) [] μ Q := by
  have l0 : jld (lv_args 0 [.ref 66]) 0 = some (.ref 66) := by rfl
  generalize lv_args 0 [Value.ref 66] = lv at *
  refine n_135h l0 ha hl (fun μ1 m1 o1 g1 g2 g3 g4 g5 g6 g7 g8 g9 g10 g11 g12 g13 g14 g15 g16 g17 k1 => ?_)
  have o1' : μ1.1 66 = mOb 0 := o1
  refine jX.ic (v := nI 0) (n := 1) (by rfl) (by rfl) (by decide) ?_
  refine jX.s1 (k := 1) (pc' := 162) (by rfl) (by rfl) (by rfl) (fun lv1 l1 kp => ?_)
  refine m_1l (c := c + 17) (z := z + 1300 + 16 + 16 + 32 + 32 + 32 + 32 + 1500 + 1500 + 16 + 2000 + 17 + 1300 + 16 + 16 + 1300 + 1300) o1' (fun lv2 μ2 l0 m2 k2 h67 ht => ?_) 1300 0 (by omega) lv1 μ1 (kp 0 _ l0 (by rfl) (by rfl)) l1 m1 (fun _ _ _ => rfl) g1 (fun s hs => by omega)
  refine jX.ic (v := nI 0) (n := 1) (by rfl) (by rfl) (by decide) ?_
  refine jX.s1 (k := 1) (pc' := 190) (by rfl) (by rfl) (by rfl) (fun lv3 l1 kp => ?_)
  refine m_3l (c := c + 17 + 3 * 1300) (z := z + 1300 + 16 + 16 + 32 + 32 + 32 + 32 + 1500 + 1500 + 16 + 2000 + 17 + 1300 + 16 + 16 + 1300 + 1300 + 40 * 1300) ((k2 66 (by omega) (by omega)).trans o1') (fun lv4 μ3 l0 m3 k3 h68 hs => ?_) 16 0 (by omega) lv3 μ2 (kp 0 _ l0 (by rfl) (by rfl)) l1 m2 (fun _ _ _ => rfl) ((k2 68 (by omega) (by omega)).trans g2) (fun s hs => by omega)
  have o3 : μ3.1 66 = mOb 0 := (k3 66 (by omega) (by omega)).trans ((k2 66 (by omega) (by omega)).trans o1')
  refine jX.pfi (x := -1) (l := 1) (pc1 := 249) l0 o3 (by rfl) (by rfl) (by rfl) (by rfl) (by decide) (by rfl) (by rfl) (by rfl) (by rfl) (by rfl) (by rfl) (fun μ4 n4 a4 k4 => ?_)
  have w : ∀ k, k < 84 → k ≠ 66 → k ≠ 67 → k ≠ 68 → μ4.1 k = μ1.1 k := fun k h1 h2 h3 h4 => (k4 k h2).trans ((k3 k (by omega) h4).trans (k2 k h1 h3))
  refine jX.ret (by rfl) (by rfl) (by rfl) (by rfl) (q μ4 (z + 1300 + 16 + 16 + 32 + 32 + 32 + 32 + 1500 + 1500 + 16 + 2000 + 17 + 1300 + 16 + 16 + 1300 + 1300 + 40 * 1300 + 2735 * 16) (by omega) ?_ ?_ (fun k hk => (w k (by omega) (by omega) (by omega) (by omega)).trans (k1 k hk)))
  · rw [n4, m3]
  · refine ⟨a4, (k4 67 (by omega)).trans ((k3 67 (by omega) (by omega)).trans h67), (k4 68 (by omega)).trans h68, ⟨(w 69 (by omega) (by omega) (by omega) (by omega)).trans g3, (w 70 (by omega) (by omega) (by omega) (by omega)).trans g4, (w 71 (by omega) (by omega) (by omega) (by omega)).trans g5, (w 72 (by omega) (by omega) (by omega) (by omega)).trans g6, (w 73 (by omega) (by omega) (by omega) (by omega)).trans g7, (w 74 (by omega) (by omega) (by omega) (by omega)).trans g8, (w 75 (by omega) (by omega) (by omega) (by omega)).trans g9, (w 76 (by omega) (by omega) (by omega) (by omega)).trans g10, (w 77 (by omega) (by omega) (by omega) (by omega)).trans g11, (w 78 (by omega) (by omega) (by omega) (by omega)).trans g12, (w 79 (by omega) (by omega) (by omega) (by omega)).trans g13, (w 80 (by omega) (by omega) (by omega) (by omega)).trans g14, (w 81 (by omega) (by omega) (by omega) (by omega)).trans g15, (w 82 (by omega) (by omega) (by omega) (by omega)).trans g16, (w 83 (by omega) (by omega) (by omega) (by omega)).trans g17⟩, fun k hk => ?_, fun s h => (hs s h).kept fun q h1 h2 => k4 q (by omega)⟩
    obtain ⟨b1, b2, b3⟩ := ht k hk
    exact ⟨(k4 _ (by omega)).trans ((k3 _ (by omega) (by omega)).trans b1), (k4 _ (by omega)).trans ((k3 _ (by omega) (by omega)).trans b2), (k4 _ (by omega)).trans ((k3 _ (by omega) (by omega)).trans b3)⟩
