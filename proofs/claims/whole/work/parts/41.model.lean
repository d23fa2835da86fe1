/-! The model is made: its things, its strands and frames. -/
def gAr (b m n : Nat) : Nat → Option Nat := fun q => bif Nat.blt q n then some (b + m * q) else none
theorem gAr_up (b m n : Nat) : va_up (gAr b m n) n (some (b + m * n)) = gAr b m (n + 1) := by
  funext k
  unfold va_up gAr
  by_cases hk : k = n
  · rw [if_pos hk, hk, show Nat.blt n (n + 1) = true from Nat.ble_eq_true_of_le (Nat.lt_succ_self n), cond_true]
  · rw [if_neg hk]
    cases e : Nat.blt k n with
    | true =>
      have := Nat.le_of_ble_eq_true e
      rw [show Nat.blt k (n + 1) = true from Nat.ble_eq_true_of_le (by omega)]
    | false =>
      cases e2 : Nat.blt k (n + 1) with
      | true =>
        have h2 : k < n + 1 := Nat.le_of_ble_eq_true e2
        rw [show Nat.blt k n = true from Nat.ble_eq_true_of_le (by omega)] at e
        cases e
      | false => rfl
theorem gAr_at {b m n k : Nat} (h : k < n) : gAr b m n k = some (b + m * k) := by
  unfold gAr
  rw [show Nat.blt k n = true from Nat.ble_eq_true_of_le h, cond_true]
/-- the model's object -/
def mOb (r : Int32) : va_E := .inr (15, [.ref 67, .ref 68, .ref 69, .ref 70, .ref 71, .ref 72, .ref 73, .ref 74, .ref 75, .ref 76, .ref 77, .ref 78, .ref 79, .int 0, .int 0, .int 0, .int r, .int 0, .int (nI 10), .int (nI 5), .int 0, .int 0, .int 0, .int 0, .int 0, .int 0, .int 0, .int 0, .long 0, .int 0, .int 0, .ref 80, .ref 81, .int 0, .long 0, .int 0, .int 0, .long 0, .int 0, .ref 82, .ref 83])
def mTg (μ : jS) (k : Nat) : Prop := μ.1 (84 + 3 * k) = .inr (12, [.int 0, .int 0, .int 0, .int 0, .int 0, .int 0, .ref (85 + 3 * k), .ref (86 + 3 * k)]) ∧ μ.1 (85 + 3 * k) = .inl (0, 16, .inl fun _ => 0) ∧ μ.1 (86 + 3 * k) = .inl (1, 16, .inr (.inl fun _ => 0))
theorem m_1l {G : jG} {Q : Option Value ⊕ Nat → jS → Prop} {μ0 : jS} {c z : Nat} (h66 : μ0.1 66 = mOb 0) (q : ∀ (lv : jL) (μ : jS), jld lv 0 = some (.ref 66) → μ.2 = (3984, c + 3 * 1300, z + 40 * 1300) → (∀ k, k < 84 → k ≠ 67 → μ.1 k = μ0.1 k) → μ.1 67 = .inl (14, 1300, .inr (.inr (.inr (.inr (gAr 84 3 1300))))) → (∀ s, s < 1300 → mTg μ s) → jX G jP 135 188 lv [] μ Q) : ∀ d i, i + d = 1300 → ∀ (lv : jL) (μ : jS), jld lv 0 = some (.ref 66) → jld lv 1 = some (.int (nI i)) → μ.2 = (84 + 3 * i, c + 3 * i, z + 40 * i) → (∀ k, k < 84 → k ≠ 67 → μ.1 k = μ0.1 k) → μ.1 67 = .inl (14, 1300, .inr (.inr (.inr (.inr (gAr 84 3 i))))) → (∀ s, s < i → mTg μ s) → jX G jP 135 162 lv [] μ Q := by
  intro d
  induction d with
  | zero =>
    intro i hi lv μ l0 l1 hn hk h67 hs
    obtain rfl : i = 1300 := by omega
    refine jX.lin l1 (by rfl) (by rfl) ?_
    refine jX.ic (v := nI 1300) (n := 3) (by rfl) (by rfl) (by decide) ?_
    refine jX.geN (t := 188) (by rfl) (by rfl) (by rfl) (by omega) (by omega) (fun _ => ?_) (fun z => by omega)
    exact q lv μ l0 hn hk h67 hs
  | succ d ih =>
    intro i hi lv μ l0 l1 hn hk h67 hs
    refine jX.lin l1 (by rfl) (by rfl) ?_
    refine jX.ic (v := nI 1300) (n := 3) (by rfl) (by rfl) (by decide) ?_
    refine jX.geN (t := 188) (by rfl) (by rfl) (by rfl) (by omega) (by omega) (fun z => by omega) (fun _ => ?_)
    refine jX.lrn l0 (by rfl) (by rfl) ?_
    refine jX.gf (v := .ref 67) (by rfl) (by rfl) (by rfl) ((hk 66 (by omega) (by omega)).trans h66) (by rfl) ?_
    refine jX.lin l1 (by rfl) (by rfl) ?_
    refine jX.newo (by rfl) (by rfl) (by rfl) ?_
    have hn1 : μ.2.1 = 84 + 3 * i := congrArg Prod.fst hn
    refine jX.go (pc' := 178) (by rfl) (by rfl) (by rfl) ?_
    refine jX.cv (y := 132) (as := [.ref μ.2.1]) (rest := [.ref μ.2.1, .int (nI i), .ref 67]) (by rfl) (by rfl) (by rfl) (by rfl) (by rfl) (by rfl) (by rfl) (jrec_new _ _ _) (Nat.le_of_ble_eq_true rfl) (Nat.le_of_ble_eq_true rfl) ?_
    refine n_132 (c := c + 3 * i + 1) (z := z + 40 * i + 8) jnew_self (by
      show (μ.2.1 + 1, μ.2.2.1 + 1, μ.2.2.2 + 8) = (μ.2.1 + 1, c + 3 * i + 1, z + 40 * i + 8)
      rw [hn]) (fun μ1 m1 a1 f1 f2 k1 => ⟨rfl, ?_⟩)
    rw [hn1] at m1 a1 f1 f2 k1 ⊢
    have kk : ∀ k, k < 84 + 3 * i → μ1.1 k = μ.1 k := fun k h => (k1 k h).trans (jnew_ne (by omega))
    refine jX.aastN (d := 12) (by rfl) (by rfl) ((kk 67 (by omega)).trans h67) a1 (by decide) (by omega) ?_
    rw [gAr_up]
    refine jX.inc l1 (by rfl) (by rfl) (by rfl) (fun lv' l1' kp => ?_)
    refine jX.go (pc' := 162) (by rfl) (by rfl) (by rfl) ?_
    have e : nI i + Int32.ofInt 1 = nI (i + 1) := nI_1 i
    rw [e] at l1'
    refine ih (i + 1) (by omega) lv' _ (kp 0 _ l0 (by rfl) (by rfl)) l1' ?_ (fun k h1 h2 => (jw_ne h2).trans ((kk k (by omega)).trans (hk k h1 h2))) jw_self (fun s hs' => ?_)
    · show μ1.2 = _
      rw [m1]
      exact Prod.ext (by show 84 + 3 * i + 3 = 84 + 3 * (i + 1); omega) (Prod.ext (by show c + 3 * i + 1 + 2 = c + 3 * (i + 1); omega) (by show z + 40 * i + 8 + 16 + 16 = z + 40 * (i + 1); omega))
    · by_cases h : s = i
      · subst h
        rw [show 84 + 3 * s + 1 = 85 + 3 * s by omega, show 84 + 3 * s + 2 = 86 + 3 * s by omega] at a1
        rw [show 84 + 3 * s + 1 = 85 + 3 * s by omega] at f1
        rw [show 84 + 3 * s + 2 = 86 + 3 * s by omega] at f2
        exact ⟨(jw_ne (by omega)).trans a1, (jw_ne (by omega)).trans f1, (jw_ne (by omega)).trans f2⟩
      · obtain ⟨b1, b2, b3⟩ := hs s (by omega)
        exact ⟨(jw_ne (by omega)).trans ((kk _ (by omega)).trans b1), (jw_ne (by omega)).trans ((kk _ (by omega)).trans b2), (jw_ne (by omega)).trans ((kk _ (by omega)).trans b3)⟩
/-- a strand's object; a frame at place p -/
def mSt (s : Nat) : va_E := .inr (13, [.int 0, .int 0, .int 0, .long 0, .ref (3985 + 242 * s)])
def mFr (μ : jS) (p : Nat) : Prop := μ.1 p = .inr (14, [.int 0, .int 0, .int 0, .int 0, .int 0, .int 0, .long 0, .int 0, .long 0, .ref (p + 1), .ref (p + 2), .ref (p + 3), .ref (p + 4), .ref (p + 5), .ref (p + 6), .ref (p + 7)]) ∧ μ.1 (p + 1) = .inl (0, 12, .inl fun _ => 0) ∧ μ.1 (p + 2) = .inl (0, 16, .inl fun _ => 0) ∧ μ.1 (p + 3) = .inl (0, 6, .inl fun _ => 0) ∧ μ.1 (p + 4) = .inl (0, 6, .inl fun _ => 0) ∧ μ.1 (p + 5) = .inl (1, 12, .inr (.inl fun _ => 0)) ∧ μ.1 (p + 6) = .inl (1, 16, .inr (.inl fun _ => 0)) ∧ μ.1 (p + 7) = .inl (1, 6, .inr (.inl fun _ => 0))
theorem mFr.kept {μ μ' : jS} {p : Nat} (h : mFr μ p) (k : ∀ q, p ≤ q → q < p + 8 → μ'.1 q = μ.1 q) : mFr μ' p := by
  obtain ⟨h0, h1, h2, h3, h4, h5, h6, h7⟩ := h
  exact ⟨(k p (by omega) (by omega)).trans h0, (k _ (by omega) (by omega)).trans h1, (k _ (by omega) (by omega)).trans h2, (k _ (by omega) (by omega)).trans h3, (k _ (by omega) (by omega)).trans h4, (k _ (by omega) (by omega)).trans h5, (k _ (by omega) (by omega)).trans h6, (k _ (by omega) (by omega)).trans h7⟩
/-- the frames of strand s -/
theorem m_2l {G : jG} {Q : Option Value ⊕ Nat → jS → Prop} {μ0 : jS} {s c z : Nat} (hs16 : s < 16) {f : Nat → Option Nat} (h66 : μ0.1 66 = mOb 0) (h68 : μ0.1 68 = .inl (15, 16, .inr (.inr (.inr (.inr f))))) (hf : f s = some (3984 + 242 * s)) (hst : μ0.1 (3984 + 242 * s) = mSt s) (q : ∀ (lv : jL) (μ : jS), jld lv 0 = some (.ref 66) → jld lv 1 = some (.int (nI s)) → μ.2 = (3986 + 242 * s + 8 * 30, c + 8 * 30, z + 90 * 30) → (∀ k, k < 3985 + 242 * s → μ.1 k = μ0.1 k) → μ.1 (3985 + 242 * s) = .inl (16, 30, .inr (.inr (.inr (.inr (gAr (3986 + 242 * s) 8 30))))) → (∀ d, d < 30 → mFr μ (3986 + 242 * s + 8 * d)) → jX G jP 135 241 lv [] μ Q) : ∀ e d, d + e = 30 → ∀ (lv : jL) (μ : jS), jld lv 0 = some (.ref 66) → jld lv 1 = some (.int (nI s)) → jld lv 2 = some (.int (nI d)) → μ.2 = (3986 + 242 * s + 8 * d, c + 8 * d, z + 90 * d) → (∀ k, k < 3985 + 242 * s → μ.1 k = μ0.1 k) → μ.1 (3985 + 242 * s) = .inl (16, 30, .inr (.inr (.inr (.inr (gAr (3986 + 242 * s) 8 d))))) → (∀ i, i < d → mFr μ (3986 + 242 * s + 8 * i)) → jX G jP 135 211 lv [] μ Q := by
  intro e
  induction e with
  | zero =>
    intro d hd lv μ l0 l1 l2 hn hk h2 hs
    obtain rfl : d = 30 := by omega
    refine jX.lin l2 (by rfl) (by rfl) ?_
    refine jX.ic (v := nI 30) (n := 2) (by rfl) (by rfl) (by decide) ?_
    refine jX.geN (t := 241) (by rfl) (by rfl) (by rfl) (by omega) (by omega) (fun _ => ?_) (fun z => by omega)
    exact q lv μ l0 l1 hn hk h2 hs
  | succ e ih =>
    intro d hd lv μ l0 l1 l2 hn hk h2 hs
    refine jX.lin l2 (by rfl) (by rfl) ?_
    refine jX.ic (v := nI 30) (n := 2) (by rfl) (by rfl) (by decide) ?_
    refine jX.geN (t := 241) (by rfl) (by rfl) (by rfl) (by omega) (by omega) (fun z => by omega) (fun _ => ?_)
    refine jX.lrn l0 (by rfl) (by rfl) ?_
    refine jX.gf (v := .ref 68) (by rfl) (by rfl) (by rfl) ((hk 66 (by omega)).trans h66) (by rfl) ?_
    refine jX.lin l1 (by rfl) (by rfl) ?_
    refine jX.aaldN (by rfl) (by rfl) ((hk 68 (by omega)).trans h68) (by decide) hs16 ?_
    rw [hf]
    refine jX.gf (a := 3984 + 242 * s) (v := .ref (3985 + 242 * s)) (by rfl) (by rfl) (by rfl) ((hk _ (by omega)).trans hst) (by rfl) ?_
    refine jX.lin l2 (by rfl) (by rfl) ?_
    refine jX.newo (by rfl) (by rfl) (by rfl) ?_
    have hn1 : μ.2.1 = 3986 + 242 * s + 8 * d := congrArg Prod.fst hn
    refine jX.go (pc' := 231) (by rfl) (by rfl) (by rfl) ?_
    refine jX.cv (y := 134) (as := [.ref μ.2.1]) (rest := [.ref μ.2.1, .int (nI d), .ref (3985 + 242 * s)]) (by rfl) (by rfl) (by rfl) (by rfl) (by rfl) (by rfl) (by rfl) (jrec_new _ _ _) (Nat.le_of_ble_eq_true rfl) (Nat.le_of_ble_eq_true rfl) ?_
    refine n_134 (c := c + 8 * d + 1) (z := z + 90 * d + 16) jnew_self (by
      show (μ.2.1 + 1, μ.2.2.1 + 1, μ.2.2.2 + 16) = (μ.2.1 + 1, c + 8 * d + 1, z + 90 * d + 16)
      rw [hn]) (fun μ1 m1 a0 a1 a2 a3 a4 a5 a6 a7 k1 => ⟨rfl, ?_⟩)
    rw [hn1] at m1 a0 a1 a2 a3 a4 a5 a6 a7 k1 ⊢
    have kk : ∀ k, k < 3986 + 242 * s + 8 * d → μ1.1 k = μ.1 k := fun k h => (k1 k h).trans (jnew_ne (by omega))
    refine jX.aastN (d := 14) (by rfl) (by rfl) ((kk _ (by omega)).trans h2) a0 (by decide) (by omega) ?_
    rw [gAr_up]
    refine jX.inc l2 (by rfl) (by rfl) (by rfl) (fun lv' l2' kp => ?_)
    refine jX.go (pc' := 211) (by rfl) (by rfl) (by rfl) ?_
    have e : nI d + Int32.ofInt 1 = nI (d + 1) := nI_1 d
    rw [e] at l2'
    refine ih (d + 1) (by omega) lv' _ (kp 0 _ l0 (by rfl) (by rfl)) (kp 1 _ l1 (by rfl) (by rfl)) l2' ?_ (fun k h => (jw_ne (by omega)).trans ((kk k (by omega)).trans (hk k h))) jw_self (fun i hi => ?_)
    · show μ1.2 = _
      rw [m1]
      exact Prod.ext (by show 3986 + 242 * s + 8 * d + 8 = 3986 + 242 * s + 8 * (d + 1); omega) (Prod.ext (by show c + 8 * d + 1 + 7 = c + 8 * (d + 1); omega) (by show z + 90 * d + 16 + 12 + 16 + 6 + 6 + 12 + 16 + 6 = z + 90 * (d + 1); omega))
    · by_cases h : i = d
      · subst h
        exact mFr.kept (μ := μ1) ⟨a0, a1, a2, a3, a4, a5, a6, a7⟩ (fun q h1 h2 => jw_ne (by omega))
      · exact (hs i (by omega)).kept (fun q h1 h2 => (jw_ne (by omega)).trans (kk q (by omega)))
