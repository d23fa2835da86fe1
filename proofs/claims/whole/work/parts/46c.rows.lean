/-! becomeZeros. -/
def rz (S : sS) (p k : Nat) : Nat → sS
  | 0 => S
  | i + 1 => siI (siL (rz S p k i) 30 p k i 0) 31 p k i (nI 0)
theorem rz_2 (S : sS) (p k : Nat) : ∀ i, (rz S p k i).2.2 = S.2.2 := by
  intro i
  induction i with
  | zero => rfl
  | succ i ih => exact ih
theorem rz_I (S : sS) (p k : Nat) {t a b : Nat} (h : ¬ (t = 31 ∧ a = p ∧ b = k)) : ∀ i, (rz S p k i).1 t a b = S.1 t a b := by
  intro i
  induction i with
  | zero => rfl
  | succ i ih =>
    show (siI (siL (rz S p k i) 30 p k i 0) 31 p k i (nI 0)).1 t a b = _
    rw [siI_ne _ _ _ h]
    exact ih
theorem rz_L (S : sS) (p k : Nat) {t a b : Nat} (h : ¬ (t = 30 ∧ a = p ∧ b = k)) : ∀ i, (rz S p k i).2.1 t a b = S.2.1 t a b := by
  intro i
  induction i with
  | zero => rfl
  | succ i ih =>
    show (siL (rz S p k i) 30 p k i 0).2.1 t a b = _
    rw [siL_ne _ _ _ h]
    exact ih
theorem rz_tag (S : sS) (p k q : Nat) : ∀ i, q < i → (rz S p k i).1 31 p k q = 0 := by
  intro i
  induction i with
  | zero => intro h; omega
  | succ i ih =>
    intro h
    show (siI (siL (rz S p k i) 30 p k i 0) 31 p k i (nI 0)).1 31 p k q = 0
    by_cases e : q = i
    · rw [e, siI_at]; rfl
    · rw [siI_k _ _ _ _ _ e]
      exact ih (by omega)
theorem rz_num (S : sS) (p k q : Nat) : ∀ i, q < i → (rz S p k i).2.1 30 p k q = 0 := by
  intro i
  induction i with
  | zero => intro h; omega
  | succ i ih =>
    intro h
    show (siL (rz S p k i) 30 p k i 0).2.1 30 p k q = 0
    rw [siL_self]
    unfold vp_updL
    by_cases e : q = i
    · rw [if_pos e]
    · rw [if_neg e]
      exact ih (by omega)
theorem f_3l {G : jG} {t : Nat} {S : sS} {p k n : Nat} (h : rwS S p k n) : ∀ d i tt, i + d = n → d < tt → F_3_24 G t tt (p, k) (nI i) (rz S p k i) = some ((), rz S p k n) := by
  obtain ⟨h1, h2, h3⟩ := h
  have h4 := srl_le k
  intro d
  induction d with
  | zero =>
    intro i tt hi ht
    obtain ⟨u, rfl⟩ : ∃ u, tt = u + 1 := ⟨tt - 1, by omega⟩
    obtain rfl : i = n := by omega
    rw [F_3_24]
    show jif (srx (rz S p k i).2.2.2.1 p k) _ = _
    rw [jif_true (by rw [rz_2]; exact h1)]
    dsimp only
    rw [show (rz S p k i).1 29 p k 2 = nI i by rw [rz_I S p k (by omega)]; exact h2, jc_geT (Nat.le_refl _) (by omega), cond_true]
  | succ d ih =>
    intro i tt hi ht
    obtain ⟨u, rfl⟩ : ∃ u, tt = u + 1 := ⟨tt - 1, by omega⟩
    have h1' : srx (rz S p k i).2.2.2.1 p k = true := by rw [rz_2]; exact h1
    rw [F_3_24]
    show jif (srx (rz S p k i).2.2.2.1 p k) _ = _
    rw [jif_true h1']
    dsimp only
    rw [show (rz S p k i).1 29 p k 2 = nI n by rw [rz_I S p k (by omega)]; exact h2, jc_geF (by omega) (by omega), cond_false]
    show jif (srx (rz S p k i).2.2.2.1 p k) _ = _
    rw [jif_true h1', jif_true (jin_N (n := srl k) (by omega) (by omega))]
    show jif (srx (rz S p k i).2.2.2.1 p k) _ = _
    rw [jif_true h1', jif_true (jin_N (n := srl k) (by omega) (by omega)), nI_clamp (by omega), show nI i + Int32.ofInt 1 = nI (i + 1) from nI_1 i]
    exact ih (i + 1) u (by omega) (by omega)
theorem f_3 {G : jG} {t : Nat} {S : sS} {p k n : Nat} (h : srx S.2.2.2.1 p k = true) (hn : n ≤ srl k) (ht : n < t) : F_3 G t (p, k) (nI n) S = some ((), rz (siI S 29 p k 2 (nI n)) p k n) := by
  have h4 := srl_le k
  have hr : rwS (siI S 29 p k 2 (nI n)) p k n := ⟨h, siI_at _ _ _ _ _ _, hn⟩
  have e : F_3_19 G t (p, k) (nI n) (p, k) S = some ((), rz (siI S 29 p k 2 (nI n)) p k n) := by
    unfold F_3_19
    show jif (srx S.2.2.2.1 p k) _ = _
    rw [jif_true h]
    exact f_3l hr n 0 t (by omega) ht
  unfold F_3
  show jif (srx S.2.2.2.1 p k) _ = _
  rw [jif_true h]
  show jif (srx S.2.2.2.1 p k) _ = _
  rw [jif_true h]
  show (bif jcmp .ge (nI n) (nI (srl k)) then F_3_19 G t (p, k) (nI (srl k)) (p, k) S else F_3_19 G t (p, k) (nI n) (p, k) S) = _
  by_cases hc : srl k ≤ n
  · obtain rfl : n = srl k := by omega
    rw [jc_geT hc (by omega), cond_true]
    exact e
  · rw [jc_geF (by omega) (by omega), cond_false]
    exact e
theorem rz_row {S : sS} {p k n : Nat} (h : srx S.2.2.2.1 p k = true) (hn : n ≤ srl k) : rwS (rz (siI S 29 p k 2 (nI n)) p k n) p k n := ⟨by rw [rz_2]; exact h, by rw [rz_I _ p k (by omega)]; exact siI_at _ _ _ _ _ _, hn⟩
