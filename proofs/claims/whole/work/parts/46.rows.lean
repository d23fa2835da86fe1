/-! Leaves over the store: rows of values. -/
theorem jc_lt0 {i : Nat} (h : i < 2 ^ 31) : jcmp .lt (nI i) 0 = false := decide_eq_false (nI_pos h)
theorem jc_ge {a b : Nat} (ha : a < 2 ^ 31) (hb : b < 2 ^ 31) : jcmp .ge (nI a) (nI b) = decide (b ≤ a) := by
  unfold jcmp
  by_cases h : b ≤ a
  · rw [decide_eq_true h, decide_eq_true ((nI_leI hb ha).mpr h)]
  · rw [decide_eq_false h, decide_eq_false fun z => h ((nI_leI hb ha).mp z)]
theorem jc_geT {a b : Nat} (h : b ≤ a) (ha : a < 2 ^ 31) : jcmp .ge (nI a) (nI b) = true := by rw [jc_ge ha (by omega)]; exact decide_eq_true h
theorem jc_geF {a b : Nat} (h : a < b) (hb : b < 2 ^ 31) : jcmp .ge (nI a) (nI b) = false := by rw [jc_ge (by omega) hb]; exact decide_eq_false (by omega)
theorem jin_N {i n : Nat} (h : i < n) (hn : n < 2 ^ 31) : jin (nI i) n = true := jin_of (vp_in_nI h hn)
theorem srl_le (k : Nat) : srl k ≤ 16 := by
  match k with
  | 0 => decide
  | 1 => decide
  | 2 => decide
  | 3 => decide
  | 4 => decide
  | 5 => decide
  | n + 6 => exact Nat.zero_le 16
/-- a row that is there and holds sz values -/
def rwS (S : sS) (p k sz : Nat) : Prop := srx S.2.2.2.1 p k = true ∧ S.1 29 p k 2 = nI sz ∧ sz ≤ srl k
theorem siI_at (S : sS) (t i j k : Nat) (x : Int32) : (siI S t i j k x).1 t i j k = x := by
  rw [siI_self]
  exact if_pos rfl
theorem siI_k (S : sS) (t i j : Nat) {k k' : Nat} (x : Int32) (h : k' ≠ k) : (siI S t i j k x).1 t i j k' = S.1 t i j k' := by
  rw [siI_self]
  exact if_neg h
theorem f_26 {G : jG} {t : Nat} {S : sS} {p k sz i : Nat} (h : rwS S p k sz) (hi : i < sz) : F_26 G t (p, k) (nI i) S = some (S.2.1 30 p k i, S) := by
  obtain ⟨h1, h2, h3⟩ := h
  have h4 := srl_le k
  unfold F_26
  rw [jc_lt0 (by omega), cond_false]
  show jif (srx S.2.2.2.1 p k) _ = _
  rw [jif_true h1]
  show (bif jcmp .ge (nI i) (S.1 29 p k 2) then _ else _) = _
  rw [h2, jc_geF hi (by omega), cond_false]
  show jif (srx S.2.2.2.1 p k) _ = _
  rw [jif_true h1, jif_true (show jin (nI i) (srl (p, k).2) = true from jin_N (n := srl k) (by omega) (by omega)), nI_clamp (by omega)]
theorem f_26o {G : jG} {t : Nat} {S : sS} {p k sz i : Nat} (h : rwS S p k sz) (hi : sz ≤ i) (hb : i < 2 ^ 31) : F_26 G t (p, k) (nI i) S = some (0, S) := by
  obtain ⟨h1, h2, h3⟩ := h
  unfold F_26
  rw [jc_lt0 hb, cond_false]
  show jif (srx S.2.2.2.1 p k) _ = _
  rw [jif_true h1]
  show (bif jcmp .ge (nI i) (S.1 29 p k 2) then _ else _) = _
  rw [h2, jc_geT hi hb, cond_true]
theorem f_27 {G : jG} {t : Nat} {S : sS} {p k sz i : Nat} (h : rwS S p k sz) (hi : i < sz) : F_27 G t (p, k) (nI i) S = some (S.1 31 p k i, S) := by
  obtain ⟨h1, h2, h3⟩ := h
  have h4 := srl_le k
  unfold F_27
  rw [jc_lt0 (by omega), cond_false]
  show jif (srx S.2.2.2.1 p k) _ = _
  rw [jif_true h1]
  show (bif jcmp .ge (nI i) (S.1 29 p k 2) then _ else _) = _
  rw [h2, jc_geF hi (by omega), cond_false]
  show jif (srx S.2.2.2.1 p k) _ = _
  rw [jif_true h1, jif_true (show jin (nI i) (srl (p, k).2) = true from jin_N (n := srl k) (by omega) (by omega)), nI_clamp (by omega)]
theorem f_27o {G : jG} {t : Nat} {S : sS} {p k sz i : Nat} (h : rwS S p k sz) (hi : sz ≤ i) (hb : i < 2 ^ 31) : F_27 G t (p, k) (nI i) S = some (nI 0, S) := by
  obtain ⟨h1, h2, h3⟩ := h
  unfold F_27
  rw [jc_lt0 hb, cond_false]
  show jif (srx S.2.2.2.1 p k) _ = _
  rw [jif_true h1]
  show (bif jcmp .ge (nI i) (S.1 29 p k 2) then _ else _) = _
  rw [h2, jc_geT hi hb, cond_true]
/-- drop -/
theorem f_76 {G : jG} {t : Nat} {S : sS} {p k sz n : Nat} (h : rwS S p k sz) (hn : n < 2 ^ 31) : F_76 G t (p, k) (nI n) S = some ((), siI S 29 p k 2 (nI (sz - n))) := by
  obtain ⟨h1, h2, h3⟩ := h
  have h4 := srl_le k
  have e : ∀ x : Int32, F_76_19 G t x (p, k) S = some ((), siI S 29 p k 2 x) := fun x => by
    unfold F_76_19
    show jif (srx S.2.2.2.1 p k) _ = _
    rw [jif_true h1]
  unfold F_76
  show jif (srx S.2.2.2.1 p k) _ = _
  rw [jif_true h1]
  show (bif jcmp .ge (nI n) (S.1 29 p k 2) then F_76_19 G t (nI 0) (p, k) S else F_76_19 G t (S.1 29 p k 2 - nI n) (p, k) S) = _
  rw [h2]
  by_cases hc : sz ≤ n
  · rw [jc_geT hc hn, cond_true, e, show sz - n = 0 by omega]
  · rw [jc_geF (by omega) (by omega), cond_false, e, pk_sub (by omega : n ≤ sz)]
/-- push, where there is room -/
def rpush (S : sS) (p k sz : Nat) (x : Int64) (g : Int32) : sS := siI (siI (siL S 30 p k sz x) 31 p k sz g) 29 p k 2 (nI (sz + 1))
theorem f_78 {G : jG} {t : Nat} {S : sS} {p k sz : Nat} {x : Int64} {g : Int32} (h : rwS S p k sz) (hr : sz < srl k) : F_78 G t (p, k) x g S = some ((), rpush S p k sz x g) := by
  obtain ⟨h1, h2, h3⟩ := h
  have h4 := srl_le k
  have e1 : (siL S 30 p k sz x).1 29 p k 2 = nI sz := h2
  have e2 : (siI (siL S 30 p k sz x) 31 p k sz g).1 29 p k 2 = nI sz := by
    rw [siI_ne _ _ _ (by omega)]
    exact h2
  unfold F_78
  show jif (srx S.2.2.2.1 p k) _ = _
  rw [jif_true h1]
  show jif (srx S.2.2.2.1 p k) _ = _
  rw [jif_true h1]
  dsimp only
  rw [h2, show jcmp .ge (nI sz) (Int32.ofNat (srl k)) = false from jc_geF hr (by omega), cond_false, jif_true (jin_N hr (by omega)), nI_clamp (by omega)]
  show jif (srx S.2.2.2.1 p k) _ = _
  rw [jif_true h1, e1, jif_true (jin_N hr (by omega)), nI_clamp (by omega)]
  unfold rpush
  simp only [e2, nI_add]
theorem rpush_row {S : sS} {p k sz : Nat} {x : Int64} {g : Int32} (h : rwS S p k sz) (hr : sz < srl k) : rwS (rpush S p k sz x g) p k (sz + 1) := ⟨h.1, siI_at _ _ _ _ _ _, hr⟩
theorem drop_row {S : sS} {p k sz n : Nat} (h : rwS S p k sz) : rwS (siI S 29 p k 2 (nI (sz - n))) p k (sz - n) := ⟨h.1, siI_at _ _ _ _ _ _, Nat.le_trans (Nat.sub_le _ _) h.2.2⟩
