/-! More of rows. -/
theorem f_28 {G : jG} {t : Nat} {S : sS} {p k sz i : Nat} {x : Int64} {g : Int32} (h : rwS S p k sz) (hi : i < sz) : F_28 G t (p, k) (nI i) x g S = some ((), siI (siL S 30 p k i x) 31 p k i g) := by
  obtain ⟨h1, h2, h3⟩ := h
  have h4 := srl_le k
  unfold F_28
  rw [jc_lt0 (by omega), cond_false]
  show jif (srx S.2.2.2.1 p k) _ = _
  rw [jif_true h1]
  dsimp only
  rw [h2, jc_geF hi (by omega), cond_false]
  show jif (srx S.2.2.2.1 p k) _ = _
  rw [jif_true h1, jif_true (jin_N (n := srl k) (by omega) (by omega)), nI_clamp (by omega)]
  show jif (srx S.2.2.2.1 p k) _ = _
  rw [jif_true h1, jif_true (jin_N (n := srl k) (by omega) (by omega))]
theorem f_28o {G : jG} {t : Nat} {S : sS} {p k sz i : Nat} {x : Int64} {g : Int32} (h : rwS S p k sz) (hi : sz ≤ i) (hb : i < 2 ^ 31) : F_28 G t (p, k) (nI i) x g S = some ((), S) := by
  obtain ⟨h1, h2, h3⟩ := h
  unfold F_28
  rw [jc_lt0 hb, cond_false]
  show jif (srx S.2.2.2.1 p k) _ = _
  rw [jif_true h1]
  dsimp only
  rw [h2, jc_geT hi hb, cond_true]
