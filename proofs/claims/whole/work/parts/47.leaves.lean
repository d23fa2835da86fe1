/-! Leaves: the program's tables, a strand's top. -/
theorem f_17 {G : jG} {t : Nat} {S : sS} {F a : Nat} (h : S.1 1 0 0 6 = nI F) (hF : F ≤ 32) (ha : a < F) : F_17 G t (nI a) S = some (S.1 2 0 0 a, S) := by
  unfold F_17
  rw [jc_lt0 (by omega), cond_false, h, jc_geF ha (by omega), cond_false, jif_true (jin_N (by omega) (by omega)), nI_clamp (by omega)]
theorem f_24 {G : jG} {t : Nat} {S : sS} {F a : Nat} (h : S.1 1 0 0 6 = nI F) (hF : F ≤ 32) (ha : a < F) : F_24 G t (nI a) S = some (S.1 3 0 0 a, S) := by
  unfold F_24
  rw [jc_lt0 (by omega), cond_false, h, jc_geF ha (by omega), cond_false, jif_true (jin_N (by omega) (by omega)), nI_clamp (by omega)]
theorem ex_25 {M : sK} {s : Nat} (h : s < 16) : sex M 25 s 0 = true := by
  show (Nat.blt s 16 && Nat.beq 0 0) = true
  rw [show Nat.blt s 16 = true from Nat.ble_eq_true_of_le h]
  rfl
theorem jc_leF {a : Nat} (h0 : 0 < a) (ha : a < 2 ^ 31) : jcmp .le (nI a) 0 = false := decide_eq_false (nI_nle h0 ha)
theorem jc_le0 : jcmp .le (nI 0) 0 = true := by decide
theorem jc_gtF {a b : Nat} (h : a ≤ b) (hb : b < 2 ^ 31) : jcmp .gt (nI a) (nI b) = false := by
  unfold jcmp
  exact decide_eq_false fun z => by have := (nI_ltI hb (by omega)).mp z; omega
theorem f_66z {G : jG} {t : Nat} {S : sS} {s : Nat} (hs : s < 16) (h : S.1 25 s 0 3 = nI 0) : F_66 G t (s, 0) S = some (none, S) := by
  unfold F_66
  show jif (sex S.2.2.2.1 25 s 0) _ = _
  rw [jif_true (ex_25 hs)]
  dsimp only
  rw [h, jc_le0, cond_true]
theorem f_66 {G : jG} {t : Nat} {S : sS} {s d : Nat} (hs : s < 16) (h : S.1 25 s 0 3 = nI (d + 1)) (hd : d < 30) : F_66 G t (s, 0) S = some ((S.2.2.1.1 s d).map fun p => (p, 0), S) := by
  unfold F_66
  show jif (sex S.2.2.2.1 25 s 0) _ = _
  rw [jif_true (ex_25 hs)]
  dsimp only
  rw [h, jc_leF (by omega) (by omega), cond_false, jc_gtF (by omega) (by omega), cond_false]
  show jif (sex S.2.2.2.1 25 s 0) _ = _
  rw [jif_true (ex_25 hs), show nI (d + 1) - nI 1 = nI d from nI_pred d, jif_true (jin_N (by omega) (by omega)), nI_clamp (by omega)]
