/-! printed by first.py: the memory holds the first store -/
def stbl : List (Nat × Nat × Nat) := [(0, 0, 0), (1, 0, 0), (2, 0, 0), (3, 0, 0), (4, 0, 0), (5, 0, 0), (6, 0, 0), (7, 0, 0), (8, 0, 0), (29, 0, 5), (30, 0, 5), (31, 0, 5), (9, 0, 0), (10, 0, 0), (99, 0, 0), (99, 0, 0), (99, 0, 0), (99, 0, 0), (99, 0, 0), (99, 0, 0), (99, 0, 0), (99, 0, 0), (99, 0, 0), (99, 0, 0), (99, 0, 0), (99, 0, 0), (99, 0, 0), (99, 0, 0), (99, 0, 0), (99, 0, 0), (99, 0, 0), (99, 0, 0), (99, 0, 0), (99, 0, 0), (99, 0, 0), (99, 0, 0), (99, 0, 0), (99, 0, 0), (99, 0, 0), (99, 0, 0), (99, 0, 0), (99, 0, 0), (99, 0, 0), (99, 0, 0), (99, 0, 0), (99, 0, 0), (11, 0, 0), (12, 0, 0), (13, 0, 0), (15, 0, 0), (16, 0, 0), (17, 0, 0), (15, 0, 1), (16, 0, 1), (17, 0, 1), (15, 0, 2), (16, 0, 2), (17, 0, 2), (14, 0, 0), (18, 0, 0), (19, 0, 0), (20, 0, 0), (21, 0, 0), (23, 0, 0), (24, 0, 0), (22, 0, 0), (33, 0, 0), (34, 0, 0), (35, 0, 0), (36, 0, 0), (37, 0, 0), (38, 0, 0), (39, 0, 0), (40, 0, 0), (41, 0, 0), (42, 0, 0), (43, 0, 0), (44, 0, 0), (45, 0, 0), (46, 0, 0), (47, 0, 0), (48, 0, 0), (49, 0, 0), (50, 0, 0)]
def sinv (a : Nat) : Nat × Nat × Nat := if a < 14 then stbl.getD a (99, 0, 0) else if a < 46 then (25 + (a - 14) % 2, (a - 14) / 2, 0) else if a < 84 then stbl.getD a (99, 0, 0) else if a < 3984 then (51 + (a - 84) % 3, (a - 84) / 3, 0) else if a < 7856 then (if (a - 3984) % 242 < 2 then (54 + (a - 3984) % 242, (a - 3984) / 242, 0) else (56 + ((a - 3984) % 242 - 2) % 8, (a - 3984) / 242, ((a - 3984) % 242 - 2) / 8)) else (64, 0, 0)
theorem sv25 {i r : Nat} (hi : i < 16) (hr : r < 2) : sinv (14 + r + 2 * i) = (25 + r, i, 0) := by
  unfold sinv
  rw [if_neg (by omega), if_pos (by omega), show (14 + r + 2 * i - 14) % 2 = r by omega, show (14 + r + 2 * i - 14) / 2 = i by omega]
theorem sv51 {i r : Nat} (hi : i < 1300) (hr : r < 3) : sinv (84 + r + 3 * i) = (51 + r, i, 0) := by
  unfold sinv
  rw [if_neg (by omega), if_neg (by omega), if_neg (by omega), if_pos (by omega), show (84 + r + 3 * i - 84) % 3 = r by omega, show (84 + r + 3 * i - 84) / 3 = i by omega]
theorem sv54 {i r : Nat} (hi : i < 16) (hr : r < 2) : sinv (3984 + r + 242 * i) = (54 + r, i, 0) := by
  unfold sinv
  have h1 : (3984 + r + 242 * i - 3984) % 242 = r := by omega
  have h2 : (3984 + r + 242 * i - 3984) / 242 = i := by omega
  rw [if_neg (by omega), if_neg (by omega), if_neg (by omega), if_neg (by omega), if_pos (by omega), h1, h2, if_pos hr]
theorem sv56 {i j r : Nat} (hi : i < 16) (hj : j < 30) (hr : r < 8) : sinv (3986 + 242 * i + 8 * j + r) = (56 + r, i, j) := by
  unfold sinv
  have h1 : (3986 + 242 * i + 8 * j + r - 3984) % 242 = 2 + 8 * j + r := by omega
  have h2 : (3986 + 242 * i + 8 * j + r - 3984) / 242 = i := by omega
  have h3 : (2 + 8 * j + r - 2) % 8 = r := by omega
  have h4 : (2 + 8 * j + r - 2) / 8 = j := by omega
  rw [if_neg (by omega), if_neg (by omega), if_neg (by omega), if_neg (by omega), if_pos (by omega), h1, h2, if_neg (by omega), h3, h4]
theorem s00 {i j : Nat} (h : (Nat.beq i 0 && Nat.beq j 0) = true) : i = 0 ∧ j = 0 := by
  rw [Bool.and_eq_true] at h
  exact ⟨Nat.eq_of_beq_eq_true h.1, Nat.eq_of_beq_eq_true h.2⟩
theorem sl0 {i j n : Nat} (h : (Nat.blt i n && Nat.beq j 0) = true) : i < n ∧ j = 0 := by
  rw [Bool.and_eq_true] at h
  exact ⟨Nat.le_of_ble_eq_true h.1, Nat.eq_of_beq_eq_true h.2⟩
theorem s0l {i j n : Nat} (h : (Nat.beq i 0 && Nat.blt j n) = true) : i = 0 ∧ j < n := by
  rw [Bool.and_eq_true] at h
  exact ⟨Nat.eq_of_beq_eq_true h.1, Nat.le_of_ble_eq_true h.2⟩
theorem sll {i j n m : Nat} (h : (Nat.blt i n && Nat.blt j m) = true) : i < n ∧ j < m := by
  rw [Bool.and_eq_true] at h
  exact ⟨Nat.le_of_ble_eq_true h.1, Nat.le_of_ble_eq_true h.2⟩
theorem srx0 {i j : Nat} (h : srx (fun _ => false, fun _ => false) i j = true) : i = 0 ∧ j = 5 := by
  unfold srx at h
  simp only [Bool.and_false, Bool.false_or, Bool.and_eq_true] at h
  exact ⟨Nat.eq_of_beq_eq_true h.2, Nat.eq_of_beq_eq_true h.1⟩
theorem sc_S0 {μ : jS} {z : Nat} (hc : cCls μ) (hm : mMod μ) (ho : μ.1 7856 = .inl (1, 1, .inr (.inl fun _ => 0))) : ∀ t i j, sex (fun _ => false, fun _ => false) t i j = true → (μ.1 (spl t i j) = sce (S0 z) t i j ∧ spl t i j < 7857) ∧ sinv (spl t i j) = (t, i, j) := by
  intro t i j h
  match t, h with
  | 0, h => obtain ⟨rfl, rfl⟩ := s00 h; exact ⟨⟨hc.1, by decide⟩, by decide⟩
  | 1, h => obtain ⟨rfl, rfl⟩ := s00 h; exact ⟨⟨hc.2.1.1, by decide⟩, by decide⟩
  | 2, h => obtain ⟨rfl, rfl⟩ := s00 h; exact ⟨⟨hc.2.1.2.1, by decide⟩, by decide⟩
  | 3, h => obtain ⟨rfl, rfl⟩ := s00 h; exact ⟨⟨hc.2.1.2.2.1, by decide⟩, by decide⟩
  | 4, h => obtain ⟨rfl, rfl⟩ := s00 h; exact ⟨⟨hc.2.1.2.2.2.1, by decide⟩, by decide⟩
  | 5, h => obtain ⟨rfl, rfl⟩ := s00 h; exact ⟨⟨hc.2.1.2.2.2.2.1, by decide⟩, by decide⟩
  | 6, h => obtain ⟨rfl, rfl⟩ := s00 h; exact ⟨⟨hc.2.1.2.2.2.2.2.1, by decide⟩, by decide⟩
  | 7, h => obtain ⟨rfl, rfl⟩ := s00 h; exact ⟨⟨hc.2.1.2.2.2.2.2.2, by decide⟩, by decide⟩
  | 8, h => obtain ⟨rfl, rfl⟩ := s00 h; exact ⟨⟨hc.2.2.1.1, by decide⟩, by decide⟩
  | 9, h => obtain ⟨rfl, rfl⟩ := s00 h; exact ⟨⟨hc.2.2.1.2.2.2.2.1, by decide⟩, by decide⟩
  | 10, h => obtain ⟨rfl, rfl⟩ := s00 h; exact ⟨⟨hc.2.2.1.2.2.2.2.2.1, by decide⟩, by decide⟩
  | 11, h => obtain ⟨rfl, rfl⟩ := s00 h; exact ⟨⟨hc.2.2.2.1.1, by decide⟩, by decide⟩
  | 12, h => obtain ⟨rfl, rfl⟩ := s00 h; exact ⟨⟨hc.2.2.2.1.2.1, by decide⟩, by decide⟩
  | 13, h => obtain ⟨rfl, rfl⟩ := s00 h; exact ⟨⟨hc.2.2.2.1.2.2.1, by decide⟩, by decide⟩
  | 14, h => obtain ⟨rfl, rfl⟩ := s00 h; exact ⟨⟨hc.2.2.2.1.2.2.2.2, by decide⟩, by decide⟩
  | 15, h => obtain ⟨rfl, hj⟩ := s0l h; exact ⟨⟨(hc.2.2.2.1.2.2.2.1 j hj).1, by show 49 + 3 * j < 7857; omega⟩, by rcases (show j = 0 ∨ j = 1 ∨ j = 2 by omega) with rfl | rfl | rfl <;> decide⟩
  | 16, h => obtain ⟨rfl, hj⟩ := s0l h; exact ⟨⟨(hc.2.2.2.1.2.2.2.1 j hj).2.1, by show 50 + 3 * j < 7857; omega⟩, by rcases (show j = 0 ∨ j = 1 ∨ j = 2 by omega) with rfl | rfl | rfl <;> decide⟩
  | 17, h => obtain ⟨rfl, hj⟩ := s0l h; exact ⟨⟨(hc.2.2.2.1.2.2.2.1 j hj).2.2, by show 51 + 3 * j < 7857; omega⟩, by rcases (show j = 0 ∨ j = 1 ∨ j = 2 by omega) with rfl | rfl | rfl <;> decide⟩
  | 18, h => obtain ⟨rfl, rfl⟩ := s00 h; exact ⟨⟨hc.2.2.2.2.1.1, by decide⟩, by decide⟩
  | 19, h => obtain ⟨rfl, rfl⟩ := s00 h; exact ⟨⟨hc.2.2.2.2.1.2.1, by decide⟩, by decide⟩
  | 20, h => obtain ⟨rfl, rfl⟩ := s00 h; exact ⟨⟨hc.2.2.2.2.1.2.2.1, by decide⟩, by decide⟩
  | 21, h => obtain ⟨rfl, rfl⟩ := s00 h; exact ⟨⟨hc.2.2.2.2.1.2.2.2, by decide⟩, by decide⟩
  | 22, h => obtain ⟨rfl, rfl⟩ := s00 h; exact ⟨⟨hc.2.2.2.2.2.2.2, by decide⟩, by decide⟩
  | 23, h => obtain ⟨rfl, rfl⟩ := s00 h; exact ⟨⟨hc.2.2.2.2.2.1, by decide⟩, by decide⟩
  | 24, h => obtain ⟨rfl, rfl⟩ := s00 h; exact ⟨⟨hc.2.2.2.2.2.2.1, by decide⟩, by decide⟩
  | 25, h => obtain ⟨hi, rfl⟩ := sl0 h; exact ⟨⟨(hc.2.2.1.2.2.2.2.2.2 i hi).1, by show 14 + 2 * i < 7857; omega⟩, sv25 (r := 0) hi (by decide)⟩
  | 26, h => obtain ⟨hi, rfl⟩ := sl0 h; exact ⟨⟨(hc.2.2.1.2.2.2.2.2.2 i hi).2, by show 15 + 2 * i < 7857; omega⟩, sv25 (r := 1) hi (by decide)⟩
  | 27, h => cases h
  | 28, h => cases h
  | 29, h => obtain ⟨rfl, rfl⟩ := srx0 h; exact ⟨⟨hc.2.2.1.2.1, by decide⟩, by decide⟩
  | 30, h => obtain ⟨rfl, rfl⟩ := srx0 h; exact ⟨⟨hc.2.2.1.2.2.1, by decide⟩, by decide⟩
  | 31, h => obtain ⟨rfl, rfl⟩ := srx0 h; exact ⟨⟨hc.2.2.1.2.2.2.1, by decide⟩, by decide⟩
  | 32, h => cases h
  | 33, h => obtain ⟨rfl, rfl⟩ := s00 h; exact ⟨⟨hm.1, by decide⟩, by decide⟩
  | 34, h => obtain ⟨rfl, rfl⟩ := s00 h; exact ⟨⟨hm.2.1, by decide⟩, by decide⟩
  | 35, h => obtain ⟨rfl, rfl⟩ := s00 h; exact ⟨⟨hm.2.2.1, by decide⟩, by decide⟩
  | 36, h => obtain ⟨rfl, rfl⟩ := s00 h; exact ⟨⟨hm.2.2.2.1.1, by decide⟩, by decide⟩
  | 37, h => obtain ⟨rfl, rfl⟩ := s00 h; exact ⟨⟨hm.2.2.2.1.2.1, by decide⟩, by decide⟩
  | 38, h => obtain ⟨rfl, rfl⟩ := s00 h; exact ⟨⟨hm.2.2.2.1.2.2.1, by decide⟩, by decide⟩
  | 39, h => obtain ⟨rfl, rfl⟩ := s00 h; exact ⟨⟨hm.2.2.2.1.2.2.2.1, by decide⟩, by decide⟩
  | 40, h => obtain ⟨rfl, rfl⟩ := s00 h; exact ⟨⟨hm.2.2.2.1.2.2.2.2.1, by decide⟩, by decide⟩
  | 41, h => obtain ⟨rfl, rfl⟩ := s00 h; exact ⟨⟨hm.2.2.2.1.2.2.2.2.2.1, by decide⟩, by decide⟩
  | 42, h => obtain ⟨rfl, rfl⟩ := s00 h; exact ⟨⟨hm.2.2.2.1.2.2.2.2.2.2.1, by decide⟩, by decide⟩
  | 43, h => obtain ⟨rfl, rfl⟩ := s00 h; exact ⟨⟨hm.2.2.2.1.2.2.2.2.2.2.2.1, by decide⟩, by decide⟩
  | 44, h => obtain ⟨rfl, rfl⟩ := s00 h; exact ⟨⟨hm.2.2.2.1.2.2.2.2.2.2.2.2.1, by decide⟩, by decide⟩
  | 45, h => obtain ⟨rfl, rfl⟩ := s00 h; exact ⟨⟨hm.2.2.2.1.2.2.2.2.2.2.2.2.2.1, by decide⟩, by decide⟩
  | 46, h => obtain ⟨rfl, rfl⟩ := s00 h; exact ⟨⟨hm.2.2.2.1.2.2.2.2.2.2.2.2.2.2.1, by decide⟩, by decide⟩
  | 47, h => obtain ⟨rfl, rfl⟩ := s00 h; exact ⟨⟨hm.2.2.2.1.2.2.2.2.2.2.2.2.2.2.2.1, by decide⟩, by decide⟩
  | 48, h => obtain ⟨rfl, rfl⟩ := s00 h; exact ⟨⟨hm.2.2.2.1.2.2.2.2.2.2.2.2.2.2.2.2.1, by decide⟩, by decide⟩
  | 49, h => obtain ⟨rfl, rfl⟩ := s00 h; exact ⟨⟨hm.2.2.2.1.2.2.2.2.2.2.2.2.2.2.2.2.2.1, by decide⟩, by decide⟩
  | 50, h => obtain ⟨rfl, rfl⟩ := s00 h; exact ⟨⟨hm.2.2.2.1.2.2.2.2.2.2.2.2.2.2.2.2.2.2, by decide⟩, by decide⟩
  | 51, h => obtain ⟨hi, rfl⟩ := sl0 h; exact ⟨⟨(hm.2.2.2.2.1 i hi).1, by show 84 + 3 * i < 7857; omega⟩, sv51 (r := 0) hi (by decide)⟩
  | 52, h => obtain ⟨hi, rfl⟩ := sl0 h; exact ⟨⟨(hm.2.2.2.2.1 i hi).2.1, by show 85 + 3 * i < 7857; omega⟩, sv51 (r := 1) hi (by decide)⟩
  | 53, h => obtain ⟨hi, rfl⟩ := sl0 h; exact ⟨⟨(hm.2.2.2.2.1 i hi).2.2, by show 86 + 3 * i < 7857; omega⟩, sv51 (r := 2) hi (by decide)⟩
  | 54, h => obtain ⟨hi, rfl⟩ := sl0 h; exact ⟨⟨(hm.2.2.2.2.2 i hi).1, by show 3984 + 242 * i < 7857; omega⟩, sv54 (r := 0) hi (by decide)⟩
  | 55, h => obtain ⟨hi, rfl⟩ := sl0 h; exact ⟨⟨(hm.2.2.2.2.2 i hi).2.1, by show 3985 + 242 * i < 7857; omega⟩, sv54 (r := 1) hi (by decide)⟩
  | 56, h => obtain ⟨hi, hj⟩ := sll h; exact ⟨⟨((hm.2.2.2.2.2 i hi).2.2 j hj).1, by show 3986 + 242 * i + 8 * j < 7857; omega⟩, sv56 (r := 0) hi hj (by decide)⟩
  | 57, h => obtain ⟨hi, hj⟩ := sll h; exact ⟨⟨((hm.2.2.2.2.2 i hi).2.2 j hj).2.1, by show 3986 + 242 * i + 8 * j + 1 < 7857; omega⟩, sv56 (r := 1) hi hj (by decide)⟩
  | 58, h => obtain ⟨hi, hj⟩ := sll h; exact ⟨⟨((hm.2.2.2.2.2 i hi).2.2 j hj).2.2.1, by show 3986 + 242 * i + 8 * j + 2 < 7857; omega⟩, sv56 (r := 2) hi hj (by decide)⟩
  | 59, h => obtain ⟨hi, hj⟩ := sll h; exact ⟨⟨((hm.2.2.2.2.2 i hi).2.2 j hj).2.2.2.1, by show 3986 + 242 * i + 8 * j + 3 < 7857; omega⟩, sv56 (r := 3) hi hj (by decide)⟩
  | 60, h => obtain ⟨hi, hj⟩ := sll h; exact ⟨⟨((hm.2.2.2.2.2 i hi).2.2 j hj).2.2.2.2.1, by show 3986 + 242 * i + 8 * j + 4 < 7857; omega⟩, sv56 (r := 4) hi hj (by decide)⟩
  | 61, h => obtain ⟨hi, hj⟩ := sll h; exact ⟨⟨((hm.2.2.2.2.2 i hi).2.2 j hj).2.2.2.2.2.1, by show 3986 + 242 * i + 8 * j + 5 < 7857; omega⟩, sv56 (r := 5) hi hj (by decide)⟩
  | 62, h => obtain ⟨hi, hj⟩ := sll h; exact ⟨⟨((hm.2.2.2.2.2 i hi).2.2 j hj).2.2.2.2.2.2.1, by show 3986 + 242 * i + 8 * j + 6 < 7857; omega⟩, sv56 (r := 6) hi hj (by decide)⟩
  | 63, h => obtain ⟨hi, hj⟩ := sll h; exact ⟨⟨((hm.2.2.2.2.2 i hi).2.2 j hj).2.2.2.2.2.2.2, by show 3986 + 242 * i + 8 * j + 7 < 7857; omega⟩, sv56 (r := 7) hi hj (by decide)⟩
  | 64, h => obtain ⟨rfl, rfl⟩ := s00 h; exact ⟨⟨ho, by decide⟩, by decide⟩
  | n + 65, h => cases h
theorem sR_S0 {μ : jS} {z : Nat} (hn : μ.2 = (7857, 7857, z)) (hc : cCls μ) (hm : mMod μ) (ho : μ.1 7856 = .inl (1, 1, .inr (.inl fun _ => 0))) : sR (S0 z) μ := by
  have key := sc_S0 (z := z) hc hm ho
  refine ⟨fun t i j h => ?_, fun t i j t' i' j' h h' e => ?_, hn⟩
  · obtain ⟨⟨h1, h2⟩, -⟩ := key t i j h
    exact ⟨h1, by rw [hn]; exact h2⟩
  · have h1 := (key t i j h).2
    have h2 := (key t' i' j' h').2
    rw [e, h2] at h1
    simp only [Prod.mk.injEq] at h1
    exact ⟨h1.1.symm, h1.2.1.symm, h1.2.2.symm⟩
/-- the claim's last debt: the law's run over the store -/
theorem jLaw_all (h : ∀ L xs, L ≤ 1536 → sLaw L xs) : ∀ L xs, L ≤ 1536 → jLaw L xs := fun L xs hL => jLaw_of (fun μ z hn hc hm ho => sR_S0 hn hc hm ho) (h L xs hL)
