/-! Reads over writes, comparisons, as rows for simp. -/
theorem gI (S : sS) (t i j k : Nat) (x : Int32) (t' i' j' k' : Nat) : (siI S t i j k x).1 t' i' j' k' = if t' = t ∧ i' = i ∧ j' = j ∧ k' = k then x else S.1 t' i' j' k' := by
  by_cases h : t' = t ∧ i' = i ∧ j' = j
  · obtain ⟨rfl, rfl, rfl⟩ := h
    rw [siI_self]
    by_cases h : k' = k
    · rw [if_pos ⟨rfl, rfl, rfl, h⟩]
      exact if_pos h
    · rw [if_neg fun z => h z.2.2.2]
      exact if_neg h
  · rw [siI_ne _ _ _ h, if_neg fun z => h ⟨z.1, z.2.1, z.2.2.1⟩]
theorem gI2 (S : sS) (t i j k : Nat) (x : Int32) : (siI S t i j k x).2 = S.2 := rfl
theorem gL (S : sS) (t i j k : Nat) (x : Int64) (t' i' j' k' : Nat) : (siL S t i j k x).2.1 t' i' j' k' = if t' = t ∧ i' = i ∧ j' = j ∧ k' = k then x else S.2.1 t' i' j' k' := by
  by_cases h : t' = t ∧ i' = i ∧ j' = j
  · obtain ⟨rfl, rfl, rfl⟩ := h
    rw [siL_self]
    by_cases h : k' = k
    · rw [if_pos ⟨rfl, rfl, rfl, h⟩]
      exact if_pos h
    · rw [if_neg fun z => h z.2.2.2]
      exact if_neg h
  · rw [siL_ne _ _ _ h, if_neg fun z => h ⟨z.1, z.2.1, z.2.2.1⟩]
theorem gL1 (S : sS) (t i j k : Nat) (x : Int64) : (siL S t i j k x).1 = S.1 := rfl
theorem gL2 (S : sS) (t i j k : Nat) (x : Int64) : (siL S t i j k x).2.2 = S.2.2 := rfl
theorem jcLT {a b : Nat} (ha : a < 2147483648) (hb : b < 2147483648) : jcmp .lt (nI a) (nI b) = decide (a < b) := decide_eq_decide.mpr (nI_ltI ha hb)
theorem jcGE {a b : Nat} (ha : a < 2147483648) (hb : b < 2147483648) : jcmp .ge (nI a) (nI b) = decide (b ≤ a) := decide_eq_decide.mpr (nI_leI hb ha)
theorem jcGT {a b : Nat} (ha : a < 2147483648) (hb : b < 2147483648) : jcmp .gt (nI a) (nI b) = decide (b < a) := decide_eq_decide.mpr (nI_ltI hb ha)
theorem jcLE {a b : Nat} (ha : a < 2147483648) (hb : b < 2147483648) : jcmp .le (nI a) (nI b) = decide (a ≤ b) := decide_eq_decide.mpr (nI_leI ha hb)
theorem jcEQ {a b : Nat} (ha : a < 2147483648) (hb : b < 2147483648) : jcmp .eq (nI a) (nI b) = decide (a = b) := decide_eq_decide.mpr (nI_eq ha hb)
theorem jcNE {a b : Nat} (ha : a < 2147483648) (hb : b < 2147483648) : jcmp .ne (nI a) (nI b) = decide (¬ a = b) := decide_eq_decide.mpr (not_congr (nI_eq ha hb))
theorem jinT {i n : Nat} (h : i < n) (hn : n < 2147483648) : jin (nI i) n = true := jin_N h hn
theorem nIc {n : Nat} (h : n < 2147483648) : (nI n).toNatClampNeg = n := nI_clamp h
theorem nI0 : (0 : Int32) = nI 0 := nI_0.symm
theorem nI1 : Int32.ofInt 1 = nI 1 := rfl
theorem nIo (n : Nat) : Int32.ofNat n = nI n := rfl
theorem nIs {a b : Nat} (h : b ≤ a) : nI a - nI b = nI (a - b) := pk_sub h
theorem jifT {α : Type} (x : Option α) : jif true x = x := rfl
theorem bdS {α β : Type} (a : α) (f : α → Option β) : (some a).bind f = f a := rfl
theorem sifN {α β : Type} (A : β) (B : α → β) : sif (none : Option α) A B = A := rfl
theorem sifS {α β : Type} (a : α) (A : β) (B : α → β) : sif (some a) A B = B a := rfl
theorem omN {α β : Type} (f : α → β) : (none : Option α).map f = none := rfl
theorem omS {α β : Type} (a : α) (f : α → β) : (some a).map f = some (f a) := rfl
theorem cdI {β : Type} (p : Prop) [Decidable p] (x y : β) : (bif decide p then x else y) = if p then x else y := by
  by_cases h : p
  · rw [decide_eq_true h, if_pos h]; rfl
  · rw [decide_eq_false h, if_neg h]; rfl
theorem x27 (M : sK) (p : Nat) : sex M 27 p 0 = (M.1 p && true) := rfl
theorem x28 (M : sK) (p : Nat) : sex M 28 p 0 = (M.1 p && true) := rfl
theorem x29 (M : sK) (p k : Nat) : sex M 29 p k = srx M p k := rfl
theorem x30 (M : sK) (p k : Nat) : sex M 30 p k = srx M p k := rfl
theorem x31 (M : sK) (p k : Nat) : sex M 31 p k = srx M p k := rfl
theorem x32 (M : sK) (p : Nat) : sex M 32 p 0 = (M.2 p && true) := rfl
theorem xr0 {M : sK} {p : Nat} (h : M.1 p = true) : srx M p 0 = true := by show (true && M.1 p || _) = true; rw [h]; rfl
theorem xr1 {M : sK} {p : Nat} (h : M.1 p = true) : srx M p 1 = true := by show (true && M.1 p || _) = true; rw [h]; rfl
theorem xr2 {M : sK} {p : Nat} (h : M.1 p = true) : srx M p 2 = true := by show (true && M.1 p || _) = true; rw [h]; rfl
theorem xr3 {M : sK} {p : Nat} (h : M.1 p = true) : srx M p 3 = true := by show (true && M.1 p || _) = true; rw [h]; rfl
theorem xr4 {M : sK} {p : Nat} (h : M.2 p = true) : srx M p 4 = true := by show ((false && M.1 p) || ((true && M.2 p) || _)) = true; rw [h]; rfl
theorem xr5 (M : sK) : srx M 0 5 = true := rfl
theorem x25 {M : sK} {s : Nat} (h : s < 16) : sex M 25 s 0 = true := ex_25 h
theorem x26 {M : sK} {s : Nat} (h : s < 16) : sex M 26 s 0 = true := by
  show (Nat.blt s 16 && Nat.beq 0 0) = true
  rw [show Nat.blt s 16 = true from Nat.ble_eq_true_of_le h]
  rfl
theorem nIdv {a b : Nat} (ha : a < 2147483648) (hb : b < 2147483648) : nI a / nI b = nI (a / b) := by
  apply Int32.toInt_inj.mp
  have h : a / b ≤ a := Nat.div_le_self a b
  rw [Int32.toInt_div, nI_toInt ha, nI_toInt hb, nI_toInt (by omega), ← Int.ofNat_tdiv]
  generalize a / b = q at h
  rw [Int.bmod_eq_of_le] <;> omega
theorem nIml (a b : Nat) : nI a * nI b = nI (a * b) := (Int32.ofNat_mul a b).symm
theorem nIm {a b : Nat} (ha : a < 2147483648) (hb : b < 2147483648) : nI a - nI a / nI b * nI b = nI (a % b) := by
  rw [nIdv ha hb, nIml, pk_sub (Nat.div_mul_le_self a b)]
  congr 1
  have := Nat.div_add_mod a b
  rw [Nat.mul_comm] at this
  omega
theorem nIn0 {a : Nat} (h0 : 0 < a) (ha : a < 2147483648) : decide (¬ nI a = nI 0) = true := decide_eq_true fun h => by
  have := (nI_eq ha (by omega)).mp h
  omega
theorem szl0 : srl 0 = 12 := rfl
theorem szl1 : srl 1 = 16 := rfl
theorem szl2 : srl 2 = 6 := rfl
theorem szl3 : srl 3 = 1 := rfl
theorem szl4 : srl 4 = 16 := rfl
theorem szl5 : srl 5 = 16 := rfl
theorem dEQ {a b : Nat} (ha : a < 2147483648) (hb : b < 2147483648) : decide (nI a = nI b) = decide (a = b) := decide_eq_decide.mpr (nI_eq ha hb)
theorem nIt {n : Nat} (h : n < 2147483648) : (nI n).toInt = (n : Int) := nI_toInt h
theorem lgNE (x y : Int64) : jcmp .ne (lg_cmp x y) (nI 0) = decide (¬ x = y) := decide_eq_decide.mpr (not_congr (by rw [← nI0]; exact lg_cmp_eq x y))
theorem lgEQ (x y : Int64) : jcmp .eq (lg_cmp x y) (nI 0) = decide (x = y) := decide_eq_decide.mpr (by rw [← nI0]; exact lg_cmp_eq x y)
theorem lgGE (x y : Int64) : jcmp .ge (lg_cmp x y) (nI 0) = decide (y ≤ x) := decide_eq_decide.mpr (by rw [← nI0]; exact lg_cmp_ge x y)
theorem lgLT (x y : Int64) : jcmp .lt (lg_cmp x y) (nI 0) = decide (x < y) := decide_eq_decide.mpr (by rw [← nI0]; exact lg_cmp_lt x y)
theorem lgGT (x y : Int64) : jcmp .gt (lg_cmp x y) (nI 0) = decide (y < x) := decide_eq_decide.mpr (by rw [← nI0]; exact lg_cmp_gt x y)
theorem lgLE (x y : Int64) : jcmp .le (lg_cmp x y) (nI 0) = decide (x ≤ y) := decide_eq_decide.mpr (by rw [← nI0]; exact lg_cmp_le x y)
