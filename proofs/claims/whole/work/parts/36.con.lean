/-! Constructors: rows. -/
section CON
variable {G : jG} {Q : Option Value ⊕ Nat → jS → Prop} {μ : jS} {j pc l pc1 pc2 pc3 k cl f kd a n c z N : Nat} {fin : Bool} {fs : List Value} {lv : jL} {st : List Value} {i i0 : Instr}
/-- a new array of ints into a field -/
theorem jX.arI (N : Nat) (hl : jld lv 0 = some (.ref a)) (hn : μ.2 = (n, c, z)) (han : a < n) (ha : μ.1 a = .inr (cl, fs)) (hN : N < 2 ^ 31) (h0 : jP.2.1 j pc = none) (h1 : jP.1 j pc = some (.aload_n 0)) (h2 : jP.2.1 j (pc + 1) = none) (h3 : jP.1 j (pc + 1) = some i) (h4 : jcst i = some (nI N, l)) (hp : pc + 1 + l = pc1) (h5 : jP.2.1 j pc1 = none) (h6 : jP.1 j pc1 = some (.newarray .int)) (h7 : jP.2.1 j (pc1 + 2) = none) (h8 : jP.1 j (pc1 + 2) = some (.putfield k)) (hB : (jP.2.2.2.2.1 j).1 k = some (cl, f, 3, fin)) (hf : Nat.blt f fs.length = true) (hF : (!fin || (jP.2.2.2.2.1 j).2.2.2.2.2.2) = true)
    (K : ∀ μ' : jS, μ'.2 = (n + 1, c + 1, z + N) → μ'.1 a = .inr (cl, fs.set f (.ref n)) → μ'.1 n = .inl (0, N, .inl fun _ => 0) → (∀ q, q < n → q ≠ a → μ'.1 q = μ.1 q) → jX G jP j (pc1 + 2 + 3) lv st μ' Q) : jX G jP j pc lv st μ Q := by
  obtain ⟨m, n', c', z'⟩ := μ
  cases hn
  refine jX.lrn (k := 0) hl h0 h1 ?_
  refine jX.ic h2 h3 h4 ?_
  rw [hp]
  refine jX.newiN h5 h6 hN ?_
  refine jX.pf h7 h8 hB ((jnew_ne (Nat.ne_of_lt han)).trans ha) (Nat.le_of_ble_eq_true hf) (by rfl) hF ?_
  refine K _ rfl jw_self ((jw_ne (Nat.ne_of_gt han)).trans jnew_self) (fun q h1 h2 => (jw_ne h2).trans (jnew_ne (Nat.ne_of_lt h1)))
theorem jX.arL (N : Nat) (hl : jld lv 0 = some (.ref a)) (hn : μ.2 = (n, c, z)) (han : a < n) (ha : μ.1 a = .inr (cl, fs)) (hN : N < 2 ^ 31) (h0 : jP.2.1 j pc = none) (h1 : jP.1 j pc = some (.aload_n 0)) (h2 : jP.2.1 j (pc + 1) = none) (h3 : jP.1 j (pc + 1) = some i) (h4 : jcst i = some (nI N, l)) (hp : pc + 1 + l = pc1) (h5 : jP.2.1 j pc1 = none) (h6 : jP.1 j pc1 = some (.newarray .long)) (h7 : jP.2.1 j (pc1 + 2) = none) (h8 : jP.1 j (pc1 + 2) = some (.putfield k)) (hB : (jP.2.2.2.2.1 j).1 k = some (cl, f, 3, fin)) (hf : Nat.blt f fs.length = true) (hF : (!fin || (jP.2.2.2.2.1 j).2.2.2.2.2.2) = true)
    (K : ∀ μ' : jS, μ'.2 = (n + 1, c + 1, z + N) → μ'.1 a = .inr (cl, fs.set f (.ref n)) → μ'.1 n = .inl (1, N, .inr (.inl fun _ => 0)) → (∀ q, q < n → q ≠ a → μ'.1 q = μ.1 q) → jX G jP j (pc1 + 2 + 3) lv st μ' Q) : jX G jP j pc lv st μ Q := by
  obtain ⟨m, n', c', z'⟩ := μ
  cases hn
  refine jX.lrn (k := 0) hl h0 h1 ?_
  refine jX.ic h2 h3 h4 ?_
  rw [hp]
  refine jX.newlN h5 h6 hN ?_
  refine jX.pf h7 h8 hB ((jnew_ne (Nat.ne_of_lt han)).trans ha) (Nat.le_of_ble_eq_true hf) (by rfl) hF ?_
  refine K _ rfl jw_self ((jw_ne (Nat.ne_of_gt han)).trans jnew_self) (fun q h1 h2 => (jw_ne h2).trans (jnew_ne (Nat.ne_of_lt h1)))
theorem jX.arO (N d : Nat) {k1 : Nat} (hl : jld lv 0 = some (.ref a)) (hn : μ.2 = (n, c, z)) (han : a < n) (ha : μ.1 a = .inr (cl, fs)) (hN : N < 2 ^ 31) (h0 : jP.2.1 j pc = none) (h1 : jP.1 j pc = some (.aload_n 0)) (h2 : jP.2.1 j (pc + 1) = none) (h3 : jP.1 j (pc + 1) = some i) (h4 : jcst i = some (nI N, l)) (hp : pc + 1 + l = pc1) (h5 : jP.2.1 j pc1 = none) (h6 : jP.1 j pc1 = some (.anewarray k1)) (hA : (jP.2.2.2.2.1 j).2.2.1 k1 = some d) (h7 : jP.2.1 j (pc1 + 3) = none) (h8 : jP.1 j (pc1 + 3) = some (.putfield k)) (hB : (jP.2.2.2.2.1 j).1 k = some (cl, f, 3, fin)) (hf : Nat.blt f fs.length = true) (hF : (!fin || (jP.2.2.2.2.1 j).2.2.2.2.2.2) = true)
    (K : ∀ μ' : jS, μ'.2 = (n + 1, c + 1, z + N) → μ'.1 a = .inr (cl, fs.set f (.ref n)) → μ'.1 n = .inl (d, N, .inr (.inr (.inr (.inr fun _ => none)))) → (∀ q, q < n → q ≠ a → μ'.1 q = μ.1 q) → jX G jP j (pc1 + 3 + 3) lv st μ' Q) : jX G jP j pc lv st μ Q := by
  obtain ⟨m, n', c', z'⟩ := μ
  cases hn
  refine jX.lrn (k := 0) hl h0 h1 ?_
  refine jX.ic h2 h3 h4 ?_
  rw [hp]
  refine jX.newqN h5 h6 hA hN ?_
  refine jX.pf h7 h8 hB ((jnew_ne (Nat.ne_of_lt han)).trans ha) (Nat.le_of_ble_eq_true hf) (by rfl) hF ?_
  refine K _ rfl jw_self ((jw_ne (Nat.ne_of_gt han)).trans jnew_self) (fun q h1 h2 => (jw_ne h2).trans (jnew_ne (Nat.ne_of_lt h1)))
/-- the beginning of a constructor -/
theorem jX.cobj {k0 : Nat} {rc : Option Nat} (hl : jld lv 0 = some (.ref a)) (h0 : jP.2.1 j 0 = none) (h1 : jP.1 j 0 = some (.aload_n 0)) (h2 : jP.2.1 j 1 = none) (h3 : jP.1 j 1 = some (.invokespecial k0)) (h4 : jP.2.2.2.1 j k0 = some (0, 1, none)) (K : jX G jP j 4 lv [] μ Q) : jX G jP j 0 lv [] μ Q := by
  refine jX.lrn (k := 0) hl h0 h1 ?_
  exact jX.obj h2 h3 (by rfl) (by rfl) (by rfl) h4 (by rfl) (by rfl) (Nat.le_of_ble_eq_true rfl) K
/-- a value into a field of the object that is made -/
theorem jX.pfi {x : Int32} (hl : jld lv 0 = some (.ref a)) (ha : μ.1 a = .inr (cl, fs)) (h0 : jP.2.1 j pc = none) (h1 : jP.1 j pc = some (.aload_n 0)) (h2 : jP.2.1 j (pc + 1) = none) (h3 : jP.1 j (pc + 1) = some i) (h4 : jcst i = some (x, l)) (hp : pc + 1 + l = pc1) (h7 : jP.2.1 j pc1 = none) (h8 : jP.1 j pc1 = some (.putfield k)) (hB : (jP.2.2.2.2.1 j).1 k = some (cl, f, 0, fin)) (hf : Nat.blt f fs.length = true) (hF : (!fin || (jP.2.2.2.2.1 j).2.2.2.2.2.2) = true)
    (K : ∀ μ' : jS, μ'.2 = μ.2 → μ'.1 a = .inr (cl, fs.set f (.int x)) → (∀ q, q ≠ a → μ'.1 q = μ.1 q) → jX G jP j (pc1 + 3) lv st μ' Q) : jX G jP j pc lv st μ Q := by
  refine jX.lrn (k := 0) hl h0 h1 ?_
  refine jX.ic h2 h3 h4 ?_
  rw [hp]
  refine jX.pf h7 h8 hB ha (Nat.le_of_ble_eq_true hf) (by rfl) hF ?_
  exact K _ rfl jw_self (fun q h => jw_ne h)
theorem jX.pfr {v : Nat} {b : Fin 4} (hl : jld lv 0 = some (.ref a)) (hb : jld lv b = some (.ref v)) (ha : μ.1 a = .inr (cl, fs)) (h0 : jP.2.1 j pc = none) (h1 : jP.1 j pc = some (.aload_n 0)) (h2 : jP.2.1 j (pc + 1) = none) (h3 : jP.1 j (pc + 1) = some (.aload_n b)) (h7 : jP.2.1 j (pc + 1 + 1) = none) (h8 : jP.1 j (pc + 1 + 1) = some (.putfield k)) (hB : (jP.2.2.2.2.1 j).1 k = some (cl, f, 3, fin)) (hf : Nat.blt f fs.length = true) (hF : (!fin || (jP.2.2.2.2.1 j).2.2.2.2.2.2) = true)
    (K : ∀ μ' : jS, μ'.2 = μ.2 → μ'.1 a = .inr (cl, fs.set f (.ref v)) → (∀ q, q ≠ a → μ'.1 q = μ.1 q) → jX G jP j (pc + 1 + 1 + 3) lv st μ' Q) : jX G jP j pc lv st μ Q := by
  refine jX.lrn (k := 0) hl h0 h1 ?_
  refine jX.lrn hb h2 h3 ?_
  refine jX.pf h7 h8 hB ha (Nat.le_of_ble_eq_true hf) (by rfl) hF ?_
  exact K _ rfl jw_self (fun q h => jw_ne h)
theorem jX.pfx {v : Int32} {b : Fin 4} (hl : jld lv 0 = some (.ref a)) (hb : jld lv b = some (.int v)) (ha : μ.1 a = .inr (cl, fs)) (h0 : jP.2.1 j pc = none) (h1 : jP.1 j pc = some (.aload_n 0)) (h2 : jP.2.1 j (pc + 1) = none) (h3 : jP.1 j (pc + 1) = some (.iload_n b)) (h7 : jP.2.1 j (pc + 1 + 1) = none) (h8 : jP.1 j (pc + 1 + 1) = some (.putfield k)) (hB : (jP.2.2.2.2.1 j).1 k = some (cl, f, 0, fin)) (hf : Nat.blt f fs.length = true) (hF : (!fin || (jP.2.2.2.2.1 j).2.2.2.2.2.2) = true)
    (K : ∀ μ' : jS, μ'.2 = μ.2 → μ'.1 a = .inr (cl, fs.set f (.int v)) → (∀ q, q ≠ a → μ'.1 q = μ.1 q) → jX G jP j (pc + 1 + 1 + 3) lv st μ' Q) : jX G jP j pc lv st μ Q := by
  refine jX.lrn (k := 0) hl h0 h1 ?_
  refine jX.lin hb h2 h3 ?_
  refine jX.pf h7 h8 hB ha (Nat.le_of_ble_eq_true hf) (by rfl) hF ?_
  exact K _ rfl jw_self (fun q h => jw_ne h)
end CON
