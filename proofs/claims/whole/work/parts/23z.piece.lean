/-! A check in pieces. -/
theorem jpiece {p : Nat → Bool} (m : Nat) (h : ∀ k, k < m → (List.range 100).all (fun i => p (100 * k + i)) = true) (n : Nat) (hn : n ≤ 100 * m) : (List.range n).all p = true := by
  refine List.all_eq_true.mpr fun i hi => ?_
  have hi := List.mem_range.mp hi
  have h1 := List.all_eq_true.mp (h (i / 100) (by omega)) (i % 100) (List.mem_range.mpr (Nat.mod_lt _ (by decide)))
  have e : 100 * (i / 100) + i % 100 = i := Nat.div_add_mod i 100
  rw [e] at h1
  exact h1
