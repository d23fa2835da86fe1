/-! Looking up in printed tables; code held against bytes. -/
def jlk {α : Type} (l : List (Nat × α)) (k : Nat) : Option α := match l with
  | [] => none
  | q :: r => bif Nat.beq q.1 k then some q.2 else jlk r k
theorem jlk_mem {α : Type} {l : List (Nat × α)} {k : Nat} {v : α} (h : jlk l k = some v) : (k, v) ∈ l := by
  induction l with
  | nil => cases h
  | cons q r ih =>
    unfold jlk at h
    cases hb : Nat.beq q.1 k with
    | true =>
      rw [hb] at h
      have e : q.1 = k := Nat.eq_of_beq_eq_true hb
      have e2 : q.2 = v := Option.some.inj h
      have : q = (k, v) := by rw [← e, ← e2]
      rw [this]
      exact List.mem_cons_self
    | false =>
      rw [hb] at h
      exact List.mem_cons_of_mem _ (ih h)
def jlim (n pc : Nat) (x : Option Instr) : Option Instr := bif Nat.blt pc n then x else none
def jchk (cc : ByteArray) (f : Nat → Option Instr) (pc : Nat) : Bool := match f pc with
  | none => true
  | some i => match decode cc pc with
    | .ok (i', len) => decide (i' = i) && (Nat.beq (jlen i) 0 || Nat.beq len (jlen i))
    | .error _ => false
theorem jchk_spec {cc : ByteArray} {f : Nat → Option Instr} {n : Nat} (h : (List.range n).all (jchk cc f) = true) {pc : Nat} {i : Instr} (hn : pc < n) (hi : f pc = some i) : ∃ len, decode cc pc = .ok (i, len) ∧ (jlen i = 0 ∨ len = jlen i) := by
  have h1 := List.all_eq_true.mp h pc (List.mem_range.mpr hn)
  unfold jchk at h1
  rw [hi] at h1
  cases hd : decode cc pc with
  | error x => simp only [hd] at h1; cases h1
  | ok q =>
    obtain ⟨i', len⟩ := q
    simp only [hd, Bool.and_eq_true, Bool.or_eq_true, decide_eq_true_eq] at h1
    obtain ⟨rfl, h2⟩ := h1
    refine ⟨len, rfl, ?_⟩
    rcases h2 with h2 | h2
    · exact Or.inl (Nat.eq_of_beq_eq_true h2)
    · exact Or.inr (Nat.eq_of_beq_eq_true h2)
theorem jlim_some {n pc : Nat} {x : Option Instr} {i : Instr} (h : jlim n pc x = some i) : pc < n ∧ x = some i := by
  unfold jlim at h
  cases hb : Nat.blt pc n with
  | true => rw [hb] at h; exact ⟨Nat.le_of_ble_eq_true hb, h⟩
  | false => rw [hb] at h; cases h
