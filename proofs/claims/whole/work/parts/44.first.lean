/-! The first store; what is left of the claim. -/
def sI0 (t i _j : Nat) : Nat → Int32 := fun f =>
  bif Nat.beq t 8 then (bif Nat.beq f 5 then -1 else 0) else
  bif Nat.beq t 11 then (bif Nat.beq f 7 then nI 600 else 0) else
  bif Nat.beq t 13 then cFr 600 f else
  bif Nat.beq t 23 then (bif Nat.beq f 9 then nI 10 else bif Nat.beq f 10 then nI 5 else 0) else
  bif Nat.beq t 25 then (bif Nat.beq f 1 then nI i else 0) else
  bif Nat.beq t 29 then (bif Nat.beq f 2 then nI 16 else 0) else
  bif Nat.beq t 33 then (bif Nat.beq f 16 then -1 else bif Nat.beq f 18 then nI 10 else bif Nat.beq f 19 then nI 5 else 0) else 0
/-- the store when both objects are made; z: slots so far -/
def S0 (z : Nat) : sS := (sI0, fun _ _ _ _ => 0, (fun _ _ => none, fun _ => none), (fun _ => false, fun _ => false), 7857, 7857, z)
/-- the law's run from the first store on -/
def sLaw (L : Nat) (xs : Nat → Int32) : Prop := ∀ z, z ≤ 200000 → ∃ t S', F_204_23 (jG0 L xs) t t (nI 0) (S0 z) = some (nI 1, S') ∧ S'.2.2.2.2.2.1 ≤ 601024 ∧ S'.2.2.2.2.2.2 ≤ 7293034
theorem jLaw_of {L : Nat} {xs : Nat → Int32} (hR : ∀ (μ : jS) (z : Nat), μ.2 = (7857, 7857, z) → cCls μ → mMod μ → μ.1 7856 = .inl (1, 1, .inr (.inl fun _ => 0)) → sR (S0 z) μ) (hF : sLaw L xs) : jLaw L xs := by
  unfold jLaw
  refine law_start (fun lv μ z l0 l1 l2 l3 l4 hz hn hc hm ho => ?_)
  obtain ⟨t, S', h, h1, h2⟩ := hF z hz
  refine F_204_23_ok (fun μ' R' => ?_) t (nI 0) (S0 z) lv μ l0 l1 l2 l3 l4 (hR μ z hn hc hm ho) h
  refine ⟨by rfl, ?_, ?_⟩
  · rw [R'.2.2]; exact h1
  · rw [R'.2.2]; exact h2
