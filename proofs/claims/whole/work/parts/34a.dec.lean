/-! printed by dec.py: what methods 3 to 51 do to the store -/
/-! 3 StrandRuntime$Row.becomeZeros(I)V -/
def F_3_24 (G : jG) (t : Nat) : Nat → (Nat × Nat) → Int32 → sS → Option (Unit × sS)
  | 0 => fun _ _ _ => none
  | tt + 1 => fun v0 v2 S => jif (sex S.2.2.2.1 29 v0.1 v0.2) (bif jcmp .ge v2 (S.1 29 v0.1 v0.2 2) then (some ((), S)) else (jif (sex S.2.2.2.1 30 v0.1 v0.2) (jif (jin v2 (srl v0.2)) (jif (sex (siL S 30 v0.1 v0.2 v2.toNatClampNeg 0).2.2.2.1 31 v0.1 v0.2) (jif (jin v2 (srl v0.2)) (F_3_24 G t tt v0 (v2 + Int32.ofInt 1) (siI (siL S 30 v0.1 v0.2 v2.toNatClampNeg 0) 31 v0.1 v0.2 v2.toNatClampNeg (nI 0))))))))
theorem F_3_24_ok {G : jG} {t : Nat} {r : Unit} {S' : sS} {Q : Option Value ⊕ Nat → jS → Prop} (K : ∀ μ', sR S' μ' → Q (srV r) μ') : ∀ tt : Nat, ∀ (v0 : (Nat × Nat)) (v2 : Int32) (S : sS) (lv : jL) (μ : jS), jld lv 0 = some (.ref (spl 29 v0.1 v0.2)) → jld lv 2 = some (.int v2) → sR S μ → F_3_24 G t tt v0 v2 S = some (r, S') → jX G jP 3 24 lv [] μ Q := by
  intro tt
  induction tt with
  | zero =>
    intro v0 v2 S lv μ l0 l2 R h
    rw [F_3_24] at h
    cases h
  | succ tt ih =>
    intro v0 v2 S lv μ l0 l2 R h
    rw [F_3_24] at h
    refine jX.lin l2 (by rfl) (by rfl) (?_ : jX G jP 3 25 lv [.int v2] μ Q)
    refine jX.lrn l0 (by rfl) (by rfl) (?_ : jX G jP 3 26 lv [.ref (spl 29 v0.1 v0.2), .int v2] μ Q)
    obtain ⟨g1, h⟩ := jif_some h
    refine jX.sg R g1 (by rfl) (by rfl) (by rfl) (by rfl) (by rfl) (?_ : jX G jP 3 29 lv [.int (S.1 29 v0.1 v0.2 2), .int v2] μ Q)
    rcases bif_or h with ⟨hc, h⟩ | ⟨hc, h⟩
    · refine jX.b2t hc (by rfl) (by rfl) (by rfl) (?_ : jX G jP 3 52 lv [] μ Q)
      exact jX.ret (by rfl) (by rfl) (by rfl) (by rfl) (sretv (f := srV) h K R)
    · refine jX.b2f hc (by rfl) (by rfl) (by rfl) (?_ : jX G jP 3 32 lv [] μ Q)
      refine jX.lrn l0 (by rfl) (by rfl) (?_ : jX G jP 3 33 lv [.ref (spl 29 v0.1 v0.2)] μ Q)
      refine jX.sg R g1 (by rfl) (by rfl) (by rfl) (by rfl) (by rfl) (?_ : jX G jP 3 36 lv [.ref (spl 30 v0.1 v0.2)] μ Q)
      refine jX.lin l2 (by rfl) (by rfl) (?_ : jX G jP 3 37 lv [.int v2, .ref (spl 30 v0.1 v0.2)] μ Q)
      refine jX.go (by rfl) (by rfl) (by rfl) (?_ : jX G jP 3 38 lv [.long 0, .int v2, .ref (spl 30 v0.1 v0.2)] μ Q)
      obtain ⟨g2, h⟩ := jif_some h
      obtain ⟨g3, h⟩ := jif_some h
      refine jX.stl R g2 (by rfl) (by rfl) (fun _ => by rfl) g3 (fun μ R => (?_ : jX G jP 3 39 lv [] μ Q))
      refine jX.lrn l0 (by rfl) (by rfl) (?_ : jX G jP 3 40 lv [.ref (spl 29 v0.1 v0.2)] μ Q)
      refine jX.sg R g1 (by rfl) (by rfl) (by rfl) (by rfl) (by rfl) (?_ : jX G jP 3 43 lv [.ref (spl 31 v0.1 v0.2)] μ Q)
      refine jX.lin l2 (by rfl) (by rfl) (?_ : jX G jP 3 44 lv [.int v2, .ref (spl 31 v0.1 v0.2)] μ Q)
      refine jX.ic (v := nI 0) (n := 1) (by rfl) (by rfl) (by decide) (?_ : jX G jP 3 45 lv [.int (nI 0), .int v2, .ref (spl 31 v0.1 v0.2)] μ Q)
      obtain ⟨g4, h⟩ := jif_some h
      obtain ⟨g5, h⟩ := jif_some h
      refine jX.sti R g4 (by rfl) (by rfl) (fun _ => by rfl) g5 (fun μ R => (?_ : jX G jP 3 46 lv [] μ Q))
      refine jX.inc l2 (by rfl) (by rfl) (by rfl) (fun lv l2 kp => (?_ : jX G jP 3 49 lv [] μ Q))
      replace l0 := kp 0 _ l0 (by rfl) (by first | rfl | simp [soR_cat])
      refine jX.go (by rfl) (by rfl) (by rfl) (?_ : jX G jP 3 24 lv [] μ Q)
      exact ih v0 (v2 + Int32.ofInt 1) _ _ _ l0 l2 R h
def F_3_19 (G : jG) (t : Nat) (v0 : (Nat × Nat)) (w0 : Int32) (w1 : (Nat × Nat)) (S : sS) : Option (Unit × sS) := jif (sex S.2.2.2.1 29 w1.1 w1.2) (F_3_24 G t t v0 (nI 0) (siI S 29 w1.1 w1.2 2 w0))
theorem F_3_19_ok {G : jG} {t : Nat} {r : Unit} {S' : sS} {Q : Option Value ⊕ Nat → jS → Prop} (K : ∀ μ', sR S' μ' → Q (srV r) μ') : ∀ (v0 : (Nat × Nat)) (w0 : Int32) (w1 : (Nat × Nat)) (S : sS) (lv : jL) (μ : jS), jld lv 0 = some (.ref (spl 29 v0.1 v0.2)) → sR S μ → F_3_19 G t v0 w0 w1 S = some (r, S') → jX G jP 3 19 lv [.int w0, .ref (spl 29 w1.1 w1.2)] μ Q := by
  intro v0 w0 w1 S lv μ l0 R h
  unfold F_3_19 at h
  obtain ⟨g1, h⟩ := jif_some h
  refine jX.spI R g1 (by rfl) (by rfl) (by rfl) (by rfl) (by rfl) (by rfl) (by rfl) (by rfl) (fun μ R => (?_ : jX G jP 3 22 lv [] μ Q))
  refine jX.ic (v := nI 0) (n := 1) (by rfl) (by rfl) (by decide) (?_ : jX G jP 3 23 lv [.int (nI 0)] μ Q)
  refine jX.s1 (k := 2) (pc' := 24) (by rfl) (by rfl) (by rfl) (fun lv l2 kp => (?_ : jX G jP 3 24 lv [] μ Q))
  replace l0 := kp 0 _ l0 (by rfl) (by first | rfl | simp [soR_cat])
  exact F_3_24_ok  K _ v0 (nI 0) _ _ _ l0 l2 R h
def F_3 (G : jG) (t : Nat) (v0 : (Nat × Nat)) (v1 : Int32) (S : sS) : Option (Unit × sS) := jif (sex S.2.2.2.1 29 v0.1 v0.2) (jif (sex S.2.2.2.1 30 v0.1 v0.2) (bif jcmp .ge v1 (Int32.ofNat (srl v0.2)) then (F_3_19 G t v0 (Int32.ofNat (srl v0.2)) v0 S) else (F_3_19 G t v0 v1 v0 S)))
theorem F_3_ok {G : jG} {t : Nat} {v0 : (Nat × Nat)} {v1 : Int32} {S : sS} {r : Unit} {S' : sS} {μ : jS} {Q : Option Value ⊕ Nat → jS → Prop} (R : sR S μ) (h : F_3 G t v0 v1 S = some (r, S')) (K : ∀ μ', sR S' μ' → Q (srV r) μ') : jX G jP 3 0 (lv_args 0 [.ref (spl 29 v0.1 v0.2), .int v1]) [] μ Q := by
  unfold F_3 at h
  have l0 : jld (lv_args 0 [.ref (spl 29 v0.1 v0.2), .int v1]) 0 = some (.ref (spl 29 v0.1 v0.2)) := by rfl
  have l1 : jld (lv_args 0 [.ref (spl 29 v0.1 v0.2), .int v1]) 1 = some (.int v1) := by rfl
  generalize lv_args 0 [.ref (spl 29 v0.1 v0.2), .int v1] = lv at *
  refine jX.lrn l0 (by rfl) (by rfl) (?_ : jX G jP 3 1 lv [.ref (spl 29 v0.1 v0.2)] μ Q)
  refine jX.lin l1 (by rfl) (by rfl) (?_ : jX G jP 3 2 lv [.int v1, .ref (spl 29 v0.1 v0.2)] μ Q)
  refine jX.lrn l0 (by rfl) (by rfl) (?_ : jX G jP 3 3 lv [.ref (spl 29 v0.1 v0.2), .int v1, .ref (spl 29 v0.1 v0.2)] μ Q)
  obtain ⟨g1, h⟩ := jif_some h
  refine jX.sg R g1 (by rfl) (by rfl) (by rfl) (by rfl) (by rfl) (?_ : jX G jP 3 6 lv [.ref (spl 30 v0.1 v0.2), .int v1, .ref (spl 29 v0.1 v0.2)] μ Q)
  obtain ⟨g2, h⟩ := jif_some h
  refine jX.sln R g2 (by rfl) (by rfl) (by rfl) (?_ : jX G jP 3 7 lv [.int (Int32.ofNat (srl v0.2)), .int v1, .ref (spl 29 v0.1 v0.2)] μ Q)
  rcases bif_or h with ⟨hc, h⟩ | ⟨hc, h⟩
  · refine jX.b2t hc (by rfl) (by rfl) (by rfl) (?_ : jX G jP 3 14 lv [.ref (spl 29 v0.1 v0.2)] μ Q)
    refine jX.lrn l0 (by rfl) (by rfl) (?_ : jX G jP 3 15 lv [.ref (spl 29 v0.1 v0.2), .ref (spl 29 v0.1 v0.2)] μ Q)
    refine jX.sg R g1 (by rfl) (by rfl) (by rfl) (by rfl) (by rfl) (?_ : jX G jP 3 18 lv [.ref (spl 30 v0.1 v0.2), .ref (spl 29 v0.1 v0.2)] μ Q)
    refine jX.sln R g2 (by rfl) (by rfl) (by rfl) (?_ : jX G jP 3 19 lv [.int (Int32.ofNat (srl v0.2)), .ref (spl 29 v0.1 v0.2)] μ Q)
    exact F_3_19_ok  K v0 (Int32.ofNat (srl v0.2)) v0 _ _ _ l0 R h
  · refine jX.b2f hc (by rfl) (by rfl) (by rfl) (?_ : jX G jP 3 10 lv [.ref (spl 29 v0.1 v0.2)] μ Q)
    refine jX.lin l1 (by rfl) (by rfl) (?_ : jX G jP 3 11 lv [.int v1, .ref (spl 29 v0.1 v0.2)] μ Q)
    refine jX.go (by rfl) (by rfl) (by rfl) (?_ : jX G jP 3 19 lv [.int v1, .ref (spl 29 v0.1 v0.2)] μ Q)
    exact F_3_19_ok  K v0 v1 v0 _ _ _ l0 R h
/-! 4 StrandRuntime$Strand.renew(I)V -/
def F_4 (G : jG) (t : Nat) (v0 : (Nat × Nat)) (v1 : Int32) (S : sS) : Option (Unit × sS) := jif (sex S.2.2.2.1 25 v0.1 v0.2) (some ((), (siL (siI (siI S 25 v0.1 v0.2 3 (nI 0)) 25 v0.1 v0.2 4 v1) 25 v0.1 v0.2 7 0)))
theorem F_4_ok {G : jG} {t : Nat} {v0 : (Nat × Nat)} {v1 : Int32} {S : sS} {r : Unit} {S' : sS} {μ : jS} {Q : Option Value ⊕ Nat → jS → Prop} (R : sR S μ) (h : F_4 G t v0 v1 S = some (r, S')) (K : ∀ μ', sR S' μ' → Q (srV r) μ') : jX G jP 4 0 (lv_args 0 [.ref (spl 25 v0.1 v0.2), .int v1]) [] μ Q := by
  unfold F_4 at h
  have l0 : jld (lv_args 0 [.ref (spl 25 v0.1 v0.2), .int v1]) 0 = some (.ref (spl 25 v0.1 v0.2)) := by rfl
  have l1 : jld (lv_args 0 [.ref (spl 25 v0.1 v0.2), .int v1]) 1 = some (.int v1) := by rfl
  generalize lv_args 0 [.ref (spl 25 v0.1 v0.2), .int v1] = lv at *
  refine jX.lrn l0 (by rfl) (by rfl) (?_ : jX G jP 4 1 lv [.ref (spl 25 v0.1 v0.2)] μ Q)
  refine jX.ic (v := nI 0) (n := 1) (by rfl) (by rfl) (by decide) (?_ : jX G jP 4 2 lv [.int (nI 0), .ref (spl 25 v0.1 v0.2)] μ Q)
  obtain ⟨g1, h⟩ := jif_some h
  refine jX.spI R g1 (by rfl) (by rfl) (by rfl) (by rfl) (by rfl) (by rfl) (by rfl) (by rfl) (fun μ R => (?_ : jX G jP 4 5 lv [] μ Q))
  refine jX.lrn l0 (by rfl) (by rfl) (?_ : jX G jP 4 6 lv [.ref (spl 25 v0.1 v0.2)] μ Q)
  refine jX.lin l1 (by rfl) (by rfl) (?_ : jX G jP 4 7 lv [.int v1, .ref (spl 25 v0.1 v0.2)] μ Q)
  refine jX.spI R g1 (by rfl) (by rfl) (by rfl) (by rfl) (by rfl) (by rfl) (by rfl) (by rfl) (fun μ R => (?_ : jX G jP 4 10 lv [] μ Q))
  refine jX.lrn l0 (by rfl) (by rfl) (?_ : jX G jP 4 11 lv [.ref (spl 25 v0.1 v0.2)] μ Q)
  refine jX.go (by rfl) (by rfl) (by rfl) (?_ : jX G jP 4 12 lv [.long 0, .ref (spl 25 v0.1 v0.2)] μ Q)
  refine jX.spL R g1 (by rfl) (by rfl) (by rfl) (by rfl) (by rfl) (by rfl) (by rfl) (by rfl) (fun μ R => (?_ : jX G jP 4 15 lv [] μ Q))
  exact jX.ret (by rfl) (by rfl) (by rfl) (by rfl) (sretv (f := srV) h K R)
/-! 5 StrandRuntime$World.reset()V -/
def F_5_11 (G : jG) (t : Nat) : Nat → Int32 → sS → Option (Unit × sS)
  | 0 => fun _ _ => none
  | tt + 1 => fun v1 S => bif jcmp .ge v1 (nI 16) then (some ((), (siI (siI (siI (siI (siI (siI S 8 0 0 3 (nI 0)) 8 0 0 4 (nI 0)) 8 0 0 5 (-1)) 8 0 0 6 (nI 0)) 8 0 0 7 (nI 0)) 8 0 0 8 (nI 0)))) else (jif (jin v1 16) (jif (sex S.2.2.2.1 25 v1.toNatClampNeg 0) ((F_4 G t (v1.toNatClampNeg, 0) (nI 0) S).bind (fun q3 => F_5_11 G t tt (v1 + Int32.ofInt 1) q3.2))))
theorem F_5_11_ok {G : jG} {t : Nat} {r : Unit} {S' : sS} {Q : Option Value ⊕ Nat → jS → Prop} (K : ∀ μ', sR S' μ' → Q (srV r) μ') : ∀ tt : Nat, ∀ (v1 : Int32) (S : sS) (lv : jL) (μ : jS), jld lv 0 = some (.ref (spl 8 0 0)) → jld lv 1 = some (.int v1) → sR S μ → F_5_11 G t tt v1 S = some (r, S') → jX G jP 5 11 lv [] μ Q := by
  intro tt
  induction tt with
  | zero =>
    intro v1 S lv μ l0 l1 R h
    rw [F_5_11] at h
    cases h
  | succ tt ih =>
    intro v1 S lv μ l0 l1 R h
    rw [F_5_11] at h
    refine jX.lin l1 (by rfl) (by rfl) (?_ : jX G jP 5 12 lv [.int v1] μ Q)
    refine jX.ic (v := nI 16) (n := 2) (by rfl) (by rfl) (by decide) (?_ : jX G jP 5 14 lv [.int (nI 16), .int v1] μ Q)
    rcases bif_or h with ⟨hc, h⟩ | ⟨hc, h⟩
    · refine jX.b2t hc (by rfl) (by rfl) (by rfl) (?_ : jX G jP 5 33 lv [] μ Q)
      refine jX.lrn l0 (by rfl) (by rfl) (?_ : jX G jP 5 34 lv [.ref (spl 8 0 0)] μ Q)
      refine jX.ic (v := nI 0) (n := 1) (by rfl) (by rfl) (by decide) (?_ : jX G jP 5 35 lv [.int (nI 0), .ref (spl 8 0 0)] μ Q)
      refine jX.spI R (by rfl) (by rfl) (by rfl) (by rfl) (by rfl) (by rfl) (by rfl) (by rfl) (by rfl) (fun μ R => (?_ : jX G jP 5 38 lv [] μ Q))
      refine jX.lrn l0 (by rfl) (by rfl) (?_ : jX G jP 5 39 lv [.ref (spl 8 0 0)] μ Q)
      refine jX.ic (v := nI 0) (n := 1) (by rfl) (by rfl) (by decide) (?_ : jX G jP 5 40 lv [.int (nI 0), .ref (spl 8 0 0)] μ Q)
      refine jX.spI R (by rfl) (by rfl) (by rfl) (by rfl) (by rfl) (by rfl) (by rfl) (by rfl) (by rfl) (fun μ R => (?_ : jX G jP 5 43 lv [] μ Q))
      refine jX.lrn l0 (by rfl) (by rfl) (?_ : jX G jP 5 44 lv [.ref (spl 8 0 0)] μ Q)
      refine jX.ic (v := (-1)) (n := 1) (by rfl) (by rfl) (by decide) (?_ : jX G jP 5 45 lv [.int (-1), .ref (spl 8 0 0)] μ Q)
      refine jX.spI R (by rfl) (by rfl) (by rfl) (by rfl) (by rfl) (by rfl) (by rfl) (by rfl) (by rfl) (fun μ R => (?_ : jX G jP 5 48 lv [] μ Q))
      refine jX.lrn l0 (by rfl) (by rfl) (?_ : jX G jP 5 49 lv [.ref (spl 8 0 0)] μ Q)
      refine jX.ic (v := nI 0) (n := 1) (by rfl) (by rfl) (by decide) (?_ : jX G jP 5 50 lv [.int (nI 0), .ref (spl 8 0 0)] μ Q)
      refine jX.spI R (by rfl) (by rfl) (by rfl) (by rfl) (by rfl) (by rfl) (by rfl) (by rfl) (by rfl) (fun μ R => (?_ : jX G jP 5 53 lv [] μ Q))
      refine jX.lrn l0 (by rfl) (by rfl) (?_ : jX G jP 5 54 lv [.ref (spl 8 0 0)] μ Q)
      refine jX.ic (v := nI 0) (n := 1) (by rfl) (by rfl) (by decide) (?_ : jX G jP 5 55 lv [.int (nI 0), .ref (spl 8 0 0)] μ Q)
      refine jX.spI R (by rfl) (by rfl) (by rfl) (by rfl) (by rfl) (by rfl) (by rfl) (by rfl) (by rfl) (fun μ R => (?_ : jX G jP 5 58 lv [] μ Q))
      refine jX.lrn l0 (by rfl) (by rfl) (?_ : jX G jP 5 59 lv [.ref (spl 8 0 0)] μ Q)
      refine jX.ic (v := nI 0) (n := 1) (by rfl) (by rfl) (by decide) (?_ : jX G jP 5 60 lv [.int (nI 0), .ref (spl 8 0 0)] μ Q)
      refine jX.spI R (by rfl) (by rfl) (by rfl) (by rfl) (by rfl) (by rfl) (by rfl) (by rfl) (by rfl) (fun μ R => (?_ : jX G jP 5 63 lv [] μ Q))
      exact jX.ret (by rfl) (by rfl) (by rfl) (by rfl) (sretv (f := srV) h K R)
    · refine jX.b2f hc (by rfl) (by rfl) (by rfl) (?_ : jX G jP 5 17 lv [] μ Q)
      refine jX.lrn l0 (by rfl) (by rfl) (?_ : jX G jP 5 18 lv [.ref (spl 8 0 0)] μ Q)
      refine jX.sg R (by rfl) (by rfl) (by rfl) (by rfl) (by rfl) (by rfl) (?_ : jX G jP 5 21 lv [.ref (spl 9 0 0)] μ Q)
      refine jX.lin l1 (by rfl) (by rfl) (?_ : jX G jP 5 22 lv [.int v1, .ref (spl 9 0 0)] μ Q)
      obtain ⟨g1, h⟩ := jif_some h
      refine jX.sar (f := fun q => bif Nat.blt q 16 then some (spl 25 q 0) else none) R (by rfl) (by rfl) (by rfl) (by rfl) g1 (srf_in g1) (?_ : jX G jP 5 23 lv [.ref (spl 25 v1.toNatClampNeg 0)] μ Q)
      refine jX.ic (v := nI 0) (n := 1) (by rfl) (by rfl) (by decide) (?_ : jX G jP 5 24 lv [.int (nI 0), .ref (spl 25 v1.toNatClampNeg 0)] μ Q)
      obtain ⟨g2, h⟩ := jif_some h
      obtain ⟨q3, e3, h⟩ := sbd h
      refine jX.cv (by rfl) (by rfl) (by rfl) (by rfl) (by rfl) (by rfl) (by rfl) (R.rec g2 (by rfl)) (Nat.le_of_ble_eq_true rfl) (Nat.le_of_ble_eq_true rfl) (F_4_ok R e3 (fun μ R => ⟨rfl, (?_ : jX G jP 5 27 lv [] μ Q)⟩))
      refine jX.inc l1 (by rfl) (by rfl) (by rfl) (fun lv l1 kp => (?_ : jX G jP 5 30 lv [] μ Q))
      replace l0 := kp 0 _ l0 (by rfl) (by first | rfl | simp [soR_cat])
      refine jX.go (by rfl) (by rfl) (by rfl) (?_ : jX G jP 5 11 lv [] μ Q)
      exact ih (v1 + Int32.ofInt 1) _ _ _ l0 l1 R h
def F_5 (G : jG) (t : Nat) (S : sS) : Option (Unit × sS) := (F_3 G t (0, 5) (nI 16) S).bind (fun q1 => F_5_11 G t t (nI 0) q1.2)
theorem F_5_ok {G : jG} {t : Nat} {S : sS} {r : Unit} {S' : sS} {μ : jS} {Q : Option Value ⊕ Nat → jS → Prop} (R : sR S μ) (h : F_5 G t S = some (r, S')) (K : ∀ μ', sR S' μ' → Q (srV r) μ') : jX G jP 5 0 (lv_args 0 [.ref (spl 8 0 0)]) [] μ Q := by
  unfold F_5 at h
  have l0 : jld (lv_args 0 [.ref (spl 8 0 0)]) 0 = some (.ref (spl 8 0 0)) := by rfl
  generalize lv_args 0 [.ref (spl 8 0 0)] = lv at *
  refine jX.lrn l0 (by rfl) (by rfl) (?_ : jX G jP 5 1 lv [.ref (spl 8 0 0)] μ Q)
  refine jX.sg R (by rfl) (by rfl) (by rfl) (by rfl) (by rfl) (by rfl) (?_ : jX G jP 5 4 lv [.ref (spl 29 0 5)] μ Q)
  refine jX.ic (v := nI 16) (n := 2) (by rfl) (by rfl) (by decide) (?_ : jX G jP 5 6 lv [.int (nI 16), .ref (spl 29 0 5)] μ Q)
  obtain ⟨q1, e1, h⟩ := sbd h
  refine jX.cv (by rfl) (by rfl) (by rfl) (by rfl) (by rfl) (by rfl) (by rfl) (R.rec (by rfl) (by rfl)) (Nat.le_of_ble_eq_true rfl) (Nat.le_of_ble_eq_true rfl) (F_3_ok R e1 (fun μ R => ⟨rfl, (?_ : jX G jP 5 9 lv [] μ Q)⟩))
  refine jX.ic (v := nI 0) (n := 1) (by rfl) (by rfl) (by decide) (?_ : jX G jP 5 10 lv [.int (nI 0)] μ Q)
  refine jX.s1 (k := 1) (pc' := 11) (by rfl) (by rfl) (by rfl) (fun lv l1 kp => (?_ : jX G jP 5 11 lv [] μ Q))
  replace l0 := kp 0 _ l0 (by rfl) (by first | rfl | simp [soR_cat])
  exact F_5_11_ok  K _ (nI 0) _ _ _ l0 l1 R h
/-! 8 java/util/Arrays.fill([II)V -/
def F_8_5 (G : jG) (t : Nat) : Nat → (Nat × Nat × Nat) → Int32 → Int32 → Int32 → sS → Option (Unit × sS)
  | 0 => fun _ _ _ _ _ => none
  | tt + 1 => fun v0 v1 v2 v3 S => bif jcmp .ge v2 v3 then (some ((), S)) else (jif (sex S.2.2.2.1 v0.1 v0.2.1 v0.2.2) (jif (sia v0.1) (jif (jin v2 (sil v0.1 v0.2.2)) (F_8_5 G t tt v0 v1 (v2 + Int32.ofInt 1) v3 (siI S v0.1 v0.2.1 v0.2.2 v2.toNatClampNeg v1)))))
theorem F_8_5_ok {G : jG} {t : Nat} {r : Unit} {S' : sS} {Q : Option Value ⊕ Nat → jS → Prop} (K : ∀ μ', sR S' μ' → Q (srV r) μ') : ∀ tt : Nat, ∀ (v0 : (Nat × Nat × Nat)) (v1 : Int32) (v2 : Int32) (v3 : Int32) (S : sS) (lv : jL) (μ : jS), jld lv 0 = some (.ref (spl v0.1 v0.2.1 v0.2.2)) → jld lv 1 = some (.int v1) → jld lv 2 = some (.int v2) → jld lv 3 = some (.int v3) → sR S μ → F_8_5 G t tt v0 v1 v2 v3 S = some (r, S') → jX G jP 8 5 lv [] μ Q := by
  intro tt
  induction tt with
  | zero =>
    intro v0 v1 v2 v3 S lv μ l0 l1 l2 l3 R h
    rw [F_8_5] at h
    cases h
  | succ tt ih =>
    intro v0 v1 v2 v3 S lv μ l0 l1 l2 l3 R h
    rw [F_8_5] at h
    refine jX.lin l2 (by rfl) (by rfl) (?_ : jX G jP 8 6 lv [.int v2] μ Q)
    refine jX.lin l3 (by rfl) (by rfl) (?_ : jX G jP 8 7 lv [.int v3, .int v2] μ Q)
    rcases bif_or h with ⟨hc, h⟩ | ⟨hc, h⟩
    · refine jX.b2t hc (by rfl) (by rfl) (by rfl) (?_ : jX G jP 8 20 lv [] μ Q)
      exact jX.ret (by rfl) (by rfl) (by rfl) (by rfl) (sretv (f := srV) h K R)
    · refine jX.b2f hc (by rfl) (by rfl) (by rfl) (?_ : jX G jP 8 10 lv [] μ Q)
      refine jX.lrn l0 (by rfl) (by rfl) (?_ : jX G jP 8 11 lv [.ref (spl v0.1 v0.2.1 v0.2.2)] μ Q)
      refine jX.lin l2 (by rfl) (by rfl) (?_ : jX G jP 8 12 lv [.int v2, .ref (spl v0.1 v0.2.1 v0.2.2)] μ Q)
      refine jX.lin l1 (by rfl) (by rfl) (?_ : jX G jP 8 13 lv [.int v1, .int v2, .ref (spl v0.1 v0.2.1 v0.2.2)] μ Q)
      obtain ⟨g1, h⟩ := jif_some h
      obtain ⟨g2, h⟩ := jif_some h
      obtain ⟨g3, h⟩ := jif_some h
      refine jX.sti R g1 (by rfl) (by rfl) (fun _ => sil_spec g2 _ _ _) g3 (fun μ R => (?_ : jX G jP 8 14 lv [] μ Q))
      refine jX.inc l2 (by rfl) (by rfl) (by rfl) (fun lv l2 kp => (?_ : jX G jP 8 17 lv [] μ Q))
      replace l0 := kp 0 _ l0 (by rfl) (by first | rfl | simp [soR_cat])
      replace l1 := kp 1 _ l1 (by rfl) (by first | rfl | simp [soR_cat])
      replace l3 := kp 3 _ l3 (by rfl) (by first | rfl | simp [soR_cat])
      refine jX.go (by rfl) (by rfl) (by rfl) (?_ : jX G jP 8 5 lv [] μ Q)
      exact ih v0 v1 (v2 + Int32.ofInt 1) v3 _ _ _ l0 l1 l2 l3 R h
def F_8 (G : jG) (t : Nat) (v0 : (Nat × Nat × Nat)) (v1 : Int32) (S : sS) : Option (Unit × sS) := jif (sex S.2.2.2.1 v0.1 v0.2.1 v0.2.2) (jif (sia v0.1) (F_8_5 G t t v0 v1 (nI 0) (Int32.ofNat (sil v0.1 v0.2.2)) S))
theorem F_8_ok {G : jG} {t : Nat} {v0 : (Nat × Nat × Nat)} {v1 : Int32} {S : sS} {r : Unit} {S' : sS} {μ : jS} {Q : Option Value ⊕ Nat → jS → Prop} (R : sR S μ) (h : F_8 G t v0 v1 S = some (r, S')) (K : ∀ μ', sR S' μ' → Q (srV r) μ') : jX G jP 8 0 (lv_args 0 [.ref (spl v0.1 v0.2.1 v0.2.2), .int v1]) [] μ Q := by
  unfold F_8 at h
  have l0 : jld (lv_args 0 [.ref (spl v0.1 v0.2.1 v0.2.2), .int v1]) 0 = some (.ref (spl v0.1 v0.2.1 v0.2.2)) := by rfl
  have l1 : jld (lv_args 0 [.ref (spl v0.1 v0.2.1 v0.2.2), .int v1]) 1 = some (.int v1) := by rfl
  generalize lv_args 0 [.ref (spl v0.1 v0.2.1 v0.2.2), .int v1] = lv at *
  refine jX.ic (v := nI 0) (n := 1) (by rfl) (by rfl) (by decide) (?_ : jX G jP 8 1 lv [.int (nI 0)] μ Q)
  refine jX.s1 (k := 2) (pc' := 2) (by rfl) (by rfl) (by rfl) (fun lv l2 kp => (?_ : jX G jP 8 2 lv [] μ Q))
  replace l0 := kp 0 _ l0 (by rfl) (by first | rfl | simp [soR_cat])
  replace l1 := kp 1 _ l1 (by rfl) (by first | rfl | simp [soR_cat])
  refine jX.lrn l0 (by rfl) (by rfl) (?_ : jX G jP 8 3 lv [.ref (spl v0.1 v0.2.1 v0.2.2)] μ Q)
  obtain ⟨g1, h⟩ := jif_some h
  obtain ⟨g2, h⟩ := jif_some h
  refine jX.sln R g1 (by rfl) (by rfl) (sil_spec g2 _ _ _) (?_ : jX G jP 8 4 lv [.int (Int32.ofNat (sil v0.1 v0.2.2))] μ Q)
  refine jX.s1 (k := 3) (pc' := 5) (by rfl) (by rfl) (by rfl) (fun lv l3 kp => (?_ : jX G jP 8 5 lv [] μ Q))
  replace l0 := kp 0 _ l0 (by rfl) (by first | rfl | simp [soR_cat])
  replace l1 := kp 1 _ l1 (by rfl) (by first | rfl | simp [soR_cat])
  replace l2 := kp 2 _ l2 (by rfl) (by first | rfl | simp [soR_cat])
  exact F_8_5_ok  K _ v0 v1 (nI 0) (Int32.ofNat (sil v0.1 v0.2.2)) _ _ _ l0 l1 l2 l3 R h
/-! 9 StrandRuntime$Tracer.wipe()V -/
def F_9 (G : jG) (t : Nat) (v0 : (Nat × Nat)) (S : sS) : Option (Unit × sS) := jif (sex S.2.2.2.1 15 v0.1 v0.2) ((F_8 G t (16, 0, v0.2) (nI 0) S).bind (fun q2 => jif (sex q2.2.2.2.2.1 15 v0.1 v0.2) (some ((), (siI (siI (siI q2.2 15 v0.1 v0.2 2 (nI 0)) 15 v0.1 v0.2 3 (nI 0)) 15 v0.1 v0.2 4 (nI 0))))))
theorem F_9_ok {G : jG} {t : Nat} {v0 : (Nat × Nat)} {S : sS} {r : Unit} {S' : sS} {μ : jS} {Q : Option Value ⊕ Nat → jS → Prop} (R : sR S μ) (h : F_9 G t v0 S = some (r, S')) (K : ∀ μ', sR S' μ' → Q (srV r) μ') : jX G jP 9 0 (lv_args 0 [.ref (spl 15 v0.1 v0.2)]) [] μ Q := by
  unfold F_9 at h
  have l0 : jld (lv_args 0 [.ref (spl 15 v0.1 v0.2)]) 0 = some (.ref (spl 15 v0.1 v0.2)) := by rfl
  generalize lv_args 0 [.ref (spl 15 v0.1 v0.2)] = lv at *
  refine jX.lrn l0 (by rfl) (by rfl) (?_ : jX G jP 9 1 lv [.ref (spl 15 v0.1 v0.2)] μ Q)
  obtain ⟨g1, h⟩ := jif_some h
  refine jX.sg R g1 (by rfl) (by rfl) (by rfl) (by rfl) (by rfl) (?_ : jX G jP 9 4 lv [.ref (spl 16 0 v0.2)] μ Q)
  refine jX.ic (v := nI 0) (n := 1) (by rfl) (by rfl) (by decide) (?_ : jX G jP 9 5 lv [.int (nI 0), .ref (spl 16 0 v0.2)] μ Q)
  obtain ⟨q2, e2, h⟩ := sbd h
  refine jX.cv (by rfl) (by rfl) (by rfl) (by rfl) (by rfl) (by rfl) (by rfl) (by rfl) (Nat.le_of_ble_eq_true rfl) (Nat.le_of_ble_eq_true rfl) (F_8_ok R e2 (fun μ R => ⟨rfl, (?_ : jX G jP 9 8 lv [] μ Q)⟩))
  refine jX.lrn l0 (by rfl) (by rfl) (?_ : jX G jP 9 9 lv [.ref (spl 15 v0.1 v0.2)] μ Q)
  refine jX.ic (v := nI 0) (n := 1) (by rfl) (by rfl) (by decide) (?_ : jX G jP 9 10 lv [.int (nI 0), .ref (spl 15 v0.1 v0.2)] μ Q)
  obtain ⟨g3, h⟩ := jif_some h
  refine jX.spI R g3 (by rfl) (by rfl) (by rfl) (by rfl) (by rfl) (by rfl) (by rfl) (by rfl) (fun μ R => (?_ : jX G jP 9 13 lv [] μ Q))
  refine jX.lrn l0 (by rfl) (by rfl) (?_ : jX G jP 9 14 lv [.ref (spl 15 v0.1 v0.2)] μ Q)
  refine jX.ic (v := nI 0) (n := 1) (by rfl) (by rfl) (by decide) (?_ : jX G jP 9 15 lv [.int (nI 0), .ref (spl 15 v0.1 v0.2)] μ Q)
  refine jX.spI R g3 (by rfl) (by rfl) (by rfl) (by rfl) (by rfl) (by rfl) (by rfl) (by rfl) (fun μ R => (?_ : jX G jP 9 18 lv [] μ Q))
  refine jX.lrn l0 (by rfl) (by rfl) (?_ : jX G jP 9 19 lv [.ref (spl 15 v0.1 v0.2)] μ Q)
  refine jX.ic (v := nI 0) (n := 1) (by rfl) (by rfl) (by decide) (?_ : jX G jP 9 20 lv [.int (nI 0), .ref (spl 15 v0.1 v0.2)] μ Q)
  refine jX.spI R g3 (by rfl) (by rfl) (by rfl) (by rfl) (by rfl) (by rfl) (by rfl) (by rfl) (fun μ R => (?_ : jX G jP 9 23 lv [] μ Q))
  exact jX.ret (by rfl) (by rfl) (by rfl) (by rfl) (sretv (f := srV) h K R)
/-! 10 StrandRuntime$Heap.rest()V -/
def F_10 (G : jG) (t : Nat) (S : sS) : Option (Unit × sS) := (F_9 G t (0, 0) (siI (siI S 11 0 0 11 (nI 0)) 11 0 0 13 (nI 0))).bind (fun q1 => some ((), q1.2))
theorem F_10_ok {G : jG} {t : Nat} {S : sS} {r : Unit} {S' : sS} {μ : jS} {Q : Option Value ⊕ Nat → jS → Prop} (R : sR S μ) (h : F_10 G t S = some (r, S')) (K : ∀ μ', sR S' μ' → Q (srV r) μ') : jX G jP 10 0 (lv_args 0 [.ref (spl 11 0 0)]) [] μ Q := by
  unfold F_10 at h
  have l0 : jld (lv_args 0 [.ref (spl 11 0 0)]) 0 = some (.ref (spl 11 0 0)) := by rfl
  generalize lv_args 0 [.ref (spl 11 0 0)] = lv at *
  refine jX.lrn l0 (by rfl) (by rfl) (?_ : jX G jP 10 1 lv [.ref (spl 11 0 0)] μ Q)
  refine jX.ic (v := nI 0) (n := 1) (by rfl) (by rfl) (by decide) (?_ : jX G jP 10 2 lv [.int (nI 0), .ref (spl 11 0 0)] μ Q)
  refine jX.spI R (by rfl) (by rfl) (by rfl) (by rfl) (by rfl) (by rfl) (by rfl) (by rfl) (by rfl) (fun μ R => (?_ : jX G jP 10 5 lv [] μ Q))
  refine jX.lrn l0 (by rfl) (by rfl) (?_ : jX G jP 10 6 lv [.ref (spl 11 0 0)] μ Q)
  refine jX.ic (v := nI 0) (n := 1) (by rfl) (by rfl) (by decide) (?_ : jX G jP 10 7 lv [.int (nI 0), .ref (spl 11 0 0)] μ Q)
  refine jX.spI R (by rfl) (by rfl) (by rfl) (by rfl) (by rfl) (by rfl) (by rfl) (by rfl) (by rfl) (fun μ R => (?_ : jX G jP 10 10 lv [] μ Q))
  refine jX.lrn l0 (by rfl) (by rfl) (?_ : jX G jP 10 11 lv [.ref (spl 11 0 0)] μ Q)
  refine jX.sg R (by rfl) (by rfl) (by rfl) (by rfl) (by rfl) (by rfl) (?_ : jX G jP 10 14 lv [.ref (spl 15 0 0)] μ Q)
  obtain ⟨q1, e1, h⟩ := sbd h
  refine jX.cv (by rfl) (by rfl) (by rfl) (by rfl) (by rfl) (by rfl) (by rfl) (R.rec (by rfl) (by rfl)) (Nat.le_of_ble_eq_true rfl) (Nat.le_of_ble_eq_true rfl) (F_9_ok R e1 (fun μ R => ⟨rfl, (?_ : jX G jP 10 17 lv [] μ Q)⟩))
  exact jX.ret (by rfl) (by rfl) (by rfl) (by rfl) (sretv (f := srV) h K R)
/-! 11 StrandRuntime$Heap.reset()V -/
def F_11_25 (G : jG) (t : Nat) (k2 : Int32 → sS → Option (Unit × sS)) (v1 : Int32) (S : sS) : Option (Unit × sS) := jif (jin v1 600) (k2 (v1 + Int32.ofInt 1) (siI S 13 0 0 v1.toNatClampNeg ((nI 599) - v1)))
theorem F_11_25_ok {G : jG} {t : Nat} {k2 : Int32 → sS → Option (Unit × sS)} {r : Unit} {S' : sS} {Q : Option Value ⊕ Nat → jS → Prop} (hk2 : ∀ (v1 : Int32) (S : sS) (lv : jL) (μ : jS), jld lv 0 = some (.ref (spl 11 0 0)) → jld lv 1 = some (.int v1) → sR S μ → k2 v1 S = some (r, S') → jX G jP 11 2 lv [] μ Q) (K : ∀ μ', sR S' μ' → Q (srV r) μ') : ∀ (v1 : Int32) (S : sS) (lv : jL) (μ : jS), jld lv 0 = some (.ref (spl 11 0 0)) → jld lv 1 = some (.int v1) → sR S μ → F_11_25 G t k2 v1 S = some (r, S') → jX G jP 11 25 lv [] μ Q := by
  intro v1 S lv μ l0 l1 R h
  unfold F_11_25 at h
  refine jX.lrn l0 (by rfl) (by rfl) (?_ : jX G jP 11 26 lv [.ref (spl 11 0 0)] μ Q)
  refine jX.sg R (by rfl) (by rfl) (by rfl) (by rfl) (by rfl) (by rfl) (?_ : jX G jP 11 29 lv [.ref (spl 13 0 0)] μ Q)
  refine jX.lin l1 (by rfl) (by rfl) (?_ : jX G jP 11 30 lv [.int v1, .ref (spl 13 0 0)] μ Q)
  refine jX.ic (v := nI 599) (n := 3) (by rfl) (by rfl) (by decide) (?_ : jX G jP 11 33 lv [.int (nI 599), .int v1, .ref (spl 13 0 0)] μ Q)
  refine jX.lin l1 (by rfl) (by rfl) (?_ : jX G jP 11 34 lv [.int v1, .int (nI 599), .int v1, .ref (spl 13 0 0)] μ Q)
  refine jX.go (by rfl) (by rfl) (by rfl) (?_ : jX G jP 11 35 lv [.int ((nI 599) - v1), .int v1, .ref (spl 13 0 0)] μ Q)
  obtain ⟨g1, h⟩ := jif_some h
  refine jX.sti R (by rfl) (by rfl) (by rfl) (fun _ => by rfl) g1 (fun μ R => (?_ : jX G jP 11 36 lv [] μ Q))
  refine jX.inc l1 (by rfl) (by rfl) (by rfl) (fun lv l1 kp => (?_ : jX G jP 11 39 lv [] μ Q))
  replace l0 := kp 0 _ l0 (by rfl) (by first | rfl | simp [soR_cat])
  refine jX.go (by rfl) (by rfl) (by rfl) (?_ : jX G jP 11 2 lv [] μ Q)
  exact hk2 (v1 + Int32.ofInt 1) _ _ _ l0 l1 R h
def F_11_2 (G : jG) (t : Nat) : Nat → Int32 → sS → Option (Unit × sS)
  | 0 => fun _ _ => none
  | tt + 1 => fun v1 S => bif jcmp .ge v1 (nI 600) then ((F_10 G t (siI (siI (siI (siI S 11 0 0 7 (nI 600)) 11 0 0 8 (nI 0)) 11 0 0 9 (nI 0)) 11 0 0 10 (nI 0))).bind (fun q1 => some ((), q1.2))) else (jif (jin v1 600) (sif ((S.2.2.1.2 v1.toNatClampNeg).map fun p => (p, 0)) (F_11_25 G t (F_11_2 G t tt) v1 S) (fun a3 => jif (sex S.2.2.2.1 32 a3.1 a3.2) (F_11_25 G t (F_11_2 G t tt) v1 (siI S 32 a3.1 a3.2 1 (nI 0))))))
theorem F_11_2_ok {G : jG} {t : Nat} {r : Unit} {S' : sS} {Q : Option Value ⊕ Nat → jS → Prop} (K : ∀ μ', sR S' μ' → Q (srV r) μ') : ∀ tt : Nat, ∀ (v1 : Int32) (S : sS) (lv : jL) (μ : jS), jld lv 0 = some (.ref (spl 11 0 0)) → jld lv 1 = some (.int v1) → sR S μ → F_11_2 G t tt v1 S = some (r, S') → jX G jP 11 2 lv [] μ Q := by
  intro tt
  induction tt with
  | zero =>
    intro v1 S lv μ l0 l1 R h
    rw [F_11_2] at h
    cases h
  | succ tt ih =>
    intro v1 S lv μ l0 l1 R h
    rw [F_11_2] at h
    refine jX.lin l1 (by rfl) (by rfl) (?_ : jX G jP 11 3 lv [.int v1] μ Q)
    refine jX.ic (v := nI 600) (n := 3) (by rfl) (by rfl) (by decide) (?_ : jX G jP 11 6 lv [.int (nI 600), .int v1] μ Q)
    rcases bif_or h with ⟨hc, h⟩ | ⟨hc, h⟩
    · refine jX.b2t hc (by rfl) (by rfl) (by rfl) (?_ : jX G jP 11 42 lv [] μ Q)
      refine jX.lrn l0 (by rfl) (by rfl) (?_ : jX G jP 11 43 lv [.ref (spl 11 0 0)] μ Q)
      refine jX.ic (v := nI 600) (n := 3) (by rfl) (by rfl) (by decide) (?_ : jX G jP 11 46 lv [.int (nI 600), .ref (spl 11 0 0)] μ Q)
      refine jX.spI R (by rfl) (by rfl) (by rfl) (by rfl) (by rfl) (by rfl) (by rfl) (by rfl) (by rfl) (fun μ R => (?_ : jX G jP 11 49 lv [] μ Q))
      refine jX.lrn l0 (by rfl) (by rfl) (?_ : jX G jP 11 50 lv [.ref (spl 11 0 0)] μ Q)
      refine jX.ic (v := nI 0) (n := 1) (by rfl) (by rfl) (by decide) (?_ : jX G jP 11 51 lv [.int (nI 0), .ref (spl 11 0 0)] μ Q)
      refine jX.spI R (by rfl) (by rfl) (by rfl) (by rfl) (by rfl) (by rfl) (by rfl) (by rfl) (by rfl) (fun μ R => (?_ : jX G jP 11 54 lv [] μ Q))
      refine jX.lrn l0 (by rfl) (by rfl) (?_ : jX G jP 11 55 lv [.ref (spl 11 0 0)] μ Q)
      refine jX.ic (v := nI 0) (n := 1) (by rfl) (by rfl) (by decide) (?_ : jX G jP 11 56 lv [.int (nI 0), .ref (spl 11 0 0)] μ Q)
      refine jX.spI R (by rfl) (by rfl) (by rfl) (by rfl) (by rfl) (by rfl) (by rfl) (by rfl) (by rfl) (fun μ R => (?_ : jX G jP 11 59 lv [] μ Q))
      refine jX.lrn l0 (by rfl) (by rfl) (?_ : jX G jP 11 60 lv [.ref (spl 11 0 0)] μ Q)
      refine jX.ic (v := nI 0) (n := 1) (by rfl) (by rfl) (by decide) (?_ : jX G jP 11 61 lv [.int (nI 0), .ref (spl 11 0 0)] μ Q)
      refine jX.spI R (by rfl) (by rfl) (by rfl) (by rfl) (by rfl) (by rfl) (by rfl) (by rfl) (by rfl) (fun μ R => (?_ : jX G jP 11 64 lv [] μ Q))
      refine jX.lrn l0 (by rfl) (by rfl) (?_ : jX G jP 11 65 lv [.ref (spl 11 0 0)] μ Q)
      obtain ⟨q1, e1, h⟩ := sbd h
      refine jX.cv (by rfl) (by rfl) (by rfl) (by rfl) (by rfl) (by rfl) (by rfl) (R.rec (by rfl) (by rfl)) (Nat.le_of_ble_eq_true rfl) (Nat.le_of_ble_eq_true rfl) (F_10_ok R e1 (fun μ R => ⟨rfl, (?_ : jX G jP 11 68 lv [] μ Q)⟩))
      exact jX.ret (by rfl) (by rfl) (by rfl) (by rfl) (sretv (f := srV) h K R)
    · refine jX.b2f hc (by rfl) (by rfl) (by rfl) (?_ : jX G jP 11 9 lv [] μ Q)
      refine jX.lrn l0 (by rfl) (by rfl) (?_ : jX G jP 11 10 lv [.ref (spl 11 0 0)] μ Q)
      refine jX.sg R (by rfl) (by rfl) (by rfl) (by rfl) (by rfl) (by rfl) (?_ : jX G jP 11 13 lv [.ref (spl 12 0 0)] μ Q)
      refine jX.lin l1 (by rfl) (by rfl) (?_ : jX G jP 11 14 lv [.int v1, .ref (spl 12 0 0)] μ Q)
      obtain ⟨g2, h⟩ := jif_some h
      refine jX.sar R (by rfl) (by rfl) (by rfl) (by rfl) g2 (srf_32 _) (?_ : jX G jP 11 15 lv [soR 32 ((S.2.2.1.2 v1.toNatClampNeg).map fun p => (p, 0))] μ Q)
      refine jX.so (k := 2) (pc' := 16) (by rfl) (by rfl) (fun _ => by rfl) (by rfl) (fun lv l2 kp => (?_ : jX G jP 11 16 lv [] μ Q))
      replace l0 := kp 0 _ l0 (by rfl) (by first | rfl | simp [soR_cat])
      replace l1 := kp 1 _ l1 (by rfl) (by first | rfl | simp [soR_cat])
      refine jX.lon l2 (by rfl) (by rfl) (?_ : jX G jP 11 17 lv [soR 32 ((S.2.2.1.2 v1.toNatClampNeg).map fun p => (p, 0))] μ Q)
      rcases sif_or h with ⟨e3, h⟩ | ⟨a3, e3, h⟩
      · rw [soR_none (t := 32) e3]
        rw [soR_none (t := 32) e3] at l2
        refine jX.go (by rfl) (by rfl) (by rfl) (?_ : jX G jP 11 25 lv [] μ Q)
        exact F_11_25_ok ih K v1 _ _ _ l0 l1 R h
      · rw [soR_some (t := 32) e3]
        rw [soR_some (t := 32) e3] at l2
        refine jX.go (by rfl) (by rfl) (by rfl) (?_ : jX G jP 11 20 lv [] μ Q)
        refine jX.lrn l2 (by rfl) (by rfl) (?_ : jX G jP 11 21 lv [.ref (spl 32 a3.1 a3.2)] μ Q)
        refine jX.ic (v := nI 0) (n := 1) (by rfl) (by rfl) (by decide) (?_ : jX G jP 11 22 lv [.int (nI 0), .ref (spl 32 a3.1 a3.2)] μ Q)
        obtain ⟨g4, h⟩ := jif_some h
        refine jX.spI R g4 (by rfl) (by rfl) (by rfl) (by rfl) (by rfl) (by rfl) (by rfl) (by rfl) (fun μ R => (?_ : jX G jP 11 25 lv [] μ Q))
        exact F_11_25_ok ih K v1 _ _ _ l0 l1 R h
def F_11 (G : jG) (t : Nat) (S : sS) : Option (Unit × sS) := F_11_2 G t t (nI 0) S
theorem F_11_ok {G : jG} {t : Nat} {S : sS} {r : Unit} {S' : sS} {μ : jS} {Q : Option Value ⊕ Nat → jS → Prop} (R : sR S μ) (h : F_11 G t S = some (r, S')) (K : ∀ μ', sR S' μ' → Q (srV r) μ') : jX G jP 11 0 (lv_args 0 [.ref (spl 11 0 0)]) [] μ Q := by
  unfold F_11 at h
  have l0 : jld (lv_args 0 [.ref (spl 11 0 0)]) 0 = some (.ref (spl 11 0 0)) := by rfl
  generalize lv_args 0 [.ref (spl 11 0 0)] = lv at *
  refine jX.ic (v := nI 0) (n := 1) (by rfl) (by rfl) (by decide) (?_ : jX G jP 11 1 lv [.int (nI 0)] μ Q)
  refine jX.s1 (k := 1) (pc' := 2) (by rfl) (by rfl) (by rfl) (fun lv l1 kp => (?_ : jX G jP 11 2 lv [] μ Q))
  replace l0 := kp 0 _ l0 (by rfl) (by first | rfl | simp [soR_cat])
  exact F_11_2_ok  K _ (nI 0) _ _ _ l0 l1 R h
/-! 17 StrandRuntime$Program.paramsOf(I)I -/
def F_17 (G : jG) (t : Nat) (v1 : Int32) (S : sS) : Option (Int32 × sS) := bif jcmp .lt v1 0 then (some ((nI 0), S)) else (bif jcmp .ge v1 (S.1 1 0 0 6) then (some ((nI 0), S)) else (jif (jin v1 32) (some ((S.1 2 0 0 v1.toNatClampNeg), S))))
theorem F_17_ok {G : jG} {t : Nat} {v1 : Int32} {S : sS} {r : Int32} {S' : sS} {μ : jS} {Q : Option Value ⊕ Nat → jS → Prop} (R : sR S μ) (h : F_17 G t v1 S = some (r, S')) (K : ∀ μ', sR S' μ' → Q (srI r) μ') : jX G jP 17 0 (lv_args 0 [.ref (spl 1 0 0), .int v1]) [] μ Q := by
  unfold F_17 at h
  have l0 : jld (lv_args 0 [.ref (spl 1 0 0), .int v1]) 0 = some (.ref (spl 1 0 0)) := by rfl
  have l1 : jld (lv_args 0 [.ref (spl 1 0 0), .int v1]) 1 = some (.int v1) := by rfl
  generalize lv_args 0 [.ref (spl 1 0 0), .int v1] = lv at *
  refine jX.lin l1 (by rfl) (by rfl) (?_ : jX G jP 17 1 lv [.int v1] μ Q)
  rcases bif_or h with ⟨hc, h⟩ | ⟨hc, h⟩
  · refine jX.b1t hc (by rfl) (by rfl) (by rfl) (?_ : jX G jP 17 21 lv [] μ Q)
    refine jX.ic (v := nI 0) (n := 1) (by rfl) (by rfl) (by decide) (?_ : jX G jP 17 22 lv [.int (nI 0)] μ Q)
    exact jX.ret (by rfl) (by rfl) (by rfl) (by rfl) (sretv (f := srI) h K R)
  · refine jX.b1f hc (by rfl) (by rfl) (by rfl) (?_ : jX G jP 17 4 lv [] μ Q)
    refine jX.lin l1 (by rfl) (by rfl) (?_ : jX G jP 17 5 lv [.int v1] μ Q)
    refine jX.lrn l0 (by rfl) (by rfl) (?_ : jX G jP 17 6 lv [.ref (spl 1 0 0), .int v1] μ Q)
    refine jX.sg R (by rfl) (by rfl) (by rfl) (by rfl) (by rfl) (by rfl) (?_ : jX G jP 17 9 lv [.int (S.1 1 0 0 6), .int v1] μ Q)
    rcases bif_or h with ⟨hc, h⟩ | ⟨hc, h⟩
    · refine jX.b2t hc (by rfl) (by rfl) (by rfl) (?_ : jX G jP 17 21 lv [] μ Q)
      refine jX.ic (v := nI 0) (n := 1) (by rfl) (by rfl) (by decide) (?_ : jX G jP 17 22 lv [.int (nI 0)] μ Q)
      exact jX.ret (by rfl) (by rfl) (by rfl) (by rfl) (sretv (f := srI) h K R)
    · refine jX.b2f hc (by rfl) (by rfl) (by rfl) (?_ : jX G jP 17 12 lv [] μ Q)
      refine jX.lrn l0 (by rfl) (by rfl) (?_ : jX G jP 17 13 lv [.ref (spl 1 0 0)] μ Q)
      refine jX.sg R (by rfl) (by rfl) (by rfl) (by rfl) (by rfl) (by rfl) (?_ : jX G jP 17 16 lv [.ref (spl 2 0 0)] μ Q)
      refine jX.lin l1 (by rfl) (by rfl) (?_ : jX G jP 17 17 lv [.int v1, .ref (spl 2 0 0)] μ Q)
      obtain ⟨g1, h⟩ := jif_some h
      refine jX.sai R (by rfl) (by rfl) (by rfl) (by rfl) g1 (?_ : jX G jP 17 18 lv [.int (S.1 2 0 0 v1.toNatClampNeg)] μ Q)
      refine jX.go (by rfl) (by rfl) (by rfl) (?_ : jX G jP 17 22 lv [.int (S.1 2 0 0 v1.toNatClampNeg)] μ Q)
      exact jX.ret (by rfl) (by rfl) (by rfl) (by rfl) (sretv (f := srI) h K R)
/-! 18 StrandRuntime$Program.endsWell(I)Z -/
def F_18_50 (G : jG) (t : Nat) (S : sS) : Option (Int32 × sS) := some ((nI 1), S)
theorem F_18_50_ok {G : jG} {t : Nat} {r : Int32} {S' : sS} {Q : Option Value ⊕ Nat → jS → Prop} (K : ∀ μ', sR S' μ' → Q (srI r) μ') : ∀ (S : sS) (lv : jL) (μ : jS), sR S μ → F_18_50 G t S = some (r, S') → jX G jP 18 50 lv [] μ Q := by
  intro S lv μ R h
  unfold F_18_50 at h
  refine jX.ic (v := nI 1) (n := 1) (by rfl) (by rfl) (by decide) (?_ : jX G jP 18 51 lv [.int (nI 1)] μ Q)
  refine jX.go (by rfl) (by rfl) (by rfl) (?_ : jX G jP 18 55 lv [.int (nI 1)] μ Q)
  exact jX.ret (by rfl) (by rfl) (by rfl) (by rfl) (sretv (f := srI) h K R)
def F_18 (G : jG) (t : Nat) (v1 : Int32) (S : sS) : Option (Int32 × sS) := jif (jin v1 32) (bif jcmp .ne (S.1 5 0 0 v1.toNatClampNeg) 0 then (jif (jin v1 32) (jif (jin v1 32) (jif (jin (((S.1 4 0 0 v1.toNatClampNeg) + (S.1 5 0 0 v1.toNatClampNeg)) - (nI 1)) 1500) (bif jcmp .eq (S.1 6 0 0 (((S.1 4 0 0 v1.toNatClampNeg) + (S.1 5 0 0 v1.toNatClampNeg)) - (nI 1)).toNatClampNeg) (nI 16) then (F_18_50 G t S) else (bif jcmp .eq (S.1 6 0 0 (((S.1 4 0 0 v1.toNatClampNeg) + (S.1 5 0 0 v1.toNatClampNeg)) - (nI 1)).toNatClampNeg) (nI 19) then (F_18_50 G t S) else (bif jcmp .ne (S.1 6 0 0 (((S.1 4 0 0 v1.toNatClampNeg) + (S.1 5 0 0 v1.toNatClampNeg)) - (nI 1)).toNatClampNeg) (nI 35) then (some ((nI 0), S)) else (F_18_50 G t S))))))) else (some ((nI 0), S)))
theorem F_18_ok {G : jG} {t : Nat} {v1 : Int32} {S : sS} {r : Int32} {S' : sS} {μ : jS} {Q : Option Value ⊕ Nat → jS → Prop} (R : sR S μ) (h : F_18 G t v1 S = some (r, S')) (K : ∀ μ', sR S' μ' → Q (srI r) μ') : jX G jP 18 0 (lv_args 0 [.ref (spl 1 0 0), .int v1]) [] μ Q := by
  unfold F_18 at h
  have l0 : jld (lv_args 0 [.ref (spl 1 0 0), .int v1]) 0 = some (.ref (spl 1 0 0)) := by rfl
  have l1 : jld (lv_args 0 [.ref (spl 1 0 0), .int v1]) 1 = some (.int v1) := by rfl
  generalize lv_args 0 [.ref (spl 1 0 0), .int v1] = lv at *
  refine jX.lrn l0 (by rfl) (by rfl) (?_ : jX G jP 18 1 lv [.ref (spl 1 0 0)] μ Q)
  refine jX.sg R (by rfl) (by rfl) (by rfl) (by rfl) (by rfl) (by rfl) (?_ : jX G jP 18 4 lv [.ref (spl 5 0 0)] μ Q)
  refine jX.lin l1 (by rfl) (by rfl) (?_ : jX G jP 18 5 lv [.int v1, .ref (spl 5 0 0)] μ Q)
  obtain ⟨g1, h⟩ := jif_some h
  refine jX.sai R (by rfl) (by rfl) (by rfl) (by rfl) g1 (?_ : jX G jP 18 6 lv [.int (S.1 5 0 0 v1.toNatClampNeg)] μ Q)
  rcases bif_or h with ⟨hc, h⟩ | ⟨hc, h⟩
  · refine jX.b1t hc (by rfl) (by rfl) (by rfl) (?_ : jX G jP 18 11 lv [] μ Q)
    refine jX.lrn l0 (by rfl) (by rfl) (?_ : jX G jP 18 12 lv [.ref (spl 1 0 0)] μ Q)
    refine jX.sg R (by rfl) (by rfl) (by rfl) (by rfl) (by rfl) (by rfl) (?_ : jX G jP 18 15 lv [.ref (spl 6 0 0)] μ Q)
    refine jX.lrn l0 (by rfl) (by rfl) (?_ : jX G jP 18 16 lv [.ref (spl 1 0 0), .ref (spl 6 0 0)] μ Q)
    refine jX.sg R (by rfl) (by rfl) (by rfl) (by rfl) (by rfl) (by rfl) (?_ : jX G jP 18 19 lv [.ref (spl 4 0 0), .ref (spl 6 0 0)] μ Q)
    refine jX.lin l1 (by rfl) (by rfl) (?_ : jX G jP 18 20 lv [.int v1, .ref (spl 4 0 0), .ref (spl 6 0 0)] μ Q)
    obtain ⟨g2, h⟩ := jif_some h
    refine jX.sai R (by rfl) (by rfl) (by rfl) (by rfl) g2 (?_ : jX G jP 18 21 lv [.int (S.1 4 0 0 v1.toNatClampNeg), .ref (spl 6 0 0)] μ Q)
    refine jX.lrn l0 (by rfl) (by rfl) (?_ : jX G jP 18 22 lv [.ref (spl 1 0 0), .int (S.1 4 0 0 v1.toNatClampNeg), .ref (spl 6 0 0)] μ Q)
    refine jX.sg R (by rfl) (by rfl) (by rfl) (by rfl) (by rfl) (by rfl) (?_ : jX G jP 18 25 lv [.ref (spl 5 0 0), .int (S.1 4 0 0 v1.toNatClampNeg), .ref (spl 6 0 0)] μ Q)
    refine jX.lin l1 (by rfl) (by rfl) (?_ : jX G jP 18 26 lv [.int v1, .ref (spl 5 0 0), .int (S.1 4 0 0 v1.toNatClampNeg), .ref (spl 6 0 0)] μ Q)
    obtain ⟨g3, h⟩ := jif_some h
    refine jX.sai R (by rfl) (by rfl) (by rfl) (by rfl) g3 (?_ : jX G jP 18 27 lv [.int (S.1 5 0 0 v1.toNatClampNeg), .int (S.1 4 0 0 v1.toNatClampNeg), .ref (spl 6 0 0)] μ Q)
    refine jX.go (by rfl) (by rfl) (by rfl) (?_ : jX G jP 18 28 lv [.int ((S.1 4 0 0 v1.toNatClampNeg) + (S.1 5 0 0 v1.toNatClampNeg)), .ref (spl 6 0 0)] μ Q)
    refine jX.ic (v := nI 1) (n := 1) (by rfl) (by rfl) (by decide) (?_ : jX G jP 18 29 lv [.int (nI 1), .int ((S.1 4 0 0 v1.toNatClampNeg) + (S.1 5 0 0 v1.toNatClampNeg)), .ref (spl 6 0 0)] μ Q)
    refine jX.go (by rfl) (by rfl) (by rfl) (?_ : jX G jP 18 30 lv [.int (((S.1 4 0 0 v1.toNatClampNeg) + (S.1 5 0 0 v1.toNatClampNeg)) - (nI 1)), .ref (spl 6 0 0)] μ Q)
    obtain ⟨g4, h⟩ := jif_some h
    refine jX.sai R (by rfl) (by rfl) (by rfl) (by rfl) g4 (?_ : jX G jP 18 31 lv [.int (S.1 6 0 0 (((S.1 4 0 0 v1.toNatClampNeg) + (S.1 5 0 0 v1.toNatClampNeg)) - (nI 1)).toNatClampNeg)] μ Q)
    refine jX.s1 (k := 2) (pc' := 32) (by rfl) (by rfl) (by rfl) (fun lv l2 kp => (?_ : jX G jP 18 32 lv [] μ Q))
    refine jX.lin l2 (by rfl) (by rfl) (?_ : jX G jP 18 33 lv [.int (S.1 6 0 0 (((S.1 4 0 0 v1.toNatClampNeg) + (S.1 5 0 0 v1.toNatClampNeg)) - (nI 1)).toNatClampNeg)] μ Q)
    refine jX.ic (v := nI 16) (n := 2) (by rfl) (by rfl) (by decide) (?_ : jX G jP 18 35 lv [.int (nI 16), .int (S.1 6 0 0 (((S.1 4 0 0 v1.toNatClampNeg) + (S.1 5 0 0 v1.toNatClampNeg)) - (nI 1)).toNatClampNeg)] μ Q)
    rcases bif_or h with ⟨hc, h⟩ | ⟨hc, h⟩
    · refine jX.b2t hc (by rfl) (by rfl) (by rfl) (?_ : jX G jP 18 50 lv [] μ Q)
      exact F_18_50_ok  K  _ _ _  R h
    · refine jX.b2f hc (by rfl) (by rfl) (by rfl) (?_ : jX G jP 18 38 lv [] μ Q)
      refine jX.lin l2 (by rfl) (by rfl) (?_ : jX G jP 18 39 lv [.int (S.1 6 0 0 (((S.1 4 0 0 v1.toNatClampNeg) + (S.1 5 0 0 v1.toNatClampNeg)) - (nI 1)).toNatClampNeg)] μ Q)
      refine jX.ic (v := nI 19) (n := 2) (by rfl) (by rfl) (by decide) (?_ : jX G jP 18 41 lv [.int (nI 19), .int (S.1 6 0 0 (((S.1 4 0 0 v1.toNatClampNeg) + (S.1 5 0 0 v1.toNatClampNeg)) - (nI 1)).toNatClampNeg)] μ Q)
      rcases bif_or h with ⟨hc, h⟩ | ⟨hc, h⟩
      · refine jX.b2t hc (by rfl) (by rfl) (by rfl) (?_ : jX G jP 18 50 lv [] μ Q)
        exact F_18_50_ok  K  _ _ _  R h
      · refine jX.b2f hc (by rfl) (by rfl) (by rfl) (?_ : jX G jP 18 44 lv [] μ Q)
        refine jX.lin l2 (by rfl) (by rfl) (?_ : jX G jP 18 45 lv [.int (S.1 6 0 0 (((S.1 4 0 0 v1.toNatClampNeg) + (S.1 5 0 0 v1.toNatClampNeg)) - (nI 1)).toNatClampNeg)] μ Q)
        refine jX.ic (v := nI 35) (n := 2) (by rfl) (by rfl) (by decide) (?_ : jX G jP 18 47 lv [.int (nI 35), .int (S.1 6 0 0 (((S.1 4 0 0 v1.toNatClampNeg) + (S.1 5 0 0 v1.toNatClampNeg)) - (nI 1)).toNatClampNeg)] μ Q)
        rcases bif_or h with ⟨hc, h⟩ | ⟨hc, h⟩
        · refine jX.b2t hc (by rfl) (by rfl) (by rfl) (?_ : jX G jP 18 54 lv [] μ Q)
          refine jX.ic (v := nI 0) (n := 1) (by rfl) (by rfl) (by decide) (?_ : jX G jP 18 55 lv [.int (nI 0)] μ Q)
          exact jX.ret (by rfl) (by rfl) (by rfl) (by rfl) (sretv (f := srI) h K R)
        · refine jX.b2f hc (by rfl) (by rfl) (by rfl) (?_ : jX G jP 18 50 lv [] μ Q)
          exact F_18_50_ok  K  _ _ _  R h
  · refine jX.b1f hc (by rfl) (by rfl) (by rfl) (?_ : jX G jP 18 9 lv [] μ Q)
    refine jX.ic (v := nI 0) (n := 1) (by rfl) (by rfl) (by decide) (?_ : jX G jP 18 10 lv [.int (nI 0)] μ Q)
    exact jX.ret (by rfl) (by rfl) (by rfl) (by rfl) (sretv (f := srI) h K R)
/-! 19 StrandRuntime$Program.leadsSomewhere(III)Z -/
def F_19_52 (G : jG) (t : Nat) (v1 : Int32) (v3 : Int32) (S : sS) : Option (Int32 × sS) := bif jcmp .lt v3 0 then (some ((nI 0), S)) else (jif (jin v1 32) (bif jcmp .ge v3 (S.1 5 0 0 v1.toNatClampNeg) then (some ((nI 0), S)) else (some ((nI 1), S))))
theorem F_19_52_ok {G : jG} {t : Nat} {r : Int32} {S' : sS} {Q : Option Value ⊕ Nat → jS → Prop} (K : ∀ μ', sR S' μ' → Q (srI r) μ') : ∀ (v1 : Int32) (v3 : Int32) (S : sS) (lv : jL) (μ : jS), jld lv 0 = some (.ref (spl 1 0 0)) → jld lv 1 = some (.int v1) → jld lv 3 = some (.int v3) → sR S μ → F_19_52 G t v1 v3 S = some (r, S') → jX G jP 19 52 lv [] μ Q := by
  intro v1 v3 S lv μ l0 l1 l3 R h
  unfold F_19_52 at h
  refine jX.lin l3 (by rfl) (by rfl) (?_ : jX G jP 19 53 lv [.int v3] μ Q)
  rcases bif_or h with ⟨hc, h⟩ | ⟨hc, h⟩
  · refine jX.b1t hc (by rfl) (by rfl) (by rfl) (?_ : jX G jP 19 70 lv [] μ Q)
    refine jX.ic (v := nI 0) (n := 1) (by rfl) (by rfl) (by decide) (?_ : jX G jP 19 71 lv [.int (nI 0)] μ Q)
    exact jX.ret (by rfl) (by rfl) (by rfl) (by rfl) (sretv (f := srI) h K R)
  · refine jX.b1f hc (by rfl) (by rfl) (by rfl) (?_ : jX G jP 19 56 lv [] μ Q)
    refine jX.lin l3 (by rfl) (by rfl) (?_ : jX G jP 19 57 lv [.int v3] μ Q)
    refine jX.lrn l0 (by rfl) (by rfl) (?_ : jX G jP 19 58 lv [.ref (spl 1 0 0), .int v3] μ Q)
    refine jX.sg R (by rfl) (by rfl) (by rfl) (by rfl) (by rfl) (by rfl) (?_ : jX G jP 19 61 lv [.ref (spl 5 0 0), .int v3] μ Q)
    refine jX.lin l1 (by rfl) (by rfl) (?_ : jX G jP 19 62 lv [.int v1, .ref (spl 5 0 0), .int v3] μ Q)
    obtain ⟨g1, h⟩ := jif_some h
    refine jX.sai R (by rfl) (by rfl) (by rfl) (by rfl) g1 (?_ : jX G jP 19 63 lv [.int (S.1 5 0 0 v1.toNatClampNeg), .int v3] μ Q)
    rcases bif_or h with ⟨hc, h⟩ | ⟨hc, h⟩
    · refine jX.b2t hc (by rfl) (by rfl) (by rfl) (?_ : jX G jP 19 70 lv [] μ Q)
      refine jX.ic (v := nI 0) (n := 1) (by rfl) (by rfl) (by decide) (?_ : jX G jP 19 71 lv [.int (nI 0)] μ Q)
      exact jX.ret (by rfl) (by rfl) (by rfl) (by rfl) (sretv (f := srI) h K R)
    · refine jX.b2f hc (by rfl) (by rfl) (by rfl) (?_ : jX G jP 19 66 lv [] μ Q)
      refine jX.ic (v := nI 1) (n := 1) (by rfl) (by rfl) (by decide) (?_ : jX G jP 19 67 lv [.int (nI 1)] μ Q)
      refine jX.go (by rfl) (by rfl) (by rfl) (?_ : jX G jP 19 71 lv [.int (nI 1)] μ Q)
      exact jX.ret (by rfl) (by rfl) (by rfl) (by rfl) (sretv (f := srI) h K R)
def F_19_72 (G : jG) (t : Nat) (v3 : Int32) (S : sS) : Option (Int32 × sS) := bif jcmp .lt v3 0 then (some ((nI 0), S)) else (bif jcmp .ge v3 (S.1 1 0 0 6) then (some ((nI 0), S)) else (some ((nI 1), S)))
theorem F_19_72_ok {G : jG} {t : Nat} {r : Int32} {S' : sS} {Q : Option Value ⊕ Nat → jS → Prop} (K : ∀ μ', sR S' μ' → Q (srI r) μ') : ∀ (v3 : Int32) (S : sS) (lv : jL) (μ : jS), jld lv 0 = some (.ref (spl 1 0 0)) → jld lv 3 = some (.int v3) → sR S μ → F_19_72 G t v3 S = some (r, S') → jX G jP 19 72 lv [] μ Q := by
  intro v3 S lv μ l0 l3 R h
  unfold F_19_72 at h
  refine jX.lin l3 (by rfl) (by rfl) (?_ : jX G jP 19 73 lv [.int v3] μ Q)
  rcases bif_or h with ⟨hc, h⟩ | ⟨hc, h⟩
  · refine jX.b1t hc (by rfl) (by rfl) (by rfl) (?_ : jX G jP 19 88 lv [] μ Q)
    refine jX.ic (v := nI 0) (n := 1) (by rfl) (by rfl) (by decide) (?_ : jX G jP 19 89 lv [.int (nI 0)] μ Q)
    exact jX.ret (by rfl) (by rfl) (by rfl) (by rfl) (sretv (f := srI) h K R)
  · refine jX.b1f hc (by rfl) (by rfl) (by rfl) (?_ : jX G jP 19 76 lv [] μ Q)
    refine jX.lin l3 (by rfl) (by rfl) (?_ : jX G jP 19 77 lv [.int v3] μ Q)
    refine jX.lrn l0 (by rfl) (by rfl) (?_ : jX G jP 19 78 lv [.ref (spl 1 0 0), .int v3] μ Q)
    refine jX.sg R (by rfl) (by rfl) (by rfl) (by rfl) (by rfl) (by rfl) (?_ : jX G jP 19 81 lv [.int (S.1 1 0 0 6), .int v3] μ Q)
    rcases bif_or h with ⟨hc, h⟩ | ⟨hc, h⟩
    · refine jX.b2t hc (by rfl) (by rfl) (by rfl) (?_ : jX G jP 19 88 lv [] μ Q)
      refine jX.ic (v := nI 0) (n := 1) (by rfl) (by rfl) (by decide) (?_ : jX G jP 19 89 lv [.int (nI 0)] μ Q)
      exact jX.ret (by rfl) (by rfl) (by rfl) (by rfl) (sretv (f := srI) h K R)
    · refine jX.b2f hc (by rfl) (by rfl) (by rfl) (?_ : jX G jP 19 84 lv [] μ Q)
      refine jX.ic (v := nI 1) (n := 1) (by rfl) (by rfl) (by decide) (?_ : jX G jP 19 85 lv [.int (nI 1)] μ Q)
      refine jX.go (by rfl) (by rfl) (by rfl) (?_ : jX G jP 19 89 lv [.int (nI 1)] μ Q)
      exact jX.ret (by rfl) (by rfl) (by rfl) (by rfl) (sretv (f := srI) h K R)
def F_19 (G : jG) (t : Nat) (v1 : Int32) (v2 : Int32) (v3 : Int32) (S : sS) : Option (Int32 × sS) := bif decide (v2 = nI 16) then (F_19_52 G t v1 v3 S) else (bif decide (v2 = nI 17) then (F_19_52 G t v1 v3 S) else (bif decide (v2 = nI 18) then (F_19_72 G t v3 S) else (bif decide (v2 = nI 20) then (F_19_72 G t v3 S) else (bif decide (v2 = nI 34) then (bif jcmp .lt v3 0 then (some ((nI 0), S)) else (bif jcmp .ge v3 (S.1 1 0 0 6) then (some ((nI 0), S)) else (jif (jin v3 32) (bif jcmp .ne (S.1 2 0 0 v3.toNatClampNeg) (nI 1) then (some ((nI 0), S)) else (some ((nI 1), S)))))) else (some ((nI 1), S))))))
theorem F_19_ok {G : jG} {t : Nat} {v1 : Int32} {v2 : Int32} {v3 : Int32} {S : sS} {r : Int32} {S' : sS} {μ : jS} {Q : Option Value ⊕ Nat → jS → Prop} (R : sR S μ) (h : F_19 G t v1 v2 v3 S = some (r, S')) (K : ∀ μ', sR S' μ' → Q (srI r) μ') : jX G jP 19 0 (lv_args 0 [.ref (spl 1 0 0), .int v1, .int v2, .int v3]) [] μ Q := by
  unfold F_19 at h
  have l0 : jld (lv_args 0 [.ref (spl 1 0 0), .int v1, .int v2, .int v3]) 0 = some (.ref (spl 1 0 0)) := by rfl
  have l1 : jld (lv_args 0 [.ref (spl 1 0 0), .int v1, .int v2, .int v3]) 1 = some (.int v1) := by rfl
  have l2 : jld (lv_args 0 [.ref (spl 1 0 0), .int v1, .int v2, .int v3]) 2 = some (.int v2) := by rfl
  have l3 : jld (lv_args 0 [.ref (spl 1 0 0), .int v1, .int v2, .int v3]) 3 = some (.int v3) := by rfl
  generalize lv_args 0 [.ref (spl 1 0 0), .int v1, .int v2, .int v3] = lv at *
  refine jX.lin l2 (by rfl) (by rfl) (?_ : jX G jP 19 1 lv [.int v2] μ Q)
  rcases bif_or h with ⟨hc, h⟩ | ⟨hn0, h⟩
  · refine jX.swn hc (by rfl) (by rfl) (by rfl) (?_ : jX G jP 19 52 lv [] μ Q)
    exact F_19_52_ok  K v1 v3 _ _ _ l0 l1 l3 R h
  rcases bif_or h with ⟨hc, h⟩ | ⟨hn1, h⟩
  · refine jX.swn hc (by rfl) (by rfl) (by rfl) (?_ : jX G jP 19 52 lv [] μ Q)
    exact F_19_52_ok  K v1 v3 _ _ _ l0 l1 l3 R h
  rcases bif_or h with ⟨hc, h⟩ | ⟨hn2, h⟩
  · refine jX.swn hc (by rfl) (by rfl) (by rfl) (?_ : jX G jP 19 72 lv [] μ Q)
    exact F_19_72_ok  K v3 _ _ _ l0 l3 R h
  rcases bif_or h with ⟨hc, h⟩ | ⟨hn3, h⟩
  · refine jX.swn hc (by rfl) (by rfl) (by rfl) (?_ : jX G jP 19 72 lv [] μ Q)
    exact F_19_72_ok  K v3 _ _ _ l0 l3 R h
  rcases bif_or h with ⟨hc, h⟩ | ⟨hn4, h⟩
  · refine jX.swn hc (by rfl) (by rfl) (by rfl) (?_ : jX G jP 19 90 lv [] μ Q)
    refine jX.lin l3 (by rfl) (by rfl) (?_ : jX G jP 19 91 lv [.int v3] μ Q)
    rcases bif_or h with ⟨hc, h⟩ | ⟨hc, h⟩
    · refine jX.b1t hc (by rfl) (by rfl) (by rfl) (?_ : jX G jP 19 116 lv [] μ Q)
      refine jX.ic (v := nI 0) (n := 1) (by rfl) (by rfl) (by decide) (?_ : jX G jP 19 117 lv [.int (nI 0)] μ Q)
      exact jX.ret (by rfl) (by rfl) (by rfl) (by rfl) (sretv (f := srI) h K R)
    · refine jX.b1f hc (by rfl) (by rfl) (by rfl) (?_ : jX G jP 19 94 lv [] μ Q)
      refine jX.lin l3 (by rfl) (by rfl) (?_ : jX G jP 19 95 lv [.int v3] μ Q)
      refine jX.lrn l0 (by rfl) (by rfl) (?_ : jX G jP 19 96 lv [.ref (spl 1 0 0), .int v3] μ Q)
      refine jX.sg R (by rfl) (by rfl) (by rfl) (by rfl) (by rfl) (by rfl) (?_ : jX G jP 19 99 lv [.int (S.1 1 0 0 6), .int v3] μ Q)
      rcases bif_or h with ⟨hc, h⟩ | ⟨hc, h⟩
      · refine jX.b2t hc (by rfl) (by rfl) (by rfl) (?_ : jX G jP 19 116 lv [] μ Q)
        refine jX.ic (v := nI 0) (n := 1) (by rfl) (by rfl) (by decide) (?_ : jX G jP 19 117 lv [.int (nI 0)] μ Q)
        exact jX.ret (by rfl) (by rfl) (by rfl) (by rfl) (sretv (f := srI) h K R)
      · refine jX.b2f hc (by rfl) (by rfl) (by rfl) (?_ : jX G jP 19 102 lv [] μ Q)
        refine jX.lrn l0 (by rfl) (by rfl) (?_ : jX G jP 19 103 lv [.ref (spl 1 0 0)] μ Q)
        refine jX.sg R (by rfl) (by rfl) (by rfl) (by rfl) (by rfl) (by rfl) (?_ : jX G jP 19 106 lv [.ref (spl 2 0 0)] μ Q)
        refine jX.lin l3 (by rfl) (by rfl) (?_ : jX G jP 19 107 lv [.int v3, .ref (spl 2 0 0)] μ Q)
        obtain ⟨g1, h⟩ := jif_some h
        refine jX.sai R (by rfl) (by rfl) (by rfl) (by rfl) g1 (?_ : jX G jP 19 108 lv [.int (S.1 2 0 0 v3.toNatClampNeg)] μ Q)
        refine jX.ic (v := nI 1) (n := 1) (by rfl) (by rfl) (by decide) (?_ : jX G jP 19 109 lv [.int (nI 1), .int (S.1 2 0 0 v3.toNatClampNeg)] μ Q)
        rcases bif_or h with ⟨hc, h⟩ | ⟨hc, h⟩
        · refine jX.b2t hc (by rfl) (by rfl) (by rfl) (?_ : jX G jP 19 116 lv [] μ Q)
          refine jX.ic (v := nI 0) (n := 1) (by rfl) (by rfl) (by decide) (?_ : jX G jP 19 117 lv [.int (nI 0)] μ Q)
          exact jX.ret (by rfl) (by rfl) (by rfl) (by rfl) (sretv (f := srI) h K R)
        · refine jX.b2f hc (by rfl) (by rfl) (by rfl) (?_ : jX G jP 19 112 lv [] μ Q)
          refine jX.ic (v := nI 1) (n := 1) (by rfl) (by rfl) (by decide) (?_ : jX G jP 19 113 lv [.int (nI 1)] μ Q)
          refine jX.go (by rfl) (by rfl) (by rfl) (?_ : jX G jP 19 117 lv [.int (nI 1)] μ Q)
          exact jX.ret (by rfl) (by rfl) (by rfl) (by rfl) (sretv (f := srI) h K R)
  refine jX.lsd (by rfl) (by rfl) (by rfl) (by rfl) (lsd_ok [16, 17, 18, 20, 34] (by rfl) (by intro k hk; simp only [List.mem_cons, List.not_mem_nil, or_false] at hk; rcases hk with rfl | rfl | rfl | rfl | rfl <;> exact ⟨by decide, by assumption⟩)) (?_ : jX G jP 19 118 lv [] μ Q)
  refine jX.ic (v := nI 1) (n := 1) (by rfl) (by rfl) (by decide) (?_ : jX G jP 19 119 lv [.int (nI 1)] μ Q)
  exact jX.ret (by rfl) (by rfl) (by rfl) (by rfl) (sretv (f := srI) h K R)
/-! 20 StrandRuntime$Program.isWhole()Z -/
def F_20_22 (G : jG) (t : Nat) (k2 : Int32 → sS → Option (Int32 × sS)) : Nat → Int32 → Int32 → sS → Option (Int32 × sS)
  | 0 => fun _ _ _ => none
  | tt + 1 => fun v1 v2 S => jif (jin v1 32) (bif jcmp .ge v2 (S.1 5 0 0 v1.toNatClampNeg) then (k2 (v1 + Int32.ofInt 1) S) else (jif (jin v1 32) (jif (jin ((S.1 4 0 0 v1.toNatClampNeg) + v2) 1500) (jif (jin v1 32) (jif (jin ((S.1 4 0 0 v1.toNatClampNeg) + v2) 1500) ((F_19 G t v1 (S.1 6 0 0 ((S.1 4 0 0 v1.toNatClampNeg) + v2).toNatClampNeg) (S.1 7 0 0 ((S.1 4 0 0 v1.toNatClampNeg) + v2).toNatClampNeg) S).bind (fun q6 => bif jcmp .ne q6.1 0 then (F_20_22 G t k2 tt v1 (v2 + Int32.ofInt 1) q6.2) else (some ((nI 0), q6.2)))))))))
theorem F_20_22_ok {G : jG} {t : Nat} {k2 : Int32 → sS → Option (Int32 × sS)} {r : Int32} {S' : sS} {Q : Option Value ⊕ Nat → jS → Prop} (hk2 : ∀ (v1 : Int32) (S : sS) (lv : jL) (μ : jS), jld lv 0 = some (.ref (spl 1 0 0)) → jld lv 1 = some (.int v1) → sR S μ → k2 v1 S = some (r, S') → jX G jP 20 2 lv [] μ Q) (K : ∀ μ', sR S' μ' → Q (srI r) μ') : ∀ tt : Nat, ∀ (v1 : Int32) (v2 : Int32) (S : sS) (lv : jL) (μ : jS), jld lv 0 = some (.ref (spl 1 0 0)) → jld lv 1 = some (.int v1) → jld lv 2 = some (.int v2) → sR S μ → F_20_22 G t k2 tt v1 v2 S = some (r, S') → jX G jP 20 22 lv [] μ Q := by
  intro tt
  induction tt with
  | zero =>
    intro v1 v2 S lv μ l0 l1 l2 R h
    rw [F_20_22] at h
    cases h
  | succ tt ih =>
    intro v1 v2 S lv μ l0 l1 l2 R h
    rw [F_20_22] at h
    refine jX.lin l2 (by rfl) (by rfl) (?_ : jX G jP 20 23 lv [.int v2] μ Q)
    refine jX.lrn l0 (by rfl) (by rfl) (?_ : jX G jP 20 24 lv [.ref (spl 1 0 0), .int v2] μ Q)
    refine jX.sg R (by rfl) (by rfl) (by rfl) (by rfl) (by rfl) (by rfl) (?_ : jX G jP 20 27 lv [.ref (spl 5 0 0), .int v2] μ Q)
    refine jX.lin l1 (by rfl) (by rfl) (?_ : jX G jP 20 28 lv [.int v1, .ref (spl 5 0 0), .int v2] μ Q)
    obtain ⟨g1, h⟩ := jif_some h
    refine jX.sai R (by rfl) (by rfl) (by rfl) (by rfl) g1 (?_ : jX G jP 20 29 lv [.int (S.1 5 0 0 v1.toNatClampNeg), .int v2] μ Q)
    rcases bif_or h with ⟨hc, h⟩ | ⟨hc, h⟩
    · refine jX.b2t hc (by rfl) (by rfl) (by rfl) (?_ : jX G jP 20 74 lv [] μ Q)
      refine jX.inc l1 (by rfl) (by rfl) (by rfl) (fun lv l1 kp => (?_ : jX G jP 20 77 lv [] μ Q))
      replace l0 := kp 0 _ l0 (by rfl) (by first | rfl | simp [soR_cat])
      refine jX.go (by rfl) (by rfl) (by rfl) (?_ : jX G jP 20 2 lv [] μ Q)
      exact hk2 (v1 + Int32.ofInt 1) _ _ _ l0 l1 R h
    · refine jX.b2f hc (by rfl) (by rfl) (by rfl) (?_ : jX G jP 20 32 lv [] μ Q)
      refine jX.lrn l0 (by rfl) (by rfl) (?_ : jX G jP 20 33 lv [.ref (spl 1 0 0)] μ Q)
      refine jX.lin l1 (by rfl) (by rfl) (?_ : jX G jP 20 34 lv [.int v1, .ref (spl 1 0 0)] μ Q)
      refine jX.lrn l0 (by rfl) (by rfl) (?_ : jX G jP 20 35 lv [.ref (spl 1 0 0), .int v1, .ref (spl 1 0 0)] μ Q)
      refine jX.sg R (by rfl) (by rfl) (by rfl) (by rfl) (by rfl) (by rfl) (?_ : jX G jP 20 38 lv [.ref (spl 6 0 0), .int v1, .ref (spl 1 0 0)] μ Q)
      refine jX.lrn l0 (by rfl) (by rfl) (?_ : jX G jP 20 39 lv [.ref (spl 1 0 0), .ref (spl 6 0 0), .int v1, .ref (spl 1 0 0)] μ Q)
      refine jX.sg R (by rfl) (by rfl) (by rfl) (by rfl) (by rfl) (by rfl) (?_ : jX G jP 20 42 lv [.ref (spl 4 0 0), .ref (spl 6 0 0), .int v1, .ref (spl 1 0 0)] μ Q)
      refine jX.lin l1 (by rfl) (by rfl) (?_ : jX G jP 20 43 lv [.int v1, .ref (spl 4 0 0), .ref (spl 6 0 0), .int v1, .ref (spl 1 0 0)] μ Q)
      obtain ⟨g2, h⟩ := jif_some h
      refine jX.sai R (by rfl) (by rfl) (by rfl) (by rfl) g2 (?_ : jX G jP 20 44 lv [.int (S.1 4 0 0 v1.toNatClampNeg), .ref (spl 6 0 0), .int v1, .ref (spl 1 0 0)] μ Q)
      refine jX.lin l2 (by rfl) (by rfl) (?_ : jX G jP 20 45 lv [.int v2, .int (S.1 4 0 0 v1.toNatClampNeg), .ref (spl 6 0 0), .int v1, .ref (spl 1 0 0)] μ Q)
      refine jX.go (by rfl) (by rfl) (by rfl) (?_ : jX G jP 20 46 lv [.int ((S.1 4 0 0 v1.toNatClampNeg) + v2), .ref (spl 6 0 0), .int v1, .ref (spl 1 0 0)] μ Q)
      obtain ⟨g3, h⟩ := jif_some h
      refine jX.sai R (by rfl) (by rfl) (by rfl) (by rfl) g3 (?_ : jX G jP 20 47 lv [.int (S.1 6 0 0 ((S.1 4 0 0 v1.toNatClampNeg) + v2).toNatClampNeg), .int v1, .ref (spl 1 0 0)] μ Q)
      refine jX.lrn l0 (by rfl) (by rfl) (?_ : jX G jP 20 48 lv [.ref (spl 1 0 0), .int (S.1 6 0 0 ((S.1 4 0 0 v1.toNatClampNeg) + v2).toNatClampNeg), .int v1, .ref (spl 1 0 0)] μ Q)
      refine jX.sg R (by rfl) (by rfl) (by rfl) (by rfl) (by rfl) (by rfl) (?_ : jX G jP 20 51 lv [.ref (spl 7 0 0), .int (S.1 6 0 0 ((S.1 4 0 0 v1.toNatClampNeg) + v2).toNatClampNeg), .int v1, .ref (spl 1 0 0)] μ Q)
      refine jX.lrn l0 (by rfl) (by rfl) (?_ : jX G jP 20 52 lv [.ref (spl 1 0 0), .ref (spl 7 0 0), .int (S.1 6 0 0 ((S.1 4 0 0 v1.toNatClampNeg) + v2).toNatClampNeg), .int v1, .ref (spl 1 0 0)] μ Q)
      refine jX.sg R (by rfl) (by rfl) (by rfl) (by rfl) (by rfl) (by rfl) (?_ : jX G jP 20 55 lv [.ref (spl 4 0 0), .ref (spl 7 0 0), .int (S.1 6 0 0 ((S.1 4 0 0 v1.toNatClampNeg) + v2).toNatClampNeg), .int v1, .ref (spl 1 0 0)] μ Q)
      refine jX.lin l1 (by rfl) (by rfl) (?_ : jX G jP 20 56 lv [.int v1, .ref (spl 4 0 0), .ref (spl 7 0 0), .int (S.1 6 0 0 ((S.1 4 0 0 v1.toNatClampNeg) + v2).toNatClampNeg), .int v1, .ref (spl 1 0 0)] μ Q)
      obtain ⟨g4, h⟩ := jif_some h
      refine jX.sai R (by rfl) (by rfl) (by rfl) (by rfl) g4 (?_ : jX G jP 20 57 lv [.int (S.1 4 0 0 v1.toNatClampNeg), .ref (spl 7 0 0), .int (S.1 6 0 0 ((S.1 4 0 0 v1.toNatClampNeg) + v2).toNatClampNeg), .int v1, .ref (spl 1 0 0)] μ Q)
      refine jX.lin l2 (by rfl) (by rfl) (?_ : jX G jP 20 58 lv [.int v2, .int (S.1 4 0 0 v1.toNatClampNeg), .ref (spl 7 0 0), .int (S.1 6 0 0 ((S.1 4 0 0 v1.toNatClampNeg) + v2).toNatClampNeg), .int v1, .ref (spl 1 0 0)] μ Q)
      refine jX.go (by rfl) (by rfl) (by rfl) (?_ : jX G jP 20 59 lv [.int ((S.1 4 0 0 v1.toNatClampNeg) + v2), .ref (spl 7 0 0), .int (S.1 6 0 0 ((S.1 4 0 0 v1.toNatClampNeg) + v2).toNatClampNeg), .int v1, .ref (spl 1 0 0)] μ Q)
      obtain ⟨g5, h⟩ := jif_some h
      refine jX.sai R (by rfl) (by rfl) (by rfl) (by rfl) g5 (?_ : jX G jP 20 60 lv [.int (S.1 7 0 0 ((S.1 4 0 0 v1.toNatClampNeg) + v2).toNatClampNeg), .int (S.1 6 0 0 ((S.1 4 0 0 v1.toNatClampNeg) + v2).toNatClampNeg), .int v1, .ref (spl 1 0 0)] μ Q)
      obtain ⟨q6, e6, h⟩ := sbd h
      refine jX.c1 (v := .int q6.1) (by rfl) (by rfl) (by rfl) (by rfl) (by rfl) (by rfl) (by rfl) (R.rec (by rfl) (by rfl)) (Nat.le_of_ble_eq_true rfl) (Nat.le_of_ble_eq_true rfl) (F_19_ok R e6 (fun μ R => ⟨rfl, (?_ : jX G jP 20 63 lv [.int q6.1] μ Q)⟩))
      rcases bif_or h with ⟨hc, h⟩ | ⟨hc, h⟩
      · refine jX.b1t hc (by rfl) (by rfl) (by rfl) (?_ : jX G jP 20 68 lv [] μ Q)
        refine jX.inc l2 (by rfl) (by rfl) (by rfl) (fun lv l2 kp => (?_ : jX G jP 20 71 lv [] μ Q))
        replace l0 := kp 0 _ l0 (by rfl) (by first | rfl | simp [soR_cat])
        replace l1 := kp 1 _ l1 (by rfl) (by first | rfl | simp [soR_cat])
        refine jX.go (by rfl) (by rfl) (by rfl) (?_ : jX G jP 20 22 lv [] μ Q)
        exact ih v1 (v2 + Int32.ofInt 1) _ _ _ l0 l1 l2 R h
      · refine jX.b1f hc (by rfl) (by rfl) (by rfl) (?_ : jX G jP 20 66 lv [] μ Q)
        refine jX.ic (v := nI 0) (n := 1) (by rfl) (by rfl) (by decide) (?_ : jX G jP 20 67 lv [.int (nI 0)] μ Q)
        exact jX.ret (by rfl) (by rfl) (by rfl) (by rfl) (sretv (f := srI) h K R)
def F_20_2 (G : jG) (t : Nat) : Nat → Int32 → sS → Option (Int32 × sS)
  | 0 => fun _ _ => none
  | tt + 1 => fun v1 S => bif jcmp .ge v1 (S.1 1 0 0 6) then (some ((nI 1), S)) else ((F_18 G t v1 S).bind (fun q1 => bif jcmp .ne q1.1 0 then (F_20_22 G t (F_20_2 G t tt) t v1 (nI 0) q1.2) else (some ((nI 0), q1.2))))
theorem F_20_2_ok {G : jG} {t : Nat} {r : Int32} {S' : sS} {Q : Option Value ⊕ Nat → jS → Prop} (K : ∀ μ', sR S' μ' → Q (srI r) μ') : ∀ tt : Nat, ∀ (v1 : Int32) (S : sS) (lv : jL) (μ : jS), jld lv 0 = some (.ref (spl 1 0 0)) → jld lv 1 = some (.int v1) → sR S μ → F_20_2 G t tt v1 S = some (r, S') → jX G jP 20 2 lv [] μ Q := by
  intro tt
  induction tt with
  | zero =>
    intro v1 S lv μ l0 l1 R h
    rw [F_20_2] at h
    cases h
  | succ tt ih =>
    intro v1 S lv μ l0 l1 R h
    rw [F_20_2] at h
    refine jX.lin l1 (by rfl) (by rfl) (?_ : jX G jP 20 3 lv [.int v1] μ Q)
    refine jX.lrn l0 (by rfl) (by rfl) (?_ : jX G jP 20 4 lv [.ref (spl 1 0 0), .int v1] μ Q)
    refine jX.sg R (by rfl) (by rfl) (by rfl) (by rfl) (by rfl) (by rfl) (?_ : jX G jP 20 7 lv [.int (S.1 1 0 0 6), .int v1] μ Q)
    rcases bif_or h with ⟨hc, h⟩ | ⟨hc, h⟩
    · refine jX.b2t hc (by rfl) (by rfl) (by rfl) (?_ : jX G jP 20 80 lv [] μ Q)
      refine jX.ic (v := nI 1) (n := 1) (by rfl) (by rfl) (by decide) (?_ : jX G jP 20 81 lv [.int (nI 1)] μ Q)
      exact jX.ret (by rfl) (by rfl) (by rfl) (by rfl) (sretv (f := srI) h K R)
    · refine jX.b2f hc (by rfl) (by rfl) (by rfl) (?_ : jX G jP 20 10 lv [] μ Q)
      refine jX.lrn l0 (by rfl) (by rfl) (?_ : jX G jP 20 11 lv [.ref (spl 1 0 0)] μ Q)
      refine jX.lin l1 (by rfl) (by rfl) (?_ : jX G jP 20 12 lv [.int v1, .ref (spl 1 0 0)] μ Q)
      obtain ⟨q1, e1, h⟩ := sbd h
      refine jX.c1 (v := .int q1.1) (by rfl) (by rfl) (by rfl) (by rfl) (by rfl) (by rfl) (by rfl) (R.rec (by rfl) (by rfl)) (Nat.le_of_ble_eq_true rfl) (Nat.le_of_ble_eq_true rfl) (F_18_ok R e1 (fun μ R => ⟨rfl, (?_ : jX G jP 20 15 lv [.int q1.1] μ Q)⟩))
      rcases bif_or h with ⟨hc, h⟩ | ⟨hc, h⟩
      · refine jX.b1t hc (by rfl) (by rfl) (by rfl) (?_ : jX G jP 20 20 lv [] μ Q)
        refine jX.ic (v := nI 0) (n := 1) (by rfl) (by rfl) (by decide) (?_ : jX G jP 20 21 lv [.int (nI 0)] μ Q)
        refine jX.s1 (k := 2) (pc' := 22) (by rfl) (by rfl) (by rfl) (fun lv l2 kp => (?_ : jX G jP 20 22 lv [] μ Q))
        replace l0 := kp 0 _ l0 (by rfl) (by first | rfl | simp [soR_cat])
        replace l1 := kp 1 _ l1 (by rfl) (by first | rfl | simp [soR_cat])
        exact F_20_22_ok ih K _ v1 (nI 0) _ _ _ l0 l1 l2 R h
      · refine jX.b1f hc (by rfl) (by rfl) (by rfl) (?_ : jX G jP 20 18 lv [] μ Q)
        refine jX.ic (v := nI 0) (n := 1) (by rfl) (by rfl) (by decide) (?_ : jX G jP 20 19 lv [.int (nI 0)] μ Q)
        exact jX.ret (by rfl) (by rfl) (by rfl) (by rfl) (sretv (f := srI) h K R)
def F_20 (G : jG) (t : Nat) (S : sS) : Option (Int32 × sS) := F_20_2 G t t (nI 0) S
theorem F_20_ok {G : jG} {t : Nat} {S : sS} {r : Int32} {S' : sS} {μ : jS} {Q : Option Value ⊕ Nat → jS → Prop} (R : sR S μ) (h : F_20 G t S = some (r, S')) (K : ∀ μ', sR S' μ' → Q (srI r) μ') : jX G jP 20 0 (lv_args 0 [.ref (spl 1 0 0)]) [] μ Q := by
  unfold F_20 at h
  have l0 : jld (lv_args 0 [.ref (spl 1 0 0)]) 0 = some (.ref (spl 1 0 0)) := by rfl
  generalize lv_args 0 [.ref (spl 1 0 0)] = lv at *
  refine jX.ic (v := nI 0) (n := 1) (by rfl) (by rfl) (by decide) (?_ : jX G jP 20 1 lv [.int (nI 0)] μ Q)
  refine jX.s1 (k := 1) (pc' := 2) (by rfl) (by rfl) (by rfl) (fun lv l1 kp => (?_ : jX G jP 20 2 lv [] μ Q))
  replace l0 := kp 0 _ l0 (by rfl) (by first | rfl | simp [soR_cat])
  exact F_20_2_ok  K _ (nI 0) _ _ _ l0 l1 R h
/-! 21 StrandRuntime$Machine.reset()V -/
def F_21 (G : jG) (t : Nat) (S : sS) : Option (Unit × sS) := (F_5 G t S).bind (fun q1 => (F_11 G t q1.2).bind (fun q2 => some ((), (siI (siI (siI (siI q2.2 23 0 0 5 (nI 0)) 23 0 0 6 (nI 0)) 23 0 0 8 (nI 0)) 23 0 0 7 (nI 0)))))
theorem F_21_ok {G : jG} {t : Nat} {S : sS} {r : Unit} {S' : sS} {μ : jS} {Q : Option Value ⊕ Nat → jS → Prop} (R : sR S μ) (h : F_21 G t S = some (r, S')) (K : ∀ μ', sR S' μ' → Q (srV r) μ') : jX G jP 21 0 (lv_args 0 [.ref (spl 23 0 0)]) [] μ Q := by
  unfold F_21 at h
  have l0 : jld (lv_args 0 [.ref (spl 23 0 0)]) 0 = some (.ref (spl 23 0 0)) := by rfl
  generalize lv_args 0 [.ref (spl 23 0 0)] = lv at *
  refine jX.lrn l0 (by rfl) (by rfl) (?_ : jX G jP 21 1 lv [.ref (spl 23 0 0)] μ Q)
  refine jX.sg R (by rfl) (by rfl) (by rfl) (by rfl) (by rfl) (by rfl) (?_ : jX G jP 21 4 lv [.ref (spl 8 0 0)] μ Q)
  obtain ⟨q1, e1, h⟩ := sbd h
  refine jX.cv (by rfl) (by rfl) (by rfl) (by rfl) (by rfl) (by rfl) (by rfl) (R.rec (by rfl) (by rfl)) (Nat.le_of_ble_eq_true rfl) (Nat.le_of_ble_eq_true rfl) (F_5_ok R e1 (fun μ R => ⟨rfl, (?_ : jX G jP 21 7 lv [] μ Q)⟩))
  refine jX.lrn l0 (by rfl) (by rfl) (?_ : jX G jP 21 8 lv [.ref (spl 23 0 0)] μ Q)
  refine jX.sg R (by rfl) (by rfl) (by rfl) (by rfl) (by rfl) (by rfl) (?_ : jX G jP 21 11 lv [.ref (spl 11 0 0)] μ Q)
  obtain ⟨q2, e2, h⟩ := sbd h
  refine jX.cv (by rfl) (by rfl) (by rfl) (by rfl) (by rfl) (by rfl) (by rfl) (R.rec (by rfl) (by rfl)) (Nat.le_of_ble_eq_true rfl) (Nat.le_of_ble_eq_true rfl) (F_11_ok R e2 (fun μ R => ⟨rfl, (?_ : jX G jP 21 14 lv [] μ Q)⟩))
  refine jX.lrn l0 (by rfl) (by rfl) (?_ : jX G jP 21 15 lv [.ref (spl 23 0 0)] μ Q)
  refine jX.ic (v := nI 0) (n := 1) (by rfl) (by rfl) (by decide) (?_ : jX G jP 21 16 lv [.int (nI 0), .ref (spl 23 0 0)] μ Q)
  refine jX.spI R (by rfl) (by rfl) (by rfl) (by rfl) (by rfl) (by rfl) (by rfl) (by rfl) (by rfl) (fun μ R => (?_ : jX G jP 21 19 lv [] μ Q))
  refine jX.lrn l0 (by rfl) (by rfl) (?_ : jX G jP 21 20 lv [.ref (spl 23 0 0)] μ Q)
  refine jX.ic (v := nI 0) (n := 1) (by rfl) (by rfl) (by decide) (?_ : jX G jP 21 21 lv [.int (nI 0), .ref (spl 23 0 0)] μ Q)
  refine jX.spI R (by rfl) (by rfl) (by rfl) (by rfl) (by rfl) (by rfl) (by rfl) (by rfl) (by rfl) (fun μ R => (?_ : jX G jP 21 24 lv [] μ Q))
  refine jX.lrn l0 (by rfl) (by rfl) (?_ : jX G jP 21 25 lv [.ref (spl 23 0 0)] μ Q)
  refine jX.ic (v := nI 0) (n := 1) (by rfl) (by rfl) (by decide) (?_ : jX G jP 21 26 lv [.int (nI 0), .ref (spl 23 0 0)] μ Q)
  refine jX.spI R (by rfl) (by rfl) (by rfl) (by rfl) (by rfl) (by rfl) (by rfl) (by rfl) (by rfl) (fun μ R => (?_ : jX G jP 21 29 lv [] μ Q))
  refine jX.lrn l0 (by rfl) (by rfl) (?_ : jX G jP 21 30 lv [.ref (spl 23 0 0)] μ Q)
  refine jX.ic (v := nI 0) (n := 1) (by rfl) (by rfl) (by decide) (?_ : jX G jP 21 31 lv [.int (nI 0), .ref (spl 23 0 0)] μ Q)
  refine jX.spI R (by rfl) (by rfl) (by rfl) (by rfl) (by rfl) (by rfl) (by rfl) (by rfl) (by rfl) (fun μ R => (?_ : jX G jP 21 34 lv [] μ Q))
  exact jX.ret (by rfl) (by rfl) (by rfl) (by rfl) (sretv (f := srV) h K R)
/-! 22 StrandRuntime$Strand.isThere()Z -/
def F_22 (G : jG) (t : Nat) (v0 : (Nat × Nat)) (S : sS) : Option (Int32 × sS) := jif (sex S.2.2.2.1 25 v0.1 v0.2) (bif jcmp .eq (S.1 25 v0.1 v0.2 4) 0 then (some ((nI 0), S)) else (bif jcmp .eq (S.1 25 v0.1 v0.2 4) (nI 5) then (some ((nI 0), S)) else (bif jcmp .eq (S.1 25 v0.1 v0.2 4) (nI 6) then (some ((nI 0), S)) else (some ((nI 1), S)))))
theorem F_22_ok {G : jG} {t : Nat} {v0 : (Nat × Nat)} {S : sS} {r : Int32} {S' : sS} {μ : jS} {Q : Option Value ⊕ Nat → jS → Prop} (R : sR S μ) (h : F_22 G t v0 S = some (r, S')) (K : ∀ μ', sR S' μ' → Q (srI r) μ') : jX G jP 22 0 (lv_args 0 [.ref (spl 25 v0.1 v0.2)]) [] μ Q := by
  unfold F_22 at h
  have l0 : jld (lv_args 0 [.ref (spl 25 v0.1 v0.2)]) 0 = some (.ref (spl 25 v0.1 v0.2)) := by rfl
  generalize lv_args 0 [.ref (spl 25 v0.1 v0.2)] = lv at *
  refine jX.lrn l0 (by rfl) (by rfl) (?_ : jX G jP 22 1 lv [.ref (spl 25 v0.1 v0.2)] μ Q)
  obtain ⟨g1, h⟩ := jif_some h
  refine jX.sg R g1 (by rfl) (by rfl) (by rfl) (by rfl) (by rfl) (?_ : jX G jP 22 4 lv [.int (S.1 25 v0.1 v0.2 4)] μ Q)
  rcases bif_or h with ⟨hc, h⟩ | ⟨hc, h⟩
  · refine jX.b1t hc (by rfl) (by rfl) (by rfl) (?_ : jX G jP 22 28 lv [] μ Q)
    refine jX.ic (v := nI 0) (n := 1) (by rfl) (by rfl) (by decide) (?_ : jX G jP 22 29 lv [.int (nI 0)] μ Q)
    exact jX.ret (by rfl) (by rfl) (by rfl) (by rfl) (sretv (f := srI) h K R)
  · refine jX.b1f hc (by rfl) (by rfl) (by rfl) (?_ : jX G jP 22 7 lv [] μ Q)
    refine jX.lrn l0 (by rfl) (by rfl) (?_ : jX G jP 22 8 lv [.ref (spl 25 v0.1 v0.2)] μ Q)
    refine jX.sg R g1 (by rfl) (by rfl) (by rfl) (by rfl) (by rfl) (?_ : jX G jP 22 11 lv [.int (S.1 25 v0.1 v0.2 4)] μ Q)
    refine jX.ic (v := nI 5) (n := 1) (by rfl) (by rfl) (by decide) (?_ : jX G jP 22 12 lv [.int (nI 5), .int (S.1 25 v0.1 v0.2 4)] μ Q)
    rcases bif_or h with ⟨hc, h⟩ | ⟨hc, h⟩
    · refine jX.b2t hc (by rfl) (by rfl) (by rfl) (?_ : jX G jP 22 28 lv [] μ Q)
      refine jX.ic (v := nI 0) (n := 1) (by rfl) (by rfl) (by decide) (?_ : jX G jP 22 29 lv [.int (nI 0)] μ Q)
      exact jX.ret (by rfl) (by rfl) (by rfl) (by rfl) (sretv (f := srI) h K R)
    · refine jX.b2f hc (by rfl) (by rfl) (by rfl) (?_ : jX G jP 22 15 lv [] μ Q)
      refine jX.lrn l0 (by rfl) (by rfl) (?_ : jX G jP 22 16 lv [.ref (spl 25 v0.1 v0.2)] μ Q)
      refine jX.sg R g1 (by rfl) (by rfl) (by rfl) (by rfl) (by rfl) (?_ : jX G jP 22 19 lv [.int (S.1 25 v0.1 v0.2 4)] μ Q)
      refine jX.ic (v := nI 6) (n := 2) (by rfl) (by rfl) (by decide) (?_ : jX G jP 22 21 lv [.int (nI 6), .int (S.1 25 v0.1 v0.2 4)] μ Q)
      rcases bif_or h with ⟨hc, h⟩ | ⟨hc, h⟩
      · refine jX.b2t hc (by rfl) (by rfl) (by rfl) (?_ : jX G jP 22 28 lv [] μ Q)
        refine jX.ic (v := nI 0) (n := 1) (by rfl) (by rfl) (by decide) (?_ : jX G jP 22 29 lv [.int (nI 0)] μ Q)
        exact jX.ret (by rfl) (by rfl) (by rfl) (by rfl) (sretv (f := srI) h K R)
      · refine jX.b2f hc (by rfl) (by rfl) (by rfl) (?_ : jX G jP 22 24 lv [] μ Q)
        refine jX.ic (v := nI 1) (n := 1) (by rfl) (by rfl) (by decide) (?_ : jX G jP 22 25 lv [.int (nI 1)] μ Q)
        refine jX.go (by rfl) (by rfl) (by rfl) (?_ : jX G jP 22 29 lv [.int (nI 1)] μ Q)
        exact jX.ret (by rfl) (by rfl) (by rfl) (by rfl) (sretv (f := srI) h K R)
/-! 24 StrandRuntime$Program.localsOf(I)I -/
def F_24 (G : jG) (t : Nat) (v1 : Int32) (S : sS) : Option (Int32 × sS) := bif jcmp .lt v1 0 then (some ((nI 0), S)) else (bif jcmp .ge v1 (S.1 1 0 0 6) then (some ((nI 0), S)) else (jif (jin v1 32) (some ((S.1 3 0 0 v1.toNatClampNeg), S))))
theorem F_24_ok {G : jG} {t : Nat} {v1 : Int32} {S : sS} {r : Int32} {S' : sS} {μ : jS} {Q : Option Value ⊕ Nat → jS → Prop} (R : sR S μ) (h : F_24 G t v1 S = some (r, S')) (K : ∀ μ', sR S' μ' → Q (srI r) μ') : jX G jP 24 0 (lv_args 0 [.ref (spl 1 0 0), .int v1]) [] μ Q := by
  unfold F_24 at h
  have l0 : jld (lv_args 0 [.ref (spl 1 0 0), .int v1]) 0 = some (.ref (spl 1 0 0)) := by rfl
  have l1 : jld (lv_args 0 [.ref (spl 1 0 0), .int v1]) 1 = some (.int v1) := by rfl
  generalize lv_args 0 [.ref (spl 1 0 0), .int v1] = lv at *
  refine jX.lin l1 (by rfl) (by rfl) (?_ : jX G jP 24 1 lv [.int v1] μ Q)
  rcases bif_or h with ⟨hc, h⟩ | ⟨hc, h⟩
  · refine jX.b1t hc (by rfl) (by rfl) (by rfl) (?_ : jX G jP 24 21 lv [] μ Q)
    refine jX.ic (v := nI 0) (n := 1) (by rfl) (by rfl) (by decide) (?_ : jX G jP 24 22 lv [.int (nI 0)] μ Q)
    exact jX.ret (by rfl) (by rfl) (by rfl) (by rfl) (sretv (f := srI) h K R)
  · refine jX.b1f hc (by rfl) (by rfl) (by rfl) (?_ : jX G jP 24 4 lv [] μ Q)
    refine jX.lin l1 (by rfl) (by rfl) (?_ : jX G jP 24 5 lv [.int v1] μ Q)
    refine jX.lrn l0 (by rfl) (by rfl) (?_ : jX G jP 24 6 lv [.ref (spl 1 0 0), .int v1] μ Q)
    refine jX.sg R (by rfl) (by rfl) (by rfl) (by rfl) (by rfl) (by rfl) (?_ : jX G jP 24 9 lv [.int (S.1 1 0 0 6), .int v1] μ Q)
    rcases bif_or h with ⟨hc, h⟩ | ⟨hc, h⟩
    · refine jX.b2t hc (by rfl) (by rfl) (by rfl) (?_ : jX G jP 24 21 lv [] μ Q)
      refine jX.ic (v := nI 0) (n := 1) (by rfl) (by rfl) (by decide) (?_ : jX G jP 24 22 lv [.int (nI 0)] μ Q)
      exact jX.ret (by rfl) (by rfl) (by rfl) (by rfl) (sretv (f := srI) h K R)
    · refine jX.b2f hc (by rfl) (by rfl) (by rfl) (?_ : jX G jP 24 12 lv [] μ Q)
      refine jX.lrn l0 (by rfl) (by rfl) (?_ : jX G jP 24 13 lv [.ref (spl 1 0 0)] μ Q)
      refine jX.sg R (by rfl) (by rfl) (by rfl) (by rfl) (by rfl) (by rfl) (?_ : jX G jP 24 16 lv [.ref (spl 3 0 0)] μ Q)
      refine jX.lin l1 (by rfl) (by rfl) (?_ : jX G jP 24 17 lv [.int v1, .ref (spl 3 0 0)] μ Q)
      obtain ⟨g1, h⟩ := jif_some h
      refine jX.sai R (by rfl) (by rfl) (by rfl) (by rfl) g1 (?_ : jX G jP 24 18 lv [.int (S.1 3 0 0 v1.toNatClampNeg)] μ Q)
      refine jX.go (by rfl) (by rfl) (by rfl) (?_ : jX G jP 24 22 lv [.int (S.1 3 0 0 v1.toNatClampNeg)] μ Q)
      exact jX.ret (by rfl) (by rfl) (by rfl) (by rfl) (sretv (f := srI) h K R)
/-! 25 StrandRuntime$Frame.open(II)V -/
def F_25 (G : jG) (t : Nat) (v0 : (Nat × Nat)) (v1 : Int32) (v2 : Int32) (S : sS) : Option (Unit × sS) := jif (sex S.2.2.2.1 27 v0.1 v0.2) (jif (sex (siI (siI (siI S 27 v0.1 v0.2 5 v1) 27 v0.1 v0.2 6 (nI 0)) 27 v0.1 v0.2 7 (nI 0)).2.2.2.1 29 v0.1 0) ((F_3 G t (v0.1, 0) v2 (siI (siI (siI S 27 v0.1 v0.2 5 v1) 27 v0.1 v0.2 6 (nI 0)) 27 v0.1 v0.2 7 (nI 0))).bind (fun q3 => jif (sex q3.2.2.2.2.1 27 v0.1 v0.2) (jif (sex q3.2.2.2.2.1 29 v0.1 1) (jif (sex (siI q3.2 29 v0.1 1 2 (nI 0)).2.2.2.1 29 v0.1 2) (jif (sex (siI (siI q3.2 29 v0.1 1 2 (nI 0)) 29 v0.1 2 2 (nI 0)).2.2.2.1 29 v0.1 3) (some ((), (siI (siI (siI q3.2 29 v0.1 1 2 (nI 0)) 29 v0.1 2 2 (nI 0)) 29 v0.1 3 2 (nI 0))))))))))
theorem F_25_ok {G : jG} {t : Nat} {v0 : (Nat × Nat)} {v1 : Int32} {v2 : Int32} {S : sS} {r : Unit} {S' : sS} {μ : jS} {Q : Option Value ⊕ Nat → jS → Prop} (R : sR S μ) (h : F_25 G t v0 v1 v2 S = some (r, S')) (K : ∀ μ', sR S' μ' → Q (srV r) μ') : jX G jP 25 0 (lv_args 0 [.ref (spl 27 v0.1 v0.2), .int v1, .int v2]) [] μ Q := by
  unfold F_25 at h
  have l0 : jld (lv_args 0 [.ref (spl 27 v0.1 v0.2), .int v1, .int v2]) 0 = some (.ref (spl 27 v0.1 v0.2)) := by rfl
  have l1 : jld (lv_args 0 [.ref (spl 27 v0.1 v0.2), .int v1, .int v2]) 1 = some (.int v1) := by rfl
  have l2 : jld (lv_args 0 [.ref (spl 27 v0.1 v0.2), .int v1, .int v2]) 2 = some (.int v2) := by rfl
  generalize lv_args 0 [.ref (spl 27 v0.1 v0.2), .int v1, .int v2] = lv at *
  refine jX.lrn l0 (by rfl) (by rfl) (?_ : jX G jP 25 1 lv [.ref (spl 27 v0.1 v0.2)] μ Q)
  refine jX.lin l1 (by rfl) (by rfl) (?_ : jX G jP 25 2 lv [.int v1, .ref (spl 27 v0.1 v0.2)] μ Q)
  obtain ⟨g1, h⟩ := jif_some h
  refine jX.spI R g1 (by rfl) (by rfl) (by rfl) (by rfl) (by rfl) (by rfl) (by rfl) (by rfl) (fun μ R => (?_ : jX G jP 25 5 lv [] μ Q))
  refine jX.lrn l0 (by rfl) (by rfl) (?_ : jX G jP 25 6 lv [.ref (spl 27 v0.1 v0.2)] μ Q)
  refine jX.ic (v := nI 0) (n := 1) (by rfl) (by rfl) (by decide) (?_ : jX G jP 25 7 lv [.int (nI 0), .ref (spl 27 v0.1 v0.2)] μ Q)
  refine jX.spI R g1 (by rfl) (by rfl) (by rfl) (by rfl) (by rfl) (by rfl) (by rfl) (by rfl) (fun μ R => (?_ : jX G jP 25 10 lv [] μ Q))
  refine jX.lrn l0 (by rfl) (by rfl) (?_ : jX G jP 25 11 lv [.ref (spl 27 v0.1 v0.2)] μ Q)
  refine jX.ic (v := nI 0) (n := 1) (by rfl) (by rfl) (by decide) (?_ : jX G jP 25 12 lv [.int (nI 0), .ref (spl 27 v0.1 v0.2)] μ Q)
  refine jX.spI R g1 (by rfl) (by rfl) (by rfl) (by rfl) (by rfl) (by rfl) (by rfl) (by rfl) (fun μ R => (?_ : jX G jP 25 15 lv [] μ Q))
  refine jX.lrn l0 (by rfl) (by rfl) (?_ : jX G jP 25 16 lv [.ref (spl 27 v0.1 v0.2)] μ Q)
  refine jX.sg R g1 (by rfl) (by rfl) (by rfl) (by rfl) (by rfl) (?_ : jX G jP 25 19 lv [.ref (spl 29 v0.1 0)] μ Q)
  refine jX.lin l2 (by rfl) (by rfl) (?_ : jX G jP 25 20 lv [.int v2, .ref (spl 29 v0.1 0)] μ Q)
  obtain ⟨g2, h⟩ := jif_some h
  obtain ⟨q3, e3, h⟩ := sbd h
  refine jX.cv (by rfl) (by rfl) (by rfl) (by rfl) (by rfl) (by rfl) (by rfl) (R.rec g2 (by rfl)) (Nat.le_of_ble_eq_true rfl) (Nat.le_of_ble_eq_true rfl) (F_3_ok R e3 (fun μ R => ⟨rfl, (?_ : jX G jP 25 23 lv [] μ Q)⟩))
  refine jX.lrn l0 (by rfl) (by rfl) (?_ : jX G jP 25 24 lv [.ref (spl 27 v0.1 v0.2)] μ Q)
  obtain ⟨g4, h⟩ := jif_some h
  refine jX.sg R g4 (by rfl) (by rfl) (by rfl) (by rfl) (by rfl) (?_ : jX G jP 25 27 lv [.ref (spl 29 v0.1 1)] μ Q)
  refine jX.ic (v := nI 0) (n := 1) (by rfl) (by rfl) (by decide) (?_ : jX G jP 25 28 lv [.int (nI 0), .ref (spl 29 v0.1 1)] μ Q)
  obtain ⟨g5, h⟩ := jif_some h
  refine jX.spI R g5 (by rfl) (by rfl) (by rfl) (by rfl) (by rfl) (by rfl) (by rfl) (by rfl) (fun μ R => (?_ : jX G jP 25 31 lv [] μ Q))
  refine jX.lrn l0 (by rfl) (by rfl) (?_ : jX G jP 25 32 lv [.ref (spl 27 v0.1 v0.2)] μ Q)
  refine jX.sg R g4 (by rfl) (by rfl) (by rfl) (by rfl) (by rfl) (?_ : jX G jP 25 35 lv [.ref (spl 29 v0.1 2)] μ Q)
  refine jX.ic (v := nI 0) (n := 1) (by rfl) (by rfl) (by decide) (?_ : jX G jP 25 36 lv [.int (nI 0), .ref (spl 29 v0.1 2)] μ Q)
  obtain ⟨g6, h⟩ := jif_some h
  refine jX.spI R g6 (by rfl) (by rfl) (by rfl) (by rfl) (by rfl) (by rfl) (by rfl) (by rfl) (fun μ R => (?_ : jX G jP 25 39 lv [] μ Q))
  refine jX.lrn l0 (by rfl) (by rfl) (?_ : jX G jP 25 40 lv [.ref (spl 27 v0.1 v0.2)] μ Q)
  refine jX.sg R g4 (by rfl) (by rfl) (by rfl) (by rfl) (by rfl) (?_ : jX G jP 25 43 lv [.ref (spl 29 v0.1 3)] μ Q)
  refine jX.ic (v := nI 0) (n := 1) (by rfl) (by rfl) (by decide) (?_ : jX G jP 25 44 lv [.int (nI 0), .ref (spl 29 v0.1 3)] μ Q)
  obtain ⟨g7, h⟩ := jif_some h
  refine jX.spI R g7 (by rfl) (by rfl) (by rfl) (by rfl) (by rfl) (by rfl) (by rfl) (by rfl) (fun μ R => (?_ : jX G jP 25 47 lv [] μ Q))
  exact jX.ret (by rfl) (by rfl) (by rfl) (by rfl) (sretv (f := srV) h K R)
/-! 26 StrandRuntime$Row.number(I)J -/
def F_26 (G : jG) (t : Nat) (v0 : (Nat × Nat)) (v1 : Int32) (S : sS) : Option (Int64 × sS) := bif jcmp .lt v1 0 then (some (0, S)) else (jif (sex S.2.2.2.1 29 v0.1 v0.2) (bif jcmp .ge v1 (S.1 29 v0.1 v0.2 2) then (some (0, S)) else (jif (sex S.2.2.2.1 30 v0.1 v0.2) (jif (jin v1 (srl v0.2)) (some ((S.2.1 30 v0.1 v0.2 v1.toNatClampNeg), S))))))
theorem F_26_ok {G : jG} {t : Nat} {v0 : (Nat × Nat)} {v1 : Int32} {S : sS} {r : Int64} {S' : sS} {μ : jS} {Q : Option Value ⊕ Nat → jS → Prop} (R : sR S μ) (h : F_26 G t v0 v1 S = some (r, S')) (K : ∀ μ', sR S' μ' → Q (srL r) μ') : jX G jP 26 0 (lv_args 0 [.ref (spl 29 v0.1 v0.2), .int v1]) [] μ Q := by
  unfold F_26 at h
  have l0 : jld (lv_args 0 [.ref (spl 29 v0.1 v0.2), .int v1]) 0 = some (.ref (spl 29 v0.1 v0.2)) := by rfl
  have l1 : jld (lv_args 0 [.ref (spl 29 v0.1 v0.2), .int v1]) 1 = some (.int v1) := by rfl
  generalize lv_args 0 [.ref (spl 29 v0.1 v0.2), .int v1] = lv at *
  refine jX.lin l1 (by rfl) (by rfl) (?_ : jX G jP 26 1 lv [.int v1] μ Q)
  rcases bif_or h with ⟨hc, h⟩ | ⟨hc, h⟩
  · refine jX.b1t hc (by rfl) (by rfl) (by rfl) (?_ : jX G jP 26 21 lv [] μ Q)
    refine jX.go (by rfl) (by rfl) (by rfl) (?_ : jX G jP 26 22 lv [.long 0] μ Q)
    exact jX.ret (by rfl) (by rfl) (by rfl) (by rfl) (sretv (f := srL) h K R)
  · refine jX.b1f hc (by rfl) (by rfl) (by rfl) (?_ : jX G jP 26 4 lv [] μ Q)
    refine jX.lin l1 (by rfl) (by rfl) (?_ : jX G jP 26 5 lv [.int v1] μ Q)
    refine jX.lrn l0 (by rfl) (by rfl) (?_ : jX G jP 26 6 lv [.ref (spl 29 v0.1 v0.2), .int v1] μ Q)
    obtain ⟨g1, h⟩ := jif_some h
    refine jX.sg R g1 (by rfl) (by rfl) (by rfl) (by rfl) (by rfl) (?_ : jX G jP 26 9 lv [.int (S.1 29 v0.1 v0.2 2), .int v1] μ Q)
    rcases bif_or h with ⟨hc, h⟩ | ⟨hc, h⟩
    · refine jX.b2t hc (by rfl) (by rfl) (by rfl) (?_ : jX G jP 26 21 lv [] μ Q)
      refine jX.go (by rfl) (by rfl) (by rfl) (?_ : jX G jP 26 22 lv [.long 0] μ Q)
      exact jX.ret (by rfl) (by rfl) (by rfl) (by rfl) (sretv (f := srL) h K R)
    · refine jX.b2f hc (by rfl) (by rfl) (by rfl) (?_ : jX G jP 26 12 lv [] μ Q)
      refine jX.lrn l0 (by rfl) (by rfl) (?_ : jX G jP 26 13 lv [.ref (spl 29 v0.1 v0.2)] μ Q)
      refine jX.sg R g1 (by rfl) (by rfl) (by rfl) (by rfl) (by rfl) (?_ : jX G jP 26 16 lv [.ref (spl 30 v0.1 v0.2)] μ Q)
      refine jX.lin l1 (by rfl) (by rfl) (?_ : jX G jP 26 17 lv [.int v1, .ref (spl 30 v0.1 v0.2)] μ Q)
      obtain ⟨g2, h⟩ := jif_some h
      obtain ⟨g3, h⟩ := jif_some h
      refine jX.sal R g2 (by rfl) (by rfl) (by rfl) g3 (?_ : jX G jP 26 18 lv [.long (S.2.1 30 v0.1 v0.2 v1.toNatClampNeg)] μ Q)
      refine jX.go (by rfl) (by rfl) (by rfl) (?_ : jX G jP 26 22 lv [.long (S.2.1 30 v0.1 v0.2 v1.toNatClampNeg)] μ Q)
      exact jX.ret (by rfl) (by rfl) (by rfl) (by rfl) (sretv (f := srL) h K R)
/-! 27 StrandRuntime$Row.tag(I)I -/
def F_27 (G : jG) (t : Nat) (v0 : (Nat × Nat)) (v1 : Int32) (S : sS) : Option (Int32 × sS) := bif jcmp .lt v1 0 then (some ((nI 0), S)) else (jif (sex S.2.2.2.1 29 v0.1 v0.2) (bif jcmp .ge v1 (S.1 29 v0.1 v0.2 2) then (some ((nI 0), S)) else (jif (sex S.2.2.2.1 31 v0.1 v0.2) (jif (jin v1 (srl v0.2)) (some ((S.1 31 v0.1 v0.2 v1.toNatClampNeg), S))))))
theorem F_27_ok {G : jG} {t : Nat} {v0 : (Nat × Nat)} {v1 : Int32} {S : sS} {r : Int32} {S' : sS} {μ : jS} {Q : Option Value ⊕ Nat → jS → Prop} (R : sR S μ) (h : F_27 G t v0 v1 S = some (r, S')) (K : ∀ μ', sR S' μ' → Q (srI r) μ') : jX G jP 27 0 (lv_args 0 [.ref (spl 29 v0.1 v0.2), .int v1]) [] μ Q := by
  unfold F_27 at h
  have l0 : jld (lv_args 0 [.ref (spl 29 v0.1 v0.2), .int v1]) 0 = some (.ref (spl 29 v0.1 v0.2)) := by rfl
  have l1 : jld (lv_args 0 [.ref (spl 29 v0.1 v0.2), .int v1]) 1 = some (.int v1) := by rfl
  generalize lv_args 0 [.ref (spl 29 v0.1 v0.2), .int v1] = lv at *
  refine jX.lin l1 (by rfl) (by rfl) (?_ : jX G jP 27 1 lv [.int v1] μ Q)
  rcases bif_or h with ⟨hc, h⟩ | ⟨hc, h⟩
  · refine jX.b1t hc (by rfl) (by rfl) (by rfl) (?_ : jX G jP 27 21 lv [] μ Q)
    refine jX.ic (v := nI 0) (n := 1) (by rfl) (by rfl) (by decide) (?_ : jX G jP 27 22 lv [.int (nI 0)] μ Q)
    exact jX.ret (by rfl) (by rfl) (by rfl) (by rfl) (sretv (f := srI) h K R)
  · refine jX.b1f hc (by rfl) (by rfl) (by rfl) (?_ : jX G jP 27 4 lv [] μ Q)
    refine jX.lin l1 (by rfl) (by rfl) (?_ : jX G jP 27 5 lv [.int v1] μ Q)
    refine jX.lrn l0 (by rfl) (by rfl) (?_ : jX G jP 27 6 lv [.ref (spl 29 v0.1 v0.2), .int v1] μ Q)
    obtain ⟨g1, h⟩ := jif_some h
    refine jX.sg R g1 (by rfl) (by rfl) (by rfl) (by rfl) (by rfl) (?_ : jX G jP 27 9 lv [.int (S.1 29 v0.1 v0.2 2), .int v1] μ Q)
    rcases bif_or h with ⟨hc, h⟩ | ⟨hc, h⟩
    · refine jX.b2t hc (by rfl) (by rfl) (by rfl) (?_ : jX G jP 27 21 lv [] μ Q)
      refine jX.ic (v := nI 0) (n := 1) (by rfl) (by rfl) (by decide) (?_ : jX G jP 27 22 lv [.int (nI 0)] μ Q)
      exact jX.ret (by rfl) (by rfl) (by rfl) (by rfl) (sretv (f := srI) h K R)
    · refine jX.b2f hc (by rfl) (by rfl) (by rfl) (?_ : jX G jP 27 12 lv [] μ Q)
      refine jX.lrn l0 (by rfl) (by rfl) (?_ : jX G jP 27 13 lv [.ref (spl 29 v0.1 v0.2)] μ Q)
      refine jX.sg R g1 (by rfl) (by rfl) (by rfl) (by rfl) (by rfl) (?_ : jX G jP 27 16 lv [.ref (spl 31 v0.1 v0.2)] μ Q)
      refine jX.lin l1 (by rfl) (by rfl) (?_ : jX G jP 27 17 lv [.int v1, .ref (spl 31 v0.1 v0.2)] μ Q)
      obtain ⟨g2, h⟩ := jif_some h
      obtain ⟨g3, h⟩ := jif_some h
      refine jX.sai R g2 (by rfl) (by rfl) (by rfl) g3 (?_ : jX G jP 27 18 lv [.int (S.1 31 v0.1 v0.2 v1.toNatClampNeg)] μ Q)
      refine jX.go (by rfl) (by rfl) (by rfl) (?_ : jX G jP 27 22 lv [.int (S.1 31 v0.1 v0.2 v1.toNatClampNeg)] μ Q)
      exact jX.ret (by rfl) (by rfl) (by rfl) (by rfl) (sretv (f := srI) h K R)
/-! 28 StrandRuntime$Row.put(IJI)V -/
def F_28 (G : jG) (t : Nat) (v0 : (Nat × Nat)) (v1 : Int32) (v2 : Int64) (v4 : Int32) (S : sS) : Option (Unit × sS) := bif jcmp .lt v1 0 then (some ((), S)) else (jif (sex S.2.2.2.1 29 v0.1 v0.2) (bif jcmp .ge v1 (S.1 29 v0.1 v0.2 2) then (some ((), S)) else (jif (sex S.2.2.2.1 30 v0.1 v0.2) (jif (jin v1 (srl v0.2)) (jif (sex (siL S 30 v0.1 v0.2 v1.toNatClampNeg v2).2.2.2.1 31 v0.1 v0.2) (jif (jin v1 (srl v0.2)) (some ((), (siI (siL S 30 v0.1 v0.2 v1.toNatClampNeg v2) 31 v0.1 v0.2 v1.toNatClampNeg v4)))))))))
theorem F_28_ok {G : jG} {t : Nat} {v0 : (Nat × Nat)} {v1 : Int32} {v2 : Int64} {v4 : Int32} {S : sS} {r : Unit} {S' : sS} {μ : jS} {Q : Option Value ⊕ Nat → jS → Prop} (R : sR S μ) (h : F_28 G t v0 v1 v2 v4 S = some (r, S')) (K : ∀ μ', sR S' μ' → Q (srV r) μ') : jX G jP 28 0 (lv_args 0 [.ref (spl 29 v0.1 v0.2), .int v1, .long v2, .int v4]) [] μ Q := by
  unfold F_28 at h
  have l0 : jld (lv_args 0 [.ref (spl 29 v0.1 v0.2), .int v1, .long v2, .int v4]) 0 = some (.ref (spl 29 v0.1 v0.2)) := by rfl
  have l1 : jld (lv_args 0 [.ref (spl 29 v0.1 v0.2), .int v1, .long v2, .int v4]) 1 = some (.int v1) := by rfl
  have l2 : jld (lv_args 0 [.ref (spl 29 v0.1 v0.2), .int v1, .long v2, .int v4]) 2 = some (.long v2) := by rfl
  have l4 : jld (lv_args 0 [.ref (spl 29 v0.1 v0.2), .int v1, .long v2, .int v4]) 4 = some (.int v4) := by rfl
  generalize lv_args 0 [.ref (spl 29 v0.1 v0.2), .int v1, .long v2, .int v4] = lv at *
  refine jX.lin l1 (by rfl) (by rfl) (?_ : jX G jP 28 1 lv [.int v1] μ Q)
  rcases bif_or h with ⟨hc, h⟩ | ⟨hc, h⟩
  · refine jX.b1t hc (by rfl) (by rfl) (by rfl) (?_ : jX G jP 28 27 lv [] μ Q)
    exact jX.ret (by rfl) (by rfl) (by rfl) (by rfl) (sretv (f := srV) h K R)
  · refine jX.b1f hc (by rfl) (by rfl) (by rfl) (?_ : jX G jP 28 4 lv [] μ Q)
    refine jX.lin l1 (by rfl) (by rfl) (?_ : jX G jP 28 5 lv [.int v1] μ Q)
    refine jX.lrn l0 (by rfl) (by rfl) (?_ : jX G jP 28 6 lv [.ref (spl 29 v0.1 v0.2), .int v1] μ Q)
    obtain ⟨g1, h⟩ := jif_some h
    refine jX.sg R g1 (by rfl) (by rfl) (by rfl) (by rfl) (by rfl) (?_ : jX G jP 28 9 lv [.int (S.1 29 v0.1 v0.2 2), .int v1] μ Q)
    rcases bif_or h with ⟨hc, h⟩ | ⟨hc, h⟩
    · refine jX.b2t hc (by rfl) (by rfl) (by rfl) (?_ : jX G jP 28 27 lv [] μ Q)
      exact jX.ret (by rfl) (by rfl) (by rfl) (by rfl) (sretv (f := srV) h K R)
    · refine jX.b2f hc (by rfl) (by rfl) (by rfl) (?_ : jX G jP 28 12 lv [] μ Q)
      refine jX.lrn l0 (by rfl) (by rfl) (?_ : jX G jP 28 13 lv [.ref (spl 29 v0.1 v0.2)] μ Q)
      refine jX.sg R g1 (by rfl) (by rfl) (by rfl) (by rfl) (by rfl) (?_ : jX G jP 28 16 lv [.ref (spl 30 v0.1 v0.2)] μ Q)
      refine jX.lin l1 (by rfl) (by rfl) (?_ : jX G jP 28 17 lv [.int v1, .ref (spl 30 v0.1 v0.2)] μ Q)
      refine jX.lln l2 (by rfl) (by rfl) (?_ : jX G jP 28 18 lv [.long v2, .int v1, .ref (spl 30 v0.1 v0.2)] μ Q)
      obtain ⟨g2, h⟩ := jif_some h
      obtain ⟨g3, h⟩ := jif_some h
      refine jX.stl R g2 (by rfl) (by rfl) (fun _ => by rfl) g3 (fun μ R => (?_ : jX G jP 28 19 lv [] μ Q))
      refine jX.lrn l0 (by rfl) (by rfl) (?_ : jX G jP 28 20 lv [.ref (spl 29 v0.1 v0.2)] μ Q)
      refine jX.sg R g1 (by rfl) (by rfl) (by rfl) (by rfl) (by rfl) (?_ : jX G jP 28 23 lv [.ref (spl 31 v0.1 v0.2)] μ Q)
      refine jX.lin l1 (by rfl) (by rfl) (?_ : jX G jP 28 24 lv [.int v1, .ref (spl 31 v0.1 v0.2)] μ Q)
      refine jX.li l4 (by rfl) (by rfl) (?_ : jX G jP 28 26 lv [.int v4, .int v1, .ref (spl 31 v0.1 v0.2)] μ Q)
      obtain ⟨g4, h⟩ := jif_some h
      obtain ⟨g5, h⟩ := jif_some h
      refine jX.sti R g4 (by rfl) (by rfl) (fun _ => by rfl) g5 (fun μ R => (?_ : jX G jP 28 27 lv [] μ Q))
      exact jX.ret (by rfl) (by rfl) (by rfl) (by rfl) (sretv (f := srV) h K R)
/-! 29 StrandRuntime$Strand.enter(ILStrandRuntime$Row;I)Z -/
def F_29_74 (G : jG) (t : Nat) : Nat → (Nat × Nat) → (Nat × Nat) → Int32 → (Nat × Nat) → Int32 → Int32 → sS → Option (Int32 × sS)
  | 0 => fun _ _ _ _ _ _ _ => none
  | tt + 1 => fun v0 v2 v3 v4 v5 v6 S => bif jcmp .ge v6 v5 then (jif (sex S.2.2.2.1 25 v0.1 v0.2) (some ((nI 1), (siI S 25 v0.1 v0.2 3 ((S.1 25 v0.1 v0.2 3) + (nI 1)))))) else (jif (sex S.2.2.2.1 27 v4.1 v4.2) (jif (sex S.2.2.2.1 29 v2.1 v2.2) ((F_26 G t v2 (v3 + v6) S).bind (fun q4 => jif (sex q4.2.2.2.2.1 29 v2.1 v2.2) ((F_27 G t v2 (v3 + v6) q4.2).bind (fun q6 => jif (sex q6.2.2.2.2.1 29 v4.1 0) ((F_28 G t (v4.1, 0) v6 q4.1 q6.1 q6.2).bind (fun q8 => F_29_74 G t tt v0 v2 v3 v4 v5 (v6 + Int32.ofInt 1) q8.2))))))))
theorem F_29_74_ok {G : jG} {t : Nat} {r : Int32} {S' : sS} {Q : Option Value ⊕ Nat → jS → Prop} (K : ∀ μ', sR S' μ' → Q (srI r) μ') : ∀ tt : Nat, ∀ (v0 : (Nat × Nat)) (v2 : (Nat × Nat)) (v3 : Int32) (v4 : (Nat × Nat)) (v5 : Int32) (v6 : Int32) (S : sS) (lv : jL) (μ : jS), jld lv 0 = some (.ref (spl 25 v0.1 v0.2)) → jld lv 2 = some (.ref (spl 29 v2.1 v2.2)) → jld lv 3 = some (.int v3) → jld lv 4 = some (.ref (spl 27 v4.1 v4.2)) → jld lv 5 = some (.int v5) → jld lv 6 = some (.int v6) → sR S μ → F_29_74 G t tt v0 v2 v3 v4 v5 v6 S = some (r, S') → jX G jP 29 74 lv [] μ Q := by
  intro tt
  induction tt with
  | zero =>
    intro v0 v2 v3 v4 v5 v6 S lv μ l0 l2 l3 l4 l5 l6 R h
    rw [F_29_74] at h
    cases h
  | succ tt ih =>
    intro v0 v2 v3 v4 v5 v6 S lv μ l0 l2 l3 l4 l5 l6 R h
    rw [F_29_74] at h
    refine jX.li l6 (by rfl) (by rfl) (?_ : jX G jP 29 76 lv [.int v6] μ Q)
    refine jX.li l5 (by rfl) (by rfl) (?_ : jX G jP 29 78 lv [.int v5, .int v6] μ Q)
    rcases bif_or h with ⟨hc, h⟩ | ⟨hc, h⟩
    · refine jX.b2t hc (by rfl) (by rfl) (by rfl) (?_ : jX G jP 29 113 lv [] μ Q)
      refine jX.lrn l0 (by rfl) (by rfl) (?_ : jX G jP 29 114 lv [.ref (spl 25 v0.1 v0.2)] μ Q)
      refine jX.go (by rfl) (by rfl) (by rfl) (?_ : jX G jP 29 115 lv [.ref (spl 25 v0.1 v0.2), .ref (spl 25 v0.1 v0.2)] μ Q)
      obtain ⟨g1, h⟩ := jif_some h
      refine jX.sg R g1 (by rfl) (by rfl) (by rfl) (by rfl) (by rfl) (?_ : jX G jP 29 118 lv [.int (S.1 25 v0.1 v0.2 3), .ref (spl 25 v0.1 v0.2)] μ Q)
      refine jX.ic (v := nI 1) (n := 1) (by rfl) (by rfl) (by decide) (?_ : jX G jP 29 119 lv [.int (nI 1), .int (S.1 25 v0.1 v0.2 3), .ref (spl 25 v0.1 v0.2)] μ Q)
      refine jX.go (by rfl) (by rfl) (by rfl) (?_ : jX G jP 29 120 lv [.int ((S.1 25 v0.1 v0.2 3) + (nI 1)), .ref (spl 25 v0.1 v0.2)] μ Q)
      refine jX.spI R g1 (by rfl) (by rfl) (by rfl) (by rfl) (by rfl) (by rfl) (by rfl) (by rfl) (fun μ R => (?_ : jX G jP 29 123 lv [] μ Q))
      refine jX.ic (v := nI 1) (n := 1) (by rfl) (by rfl) (by decide) (?_ : jX G jP 29 124 lv [.int (nI 1)] μ Q)
      exact jX.ret (by rfl) (by rfl) (by rfl) (by rfl) (sretv (f := srI) h K R)
    · refine jX.b2f hc (by rfl) (by rfl) (by rfl) (?_ : jX G jP 29 81 lv [] μ Q)
      refine jX.lr l4 (by rfl) (by rfl) (?_ : jX G jP 29 83 lv [.ref (spl 27 v4.1 v4.2)] μ Q)
      obtain ⟨g2, h⟩ := jif_some h
      refine jX.sg R g2 (by rfl) (by rfl) (by rfl) (by rfl) (by rfl) (?_ : jX G jP 29 86 lv [.ref (spl 29 v4.1 0)] μ Q)
      refine jX.li l6 (by rfl) (by rfl) (?_ : jX G jP 29 88 lv [.int v6, .ref (spl 29 v4.1 0)] μ Q)
      refine jX.lrn l2 (by rfl) (by rfl) (?_ : jX G jP 29 89 lv [.ref (spl 29 v2.1 v2.2), .int v6, .ref (spl 29 v4.1 0)] μ Q)
      refine jX.lin l3 (by rfl) (by rfl) (?_ : jX G jP 29 90 lv [.int v3, .ref (spl 29 v2.1 v2.2), .int v6, .ref (spl 29 v4.1 0)] μ Q)
      refine jX.li l6 (by rfl) (by rfl) (?_ : jX G jP 29 92 lv [.int v6, .int v3, .ref (spl 29 v2.1 v2.2), .int v6, .ref (spl 29 v4.1 0)] μ Q)
      refine jX.go (by rfl) (by rfl) (by rfl) (?_ : jX G jP 29 93 lv [.int (v3 + v6), .ref (spl 29 v2.1 v2.2), .int v6, .ref (spl 29 v4.1 0)] μ Q)
      obtain ⟨g3, h⟩ := jif_some h
      obtain ⟨q4, e4, h⟩ := sbd h
      refine jX.c1 (v := .long q4.1) (by rfl) (by rfl) (by rfl) (by rfl) (by rfl) (by rfl) (by rfl) (R.rec g3 (by rfl)) (Nat.le_of_ble_eq_true rfl) (Nat.le_of_ble_eq_true rfl) (F_26_ok R e4 (fun μ R => ⟨rfl, (?_ : jX G jP 29 96 lv [.long q4.1, .int v6, .ref (spl 29 v4.1 0)] μ Q)⟩))
      refine jX.lrn l2 (by rfl) (by rfl) (?_ : jX G jP 29 97 lv [.ref (spl 29 v2.1 v2.2), .long q4.1, .int v6, .ref (spl 29 v4.1 0)] μ Q)
      refine jX.lin l3 (by rfl) (by rfl) (?_ : jX G jP 29 98 lv [.int v3, .ref (spl 29 v2.1 v2.2), .long q4.1, .int v6, .ref (spl 29 v4.1 0)] μ Q)
      refine jX.li l6 (by rfl) (by rfl) (?_ : jX G jP 29 100 lv [.int v6, .int v3, .ref (spl 29 v2.1 v2.2), .long q4.1, .int v6, .ref (spl 29 v4.1 0)] μ Q)
      refine jX.go (by rfl) (by rfl) (by rfl) (?_ : jX G jP 29 101 lv [.int (v3 + v6), .ref (spl 29 v2.1 v2.2), .long q4.1, .int v6, .ref (spl 29 v4.1 0)] μ Q)
      obtain ⟨g5, h⟩ := jif_some h
      obtain ⟨q6, e6, h⟩ := sbd h
      refine jX.c1 (v := .int q6.1) (by rfl) (by rfl) (by rfl) (by rfl) (by rfl) (by rfl) (by rfl) (R.rec g5 (by rfl)) (Nat.le_of_ble_eq_true rfl) (Nat.le_of_ble_eq_true rfl) (F_27_ok R e6 (fun μ R => ⟨rfl, (?_ : jX G jP 29 104 lv [.int q6.1, .long q4.1, .int v6, .ref (spl 29 v4.1 0)] μ Q)⟩))
      obtain ⟨g7, h⟩ := jif_some h
      obtain ⟨q8, e8, h⟩ := sbd h
      refine jX.cv (by rfl) (by rfl) (by rfl) (by rfl) (by rfl) (by rfl) (by rfl) (R.rec g7 (by rfl)) (Nat.le_of_ble_eq_true rfl) (Nat.le_of_ble_eq_true rfl) (F_28_ok R e8 (fun μ R => ⟨rfl, (?_ : jX G jP 29 107 lv [] μ Q)⟩))
      refine jX.inc l6 (by rfl) (by rfl) (by rfl) (fun lv l6 kp => (?_ : jX G jP 29 110 lv [] μ Q))
      replace l0 := kp 0 _ l0 (by rfl) (by first | rfl | simp [soR_cat])
      replace l2 := kp 2 _ l2 (by rfl) (by first | rfl | simp [soR_cat])
      replace l3 := kp 3 _ l3 (by rfl) (by first | rfl | simp [soR_cat])
      replace l4 := kp 4 _ l4 (by rfl) (by first | rfl | simp [soR_cat])
      replace l5 := kp 5 _ l5 (by rfl) (by first | rfl | simp [soR_cat])
      refine jX.go (by rfl) (by rfl) (by rfl) (?_ : jX G jP 29 74 lv [] μ Q)
      exact ih v0 v2 v3 v4 v5 (v6 + Int32.ofInt 1) _ _ _ l0 l2 l3 l4 l5 l6 R h
def F_29_47 (G : jG) (t : Nat) (v0 : (Nat × Nat)) (v1 : Int32) (v2 : (Nat × Nat)) (v3 : Int32) (v4 : (Nat × Nat)) (S : sS) : Option (Int32 × sS) := jif (sex S.2.2.2.1 25 v0.1 v0.2) ((F_24 G t v1 S).bind (fun q2 => jif (sex q2.2.2.2.2.1 27 v4.1 v4.2) ((F_25 G t v4 v1 q2.1 q2.2).bind (fun q4 => jif (sex q4.2.2.2.2.1 25 v0.1 v0.2) ((F_17 G t v1 q4.2).bind (fun q6 => F_29_74 G t t v0 v2 v3 v4 q6.1 (nI 0) q6.2))))))
theorem F_29_47_ok {G : jG} {t : Nat} {r : Int32} {S' : sS} {Q : Option Value ⊕ Nat → jS → Prop} (K : ∀ μ', sR S' μ' → Q (srI r) μ') : ∀ (v0 : (Nat × Nat)) (v1 : Int32) (v2 : (Nat × Nat)) (v3 : Int32) (v4 : (Nat × Nat)) (S : sS) (lv : jL) (μ : jS), jld lv 0 = some (.ref (spl 25 v0.1 v0.2)) → jld lv 1 = some (.int v1) → jld lv 2 = some (.ref (spl 29 v2.1 v2.2)) → jld lv 3 = some (.int v3) → jld lv 4 = some (.ref (spl 27 v4.1 v4.2)) → sR S μ → F_29_47 G t v0 v1 v2 v3 v4 S = some (r, S') → jX G jP 29 47 lv [] μ Q := by
  intro v0 v1 v2 v3 v4 S lv μ l0 l1 l2 l3 l4 R h
  unfold F_29_47 at h
  refine jX.lr l4 (by rfl) (by rfl) (?_ : jX G jP 29 49 lv [.ref (spl 27 v4.1 v4.2)] μ Q)
  refine jX.lin l1 (by rfl) (by rfl) (?_ : jX G jP 29 50 lv [.int v1, .ref (spl 27 v4.1 v4.2)] μ Q)
  refine jX.lrn l0 (by rfl) (by rfl) (?_ : jX G jP 29 51 lv [.ref (spl 25 v0.1 v0.2), .int v1, .ref (spl 27 v4.1 v4.2)] μ Q)
  obtain ⟨g1, h⟩ := jif_some h
  refine jX.sg R g1 (by rfl) (by rfl) (by rfl) (by rfl) (by rfl) (?_ : jX G jP 29 54 lv [.ref (spl 1 0 0), .int v1, .ref (spl 27 v4.1 v4.2)] μ Q)
  refine jX.lin l1 (by rfl) (by rfl) (?_ : jX G jP 29 55 lv [.int v1, .ref (spl 1 0 0), .int v1, .ref (spl 27 v4.1 v4.2)] μ Q)
  obtain ⟨q2, e2, h⟩ := sbd h
  refine jX.c1 (v := .int q2.1) (by rfl) (by rfl) (by rfl) (by rfl) (by rfl) (by rfl) (by rfl) (R.rec (by rfl) (by rfl)) (Nat.le_of_ble_eq_true rfl) (Nat.le_of_ble_eq_true rfl) (F_24_ok R e2 (fun μ R => ⟨rfl, (?_ : jX G jP 29 58 lv [.int q2.1, .int v1, .ref (spl 27 v4.1 v4.2)] μ Q)⟩))
  obtain ⟨g3, h⟩ := jif_some h
  obtain ⟨q4, e4, h⟩ := sbd h
  refine jX.cv (by rfl) (by rfl) (by rfl) (by rfl) (by rfl) (by rfl) (by rfl) (R.rec g3 (by rfl)) (Nat.le_of_ble_eq_true rfl) (Nat.le_of_ble_eq_true rfl) (F_25_ok R e4 (fun μ R => ⟨rfl, (?_ : jX G jP 29 61 lv [] μ Q)⟩))
  refine jX.lrn l0 (by rfl) (by rfl) (?_ : jX G jP 29 62 lv [.ref (spl 25 v0.1 v0.2)] μ Q)
  obtain ⟨g5, h⟩ := jif_some h
  refine jX.sg R g5 (by rfl) (by rfl) (by rfl) (by rfl) (by rfl) (?_ : jX G jP 29 65 lv [.ref (spl 1 0 0)] μ Q)
  refine jX.lin l1 (by rfl) (by rfl) (?_ : jX G jP 29 66 lv [.int v1, .ref (spl 1 0 0)] μ Q)
  obtain ⟨q6, e6, h⟩ := sbd h
  refine jX.c1 (v := .int q6.1) (by rfl) (by rfl) (by rfl) (by rfl) (by rfl) (by rfl) (by rfl) (R.rec (by rfl) (by rfl)) (Nat.le_of_ble_eq_true rfl) (Nat.le_of_ble_eq_true rfl) (F_17_ok R e6 (fun μ R => ⟨rfl, (?_ : jX G jP 29 69 lv [.int q6.1] μ Q)⟩))
  refine jX.s1 (k := 5) (pc' := 71) (by rfl) (by rfl) (by rfl) (fun lv l5 kp => (?_ : jX G jP 29 71 lv [] μ Q))
  replace l0 := kp 0 _ l0 (by rfl) (by first | rfl | simp [soR_cat])
  replace l2 := kp 2 _ l2 (by rfl) (by first | rfl | simp [soR_cat])
  replace l3 := kp 3 _ l3 (by rfl) (by first | rfl | simp [soR_cat])
  replace l4 := kp 4 _ l4 (by rfl) (by first | rfl | simp [soR_cat])
  refine jX.ic (v := nI 0) (n := 1) (by rfl) (by rfl) (by decide) (?_ : jX G jP 29 72 lv [.int (nI 0)] μ Q)
  refine jX.s1 (k := 6) (pc' := 74) (by rfl) (by rfl) (by rfl) (fun lv l6 kp => (?_ : jX G jP 29 74 lv [] μ Q))
  replace l0 := kp 0 _ l0 (by rfl) (by first | rfl | simp [soR_cat])
  replace l2 := kp 2 _ l2 (by rfl) (by first | rfl | simp [soR_cat])
  replace l3 := kp 3 _ l3 (by rfl) (by first | rfl | simp [soR_cat])
  replace l4 := kp 4 _ l4 (by rfl) (by first | rfl | simp [soR_cat])
  replace l5 := kp 5 _ l5 (by rfl) (by first | rfl | simp [soR_cat])
  exact F_29_74_ok  K _ v0 v2 v3 v4 q6.1 (nI 0) _ _ _ l0 l2 l3 l4 l5 l6 R h
def F_29 (G : jG) (t : Nat) (v0 : (Nat × Nat)) (v1 : Int32) (v2 : (Nat × Nat)) (v3 : Int32) (S : sS) : Option (Int32 × sS) := jif (sex S.2.2.2.1 25 v0.1 v0.2) (bif jcmp .lt (S.1 25 v0.1 v0.2 3) (nI 30) then (jif (sex S.2.2.2.1 26 v0.1 0) (jif (jin (S.1 25 v0.1 v0.2 3) 30) (sif ((S.2.2.1.1 v0.1 (S.1 25 v0.1 v0.2 3).toNatClampNeg).map fun p => (p, 0)) (jif (sex (snF S).2.2.2.1 27 S.2.2.2.2.1 0) (jif (jin ((snF S).1 25 v0.1 v0.2 3) 30) (F_29_47 G t v0 v1 v2 v3 (S.2.2.2.2.1, 0) (ssF (snF S) v0.1 ((snF S).1 25 v0.1 v0.2 3).toNatClampNeg S.2.2.2.2.1)))) (fun a4 => F_29_47 G t v0 v1 v2 v3 a4 S)))) else (some ((nI 0), S)))
theorem F_29_ok {G : jG} {t : Nat} {v0 : (Nat × Nat)} {v1 : Int32} {v2 : (Nat × Nat)} {v3 : Int32} {S : sS} {r : Int32} {S' : sS} {μ : jS} {Q : Option Value ⊕ Nat → jS → Prop} (R : sR S μ) (h : F_29 G t v0 v1 v2 v3 S = some (r, S')) (K : ∀ μ', sR S' μ' → Q (srI r) μ') : jX G jP 29 0 (lv_args 0 [.ref (spl 25 v0.1 v0.2), .int v1, .ref (spl 29 v2.1 v2.2), .int v3]) [] μ Q := by
  unfold F_29 at h
  have l0 : jld (lv_args 0 [.ref (spl 25 v0.1 v0.2), .int v1, .ref (spl 29 v2.1 v2.2), .int v3]) 0 = some (.ref (spl 25 v0.1 v0.2)) := by rfl
  have l1 : jld (lv_args 0 [.ref (spl 25 v0.1 v0.2), .int v1, .ref (spl 29 v2.1 v2.2), .int v3]) 1 = some (.int v1) := by rfl
  have l2 : jld (lv_args 0 [.ref (spl 25 v0.1 v0.2), .int v1, .ref (spl 29 v2.1 v2.2), .int v3]) 2 = some (.ref (spl 29 v2.1 v2.2)) := by rfl
  have l3 : jld (lv_args 0 [.ref (spl 25 v0.1 v0.2), .int v1, .ref (spl 29 v2.1 v2.2), .int v3]) 3 = some (.int v3) := by rfl
  generalize lv_args 0 [.ref (spl 25 v0.1 v0.2), .int v1, .ref (spl 29 v2.1 v2.2), .int v3] = lv at *
  refine jX.lrn l0 (by rfl) (by rfl) (?_ : jX G jP 29 1 lv [.ref (spl 25 v0.1 v0.2)] μ Q)
  obtain ⟨g1, h⟩ := jif_some h
  refine jX.sg R g1 (by rfl) (by rfl) (by rfl) (by rfl) (by rfl) (?_ : jX G jP 29 4 lv [.int (S.1 25 v0.1 v0.2 3)] μ Q)
  refine jX.ic (v := nI 30) (n := 2) (by rfl) (by rfl) (by decide) (?_ : jX G jP 29 6 lv [.int (nI 30), .int (S.1 25 v0.1 v0.2 3)] μ Q)
  rcases bif_or h with ⟨hc, h⟩ | ⟨hc, h⟩
  · refine jX.b2t hc (by rfl) (by rfl) (by rfl) (?_ : jX G jP 29 11 lv [] μ Q)
    refine jX.lrn l0 (by rfl) (by rfl) (?_ : jX G jP 29 12 lv [.ref (spl 25 v0.1 v0.2)] μ Q)
    refine jX.sg R g1 (by rfl) (by rfl) (by rfl) (by rfl) (by rfl) (?_ : jX G jP 29 15 lv [.ref (spl 26 v0.1 0)] μ Q)
    refine jX.lrn l0 (by rfl) (by rfl) (?_ : jX G jP 29 16 lv [.ref (spl 25 v0.1 v0.2), .ref (spl 26 v0.1 0)] μ Q)
    refine jX.sg R g1 (by rfl) (by rfl) (by rfl) (by rfl) (by rfl) (?_ : jX G jP 29 19 lv [.int (S.1 25 v0.1 v0.2 3), .ref (spl 26 v0.1 0)] μ Q)
    obtain ⟨g2, h⟩ := jif_some h
    obtain ⟨g3, h⟩ := jif_some h
    refine jX.sar R g2 (by rfl) (by rfl) (by rfl) g3 (srf_27 _) (?_ : jX G jP 29 20 lv [soR 27 ((S.2.2.1.1 v0.1 (S.1 25 v0.1 v0.2 3).toNatClampNeg).map fun p => (p, 0))] μ Q)
    refine jX.so (k := 4) (pc' := 22) (by rfl) (by rfl) (fun _ => by rfl) (by rfl) (fun lv l4 kp => (?_ : jX G jP 29 22 lv [] μ Q))
    replace l0 := kp 0 _ l0 (by rfl) (by first | rfl | simp [soR_cat])
    replace l1 := kp 1 _ l1 (by rfl) (by first | rfl | simp [soR_cat])
    replace l2 := kp 2 _ l2 (by rfl) (by first | rfl | simp [soR_cat])
    replace l3 := kp 3 _ l3 (by rfl) (by first | rfl | simp [soR_cat])
    refine jX.lo l4 (by rfl) (by rfl) (?_ : jX G jP 29 24 lv [soR 27 ((S.2.2.1.1 v0.1 (S.1 25 v0.1 v0.2 3).toNatClampNeg).map fun p => (p, 0))] μ Q)
    rcases sif_or h with ⟨e4, h⟩ | ⟨a4, e4, h⟩
    · rw [soR_none (t := 27) e4]
      rw [soR_none (t := 27) e4] at l4
      refine jX.go (by rfl) (by rfl) (by rfl) (?_ : jX G jP 29 27 lv [] μ Q)
      refine jX.nF R (by rfl) (by rfl) (by rfl) (by rfl) (by rfl) (by rfl) (by rfl) (Nat.le_of_ble_eq_true rfl) (fun μ R => (?_ : jX G jP 29 34 lv [.ref (spl 27 S.2.2.2.2.1 0)] μ Q))
      refine jX.s1 (k := 4) (pc' := 36) (by rfl) (by rfl) (by rfl) (fun lv l4 kp => (?_ : jX G jP 29 36 lv [] μ Q))
      replace l0 := kp 0 _ l0 (by rfl) (by first | rfl | simp [soR_cat])
      replace l1 := kp 1 _ l1 (by rfl) (by first | rfl | simp [soR_cat])
      replace l2 := kp 2 _ l2 (by rfl) (by first | rfl | simp [soR_cat])
      replace l3 := kp 3 _ l3 (by rfl) (by first | rfl | simp [soR_cat])
      refine jX.lrn l0 (by rfl) (by rfl) (?_ : jX G jP 29 37 lv [.ref (spl 25 v0.1 v0.2)] μ Q)
      refine jX.sg R g1 (by rfl) (by rfl) (by rfl) (by rfl) (by rfl) (?_ : jX G jP 29 40 lv [.ref (spl 26 v0.1 0)] μ Q)
      refine jX.lrn l0 (by rfl) (by rfl) (?_ : jX G jP 29 41 lv [.ref (spl 25 v0.1 v0.2), .ref (spl 26 v0.1 0)] μ Q)
      refine jX.sg R g1 (by rfl) (by rfl) (by rfl) (by rfl) (by rfl) (?_ : jX G jP 29 44 lv [.int ((snF S).1 25 v0.1 v0.2 3), .ref (spl 26 v0.1 0)] μ Q)
      refine jX.lr l4 (by rfl) (by rfl) (?_ : jX G jP 29 46 lv [.ref (spl 27 S.2.2.2.2.1 0), .int ((snF S).1 25 v0.1 v0.2 3), .ref (spl 26 v0.1 0)] μ Q)
      obtain ⟨g5, h⟩ := jif_some h
      obtain ⟨g6, h⟩ := jif_some h
      refine jX.stF R g5 g2 (by rfl) (by rfl) g6 (fun μ R => (?_ : jX G jP 29 47 lv [] μ Q))
      exact F_29_47_ok  K v0 v1 v2 v3 (S.2.2.2.2.1, 0) _ _ _ l0 l1 l2 l3 l4 R h
    · rw [soR_some (t := 27) e4]
      rw [soR_some (t := 27) e4] at l4
      refine jX.go (by rfl) (by rfl) (by rfl) (?_ : jX G jP 29 47 lv [] μ Q)
      exact F_29_47_ok  K v0 v1 v2 v3 a4 _ _ _ l0 l1 l2 l3 l4 R h
  · refine jX.b2f hc (by rfl) (by rfl) (by rfl) (?_ : jX G jP 29 9 lv [] μ Q)
    refine jX.ic (v := nI 0) (n := 1) (by rfl) (by rfl) (by decide) (?_ : jX G jP 29 10 lv [.int (nI 0)] μ Q)
    exact jX.ret (by rfl) (by rfl) (by rfl) (by rfl) (sretv (f := srI) h K R)
/-! 30 StrandRuntime$World.lineUp(LStrandRuntime$Strand;)V -/
def F_30 (G : jG) (t : Nat) (v1 : (Nat × Nat)) (S : sS) : Option (Unit × sS) := jif (sex S.2.2.2.1 25 v1.1 v1.2) (bif jcmp .ge ((siI S 25 v1.1 v1.2 4 (nI 1)).1 8 0 0 4) (nI 16) then (some ((), (siI S 25 v1.1 v1.2 4 (nI 1)))) else (jif (decide (¬ (nI 16) = 0)) (jif (jin ((((siI S 25 v1.1 v1.2 4 (nI 1)).1 8 0 0 3) + ((siI S 25 v1.1 v1.2 4 (nI 1)).1 8 0 0 4)) - (((siI S 25 v1.1 v1.2 4 (nI 1)).1 8 0 0 3) + ((siI S 25 v1.1 v1.2 4 (nI 1)).1 8 0 0 4)) / (nI 16) * (nI 16)) 16) (some ((), (siI (siI (siI S 25 v1.1 v1.2 4 (nI 1)) 10 0 0 ((((siI S 25 v1.1 v1.2 4 (nI 1)).1 8 0 0 3) + ((siI S 25 v1.1 v1.2 4 (nI 1)).1 8 0 0 4)) - (((siI S 25 v1.1 v1.2 4 (nI 1)).1 8 0 0 3) + ((siI S 25 v1.1 v1.2 4 (nI 1)).1 8 0 0 4)) / (nI 16) * (nI 16)).toNatClampNeg ((siI S 25 v1.1 v1.2 4 (nI 1)).1 25 v1.1 v1.2 1)) 8 0 0 4 (((siI (siI S 25 v1.1 v1.2 4 (nI 1)) 10 0 0 ((((siI S 25 v1.1 v1.2 4 (nI 1)).1 8 0 0 3) + ((siI S 25 v1.1 v1.2 4 (nI 1)).1 8 0 0 4)) - (((siI S 25 v1.1 v1.2 4 (nI 1)).1 8 0 0 3) + ((siI S 25 v1.1 v1.2 4 (nI 1)).1 8 0 0 4)) / (nI 16) * (nI 16)).toNatClampNeg ((siI S 25 v1.1 v1.2 4 (nI 1)).1 25 v1.1 v1.2 1)).1 8 0 0 4) + (nI 1))))))))
theorem F_30_ok {G : jG} {t : Nat} {v1 : (Nat × Nat)} {S : sS} {r : Unit} {S' : sS} {μ : jS} {Q : Option Value ⊕ Nat → jS → Prop} (R : sR S μ) (h : F_30 G t v1 S = some (r, S')) (K : ∀ μ', sR S' μ' → Q (srV r) μ') : jX G jP 30 0 (lv_args 0 [.ref (spl 8 0 0), .ref (spl 25 v1.1 v1.2)]) [] μ Q := by
  unfold F_30 at h
  have l0 : jld (lv_args 0 [.ref (spl 8 0 0), .ref (spl 25 v1.1 v1.2)]) 0 = some (.ref (spl 8 0 0)) := by rfl
  have l1 : jld (lv_args 0 [.ref (spl 8 0 0), .ref (spl 25 v1.1 v1.2)]) 1 = some (.ref (spl 25 v1.1 v1.2)) := by rfl
  generalize lv_args 0 [.ref (spl 8 0 0), .ref (spl 25 v1.1 v1.2)] = lv at *
  refine jX.lrn l1 (by rfl) (by rfl) (?_ : jX G jP 30 1 lv [.ref (spl 25 v1.1 v1.2)] μ Q)
  refine jX.ic (v := nI 1) (n := 1) (by rfl) (by rfl) (by decide) (?_ : jX G jP 30 2 lv [.int (nI 1), .ref (spl 25 v1.1 v1.2)] μ Q)
  obtain ⟨g1, h⟩ := jif_some h
  refine jX.spI R g1 (by rfl) (by rfl) (by rfl) (by rfl) (by rfl) (by rfl) (by rfl) (by rfl) (fun μ R => (?_ : jX G jP 30 5 lv [] μ Q))
  refine jX.lrn l0 (by rfl) (by rfl) (?_ : jX G jP 30 6 lv [.ref (spl 8 0 0)] μ Q)
  refine jX.sg R (by rfl) (by rfl) (by rfl) (by rfl) (by rfl) (by rfl) (?_ : jX G jP 30 9 lv [.int ((siI S 25 v1.1 v1.2 4 (nI 1)).1 8 0 0 4)] μ Q)
  refine jX.ic (v := nI 16) (n := 2) (by rfl) (by rfl) (by decide) (?_ : jX G jP 30 11 lv [.int (nI 16), .int ((siI S 25 v1.1 v1.2 4 (nI 1)).1 8 0 0 4)] μ Q)
  rcases bif_or h with ⟨hc, h⟩ | ⟨hc, h⟩
  · refine jX.b2t hc (by rfl) (by rfl) (by rfl) (?_ : jX G jP 30 45 lv [] μ Q)
    exact jX.ret (by rfl) (by rfl) (by rfl) (by rfl) (sretv (f := srV) h K R)
  · refine jX.b2f hc (by rfl) (by rfl) (by rfl) (?_ : jX G jP 30 14 lv [] μ Q)
    refine jX.lrn l0 (by rfl) (by rfl) (?_ : jX G jP 30 15 lv [.ref (spl 8 0 0)] μ Q)
    refine jX.sg R (by rfl) (by rfl) (by rfl) (by rfl) (by rfl) (by rfl) (?_ : jX G jP 30 18 lv [.ref (spl 10 0 0)] μ Q)
    refine jX.lrn l0 (by rfl) (by rfl) (?_ : jX G jP 30 19 lv [.ref (spl 8 0 0), .ref (spl 10 0 0)] μ Q)
    refine jX.sg R (by rfl) (by rfl) (by rfl) (by rfl) (by rfl) (by rfl) (?_ : jX G jP 30 22 lv [.int ((siI S 25 v1.1 v1.2 4 (nI 1)).1 8 0 0 3), .ref (spl 10 0 0)] μ Q)
    refine jX.lrn l0 (by rfl) (by rfl) (?_ : jX G jP 30 23 lv [.ref (spl 8 0 0), .int ((siI S 25 v1.1 v1.2 4 (nI 1)).1 8 0 0 3), .ref (spl 10 0 0)] μ Q)
    refine jX.sg R (by rfl) (by rfl) (by rfl) (by rfl) (by rfl) (by rfl) (?_ : jX G jP 30 26 lv [.int ((siI S 25 v1.1 v1.2 4 (nI 1)).1 8 0 0 4), .int ((siI S 25 v1.1 v1.2 4 (nI 1)).1 8 0 0 3), .ref (spl 10 0 0)] μ Q)
    refine jX.go (by rfl) (by rfl) (by rfl) (?_ : jX G jP 30 27 lv [.int (((siI S 25 v1.1 v1.2 4 (nI 1)).1 8 0 0 3) + ((siI S 25 v1.1 v1.2 4 (nI 1)).1 8 0 0 4)), .ref (spl 10 0 0)] μ Q)
    refine jX.ic (v := nI 16) (n := 2) (by rfl) (by rfl) (by decide) (?_ : jX G jP 30 29 lv [.int (nI 16), .int (((siI S 25 v1.1 v1.2 4 (nI 1)).1 8 0 0 3) + ((siI S 25 v1.1 v1.2 4 (nI 1)).1 8 0 0 4)), .ref (spl 10 0 0)] μ Q)
    obtain ⟨g2, h⟩ := jif_some h
    refine jX.ir g2 (by rfl) (by rfl) (?_ : jX G jP 30 30 lv [.int ((((siI S 25 v1.1 v1.2 4 (nI 1)).1 8 0 0 3) + ((siI S 25 v1.1 v1.2 4 (nI 1)).1 8 0 0 4)) - (((siI S 25 v1.1 v1.2 4 (nI 1)).1 8 0 0 3) + ((siI S 25 v1.1 v1.2 4 (nI 1)).1 8 0 0 4)) / (nI 16) * (nI 16)), .ref (spl 10 0 0)] μ Q)
    refine jX.lrn l1 (by rfl) (by rfl) (?_ : jX G jP 30 31 lv [.ref (spl 25 v1.1 v1.2), .int ((((siI S 25 v1.1 v1.2 4 (nI 1)).1 8 0 0 3) + ((siI S 25 v1.1 v1.2 4 (nI 1)).1 8 0 0 4)) - (((siI S 25 v1.1 v1.2 4 (nI 1)).1 8 0 0 3) + ((siI S 25 v1.1 v1.2 4 (nI 1)).1 8 0 0 4)) / (nI 16) * (nI 16)), .ref (spl 10 0 0)] μ Q)
    refine jX.sg R g1 (by rfl) (by rfl) (by rfl) (by rfl) (by rfl) (?_ : jX G jP 30 34 lv [.int ((siI S 25 v1.1 v1.2 4 (nI 1)).1 25 v1.1 v1.2 1), .int ((((siI S 25 v1.1 v1.2 4 (nI 1)).1 8 0 0 3) + ((siI S 25 v1.1 v1.2 4 (nI 1)).1 8 0 0 4)) - (((siI S 25 v1.1 v1.2 4 (nI 1)).1 8 0 0 3) + ((siI S 25 v1.1 v1.2 4 (nI 1)).1 8 0 0 4)) / (nI 16) * (nI 16)), .ref (spl 10 0 0)] μ Q)
    obtain ⟨g3, h⟩ := jif_some h
    refine jX.sti R (by rfl) (by rfl) (by rfl) (fun _ => by rfl) g3 (fun μ R => (?_ : jX G jP 30 35 lv [] μ Q))
    refine jX.lrn l0 (by rfl) (by rfl) (?_ : jX G jP 30 36 lv [.ref (spl 8 0 0)] μ Q)
    refine jX.go (by rfl) (by rfl) (by rfl) (?_ : jX G jP 30 37 lv [.ref (spl 8 0 0), .ref (spl 8 0 0)] μ Q)
    refine jX.sg R (by rfl) (by rfl) (by rfl) (by rfl) (by rfl) (by rfl) (?_ : jX G jP 30 40 lv [.int ((siI (siI S 25 v1.1 v1.2 4 (nI 1)) 10 0 0 ((((siI S 25 v1.1 v1.2 4 (nI 1)).1 8 0 0 3) + ((siI S 25 v1.1 v1.2 4 (nI 1)).1 8 0 0 4)) - (((siI S 25 v1.1 v1.2 4 (nI 1)).1 8 0 0 3) + ((siI S 25 v1.1 v1.2 4 (nI 1)).1 8 0 0 4)) / (nI 16) * (nI 16)).toNatClampNeg ((siI S 25 v1.1 v1.2 4 (nI 1)).1 25 v1.1 v1.2 1)).1 8 0 0 4), .ref (spl 8 0 0)] μ Q)
    refine jX.ic (v := nI 1) (n := 1) (by rfl) (by rfl) (by decide) (?_ : jX G jP 30 41 lv [.int (nI 1), .int ((siI (siI S 25 v1.1 v1.2 4 (nI 1)) 10 0 0 ((((siI S 25 v1.1 v1.2 4 (nI 1)).1 8 0 0 3) + ((siI S 25 v1.1 v1.2 4 (nI 1)).1 8 0 0 4)) - (((siI S 25 v1.1 v1.2 4 (nI 1)).1 8 0 0 3) + ((siI S 25 v1.1 v1.2 4 (nI 1)).1 8 0 0 4)) / (nI 16) * (nI 16)).toNatClampNeg ((siI S 25 v1.1 v1.2 4 (nI 1)).1 25 v1.1 v1.2 1)).1 8 0 0 4), .ref (spl 8 0 0)] μ Q)
    refine jX.go (by rfl) (by rfl) (by rfl) (?_ : jX G jP 30 42 lv [.int (((siI (siI S 25 v1.1 v1.2 4 (nI 1)) 10 0 0 ((((siI S 25 v1.1 v1.2 4 (nI 1)).1 8 0 0 3) + ((siI S 25 v1.1 v1.2 4 (nI 1)).1 8 0 0 4)) - (((siI S 25 v1.1 v1.2 4 (nI 1)).1 8 0 0 3) + ((siI S 25 v1.1 v1.2 4 (nI 1)).1 8 0 0 4)) / (nI 16) * (nI 16)).toNatClampNeg ((siI S 25 v1.1 v1.2 4 (nI 1)).1 25 v1.1 v1.2 1)).1 8 0 0 4) + (nI 1)), .ref (spl 8 0 0)] μ Q)
    refine jX.spI R (by rfl) (by rfl) (by rfl) (by rfl) (by rfl) (by rfl) (by rfl) (by rfl) (by rfl) (fun μ R => (?_ : jX G jP 30 45 lv [] μ Q))
    exact jX.ret (by rfl) (by rfl) (by rfl) (by rfl) (sretv (f := srV) h K R)
/-! 31 StrandRuntime$World.spawn(ILStrandRuntime$Row;I)Z -/
def F_31_3 (G : jG) (t : Nat) : Nat → Int32 → (Nat × Nat) → Int32 → Int32 → sS → Option (Int32 × sS)
  | 0 => fun _ _ _ _ _ => none
  | tt + 1 => fun v1 v2 v3 v4 S => bif jcmp .ge v4 (nI 16) then (some ((nI 0), S)) else (jif (jin v4 16) (jif (sex S.2.2.2.1 25 v4.toNatClampNeg 0) ((F_22 G t (v4.toNatClampNeg, 0) S).bind (fun q3 => bif jcmp .ne q3.1 0 then (F_31_3 G t tt v1 v2 v3 (v4 + Int32.ofInt 1) q3.2) else (jif (jin v4 16) (jif (sex q3.2.2.2.2.1 25 v4.toNatClampNeg 0) ((F_4 G t (v4.toNatClampNeg, 0) (nI 1) q3.2).bind (fun q6 => jif (jin v4 16) (jif (sex q6.2.2.2.2.1 25 v4.toNatClampNeg 0) ((F_29 G t (v4.toNatClampNeg, 0) v1 v2 v3 q6.2).bind (fun q9 => jif (jin v4 16) ((F_30 G t (v4.toNatClampNeg, 0) (siI q9.2 8 0 0 7 ((q9.2.1 8 0 0 7) + (nI 1)))).bind (fun q11 => some ((nI 1), q11.2))))))))))))))
theorem F_31_3_ok {G : jG} {t : Nat} {r : Int32} {S' : sS} {Q : Option Value ⊕ Nat → jS → Prop} (K : ∀ μ', sR S' μ' → Q (srI r) μ') : ∀ tt : Nat, ∀ (v1 : Int32) (v2 : (Nat × Nat)) (v3 : Int32) (v4 : Int32) (S : sS) (lv : jL) (μ : jS), jld lv 0 = some (.ref (spl 8 0 0)) → jld lv 1 = some (.int v1) → jld lv 2 = some (.ref (spl 29 v2.1 v2.2)) → jld lv 3 = some (.int v3) → jld lv 4 = some (.int v4) → sR S μ → F_31_3 G t tt v1 v2 v3 v4 S = some (r, S') → jX G jP 31 3 lv [] μ Q := by
  intro tt
  induction tt with
  | zero =>
    intro v1 v2 v3 v4 S lv μ l0 l1 l2 l3 l4 R h
    rw [F_31_3] at h
    cases h
  | succ tt ih =>
    intro v1 v2 v3 v4 S lv μ l0 l1 l2 l3 l4 R h
    rw [F_31_3] at h
    refine jX.li l4 (by rfl) (by rfl) (?_ : jX G jP 31 5 lv [.int v4] μ Q)
    refine jX.ic (v := nI 16) (n := 2) (by rfl) (by rfl) (by decide) (?_ : jX G jP 31 7 lv [.int (nI 16), .int v4] μ Q)
    rcases bif_or h with ⟨hc, h⟩ | ⟨hc, h⟩
    · refine jX.b2t hc (by rfl) (by rfl) (by rfl) (?_ : jX G jP 31 77 lv [] μ Q)
      refine jX.ic (v := nI 0) (n := 1) (by rfl) (by rfl) (by decide) (?_ : jX G jP 31 78 lv [.int (nI 0)] μ Q)
      exact jX.ret (by rfl) (by rfl) (by rfl) (by rfl) (sretv (f := srI) h K R)
    · refine jX.b2f hc (by rfl) (by rfl) (by rfl) (?_ : jX G jP 31 10 lv [] μ Q)
      refine jX.lrn l0 (by rfl) (by rfl) (?_ : jX G jP 31 11 lv [.ref (spl 8 0 0)] μ Q)
      refine jX.sg R (by rfl) (by rfl) (by rfl) (by rfl) (by rfl) (by rfl) (?_ : jX G jP 31 14 lv [.ref (spl 9 0 0)] μ Q)
      refine jX.li l4 (by rfl) (by rfl) (?_ : jX G jP 31 16 lv [.int v4, .ref (spl 9 0 0)] μ Q)
      obtain ⟨g1, h⟩ := jif_some h
      refine jX.sar (f := fun q => bif Nat.blt q 16 then some (spl 25 q 0) else none) R (by rfl) (by rfl) (by rfl) (by rfl) g1 (srf_in g1) (?_ : jX G jP 31 17 lv [.ref (spl 25 v4.toNatClampNeg 0)] μ Q)
      obtain ⟨g2, h⟩ := jif_some h
      obtain ⟨q3, e3, h⟩ := sbd h
      refine jX.c1 (v := .int q3.1) (by rfl) (by rfl) (by rfl) (by rfl) (by rfl) (by rfl) (by rfl) (R.rec g2 (by rfl)) (Nat.le_of_ble_eq_true rfl) (Nat.le_of_ble_eq_true rfl) (F_22_ok R e3 (fun μ R => ⟨rfl, (?_ : jX G jP 31 20 lv [.int q3.1] μ Q)⟩))
      rcases bif_or h with ⟨hc, h⟩ | ⟨hc, h⟩
      · refine jX.b1t hc (by rfl) (by rfl) (by rfl) (?_ : jX G jP 31 71 lv [] μ Q)
        refine jX.inc l4 (by rfl) (by rfl) (by rfl) (fun lv l4 kp => (?_ : jX G jP 31 74 lv [] μ Q))
        replace l0 := kp 0 _ l0 (by rfl) (by first | rfl | simp [soR_cat])
        replace l1 := kp 1 _ l1 (by rfl) (by first | rfl | simp [soR_cat])
        replace l2 := kp 2 _ l2 (by rfl) (by first | rfl | simp [soR_cat])
        replace l3 := kp 3 _ l3 (by rfl) (by first | rfl | simp [soR_cat])
        refine jX.go (by rfl) (by rfl) (by rfl) (?_ : jX G jP 31 3 lv [] μ Q)
        exact ih v1 v2 v3 (v4 + Int32.ofInt 1) _ _ _ l0 l1 l2 l3 l4 R h
      · refine jX.b1f hc (by rfl) (by rfl) (by rfl) (?_ : jX G jP 31 23 lv [] μ Q)
        refine jX.lrn l0 (by rfl) (by rfl) (?_ : jX G jP 31 24 lv [.ref (spl 8 0 0)] μ Q)
        refine jX.sg R (by rfl) (by rfl) (by rfl) (by rfl) (by rfl) (by rfl) (?_ : jX G jP 31 27 lv [.ref (spl 9 0 0)] μ Q)
        refine jX.li l4 (by rfl) (by rfl) (?_ : jX G jP 31 29 lv [.int v4, .ref (spl 9 0 0)] μ Q)
        obtain ⟨g4, h⟩ := jif_some h
        refine jX.sar (f := fun q => bif Nat.blt q 16 then some (spl 25 q 0) else none) R (by rfl) (by rfl) (by rfl) (by rfl) g4 (srf_in g4) (?_ : jX G jP 31 30 lv [.ref (spl 25 v4.toNatClampNeg 0)] μ Q)
        refine jX.ic (v := nI 1) (n := 1) (by rfl) (by rfl) (by decide) (?_ : jX G jP 31 31 lv [.int (nI 1), .ref (spl 25 v4.toNatClampNeg 0)] μ Q)
        obtain ⟨g5, h⟩ := jif_some h
        obtain ⟨q6, e6, h⟩ := sbd h
        refine jX.cv (by rfl) (by rfl) (by rfl) (by rfl) (by rfl) (by rfl) (by rfl) (R.rec g5 (by rfl)) (Nat.le_of_ble_eq_true rfl) (Nat.le_of_ble_eq_true rfl) (F_4_ok R e6 (fun μ R => ⟨rfl, (?_ : jX G jP 31 34 lv [] μ Q)⟩))
        refine jX.lrn l0 (by rfl) (by rfl) (?_ : jX G jP 31 35 lv [.ref (spl 8 0 0)] μ Q)
        refine jX.sg R (by rfl) (by rfl) (by rfl) (by rfl) (by rfl) (by rfl) (?_ : jX G jP 31 38 lv [.ref (spl 9 0 0)] μ Q)
        refine jX.li l4 (by rfl) (by rfl) (?_ : jX G jP 31 40 lv [.int v4, .ref (spl 9 0 0)] μ Q)
        obtain ⟨g7, h⟩ := jif_some h
        refine jX.sar (f := fun q => bif Nat.blt q 16 then some (spl 25 q 0) else none) R (by rfl) (by rfl) (by rfl) (by rfl) g7 (srf_in g7) (?_ : jX G jP 31 41 lv [.ref (spl 25 v4.toNatClampNeg 0)] μ Q)
        refine jX.lin l1 (by rfl) (by rfl) (?_ : jX G jP 31 42 lv [.int v1, .ref (spl 25 v4.toNatClampNeg 0)] μ Q)
        refine jX.lrn l2 (by rfl) (by rfl) (?_ : jX G jP 31 43 lv [.ref (spl 29 v2.1 v2.2), .int v1, .ref (spl 25 v4.toNatClampNeg 0)] μ Q)
        refine jX.lin l3 (by rfl) (by rfl) (?_ : jX G jP 31 44 lv [.int v3, .ref (spl 29 v2.1 v2.2), .int v1, .ref (spl 25 v4.toNatClampNeg 0)] μ Q)
        obtain ⟨g8, h⟩ := jif_some h
        obtain ⟨q9, e9, h⟩ := sbd h
        refine jX.c1 (v := .int q9.1) (by rfl) (by rfl) (by rfl) (by rfl) (by rfl) (by rfl) (by rfl) (R.rec g8 (by rfl)) (Nat.le_of_ble_eq_true rfl) (Nat.le_of_ble_eq_true rfl) (F_29_ok R e9 (fun μ R => ⟨rfl, (?_ : jX G jP 31 47 lv [.int q9.1] μ Q)⟩))
        refine jX.go (by rfl) (by rfl) (by rfl) (?_ : jX G jP 31 48 lv [] μ Q)
        refine jX.lrn l0 (by rfl) (by rfl) (?_ : jX G jP 31 49 lv [.ref (spl 8 0 0)] μ Q)
        refine jX.go (by rfl) (by rfl) (by rfl) (?_ : jX G jP 31 50 lv [.ref (spl 8 0 0), .ref (spl 8 0 0)] μ Q)
        refine jX.sg R (by rfl) (by rfl) (by rfl) (by rfl) (by rfl) (by rfl) (?_ : jX G jP 31 53 lv [.int (q9.2.1 8 0 0 7), .ref (spl 8 0 0)] μ Q)
        refine jX.ic (v := nI 1) (n := 1) (by rfl) (by rfl) (by decide) (?_ : jX G jP 31 54 lv [.int (nI 1), .int (q9.2.1 8 0 0 7), .ref (spl 8 0 0)] μ Q)
        refine jX.go (by rfl) (by rfl) (by rfl) (?_ : jX G jP 31 55 lv [.int ((q9.2.1 8 0 0 7) + (nI 1)), .ref (spl 8 0 0)] μ Q)
        refine jX.spI R (by rfl) (by rfl) (by rfl) (by rfl) (by rfl) (by rfl) (by rfl) (by rfl) (by rfl) (fun μ R => (?_ : jX G jP 31 58 lv [] μ Q))
        refine jX.lrn l0 (by rfl) (by rfl) (?_ : jX G jP 31 59 lv [.ref (spl 8 0 0)] μ Q)
        refine jX.lrn l0 (by rfl) (by rfl) (?_ : jX G jP 31 60 lv [.ref (spl 8 0 0), .ref (spl 8 0 0)] μ Q)
        refine jX.sg R (by rfl) (by rfl) (by rfl) (by rfl) (by rfl) (by rfl) (?_ : jX G jP 31 63 lv [.ref (spl 9 0 0), .ref (spl 8 0 0)] μ Q)
        refine jX.li l4 (by rfl) (by rfl) (?_ : jX G jP 31 65 lv [.int v4, .ref (spl 9 0 0), .ref (spl 8 0 0)] μ Q)
        obtain ⟨g10, h⟩ := jif_some h
        refine jX.sar (f := fun q => bif Nat.blt q 16 then some (spl 25 q 0) else none) R (by rfl) (by rfl) (by rfl) (by rfl) g10 (srf_in g10) (?_ : jX G jP 31 66 lv [.ref (spl 25 v4.toNatClampNeg 0), .ref (spl 8 0 0)] μ Q)
        obtain ⟨q11, e11, h⟩ := sbd h
        refine jX.cv (by rfl) (by rfl) (by rfl) (by rfl) (by rfl) (by rfl) (by rfl) (R.rec (by rfl) (by rfl)) (Nat.le_of_ble_eq_true rfl) (Nat.le_of_ble_eq_true rfl) (F_30_ok R e11 (fun μ R => ⟨rfl, (?_ : jX G jP 31 69 lv [] μ Q)⟩))
        refine jX.ic (v := nI 1) (n := 1) (by rfl) (by rfl) (by decide) (?_ : jX G jP 31 70 lv [.int (nI 1)] μ Q)
        exact jX.ret (by rfl) (by rfl) (by rfl) (by rfl) (sretv (f := srI) h K R)
def F_31 (G : jG) (t : Nat) (v1 : Int32) (v2 : (Nat × Nat)) (v3 : Int32) (S : sS) : Option (Int32 × sS) := F_31_3 G t t v1 v2 v3 (nI 0) S
theorem F_31_ok {G : jG} {t : Nat} {v1 : Int32} {v2 : (Nat × Nat)} {v3 : Int32} {S : sS} {r : Int32} {S' : sS} {μ : jS} {Q : Option Value ⊕ Nat → jS → Prop} (R : sR S μ) (h : F_31 G t v1 v2 v3 S = some (r, S')) (K : ∀ μ', sR S' μ' → Q (srI r) μ') : jX G jP 31 0 (lv_args 0 [.ref (spl 8 0 0), .int v1, .ref (spl 29 v2.1 v2.2), .int v3]) [] μ Q := by
  unfold F_31 at h
  have l0 : jld (lv_args 0 [.ref (spl 8 0 0), .int v1, .ref (spl 29 v2.1 v2.2), .int v3]) 0 = some (.ref (spl 8 0 0)) := by rfl
  have l1 : jld (lv_args 0 [.ref (spl 8 0 0), .int v1, .ref (spl 29 v2.1 v2.2), .int v3]) 1 = some (.int v1) := by rfl
  have l2 : jld (lv_args 0 [.ref (spl 8 0 0), .int v1, .ref (spl 29 v2.1 v2.2), .int v3]) 2 = some (.ref (spl 29 v2.1 v2.2)) := by rfl
  have l3 : jld (lv_args 0 [.ref (spl 8 0 0), .int v1, .ref (spl 29 v2.1 v2.2), .int v3]) 3 = some (.int v3) := by rfl
  generalize lv_args 0 [.ref (spl 8 0 0), .int v1, .ref (spl 29 v2.1 v2.2), .int v3] = lv at *
  refine jX.ic (v := nI 0) (n := 1) (by rfl) (by rfl) (by decide) (?_ : jX G jP 31 1 lv [.int (nI 0)] μ Q)
  refine jX.s1 (k := 4) (pc' := 3) (by rfl) (by rfl) (by rfl) (fun lv l4 kp => (?_ : jX G jP 31 3 lv [] μ Q))
  replace l0 := kp 0 _ l0 (by rfl) (by first | rfl | simp [soR_cat])
  replace l1 := kp 1 _ l1 (by rfl) (by first | rfl | simp [soR_cat])
  replace l2 := kp 2 _ l2 (by rfl) (by first | rfl | simp [soR_cat])
  replace l3 := kp 3 _ l3 (by rfl) (by first | rfl | simp [soR_cat])
  exact F_31_3_ok  K _ v1 v2 v3 (nI 0) _ _ _ l0 l1 l2 l3 l4 R h
/-! 32 StrandRuntime$World.runNext()V -/
def F_32 (G : jG) (t : Nat) (S : sS) : Option (Unit × sS) := bif jcmp .le ((siI (siI S 8 0 0 6 (nI 0)) 8 0 0 5 (-1)).1 8 0 0 4) 0 then (some ((), (siI (siI S 8 0 0 6 (nI 0)) 8 0 0 5 (-1)))) else (jif (jin ((siI (siI S 8 0 0 6 (nI 0)) 8 0 0 5 (-1)).1 8 0 0 3) 16) (jif (decide (¬ (nI 16) = 0)) (some ((), (siI (siI (siI (siI (siI S 8 0 0 6 (nI 0)) 8 0 0 5 (-1)) 8 0 0 5 ((siI (siI S 8 0 0 6 (nI 0)) 8 0 0 5 (-1)).1 10 0 0 ((siI (siI S 8 0 0 6 (nI 0)) 8 0 0 5 (-1)).1 8 0 0 3).toNatClampNeg)) 8 0 0 3 ((((siI (siI (siI S 8 0 0 6 (nI 0)) 8 0 0 5 (-1)) 8 0 0 5 ((siI (siI S 8 0 0 6 (nI 0)) 8 0 0 5 (-1)).1 10 0 0 ((siI (siI S 8 0 0 6 (nI 0)) 8 0 0 5 (-1)).1 8 0 0 3).toNatClampNeg)).1 8 0 0 3) + (nI 1)) - (((siI (siI (siI S 8 0 0 6 (nI 0)) 8 0 0 5 (-1)) 8 0 0 5 ((siI (siI S 8 0 0 6 (nI 0)) 8 0 0 5 (-1)).1 10 0 0 ((siI (siI S 8 0 0 6 (nI 0)) 8 0 0 5 (-1)).1 8 0 0 3).toNatClampNeg)).1 8 0 0 3) + (nI 1)) / (nI 16) * (nI 16))) 8 0 0 4 (((siI (siI (siI (siI S 8 0 0 6 (nI 0)) 8 0 0 5 (-1)) 8 0 0 5 ((siI (siI S 8 0 0 6 (nI 0)) 8 0 0 5 (-1)).1 10 0 0 ((siI (siI S 8 0 0 6 (nI 0)) 8 0 0 5 (-1)).1 8 0 0 3).toNatClampNeg)) 8 0 0 3 ((((siI (siI (siI S 8 0 0 6 (nI 0)) 8 0 0 5 (-1)) 8 0 0 5 ((siI (siI S 8 0 0 6 (nI 0)) 8 0 0 5 (-1)).1 10 0 0 ((siI (siI S 8 0 0 6 (nI 0)) 8 0 0 5 (-1)).1 8 0 0 3).toNatClampNeg)).1 8 0 0 3) + (nI 1)) - (((siI (siI (siI S 8 0 0 6 (nI 0)) 8 0 0 5 (-1)) 8 0 0 5 ((siI (siI S 8 0 0 6 (nI 0)) 8 0 0 5 (-1)).1 10 0 0 ((siI (siI S 8 0 0 6 (nI 0)) 8 0 0 5 (-1)).1 8 0 0 3).toNatClampNeg)).1 8 0 0 3) + (nI 1)) / (nI 16) * (nI 16))).1 8 0 0 4) - (nI 1)))))))
theorem F_32_ok {G : jG} {t : Nat} {S : sS} {r : Unit} {S' : sS} {μ : jS} {Q : Option Value ⊕ Nat → jS → Prop} (R : sR S μ) (h : F_32 G t S = some (r, S')) (K : ∀ μ', sR S' μ' → Q (srV r) μ') : jX G jP 32 0 (lv_args 0 [.ref (spl 8 0 0)]) [] μ Q := by
  unfold F_32 at h
  have l0 : jld (lv_args 0 [.ref (spl 8 0 0)]) 0 = some (.ref (spl 8 0 0)) := by rfl
  generalize lv_args 0 [.ref (spl 8 0 0)] = lv at *
  refine jX.lrn l0 (by rfl) (by rfl) (?_ : jX G jP 32 1 lv [.ref (spl 8 0 0)] μ Q)
  refine jX.ic (v := nI 0) (n := 1) (by rfl) (by rfl) (by decide) (?_ : jX G jP 32 2 lv [.int (nI 0), .ref (spl 8 0 0)] μ Q)
  refine jX.spI R (by rfl) (by rfl) (by rfl) (by rfl) (by rfl) (by rfl) (by rfl) (by rfl) (by rfl) (fun μ R => (?_ : jX G jP 32 5 lv [] μ Q))
  refine jX.lrn l0 (by rfl) (by rfl) (?_ : jX G jP 32 6 lv [.ref (spl 8 0 0)] μ Q)
  refine jX.ic (v := (-1)) (n := 1) (by rfl) (by rfl) (by decide) (?_ : jX G jP 32 7 lv [.int (-1), .ref (spl 8 0 0)] μ Q)
  refine jX.spI R (by rfl) (by rfl) (by rfl) (by rfl) (by rfl) (by rfl) (by rfl) (by rfl) (by rfl) (fun μ R => (?_ : jX G jP 32 10 lv [] μ Q))
  refine jX.lrn l0 (by rfl) (by rfl) (?_ : jX G jP 32 11 lv [.ref (spl 8 0 0)] μ Q)
  refine jX.sg R (by rfl) (by rfl) (by rfl) (by rfl) (by rfl) (by rfl) (?_ : jX G jP 32 14 lv [.int ((siI (siI S 8 0 0 6 (nI 0)) 8 0 0 5 (-1)).1 8 0 0 4)] μ Q)
  rcases bif_or h with ⟨hc, h⟩ | ⟨hc, h⟩
  · refine jX.b1t hc (by rfl) (by rfl) (by rfl) (?_ : jX G jP 32 53 lv [] μ Q)
    exact jX.ret (by rfl) (by rfl) (by rfl) (by rfl) (sretv (f := srV) h K R)
  · refine jX.b1f hc (by rfl) (by rfl) (by rfl) (?_ : jX G jP 32 17 lv [] μ Q)
    refine jX.lrn l0 (by rfl) (by rfl) (?_ : jX G jP 32 18 lv [.ref (spl 8 0 0)] μ Q)
    refine jX.lrn l0 (by rfl) (by rfl) (?_ : jX G jP 32 19 lv [.ref (spl 8 0 0), .ref (spl 8 0 0)] μ Q)
    refine jX.sg R (by rfl) (by rfl) (by rfl) (by rfl) (by rfl) (by rfl) (?_ : jX G jP 32 22 lv [.ref (spl 10 0 0), .ref (spl 8 0 0)] μ Q)
    refine jX.lrn l0 (by rfl) (by rfl) (?_ : jX G jP 32 23 lv [.ref (spl 8 0 0), .ref (spl 10 0 0), .ref (spl 8 0 0)] μ Q)
    refine jX.sg R (by rfl) (by rfl) (by rfl) (by rfl) (by rfl) (by rfl) (?_ : jX G jP 32 26 lv [.int ((siI (siI S 8 0 0 6 (nI 0)) 8 0 0 5 (-1)).1 8 0 0 3), .ref (spl 10 0 0), .ref (spl 8 0 0)] μ Q)
    obtain ⟨g1, h⟩ := jif_some h
    refine jX.sai R (by rfl) (by rfl) (by rfl) (by rfl) g1 (?_ : jX G jP 32 27 lv [.int ((siI (siI S 8 0 0 6 (nI 0)) 8 0 0 5 (-1)).1 10 0 0 ((siI (siI S 8 0 0 6 (nI 0)) 8 0 0 5 (-1)).1 8 0 0 3).toNatClampNeg), .ref (spl 8 0 0)] μ Q)
    refine jX.spI R (by rfl) (by rfl) (by rfl) (by rfl) (by rfl) (by rfl) (by rfl) (by rfl) (by rfl) (fun μ R => (?_ : jX G jP 32 30 lv [] μ Q))
    refine jX.lrn l0 (by rfl) (by rfl) (?_ : jX G jP 32 31 lv [.ref (spl 8 0 0)] μ Q)
    refine jX.lrn l0 (by rfl) (by rfl) (?_ : jX G jP 32 32 lv [.ref (spl 8 0 0), .ref (spl 8 0 0)] μ Q)
    refine jX.sg R (by rfl) (by rfl) (by rfl) (by rfl) (by rfl) (by rfl) (?_ : jX G jP 32 35 lv [.int ((siI (siI (siI S 8 0 0 6 (nI 0)) 8 0 0 5 (-1)) 8 0 0 5 ((siI (siI S 8 0 0 6 (nI 0)) 8 0 0 5 (-1)).1 10 0 0 ((siI (siI S 8 0 0 6 (nI 0)) 8 0 0 5 (-1)).1 8 0 0 3).toNatClampNeg)).1 8 0 0 3), .ref (spl 8 0 0)] μ Q)
    refine jX.ic (v := nI 1) (n := 1) (by rfl) (by rfl) (by decide) (?_ : jX G jP 32 36 lv [.int (nI 1), .int ((siI (siI (siI S 8 0 0 6 (nI 0)) 8 0 0 5 (-1)) 8 0 0 5 ((siI (siI S 8 0 0 6 (nI 0)) 8 0 0 5 (-1)).1 10 0 0 ((siI (siI S 8 0 0 6 (nI 0)) 8 0 0 5 (-1)).1 8 0 0 3).toNatClampNeg)).1 8 0 0 3), .ref (spl 8 0 0)] μ Q)
    refine jX.go (by rfl) (by rfl) (by rfl) (?_ : jX G jP 32 37 lv [.int (((siI (siI (siI S 8 0 0 6 (nI 0)) 8 0 0 5 (-1)) 8 0 0 5 ((siI (siI S 8 0 0 6 (nI 0)) 8 0 0 5 (-1)).1 10 0 0 ((siI (siI S 8 0 0 6 (nI 0)) 8 0 0 5 (-1)).1 8 0 0 3).toNatClampNeg)).1 8 0 0 3) + (nI 1)), .ref (spl 8 0 0)] μ Q)
    refine jX.ic (v := nI 16) (n := 2) (by rfl) (by rfl) (by decide) (?_ : jX G jP 32 39 lv [.int (nI 16), .int (((siI (siI (siI S 8 0 0 6 (nI 0)) 8 0 0 5 (-1)) 8 0 0 5 ((siI (siI S 8 0 0 6 (nI 0)) 8 0 0 5 (-1)).1 10 0 0 ((siI (siI S 8 0 0 6 (nI 0)) 8 0 0 5 (-1)).1 8 0 0 3).toNatClampNeg)).1 8 0 0 3) + (nI 1)), .ref (spl 8 0 0)] μ Q)
    obtain ⟨g2, h⟩ := jif_some h
    refine jX.ir g2 (by rfl) (by rfl) (?_ : jX G jP 32 40 lv [.int ((((siI (siI (siI S 8 0 0 6 (nI 0)) 8 0 0 5 (-1)) 8 0 0 5 ((siI (siI S 8 0 0 6 (nI 0)) 8 0 0 5 (-1)).1 10 0 0 ((siI (siI S 8 0 0 6 (nI 0)) 8 0 0 5 (-1)).1 8 0 0 3).toNatClampNeg)).1 8 0 0 3) + (nI 1)) - (((siI (siI (siI S 8 0 0 6 (nI 0)) 8 0 0 5 (-1)) 8 0 0 5 ((siI (siI S 8 0 0 6 (nI 0)) 8 0 0 5 (-1)).1 10 0 0 ((siI (siI S 8 0 0 6 (nI 0)) 8 0 0 5 (-1)).1 8 0 0 3).toNatClampNeg)).1 8 0 0 3) + (nI 1)) / (nI 16) * (nI 16)), .ref (spl 8 0 0)] μ Q)
    refine jX.spI R (by rfl) (by rfl) (by rfl) (by rfl) (by rfl) (by rfl) (by rfl) (by rfl) (by rfl) (fun μ R => (?_ : jX G jP 32 43 lv [] μ Q))
    refine jX.lrn l0 (by rfl) (by rfl) (?_ : jX G jP 32 44 lv [.ref (spl 8 0 0)] μ Q)
    refine jX.go (by rfl) (by rfl) (by rfl) (?_ : jX G jP 32 45 lv [.ref (spl 8 0 0), .ref (spl 8 0 0)] μ Q)
    refine jX.sg R (by rfl) (by rfl) (by rfl) (by rfl) (by rfl) (by rfl) (?_ : jX G jP 32 48 lv [.int ((siI (siI (siI (siI S 8 0 0 6 (nI 0)) 8 0 0 5 (-1)) 8 0 0 5 ((siI (siI S 8 0 0 6 (nI 0)) 8 0 0 5 (-1)).1 10 0 0 ((siI (siI S 8 0 0 6 (nI 0)) 8 0 0 5 (-1)).1 8 0 0 3).toNatClampNeg)) 8 0 0 3 ((((siI (siI (siI S 8 0 0 6 (nI 0)) 8 0 0 5 (-1)) 8 0 0 5 ((siI (siI S 8 0 0 6 (nI 0)) 8 0 0 5 (-1)).1 10 0 0 ((siI (siI S 8 0 0 6 (nI 0)) 8 0 0 5 (-1)).1 8 0 0 3).toNatClampNeg)).1 8 0 0 3) + (nI 1)) - (((siI (siI (siI S 8 0 0 6 (nI 0)) 8 0 0 5 (-1)) 8 0 0 5 ((siI (siI S 8 0 0 6 (nI 0)) 8 0 0 5 (-1)).1 10 0 0 ((siI (siI S 8 0 0 6 (nI 0)) 8 0 0 5 (-1)).1 8 0 0 3).toNatClampNeg)).1 8 0 0 3) + (nI 1)) / (nI 16) * (nI 16))).1 8 0 0 4), .ref (spl 8 0 0)] μ Q)
    refine jX.ic (v := nI 1) (n := 1) (by rfl) (by rfl) (by decide) (?_ : jX G jP 32 49 lv [.int (nI 1), .int ((siI (siI (siI (siI S 8 0 0 6 (nI 0)) 8 0 0 5 (-1)) 8 0 0 5 ((siI (siI S 8 0 0 6 (nI 0)) 8 0 0 5 (-1)).1 10 0 0 ((siI (siI S 8 0 0 6 (nI 0)) 8 0 0 5 (-1)).1 8 0 0 3).toNatClampNeg)) 8 0 0 3 ((((siI (siI (siI S 8 0 0 6 (nI 0)) 8 0 0 5 (-1)) 8 0 0 5 ((siI (siI S 8 0 0 6 (nI 0)) 8 0 0 5 (-1)).1 10 0 0 ((siI (siI S 8 0 0 6 (nI 0)) 8 0 0 5 (-1)).1 8 0 0 3).toNatClampNeg)).1 8 0 0 3) + (nI 1)) - (((siI (siI (siI S 8 0 0 6 (nI 0)) 8 0 0 5 (-1)) 8 0 0 5 ((siI (siI S 8 0 0 6 (nI 0)) 8 0 0 5 (-1)).1 10 0 0 ((siI (siI S 8 0 0 6 (nI 0)) 8 0 0 5 (-1)).1 8 0 0 3).toNatClampNeg)).1 8 0 0 3) + (nI 1)) / (nI 16) * (nI 16))).1 8 0 0 4), .ref (spl 8 0 0)] μ Q)
    refine jX.go (by rfl) (by rfl) (by rfl) (?_ : jX G jP 32 50 lv [.int (((siI (siI (siI (siI S 8 0 0 6 (nI 0)) 8 0 0 5 (-1)) 8 0 0 5 ((siI (siI S 8 0 0 6 (nI 0)) 8 0 0 5 (-1)).1 10 0 0 ((siI (siI S 8 0 0 6 (nI 0)) 8 0 0 5 (-1)).1 8 0 0 3).toNatClampNeg)) 8 0 0 3 ((((siI (siI (siI S 8 0 0 6 (nI 0)) 8 0 0 5 (-1)) 8 0 0 5 ((siI (siI S 8 0 0 6 (nI 0)) 8 0 0 5 (-1)).1 10 0 0 ((siI (siI S 8 0 0 6 (nI 0)) 8 0 0 5 (-1)).1 8 0 0 3).toNatClampNeg)).1 8 0 0 3) + (nI 1)) - (((siI (siI (siI S 8 0 0 6 (nI 0)) 8 0 0 5 (-1)) 8 0 0 5 ((siI (siI S 8 0 0 6 (nI 0)) 8 0 0 5 (-1)).1 10 0 0 ((siI (siI S 8 0 0 6 (nI 0)) 8 0 0 5 (-1)).1 8 0 0 3).toNatClampNeg)).1 8 0 0 3) + (nI 1)) / (nI 16) * (nI 16))).1 8 0 0 4) - (nI 1)), .ref (spl 8 0 0)] μ Q)
    refine jX.spI R (by rfl) (by rfl) (by rfl) (by rfl) (by rfl) (by rfl) (by rfl) (by rfl) (by rfl) (fun μ R => (?_ : jX G jP 32 53 lv [] μ Q))
    exact jX.ret (by rfl) (by rfl) (by rfl) (by rfl) (sretv (f := srV) h K R)
/-! 33 StrandRuntime$Machine.launch(I)V -/
def F_33 (G : jG) (t : Nat) (v1 : Int32) (S : sS) : Option (Unit × sS) := (F_31 G t v1 (0, 5) (nI 0) S).bind (fun q1 => (F_32 G t q1.2).bind (fun q2 => some ((), (siI q2.2 23 0 0 7 (nI 1)))))
theorem F_33_ok {G : jG} {t : Nat} {v1 : Int32} {S : sS} {r : Unit} {S' : sS} {μ : jS} {Q : Option Value ⊕ Nat → jS → Prop} (R : sR S μ) (h : F_33 G t v1 S = some (r, S')) (K : ∀ μ', sR S' μ' → Q (srV r) μ') : jX G jP 33 0 (lv_args 0 [.ref (spl 23 0 0), .int v1]) [] μ Q := by
  unfold F_33 at h
  have l0 : jld (lv_args 0 [.ref (spl 23 0 0), .int v1]) 0 = some (.ref (spl 23 0 0)) := by rfl
  have l1 : jld (lv_args 0 [.ref (spl 23 0 0), .int v1]) 1 = some (.int v1) := by rfl
  generalize lv_args 0 [.ref (spl 23 0 0), .int v1] = lv at *
  refine jX.lrn l0 (by rfl) (by rfl) (?_ : jX G jP 33 1 lv [.ref (spl 23 0 0)] μ Q)
  refine jX.sg R (by rfl) (by rfl) (by rfl) (by rfl) (by rfl) (by rfl) (?_ : jX G jP 33 4 lv [.ref (spl 8 0 0)] μ Q)
  refine jX.lin l1 (by rfl) (by rfl) (?_ : jX G jP 33 5 lv [.int v1, .ref (spl 8 0 0)] μ Q)
  refine jX.lrn l0 (by rfl) (by rfl) (?_ : jX G jP 33 6 lv [.ref (spl 23 0 0), .int v1, .ref (spl 8 0 0)] μ Q)
  refine jX.sg R (by rfl) (by rfl) (by rfl) (by rfl) (by rfl) (by rfl) (?_ : jX G jP 33 9 lv [.ref (spl 8 0 0), .int v1, .ref (spl 8 0 0)] μ Q)
  refine jX.sg R (by rfl) (by rfl) (by rfl) (by rfl) (by rfl) (by rfl) (?_ : jX G jP 33 12 lv [.ref (spl 29 0 5), .int v1, .ref (spl 8 0 0)] μ Q)
  refine jX.ic (v := nI 0) (n := 1) (by rfl) (by rfl) (by decide) (?_ : jX G jP 33 13 lv [.int (nI 0), .ref (spl 29 0 5), .int v1, .ref (spl 8 0 0)] μ Q)
  obtain ⟨q1, e1, h⟩ := sbd h
  refine jX.c1 (v := .int q1.1) (by rfl) (by rfl) (by rfl) (by rfl) (by rfl) (by rfl) (by rfl) (R.rec (by rfl) (by rfl)) (Nat.le_of_ble_eq_true rfl) (Nat.le_of_ble_eq_true rfl) (F_31_ok R e1 (fun μ R => ⟨rfl, (?_ : jX G jP 33 16 lv [.int q1.1] μ Q)⟩))
  refine jX.go (by rfl) (by rfl) (by rfl) (?_ : jX G jP 33 17 lv [] μ Q)
  refine jX.lrn l0 (by rfl) (by rfl) (?_ : jX G jP 33 18 lv [.ref (spl 23 0 0)] μ Q)
  refine jX.sg R (by rfl) (by rfl) (by rfl) (by rfl) (by rfl) (by rfl) (?_ : jX G jP 33 21 lv [.ref (spl 8 0 0)] μ Q)
  obtain ⟨q2, e2, h⟩ := sbd h
  refine jX.cv (by rfl) (by rfl) (by rfl) (by rfl) (by rfl) (by rfl) (by rfl) (R.rec (by rfl) (by rfl)) (Nat.le_of_ble_eq_true rfl) (Nat.le_of_ble_eq_true rfl) (F_32_ok R e2 (fun μ R => ⟨rfl, (?_ : jX G jP 33 24 lv [] μ Q)⟩))
  refine jX.lrn l0 (by rfl) (by rfl) (?_ : jX G jP 33 25 lv [.ref (spl 23 0 0)] μ Q)
  refine jX.ic (v := nI 1) (n := 1) (by rfl) (by rfl) (by decide) (?_ : jX G jP 33 26 lv [.int (nI 1), .ref (spl 23 0 0)] μ Q)
  refine jX.spI R (by rfl) (by rfl) (by rfl) (by rfl) (by rfl) (by rfl) (by rfl) (by rfl) (by rfl) (fun μ R => (?_ : jX G jP 33 29 lv [] μ Q))
  exact jX.ret (by rfl) (by rfl) (by rfl) (by rfl) (sretv (f := srV) h K R)
/-! 34 StrandRuntime.begin(I)V -/
def F_34 (G : jG) (t : Nat) (v1 : Int32) (S : sS) : Option ((Unit ⊕ Nat) × sS) := bif jcmp .lt v1 0 then (some (.inr 0, sxc S)) else (bif jcmp .ge v1 (S.1 1 0 0 6) then (some (.inr 0, sxc S)) else ((F_17 G t v1 S).bind (fun q1 => bif jcmp .ne q1.1 0 then (some (.inr 0, sxc q1.2)) else ((F_20 G t q1.2).bind (fun q2 => bif jcmp .ne q2.1 0 then ((F_21 G t q2.2).bind (fun q3 => (F_33 G t v1 q3.2).bind (fun q4 => some (.inl (), q4.2)))) else (some (.inr 0, sxc q2.2)))))))
theorem F_34_ok {G : jG} {t : Nat} {v1 : Int32} {S : sS} {r : (Unit ⊕ Nat)} {S' : sS} {μ : jS} {Q : Option Value ⊕ Nat → jS → Prop} (R : sR S μ) (h : F_34 G t v1 S = some (r, S')) (K : ∀ μ', sR S' μ' → Q (sthV r) μ') : jX G jP 34 0 (lv_args 0 [.ref (spl 0 0 0), .int v1]) [] μ Q := by
  unfold F_34 at h
  have l0 : jld (lv_args 0 [.ref (spl 0 0 0), .int v1]) 0 = some (.ref (spl 0 0 0)) := by rfl
  have l1 : jld (lv_args 0 [.ref (spl 0 0 0), .int v1]) 1 = some (.int v1) := by rfl
  generalize lv_args 0 [.ref (spl 0 0 0), .int v1] = lv at *
  refine jX.lin l1 (by rfl) (by rfl) (?_ : jX G jP 34 1 lv [.int v1] μ Q)
  rcases bif_or h with ⟨hc, h⟩ | ⟨hc, h⟩
  · refine jX.b1t hc (by rfl) (by rfl) (by rfl) (?_ : jX G jP 34 36 lv [] μ Q)
    exact jX.throw (by rfl) (sretv (f := sthV) h K R.xc)
  · refine jX.b1f hc (by rfl) (by rfl) (by rfl) (?_ : jX G jP 34 4 lv [] μ Q)
    refine jX.lin l1 (by rfl) (by rfl) (?_ : jX G jP 34 5 lv [.int v1] μ Q)
    refine jX.lrn l0 (by rfl) (by rfl) (?_ : jX G jP 34 6 lv [.ref (spl 0 0 0), .int v1] μ Q)
    refine jX.sg R (by rfl) (by rfl) (by rfl) (by rfl) (by rfl) (by rfl) (?_ : jX G jP 34 9 lv [.ref (spl 1 0 0), .int v1] μ Q)
    refine jX.sg R (by rfl) (by rfl) (by rfl) (by rfl) (by rfl) (by rfl) (?_ : jX G jP 34 12 lv [.int (S.1 1 0 0 6), .int v1] μ Q)
    rcases bif_or h with ⟨hc, h⟩ | ⟨hc, h⟩
    · refine jX.b2t hc (by rfl) (by rfl) (by rfl) (?_ : jX G jP 34 36 lv [] μ Q)
      exact jX.throw (by rfl) (sretv (f := sthV) h K R.xc)
    · refine jX.b2f hc (by rfl) (by rfl) (by rfl) (?_ : jX G jP 34 15 lv [] μ Q)
      refine jX.lrn l0 (by rfl) (by rfl) (?_ : jX G jP 34 16 lv [.ref (spl 0 0 0)] μ Q)
      refine jX.sg R (by rfl) (by rfl) (by rfl) (by rfl) (by rfl) (by rfl) (?_ : jX G jP 34 19 lv [.ref (spl 1 0 0)] μ Q)
      refine jX.lin l1 (by rfl) (by rfl) (?_ : jX G jP 34 20 lv [.int v1, .ref (spl 1 0 0)] μ Q)
      obtain ⟨q1, e1, h⟩ := sbd h
      refine jX.c1 (v := .int q1.1) (by rfl) (by rfl) (by rfl) (by rfl) (by rfl) (by rfl) (by rfl) (R.rec (by rfl) (by rfl)) (Nat.le_of_ble_eq_true rfl) (Nat.le_of_ble_eq_true rfl) (F_17_ok R e1 (fun μ R => ⟨rfl, (?_ : jX G jP 34 23 lv [.int q1.1] μ Q)⟩))
      rcases bif_or h with ⟨hc, h⟩ | ⟨hc, h⟩
      · refine jX.b1t hc (by rfl) (by rfl) (by rfl) (?_ : jX G jP 34 36 lv [] μ Q)
        exact jX.throw (by rfl) (sretv (f := sthV) h K R.xc)
      · refine jX.b1f hc (by rfl) (by rfl) (by rfl) (?_ : jX G jP 34 26 lv [] μ Q)
        refine jX.lrn l0 (by rfl) (by rfl) (?_ : jX G jP 34 27 lv [.ref (spl 0 0 0)] μ Q)
        refine jX.sg R (by rfl) (by rfl) (by rfl) (by rfl) (by rfl) (by rfl) (?_ : jX G jP 34 30 lv [.ref (spl 1 0 0)] μ Q)
        obtain ⟨q2, e2, h⟩ := sbd h
        refine jX.c1 (v := .int q2.1) (by rfl) (by rfl) (by rfl) (by rfl) (by rfl) (by rfl) (by rfl) (R.rec (by rfl) (by rfl)) (Nat.le_of_ble_eq_true rfl) (Nat.le_of_ble_eq_true rfl) (F_20_ok R e2 (fun μ R => ⟨rfl, (?_ : jX G jP 34 33 lv [.int q2.1] μ Q)⟩))
        rcases bif_or h with ⟨hc, h⟩ | ⟨hc, h⟩
        · refine jX.b1t hc (by rfl) (by rfl) (by rfl) (?_ : jX G jP 34 44 lv [] μ Q)
          refine jX.lrn l0 (by rfl) (by rfl) (?_ : jX G jP 34 45 lv [.ref (spl 0 0 0)] μ Q)
          refine jX.sg R (by rfl) (by rfl) (by rfl) (by rfl) (by rfl) (by rfl) (?_ : jX G jP 34 48 lv [.ref (spl 23 0 0)] μ Q)
          obtain ⟨q3, e3, h⟩ := sbd h
          refine jX.cv (by rfl) (by rfl) (by rfl) (by rfl) (by rfl) (by rfl) (by rfl) (R.rec (by rfl) (by rfl)) (Nat.le_of_ble_eq_true rfl) (Nat.le_of_ble_eq_true rfl) (F_21_ok R e3 (fun μ R => ⟨rfl, (?_ : jX G jP 34 51 lv [] μ Q)⟩))
          refine jX.lrn l0 (by rfl) (by rfl) (?_ : jX G jP 34 52 lv [.ref (spl 0 0 0)] μ Q)
          refine jX.sg R (by rfl) (by rfl) (by rfl) (by rfl) (by rfl) (by rfl) (?_ : jX G jP 34 55 lv [.ref (spl 23 0 0)] μ Q)
          refine jX.lin l1 (by rfl) (by rfl) (?_ : jX G jP 34 56 lv [.int v1, .ref (spl 23 0 0)] μ Q)
          obtain ⟨q4, e4, h⟩ := sbd h
          refine jX.cv (by rfl) (by rfl) (by rfl) (by rfl) (by rfl) (by rfl) (by rfl) (R.rec (by rfl) (by rfl)) (Nat.le_of_ble_eq_true rfl) (Nat.le_of_ble_eq_true rfl) (F_33_ok R e4 (fun μ R => ⟨rfl, (?_ : jX G jP 34 59 lv [] μ Q)⟩))
          exact jX.ret (by rfl) (by rfl) (by rfl) (by rfl) (sretv (f := sthV) h K R)
        · refine jX.b1f hc (by rfl) (by rfl) (by rfl) (?_ : jX G jP 34 36 lv [] μ Q)
          exact jX.throw (by rfl) (sretv (f := sthV) h K R.xc)
/-! 35 StrandRuntime$Tracer.meet(LStrandRuntime$Row;II)V -/
def F_35_101 (G : jG) (t : Nat) (k21 : (Nat × Nat) → (Nat × Nat) → Int32 → Int32 → sS → Option (Unit × sS)) (v0 : (Nat × Nat)) (v1 : (Nat × Nat)) (v4 : Int32) (v5 : Int32) (S : sS) : Option (Unit × sS) := k21 v0 v1 v4 (v5 + Int32.ofInt 1) S
theorem F_35_101_ok {G : jG} {t : Nat} {k21 : (Nat × Nat) → (Nat × Nat) → Int32 → Int32 → sS → Option (Unit × sS)} {r : Unit} {S' : sS} {Q : Option Value ⊕ Nat → jS → Prop} (hk21 : ∀ (v0 : (Nat × Nat)) (v1 : (Nat × Nat)) (v4 : Int32) (v5 : Int32) (S : sS) (lv : jL) (μ : jS), jld lv 0 = some (.ref (spl 15 v0.1 v0.2)) → jld lv 1 = some (.ref (spl 29 v1.1 v1.2)) → jld lv 4 = some (.int v4) → jld lv 5 = some (.int v5) → sR S μ → k21 v0 v1 v4 v5 S = some (r, S') → jX G jP 35 21 lv [] μ Q) (K : ∀ μ', sR S' μ' → Q (srV r) μ') : ∀ (v0 : (Nat × Nat)) (v1 : (Nat × Nat)) (v4 : Int32) (v5 : Int32) (S : sS) (lv : jL) (μ : jS), jld lv 0 = some (.ref (spl 15 v0.1 v0.2)) → jld lv 1 = some (.ref (spl 29 v1.1 v1.2)) → jld lv 4 = some (.int v4) → jld lv 5 = some (.int v5) → sR S μ → F_35_101 G t k21 v0 v1 v4 v5 S = some (r, S') → jX G jP 35 101 lv [] μ Q := by
  intro v0 v1 v4 v5 S lv μ l0 l1 l4 l5 R h
  unfold F_35_101 at h
  refine jX.inc l5 (by rfl) (by rfl) (by rfl) (fun lv l5 kp => (?_ : jX G jP 35 104 lv [] μ Q))
  replace l0 := kp 0 _ l0 (by rfl) (by first | rfl | simp [soR_cat])
  replace l1 := kp 1 _ l1 (by rfl) (by first | rfl | simp [soR_cat])
  replace l4 := kp 4 _ l4 (by rfl) (by first | rfl | simp [soR_cat])
  refine jX.go (by rfl) (by rfl) (by rfl) (?_ : jX G jP 35 21 lv [] μ Q)
  exact hk21 v0 v1 v4 (v5 + Int32.ofInt 1) _ _ _ l0 l1 l4 l5 R h
def F_35_21 (G : jG) (t : Nat) : Nat → (Nat × Nat) → (Nat × Nat) → Int32 → Int32 → sS → Option (Unit × sS)
  | 0 => fun _ _ _ _ _ => none
  | tt + 1 => fun v0 v1 v4 v5 S => bif jcmp .ge v5 v4 then (some ((), S)) else (jif (sex S.2.2.2.1 29 v1.1 v1.2) (jif (sex S.2.2.2.1 31 v1.1 v1.2) (jif (jin v5 (srl v1.2)) (bif jcmp .lt ((S.1 31 v1.1 v1.2 v5.toNatClampNeg) - (nI 2)) 0 then (F_35_101 G t (F_35_21 G t tt) v0 v1 v4 v5 S) else (bif jcmp .ge ((S.1 31 v1.1 v1.2 v5.toNatClampNeg) - (nI 2)) (nI 600) then (F_35_101 G t (F_35_21 G t tt) v0 v1 v4 v5 S) else (jif (sex S.2.2.2.1 15 v0.1 v0.2) (jif (sex S.2.2.2.1 16 0 v0.2) (jif (jin ((S.1 31 v1.1 v1.2 v5.toNatClampNeg) - (nI 2)) 600) (bif jcmp .ne (S.1 16 0 v0.2 ((S.1 31 v1.1 v1.2 v5.toNatClampNeg) - (nI 2)).toNatClampNeg) 0 then (F_35_101 G t (F_35_21 G t tt) v0 v1 v4 v5 S) else (bif jcmp .ge (S.1 15 v0.1 v0.2 2) (nI 600) then (F_35_101 G t (F_35_21 G t tt) v0 v1 v4 v5 S) else (jif (jin ((S.1 31 v1.1 v1.2 v5.toNatClampNeg) - (nI 2)) 600) (jif (sex (siI S 16 0 v0.2 ((S.1 31 v1.1 v1.2 v5.toNatClampNeg) - (nI 2)).toNatClampNeg (nI 1)).2.2.2.1 17 0 v0.2) (jif (jin ((siI S 16 0 v0.2 ((S.1 31 v1.1 v1.2 v5.toNatClampNeg) - (nI 2)).toNatClampNeg (nI 1)).1 15 v0.1 v0.2 2) 600) (F_35_101 G t (F_35_21 G t tt) v0 v1 v4 v5 (siI (siI (siI S 16 0 v0.2 ((S.1 31 v1.1 v1.2 v5.toNatClampNeg) - (nI 2)).toNatClampNeg (nI 1)) 17 0 v0.2 ((siI S 16 0 v0.2 ((S.1 31 v1.1 v1.2 v5.toNatClampNeg) - (nI 2)).toNatClampNeg (nI 1)).1 15 v0.1 v0.2 2).toNatClampNeg ((S.1 31 v1.1 v1.2 v5.toNatClampNeg) - (nI 2))) 15 v0.1 v0.2 2 (((siI (siI S 16 0 v0.2 ((S.1 31 v1.1 v1.2 v5.toNatClampNeg) - (nI 2)).toNatClampNeg (nI 1)) 17 0 v0.2 ((siI S 16 0 v0.2 ((S.1 31 v1.1 v1.2 v5.toNatClampNeg) - (nI 2)).toNatClampNeg (nI 1)).1 15 v0.1 v0.2 2).toNatClampNeg ((S.1 31 v1.1 v1.2 v5.toNatClampNeg) - (nI 2))).1 15 v0.1 v0.2 2) + (nI 1)))))))))))))))))
theorem F_35_21_ok {G : jG} {t : Nat} {r : Unit} {S' : sS} {Q : Option Value ⊕ Nat → jS → Prop} (K : ∀ μ', sR S' μ' → Q (srV r) μ') : ∀ tt : Nat, ∀ (v0 : (Nat × Nat)) (v1 : (Nat × Nat)) (v4 : Int32) (v5 : Int32) (S : sS) (lv : jL) (μ : jS), jld lv 0 = some (.ref (spl 15 v0.1 v0.2)) → jld lv 1 = some (.ref (spl 29 v1.1 v1.2)) → jld lv 4 = some (.int v4) → jld lv 5 = some (.int v5) → sR S μ → F_35_21 G t tt v0 v1 v4 v5 S = some (r, S') → jX G jP 35 21 lv [] μ Q := by
  intro tt
  induction tt with
  | zero =>
    intro v0 v1 v4 v5 S lv μ l0 l1 l4 l5 R h
    rw [F_35_21] at h
    cases h
  | succ tt ih =>
    intro v0 v1 v4 v5 S lv μ l0 l1 l4 l5 R h
    rw [F_35_21] at h
    refine jX.li l5 (by rfl) (by rfl) (?_ : jX G jP 35 23 lv [.int v5] μ Q)
    refine jX.li l4 (by rfl) (by rfl) (?_ : jX G jP 35 25 lv [.int v4, .int v5] μ Q)
    rcases bif_or h with ⟨hc, h⟩ | ⟨hc, h⟩
    · refine jX.b2t hc (by rfl) (by rfl) (by rfl) (?_ : jX G jP 35 107 lv [] μ Q)
      exact jX.ret (by rfl) (by rfl) (by rfl) (by rfl) (sretv (f := srV) h K R)
    · refine jX.b2f hc (by rfl) (by rfl) (by rfl) (?_ : jX G jP 35 28 lv [] μ Q)
      refine jX.lrn l1 (by rfl) (by rfl) (?_ : jX G jP 35 29 lv [.ref (spl 29 v1.1 v1.2)] μ Q)
      obtain ⟨g1, h⟩ := jif_some h
      refine jX.sg R g1 (by rfl) (by rfl) (by rfl) (by rfl) (by rfl) (?_ : jX G jP 35 32 lv [.ref (spl 31 v1.1 v1.2)] μ Q)
      refine jX.li l5 (by rfl) (by rfl) (?_ : jX G jP 35 34 lv [.int v5, .ref (spl 31 v1.1 v1.2)] μ Q)
      obtain ⟨g2, h⟩ := jif_some h
      obtain ⟨g3, h⟩ := jif_some h
      refine jX.sai R g2 (by rfl) (by rfl) (by rfl) g3 (?_ : jX G jP 35 35 lv [.int (S.1 31 v1.1 v1.2 v5.toNatClampNeg)] μ Q)
      refine jX.ic (v := nI 2) (n := 1) (by rfl) (by rfl) (by decide) (?_ : jX G jP 35 36 lv [.int (nI 2), .int (S.1 31 v1.1 v1.2 v5.toNatClampNeg)] μ Q)
      refine jX.go (by rfl) (by rfl) (by rfl) (?_ : jX G jP 35 37 lv [.int ((S.1 31 v1.1 v1.2 v5.toNatClampNeg) - (nI 2))] μ Q)
      refine jX.s1 (k := 6) (pc' := 39) (by rfl) (by rfl) (by rfl) (fun lv l6 kp => (?_ : jX G jP 35 39 lv [] μ Q))
      replace l0 := kp 0 _ l0 (by rfl) (by first | rfl | simp [soR_cat])
      replace l1 := kp 1 _ l1 (by rfl) (by first | rfl | simp [soR_cat])
      replace l4 := kp 4 _ l4 (by rfl) (by first | rfl | simp [soR_cat])
      replace l5 := kp 5 _ l5 (by rfl) (by first | rfl | simp [soR_cat])
      refine jX.li l6 (by rfl) (by rfl) (?_ : jX G jP 35 41 lv [.int ((S.1 31 v1.1 v1.2 v5.toNatClampNeg) - (nI 2))] μ Q)
      rcases bif_or h with ⟨hc, h⟩ | ⟨hc, h⟩
      · refine jX.b1t hc (by rfl) (by rfl) (by rfl) (?_ : jX G jP 35 101 lv [] μ Q)
        exact F_35_101_ok ih K v0 v1 v4 v5 _ _ _ l0 l1 l4 l5 R h
      · refine jX.b1f hc (by rfl) (by rfl) (by rfl) (?_ : jX G jP 35 44 lv [] μ Q)
        refine jX.li l6 (by rfl) (by rfl) (?_ : jX G jP 35 46 lv [.int ((S.1 31 v1.1 v1.2 v5.toNatClampNeg) - (nI 2))] μ Q)
        refine jX.ic (v := nI 600) (n := 3) (by rfl) (by rfl) (by decide) (?_ : jX G jP 35 49 lv [.int (nI 600), .int ((S.1 31 v1.1 v1.2 v5.toNatClampNeg) - (nI 2))] μ Q)
        rcases bif_or h with ⟨hc, h⟩ | ⟨hc, h⟩
        · refine jX.b2t hc (by rfl) (by rfl) (by rfl) (?_ : jX G jP 35 101 lv [] μ Q)
          exact F_35_101_ok ih K v0 v1 v4 v5 _ _ _ l0 l1 l4 l5 R h
        · refine jX.b2f hc (by rfl) (by rfl) (by rfl) (?_ : jX G jP 35 52 lv [] μ Q)
          refine jX.lrn l0 (by rfl) (by rfl) (?_ : jX G jP 35 53 lv [.ref (spl 15 v0.1 v0.2)] μ Q)
          obtain ⟨g4, h⟩ := jif_some h
          refine jX.sg R g4 (by rfl) (by rfl) (by rfl) (by rfl) (by rfl) (?_ : jX G jP 35 56 lv [.ref (spl 16 0 v0.2)] μ Q)
          refine jX.li l6 (by rfl) (by rfl) (?_ : jX G jP 35 58 lv [.int ((S.1 31 v1.1 v1.2 v5.toNatClampNeg) - (nI 2)), .ref (spl 16 0 v0.2)] μ Q)
          obtain ⟨g5, h⟩ := jif_some h
          obtain ⟨g6, h⟩ := jif_some h
          refine jX.sai R g5 (by rfl) (by rfl) (by rfl) g6 (?_ : jX G jP 35 59 lv [.int (S.1 16 0 v0.2 ((S.1 31 v1.1 v1.2 v5.toNatClampNeg) - (nI 2)).toNatClampNeg)] μ Q)
          rcases bif_or h with ⟨hc, h⟩ | ⟨hc, h⟩
          · refine jX.b1t hc (by rfl) (by rfl) (by rfl) (?_ : jX G jP 35 101 lv [] μ Q)
            exact F_35_101_ok ih K v0 v1 v4 v5 _ _ _ l0 l1 l4 l5 R h
          · refine jX.b1f hc (by rfl) (by rfl) (by rfl) (?_ : jX G jP 35 62 lv [] μ Q)
            refine jX.lrn l0 (by rfl) (by rfl) (?_ : jX G jP 35 63 lv [.ref (spl 15 v0.1 v0.2)] μ Q)
            refine jX.sg R g4 (by rfl) (by rfl) (by rfl) (by rfl) (by rfl) (?_ : jX G jP 35 66 lv [.int (S.1 15 v0.1 v0.2 2)] μ Q)
            refine jX.ic (v := nI 600) (n := 3) (by rfl) (by rfl) (by decide) (?_ : jX G jP 35 69 lv [.int (nI 600), .int (S.1 15 v0.1 v0.2 2)] μ Q)
            rcases bif_or h with ⟨hc, h⟩ | ⟨hc, h⟩
            · refine jX.b2t hc (by rfl) (by rfl) (by rfl) (?_ : jX G jP 35 101 lv [] μ Q)
              exact F_35_101_ok ih K v0 v1 v4 v5 _ _ _ l0 l1 l4 l5 R h
            · refine jX.b2f hc (by rfl) (by rfl) (by rfl) (?_ : jX G jP 35 72 lv [] μ Q)
              refine jX.lrn l0 (by rfl) (by rfl) (?_ : jX G jP 35 73 lv [.ref (spl 15 v0.1 v0.2)] μ Q)
              refine jX.sg R g4 (by rfl) (by rfl) (by rfl) (by rfl) (by rfl) (?_ : jX G jP 35 76 lv [.ref (spl 16 0 v0.2)] μ Q)
              refine jX.li l6 (by rfl) (by rfl) (?_ : jX G jP 35 78 lv [.int ((S.1 31 v1.1 v1.2 v5.toNatClampNeg) - (nI 2)), .ref (spl 16 0 v0.2)] μ Q)
              refine jX.ic (v := nI 1) (n := 1) (by rfl) (by rfl) (by decide) (?_ : jX G jP 35 79 lv [.int (nI 1), .int ((S.1 31 v1.1 v1.2 v5.toNatClampNeg) - (nI 2)), .ref (spl 16 0 v0.2)] μ Q)
              obtain ⟨g7, h⟩ := jif_some h
              refine jX.sti R g5 (by rfl) (by rfl) (fun _ => by rfl) g7 (fun μ R => (?_ : jX G jP 35 80 lv [] μ Q))
              refine jX.lrn l0 (by rfl) (by rfl) (?_ : jX G jP 35 81 lv [.ref (spl 15 v0.1 v0.2)] μ Q)
              refine jX.sg R g4 (by rfl) (by rfl) (by rfl) (by rfl) (by rfl) (?_ : jX G jP 35 84 lv [.ref (spl 17 0 v0.2)] μ Q)
              refine jX.lrn l0 (by rfl) (by rfl) (?_ : jX G jP 35 85 lv [.ref (spl 15 v0.1 v0.2), .ref (spl 17 0 v0.2)] μ Q)
              refine jX.sg R g4 (by rfl) (by rfl) (by rfl) (by rfl) (by rfl) (?_ : jX G jP 35 88 lv [.int ((siI S 16 0 v0.2 ((S.1 31 v1.1 v1.2 v5.toNatClampNeg) - (nI 2)).toNatClampNeg (nI 1)).1 15 v0.1 v0.2 2), .ref (spl 17 0 v0.2)] μ Q)
              refine jX.li l6 (by rfl) (by rfl) (?_ : jX G jP 35 90 lv [.int ((S.1 31 v1.1 v1.2 v5.toNatClampNeg) - (nI 2)), .int ((siI S 16 0 v0.2 ((S.1 31 v1.1 v1.2 v5.toNatClampNeg) - (nI 2)).toNatClampNeg (nI 1)).1 15 v0.1 v0.2 2), .ref (spl 17 0 v0.2)] μ Q)
              obtain ⟨g8, h⟩ := jif_some h
              obtain ⟨g9, h⟩ := jif_some h
              refine jX.sti R g8 (by rfl) (by rfl) (fun _ => by rfl) g9 (fun μ R => (?_ : jX G jP 35 91 lv [] μ Q))
              refine jX.lrn l0 (by rfl) (by rfl) (?_ : jX G jP 35 92 lv [.ref (spl 15 v0.1 v0.2)] μ Q)
              refine jX.go (by rfl) (by rfl) (by rfl) (?_ : jX G jP 35 93 lv [.ref (spl 15 v0.1 v0.2), .ref (spl 15 v0.1 v0.2)] μ Q)
              refine jX.sg R g4 (by rfl) (by rfl) (by rfl) (by rfl) (by rfl) (?_ : jX G jP 35 96 lv [.int ((siI (siI S 16 0 v0.2 ((S.1 31 v1.1 v1.2 v5.toNatClampNeg) - (nI 2)).toNatClampNeg (nI 1)) 17 0 v0.2 ((siI S 16 0 v0.2 ((S.1 31 v1.1 v1.2 v5.toNatClampNeg) - (nI 2)).toNatClampNeg (nI 1)).1 15 v0.1 v0.2 2).toNatClampNeg ((S.1 31 v1.1 v1.2 v5.toNatClampNeg) - (nI 2))).1 15 v0.1 v0.2 2), .ref (spl 15 v0.1 v0.2)] μ Q)
              refine jX.ic (v := nI 1) (n := 1) (by rfl) (by rfl) (by decide) (?_ : jX G jP 35 97 lv [.int (nI 1), .int ((siI (siI S 16 0 v0.2 ((S.1 31 v1.1 v1.2 v5.toNatClampNeg) - (nI 2)).toNatClampNeg (nI 1)) 17 0 v0.2 ((siI S 16 0 v0.2 ((S.1 31 v1.1 v1.2 v5.toNatClampNeg) - (nI 2)).toNatClampNeg (nI 1)).1 15 v0.1 v0.2 2).toNatClampNeg ((S.1 31 v1.1 v1.2 v5.toNatClampNeg) - (nI 2))).1 15 v0.1 v0.2 2), .ref (spl 15 v0.1 v0.2)] μ Q)
              refine jX.go (by rfl) (by rfl) (by rfl) (?_ : jX G jP 35 98 lv [.int (((siI (siI S 16 0 v0.2 ((S.1 31 v1.1 v1.2 v5.toNatClampNeg) - (nI 2)).toNatClampNeg (nI 1)) 17 0 v0.2 ((siI S 16 0 v0.2 ((S.1 31 v1.1 v1.2 v5.toNatClampNeg) - (nI 2)).toNatClampNeg (nI 1)).1 15 v0.1 v0.2 2).toNatClampNeg ((S.1 31 v1.1 v1.2 v5.toNatClampNeg) - (nI 2))).1 15 v0.1 v0.2 2) + (nI 1)), .ref (spl 15 v0.1 v0.2)] μ Q)
              refine jX.spI R g4 (by rfl) (by rfl) (by rfl) (by rfl) (by rfl) (by rfl) (by rfl) (by rfl) (fun μ R => (?_ : jX G jP 35 101 lv [] μ Q))
              exact F_35_101_ok ih K v0 v1 v4 v5 _ _ _ l0 l1 l4 l5 R h
def F_35_16 (G : jG) (t : Nat) (v0 : (Nat × Nat)) (v1 : (Nat × Nat)) (v2 : Int32) (w0 : Int32) (S : sS) : Option (Unit × sS) := F_35_21 G t t v0 v1 w0 v2 S
theorem F_35_16_ok {G : jG} {t : Nat} {r : Unit} {S' : sS} {Q : Option Value ⊕ Nat → jS → Prop} (K : ∀ μ', sR S' μ' → Q (srV r) μ') : ∀ (v0 : (Nat × Nat)) (v1 : (Nat × Nat)) (v2 : Int32) (w0 : Int32) (S : sS) (lv : jL) (μ : jS), jld lv 0 = some (.ref (spl 15 v0.1 v0.2)) → jld lv 1 = some (.ref (spl 29 v1.1 v1.2)) → jld lv 2 = some (.int v2) → sR S μ → F_35_16 G t v0 v1 v2 w0 S = some (r, S') → jX G jP 35 16 lv [.int w0] μ Q := by
  intro v0 v1 v2 w0 S lv μ l0 l1 l2 R h
  unfold F_35_16 at h
  refine jX.s1 (k := 4) (pc' := 18) (by rfl) (by rfl) (by rfl) (fun lv l4 kp => (?_ : jX G jP 35 18 lv [] μ Q))
  replace l0 := kp 0 _ l0 (by rfl) (by first | rfl | simp [soR_cat])
  replace l1 := kp 1 _ l1 (by rfl) (by first | rfl | simp [soR_cat])
  replace l2 := kp 2 _ l2 (by rfl) (by first | rfl | simp [soR_cat])
  refine jX.lin l2 (by rfl) (by rfl) (?_ : jX G jP 35 19 lv [.int v2] μ Q)
  refine jX.s1 (k := 5) (pc' := 21) (by rfl) (by rfl) (by rfl) (fun lv l5 kp => (?_ : jX G jP 35 21 lv [] μ Q))
  replace l0 := kp 0 _ l0 (by rfl) (by first | rfl | simp [soR_cat])
  replace l1 := kp 1 _ l1 (by rfl) (by first | rfl | simp [soR_cat])
  replace l4 := kp 4 _ l4 (by rfl) (by first | rfl | simp [soR_cat])
  exact F_35_21_ok  K _ v0 v1 w0 v2 _ _ _ l0 l1 l4 l5 R h
def F_35 (G : jG) (t : Nat) (v0 : (Nat × Nat)) (v1 : (Nat × Nat)) (v2 : Int32) (v3 : Int32) (S : sS) : Option (Unit × sS) := jif (sex S.2.2.2.1 29 v1.1 v1.2) (bif jcmp .ge v3 (S.1 29 v1.1 v1.2 2) then (F_35_16 G t v0 v1 v2 (S.1 29 v1.1 v1.2 2) S) else (F_35_16 G t v0 v1 v2 v3 S))
theorem F_35_ok {G : jG} {t : Nat} {v0 : (Nat × Nat)} {v1 : (Nat × Nat)} {v2 : Int32} {v3 : Int32} {S : sS} {r : Unit} {S' : sS} {μ : jS} {Q : Option Value ⊕ Nat → jS → Prop} (R : sR S μ) (h : F_35 G t v0 v1 v2 v3 S = some (r, S')) (K : ∀ μ', sR S' μ' → Q (srV r) μ') : jX G jP 35 0 (lv_args 0 [.ref (spl 15 v0.1 v0.2), .ref (spl 29 v1.1 v1.2), .int v2, .int v3]) [] μ Q := by
  unfold F_35 at h
  have l0 : jld (lv_args 0 [.ref (spl 15 v0.1 v0.2), .ref (spl 29 v1.1 v1.2), .int v2, .int v3]) 0 = some (.ref (spl 15 v0.1 v0.2)) := by rfl
  have l1 : jld (lv_args 0 [.ref (spl 15 v0.1 v0.2), .ref (spl 29 v1.1 v1.2), .int v2, .int v3]) 1 = some (.ref (spl 29 v1.1 v1.2)) := by rfl
  have l2 : jld (lv_args 0 [.ref (spl 15 v0.1 v0.2), .ref (spl 29 v1.1 v1.2), .int v2, .int v3]) 2 = some (.int v2) := by rfl
  have l3 : jld (lv_args 0 [.ref (spl 15 v0.1 v0.2), .ref (spl 29 v1.1 v1.2), .int v2, .int v3]) 3 = some (.int v3) := by rfl
  generalize lv_args 0 [.ref (spl 15 v0.1 v0.2), .ref (spl 29 v1.1 v1.2), .int v2, .int v3] = lv at *
  refine jX.lin l3 (by rfl) (by rfl) (?_ : jX G jP 35 1 lv [.int v3] μ Q)
  refine jX.lrn l1 (by rfl) (by rfl) (?_ : jX G jP 35 2 lv [.ref (spl 29 v1.1 v1.2), .int v3] μ Q)
  obtain ⟨g1, h⟩ := jif_some h
  refine jX.sg R g1 (by rfl) (by rfl) (by rfl) (by rfl) (by rfl) (?_ : jX G jP 35 5 lv [.int (S.1 29 v1.1 v1.2 2), .int v3] μ Q)
  rcases bif_or h with ⟨hc, h⟩ | ⟨hc, h⟩
  · refine jX.b2t hc (by rfl) (by rfl) (by rfl) (?_ : jX G jP 35 12 lv [] μ Q)
    refine jX.lrn l1 (by rfl) (by rfl) (?_ : jX G jP 35 13 lv [.ref (spl 29 v1.1 v1.2)] μ Q)
    refine jX.sg R g1 (by rfl) (by rfl) (by rfl) (by rfl) (by rfl) (?_ : jX G jP 35 16 lv [.int (S.1 29 v1.1 v1.2 2)] μ Q)
    exact F_35_16_ok  K v0 v1 v2 (S.1 29 v1.1 v1.2 2) _ _ _ l0 l1 l2 R h
  · refine jX.b2f hc (by rfl) (by rfl) (by rfl) (?_ : jX G jP 35 8 lv [] μ Q)
    refine jX.lin l3 (by rfl) (by rfl) (?_ : jX G jP 35 9 lv [.int v3] μ Q)
    refine jX.go (by rfl) (by rfl) (by rfl) (?_ : jX G jP 35 16 lv [.int v3] μ Q)
    exact F_35_16_ok  K v0 v1 v2 v3 _ _ _ l0 l1 l2 R h
/-! 36 StrandRuntime$World.meetRoots(LStrandRuntime$Tracer;)V -/
def F_36_106 (G : jG) (t : Nat) (k13 : (Nat × Nat) → Int32 → sS → Option (Unit × sS)) (k29 : (Nat × Nat) → Int32 → (Nat × Nat) → Int32 → sS → Option (Unit × sS)) (v1 : (Nat × Nat)) (v2 : Int32) (v3 : (Nat × Nat)) (v4 : Int32) (S : sS) : Option (Unit × sS) := k29 v1 v2 v3 (v4 + Int32.ofInt 1) S
theorem F_36_106_ok {G : jG} {t : Nat} {k13 : (Nat × Nat) → Int32 → sS → Option (Unit × sS)} {k29 : (Nat × Nat) → Int32 → (Nat × Nat) → Int32 → sS → Option (Unit × sS)} {r : Unit} {S' : sS} {Q : Option Value ⊕ Nat → jS → Prop} (hk13 : ∀ (v1 : (Nat × Nat)) (v2 : Int32) (S : sS) (lv : jL) (μ : jS), jld lv 0 = some (.ref (spl 8 0 0)) → jld lv 1 = some (.ref (spl 15 v1.1 v1.2)) → jld lv 2 = some (.int v2) → sR S μ → k13 v1 v2 S = some (r, S') → jX G jP 36 13 lv [] μ Q) (hk29 : ∀ (v1 : (Nat × Nat)) (v2 : Int32) (v3 : (Nat × Nat)) (v4 : Int32) (S : sS) (lv : jL) (μ : jS), jld lv 0 = some (.ref (spl 8 0 0)) → jld lv 1 = some (.ref (spl 15 v1.1 v1.2)) → jld lv 2 = some (.int v2) → jld lv 3 = some (.ref (spl 25 v3.1 v3.2)) → jld lv 4 = some (.int v4) → sR S μ → k29 v1 v2 v3 v4 S = some (r, S') → jX G jP 36 29 lv [] μ Q) (K : ∀ μ', sR S' μ' → Q (srV r) μ') : ∀ (v1 : (Nat × Nat)) (v2 : Int32) (v3 : (Nat × Nat)) (v4 : Int32) (S : sS) (lv : jL) (μ : jS), jld lv 0 = some (.ref (spl 8 0 0)) → jld lv 1 = some (.ref (spl 15 v1.1 v1.2)) → jld lv 2 = some (.int v2) → jld lv 3 = some (.ref (spl 25 v3.1 v3.2)) → jld lv 4 = some (.int v4) → sR S μ → F_36_106 G t k13 k29 v1 v2 v3 v4 S = some (r, S') → jX G jP 36 106 lv [] μ Q := by
  intro v1 v2 v3 v4 S lv μ l0 l1 l2 l3 l4 R h
  unfold F_36_106 at h
  refine jX.inc l4 (by rfl) (by rfl) (by rfl) (fun lv l4 kp => (?_ : jX G jP 36 109 lv [] μ Q))
  replace l0 := kp 0 _ l0 (by rfl) (by first | rfl | simp [soR_cat])
  replace l1 := kp 1 _ l1 (by rfl) (by first | rfl | simp [soR_cat])
  replace l2 := kp 2 _ l2 (by rfl) (by first | rfl | simp [soR_cat])
  replace l3 := kp 3 _ l3 (by rfl) (by first | rfl | simp [soR_cat])
  refine jX.go (by rfl) (by rfl) (by rfl) (?_ : jX G jP 36 29 lv [] μ Q)
  exact hk29 v1 v2 v3 (v4 + Int32.ofInt 1) _ _ _ l0 l1 l2 l3 l4 R h
def F_36_112 (G : jG) (t : Nat) (k13 : (Nat × Nat) → Int32 → sS → Option (Unit × sS)) (v1 : (Nat × Nat)) (v2 : Int32) (S : sS) : Option (Unit × sS) := k13 v1 (v2 + Int32.ofInt 1) S
theorem F_36_112_ok {G : jG} {t : Nat} {k13 : (Nat × Nat) → Int32 → sS → Option (Unit × sS)} {r : Unit} {S' : sS} {Q : Option Value ⊕ Nat → jS → Prop} (hk13 : ∀ (v1 : (Nat × Nat)) (v2 : Int32) (S : sS) (lv : jL) (μ : jS), jld lv 0 = some (.ref (spl 8 0 0)) → jld lv 1 = some (.ref (spl 15 v1.1 v1.2)) → jld lv 2 = some (.int v2) → sR S μ → k13 v1 v2 S = some (r, S') → jX G jP 36 13 lv [] μ Q) (K : ∀ μ', sR S' μ' → Q (srV r) μ') : ∀ (v1 : (Nat × Nat)) (v2 : Int32) (S : sS) (lv : jL) (μ : jS), jld lv 0 = some (.ref (spl 8 0 0)) → jld lv 1 = some (.ref (spl 15 v1.1 v1.2)) → jld lv 2 = some (.int v2) → sR S μ → F_36_112 G t k13 v1 v2 S = some (r, S') → jX G jP 36 112 lv [] μ Q := by
  intro v1 v2 S lv μ l0 l1 l2 R h
  unfold F_36_112 at h
  refine jX.inc l2 (by rfl) (by rfl) (by rfl) (fun lv l2 kp => (?_ : jX G jP 36 115 lv [] μ Q))
  replace l0 := kp 0 _ l0 (by rfl) (by first | rfl | simp [soR_cat])
  replace l1 := kp 1 _ l1 (by rfl) (by first | rfl | simp [soR_cat])
  refine jX.go (by rfl) (by rfl) (by rfl) (?_ : jX G jP 36 13 lv [] μ Q)
  exact hk13 v1 (v2 + Int32.ofInt 1) _ _ _ l0 l1 l2 R h
def F_36_29 (G : jG) (t : Nat) (k13 : (Nat × Nat) → Int32 → sS → Option (Unit × sS)) : Nat → (Nat × Nat) → Int32 → (Nat × Nat) → Int32 → sS → Option (Unit × sS)
  | 0 => fun _ _ _ _ _ => none
  | tt + 1 => fun v1 v2 v3 v4 S => jif (sex S.2.2.2.1 25 v3.1 v3.2) (bif jcmp .ge v4 (S.1 25 v3.1 v3.2 3) then (F_36_112 G t k13 v1 v2 S) else (bif jcmp .ge v4 (nI 30) then (F_36_112 G t k13 v1 v2 S) else (jif (sex S.2.2.2.1 26 v3.1 0) (jif (jin v4 30) (sif ((S.2.2.1.1 v3.1 v4.toNatClampNeg).map fun p => (p, 0)) (F_36_106 G t k13 (F_36_29 G t k13 tt) v1 v2 v3 v4 S) (fun a4 => jif (sex S.2.2.2.1 27 a4.1 a4.2) (jif (sex S.2.2.2.1 15 v1.1 v1.2) ((F_35 G t v1 (a4.1, 0) (nI 0) (nI 12) S).bind (fun q7 => jif (sex q7.2.2.2.2.1 27 a4.1 a4.2) (jif (sex q7.2.2.2.2.1 15 v1.1 v1.2) ((F_35 G t v1 (a4.1, 1) (nI 0) (nI 16) q7.2).bind (fun q10 => jif (sex q10.2.2.2.2.1 27 a4.1 a4.2) (jif (sex q10.2.2.2.2.1 15 v1.1 v1.2) ((F_35 G t v1 (a4.1, 2) (nI 0) (nI 6) q10.2).bind (fun q13 => jif (sex q13.2.2.2.2.1 27 a4.1 a4.2) (jif (sex q13.2.2.2.2.1 15 v1.1 v1.2) ((F_35 G t v1 (a4.1, 3) (nI 0) (nI 1) q13.2).bind (fun q16 => F_36_106 G t k13 (F_36_29 G t k13 tt) v1 v2 v3 v4 q16.2))))))))))))))))))
theorem F_36_29_ok {G : jG} {t : Nat} {k13 : (Nat × Nat) → Int32 → sS → Option (Unit × sS)} {r : Unit} {S' : sS} {Q : Option Value ⊕ Nat → jS → Prop} (hk13 : ∀ (v1 : (Nat × Nat)) (v2 : Int32) (S : sS) (lv : jL) (μ : jS), jld lv 0 = some (.ref (spl 8 0 0)) → jld lv 1 = some (.ref (spl 15 v1.1 v1.2)) → jld lv 2 = some (.int v2) → sR S μ → k13 v1 v2 S = some (r, S') → jX G jP 36 13 lv [] μ Q) (K : ∀ μ', sR S' μ' → Q (srV r) μ') : ∀ tt : Nat, ∀ (v1 : (Nat × Nat)) (v2 : Int32) (v3 : (Nat × Nat)) (v4 : Int32) (S : sS) (lv : jL) (μ : jS), jld lv 0 = some (.ref (spl 8 0 0)) → jld lv 1 = some (.ref (spl 15 v1.1 v1.2)) → jld lv 2 = some (.int v2) → jld lv 3 = some (.ref (spl 25 v3.1 v3.2)) → jld lv 4 = some (.int v4) → sR S μ → F_36_29 G t k13 tt v1 v2 v3 v4 S = some (r, S') → jX G jP 36 29 lv [] μ Q := by
  intro tt
  induction tt with
  | zero =>
    intro v1 v2 v3 v4 S lv μ l0 l1 l2 l3 l4 R h
    rw [F_36_29] at h
    cases h
  | succ tt ih =>
    intro v1 v2 v3 v4 S lv μ l0 l1 l2 l3 l4 R h
    rw [F_36_29] at h
    refine jX.li l4 (by rfl) (by rfl) (?_ : jX G jP 36 31 lv [.int v4] μ Q)
    refine jX.lrn l3 (by rfl) (by rfl) (?_ : jX G jP 36 32 lv [.ref (spl 25 v3.1 v3.2), .int v4] μ Q)
    obtain ⟨g1, h⟩ := jif_some h
    refine jX.sg R g1 (by rfl) (by rfl) (by rfl) (by rfl) (by rfl) (?_ : jX G jP 36 35 lv [.int (S.1 25 v3.1 v3.2 3), .int v4] μ Q)
    rcases bif_or h with ⟨hc, h⟩ | ⟨hc, h⟩
    · refine jX.b2t hc (by rfl) (by rfl) (by rfl) (?_ : jX G jP 36 112 lv [] μ Q)
      exact F_36_112_ok hk13 K v1 v2 _ _ _ l0 l1 l2 R h
    · refine jX.b2f hc (by rfl) (by rfl) (by rfl) (?_ : jX G jP 36 38 lv [] μ Q)
      refine jX.li l4 (by rfl) (by rfl) (?_ : jX G jP 36 40 lv [.int v4] μ Q)
      refine jX.ic (v := nI 30) (n := 2) (by rfl) (by rfl) (by decide) (?_ : jX G jP 36 42 lv [.int (nI 30), .int v4] μ Q)
      rcases bif_or h with ⟨hc, h⟩ | ⟨hc, h⟩
      · refine jX.b2t hc (by rfl) (by rfl) (by rfl) (?_ : jX G jP 36 112 lv [] μ Q)
        exact F_36_112_ok hk13 K v1 v2 _ _ _ l0 l1 l2 R h
      · refine jX.b2f hc (by rfl) (by rfl) (by rfl) (?_ : jX G jP 36 45 lv [] μ Q)
        refine jX.lrn l3 (by rfl) (by rfl) (?_ : jX G jP 36 46 lv [.ref (spl 25 v3.1 v3.2)] μ Q)
        refine jX.sg R g1 (by rfl) (by rfl) (by rfl) (by rfl) (by rfl) (?_ : jX G jP 36 49 lv [.ref (spl 26 v3.1 0)] μ Q)
        refine jX.li l4 (by rfl) (by rfl) (?_ : jX G jP 36 51 lv [.int v4, .ref (spl 26 v3.1 0)] μ Q)
        obtain ⟨g2, h⟩ := jif_some h
        obtain ⟨g3, h⟩ := jif_some h
        refine jX.sar R g2 (by rfl) (by rfl) (by rfl) g3 (srf_27 _) (?_ : jX G jP 36 52 lv [soR 27 ((S.2.2.1.1 v3.1 v4.toNatClampNeg).map fun p => (p, 0))] μ Q)
        refine jX.so (k := 5) (pc' := 54) (by rfl) (by rfl) (fun _ => by rfl) (by rfl) (fun lv l5 kp => (?_ : jX G jP 36 54 lv [] μ Q))
        replace l0 := kp 0 _ l0 (by rfl) (by first | rfl | simp [soR_cat])
        replace l1 := kp 1 _ l1 (by rfl) (by first | rfl | simp [soR_cat])
        replace l2 := kp 2 _ l2 (by rfl) (by first | rfl | simp [soR_cat])
        replace l3 := kp 3 _ l3 (by rfl) (by first | rfl | simp [soR_cat])
        replace l4 := kp 4 _ l4 (by rfl) (by first | rfl | simp [soR_cat])
        refine jX.lo l5 (by rfl) (by rfl) (?_ : jX G jP 36 56 lv [soR 27 ((S.2.2.1.1 v3.1 v4.toNatClampNeg).map fun p => (p, 0))] μ Q)
        rcases sif_or h with ⟨e4, h⟩ | ⟨a4, e4, h⟩
        · rw [soR_none (t := 27) e4]
          rw [soR_none (t := 27) e4] at l5
          refine jX.go (by rfl) (by rfl) (by rfl) (?_ : jX G jP 36 106 lv [] μ Q)
          exact F_36_106_ok hk13 ih K v1 v2 v3 v4 _ _ _ l0 l1 l2 l3 l4 R h
        · rw [soR_some (t := 27) e4]
          rw [soR_some (t := 27) e4] at l5
          refine jX.go (by rfl) (by rfl) (by rfl) (?_ : jX G jP 36 59 lv [] μ Q)
          refine jX.lrn l1 (by rfl) (by rfl) (?_ : jX G jP 36 60 lv [.ref (spl 15 v1.1 v1.2)] μ Q)
          refine jX.lr l5 (by rfl) (by rfl) (?_ : jX G jP 36 62 lv [.ref (spl 27 a4.1 a4.2), .ref (spl 15 v1.1 v1.2)] μ Q)
          obtain ⟨g5, h⟩ := jif_some h
          refine jX.sg R g5 (by rfl) (by rfl) (by rfl) (by rfl) (by rfl) (?_ : jX G jP 36 65 lv [.ref (spl 29 a4.1 0), .ref (spl 15 v1.1 v1.2)] μ Q)
          refine jX.ic (v := nI 0) (n := 1) (by rfl) (by rfl) (by decide) (?_ : jX G jP 36 66 lv [.int (nI 0), .ref (spl 29 a4.1 0), .ref (spl 15 v1.1 v1.2)] μ Q)
          refine jX.ic (v := nI 12) (n := 2) (by rfl) (by rfl) (by decide) (?_ : jX G jP 36 68 lv [.int (nI 12), .int (nI 0), .ref (spl 29 a4.1 0), .ref (spl 15 v1.1 v1.2)] μ Q)
          obtain ⟨g6, h⟩ := jif_some h
          obtain ⟨q7, e7, h⟩ := sbd h
          refine jX.cv (by rfl) (by rfl) (by rfl) (by rfl) (by rfl) (by rfl) (by rfl) (R.rec g6 (by rfl)) (Nat.le_of_ble_eq_true rfl) (Nat.le_of_ble_eq_true rfl) (F_35_ok R e7 (fun μ R => ⟨rfl, (?_ : jX G jP 36 71 lv [] μ Q)⟩))
          refine jX.lrn l1 (by rfl) (by rfl) (?_ : jX G jP 36 72 lv [.ref (spl 15 v1.1 v1.2)] μ Q)
          refine jX.lr l5 (by rfl) (by rfl) (?_ : jX G jP 36 74 lv [.ref (spl 27 a4.1 a4.2), .ref (spl 15 v1.1 v1.2)] μ Q)
          obtain ⟨g8, h⟩ := jif_some h
          refine jX.sg R g8 (by rfl) (by rfl) (by rfl) (by rfl) (by rfl) (?_ : jX G jP 36 77 lv [.ref (spl 29 a4.1 1), .ref (spl 15 v1.1 v1.2)] μ Q)
          refine jX.ic (v := nI 0) (n := 1) (by rfl) (by rfl) (by decide) (?_ : jX G jP 36 78 lv [.int (nI 0), .ref (spl 29 a4.1 1), .ref (spl 15 v1.1 v1.2)] μ Q)
          refine jX.ic (v := nI 16) (n := 2) (by rfl) (by rfl) (by decide) (?_ : jX G jP 36 80 lv [.int (nI 16), .int (nI 0), .ref (spl 29 a4.1 1), .ref (spl 15 v1.1 v1.2)] μ Q)
          obtain ⟨g9, h⟩ := jif_some h
          obtain ⟨q10, e10, h⟩ := sbd h
          refine jX.cv (by rfl) (by rfl) (by rfl) (by rfl) (by rfl) (by rfl) (by rfl) (R.rec g9 (by rfl)) (Nat.le_of_ble_eq_true rfl) (Nat.le_of_ble_eq_true rfl) (F_35_ok R e10 (fun μ R => ⟨rfl, (?_ : jX G jP 36 83 lv [] μ Q)⟩))
          refine jX.lrn l1 (by rfl) (by rfl) (?_ : jX G jP 36 84 lv [.ref (spl 15 v1.1 v1.2)] μ Q)
          refine jX.lr l5 (by rfl) (by rfl) (?_ : jX G jP 36 86 lv [.ref (spl 27 a4.1 a4.2), .ref (spl 15 v1.1 v1.2)] μ Q)
          obtain ⟨g11, h⟩ := jif_some h
          refine jX.sg R g11 (by rfl) (by rfl) (by rfl) (by rfl) (by rfl) (?_ : jX G jP 36 89 lv [.ref (spl 29 a4.1 2), .ref (spl 15 v1.1 v1.2)] μ Q)
          refine jX.ic (v := nI 0) (n := 1) (by rfl) (by rfl) (by decide) (?_ : jX G jP 36 90 lv [.int (nI 0), .ref (spl 29 a4.1 2), .ref (spl 15 v1.1 v1.2)] μ Q)
          refine jX.ic (v := nI 6) (n := 2) (by rfl) (by rfl) (by decide) (?_ : jX G jP 36 92 lv [.int (nI 6), .int (nI 0), .ref (spl 29 a4.1 2), .ref (spl 15 v1.1 v1.2)] μ Q)
          obtain ⟨g12, h⟩ := jif_some h
          obtain ⟨q13, e13, h⟩ := sbd h
          refine jX.cv (by rfl) (by rfl) (by rfl) (by rfl) (by rfl) (by rfl) (by rfl) (R.rec g12 (by rfl)) (Nat.le_of_ble_eq_true rfl) (Nat.le_of_ble_eq_true rfl) (F_35_ok R e13 (fun μ R => ⟨rfl, (?_ : jX G jP 36 95 lv [] μ Q)⟩))
          refine jX.lrn l1 (by rfl) (by rfl) (?_ : jX G jP 36 96 lv [.ref (spl 15 v1.1 v1.2)] μ Q)
          refine jX.lr l5 (by rfl) (by rfl) (?_ : jX G jP 36 98 lv [.ref (spl 27 a4.1 a4.2), .ref (spl 15 v1.1 v1.2)] μ Q)
          obtain ⟨g14, h⟩ := jif_some h
          refine jX.sg R g14 (by rfl) (by rfl) (by rfl) (by rfl) (by rfl) (?_ : jX G jP 36 101 lv [.ref (spl 29 a4.1 3), .ref (spl 15 v1.1 v1.2)] μ Q)
          refine jX.ic (v := nI 0) (n := 1) (by rfl) (by rfl) (by decide) (?_ : jX G jP 36 102 lv [.int (nI 0), .ref (spl 29 a4.1 3), .ref (spl 15 v1.1 v1.2)] μ Q)
          refine jX.ic (v := nI 1) (n := 1) (by rfl) (by rfl) (by decide) (?_ : jX G jP 36 103 lv [.int (nI 1), .int (nI 0), .ref (spl 29 a4.1 3), .ref (spl 15 v1.1 v1.2)] μ Q)
          obtain ⟨g15, h⟩ := jif_some h
          obtain ⟨q16, e16, h⟩ := sbd h
          refine jX.cv (by rfl) (by rfl) (by rfl) (by rfl) (by rfl) (by rfl) (by rfl) (R.rec g15 (by rfl)) (Nat.le_of_ble_eq_true rfl) (Nat.le_of_ble_eq_true rfl) (F_35_ok R e16 (fun μ R => ⟨rfl, (?_ : jX G jP 36 106 lv [] μ Q)⟩))
          exact F_36_106_ok hk13 ih K v1 v2 v3 v4 _ _ _ l0 l1 l2 l3 l4 R h
def F_36_13 (G : jG) (t : Nat) : Nat → (Nat × Nat) → Int32 → sS → Option (Unit × sS)
  | 0 => fun _ _ _ => none
  | tt + 1 => fun v1 v2 S => bif jcmp .ge v2 (nI 16) then (some ((), S)) else (jif (jin v2 16) (F_36_29 G t (F_36_13 G t tt) t v1 v2 (v2.toNatClampNeg, 0) (nI 0) S))
theorem F_36_13_ok {G : jG} {t : Nat} {r : Unit} {S' : sS} {Q : Option Value ⊕ Nat → jS → Prop} (K : ∀ μ', sR S' μ' → Q (srV r) μ') : ∀ tt : Nat, ∀ (v1 : (Nat × Nat)) (v2 : Int32) (S : sS) (lv : jL) (μ : jS), jld lv 0 = some (.ref (spl 8 0 0)) → jld lv 1 = some (.ref (spl 15 v1.1 v1.2)) → jld lv 2 = some (.int v2) → sR S μ → F_36_13 G t tt v1 v2 S = some (r, S') → jX G jP 36 13 lv [] μ Q := by
  intro tt
  induction tt with
  | zero =>
    intro v1 v2 S lv μ l0 l1 l2 R h
    rw [F_36_13] at h
    cases h
  | succ tt ih =>
    intro v1 v2 S lv μ l0 l1 l2 R h
    rw [F_36_13] at h
    refine jX.lin l2 (by rfl) (by rfl) (?_ : jX G jP 36 14 lv [.int v2] μ Q)
    refine jX.ic (v := nI 16) (n := 2) (by rfl) (by rfl) (by decide) (?_ : jX G jP 36 16 lv [.int (nI 16), .int v2] μ Q)
    rcases bif_or h with ⟨hc, h⟩ | ⟨hc, h⟩
    · refine jX.b2t hc (by rfl) (by rfl) (by rfl) (?_ : jX G jP 36 118 lv [] μ Q)
      exact jX.ret (by rfl) (by rfl) (by rfl) (by rfl) (sretv (f := srV) h K R)
    · refine jX.b2f hc (by rfl) (by rfl) (by rfl) (?_ : jX G jP 36 19 lv [] μ Q)
      refine jX.lrn l0 (by rfl) (by rfl) (?_ : jX G jP 36 20 lv [.ref (spl 8 0 0)] μ Q)
      refine jX.sg R (by rfl) (by rfl) (by rfl) (by rfl) (by rfl) (by rfl) (?_ : jX G jP 36 23 lv [.ref (spl 9 0 0)] μ Q)
      refine jX.lin l2 (by rfl) (by rfl) (?_ : jX G jP 36 24 lv [.int v2, .ref (spl 9 0 0)] μ Q)
      obtain ⟨g1, h⟩ := jif_some h
      refine jX.sar (f := fun q => bif Nat.blt q 16 then some (spl 25 q 0) else none) R (by rfl) (by rfl) (by rfl) (by rfl) g1 (srf_in g1) (?_ : jX G jP 36 25 lv [.ref (spl 25 v2.toNatClampNeg 0)] μ Q)
      refine jX.s1 (k := 3) (pc' := 26) (by rfl) (by rfl) (by rfl) (fun lv l3 kp => (?_ : jX G jP 36 26 lv [] μ Q))
      replace l0 := kp 0 _ l0 (by rfl) (by first | rfl | simp [soR_cat])
      replace l1 := kp 1 _ l1 (by rfl) (by first | rfl | simp [soR_cat])
      replace l2 := kp 2 _ l2 (by rfl) (by first | rfl | simp [soR_cat])
      refine jX.ic (v := nI 0) (n := 1) (by rfl) (by rfl) (by decide) (?_ : jX G jP 36 27 lv [.int (nI 0)] μ Q)
      refine jX.s1 (k := 4) (pc' := 29) (by rfl) (by rfl) (by rfl) (fun lv l4 kp => (?_ : jX G jP 36 29 lv [] μ Q))
      replace l0 := kp 0 _ l0 (by rfl) (by first | rfl | simp [soR_cat])
      replace l1 := kp 1 _ l1 (by rfl) (by first | rfl | simp [soR_cat])
      replace l2 := kp 2 _ l2 (by rfl) (by first | rfl | simp [soR_cat])
      replace l3 := kp 3 _ l3 (by rfl) (by first | rfl | simp [soR_cat])
      exact F_36_29_ok ih K _ v1 v2 (v2.toNatClampNeg, 0) (nI 0) _ _ _ l0 l1 l2 l3 l4 R h
def F_36 (G : jG) (t : Nat) (v1 : (Nat × Nat)) (S : sS) : Option (Unit × sS) := jif (sex S.2.2.2.1 15 v1.1 v1.2) ((F_35 G t v1 (0, 5) (nI 0) (nI 16) S).bind (fun q2 => F_36_13 G t t v1 (nI 0) q2.2))
theorem F_36_ok {G : jG} {t : Nat} {v1 : (Nat × Nat)} {S : sS} {r : Unit} {S' : sS} {μ : jS} {Q : Option Value ⊕ Nat → jS → Prop} (R : sR S μ) (h : F_36 G t v1 S = some (r, S')) (K : ∀ μ', sR S' μ' → Q (srV r) μ') : jX G jP 36 0 (lv_args 0 [.ref (spl 8 0 0), .ref (spl 15 v1.1 v1.2)]) [] μ Q := by
  unfold F_36 at h
  have l0 : jld (lv_args 0 [.ref (spl 8 0 0), .ref (spl 15 v1.1 v1.2)]) 0 = some (.ref (spl 8 0 0)) := by rfl
  have l1 : jld (lv_args 0 [.ref (spl 8 0 0), .ref (spl 15 v1.1 v1.2)]) 1 = some (.ref (spl 15 v1.1 v1.2)) := by rfl
  generalize lv_args 0 [.ref (spl 8 0 0), .ref (spl 15 v1.1 v1.2)] = lv at *
  refine jX.lrn l1 (by rfl) (by rfl) (?_ : jX G jP 36 1 lv [.ref (spl 15 v1.1 v1.2)] μ Q)
  refine jX.lrn l0 (by rfl) (by rfl) (?_ : jX G jP 36 2 lv [.ref (spl 8 0 0), .ref (spl 15 v1.1 v1.2)] μ Q)
  refine jX.sg R (by rfl) (by rfl) (by rfl) (by rfl) (by rfl) (by rfl) (?_ : jX G jP 36 5 lv [.ref (spl 29 0 5), .ref (spl 15 v1.1 v1.2)] μ Q)
  refine jX.ic (v := nI 0) (n := 1) (by rfl) (by rfl) (by decide) (?_ : jX G jP 36 6 lv [.int (nI 0), .ref (spl 29 0 5), .ref (spl 15 v1.1 v1.2)] μ Q)
  refine jX.ic (v := nI 16) (n := 2) (by rfl) (by rfl) (by decide) (?_ : jX G jP 36 8 lv [.int (nI 16), .int (nI 0), .ref (spl 29 0 5), .ref (spl 15 v1.1 v1.2)] μ Q)
  obtain ⟨g1, h⟩ := jif_some h
  obtain ⟨q2, e2, h⟩ := sbd h
  refine jX.cv (by rfl) (by rfl) (by rfl) (by rfl) (by rfl) (by rfl) (by rfl) (R.rec g1 (by rfl)) (Nat.le_of_ble_eq_true rfl) (Nat.le_of_ble_eq_true rfl) (F_35_ok R e2 (fun μ R => ⟨rfl, (?_ : jX G jP 36 11 lv [] μ Q)⟩))
  refine jX.ic (v := nI 0) (n := 1) (by rfl) (by rfl) (by decide) (?_ : jX G jP 36 12 lv [.int (nI 0)] μ Q)
  refine jX.s1 (k := 2) (pc' := 13) (by rfl) (by rfl) (by rfl) (fun lv l2 kp => (?_ : jX G jP 36 13 lv [] μ Q))
  replace l0 := kp 0 _ l0 (by rfl) (by first | rfl | simp [soR_cat])
  replace l1 := kp 1 _ l1 (by rfl) (by first | rfl | simp [soR_cat])
  exact F_36_13_ok  K _ v1 (nI 0) _ _ _ l0 l1 l2 R h
/-! 37 StrandRuntime$Tracer.lookIntoOne([LStrandRuntime$Thing;)Z -/
def F_37 (G : jG) (t : Nat) (v0 : (Nat × Nat)) (S : sS) : Option (Int32 × sS) := jif (sex S.2.2.2.1 15 v0.1 v0.2) (bif jcmp .ne (S.1 15 v0.1 v0.2 2) 0 then (jif (sex (siI S 15 v0.1 v0.2 2 ((S.1 15 v0.1 v0.2 2) - (nI 1))).2.2.2.1 17 0 v0.2) (jif (jin ((siI S 15 v0.1 v0.2 2 ((S.1 15 v0.1 v0.2 2) - (nI 1))).1 15 v0.1 v0.2 2) 600) (jif (sex (siI S 15 v0.1 v0.2 2 ((S.1 15 v0.1 v0.2 2) - (nI 1))).2.2.2.1 16 0 v0.2) (jif (jin ((siI S 15 v0.1 v0.2 2 ((S.1 15 v0.1 v0.2 2) - (nI 1))).1 17 0 v0.2 ((siI S 15 v0.1 v0.2 2 ((S.1 15 v0.1 v0.2 2) - (nI 1))).1 15 v0.1 v0.2 2).toNatClampNeg) 600) (jif (jin ((siI S 15 v0.1 v0.2 2 ((S.1 15 v0.1 v0.2 2) - (nI 1))).1 17 0 v0.2 ((siI S 15 v0.1 v0.2 2 ((S.1 15 v0.1 v0.2 2) - (nI 1))).1 15 v0.1 v0.2 2).toNatClampNeg) 600) (sif (((siI (siI S 15 v0.1 v0.2 2 ((S.1 15 v0.1 v0.2 2) - (nI 1))) 16 0 v0.2 ((siI S 15 v0.1 v0.2 2 ((S.1 15 v0.1 v0.2 2) - (nI 1))).1 17 0 v0.2 ((siI S 15 v0.1 v0.2 2 ((S.1 15 v0.1 v0.2 2) - (nI 1))).1 15 v0.1 v0.2 2).toNatClampNeg).toNatClampNeg (nI 2)).2.2.1.2 ((siI S 15 v0.1 v0.2 2 ((S.1 15 v0.1 v0.2 2) - (nI 1))).1 17 0 v0.2 ((siI S 15 v0.1 v0.2 2 ((S.1 15 v0.1 v0.2 2) - (nI 1))).1 15 v0.1 v0.2 2).toNatClampNeg).toNatClampNeg).map fun p => (p, 0)) (some ((nI 1), (siI (siI S 15 v0.1 v0.2 2 ((S.1 15 v0.1 v0.2 2) - (nI 1))) 16 0 v0.2 ((siI S 15 v0.1 v0.2 2 ((S.1 15 v0.1 v0.2 2) - (nI 1))).1 17 0 v0.2 ((siI S 15 v0.1 v0.2 2 ((S.1 15 v0.1 v0.2 2) - (nI 1))).1 15 v0.1 v0.2 2).toNatClampNeg).toNatClampNeg (nI 2)))) (fun a7 => jif (sex (siI (siI S 15 v0.1 v0.2 2 ((S.1 15 v0.1 v0.2 2) - (nI 1))) 16 0 v0.2 ((siI S 15 v0.1 v0.2 2 ((S.1 15 v0.1 v0.2 2) - (nI 1))).1 17 0 v0.2 ((siI S 15 v0.1 v0.2 2 ((S.1 15 v0.1 v0.2 2) - (nI 1))).1 15 v0.1 v0.2 2).toNatClampNeg).toNatClampNeg (nI 2)).2.2.2.1 32 a7.1 a7.2) (bif jcmp .eq ((siI (siI S 15 v0.1 v0.2 2 ((S.1 15 v0.1 v0.2 2) - (nI 1))) 16 0 v0.2 ((siI S 15 v0.1 v0.2 2 ((S.1 15 v0.1 v0.2 2) - (nI 1))).1 17 0 v0.2 ((siI S 15 v0.1 v0.2 2 ((S.1 15 v0.1 v0.2 2) - (nI 1))).1 15 v0.1 v0.2 2).toNatClampNeg).toNatClampNeg (nI 2)).1 32 a7.1 a7.2 1) 0 then (some ((nI 1), (siI (siI S 15 v0.1 v0.2 2 ((S.1 15 v0.1 v0.2 2) - (nI 1))) 16 0 v0.2 ((siI S 15 v0.1 v0.2 2 ((S.1 15 v0.1 v0.2 2) - (nI 1))).1 17 0 v0.2 ((siI S 15 v0.1 v0.2 2 ((S.1 15 v0.1 v0.2 2) - (nI 1))).1 15 v0.1 v0.2 2).toNatClampNeg).toNatClampNeg (nI 2)))) else ((F_35 G t v0 (a7.1, 4) (nI 0) (nI 16) (siI (siI (siI (siI S 15 v0.1 v0.2 2 ((S.1 15 v0.1 v0.2 2) - (nI 1))) 16 0 v0.2 ((siI S 15 v0.1 v0.2 2 ((S.1 15 v0.1 v0.2 2) - (nI 1))).1 17 0 v0.2 ((siI S 15 v0.1 v0.2 2 ((S.1 15 v0.1 v0.2 2) - (nI 1))).1 15 v0.1 v0.2 2).toNatClampNeg).toNatClampNeg (nI 2)) 15 v0.1 v0.2 3 (((siI (siI S 15 v0.1 v0.2 2 ((S.1 15 v0.1 v0.2 2) - (nI 1))) 16 0 v0.2 ((siI S 15 v0.1 v0.2 2 ((S.1 15 v0.1 v0.2 2) - (nI 1))).1 17 0 v0.2 ((siI S 15 v0.1 v0.2 2 ((S.1 15 v0.1 v0.2 2) - (nI 1))).1 15 v0.1 v0.2 2).toNatClampNeg).toNatClampNeg (nI 2)).1 15 v0.1 v0.2 3) + (nI 1))) 15 v0.1 v0.2 4 (((siI (siI (siI S 15 v0.1 v0.2 2 ((S.1 15 v0.1 v0.2 2) - (nI 1))) 16 0 v0.2 ((siI S 15 v0.1 v0.2 2 ((S.1 15 v0.1 v0.2 2) - (nI 1))).1 17 0 v0.2 ((siI S 15 v0.1 v0.2 2 ((S.1 15 v0.1 v0.2 2) - (nI 1))).1 15 v0.1 v0.2 2).toNatClampNeg).toNatClampNeg (nI 2)) 15 v0.1 v0.2 3 (((siI (siI S 15 v0.1 v0.2 2 ((S.1 15 v0.1 v0.2 2) - (nI 1))) 16 0 v0.2 ((siI S 15 v0.1 v0.2 2 ((S.1 15 v0.1 v0.2 2) - (nI 1))).1 17 0 v0.2 ((siI S 15 v0.1 v0.2 2 ((S.1 15 v0.1 v0.2 2) - (nI 1))).1 15 v0.1 v0.2 2).toNatClampNeg).toNatClampNeg (nI 2)).1 15 v0.1 v0.2 3) + (nI 1))).1 15 v0.1 v0.2 4) + ((siI (siI (siI S 15 v0.1 v0.2 2 ((S.1 15 v0.1 v0.2 2) - (nI 1))) 16 0 v0.2 ((siI S 15 v0.1 v0.2 2 ((S.1 15 v0.1 v0.2 2) - (nI 1))).1 17 0 v0.2 ((siI S 15 v0.1 v0.2 2 ((S.1 15 v0.1 v0.2 2) - (nI 1))).1 15 v0.1 v0.2 2).toNatClampNeg).toNatClampNeg (nI 2)) 15 v0.1 v0.2 3 (((siI (siI S 15 v0.1 v0.2 2 ((S.1 15 v0.1 v0.2 2) - (nI 1))) 16 0 v0.2 ((siI S 15 v0.1 v0.2 2 ((S.1 15 v0.1 v0.2 2) - (nI 1))).1 17 0 v0.2 ((siI S 15 v0.1 v0.2 2 ((S.1 15 v0.1 v0.2 2) - (nI 1))).1 15 v0.1 v0.2 2).toNatClampNeg).toNatClampNeg (nI 2)).1 15 v0.1 v0.2 3) + (nI 1))).1 32 a7.1 a7.2 3)))).bind (fun q9 => some ((nI 1), q9.2))))))))))) else (some ((nI 0), S)))
theorem F_37_ok {G : jG} {t : Nat} {v0 : (Nat × Nat)} {S : sS} {r : Int32} {S' : sS} {μ : jS} {Q : Option Value ⊕ Nat → jS → Prop} (R : sR S μ) (h : F_37 G t v0 S = some (r, S')) (K : ∀ μ', sR S' μ' → Q (srI r) μ') : jX G jP 37 0 (lv_args 0 [.ref (spl 15 v0.1 v0.2), .ref (spl 12 0 0)]) [] μ Q := by
  unfold F_37 at h
  have l0 : jld (lv_args 0 [.ref (spl 15 v0.1 v0.2), .ref (spl 12 0 0)]) 0 = some (.ref (spl 15 v0.1 v0.2)) := by rfl
  have l1 : jld (lv_args 0 [.ref (spl 15 v0.1 v0.2), .ref (spl 12 0 0)]) 1 = some (.ref (spl 12 0 0)) := by rfl
  generalize lv_args 0 [.ref (spl 15 v0.1 v0.2), .ref (spl 12 0 0)] = lv at *
  refine jX.lrn l0 (by rfl) (by rfl) (?_ : jX G jP 37 1 lv [.ref (spl 15 v0.1 v0.2)] μ Q)
  obtain ⟨g1, h⟩ := jif_some h
  refine jX.sg R g1 (by rfl) (by rfl) (by rfl) (by rfl) (by rfl) (?_ : jX G jP 37 4 lv [.int (S.1 15 v0.1 v0.2 2)] μ Q)
  rcases bif_or h with ⟨hc, h⟩ | ⟨hc, h⟩
  · refine jX.b1t hc (by rfl) (by rfl) (by rfl) (?_ : jX G jP 37 9 lv [] μ Q)
    refine jX.lrn l0 (by rfl) (by rfl) (?_ : jX G jP 37 10 lv [.ref (spl 15 v0.1 v0.2)] μ Q)
    refine jX.go (by rfl) (by rfl) (by rfl) (?_ : jX G jP 37 11 lv [.ref (spl 15 v0.1 v0.2), .ref (spl 15 v0.1 v0.2)] μ Q)
    refine jX.sg R g1 (by rfl) (by rfl) (by rfl) (by rfl) (by rfl) (?_ : jX G jP 37 14 lv [.int (S.1 15 v0.1 v0.2 2), .ref (spl 15 v0.1 v0.2)] μ Q)
    refine jX.ic (v := nI 1) (n := 1) (by rfl) (by rfl) (by decide) (?_ : jX G jP 37 15 lv [.int (nI 1), .int (S.1 15 v0.1 v0.2 2), .ref (spl 15 v0.1 v0.2)] μ Q)
    refine jX.go (by rfl) (by rfl) (by rfl) (?_ : jX G jP 37 16 lv [.int ((S.1 15 v0.1 v0.2 2) - (nI 1)), .ref (spl 15 v0.1 v0.2)] μ Q)
    refine jX.spI R g1 (by rfl) (by rfl) (by rfl) (by rfl) (by rfl) (by rfl) (by rfl) (by rfl) (fun μ R => (?_ : jX G jP 37 19 lv [] μ Q))
    refine jX.lrn l0 (by rfl) (by rfl) (?_ : jX G jP 37 20 lv [.ref (spl 15 v0.1 v0.2)] μ Q)
    refine jX.sg R g1 (by rfl) (by rfl) (by rfl) (by rfl) (by rfl) (?_ : jX G jP 37 23 lv [.ref (spl 17 0 v0.2)] μ Q)
    refine jX.lrn l0 (by rfl) (by rfl) (?_ : jX G jP 37 24 lv [.ref (spl 15 v0.1 v0.2), .ref (spl 17 0 v0.2)] μ Q)
    refine jX.sg R g1 (by rfl) (by rfl) (by rfl) (by rfl) (by rfl) (?_ : jX G jP 37 27 lv [.int ((siI S 15 v0.1 v0.2 2 ((S.1 15 v0.1 v0.2 2) - (nI 1))).1 15 v0.1 v0.2 2), .ref (spl 17 0 v0.2)] μ Q)
    obtain ⟨g2, h⟩ := jif_some h
    obtain ⟨g3, h⟩ := jif_some h
    refine jX.sai R g2 (by rfl) (by rfl) (by rfl) g3 (?_ : jX G jP 37 28 lv [.int ((siI S 15 v0.1 v0.2 2 ((S.1 15 v0.1 v0.2 2) - (nI 1))).1 17 0 v0.2 ((siI S 15 v0.1 v0.2 2 ((S.1 15 v0.1 v0.2 2) - (nI 1))).1 15 v0.1 v0.2 2).toNatClampNeg)] μ Q)
    refine jX.s1 (k := 2) (pc' := 29) (by rfl) (by rfl) (by rfl) (fun lv l2 kp => (?_ : jX G jP 37 29 lv [] μ Q))
    replace l0 := kp 0 _ l0 (by rfl) (by first | rfl | simp [soR_cat])
    replace l1 := kp 1 _ l1 (by rfl) (by first | rfl | simp [soR_cat])
    refine jX.lrn l0 (by rfl) (by rfl) (?_ : jX G jP 37 30 lv [.ref (spl 15 v0.1 v0.2)] μ Q)
    refine jX.sg R g1 (by rfl) (by rfl) (by rfl) (by rfl) (by rfl) (?_ : jX G jP 37 33 lv [.ref (spl 16 0 v0.2)] μ Q)
    refine jX.lin l2 (by rfl) (by rfl) (?_ : jX G jP 37 34 lv [.int ((siI S 15 v0.1 v0.2 2 ((S.1 15 v0.1 v0.2 2) - (nI 1))).1 17 0 v0.2 ((siI S 15 v0.1 v0.2 2 ((S.1 15 v0.1 v0.2 2) - (nI 1))).1 15 v0.1 v0.2 2).toNatClampNeg), .ref (spl 16 0 v0.2)] μ Q)
    refine jX.ic (v := nI 2) (n := 1) (by rfl) (by rfl) (by decide) (?_ : jX G jP 37 35 lv [.int (nI 2), .int ((siI S 15 v0.1 v0.2 2 ((S.1 15 v0.1 v0.2 2) - (nI 1))).1 17 0 v0.2 ((siI S 15 v0.1 v0.2 2 ((S.1 15 v0.1 v0.2 2) - (nI 1))).1 15 v0.1 v0.2 2).toNatClampNeg), .ref (spl 16 0 v0.2)] μ Q)
    obtain ⟨g4, h⟩ := jif_some h
    obtain ⟨g5, h⟩ := jif_some h
    refine jX.sti R g4 (by rfl) (by rfl) (fun _ => by rfl) g5 (fun μ R => (?_ : jX G jP 37 36 lv [] μ Q))
    refine jX.lrn l1 (by rfl) (by rfl) (?_ : jX G jP 37 37 lv [.ref (spl 12 0 0)] μ Q)
    refine jX.lin l2 (by rfl) (by rfl) (?_ : jX G jP 37 38 lv [.int ((siI S 15 v0.1 v0.2 2 ((S.1 15 v0.1 v0.2 2) - (nI 1))).1 17 0 v0.2 ((siI S 15 v0.1 v0.2 2 ((S.1 15 v0.1 v0.2 2) - (nI 1))).1 15 v0.1 v0.2 2).toNatClampNeg), .ref (spl 12 0 0)] μ Q)
    obtain ⟨g6, h⟩ := jif_some h
    refine jX.sar R (by rfl) (by rfl) (by rfl) (by rfl) g6 (srf_32 _) (?_ : jX G jP 37 39 lv [soR 32 (((siI (siI S 15 v0.1 v0.2 2 ((S.1 15 v0.1 v0.2 2) - (nI 1))) 16 0 v0.2 ((siI S 15 v0.1 v0.2 2 ((S.1 15 v0.1 v0.2 2) - (nI 1))).1 17 0 v0.2 ((siI S 15 v0.1 v0.2 2 ((S.1 15 v0.1 v0.2 2) - (nI 1))).1 15 v0.1 v0.2 2).toNatClampNeg).toNatClampNeg (nI 2)).2.2.1.2 ((siI S 15 v0.1 v0.2 2 ((S.1 15 v0.1 v0.2 2) - (nI 1))).1 17 0 v0.2 ((siI S 15 v0.1 v0.2 2 ((S.1 15 v0.1 v0.2 2) - (nI 1))).1 15 v0.1 v0.2 2).toNatClampNeg).toNatClampNeg).map fun p => (p, 0))] μ Q)
    refine jX.so (k := 3) (pc' := 40) (by rfl) (by rfl) (fun _ => by rfl) (by rfl) (fun lv l3 kp => (?_ : jX G jP 37 40 lv [] μ Q))
    replace l0 := kp 0 _ l0 (by rfl) (by first | rfl | simp [soR_cat])
    refine jX.lon l3 (by rfl) (by rfl) (?_ : jX G jP 37 41 lv [soR 32 (((siI (siI S 15 v0.1 v0.2 2 ((S.1 15 v0.1 v0.2 2) - (nI 1))) 16 0 v0.2 ((siI S 15 v0.1 v0.2 2 ((S.1 15 v0.1 v0.2 2) - (nI 1))).1 17 0 v0.2 ((siI S 15 v0.1 v0.2 2 ((S.1 15 v0.1 v0.2 2) - (nI 1))).1 15 v0.1 v0.2 2).toNatClampNeg).toNatClampNeg (nI 2)).2.2.1.2 ((siI S 15 v0.1 v0.2 2 ((S.1 15 v0.1 v0.2 2) - (nI 1))).1 17 0 v0.2 ((siI S 15 v0.1 v0.2 2 ((S.1 15 v0.1 v0.2 2) - (nI 1))).1 15 v0.1 v0.2 2).toNatClampNeg).toNatClampNeg).map fun p => (p, 0))] μ Q)
    rcases sif_or h with ⟨e7, h⟩ | ⟨a7, e7, h⟩
    · rw [soR_none (t := 32) e7]
      rw [soR_none (t := 32) e7] at l3
      refine jX.go (by rfl) (by rfl) (by rfl) (?_ : jX G jP 37 85 lv [] μ Q)
      refine jX.ic (v := nI 1) (n := 1) (by rfl) (by rfl) (by decide) (?_ : jX G jP 37 86 lv [.int (nI 1)] μ Q)
      exact jX.ret (by rfl) (by rfl) (by rfl) (by rfl) (sretv (f := srI) h K R)
    · rw [soR_some (t := 32) e7]
      rw [soR_some (t := 32) e7] at l3
      refine jX.go (by rfl) (by rfl) (by rfl) (?_ : jX G jP 37 44 lv [] μ Q)
      refine jX.lrn l3 (by rfl) (by rfl) (?_ : jX G jP 37 45 lv [.ref (spl 32 a7.1 a7.2)] μ Q)
      obtain ⟨g8, h⟩ := jif_some h
      refine jX.sg R g8 (by rfl) (by rfl) (by rfl) (by rfl) (by rfl) (?_ : jX G jP 37 48 lv [.int ((siI (siI S 15 v0.1 v0.2 2 ((S.1 15 v0.1 v0.2 2) - (nI 1))) 16 0 v0.2 ((siI S 15 v0.1 v0.2 2 ((S.1 15 v0.1 v0.2 2) - (nI 1))).1 17 0 v0.2 ((siI S 15 v0.1 v0.2 2 ((S.1 15 v0.1 v0.2 2) - (nI 1))).1 15 v0.1 v0.2 2).toNatClampNeg).toNatClampNeg (nI 2)).1 32 a7.1 a7.2 1)] μ Q)
      rcases bif_or h with ⟨hc, h⟩ | ⟨hc, h⟩
      · refine jX.b1t hc (by rfl) (by rfl) (by rfl) (?_ : jX G jP 37 85 lv [] μ Q)
        refine jX.ic (v := nI 1) (n := 1) (by rfl) (by rfl) (by decide) (?_ : jX G jP 37 86 lv [.int (nI 1)] μ Q)
        exact jX.ret (by rfl) (by rfl) (by rfl) (by rfl) (sretv (f := srI) h K R)
      · refine jX.b1f hc (by rfl) (by rfl) (by rfl) (?_ : jX G jP 37 51 lv [] μ Q)
        refine jX.lrn l0 (by rfl) (by rfl) (?_ : jX G jP 37 52 lv [.ref (spl 15 v0.1 v0.2)] μ Q)
        refine jX.go (by rfl) (by rfl) (by rfl) (?_ : jX G jP 37 53 lv [.ref (spl 15 v0.1 v0.2), .ref (spl 15 v0.1 v0.2)] μ Q)
        refine jX.sg R g1 (by rfl) (by rfl) (by rfl) (by rfl) (by rfl) (?_ : jX G jP 37 56 lv [.int ((siI (siI S 15 v0.1 v0.2 2 ((S.1 15 v0.1 v0.2 2) - (nI 1))) 16 0 v0.2 ((siI S 15 v0.1 v0.2 2 ((S.1 15 v0.1 v0.2 2) - (nI 1))).1 17 0 v0.2 ((siI S 15 v0.1 v0.2 2 ((S.1 15 v0.1 v0.2 2) - (nI 1))).1 15 v0.1 v0.2 2).toNatClampNeg).toNatClampNeg (nI 2)).1 15 v0.1 v0.2 3), .ref (spl 15 v0.1 v0.2)] μ Q)
        refine jX.ic (v := nI 1) (n := 1) (by rfl) (by rfl) (by decide) (?_ : jX G jP 37 57 lv [.int (nI 1), .int ((siI (siI S 15 v0.1 v0.2 2 ((S.1 15 v0.1 v0.2 2) - (nI 1))) 16 0 v0.2 ((siI S 15 v0.1 v0.2 2 ((S.1 15 v0.1 v0.2 2) - (nI 1))).1 17 0 v0.2 ((siI S 15 v0.1 v0.2 2 ((S.1 15 v0.1 v0.2 2) - (nI 1))).1 15 v0.1 v0.2 2).toNatClampNeg).toNatClampNeg (nI 2)).1 15 v0.1 v0.2 3), .ref (spl 15 v0.1 v0.2)] μ Q)
        refine jX.go (by rfl) (by rfl) (by rfl) (?_ : jX G jP 37 58 lv [.int (((siI (siI S 15 v0.1 v0.2 2 ((S.1 15 v0.1 v0.2 2) - (nI 1))) 16 0 v0.2 ((siI S 15 v0.1 v0.2 2 ((S.1 15 v0.1 v0.2 2) - (nI 1))).1 17 0 v0.2 ((siI S 15 v0.1 v0.2 2 ((S.1 15 v0.1 v0.2 2) - (nI 1))).1 15 v0.1 v0.2 2).toNatClampNeg).toNatClampNeg (nI 2)).1 15 v0.1 v0.2 3) + (nI 1)), .ref (spl 15 v0.1 v0.2)] μ Q)
        refine jX.spI R g1 (by rfl) (by rfl) (by rfl) (by rfl) (by rfl) (by rfl) (by rfl) (by rfl) (fun μ R => (?_ : jX G jP 37 61 lv [] μ Q))
        refine jX.lrn l0 (by rfl) (by rfl) (?_ : jX G jP 37 62 lv [.ref (spl 15 v0.1 v0.2)] μ Q)
        refine jX.go (by rfl) (by rfl) (by rfl) (?_ : jX G jP 37 63 lv [.ref (spl 15 v0.1 v0.2), .ref (spl 15 v0.1 v0.2)] μ Q)
        refine jX.sg R g1 (by rfl) (by rfl) (by rfl) (by rfl) (by rfl) (?_ : jX G jP 37 66 lv [.int ((siI (siI (siI S 15 v0.1 v0.2 2 ((S.1 15 v0.1 v0.2 2) - (nI 1))) 16 0 v0.2 ((siI S 15 v0.1 v0.2 2 ((S.1 15 v0.1 v0.2 2) - (nI 1))).1 17 0 v0.2 ((siI S 15 v0.1 v0.2 2 ((S.1 15 v0.1 v0.2 2) - (nI 1))).1 15 v0.1 v0.2 2).toNatClampNeg).toNatClampNeg (nI 2)) 15 v0.1 v0.2 3 (((siI (siI S 15 v0.1 v0.2 2 ((S.1 15 v0.1 v0.2 2) - (nI 1))) 16 0 v0.2 ((siI S 15 v0.1 v0.2 2 ((S.1 15 v0.1 v0.2 2) - (nI 1))).1 17 0 v0.2 ((siI S 15 v0.1 v0.2 2 ((S.1 15 v0.1 v0.2 2) - (nI 1))).1 15 v0.1 v0.2 2).toNatClampNeg).toNatClampNeg (nI 2)).1 15 v0.1 v0.2 3) + (nI 1))).1 15 v0.1 v0.2 4), .ref (spl 15 v0.1 v0.2)] μ Q)
        refine jX.lrn l3 (by rfl) (by rfl) (?_ : jX G jP 37 67 lv [.ref (spl 32 a7.1 a7.2), .int ((siI (siI (siI S 15 v0.1 v0.2 2 ((S.1 15 v0.1 v0.2 2) - (nI 1))) 16 0 v0.2 ((siI S 15 v0.1 v0.2 2 ((S.1 15 v0.1 v0.2 2) - (nI 1))).1 17 0 v0.2 ((siI S 15 v0.1 v0.2 2 ((S.1 15 v0.1 v0.2 2) - (nI 1))).1 15 v0.1 v0.2 2).toNatClampNeg).toNatClampNeg (nI 2)) 15 v0.1 v0.2 3 (((siI (siI S 15 v0.1 v0.2 2 ((S.1 15 v0.1 v0.2 2) - (nI 1))) 16 0 v0.2 ((siI S 15 v0.1 v0.2 2 ((S.1 15 v0.1 v0.2 2) - (nI 1))).1 17 0 v0.2 ((siI S 15 v0.1 v0.2 2 ((S.1 15 v0.1 v0.2 2) - (nI 1))).1 15 v0.1 v0.2 2).toNatClampNeg).toNatClampNeg (nI 2)).1 15 v0.1 v0.2 3) + (nI 1))).1 15 v0.1 v0.2 4), .ref (spl 15 v0.1 v0.2)] μ Q)
        refine jX.sg R g8 (by rfl) (by rfl) (by rfl) (by rfl) (by rfl) (?_ : jX G jP 37 70 lv [.int ((siI (siI (siI S 15 v0.1 v0.2 2 ((S.1 15 v0.1 v0.2 2) - (nI 1))) 16 0 v0.2 ((siI S 15 v0.1 v0.2 2 ((S.1 15 v0.1 v0.2 2) - (nI 1))).1 17 0 v0.2 ((siI S 15 v0.1 v0.2 2 ((S.1 15 v0.1 v0.2 2) - (nI 1))).1 15 v0.1 v0.2 2).toNatClampNeg).toNatClampNeg (nI 2)) 15 v0.1 v0.2 3 (((siI (siI S 15 v0.1 v0.2 2 ((S.1 15 v0.1 v0.2 2) - (nI 1))) 16 0 v0.2 ((siI S 15 v0.1 v0.2 2 ((S.1 15 v0.1 v0.2 2) - (nI 1))).1 17 0 v0.2 ((siI S 15 v0.1 v0.2 2 ((S.1 15 v0.1 v0.2 2) - (nI 1))).1 15 v0.1 v0.2 2).toNatClampNeg).toNatClampNeg (nI 2)).1 15 v0.1 v0.2 3) + (nI 1))).1 32 a7.1 a7.2 3), .int ((siI (siI (siI S 15 v0.1 v0.2 2 ((S.1 15 v0.1 v0.2 2) - (nI 1))) 16 0 v0.2 ((siI S 15 v0.1 v0.2 2 ((S.1 15 v0.1 v0.2 2) - (nI 1))).1 17 0 v0.2 ((siI S 15 v0.1 v0.2 2 ((S.1 15 v0.1 v0.2 2) - (nI 1))).1 15 v0.1 v0.2 2).toNatClampNeg).toNatClampNeg (nI 2)) 15 v0.1 v0.2 3 (((siI (siI S 15 v0.1 v0.2 2 ((S.1 15 v0.1 v0.2 2) - (nI 1))) 16 0 v0.2 ((siI S 15 v0.1 v0.2 2 ((S.1 15 v0.1 v0.2 2) - (nI 1))).1 17 0 v0.2 ((siI S 15 v0.1 v0.2 2 ((S.1 15 v0.1 v0.2 2) - (nI 1))).1 15 v0.1 v0.2 2).toNatClampNeg).toNatClampNeg (nI 2)).1 15 v0.1 v0.2 3) + (nI 1))).1 15 v0.1 v0.2 4), .ref (spl 15 v0.1 v0.2)] μ Q)
        refine jX.go (by rfl) (by rfl) (by rfl) (?_ : jX G jP 37 71 lv [.int (((siI (siI (siI S 15 v0.1 v0.2 2 ((S.1 15 v0.1 v0.2 2) - (nI 1))) 16 0 v0.2 ((siI S 15 v0.1 v0.2 2 ((S.1 15 v0.1 v0.2 2) - (nI 1))).1 17 0 v0.2 ((siI S 15 v0.1 v0.2 2 ((S.1 15 v0.1 v0.2 2) - (nI 1))).1 15 v0.1 v0.2 2).toNatClampNeg).toNatClampNeg (nI 2)) 15 v0.1 v0.2 3 (((siI (siI S 15 v0.1 v0.2 2 ((S.1 15 v0.1 v0.2 2) - (nI 1))) 16 0 v0.2 ((siI S 15 v0.1 v0.2 2 ((S.1 15 v0.1 v0.2 2) - (nI 1))).1 17 0 v0.2 ((siI S 15 v0.1 v0.2 2 ((S.1 15 v0.1 v0.2 2) - (nI 1))).1 15 v0.1 v0.2 2).toNatClampNeg).toNatClampNeg (nI 2)).1 15 v0.1 v0.2 3) + (nI 1))).1 15 v0.1 v0.2 4) + ((siI (siI (siI S 15 v0.1 v0.2 2 ((S.1 15 v0.1 v0.2 2) - (nI 1))) 16 0 v0.2 ((siI S 15 v0.1 v0.2 2 ((S.1 15 v0.1 v0.2 2) - (nI 1))).1 17 0 v0.2 ((siI S 15 v0.1 v0.2 2 ((S.1 15 v0.1 v0.2 2) - (nI 1))).1 15 v0.1 v0.2 2).toNatClampNeg).toNatClampNeg (nI 2)) 15 v0.1 v0.2 3 (((siI (siI S 15 v0.1 v0.2 2 ((S.1 15 v0.1 v0.2 2) - (nI 1))) 16 0 v0.2 ((siI S 15 v0.1 v0.2 2 ((S.1 15 v0.1 v0.2 2) - (nI 1))).1 17 0 v0.2 ((siI S 15 v0.1 v0.2 2 ((S.1 15 v0.1 v0.2 2) - (nI 1))).1 15 v0.1 v0.2 2).toNatClampNeg).toNatClampNeg (nI 2)).1 15 v0.1 v0.2 3) + (nI 1))).1 32 a7.1 a7.2 3)), .ref (spl 15 v0.1 v0.2)] μ Q)
        refine jX.spI R g1 (by rfl) (by rfl) (by rfl) (by rfl) (by rfl) (by rfl) (by rfl) (by rfl) (fun μ R => (?_ : jX G jP 37 74 lv [] μ Q))
        refine jX.lrn l0 (by rfl) (by rfl) (?_ : jX G jP 37 75 lv [.ref (spl 15 v0.1 v0.2)] μ Q)
        refine jX.lrn l3 (by rfl) (by rfl) (?_ : jX G jP 37 76 lv [.ref (spl 32 a7.1 a7.2), .ref (spl 15 v0.1 v0.2)] μ Q)
        refine jX.sg R g8 (by rfl) (by rfl) (by rfl) (by rfl) (by rfl) (?_ : jX G jP 37 79 lv [.ref (spl 29 a7.1 4), .ref (spl 15 v0.1 v0.2)] μ Q)
        refine jX.ic (v := nI 0) (n := 1) (by rfl) (by rfl) (by decide) (?_ : jX G jP 37 80 lv [.int (nI 0), .ref (spl 29 a7.1 4), .ref (spl 15 v0.1 v0.2)] μ Q)
        refine jX.ic (v := nI 16) (n := 2) (by rfl) (by rfl) (by decide) (?_ : jX G jP 37 82 lv [.int (nI 16), .int (nI 0), .ref (spl 29 a7.1 4), .ref (spl 15 v0.1 v0.2)] μ Q)
        obtain ⟨q9, e9, h⟩ := sbd h
        refine jX.cv (by rfl) (by rfl) (by rfl) (by rfl) (by rfl) (by rfl) (by rfl) (R.rec g1 (by rfl)) (Nat.le_of_ble_eq_true rfl) (Nat.le_of_ble_eq_true rfl) (F_35_ok R e9 (fun μ R => ⟨rfl, (?_ : jX G jP 37 85 lv [] μ Q)⟩))
        refine jX.ic (v := nI 1) (n := 1) (by rfl) (by rfl) (by decide) (?_ : jX G jP 37 86 lv [.int (nI 1)] μ Q)
        exact jX.ret (by rfl) (by rfl) (by rfl) (by rfl) (sretv (f := srI) h K R)
  · refine jX.b1f hc (by rfl) (by rfl) (by rfl) (?_ : jX G jP 37 7 lv [] μ Q)
    refine jX.ic (v := nI 0) (n := 1) (by rfl) (by rfl) (by decide) (?_ : jX G jP 37 8 lv [.int (nI 0)] μ Q)
    exact jX.ret (by rfl) (by rfl) (by rfl) (by rfl) (sretv (f := srI) h K R)
/-! 38 StrandRuntime$Tracer.lookIntoAll([LStrandRuntime$Thing;)V -/
def F_38_2 (G : jG) (t : Nat) : Nat → (Nat × Nat) → Int32 → sS → Option (Unit × sS)
  | 0 => fun _ _ _ => none
  | tt + 1 => fun v0 v2 S => bif jcmp .gt v2 (nI 600) then (some ((), S)) else (jif (sex S.2.2.2.1 15 v0.1 v0.2) ((F_37 G t v0 S).bind (fun q2 => bif jcmp .eq q2.1 0 then (some ((), q2.2)) else (F_38_2 G t tt v0 (v2 + Int32.ofInt 1) q2.2))))
theorem F_38_2_ok {G : jG} {t : Nat} {r : Unit} {S' : sS} {Q : Option Value ⊕ Nat → jS → Prop} (K : ∀ μ', sR S' μ' → Q (srV r) μ') : ∀ tt : Nat, ∀ (v0 : (Nat × Nat)) (v2 : Int32) (S : sS) (lv : jL) (μ : jS), jld lv 0 = some (.ref (spl 15 v0.1 v0.2)) → jld lv 1 = some (.ref (spl 12 0 0)) → jld lv 2 = some (.int v2) → sR S μ → F_38_2 G t tt v0 v2 S = some (r, S') → jX G jP 38 2 lv [] μ Q := by
  intro tt
  induction tt with
  | zero =>
    intro v0 v2 S lv μ l0 l1 l2 R h
    rw [F_38_2] at h
    cases h
  | succ tt ih =>
    intro v0 v2 S lv μ l0 l1 l2 R h
    rw [F_38_2] at h
    refine jX.lin l2 (by rfl) (by rfl) (?_ : jX G jP 38 3 lv [.int v2] μ Q)
    refine jX.ic (v := nI 600) (n := 3) (by rfl) (by rfl) (by decide) (?_ : jX G jP 38 6 lv [.int (nI 600), .int v2] μ Q)
    rcases bif_or h with ⟨hc, h⟩ | ⟨hc, h⟩
    · refine jX.b2t hc (by rfl) (by rfl) (by rfl) (?_ : jX G jP 38 23 lv [] μ Q)
      exact jX.ret (by rfl) (by rfl) (by rfl) (by rfl) (sretv (f := srV) h K R)
    · refine jX.b2f hc (by rfl) (by rfl) (by rfl) (?_ : jX G jP 38 9 lv [] μ Q)
      refine jX.lrn l0 (by rfl) (by rfl) (?_ : jX G jP 38 10 lv [.ref (spl 15 v0.1 v0.2)] μ Q)
      refine jX.lrn l1 (by rfl) (by rfl) (?_ : jX G jP 38 11 lv [.ref (spl 12 0 0), .ref (spl 15 v0.1 v0.2)] μ Q)
      obtain ⟨g1, h⟩ := jif_some h
      obtain ⟨q2, e2, h⟩ := sbd h
      refine jX.c1 (v := .int q2.1) (by rfl) (by rfl) (by rfl) (by rfl) (by rfl) (by rfl) (by rfl) (R.rec g1 (by rfl)) (Nat.le_of_ble_eq_true rfl) (Nat.le_of_ble_eq_true rfl) (F_37_ok R e2 (fun μ R => ⟨rfl, (?_ : jX G jP 38 14 lv [.int q2.1] μ Q)⟩))
      rcases bif_or h with ⟨hc, h⟩ | ⟨hc, h⟩
      · refine jX.b1t hc (by rfl) (by rfl) (by rfl) (?_ : jX G jP 38 23 lv [] μ Q)
        exact jX.ret (by rfl) (by rfl) (by rfl) (by rfl) (sretv (f := srV) h K R)
      · refine jX.b1f hc (by rfl) (by rfl) (by rfl) (?_ : jX G jP 38 17 lv [] μ Q)
        refine jX.inc l2 (by rfl) (by rfl) (by rfl) (fun lv l2 kp => (?_ : jX G jP 38 20 lv [] μ Q))
        replace l0 := kp 0 _ l0 (by rfl) (by first | rfl | simp [soR_cat])
        replace l1 := kp 1 _ l1 (by rfl) (by first | rfl | simp [soR_cat])
        refine jX.go (by rfl) (by rfl) (by rfl) (?_ : jX G jP 38 2 lv [] μ Q)
        exact ih v0 (v2 + Int32.ofInt 1) _ _ _ l0 l1 l2 R h
def F_38 (G : jG) (t : Nat) (v0 : (Nat × Nat)) (S : sS) : Option (Unit × sS) := F_38_2 G t t v0 (nI 0) S
theorem F_38_ok {G : jG} {t : Nat} {v0 : (Nat × Nat)} {S : sS} {r : Unit} {S' : sS} {μ : jS} {Q : Option Value ⊕ Nat → jS → Prop} (R : sR S μ) (h : F_38 G t v0 S = some (r, S')) (K : ∀ μ', sR S' μ' → Q (srV r) μ') : jX G jP 38 0 (lv_args 0 [.ref (spl 15 v0.1 v0.2), .ref (spl 12 0 0)]) [] μ Q := by
  unfold F_38 at h
  have l0 : jld (lv_args 0 [.ref (spl 15 v0.1 v0.2), .ref (spl 12 0 0)]) 0 = some (.ref (spl 15 v0.1 v0.2)) := by rfl
  have l1 : jld (lv_args 0 [.ref (spl 15 v0.1 v0.2), .ref (spl 12 0 0)]) 1 = some (.ref (spl 12 0 0)) := by rfl
  generalize lv_args 0 [.ref (spl 15 v0.1 v0.2), .ref (spl 12 0 0)] = lv at *
  refine jX.ic (v := nI 0) (n := 1) (by rfl) (by rfl) (by decide) (?_ : jX G jP 38 1 lv [.int (nI 0)] μ Q)
  refine jX.s1 (k := 2) (pc' := 2) (by rfl) (by rfl) (by rfl) (fun lv l2 kp => (?_ : jX G jP 38 2 lv [] μ Q))
  replace l0 := kp 0 _ l0 (by rfl) (by first | rfl | simp [soR_cat])
  replace l1 := kp 1 _ l1 (by rfl) (by first | rfl | simp [soR_cat])
  exact F_38_2_ok  K _ v0 (nI 0) _ _ _ l0 l1 l2 R h
/-! 39 StrandRuntime$Heap.reachWhole()V -/
def F_39 (G : jG) (t : Nat) (S : sS) : Option (Unit × sS) := (F_9 G t (0, 1) S).bind (fun q1 => (F_36 G t (0, 1) q1.2).bind (fun q2 => (F_38 G t (0, 1) q2.2).bind (fun q3 => some ((), q3.2))))
theorem F_39_ok {G : jG} {t : Nat} {S : sS} {r : Unit} {S' : sS} {μ : jS} {Q : Option Value ⊕ Nat → jS → Prop} (R : sR S μ) (h : F_39 G t S = some (r, S')) (K : ∀ μ', sR S' μ' → Q (srV r) μ') : jX G jP 39 0 (lv_args 0 [.ref (spl 11 0 0)]) [] μ Q := by
  unfold F_39 at h
  have l0 : jld (lv_args 0 [.ref (spl 11 0 0)]) 0 = some (.ref (spl 11 0 0)) := by rfl
  generalize lv_args 0 [.ref (spl 11 0 0)] = lv at *
  refine jX.lrn l0 (by rfl) (by rfl) (?_ : jX G jP 39 1 lv [.ref (spl 11 0 0)] μ Q)
  refine jX.sg R (by rfl) (by rfl) (by rfl) (by rfl) (by rfl) (by rfl) (?_ : jX G jP 39 4 lv [.ref (spl 15 0 1)] μ Q)
  obtain ⟨q1, e1, h⟩ := sbd h
  refine jX.cv (by rfl) (by rfl) (by rfl) (by rfl) (by rfl) (by rfl) (by rfl) (R.rec (by rfl) (by rfl)) (Nat.le_of_ble_eq_true rfl) (Nat.le_of_ble_eq_true rfl) (F_9_ok R e1 (fun μ R => ⟨rfl, (?_ : jX G jP 39 7 lv [] μ Q)⟩))
  refine jX.lrn l0 (by rfl) (by rfl) (?_ : jX G jP 39 8 lv [.ref (spl 11 0 0)] μ Q)
  refine jX.sg R (by rfl) (by rfl) (by rfl) (by rfl) (by rfl) (by rfl) (?_ : jX G jP 39 11 lv [.ref (spl 8 0 0)] μ Q)
  refine jX.lrn l0 (by rfl) (by rfl) (?_ : jX G jP 39 12 lv [.ref (spl 11 0 0), .ref (spl 8 0 0)] μ Q)
  refine jX.sg R (by rfl) (by rfl) (by rfl) (by rfl) (by rfl) (by rfl) (?_ : jX G jP 39 15 lv [.ref (spl 15 0 1), .ref (spl 8 0 0)] μ Q)
  obtain ⟨q2, e2, h⟩ := sbd h
  refine jX.cv (by rfl) (by rfl) (by rfl) (by rfl) (by rfl) (by rfl) (by rfl) (R.rec (by rfl) (by rfl)) (Nat.le_of_ble_eq_true rfl) (Nat.le_of_ble_eq_true rfl) (F_36_ok R e2 (fun μ R => ⟨rfl, (?_ : jX G jP 39 18 lv [] μ Q)⟩))
  refine jX.lrn l0 (by rfl) (by rfl) (?_ : jX G jP 39 19 lv [.ref (spl 11 0 0)] μ Q)
  refine jX.sg R (by rfl) (by rfl) (by rfl) (by rfl) (by rfl) (by rfl) (?_ : jX G jP 39 22 lv [.ref (spl 15 0 1)] μ Q)
  refine jX.lrn l0 (by rfl) (by rfl) (?_ : jX G jP 39 23 lv [.ref (spl 11 0 0), .ref (spl 15 0 1)] μ Q)
  refine jX.sg R (by rfl) (by rfl) (by rfl) (by rfl) (by rfl) (by rfl) (?_ : jX G jP 39 26 lv [.ref (spl 12 0 0), .ref (spl 15 0 1)] μ Q)
  obtain ⟨q3, e3, h⟩ := sbd h
  refine jX.cv (by rfl) (by rfl) (by rfl) (by rfl) (by rfl) (by rfl) (by rfl) (R.rec (by rfl) (by rfl)) (Nat.le_of_ble_eq_true rfl) (Nat.le_of_ble_eq_true rfl) (F_38_ok R e3 (fun μ R => ⟨rfl, (?_ : jX G jP 39 29 lv [] μ Q)⟩))
  exact jX.ret (by rfl) (by rfl) (by rfl) (by rfl) (sretv (f := srV) h K R)
/-! 40 StrandRuntime$Heap.faultsOfPlaces()I -/
def F_40_122 (G : jG) (t : Nat) (k45 : Int32 → Int32 → Int32 → sS → Option (Int32 × sS)) (v1 : Int32) (v2 : Int32) (v3 : Int32) (S : sS) : Option (Int32 × sS) := k45 v1 v2 (v3 + Int32.ofInt 1) S
theorem F_40_122_ok {G : jG} {t : Nat} {k45 : Int32 → Int32 → Int32 → sS → Option (Int32 × sS)} {r : Int32} {S' : sS} {Q : Option Value ⊕ Nat → jS → Prop} (hk45 : ∀ (v1 : Int32) (v2 : Int32) (v3 : Int32) (S : sS) (lv : jL) (μ : jS), jld lv 0 = some (.ref (spl 11 0 0)) → jld lv 1 = some (.int v1) → jld lv 2 = some (.int v2) → jld lv 3 = some (.int v3) → sR S μ → k45 v1 v2 v3 S = some (r, S') → jX G jP 40 45 lv [] μ Q) (K : ∀ μ', sR S' μ' → Q (srI r) μ') : ∀ (v1 : Int32) (v2 : Int32) (v3 : Int32) (S : sS) (lv : jL) (μ : jS), jld lv 0 = some (.ref (spl 11 0 0)) → jld lv 1 = some (.int v1) → jld lv 2 = some (.int v2) → jld lv 3 = some (.int v3) → sR S μ → F_40_122 G t k45 v1 v2 v3 S = some (r, S') → jX G jP 40 122 lv [] μ Q := by
  intro v1 v2 v3 S lv μ l0 l1 l2 l3 R h
  unfold F_40_122 at h
  refine jX.inc l3 (by rfl) (by rfl) (by rfl) (fun lv l3 kp => (?_ : jX G jP 40 125 lv [] μ Q))
  replace l0 := kp 0 _ l0 (by rfl) (by first | rfl | simp [soR_cat])
  replace l1 := kp 1 _ l1 (by rfl) (by first | rfl | simp [soR_cat])
  replace l2 := kp 2 _ l2 (by rfl) (by first | rfl | simp [soR_cat])
  refine jX.go (by rfl) (by rfl) (by rfl) (?_ : jX G jP 40 45 lv [] μ Q)
  exact hk45 v1 v2 (v3 + Int32.ofInt 1) _ _ _ l0 l1 l2 l3 R h
def F_40_109 (G : jG) (t : Nat) (k45 : Int32 → Int32 → Int32 → sS → Option (Int32 × sS)) (v1 : Int32) (v2 : Int32) (v3 : Int32) (S : sS) : Option (Int32 × sS) := jif (jin v3 600) (bif jcmp .eq (S.1 14 0 0 v3.toNatClampNeg) (nI 1) then (F_40_122 G t k45 v1 v2 v3 S) else (F_40_122 G t k45 (v1 + Int32.ofInt 1) v2 v3 S))
theorem F_40_109_ok {G : jG} {t : Nat} {k45 : Int32 → Int32 → Int32 → sS → Option (Int32 × sS)} {r : Int32} {S' : sS} {Q : Option Value ⊕ Nat → jS → Prop} (hk45 : ∀ (v1 : Int32) (v2 : Int32) (v3 : Int32) (S : sS) (lv : jL) (μ : jS), jld lv 0 = some (.ref (spl 11 0 0)) → jld lv 1 = some (.int v1) → jld lv 2 = some (.int v2) → jld lv 3 = some (.int v3) → sR S μ → k45 v1 v2 v3 S = some (r, S') → jX G jP 40 45 lv [] μ Q) (K : ∀ μ', sR S' μ' → Q (srI r) μ') : ∀ (v1 : Int32) (v2 : Int32) (v3 : Int32) (S : sS) (lv : jL) (μ : jS), jld lv 0 = some (.ref (spl 11 0 0)) → jld lv 1 = some (.int v1) → jld lv 2 = some (.int v2) → jld lv 3 = some (.int v3) → sR S μ → F_40_109 G t k45 v1 v2 v3 S = some (r, S') → jX G jP 40 109 lv [] μ Q := by
  intro v1 v2 v3 S lv μ l0 l1 l2 l3 R h
  unfold F_40_109 at h
  refine jX.lrn l0 (by rfl) (by rfl) (?_ : jX G jP 40 110 lv [.ref (spl 11 0 0)] μ Q)
  refine jX.sg R (by rfl) (by rfl) (by rfl) (by rfl) (by rfl) (by rfl) (?_ : jX G jP 40 113 lv [.ref (spl 14 0 0)] μ Q)
  refine jX.lin l3 (by rfl) (by rfl) (?_ : jX G jP 40 114 lv [.int v3, .ref (spl 14 0 0)] μ Q)
  obtain ⟨g1, h⟩ := jif_some h
  refine jX.sai R (by rfl) (by rfl) (by rfl) (by rfl) g1 (?_ : jX G jP 40 115 lv [.int (S.1 14 0 0 v3.toNatClampNeg)] μ Q)
  refine jX.ic (v := nI 1) (n := 1) (by rfl) (by rfl) (by decide) (?_ : jX G jP 40 116 lv [.int (nI 1), .int (S.1 14 0 0 v3.toNatClampNeg)] μ Q)
  rcases bif_or h with ⟨hc, h⟩ | ⟨hc, h⟩
  · refine jX.b2t hc (by rfl) (by rfl) (by rfl) (?_ : jX G jP 40 122 lv [] μ Q)
    exact F_40_122_ok hk45 K v1 v2 v3 _ _ _ l0 l1 l2 l3 R h
  · refine jX.b2f hc (by rfl) (by rfl) (by rfl) (?_ : jX G jP 40 119 lv [] μ Q)
    refine jX.inc l1 (by rfl) (by rfl) (by rfl) (fun lv l1 kp => (?_ : jX G jP 40 122 lv [] μ Q))
    replace l0 := kp 0 _ l0 (by rfl) (by first | rfl | simp [soR_cat])
    replace l2 := kp 2 _ l2 (by rfl) (by first | rfl | simp [soR_cat])
    replace l3 := kp 3 _ l3 (by rfl) (by first | rfl | simp [soR_cat])
    exact F_40_122_ok hk45 K (v1 + Int32.ofInt 1) v2 v3 _ _ _ l0 l1 l2 l3 R h
def F_40_94 (G : jG) (t : Nat) (k45 : Int32 → Int32 → Int32 → sS → Option (Int32 × sS)) (v1 : Int32) (v2 : Int32) (v3 : Int32) (S : sS) : Option (Int32 × sS) := jif (jin v3 600) (bif jcmp .eq (S.1 16 0 1 v3.toNatClampNeg) 0 then (F_40_109 G t k45 v1 v2 v3 S) else (F_40_109 G t k45 (v1 + Int32.ofInt 1) v2 v3 S))
theorem F_40_94_ok {G : jG} {t : Nat} {k45 : Int32 → Int32 → Int32 → sS → Option (Int32 × sS)} {r : Int32} {S' : sS} {Q : Option Value ⊕ Nat → jS → Prop} (hk45 : ∀ (v1 : Int32) (v2 : Int32) (v3 : Int32) (S : sS) (lv : jL) (μ : jS), jld lv 0 = some (.ref (spl 11 0 0)) → jld lv 1 = some (.int v1) → jld lv 2 = some (.int v2) → jld lv 3 = some (.int v3) → sR S μ → k45 v1 v2 v3 S = some (r, S') → jX G jP 40 45 lv [] μ Q) (K : ∀ μ', sR S' μ' → Q (srI r) μ') : ∀ (v1 : Int32) (v2 : Int32) (v3 : Int32) (S : sS) (lv : jL) (μ : jS), jld lv 0 = some (.ref (spl 11 0 0)) → jld lv 1 = some (.int v1) → jld lv 2 = some (.int v2) → jld lv 3 = some (.int v3) → sR S μ → F_40_94 G t k45 v1 v2 v3 S = some (r, S') → jX G jP 40 94 lv [] μ Q := by
  intro v1 v2 v3 S lv μ l0 l1 l2 l3 R h
  unfold F_40_94 at h
  refine jX.lrn l0 (by rfl) (by rfl) (?_ : jX G jP 40 95 lv [.ref (spl 11 0 0)] μ Q)
  refine jX.sg R (by rfl) (by rfl) (by rfl) (by rfl) (by rfl) (by rfl) (?_ : jX G jP 40 98 lv [.ref (spl 15 0 1)] μ Q)
  refine jX.sg R (by rfl) (by rfl) (by rfl) (by rfl) (by rfl) (by rfl) (?_ : jX G jP 40 101 lv [.ref (spl 16 0 1)] μ Q)
  refine jX.lin l3 (by rfl) (by rfl) (?_ : jX G jP 40 102 lv [.int v3, .ref (spl 16 0 1)] μ Q)
  obtain ⟨g1, h⟩ := jif_some h
  refine jX.sai R (by rfl) (by rfl) (by rfl) (by rfl) g1 (?_ : jX G jP 40 103 lv [.int (S.1 16 0 1 v3.toNatClampNeg)] μ Q)
  rcases bif_or h with ⟨hc, h⟩ | ⟨hc, h⟩
  · refine jX.b1t hc (by rfl) (by rfl) (by rfl) (?_ : jX G jP 40 109 lv [] μ Q)
    exact F_40_109_ok hk45 K v1 v2 v3 _ _ _ l0 l1 l2 l3 R h
  · refine jX.b1f hc (by rfl) (by rfl) (by rfl) (?_ : jX G jP 40 106 lv [] μ Q)
    refine jX.inc l1 (by rfl) (by rfl) (by rfl) (fun lv l1 kp => (?_ : jX G jP 40 109 lv [] μ Q))
    replace l0 := kp 0 _ l0 (by rfl) (by first | rfl | simp [soR_cat])
    replace l2 := kp 2 _ l2 (by rfl) (by first | rfl | simp [soR_cat])
    replace l3 := kp 3 _ l3 (by rfl) (by first | rfl | simp [soR_cat])
    exact F_40_109_ok hk45 K (v1 + Int32.ofInt 1) v2 v3 _ _ _ l0 l1 l2 l3 R h
def F_40_45 (G : jG) (t : Nat) : Nat → Int32 → Int32 → Int32 → sS → Option (Int32 × sS)
  | 0 => fun _ _ _ _ => none
  | tt + 1 => fun v1 v2 v3 S => bif jcmp .ge v3 (nI 600) then (bif jcmp .ne v2 (S.1 11 0 0 9) then (some ((v1 + (nI 1)), S)) else (some (v1, S))) else (jif (jin v3 600) (sif ((S.2.2.1.2 v3.toNatClampNeg).map fun p => (p, 0)) (F_40_94 G t (F_40_45 G t tt) v1 v2 v3 S) (fun a2 => jif (sex S.2.2.2.1 32 a2.1 a2.2) (bif jcmp .eq (S.1 32 a2.1 a2.2 1) 0 then (F_40_94 G t (F_40_45 G t tt) v1 v2 v3 S) else (jif (jin v3 600) (jif (jin v3 600) (F_40_109 G t (F_40_45 G t tt) v1 (v2 + ((siI S 14 0 0 v3.toNatClampNeg ((S.1 14 0 0 v3.toNatClampNeg) + (nI 1))).1 32 a2.1 a2.2 3)) v3 (siI S 14 0 0 v3.toNatClampNeg ((S.1 14 0 0 v3.toNatClampNeg) + (nI 1))))))))))
theorem F_40_45_ok {G : jG} {t : Nat} {r : Int32} {S' : sS} {Q : Option Value ⊕ Nat → jS → Prop} (K : ∀ μ', sR S' μ' → Q (srI r) μ') : ∀ tt : Nat, ∀ (v1 : Int32) (v2 : Int32) (v3 : Int32) (S : sS) (lv : jL) (μ : jS), jld lv 0 = some (.ref (spl 11 0 0)) → jld lv 1 = some (.int v1) → jld lv 2 = some (.int v2) → jld lv 3 = some (.int v3) → sR S μ → F_40_45 G t tt v1 v2 v3 S = some (r, S') → jX G jP 40 45 lv [] μ Q := by
  intro tt
  induction tt with
  | zero =>
    intro v1 v2 v3 S lv μ l0 l1 l2 l3 R h
    rw [F_40_45] at h
    cases h
  | succ tt ih =>
    intro v1 v2 v3 S lv μ l0 l1 l2 l3 R h
    rw [F_40_45] at h
    refine jX.lin l3 (by rfl) (by rfl) (?_ : jX G jP 40 46 lv [.int v3] μ Q)
    refine jX.ic (v := nI 600) (n := 3) (by rfl) (by rfl) (by decide) (?_ : jX G jP 40 49 lv [.int (nI 600), .int v3] μ Q)
    rcases bif_or h with ⟨hc, h⟩ | ⟨hc, h⟩
    · refine jX.b2t hc (by rfl) (by rfl) (by rfl) (?_ : jX G jP 40 128 lv [] μ Q)
      refine jX.lin l2 (by rfl) (by rfl) (?_ : jX G jP 40 129 lv [.int v2] μ Q)
      refine jX.lrn l0 (by rfl) (by rfl) (?_ : jX G jP 40 130 lv [.ref (spl 11 0 0), .int v2] μ Q)
      refine jX.sg R (by rfl) (by rfl) (by rfl) (by rfl) (by rfl) (by rfl) (?_ : jX G jP 40 133 lv [.int (S.1 11 0 0 9), .int v2] μ Q)
      rcases bif_or h with ⟨hc, h⟩ | ⟨hc, h⟩
      · refine jX.b2t hc (by rfl) (by rfl) (by rfl) (?_ : jX G jP 40 140 lv [] μ Q)
        refine jX.lin l1 (by rfl) (by rfl) (?_ : jX G jP 40 141 lv [.int v1] μ Q)
        refine jX.ic (v := nI 1) (n := 1) (by rfl) (by rfl) (by decide) (?_ : jX G jP 40 142 lv [.int (nI 1), .int v1] μ Q)
        refine jX.go (by rfl) (by rfl) (by rfl) (?_ : jX G jP 40 143 lv [.int (v1 + (nI 1))] μ Q)
        exact jX.ret (by rfl) (by rfl) (by rfl) (by rfl) (sretv (f := srI) h K R)
      · refine jX.b2f hc (by rfl) (by rfl) (by rfl) (?_ : jX G jP 40 136 lv [] μ Q)
        refine jX.lin l1 (by rfl) (by rfl) (?_ : jX G jP 40 137 lv [.int v1] μ Q)
        refine jX.go (by rfl) (by rfl) (by rfl) (?_ : jX G jP 40 143 lv [.int v1] μ Q)
        exact jX.ret (by rfl) (by rfl) (by rfl) (by rfl) (sretv (f := srI) h K R)
    · refine jX.b2f hc (by rfl) (by rfl) (by rfl) (?_ : jX G jP 40 52 lv [] μ Q)
      refine jX.lrn l0 (by rfl) (by rfl) (?_ : jX G jP 40 53 lv [.ref (spl 11 0 0)] μ Q)
      refine jX.sg R (by rfl) (by rfl) (by rfl) (by rfl) (by rfl) (by rfl) (?_ : jX G jP 40 56 lv [.ref (spl 12 0 0)] μ Q)
      refine jX.lin l3 (by rfl) (by rfl) (?_ : jX G jP 40 57 lv [.int v3, .ref (spl 12 0 0)] μ Q)
      obtain ⟨g1, h⟩ := jif_some h
      refine jX.sar R (by rfl) (by rfl) (by rfl) (by rfl) g1 (srf_32 _) (?_ : jX G jP 40 58 lv [soR 32 ((S.2.2.1.2 v3.toNatClampNeg).map fun p => (p, 0))] μ Q)
      refine jX.so (k := 4) (pc' := 60) (by rfl) (by rfl) (fun _ => by rfl) (by rfl) (fun lv l4 kp => (?_ : jX G jP 40 60 lv [] μ Q))
      replace l0 := kp 0 _ l0 (by rfl) (by first | rfl | simp [soR_cat])
      replace l1 := kp 1 _ l1 (by rfl) (by first | rfl | simp [soR_cat])
      replace l2 := kp 2 _ l2 (by rfl) (by first | rfl | simp [soR_cat])
      replace l3 := kp 3 _ l3 (by rfl) (by first | rfl | simp [soR_cat])
      refine jX.lo l4 (by rfl) (by rfl) (?_ : jX G jP 40 62 lv [soR 32 ((S.2.2.1.2 v3.toNatClampNeg).map fun p => (p, 0))] μ Q)
      rcases sif_or h with ⟨e2, h⟩ | ⟨a2, e2, h⟩
      · rw [soR_none (t := 32) e2]
        rw [soR_none (t := 32) e2] at l4
        refine jX.go (by rfl) (by rfl) (by rfl) (?_ : jX G jP 40 94 lv [] μ Q)
        exact F_40_94_ok ih K v1 v2 v3 _ _ _ l0 l1 l2 l3 R h
      · rw [soR_some (t := 32) e2]
        rw [soR_some (t := 32) e2] at l4
        refine jX.go (by rfl) (by rfl) (by rfl) (?_ : jX G jP 40 65 lv [] μ Q)
        refine jX.lr l4 (by rfl) (by rfl) (?_ : jX G jP 40 67 lv [.ref (spl 32 a2.1 a2.2)] μ Q)
        obtain ⟨g3, h⟩ := jif_some h
        refine jX.sg R g3 (by rfl) (by rfl) (by rfl) (by rfl) (by rfl) (?_ : jX G jP 40 70 lv [.int (S.1 32 a2.1 a2.2 1)] μ Q)
        rcases bif_or h with ⟨hc, h⟩ | ⟨hc, h⟩
        · refine jX.b1t hc (by rfl) (by rfl) (by rfl) (?_ : jX G jP 40 94 lv [] μ Q)
          exact F_40_94_ok ih K v1 v2 v3 _ _ _ l0 l1 l2 l3 R h
        · refine jX.b1f hc (by rfl) (by rfl) (by rfl) (?_ : jX G jP 40 73 lv [] μ Q)
          refine jX.lrn l0 (by rfl) (by rfl) (?_ : jX G jP 40 74 lv [.ref (spl 11 0 0)] μ Q)
          refine jX.sg R (by rfl) (by rfl) (by rfl) (by rfl) (by rfl) (by rfl) (?_ : jX G jP 40 77 lv [.ref (spl 14 0 0)] μ Q)
          refine jX.lin l3 (by rfl) (by rfl) (?_ : jX G jP 40 78 lv [.int v3, .ref (spl 14 0 0)] μ Q)
          refine jX.go (by rfl) (by rfl) (by rfl) (?_ : jX G jP 40 79 lv [.int v3, .ref (spl 14 0 0), .int v3, .ref (spl 14 0 0)] μ Q)
          obtain ⟨g4, h⟩ := jif_some h
          refine jX.sai R (by rfl) (by rfl) (by rfl) (by rfl) g4 (?_ : jX G jP 40 80 lv [.int (S.1 14 0 0 v3.toNatClampNeg), .int v3, .ref (spl 14 0 0)] μ Q)
          refine jX.ic (v := nI 1) (n := 1) (by rfl) (by rfl) (by decide) (?_ : jX G jP 40 81 lv [.int (nI 1), .int (S.1 14 0 0 v3.toNatClampNeg), .int v3, .ref (spl 14 0 0)] μ Q)
          refine jX.go (by rfl) (by rfl) (by rfl) (?_ : jX G jP 40 82 lv [.int ((S.1 14 0 0 v3.toNatClampNeg) + (nI 1)), .int v3, .ref (spl 14 0 0)] μ Q)
          obtain ⟨g5, h⟩ := jif_some h
          refine jX.sti R (by rfl) (by rfl) (by rfl) (fun _ => by rfl) g5 (fun μ R => (?_ : jX G jP 40 83 lv [] μ Q))
          refine jX.lin l2 (by rfl) (by rfl) (?_ : jX G jP 40 84 lv [.int v2] μ Q)
          refine jX.lr l4 (by rfl) (by rfl) (?_ : jX G jP 40 86 lv [.ref (spl 32 a2.1 a2.2), .int v2] μ Q)
          refine jX.sg R g3 (by rfl) (by rfl) (by rfl) (by rfl) (by rfl) (?_ : jX G jP 40 89 lv [.int ((siI S 14 0 0 v3.toNatClampNeg ((S.1 14 0 0 v3.toNatClampNeg) + (nI 1))).1 32 a2.1 a2.2 3), .int v2] μ Q)
          refine jX.go (by rfl) (by rfl) (by rfl) (?_ : jX G jP 40 90 lv [.int (v2 + ((siI S 14 0 0 v3.toNatClampNeg ((S.1 14 0 0 v3.toNatClampNeg) + (nI 1))).1 32 a2.1 a2.2 3))] μ Q)
          refine jX.s1 (k := 2) (pc' := 91) (by rfl) (by rfl) (by rfl) (fun lv l2 kp => (?_ : jX G jP 40 91 lv [] μ Q))
          replace l0 := kp 0 _ l0 (by rfl) (by first | rfl | simp [soR_cat])
          replace l1 := kp 1 _ l1 (by rfl) (by first | rfl | simp [soR_cat])
          replace l3 := kp 3 _ l3 (by rfl) (by first | rfl | simp [soR_cat])
          refine jX.go (by rfl) (by rfl) (by rfl) (?_ : jX G jP 40 109 lv [] μ Q)
          exact F_40_109_ok ih K v1 (v2 + ((siI S 14 0 0 v3.toNatClampNeg ((S.1 14 0 0 v3.toNatClampNeg) + (nI 1))).1 32 a2.1 a2.2 3)) v3 _ _ _ l0 l1 l2 l3 R h
def F_40_10 (G : jG) (t : Nat) : Nat → Int32 → sS → Option (Int32 × sS)
  | 0 => fun _ _ => none
  | tt + 1 => fun v1 S => bif jcmp .ge v1 (S.1 11 0 0 7) then (F_40_45 G t t (nI 0) (nI 0) (nI 0) S) else (jif (jin v1 600) (jif (jin (S.1 13 0 0 v1.toNatClampNeg) 600) (jif (jin (S.1 13 0 0 v1.toNatClampNeg) 600) (F_40_10 G t tt (v1 + Int32.ofInt 1) (siI S 14 0 0 (S.1 13 0 0 v1.toNatClampNeg).toNatClampNeg ((S.1 14 0 0 (S.1 13 0 0 v1.toNatClampNeg).toNatClampNeg) + (nI 1)))))))
theorem F_40_10_ok {G : jG} {t : Nat} {r : Int32} {S' : sS} {Q : Option Value ⊕ Nat → jS → Prop} (K : ∀ μ', sR S' μ' → Q (srI r) μ') : ∀ tt : Nat, ∀ (v1 : Int32) (S : sS) (lv : jL) (μ : jS), jld lv 0 = some (.ref (spl 11 0 0)) → jld lv 1 = some (.int v1) → sR S μ → F_40_10 G t tt v1 S = some (r, S') → jX G jP 40 10 lv [] μ Q := by
  intro tt
  induction tt with
  | zero =>
    intro v1 S lv μ l0 l1 R h
    rw [F_40_10] at h
    cases h
  | succ tt ih =>
    intro v1 S lv μ l0 l1 R h
    rw [F_40_10] at h
    refine jX.lin l1 (by rfl) (by rfl) (?_ : jX G jP 40 11 lv [.int v1] μ Q)
    refine jX.lrn l0 (by rfl) (by rfl) (?_ : jX G jP 40 12 lv [.ref (spl 11 0 0), .int v1] μ Q)
    refine jX.sg R (by rfl) (by rfl) (by rfl) (by rfl) (by rfl) (by rfl) (?_ : jX G jP 40 15 lv [.int (S.1 11 0 0 7), .int v1] μ Q)
    rcases bif_or h with ⟨hc, h⟩ | ⟨hc, h⟩
    · refine jX.b2t hc (by rfl) (by rfl) (by rfl) (?_ : jX G jP 40 39 lv [] μ Q)
      refine jX.ic (v := nI 0) (n := 1) (by rfl) (by rfl) (by decide) (?_ : jX G jP 40 40 lv [.int (nI 0)] μ Q)
      refine jX.s1 (k := 1) (pc' := 41) (by rfl) (by rfl) (by rfl) (fun lv l1 kp => (?_ : jX G jP 40 41 lv [] μ Q))
      replace l0 := kp 0 _ l0 (by rfl) (by first | rfl | simp [soR_cat])
      refine jX.ic (v := nI 0) (n := 1) (by rfl) (by rfl) (by decide) (?_ : jX G jP 40 42 lv [.int (nI 0)] μ Q)
      refine jX.s1 (k := 2) (pc' := 43) (by rfl) (by rfl) (by rfl) (fun lv l2 kp => (?_ : jX G jP 40 43 lv [] μ Q))
      replace l0 := kp 0 _ l0 (by rfl) (by first | rfl | simp [soR_cat])
      replace l1 := kp 1 _ l1 (by rfl) (by first | rfl | simp [soR_cat])
      refine jX.ic (v := nI 0) (n := 1) (by rfl) (by rfl) (by decide) (?_ : jX G jP 40 44 lv [.int (nI 0)] μ Q)
      refine jX.s1 (k := 3) (pc' := 45) (by rfl) (by rfl) (by rfl) (fun lv l3 kp => (?_ : jX G jP 40 45 lv [] μ Q))
      replace l0 := kp 0 _ l0 (by rfl) (by first | rfl | simp [soR_cat])
      replace l1 := kp 1 _ l1 (by rfl) (by first | rfl | simp [soR_cat])
      replace l2 := kp 2 _ l2 (by rfl) (by first | rfl | simp [soR_cat])
      exact F_40_45_ok  K _ (nI 0) (nI 0) (nI 0) _ _ _ l0 l1 l2 l3 R h
    · refine jX.b2f hc (by rfl) (by rfl) (by rfl) (?_ : jX G jP 40 18 lv [] μ Q)
      refine jX.lrn l0 (by rfl) (by rfl) (?_ : jX G jP 40 19 lv [.ref (spl 11 0 0)] μ Q)
      refine jX.sg R (by rfl) (by rfl) (by rfl) (by rfl) (by rfl) (by rfl) (?_ : jX G jP 40 22 lv [.ref (spl 14 0 0)] μ Q)
      refine jX.lrn l0 (by rfl) (by rfl) (?_ : jX G jP 40 23 lv [.ref (spl 11 0 0), .ref (spl 14 0 0)] μ Q)
      refine jX.sg R (by rfl) (by rfl) (by rfl) (by rfl) (by rfl) (by rfl) (?_ : jX G jP 40 26 lv [.ref (spl 13 0 0), .ref (spl 14 0 0)] μ Q)
      refine jX.lin l1 (by rfl) (by rfl) (?_ : jX G jP 40 27 lv [.int v1, .ref (spl 13 0 0), .ref (spl 14 0 0)] μ Q)
      obtain ⟨g1, h⟩ := jif_some h
      refine jX.sai R (by rfl) (by rfl) (by rfl) (by rfl) g1 (?_ : jX G jP 40 28 lv [.int (S.1 13 0 0 v1.toNatClampNeg), .ref (spl 14 0 0)] μ Q)
      refine jX.go (by rfl) (by rfl) (by rfl) (?_ : jX G jP 40 29 lv [.int (S.1 13 0 0 v1.toNatClampNeg), .ref (spl 14 0 0), .int (S.1 13 0 0 v1.toNatClampNeg), .ref (spl 14 0 0)] μ Q)
      obtain ⟨g2, h⟩ := jif_some h
      refine jX.sai R (by rfl) (by rfl) (by rfl) (by rfl) g2 (?_ : jX G jP 40 30 lv [.int (S.1 14 0 0 (S.1 13 0 0 v1.toNatClampNeg).toNatClampNeg), .int (S.1 13 0 0 v1.toNatClampNeg), .ref (spl 14 0 0)] μ Q)
      refine jX.ic (v := nI 1) (n := 1) (by rfl) (by rfl) (by decide) (?_ : jX G jP 40 31 lv [.int (nI 1), .int (S.1 14 0 0 (S.1 13 0 0 v1.toNatClampNeg).toNatClampNeg), .int (S.1 13 0 0 v1.toNatClampNeg), .ref (spl 14 0 0)] μ Q)
      refine jX.go (by rfl) (by rfl) (by rfl) (?_ : jX G jP 40 32 lv [.int ((S.1 14 0 0 (S.1 13 0 0 v1.toNatClampNeg).toNatClampNeg) + (nI 1)), .int (S.1 13 0 0 v1.toNatClampNeg), .ref (spl 14 0 0)] μ Q)
      obtain ⟨g3, h⟩ := jif_some h
      refine jX.sti R (by rfl) (by rfl) (by rfl) (fun _ => by rfl) g3 (fun μ R => (?_ : jX G jP 40 33 lv [] μ Q))
      refine jX.inc l1 (by rfl) (by rfl) (by rfl) (fun lv l1 kp => (?_ : jX G jP 40 36 lv [] μ Q))
      replace l0 := kp 0 _ l0 (by rfl) (by first | rfl | simp [soR_cat])
      refine jX.go (by rfl) (by rfl) (by rfl) (?_ : jX G jP 40 10 lv [] μ Q)
      exact ih (v1 + Int32.ofInt 1) _ _ _ l0 l1 R h
def F_40 (G : jG) (t : Nat) (S : sS) : Option (Int32 × sS) := (F_8 G t (14, 0, 0) (nI 0) S).bind (fun q1 => F_40_10 G t t (nI 0) q1.2)
theorem F_40_ok {G : jG} {t : Nat} {S : sS} {r : Int32} {S' : sS} {μ : jS} {Q : Option Value ⊕ Nat → jS → Prop} (R : sR S μ) (h : F_40 G t S = some (r, S')) (K : ∀ μ', sR S' μ' → Q (srI r) μ') : jX G jP 40 0 (lv_args 0 [.ref (spl 11 0 0)]) [] μ Q := by
  unfold F_40 at h
  have l0 : jld (lv_args 0 [.ref (spl 11 0 0)]) 0 = some (.ref (spl 11 0 0)) := by rfl
  generalize lv_args 0 [.ref (spl 11 0 0)] = lv at *
  refine jX.lrn l0 (by rfl) (by rfl) (?_ : jX G jP 40 1 lv [.ref (spl 11 0 0)] μ Q)
  refine jX.sg R (by rfl) (by rfl) (by rfl) (by rfl) (by rfl) (by rfl) (?_ : jX G jP 40 4 lv [.ref (spl 14 0 0)] μ Q)
  refine jX.ic (v := nI 0) (n := 1) (by rfl) (by rfl) (by decide) (?_ : jX G jP 40 5 lv [.int (nI 0), .ref (spl 14 0 0)] μ Q)
  obtain ⟨q1, e1, h⟩ := sbd h
  refine jX.cv (by rfl) (by rfl) (by rfl) (by rfl) (by rfl) (by rfl) (by rfl) (by rfl) (Nat.le_of_ble_eq_true rfl) (Nat.le_of_ble_eq_true rfl) (F_8_ok R e1 (fun μ R => ⟨rfl, (?_ : jX G jP 40 8 lv [] μ Q)⟩))
  refine jX.ic (v := nI 0) (n := 1) (by rfl) (by rfl) (by decide) (?_ : jX G jP 40 9 lv [.int (nI 0)] μ Q)
  refine jX.s1 (k := 1) (pc' := 10) (by rfl) (by rfl) (by rfl) (fun lv l1 kp => (?_ : jX G jP 40 10 lv [] μ Q))
  replace l0 := kp 0 _ l0 (by rfl) (by first | rfl | simp [soR_cat])
  exact F_40_10_ok  K _ (nI 0) _ _ _ l0 l1 R h
/-! 41 StrandRuntime$Tracer.becomeLike(LStrandRuntime$Tracer;)V -/
def F_41 (G : jG) (t : Nat) (v0 : (Nat × Nat)) (v1 : (Nat × Nat)) (S : sS) : Option (Unit × sS) := jif (sex S.2.2.2.1 15 v1.1 v1.2) (jif (sex S.2.2.2.1 15 v0.1 v0.2) (jif (sex S.2.2.2.1 16 0 v1.2) (jif (sex S.2.2.2.1 16 0 v0.2) (jif (decide (¬ (nI 0) < 0 ∧ ¬ (nI 0) < 0 ∧ ¬ (nI 600) < 0 ∧ (nI 0).toNatClampNeg + (nI 600).toNatClampNeg ≤ 600 ∧ (nI 0).toNatClampNeg + (nI 600).toNatClampNeg ≤ 600)) (jif (sex (saI S 16 0 v0.2 (va_cpy (S.1 16 0 v1.2) (S.1 16 0 v0.2) (nI 0).toNatClampNeg (nI 0).toNatClampNeg (nI 600).toNatClampNeg)).2.2.2.1 17 0 v1.2) (jif (sex (saI S 16 0 v0.2 (va_cpy (S.1 16 0 v1.2) (S.1 16 0 v0.2) (nI 0).toNatClampNeg (nI 0).toNatClampNeg (nI 600).toNatClampNeg)).2.2.2.1 17 0 v0.2) (jif (decide (¬ (nI 0) < 0 ∧ ¬ (nI 0) < 0 ∧ ¬ (nI 600) < 0 ∧ (nI 0).toNatClampNeg + (nI 600).toNatClampNeg ≤ 600 ∧ (nI 0).toNatClampNeg + (nI 600).toNatClampNeg ≤ 600)) (some ((), (siI (saI (saI S 16 0 v0.2 (va_cpy (S.1 16 0 v1.2) (S.1 16 0 v0.2) (nI 0).toNatClampNeg (nI 0).toNatClampNeg (nI 600).toNatClampNeg)) 17 0 v0.2 (va_cpy ((saI S 16 0 v0.2 (va_cpy (S.1 16 0 v1.2) (S.1 16 0 v0.2) (nI 0).toNatClampNeg (nI 0).toNatClampNeg (nI 600).toNatClampNeg)).1 17 0 v1.2) ((saI S 16 0 v0.2 (va_cpy (S.1 16 0 v1.2) (S.1 16 0 v0.2) (nI 0).toNatClampNeg (nI 0).toNatClampNeg (nI 600).toNatClampNeg)).1 17 0 v0.2) (nI 0).toNatClampNeg (nI 0).toNatClampNeg (nI 600).toNatClampNeg)) 15 v0.1 v0.2 2 ((saI (saI S 16 0 v0.2 (va_cpy (S.1 16 0 v1.2) (S.1 16 0 v0.2) (nI 0).toNatClampNeg (nI 0).toNatClampNeg (nI 600).toNatClampNeg)) 17 0 v0.2 (va_cpy ((saI S 16 0 v0.2 (va_cpy (S.1 16 0 v1.2) (S.1 16 0 v0.2) (nI 0).toNatClampNeg (nI 0).toNatClampNeg (nI 600).toNatClampNeg)).1 17 0 v1.2) ((saI S 16 0 v0.2 (va_cpy (S.1 16 0 v1.2) (S.1 16 0 v0.2) (nI 0).toNatClampNeg (nI 0).toNatClampNeg (nI 600).toNatClampNeg)).1 17 0 v0.2) (nI 0).toNatClampNeg (nI 0).toNatClampNeg (nI 600).toNatClampNeg)).1 15 v1.1 v1.2 2)))))))))))
theorem F_41_ok {G : jG} {t : Nat} {v0 : (Nat × Nat)} {v1 : (Nat × Nat)} {S : sS} {r : Unit} {S' : sS} {μ : jS} {Q : Option Value ⊕ Nat → jS → Prop} (R : sR S μ) (h : F_41 G t v0 v1 S = some (r, S')) (K : ∀ μ', sR S' μ' → Q (srV r) μ') : jX G jP 41 0 (lv_args 0 [.ref (spl 15 v0.1 v0.2), .ref (spl 15 v1.1 v1.2)]) [] μ Q := by
  unfold F_41 at h
  have l0 : jld (lv_args 0 [.ref (spl 15 v0.1 v0.2), .ref (spl 15 v1.1 v1.2)]) 0 = some (.ref (spl 15 v0.1 v0.2)) := by rfl
  have l1 : jld (lv_args 0 [.ref (spl 15 v0.1 v0.2), .ref (spl 15 v1.1 v1.2)]) 1 = some (.ref (spl 15 v1.1 v1.2)) := by rfl
  generalize lv_args 0 [.ref (spl 15 v0.1 v0.2), .ref (spl 15 v1.1 v1.2)] = lv at *
  refine jX.lrn l1 (by rfl) (by rfl) (?_ : jX G jP 41 1 lv [.ref (spl 15 v1.1 v1.2)] μ Q)
  obtain ⟨g1, h⟩ := jif_some h
  refine jX.sg R g1 (by rfl) (by rfl) (by rfl) (by rfl) (by rfl) (?_ : jX G jP 41 4 lv [.ref (spl 16 0 v1.2)] μ Q)
  refine jX.ic (v := nI 0) (n := 1) (by rfl) (by rfl) (by decide) (?_ : jX G jP 41 5 lv [.int (nI 0), .ref (spl 16 0 v1.2)] μ Q)
  refine jX.lrn l0 (by rfl) (by rfl) (?_ : jX G jP 41 6 lv [.ref (spl 15 v0.1 v0.2), .int (nI 0), .ref (spl 16 0 v1.2)] μ Q)
  obtain ⟨g2, h⟩ := jif_some h
  refine jX.sg R g2 (by rfl) (by rfl) (by rfl) (by rfl) (by rfl) (?_ : jX G jP 41 9 lv [.ref (spl 16 0 v0.2), .int (nI 0), .ref (spl 16 0 v1.2)] μ Q)
  refine jX.ic (v := nI 0) (n := 1) (by rfl) (by rfl) (by decide) (?_ : jX G jP 41 10 lv [.int (nI 0), .ref (spl 16 0 v0.2), .int (nI 0), .ref (spl 16 0 v1.2)] μ Q)
  refine jX.ic (v := nI 600) (n := 3) (by rfl) (by rfl) (by decide) (?_ : jX G jP 41 13 lv [.int (nI 600), .int (nI 0), .ref (spl 16 0 v0.2), .int (nI 0), .ref (spl 16 0 v1.2)] μ Q)
  obtain ⟨g3, h⟩ := jif_some h
  obtain ⟨g4, h⟩ := jif_some h
  obtain ⟨g5, h⟩ := jif_some h
  refine jX.cpI (t := 16) (a := 0) (b := v1.2) (t' := 16) (a' := 0) (b' := v0.2) R g3 g4 (by rfl) (by rfl) (by rfl) (by rfl) (by rfl) (by rfl) (by rfl) (by rfl) (Nat.le_of_ble_eq_true rfl) (fun _ => by rfl) (fun _ => by rfl) g5 (fun μ R => (?_ : jX G jP 41 16 lv [] μ Q))
  refine jX.lrn l1 (by rfl) (by rfl) (?_ : jX G jP 41 17 lv [.ref (spl 15 v1.1 v1.2)] μ Q)
  refine jX.sg R g1 (by rfl) (by rfl) (by rfl) (by rfl) (by rfl) (?_ : jX G jP 41 20 lv [.ref (spl 17 0 v1.2)] μ Q)
  refine jX.ic (v := nI 0) (n := 1) (by rfl) (by rfl) (by decide) (?_ : jX G jP 41 21 lv [.int (nI 0), .ref (spl 17 0 v1.2)] μ Q)
  refine jX.lrn l0 (by rfl) (by rfl) (?_ : jX G jP 41 22 lv [.ref (spl 15 v0.1 v0.2), .int (nI 0), .ref (spl 17 0 v1.2)] μ Q)
  refine jX.sg R g2 (by rfl) (by rfl) (by rfl) (by rfl) (by rfl) (?_ : jX G jP 41 25 lv [.ref (spl 17 0 v0.2), .int (nI 0), .ref (spl 17 0 v1.2)] μ Q)
  refine jX.ic (v := nI 0) (n := 1) (by rfl) (by rfl) (by decide) (?_ : jX G jP 41 26 lv [.int (nI 0), .ref (spl 17 0 v0.2), .int (nI 0), .ref (spl 17 0 v1.2)] μ Q)
  refine jX.ic (v := nI 600) (n := 3) (by rfl) (by rfl) (by decide) (?_ : jX G jP 41 29 lv [.int (nI 600), .int (nI 0), .ref (spl 17 0 v0.2), .int (nI 0), .ref (spl 17 0 v1.2)] μ Q)
  obtain ⟨g6, h⟩ := jif_some h
  obtain ⟨g7, h⟩ := jif_some h
  obtain ⟨g8, h⟩ := jif_some h
  refine jX.cpI (t := 17) (a := 0) (b := v1.2) (t' := 17) (a' := 0) (b' := v0.2) R g6 g7 (by rfl) (by rfl) (by rfl) (by rfl) (by rfl) (by rfl) (by rfl) (by rfl) (Nat.le_of_ble_eq_true rfl) (fun _ => by rfl) (fun _ => by rfl) g8 (fun μ R => (?_ : jX G jP 41 32 lv [] μ Q))
  refine jX.lrn l0 (by rfl) (by rfl) (?_ : jX G jP 41 33 lv [.ref (spl 15 v0.1 v0.2)] μ Q)
  refine jX.lrn l1 (by rfl) (by rfl) (?_ : jX G jP 41 34 lv [.ref (spl 15 v1.1 v1.2), .ref (spl 15 v0.1 v0.2)] μ Q)
  refine jX.sg R g1 (by rfl) (by rfl) (by rfl) (by rfl) (by rfl) (?_ : jX G jP 41 37 lv [.int ((saI (saI S 16 0 v0.2 (va_cpy (S.1 16 0 v1.2) (S.1 16 0 v0.2) (nI 0).toNatClampNeg (nI 0).toNatClampNeg (nI 600).toNatClampNeg)) 17 0 v0.2 (va_cpy ((saI S 16 0 v0.2 (va_cpy (S.1 16 0 v1.2) (S.1 16 0 v0.2) (nI 0).toNatClampNeg (nI 0).toNatClampNeg (nI 600).toNatClampNeg)).1 17 0 v1.2) ((saI S 16 0 v0.2 (va_cpy (S.1 16 0 v1.2) (S.1 16 0 v0.2) (nI 0).toNatClampNeg (nI 0).toNatClampNeg (nI 600).toNatClampNeg)).1 17 0 v0.2) (nI 0).toNatClampNeg (nI 0).toNatClampNeg (nI 600).toNatClampNeg)).1 15 v1.1 v1.2 2), .ref (spl 15 v0.1 v0.2)] μ Q)
  refine jX.spI R g2 (by rfl) (by rfl) (by rfl) (by rfl) (by rfl) (by rfl) (by rfl) (by rfl) (fun μ R => (?_ : jX G jP 41 40 lv [] μ Q))
  exact jX.ret (by rfl) (by rfl) (by rfl) (by rfl) (sretv (f := srV) h K R)
/-! 42 StrandRuntime$Heap.isUsed(I)Z -/
def F_42 (G : jG) (t : Nat) (v1 : Int32) (S : sS) : Option (Int32 × sS) := jif (jin v1 600) (sif ((S.2.2.1.2 v1.toNatClampNeg).map fun p => (p, 0)) (some ((nI 0), S)) (fun a2 => jif (sex S.2.2.2.1 32 a2.1 a2.2) (bif jcmp .eq (S.1 32 a2.1 a2.2 1) 0 then (some ((nI 0), S)) else (some ((nI 1), S)))))
theorem F_42_ok {G : jG} {t : Nat} {v1 : Int32} {S : sS} {r : Int32} {S' : sS} {μ : jS} {Q : Option Value ⊕ Nat → jS → Prop} (R : sR S μ) (h : F_42 G t v1 S = some (r, S')) (K : ∀ μ', sR S' μ' → Q (srI r) μ') : jX G jP 42 0 (lv_args 0 [.ref (spl 11 0 0), .int v1]) [] μ Q := by
  unfold F_42 at h
  have l0 : jld (lv_args 0 [.ref (spl 11 0 0), .int v1]) 0 = some (.ref (spl 11 0 0)) := by rfl
  have l1 : jld (lv_args 0 [.ref (spl 11 0 0), .int v1]) 1 = some (.int v1) := by rfl
  generalize lv_args 0 [.ref (spl 11 0 0), .int v1] = lv at *
  refine jX.lrn l0 (by rfl) (by rfl) (?_ : jX G jP 42 1 lv [.ref (spl 11 0 0)] μ Q)
  refine jX.sg R (by rfl) (by rfl) (by rfl) (by rfl) (by rfl) (by rfl) (?_ : jX G jP 42 4 lv [.ref (spl 12 0 0)] μ Q)
  refine jX.lin l1 (by rfl) (by rfl) (?_ : jX G jP 42 5 lv [.int v1, .ref (spl 12 0 0)] μ Q)
  obtain ⟨g1, h⟩ := jif_some h
  refine jX.sar R (by rfl) (by rfl) (by rfl) (by rfl) g1 (srf_32 _) (?_ : jX G jP 42 6 lv [soR 32 ((S.2.2.1.2 v1.toNatClampNeg).map fun p => (p, 0))] μ Q)
  refine jX.so (k := 2) (pc' := 7) (by rfl) (by rfl) (fun _ => by rfl) (by rfl) (fun lv l2 kp => (?_ : jX G jP 42 7 lv [] μ Q))
  refine jX.lon l2 (by rfl) (by rfl) (?_ : jX G jP 42 8 lv [soR 32 ((S.2.2.1.2 v1.toNatClampNeg).map fun p => (p, 0))] μ Q)
  rcases sif_or h with ⟨e2, h⟩ | ⟨a2, e2, h⟩
  · rw [soR_none (t := 32) e2]
    rw [soR_none (t := 32) e2] at l2
    refine jX.go (by rfl) (by rfl) (by rfl) (?_ : jX G jP 42 22 lv [] μ Q)
    refine jX.ic (v := nI 0) (n := 1) (by rfl) (by rfl) (by decide) (?_ : jX G jP 42 23 lv [.int (nI 0)] μ Q)
    exact jX.ret (by rfl) (by rfl) (by rfl) (by rfl) (sretv (f := srI) h K R)
  · rw [soR_some (t := 32) e2]
    rw [soR_some (t := 32) e2] at l2
    refine jX.go (by rfl) (by rfl) (by rfl) (?_ : jX G jP 42 11 lv [] μ Q)
    refine jX.lrn l2 (by rfl) (by rfl) (?_ : jX G jP 42 12 lv [.ref (spl 32 a2.1 a2.2)] μ Q)
    obtain ⟨g3, h⟩ := jif_some h
    refine jX.sg R g3 (by rfl) (by rfl) (by rfl) (by rfl) (by rfl) (?_ : jX G jP 42 15 lv [.int (S.1 32 a2.1 a2.2 1)] μ Q)
    rcases bif_or h with ⟨hc, h⟩ | ⟨hc, h⟩
    · refine jX.b1t hc (by rfl) (by rfl) (by rfl) (?_ : jX G jP 42 22 lv [] μ Q)
      refine jX.ic (v := nI 0) (n := 1) (by rfl) (by rfl) (by decide) (?_ : jX G jP 42 23 lv [.int (nI 0)] μ Q)
      exact jX.ret (by rfl) (by rfl) (by rfl) (by rfl) (sretv (f := srI) h K R)
    · refine jX.b1f hc (by rfl) (by rfl) (by rfl) (?_ : jX G jP 42 18 lv [] μ Q)
      refine jX.ic (v := nI 1) (n := 1) (by rfl) (by rfl) (by decide) (?_ : jX G jP 42 19 lv [.int (nI 1)] μ Q)
      refine jX.go (by rfl) (by rfl) (by rfl) (?_ : jX G jP 42 23 lv [.int (nI 1)] μ Q)
      exact jX.ret (by rfl) (by rfl) (by rfl) (by rfl) (sretv (f := srI) h K R)
/-! 43 StrandRuntime$Heap.faultsOfMarks()I -/
def F_43_162 (G : jG) (t : Nat) (k28 : Int32 → Int32 → Int32 → sS → Option (Int32 × sS)) (v1 : Int32) (v2 : Int32) (v3 : Int32) (S : sS) : Option (Int32 × sS) := k28 v1 v2 (v3 + Int32.ofInt 1) S
theorem F_43_162_ok {G : jG} {t : Nat} {k28 : Int32 → Int32 → Int32 → sS → Option (Int32 × sS)} {r : Int32} {S' : sS} {Q : Option Value ⊕ Nat → jS → Prop} (hk28 : ∀ (v1 : Int32) (v2 : Int32) (v3 : Int32) (S : sS) (lv : jL) (μ : jS), jld lv 0 = some (.ref (spl 11 0 0)) → jld lv 1 = some (.int v1) → jld lv 2 = some (.int v2) → jld lv 3 = some (.int v3) → sR S μ → k28 v1 v2 v3 S = some (r, S') → jX G jP 43 28 lv [] μ Q) (K : ∀ μ', sR S' μ' → Q (srI r) μ') : ∀ (v1 : Int32) (v2 : Int32) (v3 : Int32) (S : sS) (lv : jL) (μ : jS), jld lv 0 = some (.ref (spl 11 0 0)) → jld lv 1 = some (.int v1) → jld lv 2 = some (.int v2) → jld lv 3 = some (.int v3) → sR S μ → F_43_162 G t k28 v1 v2 v3 S = some (r, S') → jX G jP 43 162 lv [] μ Q := by
  intro v1 v2 v3 S lv μ l0 l1 l2 l3 R h
  unfold F_43_162 at h
  refine jX.inc l3 (by rfl) (by rfl) (by rfl) (fun lv l3 kp => (?_ : jX G jP 43 165 lv [] μ Q))
  replace l0 := kp 0 _ l0 (by rfl) (by first | rfl | simp [soR_cat])
  replace l1 := kp 1 _ l1 (by rfl) (by first | rfl | simp [soR_cat])
  replace l2 := kp 2 _ l2 (by rfl) (by first | rfl | simp [soR_cat])
  refine jX.go (by rfl) (by rfl) (by rfl) (?_ : jX G jP 43 28 lv [] μ Q)
  exact hk28 v1 v2 (v3 + Int32.ofInt 1) _ _ _ l0 l1 l2 l3 R h
def F_43_142 (G : jG) (t : Nat) (k28 : Int32 → Int32 → Int32 → sS → Option (Int32 × sS)) (v1 : Int32) (v2 : Int32) (v3 : Int32) (v7 : Int32) (S : sS) : Option (Int32 × sS) := bif jcmp .eq v7 0 then (F_43_162 G t k28 v1 v2 v3 S) else (jif (jin v3 600) (bif jcmp .ne (S.1 16 0 2 v3.toNatClampNeg) 0 then (F_43_162 G t k28 v1 v2 v3 S) else (F_43_162 G t k28 (v1 + Int32.ofInt 1) v2 v3 S)))
theorem F_43_142_ok {G : jG} {t : Nat} {k28 : Int32 → Int32 → Int32 → sS → Option (Int32 × sS)} {r : Int32} {S' : sS} {Q : Option Value ⊕ Nat → jS → Prop} (hk28 : ∀ (v1 : Int32) (v2 : Int32) (v3 : Int32) (S : sS) (lv : jL) (μ : jS), jld lv 0 = some (.ref (spl 11 0 0)) → jld lv 1 = some (.int v1) → jld lv 2 = some (.int v2) → jld lv 3 = some (.int v3) → sR S μ → k28 v1 v2 v3 S = some (r, S') → jX G jP 43 28 lv [] μ Q) (K : ∀ μ', sR S' μ' → Q (srI r) μ') : ∀ (v1 : Int32) (v2 : Int32) (v3 : Int32) (v7 : Int32) (S : sS) (lv : jL) (μ : jS), jld lv 0 = some (.ref (spl 11 0 0)) → jld lv 1 = some (.int v1) → jld lv 2 = some (.int v2) → jld lv 3 = some (.int v3) → jld lv 7 = some (.int v7) → sR S μ → F_43_142 G t k28 v1 v2 v3 v7 S = some (r, S') → jX G jP 43 142 lv [] μ Q := by
  intro v1 v2 v3 v7 S lv μ l0 l1 l2 l3 l7 R h
  unfold F_43_142 at h
  refine jX.li l7 (by rfl) (by rfl) (?_ : jX G jP 43 144 lv [.int v7] μ Q)
  rcases bif_or h with ⟨hc, h⟩ | ⟨hc, h⟩
  · refine jX.b1t hc (by rfl) (by rfl) (by rfl) (?_ : jX G jP 43 162 lv [] μ Q)
    exact F_43_162_ok hk28 K v1 v2 v3 _ _ _ l0 l1 l2 l3 R h
  · refine jX.b1f hc (by rfl) (by rfl) (by rfl) (?_ : jX G jP 43 147 lv [] μ Q)
    refine jX.lrn l0 (by rfl) (by rfl) (?_ : jX G jP 43 148 lv [.ref (spl 11 0 0)] μ Q)
    refine jX.sg R (by rfl) (by rfl) (by rfl) (by rfl) (by rfl) (by rfl) (?_ : jX G jP 43 151 lv [.ref (spl 15 0 2)] μ Q)
    refine jX.sg R (by rfl) (by rfl) (by rfl) (by rfl) (by rfl) (by rfl) (?_ : jX G jP 43 154 lv [.ref (spl 16 0 2)] μ Q)
    refine jX.lin l3 (by rfl) (by rfl) (?_ : jX G jP 43 155 lv [.int v3, .ref (spl 16 0 2)] μ Q)
    obtain ⟨g1, h⟩ := jif_some h
    refine jX.sai R (by rfl) (by rfl) (by rfl) (by rfl) g1 (?_ : jX G jP 43 156 lv [.int (S.1 16 0 2 v3.toNatClampNeg)] μ Q)
    rcases bif_or h with ⟨hc, h⟩ | ⟨hc, h⟩
    · refine jX.b1t hc (by rfl) (by rfl) (by rfl) (?_ : jX G jP 43 162 lv [] μ Q)
      exact F_43_162_ok hk28 K v1 v2 v3 _ _ _ l0 l1 l2 l3 R h
    · refine jX.b1f hc (by rfl) (by rfl) (by rfl) (?_ : jX G jP 43 159 lv [] μ Q)
      refine jX.inc l1 (by rfl) (by rfl) (by rfl) (fun lv l1 kp => (?_ : jX G jP 43 162 lv [] μ Q))
      replace l0 := kp 0 _ l0 (by rfl) (by first | rfl | simp [soR_cat])
      replace l2 := kp 2 _ l2 (by rfl) (by first | rfl | simp [soR_cat])
      replace l3 := kp 3 _ l3 (by rfl) (by first | rfl | simp [soR_cat])
      exact F_43_162_ok hk28 K (v1 + Int32.ofInt 1) v2 v3 _ _ _ l0 l1 l2 l3 R h
def F_43_127 (G : jG) (t : Nat) (k28 : Int32 → Int32 → Int32 → sS → Option (Int32 × sS)) (v1 : Int32) (v2 : Int32) (v3 : Int32) (v4 : Int32) (v6 : Int32) (w0 : Int32) (S : sS) : Option (Int32 × sS) := bif jcmp .eq v6 0 then (F_43_142 G t k28 v1 v2 v3 w0 S) else (bif jcmp .eq v4 0 then (F_43_142 G t k28 v1 v2 v3 w0 S) else (F_43_142 G t k28 (v1 + Int32.ofInt 1) v2 v3 w0 S))
theorem F_43_127_ok {G : jG} {t : Nat} {k28 : Int32 → Int32 → Int32 → sS → Option (Int32 × sS)} {r : Int32} {S' : sS} {Q : Option Value ⊕ Nat → jS → Prop} (hk28 : ∀ (v1 : Int32) (v2 : Int32) (v3 : Int32) (S : sS) (lv : jL) (μ : jS), jld lv 0 = some (.ref (spl 11 0 0)) → jld lv 1 = some (.int v1) → jld lv 2 = some (.int v2) → jld lv 3 = some (.int v3) → sR S μ → k28 v1 v2 v3 S = some (r, S') → jX G jP 43 28 lv [] μ Q) (K : ∀ μ', sR S' μ' → Q (srI r) μ') : ∀ (v1 : Int32) (v2 : Int32) (v3 : Int32) (v4 : Int32) (v6 : Int32) (w0 : Int32) (S : sS) (lv : jL) (μ : jS), jld lv 0 = some (.ref (spl 11 0 0)) → jld lv 1 = some (.int v1) → jld lv 2 = some (.int v2) → jld lv 3 = some (.int v3) → jld lv 4 = some (.int v4) → jld lv 6 = some (.int v6) → sR S μ → F_43_127 G t k28 v1 v2 v3 v4 v6 w0 S = some (r, S') → jX G jP 43 127 lv [.int w0] μ Q := by
  intro v1 v2 v3 v4 v6 w0 S lv μ l0 l1 l2 l3 l4 l6 R h
  unfold F_43_127 at h
  refine jX.s1 (k := 7) (pc' := 129) (by rfl) (by rfl) (by rfl) (fun lv l7 kp => (?_ : jX G jP 43 129 lv [] μ Q))
  replace l0 := kp 0 _ l0 (by rfl) (by first | rfl | simp [soR_cat])
  replace l1 := kp 1 _ l1 (by rfl) (by first | rfl | simp [soR_cat])
  replace l2 := kp 2 _ l2 (by rfl) (by first | rfl | simp [soR_cat])
  replace l3 := kp 3 _ l3 (by rfl) (by first | rfl | simp [soR_cat])
  replace l4 := kp 4 _ l4 (by rfl) (by first | rfl | simp [soR_cat])
  replace l6 := kp 6 _ l6 (by rfl) (by first | rfl | simp [soR_cat])
  refine jX.li l6 (by rfl) (by rfl) (?_ : jX G jP 43 131 lv [.int v6] μ Q)
  rcases bif_or h with ⟨hc, h⟩ | ⟨hc, h⟩
  · refine jX.b1t hc (by rfl) (by rfl) (by rfl) (?_ : jX G jP 43 142 lv [] μ Q)
    exact F_43_142_ok hk28 K v1 v2 v3 w0 _ _ _ l0 l1 l2 l3 l7 R h
  · refine jX.b1f hc (by rfl) (by rfl) (by rfl) (?_ : jX G jP 43 134 lv [] μ Q)
    refine jX.li l4 (by rfl) (by rfl) (?_ : jX G jP 43 136 lv [.int v4] μ Q)
    rcases bif_or h with ⟨hc, h⟩ | ⟨hc, h⟩
    · refine jX.b1t hc (by rfl) (by rfl) (by rfl) (?_ : jX G jP 43 142 lv [] μ Q)
      exact F_43_142_ok hk28 K v1 v2 v3 w0 _ _ _ l0 l1 l2 l3 l7 R h
    · refine jX.b1f hc (by rfl) (by rfl) (by rfl) (?_ : jX G jP 43 139 lv [] μ Q)
      refine jX.inc l1 (by rfl) (by rfl) (by rfl) (fun lv l1 kp => (?_ : jX G jP 43 142 lv [] μ Q))
      replace l0 := kp 0 _ l0 (by rfl) (by first | rfl | simp [soR_cat])
      replace l2 := kp 2 _ l2 (by rfl) (by first | rfl | simp [soR_cat])
      replace l3 := kp 3 _ l3 (by rfl) (by first | rfl | simp [soR_cat])
      replace l7 := kp 7 _ l7 (by rfl) (by first | rfl | simp [soR_cat])
      exact F_43_142_ok hk28 K (v1 + Int32.ofInt 1) v2 v3 w0 _ _ _ l0 l1 l2 l3 l7 R h
def F_43_126 (G : jG) (t : Nat) (k28 : Int32 → Int32 → Int32 → sS → Option (Int32 × sS)) (v1 : Int32) (v2 : Int32) (v3 : Int32) (v4 : Int32) (v6 : Int32) (S : sS) : Option (Int32 × sS) := F_43_127 G t k28 v1 v2 v3 v4 v6 (nI 0) S
theorem F_43_126_ok {G : jG} {t : Nat} {k28 : Int32 → Int32 → Int32 → sS → Option (Int32 × sS)} {r : Int32} {S' : sS} {Q : Option Value ⊕ Nat → jS → Prop} (hk28 : ∀ (v1 : Int32) (v2 : Int32) (v3 : Int32) (S : sS) (lv : jL) (μ : jS), jld lv 0 = some (.ref (spl 11 0 0)) → jld lv 1 = some (.int v1) → jld lv 2 = some (.int v2) → jld lv 3 = some (.int v3) → sR S μ → k28 v1 v2 v3 S = some (r, S') → jX G jP 43 28 lv [] μ Q) (K : ∀ μ', sR S' μ' → Q (srI r) μ') : ∀ (v1 : Int32) (v2 : Int32) (v3 : Int32) (v4 : Int32) (v6 : Int32) (S : sS) (lv : jL) (μ : jS), jld lv 0 = some (.ref (spl 11 0 0)) → jld lv 1 = some (.int v1) → jld lv 2 = some (.int v2) → jld lv 3 = some (.int v3) → jld lv 4 = some (.int v4) → jld lv 6 = some (.int v6) → sR S μ → F_43_126 G t k28 v1 v2 v3 v4 v6 S = some (r, S') → jX G jP 43 126 lv [] μ Q := by
  intro v1 v2 v3 v4 v6 S lv μ l0 l1 l2 l3 l4 l6 R h
  unfold F_43_126 at h
  refine jX.ic (v := nI 0) (n := 1) (by rfl) (by rfl) (by decide) (?_ : jX G jP 43 127 lv [.int (nI 0)] μ Q)
  exact F_43_127_ok hk28 K v1 v2 v3 v4 v6 (nI 0) _ _ _ l0 l1 l2 l3 l4 l6 R h
def F_43_103 (G : jG) (t : Nat) (k28 : Int32 → Int32 → Int32 → sS → Option (Int32 × sS)) (v1 : Int32) (v2 : Int32) (v3 : Int32) (v4 : Int32) (v5 : Int32) (w0 : Int32) (S : sS) : Option (Int32 × sS) := bif jcmp .ne v5 0 then (F_43_126 G t k28 v1 v2 v3 v4 w0 S) else (jif (jin v3 600) (bif jcmp .eq (S.1 16 0 1 v3.toNatClampNeg) 0 then (F_43_126 G t k28 v1 v2 v3 v4 w0 S) else (F_43_127 G t k28 v1 v2 v3 v4 w0 (nI 1) S)))
theorem F_43_103_ok {G : jG} {t : Nat} {k28 : Int32 → Int32 → Int32 → sS → Option (Int32 × sS)} {r : Int32} {S' : sS} {Q : Option Value ⊕ Nat → jS → Prop} (hk28 : ∀ (v1 : Int32) (v2 : Int32) (v3 : Int32) (S : sS) (lv : jL) (μ : jS), jld lv 0 = some (.ref (spl 11 0 0)) → jld lv 1 = some (.int v1) → jld lv 2 = some (.int v2) → jld lv 3 = some (.int v3) → sR S μ → k28 v1 v2 v3 S = some (r, S') → jX G jP 43 28 lv [] μ Q) (K : ∀ μ', sR S' μ' → Q (srI r) μ') : ∀ (v1 : Int32) (v2 : Int32) (v3 : Int32) (v4 : Int32) (v5 : Int32) (w0 : Int32) (S : sS) (lv : jL) (μ : jS), jld lv 0 = some (.ref (spl 11 0 0)) → jld lv 1 = some (.int v1) → jld lv 2 = some (.int v2) → jld lv 3 = some (.int v3) → jld lv 4 = some (.int v4) → jld lv 5 = some (.int v5) → sR S μ → F_43_103 G t k28 v1 v2 v3 v4 v5 w0 S = some (r, S') → jX G jP 43 103 lv [.int w0] μ Q := by
  intro v1 v2 v3 v4 v5 w0 S lv μ l0 l1 l2 l3 l4 l5 R h
  unfold F_43_103 at h
  refine jX.s1 (k := 6) (pc' := 105) (by rfl) (by rfl) (by rfl) (fun lv l6 kp => (?_ : jX G jP 43 105 lv [] μ Q))
  replace l0 := kp 0 _ l0 (by rfl) (by first | rfl | simp [soR_cat])
  replace l1 := kp 1 _ l1 (by rfl) (by first | rfl | simp [soR_cat])
  replace l2 := kp 2 _ l2 (by rfl) (by first | rfl | simp [soR_cat])
  replace l3 := kp 3 _ l3 (by rfl) (by first | rfl | simp [soR_cat])
  replace l4 := kp 4 _ l4 (by rfl) (by first | rfl | simp [soR_cat])
  replace l5 := kp 5 _ l5 (by rfl) (by first | rfl | simp [soR_cat])
  refine jX.li l5 (by rfl) (by rfl) (?_ : jX G jP 43 107 lv [.int v5] μ Q)
  rcases bif_or h with ⟨hc, h⟩ | ⟨hc, h⟩
  · refine jX.b1t hc (by rfl) (by rfl) (by rfl) (?_ : jX G jP 43 126 lv [] μ Q)
    exact F_43_126_ok hk28 K v1 v2 v3 v4 w0 _ _ _ l0 l1 l2 l3 l4 l6 R h
  · refine jX.b1f hc (by rfl) (by rfl) (by rfl) (?_ : jX G jP 43 110 lv [] μ Q)
    refine jX.lrn l0 (by rfl) (by rfl) (?_ : jX G jP 43 111 lv [.ref (spl 11 0 0)] μ Q)
    refine jX.sg R (by rfl) (by rfl) (by rfl) (by rfl) (by rfl) (by rfl) (?_ : jX G jP 43 114 lv [.ref (spl 15 0 1)] μ Q)
    refine jX.sg R (by rfl) (by rfl) (by rfl) (by rfl) (by rfl) (by rfl) (?_ : jX G jP 43 117 lv [.ref (spl 16 0 1)] μ Q)
    refine jX.lin l3 (by rfl) (by rfl) (?_ : jX G jP 43 118 lv [.int v3, .ref (spl 16 0 1)] μ Q)
    obtain ⟨g1, h⟩ := jif_some h
    refine jX.sai R (by rfl) (by rfl) (by rfl) (by rfl) g1 (?_ : jX G jP 43 119 lv [.int (S.1 16 0 1 v3.toNatClampNeg)] μ Q)
    rcases bif_or h with ⟨hc, h⟩ | ⟨hc, h⟩
    · refine jX.b1t hc (by rfl) (by rfl) (by rfl) (?_ : jX G jP 43 126 lv [] μ Q)
      exact F_43_126_ok hk28 K v1 v2 v3 v4 w0 _ _ _ l0 l1 l2 l3 l4 l6 R h
    · refine jX.b1f hc (by rfl) (by rfl) (by rfl) (?_ : jX G jP 43 122 lv [] μ Q)
      refine jX.ic (v := nI 1) (n := 1) (by rfl) (by rfl) (by decide) (?_ : jX G jP 43 123 lv [.int (nI 1)] μ Q)
      refine jX.go (by rfl) (by rfl) (by rfl) (?_ : jX G jP 43 127 lv [.int (nI 1)] μ Q)
      exact F_43_127_ok hk28 K v1 v2 v3 v4 w0 (nI 1) _ _ _ l0 l1 l2 l3 l4 l6 R h
def F_43_98 (G : jG) (t : Nat) (k28 : Int32 → Int32 → Int32 → sS → Option (Int32 × sS)) (v1 : Int32) (v2 : Int32) (v3 : Int32) (v4 : Int32) (v5 : Int32) (S : sS) : Option (Int32 × sS) := F_43_103 G t k28 v1 v2 v3 v4 v5 (nI 1) S
theorem F_43_98_ok {G : jG} {t : Nat} {k28 : Int32 → Int32 → Int32 → sS → Option (Int32 × sS)} {r : Int32} {S' : sS} {Q : Option Value ⊕ Nat → jS → Prop} (hk28 : ∀ (v1 : Int32) (v2 : Int32) (v3 : Int32) (S : sS) (lv : jL) (μ : jS), jld lv 0 = some (.ref (spl 11 0 0)) → jld lv 1 = some (.int v1) → jld lv 2 = some (.int v2) → jld lv 3 = some (.int v3) → sR S μ → k28 v1 v2 v3 S = some (r, S') → jX G jP 43 28 lv [] μ Q) (K : ∀ μ', sR S' μ' → Q (srI r) μ') : ∀ (v1 : Int32) (v2 : Int32) (v3 : Int32) (v4 : Int32) (v5 : Int32) (S : sS) (lv : jL) (μ : jS), jld lv 0 = some (.ref (spl 11 0 0)) → jld lv 1 = some (.int v1) → jld lv 2 = some (.int v2) → jld lv 3 = some (.int v3) → jld lv 4 = some (.int v4) → jld lv 5 = some (.int v5) → sR S μ → F_43_98 G t k28 v1 v2 v3 v4 v5 S = some (r, S') → jX G jP 43 98 lv [] μ Q := by
  intro v1 v2 v3 v4 v5 S lv μ l0 l1 l2 l3 l4 l5 R h
  unfold F_43_98 at h
  refine jX.ic (v := nI 1) (n := 1) (by rfl) (by rfl) (by decide) (?_ : jX G jP 43 99 lv [.int (nI 1)] μ Q)
  refine jX.go (by rfl) (by rfl) (by rfl) (?_ : jX G jP 43 103 lv [.int (nI 1)] μ Q)
  exact F_43_103_ok hk28 K v1 v2 v3 v4 v5 (nI 1) _ _ _ l0 l1 l2 l3 l4 l5 R h
def F_43_83 (G : jG) (t : Nat) (k28 : Int32 → Int32 → Int32 → sS → Option (Int32 × sS)) (v1 : Int32) (v2 : Int32) (v3 : Int32) (v4 : Int32) (w0 : Int32) (S : sS) : Option (Int32 × sS) := bif jcmp .ne w0 0 then (F_43_98 G t k28 v1 v2 v3 v4 w0 S) else ((F_42 G t v3 S).bind (fun q1 => bif jcmp .ne q1.1 0 then (F_43_103 G t k28 v1 v2 v3 v4 w0 (nI 0) q1.2) else (F_43_98 G t k28 v1 v2 v3 v4 w0 q1.2)))
theorem F_43_83_ok {G : jG} {t : Nat} {k28 : Int32 → Int32 → Int32 → sS → Option (Int32 × sS)} {r : Int32} {S' : sS} {Q : Option Value ⊕ Nat → jS → Prop} (hk28 : ∀ (v1 : Int32) (v2 : Int32) (v3 : Int32) (S : sS) (lv : jL) (μ : jS), jld lv 0 = some (.ref (spl 11 0 0)) → jld lv 1 = some (.int v1) → jld lv 2 = some (.int v2) → jld lv 3 = some (.int v3) → sR S μ → k28 v1 v2 v3 S = some (r, S') → jX G jP 43 28 lv [] μ Q) (K : ∀ μ', sR S' μ' → Q (srI r) μ') : ∀ (v1 : Int32) (v2 : Int32) (v3 : Int32) (v4 : Int32) (w0 : Int32) (S : sS) (lv : jL) (μ : jS), jld lv 0 = some (.ref (spl 11 0 0)) → jld lv 1 = some (.int v1) → jld lv 2 = some (.int v2) → jld lv 3 = some (.int v3) → jld lv 4 = some (.int v4) → sR S μ → F_43_83 G t k28 v1 v2 v3 v4 w0 S = some (r, S') → jX G jP 43 83 lv [.int w0] μ Q := by
  intro v1 v2 v3 v4 w0 S lv μ l0 l1 l2 l3 l4 R h
  unfold F_43_83 at h
  refine jX.s1 (k := 5) (pc' := 85) (by rfl) (by rfl) (by rfl) (fun lv l5 kp => (?_ : jX G jP 43 85 lv [] μ Q))
  replace l0 := kp 0 _ l0 (by rfl) (by first | rfl | simp [soR_cat])
  replace l1 := kp 1 _ l1 (by rfl) (by first | rfl | simp [soR_cat])
  replace l2 := kp 2 _ l2 (by rfl) (by first | rfl | simp [soR_cat])
  replace l3 := kp 3 _ l3 (by rfl) (by first | rfl | simp [soR_cat])
  replace l4 := kp 4 _ l4 (by rfl) (by first | rfl | simp [soR_cat])
  refine jX.li l5 (by rfl) (by rfl) (?_ : jX G jP 43 87 lv [.int w0] μ Q)
  rcases bif_or h with ⟨hc, h⟩ | ⟨hc, h⟩
  · refine jX.b1t hc (by rfl) (by rfl) (by rfl) (?_ : jX G jP 43 98 lv [] μ Q)
    exact F_43_98_ok hk28 K v1 v2 v3 v4 w0 _ _ _ l0 l1 l2 l3 l4 l5 R h
  · refine jX.b1f hc (by rfl) (by rfl) (by rfl) (?_ : jX G jP 43 90 lv [] μ Q)
    refine jX.lrn l0 (by rfl) (by rfl) (?_ : jX G jP 43 91 lv [.ref (spl 11 0 0)] μ Q)
    refine jX.lin l3 (by rfl) (by rfl) (?_ : jX G jP 43 92 lv [.int v3, .ref (spl 11 0 0)] μ Q)
    obtain ⟨q1, e1, h⟩ := sbd h
    refine jX.c1 (v := .int q1.1) (by rfl) (by rfl) (by rfl) (by rfl) (by rfl) (by rfl) (by rfl) (R.rec (by rfl) (by rfl)) (Nat.le_of_ble_eq_true rfl) (Nat.le_of_ble_eq_true rfl) (F_42_ok R e1 (fun μ R => ⟨rfl, (?_ : jX G jP 43 95 lv [.int q1.1] μ Q)⟩))
    rcases bif_or h with ⟨hc, h⟩ | ⟨hc, h⟩
    · refine jX.b1t hc (by rfl) (by rfl) (by rfl) (?_ : jX G jP 43 102 lv [] μ Q)
      refine jX.ic (v := nI 0) (n := 1) (by rfl) (by rfl) (by decide) (?_ : jX G jP 43 103 lv [.int (nI 0)] μ Q)
      exact F_43_103_ok hk28 K v1 v2 v3 v4 w0 (nI 0) _ _ _ l0 l1 l2 l3 l4 l5 R h
    · refine jX.b1f hc (by rfl) (by rfl) (by rfl) (?_ : jX G jP 43 98 lv [] μ Q)
      exact F_43_98_ok hk28 K v1 v2 v3 v4 w0 _ _ _ l0 l1 l2 l3 l4 l5 R h
def F_43_78 (G : jG) (t : Nat) (k28 : Int32 → Int32 → Int32 → sS → Option (Int32 × sS)) (v1 : Int32) (v2 : Int32) (v3 : Int32) (v4 : Int32) (S : sS) : Option (Int32 × sS) := F_43_83 G t k28 v1 v2 v3 v4 (nI 1) S
theorem F_43_78_ok {G : jG} {t : Nat} {k28 : Int32 → Int32 → Int32 → sS → Option (Int32 × sS)} {r : Int32} {S' : sS} {Q : Option Value ⊕ Nat → jS → Prop} (hk28 : ∀ (v1 : Int32) (v2 : Int32) (v3 : Int32) (S : sS) (lv : jL) (μ : jS), jld lv 0 = some (.ref (spl 11 0 0)) → jld lv 1 = some (.int v1) → jld lv 2 = some (.int v2) → jld lv 3 = some (.int v3) → sR S μ → k28 v1 v2 v3 S = some (r, S') → jX G jP 43 28 lv [] μ Q) (K : ∀ μ', sR S' μ' → Q (srI r) μ') : ∀ (v1 : Int32) (v2 : Int32) (v3 : Int32) (v4 : Int32) (S : sS) (lv : jL) (μ : jS), jld lv 0 = some (.ref (spl 11 0 0)) → jld lv 1 = some (.int v1) → jld lv 2 = some (.int v2) → jld lv 3 = some (.int v3) → jld lv 4 = some (.int v4) → sR S μ → F_43_78 G t k28 v1 v2 v3 v4 S = some (r, S') → jX G jP 43 78 lv [] μ Q := by
  intro v1 v2 v3 v4 S lv μ l0 l1 l2 l3 l4 R h
  unfold F_43_78 at h
  refine jX.ic (v := nI 1) (n := 1) (by rfl) (by rfl) (by decide) (?_ : jX G jP 43 79 lv [.int (nI 1)] μ Q)
  refine jX.go (by rfl) (by rfl) (by rfl) (?_ : jX G jP 43 83 lv [.int (nI 1)] μ Q)
  exact F_43_83_ok hk28 K v1 v2 v3 v4 (nI 1) _ _ _ l0 l1 l2 l3 l4 R h
def F_43_82 (G : jG) (t : Nat) (k28 : Int32 → Int32 → Int32 → sS → Option (Int32 × sS)) (v1 : Int32) (v2 : Int32) (v3 : Int32) (v4 : Int32) (S : sS) : Option (Int32 × sS) := F_43_83 G t k28 v1 v2 v3 v4 (nI 0) S
theorem F_43_82_ok {G : jG} {t : Nat} {k28 : Int32 → Int32 → Int32 → sS → Option (Int32 × sS)} {r : Int32} {S' : sS} {Q : Option Value ⊕ Nat → jS → Prop} (hk28 : ∀ (v1 : Int32) (v2 : Int32) (v3 : Int32) (S : sS) (lv : jL) (μ : jS), jld lv 0 = some (.ref (spl 11 0 0)) → jld lv 1 = some (.int v1) → jld lv 2 = some (.int v2) → jld lv 3 = some (.int v3) → sR S μ → k28 v1 v2 v3 S = some (r, S') → jX G jP 43 28 lv [] μ Q) (K : ∀ μ', sR S' μ' → Q (srI r) μ') : ∀ (v1 : Int32) (v2 : Int32) (v3 : Int32) (v4 : Int32) (S : sS) (lv : jL) (μ : jS), jld lv 0 = some (.ref (spl 11 0 0)) → jld lv 1 = some (.int v1) → jld lv 2 = some (.int v2) → jld lv 3 = some (.int v3) → jld lv 4 = some (.int v4) → sR S μ → F_43_82 G t k28 v1 v2 v3 v4 S = some (r, S') → jX G jP 43 82 lv [] μ Q := by
  intro v1 v2 v3 v4 S lv μ l0 l1 l2 l3 l4 R h
  unfold F_43_82 at h
  refine jX.ic (v := nI 0) (n := 1) (by rfl) (by rfl) (by decide) (?_ : jX G jP 43 83 lv [.int (nI 0)] μ Q)
  exact F_43_83_ok hk28 K v1 v2 v3 v4 (nI 0) _ _ _ l0 l1 l2 l3 l4 R h
def F_43_55 (G : jG) (t : Nat) (k28 : Int32 → Int32 → Int32 → sS → Option (Int32 × sS)) (v1 : Int32) (v2 : Int32) (v3 : Int32) (v4 : Int32) (S : sS) : Option (Int32 × sS) := bif jcmp .eq (S.1 11 0 0 11) 0 then (F_43_78 G t k28 v1 v2 v3 v4 S) else (bif jcmp .ne (S.1 11 0 0 11) (nI 2) then (F_43_82 G t k28 v1 v2 v3 v4 S) else (bif jcmp .ge v3 (S.1 11 0 0 12) then (F_43_82 G t k28 v1 v2 v3 v4 S) else (F_43_78 G t k28 v1 v2 v3 v4 S)))
theorem F_43_55_ok {G : jG} {t : Nat} {k28 : Int32 → Int32 → Int32 → sS → Option (Int32 × sS)} {r : Int32} {S' : sS} {Q : Option Value ⊕ Nat → jS → Prop} (hk28 : ∀ (v1 : Int32) (v2 : Int32) (v3 : Int32) (S : sS) (lv : jL) (μ : jS), jld lv 0 = some (.ref (spl 11 0 0)) → jld lv 1 = some (.int v1) → jld lv 2 = some (.int v2) → jld lv 3 = some (.int v3) → sR S μ → k28 v1 v2 v3 S = some (r, S') → jX G jP 43 28 lv [] μ Q) (K : ∀ μ', sR S' μ' → Q (srI r) μ') : ∀ (v1 : Int32) (v2 : Int32) (v3 : Int32) (v4 : Int32) (S : sS) (lv : jL) (μ : jS), jld lv 0 = some (.ref (spl 11 0 0)) → jld lv 1 = some (.int v1) → jld lv 2 = some (.int v2) → jld lv 3 = some (.int v3) → jld lv 4 = some (.int v4) → sR S μ → F_43_55 G t k28 v1 v2 v3 v4 S = some (r, S') → jX G jP 43 55 lv [] μ Q := by
  intro v1 v2 v3 v4 S lv μ l0 l1 l2 l3 l4 R h
  unfold F_43_55 at h
  refine jX.lrn l0 (by rfl) (by rfl) (?_ : jX G jP 43 56 lv [.ref (spl 11 0 0)] μ Q)
  refine jX.sg R (by rfl) (by rfl) (by rfl) (by rfl) (by rfl) (by rfl) (?_ : jX G jP 43 59 lv [.int (S.1 11 0 0 11)] μ Q)
  rcases bif_or h with ⟨hc, h⟩ | ⟨hc, h⟩
  · refine jX.b1t hc (by rfl) (by rfl) (by rfl) (?_ : jX G jP 43 78 lv [] μ Q)
    exact F_43_78_ok hk28 K v1 v2 v3 v4 _ _ _ l0 l1 l2 l3 l4 R h
  · refine jX.b1f hc (by rfl) (by rfl) (by rfl) (?_ : jX G jP 43 62 lv [] μ Q)
    refine jX.lrn l0 (by rfl) (by rfl) (?_ : jX G jP 43 63 lv [.ref (spl 11 0 0)] μ Q)
    refine jX.sg R (by rfl) (by rfl) (by rfl) (by rfl) (by rfl) (by rfl) (?_ : jX G jP 43 66 lv [.int (S.1 11 0 0 11)] μ Q)
    refine jX.ic (v := nI 2) (n := 1) (by rfl) (by rfl) (by decide) (?_ : jX G jP 43 67 lv [.int (nI 2), .int (S.1 11 0 0 11)] μ Q)
    rcases bif_or h with ⟨hc, h⟩ | ⟨hc, h⟩
    · refine jX.b2t hc (by rfl) (by rfl) (by rfl) (?_ : jX G jP 43 82 lv [] μ Q)
      exact F_43_82_ok hk28 K v1 v2 v3 v4 _ _ _ l0 l1 l2 l3 l4 R h
    · refine jX.b2f hc (by rfl) (by rfl) (by rfl) (?_ : jX G jP 43 70 lv [] μ Q)
      refine jX.lin l3 (by rfl) (by rfl) (?_ : jX G jP 43 71 lv [.int v3] μ Q)
      refine jX.lrn l0 (by rfl) (by rfl) (?_ : jX G jP 43 72 lv [.ref (spl 11 0 0), .int v3] μ Q)
      refine jX.sg R (by rfl) (by rfl) (by rfl) (by rfl) (by rfl) (by rfl) (?_ : jX G jP 43 75 lv [.int (S.1 11 0 0 12), .int v3] μ Q)
      rcases bif_or h with ⟨hc, h⟩ | ⟨hc, h⟩
      · refine jX.b2t hc (by rfl) (by rfl) (by rfl) (?_ : jX G jP 43 82 lv [] μ Q)
        exact F_43_82_ok hk28 K v1 v2 v3 v4 _ _ _ l0 l1 l2 l3 l4 R h
      · refine jX.b2f hc (by rfl) (by rfl) (by rfl) (?_ : jX G jP 43 78 lv [] μ Q)
        exact F_43_78_ok hk28 K v1 v2 v3 v4 _ _ _ l0 l1 l2 l3 l4 R h
def F_43_28 (G : jG) (t : Nat) : Nat → Int32 → Int32 → Int32 → sS → Option (Int32 × sS)
  | 0 => fun _ _ _ _ => none
  | tt + 1 => fun v1 v2 v3 S => bif jcmp .ge v3 (nI 600) then (bif jcmp .ne v2 (S.1 15 0 0 2) then (some ((v1 + (nI 1)), S)) else (some (v1, S))) else (jif (jin v3 600) (bif jcmp .ne (S.1 16 0 0 v3.toNatClampNeg) (nI 1) then (F_43_55 G t (F_43_28 G t tt) v1 v2 v3 (S.1 16 0 0 v3.toNatClampNeg) S) else (F_43_55 G t (F_43_28 G t tt) v1 (v2 + Int32.ofInt 1) v3 (S.1 16 0 0 v3.toNatClampNeg) S)))
theorem F_43_28_ok {G : jG} {t : Nat} {r : Int32} {S' : sS} {Q : Option Value ⊕ Nat → jS → Prop} (K : ∀ μ', sR S' μ' → Q (srI r) μ') : ∀ tt : Nat, ∀ (v1 : Int32) (v2 : Int32) (v3 : Int32) (S : sS) (lv : jL) (μ : jS), jld lv 0 = some (.ref (spl 11 0 0)) → jld lv 1 = some (.int v1) → jld lv 2 = some (.int v2) → jld lv 3 = some (.int v3) → sR S μ → F_43_28 G t tt v1 v2 v3 S = some (r, S') → jX G jP 43 28 lv [] μ Q := by
  intro tt
  induction tt with
  | zero =>
    intro v1 v2 v3 S lv μ l0 l1 l2 l3 R h
    rw [F_43_28] at h
    cases h
  | succ tt ih =>
    intro v1 v2 v3 S lv μ l0 l1 l2 l3 R h
    rw [F_43_28] at h
    refine jX.lin l3 (by rfl) (by rfl) (?_ : jX G jP 43 29 lv [.int v3] μ Q)
    refine jX.ic (v := nI 600) (n := 3) (by rfl) (by rfl) (by decide) (?_ : jX G jP 43 32 lv [.int (nI 600), .int v3] μ Q)
    rcases bif_or h with ⟨hc, h⟩ | ⟨hc, h⟩
    · refine jX.b2t hc (by rfl) (by rfl) (by rfl) (?_ : jX G jP 43 168 lv [] μ Q)
      refine jX.lin l2 (by rfl) (by rfl) (?_ : jX G jP 43 169 lv [.int v2] μ Q)
      refine jX.lrn l0 (by rfl) (by rfl) (?_ : jX G jP 43 170 lv [.ref (spl 11 0 0), .int v2] μ Q)
      refine jX.sg R (by rfl) (by rfl) (by rfl) (by rfl) (by rfl) (by rfl) (?_ : jX G jP 43 173 lv [.ref (spl 15 0 0), .int v2] μ Q)
      refine jX.sg R (by rfl) (by rfl) (by rfl) (by rfl) (by rfl) (by rfl) (?_ : jX G jP 43 176 lv [.int (S.1 15 0 0 2), .int v2] μ Q)
      rcases bif_or h with ⟨hc, h⟩ | ⟨hc, h⟩
      · refine jX.b2t hc (by rfl) (by rfl) (by rfl) (?_ : jX G jP 43 183 lv [] μ Q)
        refine jX.lin l1 (by rfl) (by rfl) (?_ : jX G jP 43 184 lv [.int v1] μ Q)
        refine jX.ic (v := nI 1) (n := 1) (by rfl) (by rfl) (by decide) (?_ : jX G jP 43 185 lv [.int (nI 1), .int v1] μ Q)
        refine jX.go (by rfl) (by rfl) (by rfl) (?_ : jX G jP 43 186 lv [.int (v1 + (nI 1))] μ Q)
        exact jX.ret (by rfl) (by rfl) (by rfl) (by rfl) (sretv (f := srI) h K R)
      · refine jX.b2f hc (by rfl) (by rfl) (by rfl) (?_ : jX G jP 43 179 lv [] μ Q)
        refine jX.lin l1 (by rfl) (by rfl) (?_ : jX G jP 43 180 lv [.int v1] μ Q)
        refine jX.go (by rfl) (by rfl) (by rfl) (?_ : jX G jP 43 186 lv [.int v1] μ Q)
        exact jX.ret (by rfl) (by rfl) (by rfl) (by rfl) (sretv (f := srI) h K R)
    · refine jX.b2f hc (by rfl) (by rfl) (by rfl) (?_ : jX G jP 43 35 lv [] μ Q)
      refine jX.lrn l0 (by rfl) (by rfl) (?_ : jX G jP 43 36 lv [.ref (spl 11 0 0)] μ Q)
      refine jX.sg R (by rfl) (by rfl) (by rfl) (by rfl) (by rfl) (by rfl) (?_ : jX G jP 43 39 lv [.ref (spl 15 0 0)] μ Q)
      refine jX.sg R (by rfl) (by rfl) (by rfl) (by rfl) (by rfl) (by rfl) (?_ : jX G jP 43 42 lv [.ref (spl 16 0 0)] μ Q)
      refine jX.lin l3 (by rfl) (by rfl) (?_ : jX G jP 43 43 lv [.int v3, .ref (spl 16 0 0)] μ Q)
      obtain ⟨g1, h⟩ := jif_some h
      refine jX.sai R (by rfl) (by rfl) (by rfl) (by rfl) g1 (?_ : jX G jP 43 44 lv [.int (S.1 16 0 0 v3.toNatClampNeg)] μ Q)
      refine jX.s1 (k := 4) (pc' := 46) (by rfl) (by rfl) (by rfl) (fun lv l4 kp => (?_ : jX G jP 43 46 lv [] μ Q))
      replace l0 := kp 0 _ l0 (by rfl) (by first | rfl | simp [soR_cat])
      replace l1 := kp 1 _ l1 (by rfl) (by first | rfl | simp [soR_cat])
      replace l2 := kp 2 _ l2 (by rfl) (by first | rfl | simp [soR_cat])
      replace l3 := kp 3 _ l3 (by rfl) (by first | rfl | simp [soR_cat])
      refine jX.li l4 (by rfl) (by rfl) (?_ : jX G jP 43 48 lv [.int (S.1 16 0 0 v3.toNatClampNeg)] μ Q)
      refine jX.ic (v := nI 1) (n := 1) (by rfl) (by rfl) (by decide) (?_ : jX G jP 43 49 lv [.int (nI 1), .int (S.1 16 0 0 v3.toNatClampNeg)] μ Q)
      rcases bif_or h with ⟨hc, h⟩ | ⟨hc, h⟩
      · refine jX.b2t hc (by rfl) (by rfl) (by rfl) (?_ : jX G jP 43 55 lv [] μ Q)
        exact F_43_55_ok ih K v1 v2 v3 (S.1 16 0 0 v3.toNatClampNeg) _ _ _ l0 l1 l2 l3 l4 R h
      · refine jX.b2f hc (by rfl) (by rfl) (by rfl) (?_ : jX G jP 43 52 lv [] μ Q)
        refine jX.inc l2 (by rfl) (by rfl) (by rfl) (fun lv l2 kp => (?_ : jX G jP 43 55 lv [] μ Q))
        replace l0 := kp 0 _ l0 (by rfl) (by first | rfl | simp [soR_cat])
        replace l1 := kp 1 _ l1 (by rfl) (by first | rfl | simp [soR_cat])
        replace l3 := kp 3 _ l3 (by rfl) (by first | rfl | simp [soR_cat])
        replace l4 := kp 4 _ l4 (by rfl) (by first | rfl | simp [soR_cat])
        exact F_43_55_ok ih K v1 (v2 + Int32.ofInt 1) v3 (S.1 16 0 0 v3.toNatClampNeg) _ _ _ l0 l1 l2 l3 l4 R h
def F_43 (G : jG) (t : Nat) (S : sS) : Option (Int32 × sS) := (F_41 G t (0, 2) (0, 0) S).bind (fun q1 => (F_38 G t (0, 2) q1.2).bind (fun q2 => F_43_28 G t t (nI 0) (nI 0) (nI 0) q2.2))
theorem F_43_ok {G : jG} {t : Nat} {S : sS} {r : Int32} {S' : sS} {μ : jS} {Q : Option Value ⊕ Nat → jS → Prop} (R : sR S μ) (h : F_43 G t S = some (r, S')) (K : ∀ μ', sR S' μ' → Q (srI r) μ') : jX G jP 43 0 (lv_args 0 [.ref (spl 11 0 0)]) [] μ Q := by
  unfold F_43 at h
  have l0 : jld (lv_args 0 [.ref (spl 11 0 0)]) 0 = some (.ref (spl 11 0 0)) := by rfl
  generalize lv_args 0 [.ref (spl 11 0 0)] = lv at *
  refine jX.lrn l0 (by rfl) (by rfl) (?_ : jX G jP 43 1 lv [.ref (spl 11 0 0)] μ Q)
  refine jX.sg R (by rfl) (by rfl) (by rfl) (by rfl) (by rfl) (by rfl) (?_ : jX G jP 43 4 lv [.ref (spl 15 0 2)] μ Q)
  refine jX.lrn l0 (by rfl) (by rfl) (?_ : jX G jP 43 5 lv [.ref (spl 11 0 0), .ref (spl 15 0 2)] μ Q)
  refine jX.sg R (by rfl) (by rfl) (by rfl) (by rfl) (by rfl) (by rfl) (?_ : jX G jP 43 8 lv [.ref (spl 15 0 0), .ref (spl 15 0 2)] μ Q)
  obtain ⟨q1, e1, h⟩ := sbd h
  refine jX.cv (by rfl) (by rfl) (by rfl) (by rfl) (by rfl) (by rfl) (by rfl) (R.rec (by rfl) (by rfl)) (Nat.le_of_ble_eq_true rfl) (Nat.le_of_ble_eq_true rfl) (F_41_ok R e1 (fun μ R => ⟨rfl, (?_ : jX G jP 43 11 lv [] μ Q)⟩))
  refine jX.lrn l0 (by rfl) (by rfl) (?_ : jX G jP 43 12 lv [.ref (spl 11 0 0)] μ Q)
  refine jX.sg R (by rfl) (by rfl) (by rfl) (by rfl) (by rfl) (by rfl) (?_ : jX G jP 43 15 lv [.ref (spl 15 0 2)] μ Q)
  refine jX.lrn l0 (by rfl) (by rfl) (?_ : jX G jP 43 16 lv [.ref (spl 11 0 0), .ref (spl 15 0 2)] μ Q)
  refine jX.sg R (by rfl) (by rfl) (by rfl) (by rfl) (by rfl) (by rfl) (?_ : jX G jP 43 19 lv [.ref (spl 12 0 0), .ref (spl 15 0 2)] μ Q)
  obtain ⟨q2, e2, h⟩ := sbd h
  refine jX.cv (by rfl) (by rfl) (by rfl) (by rfl) (by rfl) (by rfl) (by rfl) (R.rec (by rfl) (by rfl)) (Nat.le_of_ble_eq_true rfl) (Nat.le_of_ble_eq_true rfl) (F_38_ok R e2 (fun μ R => ⟨rfl, (?_ : jX G jP 43 22 lv [] μ Q)⟩))
  refine jX.ic (v := nI 0) (n := 1) (by rfl) (by rfl) (by decide) (?_ : jX G jP 43 23 lv [.int (nI 0)] μ Q)
  refine jX.s1 (k := 1) (pc' := 24) (by rfl) (by rfl) (by rfl) (fun lv l1 kp => (?_ : jX G jP 43 24 lv [] μ Q))
  replace l0 := kp 0 _ l0 (by rfl) (by first | rfl | simp [soR_cat])
  refine jX.ic (v := nI 0) (n := 1) (by rfl) (by rfl) (by decide) (?_ : jX G jP 43 25 lv [.int (nI 0)] μ Q)
  refine jX.s1 (k := 2) (pc' := 26) (by rfl) (by rfl) (by rfl) (fun lv l2 kp => (?_ : jX G jP 43 26 lv [] μ Q))
  replace l0 := kp 0 _ l0 (by rfl) (by first | rfl | simp [soR_cat])
  replace l1 := kp 1 _ l1 (by rfl) (by first | rfl | simp [soR_cat])
  refine jX.ic (v := nI 0) (n := 1) (by rfl) (by rfl) (by decide) (?_ : jX G jP 43 27 lv [.int (nI 0)] μ Q)
  refine jX.s1 (k := 3) (pc' := 28) (by rfl) (by rfl) (by rfl) (fun lv l3 kp => (?_ : jX G jP 43 28 lv [] μ Q))
  replace l0 := kp 0 _ l0 (by rfl) (by first | rfl | simp [soR_cat])
  replace l1 := kp 1 _ l1 (by rfl) (by first | rfl | simp [soR_cat])
  replace l2 := kp 2 _ l2 (by rfl) (by first | rfl | simp [soR_cat])
  exact F_43_28_ok  K _ (nI 0) (nI 0) (nI 0) _ _ _ l0 l1 l2 l3 R h
/-! 44 StrandRuntime$Heap.faults()I -/
def F_44 (G : jG) (t : Nat) (S : sS) : Option (Int32 × sS) := (F_39 G t S).bind (fun q1 => (F_40 G t q1.2).bind (fun q2 => (F_43 G t q2.2).bind (fun q3 => some ((q2.1 + q3.1), q3.2))))
theorem F_44_ok {G : jG} {t : Nat} {S : sS} {r : Int32} {S' : sS} {μ : jS} {Q : Option Value ⊕ Nat → jS → Prop} (R : sR S μ) (h : F_44 G t S = some (r, S')) (K : ∀ μ', sR S' μ' → Q (srI r) μ') : jX G jP 44 0 (lv_args 0 [.ref (spl 11 0 0)]) [] μ Q := by
  unfold F_44 at h
  have l0 : jld (lv_args 0 [.ref (spl 11 0 0)]) 0 = some (.ref (spl 11 0 0)) := by rfl
  generalize lv_args 0 [.ref (spl 11 0 0)] = lv at *
  refine jX.lrn l0 (by rfl) (by rfl) (?_ : jX G jP 44 1 lv [.ref (spl 11 0 0)] μ Q)
  obtain ⟨q1, e1, h⟩ := sbd h
  refine jX.cv (by rfl) (by rfl) (by rfl) (by rfl) (by rfl) (by rfl) (by rfl) (R.rec (by rfl) (by rfl)) (Nat.le_of_ble_eq_true rfl) (Nat.le_of_ble_eq_true rfl) (F_39_ok R e1 (fun μ R => ⟨rfl, (?_ : jX G jP 44 4 lv [] μ Q)⟩))
  refine jX.lrn l0 (by rfl) (by rfl) (?_ : jX G jP 44 5 lv [.ref (spl 11 0 0)] μ Q)
  obtain ⟨q2, e2, h⟩ := sbd h
  refine jX.c1 (v := .int q2.1) (by rfl) (by rfl) (by rfl) (by rfl) (by rfl) (by rfl) (by rfl) (R.rec (by rfl) (by rfl)) (Nat.le_of_ble_eq_true rfl) (Nat.le_of_ble_eq_true rfl) (F_40_ok R e2 (fun μ R => ⟨rfl, (?_ : jX G jP 44 8 lv [.int q2.1] μ Q)⟩))
  refine jX.lrn l0 (by rfl) (by rfl) (?_ : jX G jP 44 9 lv [.ref (spl 11 0 0), .int q2.1] μ Q)
  obtain ⟨q3, e3, h⟩ := sbd h
  refine jX.c1 (v := .int q3.1) (by rfl) (by rfl) (by rfl) (by rfl) (by rfl) (by rfl) (by rfl) (R.rec (by rfl) (by rfl)) (Nat.le_of_ble_eq_true rfl) (Nat.le_of_ble_eq_true rfl) (F_43_ok R e3 (fun μ R => ⟨rfl, (?_ : jX G jP 44 12 lv [.int q3.1, .int q2.1] μ Q)⟩))
  refine jX.go (by rfl) (by rfl) (by rfl) (?_ : jX G jP 44 13 lv [.int (q2.1 + q3.1)] μ Q)
  exact jX.ret (by rfl) (by rfl) (by rfl) (by rfl) (sretv (f := srI) h K R)
/-! 45 StrandRuntime.check()I -/
def F_45 (G : jG) (t : Nat) (S : sS) : Option (Int32 × sS) := (F_44 G t S).bind (fun q1 => some (q1.1, q1.2))
theorem F_45_ok {G : jG} {t : Nat} {S : sS} {r : Int32} {S' : sS} {μ : jS} {Q : Option Value ⊕ Nat → jS → Prop} (R : sR S μ) (h : F_45 G t S = some (r, S')) (K : ∀ μ', sR S' μ' → Q (srI r) μ') : jX G jP 45 0 (lv_args 0 [.ref (spl 0 0 0)]) [] μ Q := by
  unfold F_45 at h
  have l0 : jld (lv_args 0 [.ref (spl 0 0 0)]) 0 = some (.ref (spl 0 0 0)) := by rfl
  generalize lv_args 0 [.ref (spl 0 0 0)] = lv at *
  refine jX.lrn l0 (by rfl) (by rfl) (?_ : jX G jP 45 1 lv [.ref (spl 0 0 0)] μ Q)
  refine jX.sg R (by rfl) (by rfl) (by rfl) (by rfl) (by rfl) (by rfl) (?_ : jX G jP 45 4 lv [.ref (spl 11 0 0)] μ Q)
  obtain ⟨q1, e1, h⟩ := sbd h
  refine jX.c1 (v := .int q1.1) (by rfl) (by rfl) (by rfl) (by rfl) (by rfl) (by rfl) (by rfl) (R.rec (by rfl) (by rfl)) (Nat.le_of_ble_eq_true rfl) (Nat.le_of_ble_eq_true rfl) (F_44_ok R e1 (fun μ R => ⟨rfl, (?_ : jX G jP 45 7 lv [.int q1.1] μ Q)⟩))
  exact jX.ret (by rfl) (by rfl) (by rfl) (by rfl) (sretv (f := srI) h K R)
/-! 46 StrandRuntime$Program.forget()V -/
def F_46 (G : jG) (t : Nat) (S : sS) : Option (Unit × sS) := some ((), (siI (siI S 1 0 0 6 (nI 0)) 1 0 0 7 (nI 0)))
theorem F_46_ok {G : jG} {t : Nat} {S : sS} {r : Unit} {S' : sS} {μ : jS} {Q : Option Value ⊕ Nat → jS → Prop} (R : sR S μ) (h : F_46 G t S = some (r, S')) (K : ∀ μ', sR S' μ' → Q (srV r) μ') : jX G jP 46 0 (lv_args 0 [.ref (spl 1 0 0)]) [] μ Q := by
  unfold F_46 at h
  have l0 : jld (lv_args 0 [.ref (spl 1 0 0)]) 0 = some (.ref (spl 1 0 0)) := by rfl
  generalize lv_args 0 [.ref (spl 1 0 0)] = lv at *
  refine jX.lrn l0 (by rfl) (by rfl) (?_ : jX G jP 46 1 lv [.ref (spl 1 0 0)] μ Q)
  refine jX.ic (v := nI 0) (n := 1) (by rfl) (by rfl) (by decide) (?_ : jX G jP 46 2 lv [.int (nI 0), .ref (spl 1 0 0)] μ Q)
  refine jX.spI R (by rfl) (by rfl) (by rfl) (by rfl) (by rfl) (by rfl) (by rfl) (by rfl) (by rfl) (fun μ R => (?_ : jX G jP 46 5 lv [] μ Q))
  refine jX.lrn l0 (by rfl) (by rfl) (?_ : jX G jP 46 6 lv [.ref (spl 1 0 0)] μ Q)
  refine jX.ic (v := nI 0) (n := 1) (by rfl) (by rfl) (by decide) (?_ : jX G jP 46 7 lv [.int (nI 0), .ref (spl 1 0 0)] μ Q)
  refine jX.spI R (by rfl) (by rfl) (by rfl) (by rfl) (by rfl) (by rfl) (by rfl) (by rfl) (by rfl) (fun μ R => (?_ : jX G jP 46 10 lv [] μ Q))
  exact jX.ret (by rfl) (by rfl) (by rfl) (by rfl) (sretv (f := srV) h K R)
/-! 47 StrandRuntime.clear()I -/
def F_47 (G : jG) (t : Nat) (S : sS) : Option (Int32 × sS) := (F_21 G t S).bind (fun q1 => (F_46 G t q1.2).bind (fun q2 => some ((S.1 1 0 0 6), q2.2)))
theorem F_47_ok {G : jG} {t : Nat} {S : sS} {r : Int32} {S' : sS} {μ : jS} {Q : Option Value ⊕ Nat → jS → Prop} (R : sR S μ) (h : F_47 G t S = some (r, S')) (K : ∀ μ', sR S' μ' → Q (srI r) μ') : jX G jP 47 0 (lv_args 0 [.ref (spl 0 0 0)]) [] μ Q := by
  unfold F_47 at h
  have l0 : jld (lv_args 0 [.ref (spl 0 0 0)]) 0 = some (.ref (spl 0 0 0)) := by rfl
  generalize lv_args 0 [.ref (spl 0 0 0)] = lv at *
  refine jX.lrn l0 (by rfl) (by rfl) (?_ : jX G jP 47 1 lv [.ref (spl 0 0 0)] μ Q)
  refine jX.sg R (by rfl) (by rfl) (by rfl) (by rfl) (by rfl) (by rfl) (?_ : jX G jP 47 4 lv [.ref (spl 1 0 0)] μ Q)
  refine jX.sg R (by rfl) (by rfl) (by rfl) (by rfl) (by rfl) (by rfl) (?_ : jX G jP 47 7 lv [.int (S.1 1 0 0 6)] μ Q)
  refine jX.s1 (k := 1) (pc' := 8) (by rfl) (by rfl) (by rfl) (fun lv l1 kp => (?_ : jX G jP 47 8 lv [] μ Q))
  replace l0 := kp 0 _ l0 (by rfl) (by first | rfl | simp [soR_cat])
  refine jX.lrn l0 (by rfl) (by rfl) (?_ : jX G jP 47 9 lv [.ref (spl 0 0 0)] μ Q)
  refine jX.sg R (by rfl) (by rfl) (by rfl) (by rfl) (by rfl) (by rfl) (?_ : jX G jP 47 12 lv [.ref (spl 23 0 0)] μ Q)
  obtain ⟨q1, e1, h⟩ := sbd h
  refine jX.cv (by rfl) (by rfl) (by rfl) (by rfl) (by rfl) (by rfl) (by rfl) (R.rec (by rfl) (by rfl)) (Nat.le_of_ble_eq_true rfl) (Nat.le_of_ble_eq_true rfl) (F_21_ok R e1 (fun μ R => ⟨rfl, (?_ : jX G jP 47 15 lv [] μ Q)⟩))
  refine jX.lrn l0 (by rfl) (by rfl) (?_ : jX G jP 47 16 lv [.ref (spl 0 0 0)] μ Q)
  refine jX.sg R (by rfl) (by rfl) (by rfl) (by rfl) (by rfl) (by rfl) (?_ : jX G jP 47 19 lv [.ref (spl 1 0 0)] μ Q)
  obtain ⟨q2, e2, h⟩ := sbd h
  refine jX.cv (by rfl) (by rfl) (by rfl) (by rfl) (by rfl) (by rfl) (by rfl) (R.rec (by rfl) (by rfl)) (Nat.le_of_ble_eq_true rfl) (Nat.le_of_ble_eq_true rfl) (F_46_ok R e2 (fun μ R => ⟨rfl, (?_ : jX G jP 47 22 lv [] μ Q)⟩))
  refine jX.lin l1 (by rfl) (by rfl) (?_ : jX G jP 47 23 lv [.int (S.1 1 0 0 6)] μ Q)
  exact jX.ret (by rfl) (by rfl) (by rfl) (by rfl) (sretv (f := srI) h K R)
/-! 48 StrandRuntime$Program.allows(II)Z -/
def F_48_136 (G : jG) (t : Nat) (v2 : Int32) (S : sS) : Option (Int32 × sS) := bif jcmp .lt v2 0 then (some ((nI 0), S)) else ((F_24 G t ((S.1 1 0 0 6) - (nI 1)) S).bind (fun q1 => bif jcmp .ge v2 q1.1 then (some ((nI 0), q1.2)) else (some ((nI 1), q1.2))))
theorem F_48_136_ok {G : jG} {t : Nat} {r : Int32} {S' : sS} {Q : Option Value ⊕ Nat → jS → Prop} (K : ∀ μ', sR S' μ' → Q (srI r) μ') : ∀ (v2 : Int32) (S : sS) (lv : jL) (μ : jS), jld lv 0 = some (.ref (spl 1 0 0)) → jld lv 2 = some (.int v2) → sR S μ → F_48_136 G t v2 S = some (r, S') → jX G jP 48 136 lv [] μ Q := by
  intro v2 S lv μ l0 l2 R h
  unfold F_48_136 at h
  refine jX.lin l2 (by rfl) (by rfl) (?_ : jX G jP 48 137 lv [.int v2] μ Q)
  rcases bif_or h with ⟨hc, h⟩ | ⟨hc, h⟩
  · refine jX.b1t hc (by rfl) (by rfl) (by rfl) (?_ : jX G jP 48 158 lv [] μ Q)
    refine jX.ic (v := nI 0) (n := 1) (by rfl) (by rfl) (by decide) (?_ : jX G jP 48 159 lv [.int (nI 0)] μ Q)
    exact jX.ret (by rfl) (by rfl) (by rfl) (by rfl) (sretv (f := srI) h K R)
  · refine jX.b1f hc (by rfl) (by rfl) (by rfl) (?_ : jX G jP 48 140 lv [] μ Q)
    refine jX.lin l2 (by rfl) (by rfl) (?_ : jX G jP 48 141 lv [.int v2] μ Q)
    refine jX.lrn l0 (by rfl) (by rfl) (?_ : jX G jP 48 142 lv [.ref (spl 1 0 0), .int v2] μ Q)
    refine jX.lrn l0 (by rfl) (by rfl) (?_ : jX G jP 48 143 lv [.ref (spl 1 0 0), .ref (spl 1 0 0), .int v2] μ Q)
    refine jX.sg R (by rfl) (by rfl) (by rfl) (by rfl) (by rfl) (by rfl) (?_ : jX G jP 48 146 lv [.int (S.1 1 0 0 6), .ref (spl 1 0 0), .int v2] μ Q)
    refine jX.ic (v := nI 1) (n := 1) (by rfl) (by rfl) (by decide) (?_ : jX G jP 48 147 lv [.int (nI 1), .int (S.1 1 0 0 6), .ref (spl 1 0 0), .int v2] μ Q)
    refine jX.go (by rfl) (by rfl) (by rfl) (?_ : jX G jP 48 148 lv [.int ((S.1 1 0 0 6) - (nI 1)), .ref (spl 1 0 0), .int v2] μ Q)
    obtain ⟨q1, e1, h⟩ := sbd h
    refine jX.c1 (v := .int q1.1) (by rfl) (by rfl) (by rfl) (by rfl) (by rfl) (by rfl) (by rfl) (R.rec (by rfl) (by rfl)) (Nat.le_of_ble_eq_true rfl) (Nat.le_of_ble_eq_true rfl) (F_24_ok R e1 (fun μ R => ⟨rfl, (?_ : jX G jP 48 151 lv [.int q1.1, .int v2] μ Q)⟩))
    rcases bif_or h with ⟨hc, h⟩ | ⟨hc, h⟩
    · refine jX.b2t hc (by rfl) (by rfl) (by rfl) (?_ : jX G jP 48 158 lv [] μ Q)
      refine jX.ic (v := nI 0) (n := 1) (by rfl) (by rfl) (by decide) (?_ : jX G jP 48 159 lv [.int (nI 0)] μ Q)
      exact jX.ret (by rfl) (by rfl) (by rfl) (by rfl) (sretv (f := srI) h K R)
    · refine jX.b2f hc (by rfl) (by rfl) (by rfl) (?_ : jX G jP 48 154 lv [] μ Q)
      refine jX.ic (v := nI 1) (n := 1) (by rfl) (by rfl) (by decide) (?_ : jX G jP 48 155 lv [.int (nI 1)] μ Q)
      refine jX.go (by rfl) (by rfl) (by rfl) (?_ : jX G jP 48 159 lv [.int (nI 1)] μ Q)
      exact jX.ret (by rfl) (by rfl) (by rfl) (by rfl) (sretv (f := srI) h K R)
def F_48_160 (G : jG) (t : Nat) (v2 : Int32) (S : sS) : Option (Int32 × sS) := bif jcmp .lt v2 0 then (some ((nI 0), S)) else (bif jcmp .ge v2 (nI 16) then (some ((nI 0), S)) else (some ((nI 1), S)))
theorem F_48_160_ok {G : jG} {t : Nat} {r : Int32} {S' : sS} {Q : Option Value ⊕ Nat → jS → Prop} (K : ∀ μ', sR S' μ' → Q (srI r) μ') : ∀ (v2 : Int32) (S : sS) (lv : jL) (μ : jS), jld lv 2 = some (.int v2) → sR S μ → F_48_160 G t v2 S = some (r, S') → jX G jP 48 160 lv [] μ Q := by
  intro v2 S lv μ l2 R h
  unfold F_48_160 at h
  refine jX.lin l2 (by rfl) (by rfl) (?_ : jX G jP 48 161 lv [.int v2] μ Q)
  rcases bif_or h with ⟨hc, h⟩ | ⟨hc, h⟩
  · refine jX.b1t hc (by rfl) (by rfl) (by rfl) (?_ : jX G jP 48 174 lv [] μ Q)
    refine jX.ic (v := nI 0) (n := 1) (by rfl) (by rfl) (by decide) (?_ : jX G jP 48 175 lv [.int (nI 0)] μ Q)
    exact jX.ret (by rfl) (by rfl) (by rfl) (by rfl) (sretv (f := srI) h K R)
  · refine jX.b1f hc (by rfl) (by rfl) (by rfl) (?_ : jX G jP 48 164 lv [] μ Q)
    refine jX.lin l2 (by rfl) (by rfl) (?_ : jX G jP 48 165 lv [.int v2] μ Q)
    refine jX.ic (v := nI 16) (n := 2) (by rfl) (by rfl) (by decide) (?_ : jX G jP 48 167 lv [.int (nI 16), .int v2] μ Q)
    rcases bif_or h with ⟨hc, h⟩ | ⟨hc, h⟩
    · refine jX.b2t hc (by rfl) (by rfl) (by rfl) (?_ : jX G jP 48 174 lv [] μ Q)
      refine jX.ic (v := nI 0) (n := 1) (by rfl) (by rfl) (by decide) (?_ : jX G jP 48 175 lv [.int (nI 0)] μ Q)
      exact jX.ret (by rfl) (by rfl) (by rfl) (by rfl) (sretv (f := srI) h K R)
    · refine jX.b2f hc (by rfl) (by rfl) (by rfl) (?_ : jX G jP 48 170 lv [] μ Q)
      refine jX.ic (v := nI 1) (n := 1) (by rfl) (by rfl) (by decide) (?_ : jX G jP 48 171 lv [.int (nI 1)] μ Q)
      refine jX.go (by rfl) (by rfl) (by rfl) (?_ : jX G jP 48 175 lv [.int (nI 1)] μ Q)
      exact jX.ret (by rfl) (by rfl) (by rfl) (by rfl) (sretv (f := srI) h K R)
def F_48_192 (G : jG) (t : Nat) (v2 : Int32) (S : sS) : Option (Int32 × sS) := bif jcmp .lt v2 0 then (some ((nI 0), S)) else (bif jcmp .ge v2 (nI 16) then (some ((nI 0), S)) else (some ((nI 1), S)))
theorem F_48_192_ok {G : jG} {t : Nat} {r : Int32} {S' : sS} {Q : Option Value ⊕ Nat → jS → Prop} (K : ∀ μ', sR S' μ' → Q (srI r) μ') : ∀ (v2 : Int32) (S : sS) (lv : jL) (μ : jS), jld lv 2 = some (.int v2) → sR S μ → F_48_192 G t v2 S = some (r, S') → jX G jP 48 192 lv [] μ Q := by
  intro v2 S lv μ l2 R h
  unfold F_48_192 at h
  refine jX.lin l2 (by rfl) (by rfl) (?_ : jX G jP 48 193 lv [.int v2] μ Q)
  rcases bif_or h with ⟨hc, h⟩ | ⟨hc, h⟩
  · refine jX.b1t hc (by rfl) (by rfl) (by rfl) (?_ : jX G jP 48 206 lv [] μ Q)
    refine jX.ic (v := nI 0) (n := 1) (by rfl) (by rfl) (by decide) (?_ : jX G jP 48 207 lv [.int (nI 0)] μ Q)
    exact jX.ret (by rfl) (by rfl) (by rfl) (by rfl) (sretv (f := srI) h K R)
  · refine jX.b1f hc (by rfl) (by rfl) (by rfl) (?_ : jX G jP 48 196 lv [] μ Q)
    refine jX.lin l2 (by rfl) (by rfl) (?_ : jX G jP 48 197 lv [.int v2] μ Q)
    refine jX.ic (v := nI 16) (n := 2) (by rfl) (by rfl) (by decide) (?_ : jX G jP 48 199 lv [.int (nI 16), .int v2] μ Q)
    rcases bif_or h with ⟨hc, h⟩ | ⟨hc, h⟩
    · refine jX.b2t hc (by rfl) (by rfl) (by rfl) (?_ : jX G jP 48 206 lv [] μ Q)
      refine jX.ic (v := nI 0) (n := 1) (by rfl) (by rfl) (by decide) (?_ : jX G jP 48 207 lv [.int (nI 0)] μ Q)
      exact jX.ret (by rfl) (by rfl) (by rfl) (by rfl) (sretv (f := srI) h K R)
    · refine jX.b2f hc (by rfl) (by rfl) (by rfl) (?_ : jX G jP 48 202 lv [] μ Q)
      refine jX.ic (v := nI 1) (n := 1) (by rfl) (by rfl) (by decide) (?_ : jX G jP 48 203 lv [.int (nI 1)] μ Q)
      refine jX.go (by rfl) (by rfl) (by rfl) (?_ : jX G jP 48 207 lv [.int (nI 1)] μ Q)
      exact jX.ret (by rfl) (by rfl) (by rfl) (by rfl) (sretv (f := srI) h K R)
def F_48_238 (G : jG) (t : Nat) (w0 : Int32) (S : sS) : Option (Int32 × sS) := bif jcmp .lt w0 (nI 1) then (some ((nI 0), S)) else (bif jcmp .gt w0 (nI 4) then (some ((nI 0), S)) else (some ((nI 1), S)))
theorem F_48_238_ok {G : jG} {t : Nat} {r : Int32} {S' : sS} {Q : Option Value ⊕ Nat → jS → Prop} (K : ∀ μ', sR S' μ' → Q (srI r) μ') : ∀ (w0 : Int32) (S : sS) (lv : jL) (μ : jS), sR S μ → F_48_238 G t w0 S = some (r, S') → jX G jP 48 238 lv [.int w0] μ Q := by
  intro w0 S lv μ R h
  unfold F_48_238 at h
  refine jX.s1 (k := 3) (pc' := 239) (by rfl) (by rfl) (by rfl) (fun lv l3 kp => (?_ : jX G jP 48 239 lv [] μ Q))
  refine jX.lin l3 (by rfl) (by rfl) (?_ : jX G jP 48 240 lv [.int w0] μ Q)
  refine jX.ic (v := nI 1) (n := 1) (by rfl) (by rfl) (by decide) (?_ : jX G jP 48 241 lv [.int (nI 1), .int w0] μ Q)
  rcases bif_or h with ⟨hc, h⟩ | ⟨hc, h⟩
  · refine jX.b2t hc (by rfl) (by rfl) (by rfl) (?_ : jX G jP 48 253 lv [] μ Q)
    refine jX.ic (v := nI 0) (n := 1) (by rfl) (by rfl) (by decide) (?_ : jX G jP 48 254 lv [.int (nI 0)] μ Q)
    exact jX.ret (by rfl) (by rfl) (by rfl) (by rfl) (sretv (f := srI) h K R)
  · refine jX.b2f hc (by rfl) (by rfl) (by rfl) (?_ : jX G jP 48 244 lv [] μ Q)
    refine jX.lin l3 (by rfl) (by rfl) (?_ : jX G jP 48 245 lv [.int w0] μ Q)
    refine jX.ic (v := nI 4) (n := 1) (by rfl) (by rfl) (by decide) (?_ : jX G jP 48 246 lv [.int (nI 4), .int w0] μ Q)
    rcases bif_or h with ⟨hc, h⟩ | ⟨hc, h⟩
    · refine jX.b2t hc (by rfl) (by rfl) (by rfl) (?_ : jX G jP 48 253 lv [] μ Q)
      refine jX.ic (v := nI 0) (n := 1) (by rfl) (by rfl) (by decide) (?_ : jX G jP 48 254 lv [.int (nI 0)] μ Q)
      exact jX.ret (by rfl) (by rfl) (by rfl) (by rfl) (sretv (f := srI) h K R)
    · refine jX.b2f hc (by rfl) (by rfl) (by rfl) (?_ : jX G jP 48 249 lv [] μ Q)
      refine jX.ic (v := nI 1) (n := 1) (by rfl) (by rfl) (by decide) (?_ : jX G jP 48 250 lv [.int (nI 1)] μ Q)
      refine jX.go (by rfl) (by rfl) (by rfl) (?_ : jX G jP 48 254 lv [.int (nI 1)] μ Q)
      exact jX.ret (by rfl) (by rfl) (by rfl) (by rfl) (sretv (f := srI) h K R)
def F_48 (G : jG) (t : Nat) (v1 : Int32) (v2 : Int32) (S : sS) : Option (Int32 × sS) := bif decide (v1.toInt < 2 ∨ 31 < v1.toInt) then (some ((nI 1), S)) else (bif decide (v1 = nI 2) then (F_48_136 G t v2 S) else (bif decide (v1 = nI 3) then (F_48_136 G t v2 S) else (bif decide (v1 = nI 4) then (F_48_160 G t v2 S) else (bif decide (v1 = nI 5) then (F_48_160 G t v2 S) else (bif decide (v1 = nI 6) then (some ((nI 1), S)) else (bif decide (v1 = nI 7) then (some ((nI 1), S)) else (bif decide (v1 = nI 8) then (some ((nI 1), S)) else (bif decide (v1 = nI 9) then (some ((nI 1), S)) else (bif decide (v1 = nI 10) then (some ((nI 1), S)) else (bif decide (v1 = nI 11) then (some ((nI 1), S)) else (bif decide (v1 = nI 12) then (some ((nI 1), S)) else (bif decide (v1 = nI 13) then (some ((nI 1), S)) else (bif decide (v1 = nI 14) then (some ((nI 1), S)) else (bif decide (v1 = nI 15) then (some ((nI 1), S)) else (bif decide (v1 = nI 16) then (some ((nI 1), S)) else (bif decide (v1 = nI 17) then (some ((nI 1), S)) else (bif decide (v1 = nI 18) then (some ((nI 1), S)) else (bif decide (v1 = nI 19) then (some ((nI 1), S)) else (bif decide (v1 = nI 20) then (some ((nI 1), S)) else (bif decide (v1 = nI 21) then (bif jcmp .lt v2 0 then (some ((nI 0), S)) else (bif jcmp .gt v2 (nI 16) then (some ((nI 0), S)) else (some ((nI 1), S)))) else (bif decide (v1 = nI 22) then (F_48_192 G t v2 S) else (bif decide (v1 = nI 23) then (F_48_192 G t v2 S) else (bif decide (v1 = nI 24) then (some ((nI 1), S)) else (bif decide (v1 = nI 25) then (some ((nI 1), S)) else (bif decide (v1 = nI 26) then (some ((nI 1), S)) else (bif decide (v1 = nI 27) then (bif jcmp .lt v2 0 then (some ((nI 0), S)) else (bif jcmp .gt v2 (nI 8) then (some ((nI 0), S)) else (some ((nI 1), S)))) else (bif decide (v1 = nI 28) then (some ((nI 1), S)) else (bif decide (v1 = nI 29) then (some ((nI 1), S)) else (bif decide (v1 = nI 30) then (some ((nI 1), S)) else (bif decide (v1 = nI 31) then (bif jcmp .lt v2 (nI 8) then (F_48_238 G t v2 S) else (F_48_238 G t (v2 - (nI 8)) S)) else (none)))))))))))))))))))))))))))))))
theorem F_48_ok {G : jG} {t : Nat} {v1 : Int32} {v2 : Int32} {S : sS} {r : Int32} {S' : sS} {μ : jS} {Q : Option Value ⊕ Nat → jS → Prop} (R : sR S μ) (h : F_48 G t v1 v2 S = some (r, S')) (K : ∀ μ', sR S' μ' → Q (srI r) μ') : jX G jP 48 0 (lv_args 0 [.ref (spl 1 0 0), .int v1, .int v2]) [] μ Q := by
  unfold F_48 at h
  have l0 : jld (lv_args 0 [.ref (spl 1 0 0), .int v1, .int v2]) 0 = some (.ref (spl 1 0 0)) := by rfl
  have l1 : jld (lv_args 0 [.ref (spl 1 0 0), .int v1, .int v2]) 1 = some (.int v1) := by rfl
  have l2 : jld (lv_args 0 [.ref (spl 1 0 0), .int v1, .int v2]) 2 = some (.int v2) := by rfl
  generalize lv_args 0 [.ref (spl 1 0 0), .int v1, .int v2] = lv at *
  refine jX.lin l1 (by rfl) (by rfl) (?_ : jX G jP 48 1 lv [.int v1] μ Q)
  rcases bif_or h with ⟨hc, h⟩ | ⟨-, h⟩
  · refine jX.swd hc (by rfl) (by rfl) (by rfl) (?_ : jX G jP 48 255 lv [] μ Q)
    refine jX.ic (v := nI 1) (n := 1) (by rfl) (by rfl) (by decide) (?_ : jX G jP 48 256 lv [.int (nI 1)] μ Q)
    exact jX.ret (by rfl) (by rfl) (by rfl) (by rfl) (sretv (f := srI) h K R)
  rcases bif_or h with ⟨hc, h⟩ | ⟨-, h⟩
  · refine jX.swn hc (by rfl) (by rfl) (by rfl) (?_ : jX G jP 48 136 lv [] μ Q)
    exact F_48_136_ok  K v2 _ _ _ l0 l2 R h
  rcases bif_or h with ⟨hc, h⟩ | ⟨-, h⟩
  · refine jX.swn hc (by rfl) (by rfl) (by rfl) (?_ : jX G jP 48 136 lv [] μ Q)
    exact F_48_136_ok  K v2 _ _ _ l0 l2 R h
  rcases bif_or h with ⟨hc, h⟩ | ⟨-, h⟩
  · refine jX.swn hc (by rfl) (by rfl) (by rfl) (?_ : jX G jP 48 160 lv [] μ Q)
    exact F_48_160_ok  K v2 _ _ _ l2 R h
  rcases bif_or h with ⟨hc, h⟩ | ⟨-, h⟩
  · refine jX.swn hc (by rfl) (by rfl) (by rfl) (?_ : jX G jP 48 160 lv [] μ Q)
    exact F_48_160_ok  K v2 _ _ _ l2 R h
  rcases bif_or h with ⟨hc, h⟩ | ⟨-, h⟩
  · refine jX.swn hc (by rfl) (by rfl) (by rfl) (?_ : jX G jP 48 255 lv [] μ Q)
    refine jX.ic (v := nI 1) (n := 1) (by rfl) (by rfl) (by decide) (?_ : jX G jP 48 256 lv [.int (nI 1)] μ Q)
    exact jX.ret (by rfl) (by rfl) (by rfl) (by rfl) (sretv (f := srI) h K R)
  rcases bif_or h with ⟨hc, h⟩ | ⟨-, h⟩
  · refine jX.swn hc (by rfl) (by rfl) (by rfl) (?_ : jX G jP 48 255 lv [] μ Q)
    refine jX.ic (v := nI 1) (n := 1) (by rfl) (by rfl) (by decide) (?_ : jX G jP 48 256 lv [.int (nI 1)] μ Q)
    exact jX.ret (by rfl) (by rfl) (by rfl) (by rfl) (sretv (f := srI) h K R)
  rcases bif_or h with ⟨hc, h⟩ | ⟨-, h⟩
  · refine jX.swn hc (by rfl) (by rfl) (by rfl) (?_ : jX G jP 48 255 lv [] μ Q)
    refine jX.ic (v := nI 1) (n := 1) (by rfl) (by rfl) (by decide) (?_ : jX G jP 48 256 lv [.int (nI 1)] μ Q)
    exact jX.ret (by rfl) (by rfl) (by rfl) (by rfl) (sretv (f := srI) h K R)
  rcases bif_or h with ⟨hc, h⟩ | ⟨-, h⟩
  · refine jX.swn hc (by rfl) (by rfl) (by rfl) (?_ : jX G jP 48 255 lv [] μ Q)
    refine jX.ic (v := nI 1) (n := 1) (by rfl) (by rfl) (by decide) (?_ : jX G jP 48 256 lv [.int (nI 1)] μ Q)
    exact jX.ret (by rfl) (by rfl) (by rfl) (by rfl) (sretv (f := srI) h K R)
  rcases bif_or h with ⟨hc, h⟩ | ⟨-, h⟩
  · refine jX.swn hc (by rfl) (by rfl) (by rfl) (?_ : jX G jP 48 255 lv [] μ Q)
    refine jX.ic (v := nI 1) (n := 1) (by rfl) (by rfl) (by decide) (?_ : jX G jP 48 256 lv [.int (nI 1)] μ Q)
    exact jX.ret (by rfl) (by rfl) (by rfl) (by rfl) (sretv (f := srI) h K R)
  rcases bif_or h with ⟨hc, h⟩ | ⟨-, h⟩
  · refine jX.swn hc (by rfl) (by rfl) (by rfl) (?_ : jX G jP 48 255 lv [] μ Q)
    refine jX.ic (v := nI 1) (n := 1) (by rfl) (by rfl) (by decide) (?_ : jX G jP 48 256 lv [.int (nI 1)] μ Q)
    exact jX.ret (by rfl) (by rfl) (by rfl) (by rfl) (sretv (f := srI) h K R)
  rcases bif_or h with ⟨hc, h⟩ | ⟨-, h⟩
  · refine jX.swn hc (by rfl) (by rfl) (by rfl) (?_ : jX G jP 48 255 lv [] μ Q)
    refine jX.ic (v := nI 1) (n := 1) (by rfl) (by rfl) (by decide) (?_ : jX G jP 48 256 lv [.int (nI 1)] μ Q)
    exact jX.ret (by rfl) (by rfl) (by rfl) (by rfl) (sretv (f := srI) h K R)
  rcases bif_or h with ⟨hc, h⟩ | ⟨-, h⟩
  · refine jX.swn hc (by rfl) (by rfl) (by rfl) (?_ : jX G jP 48 255 lv [] μ Q)
    refine jX.ic (v := nI 1) (n := 1) (by rfl) (by rfl) (by decide) (?_ : jX G jP 48 256 lv [.int (nI 1)] μ Q)
    exact jX.ret (by rfl) (by rfl) (by rfl) (by rfl) (sretv (f := srI) h K R)
  rcases bif_or h with ⟨hc, h⟩ | ⟨-, h⟩
  · refine jX.swn hc (by rfl) (by rfl) (by rfl) (?_ : jX G jP 48 255 lv [] μ Q)
    refine jX.ic (v := nI 1) (n := 1) (by rfl) (by rfl) (by decide) (?_ : jX G jP 48 256 lv [.int (nI 1)] μ Q)
    exact jX.ret (by rfl) (by rfl) (by rfl) (by rfl) (sretv (f := srI) h K R)
  rcases bif_or h with ⟨hc, h⟩ | ⟨-, h⟩
  · refine jX.swn hc (by rfl) (by rfl) (by rfl) (?_ : jX G jP 48 255 lv [] μ Q)
    refine jX.ic (v := nI 1) (n := 1) (by rfl) (by rfl) (by decide) (?_ : jX G jP 48 256 lv [.int (nI 1)] μ Q)
    exact jX.ret (by rfl) (by rfl) (by rfl) (by rfl) (sretv (f := srI) h K R)
  rcases bif_or h with ⟨hc, h⟩ | ⟨-, h⟩
  · refine jX.swn hc (by rfl) (by rfl) (by rfl) (?_ : jX G jP 48 255 lv [] μ Q)
    refine jX.ic (v := nI 1) (n := 1) (by rfl) (by rfl) (by decide) (?_ : jX G jP 48 256 lv [.int (nI 1)] μ Q)
    exact jX.ret (by rfl) (by rfl) (by rfl) (by rfl) (sretv (f := srI) h K R)
  rcases bif_or h with ⟨hc, h⟩ | ⟨-, h⟩
  · refine jX.swn hc (by rfl) (by rfl) (by rfl) (?_ : jX G jP 48 255 lv [] μ Q)
    refine jX.ic (v := nI 1) (n := 1) (by rfl) (by rfl) (by decide) (?_ : jX G jP 48 256 lv [.int (nI 1)] μ Q)
    exact jX.ret (by rfl) (by rfl) (by rfl) (by rfl) (sretv (f := srI) h K R)
  rcases bif_or h with ⟨hc, h⟩ | ⟨-, h⟩
  · refine jX.swn hc (by rfl) (by rfl) (by rfl) (?_ : jX G jP 48 255 lv [] μ Q)
    refine jX.ic (v := nI 1) (n := 1) (by rfl) (by rfl) (by decide) (?_ : jX G jP 48 256 lv [.int (nI 1)] μ Q)
    exact jX.ret (by rfl) (by rfl) (by rfl) (by rfl) (sretv (f := srI) h K R)
  rcases bif_or h with ⟨hc, h⟩ | ⟨-, h⟩
  · refine jX.swn hc (by rfl) (by rfl) (by rfl) (?_ : jX G jP 48 255 lv [] μ Q)
    refine jX.ic (v := nI 1) (n := 1) (by rfl) (by rfl) (by decide) (?_ : jX G jP 48 256 lv [.int (nI 1)] μ Q)
    exact jX.ret (by rfl) (by rfl) (by rfl) (by rfl) (sretv (f := srI) h K R)
  rcases bif_or h with ⟨hc, h⟩ | ⟨-, h⟩
  · refine jX.swn hc (by rfl) (by rfl) (by rfl) (?_ : jX G jP 48 255 lv [] μ Q)
    refine jX.ic (v := nI 1) (n := 1) (by rfl) (by rfl) (by decide) (?_ : jX G jP 48 256 lv [.int (nI 1)] μ Q)
    exact jX.ret (by rfl) (by rfl) (by rfl) (by rfl) (sretv (f := srI) h K R)
  rcases bif_or h with ⟨hc, h⟩ | ⟨-, h⟩
  · refine jX.swn hc (by rfl) (by rfl) (by rfl) (?_ : jX G jP 48 176 lv [] μ Q)
    refine jX.lin l2 (by rfl) (by rfl) (?_ : jX G jP 48 177 lv [.int v2] μ Q)
    rcases bif_or h with ⟨hc, h⟩ | ⟨hc, h⟩
    · refine jX.b1t hc (by rfl) (by rfl) (by rfl) (?_ : jX G jP 48 190 lv [] μ Q)
      refine jX.ic (v := nI 0) (n := 1) (by rfl) (by rfl) (by decide) (?_ : jX G jP 48 191 lv [.int (nI 0)] μ Q)
      exact jX.ret (by rfl) (by rfl) (by rfl) (by rfl) (sretv (f := srI) h K R)
    · refine jX.b1f hc (by rfl) (by rfl) (by rfl) (?_ : jX G jP 48 180 lv [] μ Q)
      refine jX.lin l2 (by rfl) (by rfl) (?_ : jX G jP 48 181 lv [.int v2] μ Q)
      refine jX.ic (v := nI 16) (n := 2) (by rfl) (by rfl) (by decide) (?_ : jX G jP 48 183 lv [.int (nI 16), .int v2] μ Q)
      rcases bif_or h with ⟨hc, h⟩ | ⟨hc, h⟩
      · refine jX.b2t hc (by rfl) (by rfl) (by rfl) (?_ : jX G jP 48 190 lv [] μ Q)
        refine jX.ic (v := nI 0) (n := 1) (by rfl) (by rfl) (by decide) (?_ : jX G jP 48 191 lv [.int (nI 0)] μ Q)
        exact jX.ret (by rfl) (by rfl) (by rfl) (by rfl) (sretv (f := srI) h K R)
      · refine jX.b2f hc (by rfl) (by rfl) (by rfl) (?_ : jX G jP 48 186 lv [] μ Q)
        refine jX.ic (v := nI 1) (n := 1) (by rfl) (by rfl) (by decide) (?_ : jX G jP 48 187 lv [.int (nI 1)] μ Q)
        refine jX.go (by rfl) (by rfl) (by rfl) (?_ : jX G jP 48 191 lv [.int (nI 1)] μ Q)
        exact jX.ret (by rfl) (by rfl) (by rfl) (by rfl) (sretv (f := srI) h K R)
  rcases bif_or h with ⟨hc, h⟩ | ⟨-, h⟩
  · refine jX.swn hc (by rfl) (by rfl) (by rfl) (?_ : jX G jP 48 192 lv [] μ Q)
    exact F_48_192_ok  K v2 _ _ _ l2 R h
  rcases bif_or h with ⟨hc, h⟩ | ⟨-, h⟩
  · refine jX.swn hc (by rfl) (by rfl) (by rfl) (?_ : jX G jP 48 192 lv [] μ Q)
    exact F_48_192_ok  K v2 _ _ _ l2 R h
  rcases bif_or h with ⟨hc, h⟩ | ⟨-, h⟩
  · refine jX.swn hc (by rfl) (by rfl) (by rfl) (?_ : jX G jP 48 255 lv [] μ Q)
    refine jX.ic (v := nI 1) (n := 1) (by rfl) (by rfl) (by decide) (?_ : jX G jP 48 256 lv [.int (nI 1)] μ Q)
    exact jX.ret (by rfl) (by rfl) (by rfl) (by rfl) (sretv (f := srI) h K R)
  rcases bif_or h with ⟨hc, h⟩ | ⟨-, h⟩
  · refine jX.swn hc (by rfl) (by rfl) (by rfl) (?_ : jX G jP 48 255 lv [] μ Q)
    refine jX.ic (v := nI 1) (n := 1) (by rfl) (by rfl) (by decide) (?_ : jX G jP 48 256 lv [.int (nI 1)] μ Q)
    exact jX.ret (by rfl) (by rfl) (by rfl) (by rfl) (sretv (f := srI) h K R)
  rcases bif_or h with ⟨hc, h⟩ | ⟨-, h⟩
  · refine jX.swn hc (by rfl) (by rfl) (by rfl) (?_ : jX G jP 48 255 lv [] μ Q)
    refine jX.ic (v := nI 1) (n := 1) (by rfl) (by rfl) (by decide) (?_ : jX G jP 48 256 lv [.int (nI 1)] μ Q)
    exact jX.ret (by rfl) (by rfl) (by rfl) (by rfl) (sretv (f := srI) h K R)
  rcases bif_or h with ⟨hc, h⟩ | ⟨-, h⟩
  · refine jX.swn hc (by rfl) (by rfl) (by rfl) (?_ : jX G jP 48 208 lv [] μ Q)
    refine jX.lin l2 (by rfl) (by rfl) (?_ : jX G jP 48 209 lv [.int v2] μ Q)
    rcases bif_or h with ⟨hc, h⟩ | ⟨hc, h⟩
    · refine jX.b1t hc (by rfl) (by rfl) (by rfl) (?_ : jX G jP 48 222 lv [] μ Q)
      refine jX.ic (v := nI 0) (n := 1) (by rfl) (by rfl) (by decide) (?_ : jX G jP 48 223 lv [.int (nI 0)] μ Q)
      exact jX.ret (by rfl) (by rfl) (by rfl) (by rfl) (sretv (f := srI) h K R)
    · refine jX.b1f hc (by rfl) (by rfl) (by rfl) (?_ : jX G jP 48 212 lv [] μ Q)
      refine jX.lin l2 (by rfl) (by rfl) (?_ : jX G jP 48 213 lv [.int v2] μ Q)
      refine jX.ic (v := nI 8) (n := 2) (by rfl) (by rfl) (by decide) (?_ : jX G jP 48 215 lv [.int (nI 8), .int v2] μ Q)
      rcases bif_or h with ⟨hc, h⟩ | ⟨hc, h⟩
      · refine jX.b2t hc (by rfl) (by rfl) (by rfl) (?_ : jX G jP 48 222 lv [] μ Q)
        refine jX.ic (v := nI 0) (n := 1) (by rfl) (by rfl) (by decide) (?_ : jX G jP 48 223 lv [.int (nI 0)] μ Q)
        exact jX.ret (by rfl) (by rfl) (by rfl) (by rfl) (sretv (f := srI) h K R)
      · refine jX.b2f hc (by rfl) (by rfl) (by rfl) (?_ : jX G jP 48 218 lv [] μ Q)
        refine jX.ic (v := nI 1) (n := 1) (by rfl) (by rfl) (by decide) (?_ : jX G jP 48 219 lv [.int (nI 1)] μ Q)
        refine jX.go (by rfl) (by rfl) (by rfl) (?_ : jX G jP 48 223 lv [.int (nI 1)] μ Q)
        exact jX.ret (by rfl) (by rfl) (by rfl) (by rfl) (sretv (f := srI) h K R)
  rcases bif_or h with ⟨hc, h⟩ | ⟨-, h⟩
  · refine jX.swn hc (by rfl) (by rfl) (by rfl) (?_ : jX G jP 48 255 lv [] μ Q)
    refine jX.ic (v := nI 1) (n := 1) (by rfl) (by rfl) (by decide) (?_ : jX G jP 48 256 lv [.int (nI 1)] μ Q)
    exact jX.ret (by rfl) (by rfl) (by rfl) (by rfl) (sretv (f := srI) h K R)
  rcases bif_or h with ⟨hc, h⟩ | ⟨-, h⟩
  · refine jX.swn hc (by rfl) (by rfl) (by rfl) (?_ : jX G jP 48 255 lv [] μ Q)
    refine jX.ic (v := nI 1) (n := 1) (by rfl) (by rfl) (by decide) (?_ : jX G jP 48 256 lv [.int (nI 1)] μ Q)
    exact jX.ret (by rfl) (by rfl) (by rfl) (by rfl) (sretv (f := srI) h K R)
  rcases bif_or h with ⟨hc, h⟩ | ⟨-, h⟩
  · refine jX.swn hc (by rfl) (by rfl) (by rfl) (?_ : jX G jP 48 255 lv [] μ Q)
    refine jX.ic (v := nI 1) (n := 1) (by rfl) (by rfl) (by decide) (?_ : jX G jP 48 256 lv [.int (nI 1)] μ Q)
    exact jX.ret (by rfl) (by rfl) (by rfl) (by rfl) (sretv (f := srI) h K R)
  rcases bif_or h with ⟨hc, h⟩ | ⟨-, h⟩
  · refine jX.swn hc (by rfl) (by rfl) (by rfl) (?_ : jX G jP 48 224 lv [] μ Q)
    refine jX.lin l2 (by rfl) (by rfl) (?_ : jX G jP 48 225 lv [.int v2] μ Q)
    refine jX.ic (v := nI 8) (n := 2) (by rfl) (by rfl) (by decide) (?_ : jX G jP 48 227 lv [.int (nI 8), .int v2] μ Q)
    rcases bif_or h with ⟨hc, h⟩ | ⟨hc, h⟩
    · refine jX.b2t hc (by rfl) (by rfl) (by rfl) (?_ : jX G jP 48 237 lv [] μ Q)
      refine jX.lin l2 (by rfl) (by rfl) (?_ : jX G jP 48 238 lv [.int v2] μ Q)
      exact F_48_238_ok  K v2 _ _ _  R h
    · refine jX.b2f hc (by rfl) (by rfl) (by rfl) (?_ : jX G jP 48 230 lv [] μ Q)
      refine jX.lin l2 (by rfl) (by rfl) (?_ : jX G jP 48 231 lv [.int v2] μ Q)
      refine jX.ic (v := nI 8) (n := 2) (by rfl) (by rfl) (by decide) (?_ : jX G jP 48 233 lv [.int (nI 8), .int v2] μ Q)
      refine jX.go (by rfl) (by rfl) (by rfl) (?_ : jX G jP 48 234 lv [.int (v2 - (nI 8))] μ Q)
      refine jX.go (by rfl) (by rfl) (by rfl) (?_ : jX G jP 48 238 lv [.int (v2 - (nI 8))] μ Q)
      exact F_48_238_ok  K (v2 - (nI 8)) _ _ _  R h
  cases h
/-! 49 StrandRuntime$Program.addInstruction(II)I -/
def F_49 (G : jG) (t : Nat) (v1 : Int32) (v2 : Int32) (S : sS) : Option (Int32 × sS) := bif jcmp .eq (S.1 1 0 0 6) 0 then (some ((-1), S)) else (bif jcmp .lt (S.1 1 0 0 7) (nI 1500) then (jif (jin (S.1 1 0 0 7) 1500) (jif (jin ((siI S 6 0 0 (S.1 1 0 0 7).toNatClampNeg v1).1 1 0 0 7) 1500) (jif (jin (((siI (siI (siI S 6 0 0 (S.1 1 0 0 7).toNatClampNeg v1) 7 0 0 ((siI S 6 0 0 (S.1 1 0 0 7).toNatClampNeg v1).1 1 0 0 7).toNatClampNeg v2) 1 0 0 7 (((siI (siI S 6 0 0 (S.1 1 0 0 7).toNatClampNeg v1) 7 0 0 ((siI S 6 0 0 (S.1 1 0 0 7).toNatClampNeg v1).1 1 0 0 7).toNatClampNeg v2).1 1 0 0 7) + (nI 1))).1 1 0 0 6) - (nI 1)) 32) (jif (jin (((siI (siI (siI S 6 0 0 (S.1 1 0 0 7).toNatClampNeg v1) 7 0 0 ((siI S 6 0 0 (S.1 1 0 0 7).toNatClampNeg v1).1 1 0 0 7).toNatClampNeg v2) 1 0 0 7 (((siI (siI S 6 0 0 (S.1 1 0 0 7).toNatClampNeg v1) 7 0 0 ((siI S 6 0 0 (S.1 1 0 0 7).toNatClampNeg v1).1 1 0 0 7).toNatClampNeg v2).1 1 0 0 7) + (nI 1))).1 1 0 0 6) - (nI 1)) 32) (jif (jin (((siI (siI (siI (siI S 6 0 0 (S.1 1 0 0 7).toNatClampNeg v1) 7 0 0 ((siI S 6 0 0 (S.1 1 0 0 7).toNatClampNeg v1).1 1 0 0 7).toNatClampNeg v2) 1 0 0 7 (((siI (siI S 6 0 0 (S.1 1 0 0 7).toNatClampNeg v1) 7 0 0 ((siI S 6 0 0 (S.1 1 0 0 7).toNatClampNeg v1).1 1 0 0 7).toNatClampNeg v2).1 1 0 0 7) + (nI 1))) 5 0 0 (((siI (siI (siI S 6 0 0 (S.1 1 0 0 7).toNatClampNeg v1) 7 0 0 ((siI S 6 0 0 (S.1 1 0 0 7).toNatClampNeg v1).1 1 0 0 7).toNatClampNeg v2) 1 0 0 7 (((siI (siI S 6 0 0 (S.1 1 0 0 7).toNatClampNeg v1) 7 0 0 ((siI S 6 0 0 (S.1 1 0 0 7).toNatClampNeg v1).1 1 0 0 7).toNatClampNeg v2).1 1 0 0 7) + (nI 1))).1 1 0 0 6) - (nI 1)).toNatClampNeg (((siI (siI (siI S 6 0 0 (S.1 1 0 0 7).toNatClampNeg v1) 7 0 0 ((siI S 6 0 0 (S.1 1 0 0 7).toNatClampNeg v1).1 1 0 0 7).toNatClampNeg v2) 1 0 0 7 (((siI (siI S 6 0 0 (S.1 1 0 0 7).toNatClampNeg v1) 7 0 0 ((siI S 6 0 0 (S.1 1 0 0 7).toNatClampNeg v1).1 1 0 0 7).toNatClampNeg v2).1 1 0 0 7) + (nI 1))).1 5 0 0 (((siI (siI (siI S 6 0 0 (S.1 1 0 0 7).toNatClampNeg v1) 7 0 0 ((siI S 6 0 0 (S.1 1 0 0 7).toNatClampNeg v1).1 1 0 0 7).toNatClampNeg v2) 1 0 0 7 (((siI (siI S 6 0 0 (S.1 1 0 0 7).toNatClampNeg v1) 7 0 0 ((siI S 6 0 0 (S.1 1 0 0 7).toNatClampNeg v1).1 1 0 0 7).toNatClampNeg v2).1 1 0 0 7) + (nI 1))).1 1 0 0 6) - (nI 1)).toNatClampNeg) + (nI 1))).1 1 0 0 6) - (nI 1)) 32) (some ((((siI (siI (siI (siI S 6 0 0 (S.1 1 0 0 7).toNatClampNeg v1) 7 0 0 ((siI S 6 0 0 (S.1 1 0 0 7).toNatClampNeg v1).1 1 0 0 7).toNatClampNeg v2) 1 0 0 7 (((siI (siI S 6 0 0 (S.1 1 0 0 7).toNatClampNeg v1) 7 0 0 ((siI S 6 0 0 (S.1 1 0 0 7).toNatClampNeg v1).1 1 0 0 7).toNatClampNeg v2).1 1 0 0 7) + (nI 1))) 5 0 0 (((siI (siI (siI S 6 0 0 (S.1 1 0 0 7).toNatClampNeg v1) 7 0 0 ((siI S 6 0 0 (S.1 1 0 0 7).toNatClampNeg v1).1 1 0 0 7).toNatClampNeg v2) 1 0 0 7 (((siI (siI S 6 0 0 (S.1 1 0 0 7).toNatClampNeg v1) 7 0 0 ((siI S 6 0 0 (S.1 1 0 0 7).toNatClampNeg v1).1 1 0 0 7).toNatClampNeg v2).1 1 0 0 7) + (nI 1))).1 1 0 0 6) - (nI 1)).toNatClampNeg (((siI (siI (siI S 6 0 0 (S.1 1 0 0 7).toNatClampNeg v1) 7 0 0 ((siI S 6 0 0 (S.1 1 0 0 7).toNatClampNeg v1).1 1 0 0 7).toNatClampNeg v2) 1 0 0 7 (((siI (siI S 6 0 0 (S.1 1 0 0 7).toNatClampNeg v1) 7 0 0 ((siI S 6 0 0 (S.1 1 0 0 7).toNatClampNeg v1).1 1 0 0 7).toNatClampNeg v2).1 1 0 0 7) + (nI 1))).1 5 0 0 (((siI (siI (siI S 6 0 0 (S.1 1 0 0 7).toNatClampNeg v1) 7 0 0 ((siI S 6 0 0 (S.1 1 0 0 7).toNatClampNeg v1).1 1 0 0 7).toNatClampNeg v2) 1 0 0 7 (((siI (siI S 6 0 0 (S.1 1 0 0 7).toNatClampNeg v1) 7 0 0 ((siI S 6 0 0 (S.1 1 0 0 7).toNatClampNeg v1).1 1 0 0 7).toNatClampNeg v2).1 1 0 0 7) + (nI 1))).1 1 0 0 6) - (nI 1)).toNatClampNeg) + (nI 1))).1 5 0 0 (((siI (siI (siI (siI S 6 0 0 (S.1 1 0 0 7).toNatClampNeg v1) 7 0 0 ((siI S 6 0 0 (S.1 1 0 0 7).toNatClampNeg v1).1 1 0 0 7).toNatClampNeg v2) 1 0 0 7 (((siI (siI S 6 0 0 (S.1 1 0 0 7).toNatClampNeg v1) 7 0 0 ((siI S 6 0 0 (S.1 1 0 0 7).toNatClampNeg v1).1 1 0 0 7).toNatClampNeg v2).1 1 0 0 7) + (nI 1))) 5 0 0 (((siI (siI (siI S 6 0 0 (S.1 1 0 0 7).toNatClampNeg v1) 7 0 0 ((siI S 6 0 0 (S.1 1 0 0 7).toNatClampNeg v1).1 1 0 0 7).toNatClampNeg v2) 1 0 0 7 (((siI (siI S 6 0 0 (S.1 1 0 0 7).toNatClampNeg v1) 7 0 0 ((siI S 6 0 0 (S.1 1 0 0 7).toNatClampNeg v1).1 1 0 0 7).toNatClampNeg v2).1 1 0 0 7) + (nI 1))).1 1 0 0 6) - (nI 1)).toNatClampNeg (((siI (siI (siI S 6 0 0 (S.1 1 0 0 7).toNatClampNeg v1) 7 0 0 ((siI S 6 0 0 (S.1 1 0 0 7).toNatClampNeg v1).1 1 0 0 7).toNatClampNeg v2) 1 0 0 7 (((siI (siI S 6 0 0 (S.1 1 0 0 7).toNatClampNeg v1) 7 0 0 ((siI S 6 0 0 (S.1 1 0 0 7).toNatClampNeg v1).1 1 0 0 7).toNatClampNeg v2).1 1 0 0 7) + (nI 1))).1 5 0 0 (((siI (siI (siI S 6 0 0 (S.1 1 0 0 7).toNatClampNeg v1) 7 0 0 ((siI S 6 0 0 (S.1 1 0 0 7).toNatClampNeg v1).1 1 0 0 7).toNatClampNeg v2) 1 0 0 7 (((siI (siI S 6 0 0 (S.1 1 0 0 7).toNatClampNeg v1) 7 0 0 ((siI S 6 0 0 (S.1 1 0 0 7).toNatClampNeg v1).1 1 0 0 7).toNatClampNeg v2).1 1 0 0 7) + (nI 1))).1 1 0 0 6) - (nI 1)).toNatClampNeg) + (nI 1))).1 1 0 0 6) - (nI 1)).toNatClampNeg) - (nI 1)), (siI (siI (siI (siI S 6 0 0 (S.1 1 0 0 7).toNatClampNeg v1) 7 0 0 ((siI S 6 0 0 (S.1 1 0 0 7).toNatClampNeg v1).1 1 0 0 7).toNatClampNeg v2) 1 0 0 7 (((siI (siI S 6 0 0 (S.1 1 0 0 7).toNatClampNeg v1) 7 0 0 ((siI S 6 0 0 (S.1 1 0 0 7).toNatClampNeg v1).1 1 0 0 7).toNatClampNeg v2).1 1 0 0 7) + (nI 1))) 5 0 0 (((siI (siI (siI S 6 0 0 (S.1 1 0 0 7).toNatClampNeg v1) 7 0 0 ((siI S 6 0 0 (S.1 1 0 0 7).toNatClampNeg v1).1 1 0 0 7).toNatClampNeg v2) 1 0 0 7 (((siI (siI S 6 0 0 (S.1 1 0 0 7).toNatClampNeg v1) 7 0 0 ((siI S 6 0 0 (S.1 1 0 0 7).toNatClampNeg v1).1 1 0 0 7).toNatClampNeg v2).1 1 0 0 7) + (nI 1))).1 1 0 0 6) - (nI 1)).toNatClampNeg (((siI (siI (siI S 6 0 0 (S.1 1 0 0 7).toNatClampNeg v1) 7 0 0 ((siI S 6 0 0 (S.1 1 0 0 7).toNatClampNeg v1).1 1 0 0 7).toNatClampNeg v2) 1 0 0 7 (((siI (siI S 6 0 0 (S.1 1 0 0 7).toNatClampNeg v1) 7 0 0 ((siI S 6 0 0 (S.1 1 0 0 7).toNatClampNeg v1).1 1 0 0 7).toNatClampNeg v2).1 1 0 0 7) + (nI 1))).1 5 0 0 (((siI (siI (siI S 6 0 0 (S.1 1 0 0 7).toNatClampNeg v1) 7 0 0 ((siI S 6 0 0 (S.1 1 0 0 7).toNatClampNeg v1).1 1 0 0 7).toNatClampNeg v2) 1 0 0 7 (((siI (siI S 6 0 0 (S.1 1 0 0 7).toNatClampNeg v1) 7 0 0 ((siI S 6 0 0 (S.1 1 0 0 7).toNatClampNeg v1).1 1 0 0 7).toNatClampNeg v2).1 1 0 0 7) + (nI 1))).1 1 0 0 6) - (nI 1)).toNatClampNeg) + (nI 1)))))))))) else (some ((-1), S)))
theorem F_49_ok {G : jG} {t : Nat} {v1 : Int32} {v2 : Int32} {S : sS} {r : Int32} {S' : sS} {μ : jS} {Q : Option Value ⊕ Nat → jS → Prop} (R : sR S μ) (h : F_49 G t v1 v2 S = some (r, S')) (K : ∀ μ', sR S' μ' → Q (srI r) μ') : jX G jP 49 0 (lv_args 0 [.ref (spl 1 0 0), .int v1, .int v2]) [] μ Q := by
  unfold F_49 at h
  have l0 : jld (lv_args 0 [.ref (spl 1 0 0), .int v1, .int v2]) 0 = some (.ref (spl 1 0 0)) := by rfl
  have l1 : jld (lv_args 0 [.ref (spl 1 0 0), .int v1, .int v2]) 1 = some (.int v1) := by rfl
  have l2 : jld (lv_args 0 [.ref (spl 1 0 0), .int v1, .int v2]) 2 = some (.int v2) := by rfl
  generalize lv_args 0 [.ref (spl 1 0 0), .int v1, .int v2] = lv at *
  refine jX.lrn l0 (by rfl) (by rfl) (?_ : jX G jP 49 1 lv [.ref (spl 1 0 0)] μ Q)
  refine jX.sg R (by rfl) (by rfl) (by rfl) (by rfl) (by rfl) (by rfl) (?_ : jX G jP 49 4 lv [.int (S.1 1 0 0 6)] μ Q)
  rcases bif_or h with ⟨hc, h⟩ | ⟨hc, h⟩
  · refine jX.b1t hc (by rfl) (by rfl) (by rfl) (?_ : jX G jP 49 17 lv [] μ Q)
    refine jX.ic (v := (-1)) (n := 1) (by rfl) (by rfl) (by decide) (?_ : jX G jP 49 18 lv [.int (-1)] μ Q)
    exact jX.ret (by rfl) (by rfl) (by rfl) (by rfl) (sretv (f := srI) h K R)
  · refine jX.b1f hc (by rfl) (by rfl) (by rfl) (?_ : jX G jP 49 7 lv [] μ Q)
    refine jX.lrn l0 (by rfl) (by rfl) (?_ : jX G jP 49 8 lv [.ref (spl 1 0 0)] μ Q)
    refine jX.sg R (by rfl) (by rfl) (by rfl) (by rfl) (by rfl) (by rfl) (?_ : jX G jP 49 11 lv [.int (S.1 1 0 0 7)] μ Q)
    refine jX.ic (v := nI 1500) (n := 3) (by rfl) (by rfl) (by decide) (?_ : jX G jP 49 14 lv [.int (nI 1500), .int (S.1 1 0 0 7)] μ Q)
    rcases bif_or h with ⟨hc, h⟩ | ⟨hc, h⟩
    · refine jX.b2t hc (by rfl) (by rfl) (by rfl) (?_ : jX G jP 49 19 lv [] μ Q)
      refine jX.lrn l0 (by rfl) (by rfl) (?_ : jX G jP 49 20 lv [.ref (spl 1 0 0)] μ Q)
      refine jX.sg R (by rfl) (by rfl) (by rfl) (by rfl) (by rfl) (by rfl) (?_ : jX G jP 49 23 lv [.ref (spl 6 0 0)] μ Q)
      refine jX.lrn l0 (by rfl) (by rfl) (?_ : jX G jP 49 24 lv [.ref (spl 1 0 0), .ref (spl 6 0 0)] μ Q)
      refine jX.sg R (by rfl) (by rfl) (by rfl) (by rfl) (by rfl) (by rfl) (?_ : jX G jP 49 27 lv [.int (S.1 1 0 0 7), .ref (spl 6 0 0)] μ Q)
      refine jX.lin l1 (by rfl) (by rfl) (?_ : jX G jP 49 28 lv [.int v1, .int (S.1 1 0 0 7), .ref (spl 6 0 0)] μ Q)
      obtain ⟨g1, h⟩ := jif_some h
      refine jX.sti R (by rfl) (by rfl) (by rfl) (fun _ => by rfl) g1 (fun μ R => (?_ : jX G jP 49 29 lv [] μ Q))
      refine jX.lrn l0 (by rfl) (by rfl) (?_ : jX G jP 49 30 lv [.ref (spl 1 0 0)] μ Q)
      refine jX.sg R (by rfl) (by rfl) (by rfl) (by rfl) (by rfl) (by rfl) (?_ : jX G jP 49 33 lv [.ref (spl 7 0 0)] μ Q)
      refine jX.lrn l0 (by rfl) (by rfl) (?_ : jX G jP 49 34 lv [.ref (spl 1 0 0), .ref (spl 7 0 0)] μ Q)
      refine jX.sg R (by rfl) (by rfl) (by rfl) (by rfl) (by rfl) (by rfl) (?_ : jX G jP 49 37 lv [.int ((siI S 6 0 0 (S.1 1 0 0 7).toNatClampNeg v1).1 1 0 0 7), .ref (spl 7 0 0)] μ Q)
      refine jX.lin l2 (by rfl) (by rfl) (?_ : jX G jP 49 38 lv [.int v2, .int ((siI S 6 0 0 (S.1 1 0 0 7).toNatClampNeg v1).1 1 0 0 7), .ref (spl 7 0 0)] μ Q)
      obtain ⟨g2, h⟩ := jif_some h
      refine jX.sti R (by rfl) (by rfl) (by rfl) (fun _ => by rfl) g2 (fun μ R => (?_ : jX G jP 49 39 lv [] μ Q))
      refine jX.lrn l0 (by rfl) (by rfl) (?_ : jX G jP 49 40 lv [.ref (spl 1 0 0)] μ Q)
      refine jX.go (by rfl) (by rfl) (by rfl) (?_ : jX G jP 49 41 lv [.ref (spl 1 0 0), .ref (spl 1 0 0)] μ Q)
      refine jX.sg R (by rfl) (by rfl) (by rfl) (by rfl) (by rfl) (by rfl) (?_ : jX G jP 49 44 lv [.int ((siI (siI S 6 0 0 (S.1 1 0 0 7).toNatClampNeg v1) 7 0 0 ((siI S 6 0 0 (S.1 1 0 0 7).toNatClampNeg v1).1 1 0 0 7).toNatClampNeg v2).1 1 0 0 7), .ref (spl 1 0 0)] μ Q)
      refine jX.ic (v := nI 1) (n := 1) (by rfl) (by rfl) (by decide) (?_ : jX G jP 49 45 lv [.int (nI 1), .int ((siI (siI S 6 0 0 (S.1 1 0 0 7).toNatClampNeg v1) 7 0 0 ((siI S 6 0 0 (S.1 1 0 0 7).toNatClampNeg v1).1 1 0 0 7).toNatClampNeg v2).1 1 0 0 7), .ref (spl 1 0 0)] μ Q)
      refine jX.go (by rfl) (by rfl) (by rfl) (?_ : jX G jP 49 46 lv [.int (((siI (siI S 6 0 0 (S.1 1 0 0 7).toNatClampNeg v1) 7 0 0 ((siI S 6 0 0 (S.1 1 0 0 7).toNatClampNeg v1).1 1 0 0 7).toNatClampNeg v2).1 1 0 0 7) + (nI 1)), .ref (spl 1 0 0)] μ Q)
      refine jX.spI R (by rfl) (by rfl) (by rfl) (by rfl) (by rfl) (by rfl) (by rfl) (by rfl) (by rfl) (fun μ R => (?_ : jX G jP 49 49 lv [] μ Q))
      refine jX.lrn l0 (by rfl) (by rfl) (?_ : jX G jP 49 50 lv [.ref (spl 1 0 0)] μ Q)
      refine jX.sg R (by rfl) (by rfl) (by rfl) (by rfl) (by rfl) (by rfl) (?_ : jX G jP 49 53 lv [.ref (spl 5 0 0)] μ Q)
      refine jX.lrn l0 (by rfl) (by rfl) (?_ : jX G jP 49 54 lv [.ref (spl 1 0 0), .ref (spl 5 0 0)] μ Q)
      refine jX.sg R (by rfl) (by rfl) (by rfl) (by rfl) (by rfl) (by rfl) (?_ : jX G jP 49 57 lv [.int ((siI (siI (siI S 6 0 0 (S.1 1 0 0 7).toNatClampNeg v1) 7 0 0 ((siI S 6 0 0 (S.1 1 0 0 7).toNatClampNeg v1).1 1 0 0 7).toNatClampNeg v2) 1 0 0 7 (((siI (siI S 6 0 0 (S.1 1 0 0 7).toNatClampNeg v1) 7 0 0 ((siI S 6 0 0 (S.1 1 0 0 7).toNatClampNeg v1).1 1 0 0 7).toNatClampNeg v2).1 1 0 0 7) + (nI 1))).1 1 0 0 6), .ref (spl 5 0 0)] μ Q)
      refine jX.ic (v := nI 1) (n := 1) (by rfl) (by rfl) (by decide) (?_ : jX G jP 49 58 lv [.int (nI 1), .int ((siI (siI (siI S 6 0 0 (S.1 1 0 0 7).toNatClampNeg v1) 7 0 0 ((siI S 6 0 0 (S.1 1 0 0 7).toNatClampNeg v1).1 1 0 0 7).toNatClampNeg v2) 1 0 0 7 (((siI (siI S 6 0 0 (S.1 1 0 0 7).toNatClampNeg v1) 7 0 0 ((siI S 6 0 0 (S.1 1 0 0 7).toNatClampNeg v1).1 1 0 0 7).toNatClampNeg v2).1 1 0 0 7) + (nI 1))).1 1 0 0 6), .ref (spl 5 0 0)] μ Q)
      refine jX.go (by rfl) (by rfl) (by rfl) (?_ : jX G jP 49 59 lv [.int (((siI (siI (siI S 6 0 0 (S.1 1 0 0 7).toNatClampNeg v1) 7 0 0 ((siI S 6 0 0 (S.1 1 0 0 7).toNatClampNeg v1).1 1 0 0 7).toNatClampNeg v2) 1 0 0 7 (((siI (siI S 6 0 0 (S.1 1 0 0 7).toNatClampNeg v1) 7 0 0 ((siI S 6 0 0 (S.1 1 0 0 7).toNatClampNeg v1).1 1 0 0 7).toNatClampNeg v2).1 1 0 0 7) + (nI 1))).1 1 0 0 6) - (nI 1)), .ref (spl 5 0 0)] μ Q)
      refine jX.go (by rfl) (by rfl) (by rfl) (?_ : jX G jP 49 60 lv [.int (((siI (siI (siI S 6 0 0 (S.1 1 0 0 7).toNatClampNeg v1) 7 0 0 ((siI S 6 0 0 (S.1 1 0 0 7).toNatClampNeg v1).1 1 0 0 7).toNatClampNeg v2) 1 0 0 7 (((siI (siI S 6 0 0 (S.1 1 0 0 7).toNatClampNeg v1) 7 0 0 ((siI S 6 0 0 (S.1 1 0 0 7).toNatClampNeg v1).1 1 0 0 7).toNatClampNeg v2).1 1 0 0 7) + (nI 1))).1 1 0 0 6) - (nI 1)), .ref (spl 5 0 0), .int (((siI (siI (siI S 6 0 0 (S.1 1 0 0 7).toNatClampNeg v1) 7 0 0 ((siI S 6 0 0 (S.1 1 0 0 7).toNatClampNeg v1).1 1 0 0 7).toNatClampNeg v2) 1 0 0 7 (((siI (siI S 6 0 0 (S.1 1 0 0 7).toNatClampNeg v1) 7 0 0 ((siI S 6 0 0 (S.1 1 0 0 7).toNatClampNeg v1).1 1 0 0 7).toNatClampNeg v2).1 1 0 0 7) + (nI 1))).1 1 0 0 6) - (nI 1)), .ref (spl 5 0 0)] μ Q)
      obtain ⟨g3, h⟩ := jif_some h
      refine jX.sai R (by rfl) (by rfl) (by rfl) (by rfl) g3 (?_ : jX G jP 49 61 lv [.int ((siI (siI (siI S 6 0 0 (S.1 1 0 0 7).toNatClampNeg v1) 7 0 0 ((siI S 6 0 0 (S.1 1 0 0 7).toNatClampNeg v1).1 1 0 0 7).toNatClampNeg v2) 1 0 0 7 (((siI (siI S 6 0 0 (S.1 1 0 0 7).toNatClampNeg v1) 7 0 0 ((siI S 6 0 0 (S.1 1 0 0 7).toNatClampNeg v1).1 1 0 0 7).toNatClampNeg v2).1 1 0 0 7) + (nI 1))).1 5 0 0 (((siI (siI (siI S 6 0 0 (S.1 1 0 0 7).toNatClampNeg v1) 7 0 0 ((siI S 6 0 0 (S.1 1 0 0 7).toNatClampNeg v1).1 1 0 0 7).toNatClampNeg v2) 1 0 0 7 (((siI (siI S 6 0 0 (S.1 1 0 0 7).toNatClampNeg v1) 7 0 0 ((siI S 6 0 0 (S.1 1 0 0 7).toNatClampNeg v1).1 1 0 0 7).toNatClampNeg v2).1 1 0 0 7) + (nI 1))).1 1 0 0 6) - (nI 1)).toNatClampNeg), .int (((siI (siI (siI S 6 0 0 (S.1 1 0 0 7).toNatClampNeg v1) 7 0 0 ((siI S 6 0 0 (S.1 1 0 0 7).toNatClampNeg v1).1 1 0 0 7).toNatClampNeg v2) 1 0 0 7 (((siI (siI S 6 0 0 (S.1 1 0 0 7).toNatClampNeg v1) 7 0 0 ((siI S 6 0 0 (S.1 1 0 0 7).toNatClampNeg v1).1 1 0 0 7).toNatClampNeg v2).1 1 0 0 7) + (nI 1))).1 1 0 0 6) - (nI 1)), .ref (spl 5 0 0)] μ Q)
      refine jX.ic (v := nI 1) (n := 1) (by rfl) (by rfl) (by decide) (?_ : jX G jP 49 62 lv [.int (nI 1), .int ((siI (siI (siI S 6 0 0 (S.1 1 0 0 7).toNatClampNeg v1) 7 0 0 ((siI S 6 0 0 (S.1 1 0 0 7).toNatClampNeg v1).1 1 0 0 7).toNatClampNeg v2) 1 0 0 7 (((siI (siI S 6 0 0 (S.1 1 0 0 7).toNatClampNeg v1) 7 0 0 ((siI S 6 0 0 (S.1 1 0 0 7).toNatClampNeg v1).1 1 0 0 7).toNatClampNeg v2).1 1 0 0 7) + (nI 1))).1 5 0 0 (((siI (siI (siI S 6 0 0 (S.1 1 0 0 7).toNatClampNeg v1) 7 0 0 ((siI S 6 0 0 (S.1 1 0 0 7).toNatClampNeg v1).1 1 0 0 7).toNatClampNeg v2) 1 0 0 7 (((siI (siI S 6 0 0 (S.1 1 0 0 7).toNatClampNeg v1) 7 0 0 ((siI S 6 0 0 (S.1 1 0 0 7).toNatClampNeg v1).1 1 0 0 7).toNatClampNeg v2).1 1 0 0 7) + (nI 1))).1 1 0 0 6) - (nI 1)).toNatClampNeg), .int (((siI (siI (siI S 6 0 0 (S.1 1 0 0 7).toNatClampNeg v1) 7 0 0 ((siI S 6 0 0 (S.1 1 0 0 7).toNatClampNeg v1).1 1 0 0 7).toNatClampNeg v2) 1 0 0 7 (((siI (siI S 6 0 0 (S.1 1 0 0 7).toNatClampNeg v1) 7 0 0 ((siI S 6 0 0 (S.1 1 0 0 7).toNatClampNeg v1).1 1 0 0 7).toNatClampNeg v2).1 1 0 0 7) + (nI 1))).1 1 0 0 6) - (nI 1)), .ref (spl 5 0 0)] μ Q)
      refine jX.go (by rfl) (by rfl) (by rfl) (?_ : jX G jP 49 63 lv [.int (((siI (siI (siI S 6 0 0 (S.1 1 0 0 7).toNatClampNeg v1) 7 0 0 ((siI S 6 0 0 (S.1 1 0 0 7).toNatClampNeg v1).1 1 0 0 7).toNatClampNeg v2) 1 0 0 7 (((siI (siI S 6 0 0 (S.1 1 0 0 7).toNatClampNeg v1) 7 0 0 ((siI S 6 0 0 (S.1 1 0 0 7).toNatClampNeg v1).1 1 0 0 7).toNatClampNeg v2).1 1 0 0 7) + (nI 1))).1 5 0 0 (((siI (siI (siI S 6 0 0 (S.1 1 0 0 7).toNatClampNeg v1) 7 0 0 ((siI S 6 0 0 (S.1 1 0 0 7).toNatClampNeg v1).1 1 0 0 7).toNatClampNeg v2) 1 0 0 7 (((siI (siI S 6 0 0 (S.1 1 0 0 7).toNatClampNeg v1) 7 0 0 ((siI S 6 0 0 (S.1 1 0 0 7).toNatClampNeg v1).1 1 0 0 7).toNatClampNeg v2).1 1 0 0 7) + (nI 1))).1 1 0 0 6) - (nI 1)).toNatClampNeg) + (nI 1)), .int (((siI (siI (siI S 6 0 0 (S.1 1 0 0 7).toNatClampNeg v1) 7 0 0 ((siI S 6 0 0 (S.1 1 0 0 7).toNatClampNeg v1).1 1 0 0 7).toNatClampNeg v2) 1 0 0 7 (((siI (siI S 6 0 0 (S.1 1 0 0 7).toNatClampNeg v1) 7 0 0 ((siI S 6 0 0 (S.1 1 0 0 7).toNatClampNeg v1).1 1 0 0 7).toNatClampNeg v2).1 1 0 0 7) + (nI 1))).1 1 0 0 6) - (nI 1)), .ref (spl 5 0 0)] μ Q)
      obtain ⟨g4, h⟩ := jif_some h
      refine jX.sti R (by rfl) (by rfl) (by rfl) (fun _ => by rfl) g4 (fun μ R => (?_ : jX G jP 49 64 lv [] μ Q))
      refine jX.lrn l0 (by rfl) (by rfl) (?_ : jX G jP 49 65 lv [.ref (spl 1 0 0)] μ Q)
      refine jX.sg R (by rfl) (by rfl) (by rfl) (by rfl) (by rfl) (by rfl) (?_ : jX G jP 49 68 lv [.ref (spl 5 0 0)] μ Q)
      refine jX.lrn l0 (by rfl) (by rfl) (?_ : jX G jP 49 69 lv [.ref (spl 1 0 0), .ref (spl 5 0 0)] μ Q)
      refine jX.sg R (by rfl) (by rfl) (by rfl) (by rfl) (by rfl) (by rfl) (?_ : jX G jP 49 72 lv [.int ((siI (siI (siI (siI S 6 0 0 (S.1 1 0 0 7).toNatClampNeg v1) 7 0 0 ((siI S 6 0 0 (S.1 1 0 0 7).toNatClampNeg v1).1 1 0 0 7).toNatClampNeg v2) 1 0 0 7 (((siI (siI S 6 0 0 (S.1 1 0 0 7).toNatClampNeg v1) 7 0 0 ((siI S 6 0 0 (S.1 1 0 0 7).toNatClampNeg v1).1 1 0 0 7).toNatClampNeg v2).1 1 0 0 7) + (nI 1))) 5 0 0 (((siI (siI (siI S 6 0 0 (S.1 1 0 0 7).toNatClampNeg v1) 7 0 0 ((siI S 6 0 0 (S.1 1 0 0 7).toNatClampNeg v1).1 1 0 0 7).toNatClampNeg v2) 1 0 0 7 (((siI (siI S 6 0 0 (S.1 1 0 0 7).toNatClampNeg v1) 7 0 0 ((siI S 6 0 0 (S.1 1 0 0 7).toNatClampNeg v1).1 1 0 0 7).toNatClampNeg v2).1 1 0 0 7) + (nI 1))).1 1 0 0 6) - (nI 1)).toNatClampNeg (((siI (siI (siI S 6 0 0 (S.1 1 0 0 7).toNatClampNeg v1) 7 0 0 ((siI S 6 0 0 (S.1 1 0 0 7).toNatClampNeg v1).1 1 0 0 7).toNatClampNeg v2) 1 0 0 7 (((siI (siI S 6 0 0 (S.1 1 0 0 7).toNatClampNeg v1) 7 0 0 ((siI S 6 0 0 (S.1 1 0 0 7).toNatClampNeg v1).1 1 0 0 7).toNatClampNeg v2).1 1 0 0 7) + (nI 1))).1 5 0 0 (((siI (siI (siI S 6 0 0 (S.1 1 0 0 7).toNatClampNeg v1) 7 0 0 ((siI S 6 0 0 (S.1 1 0 0 7).toNatClampNeg v1).1 1 0 0 7).toNatClampNeg v2) 1 0 0 7 (((siI (siI S 6 0 0 (S.1 1 0 0 7).toNatClampNeg v1) 7 0 0 ((siI S 6 0 0 (S.1 1 0 0 7).toNatClampNeg v1).1 1 0 0 7).toNatClampNeg v2).1 1 0 0 7) + (nI 1))).1 1 0 0 6) - (nI 1)).toNatClampNeg) + (nI 1))).1 1 0 0 6), .ref (spl 5 0 0)] μ Q)
      refine jX.ic (v := nI 1) (n := 1) (by rfl) (by rfl) (by decide) (?_ : jX G jP 49 73 lv [.int (nI 1), .int ((siI (siI (siI (siI S 6 0 0 (S.1 1 0 0 7).toNatClampNeg v1) 7 0 0 ((siI S 6 0 0 (S.1 1 0 0 7).toNatClampNeg v1).1 1 0 0 7).toNatClampNeg v2) 1 0 0 7 (((siI (siI S 6 0 0 (S.1 1 0 0 7).toNatClampNeg v1) 7 0 0 ((siI S 6 0 0 (S.1 1 0 0 7).toNatClampNeg v1).1 1 0 0 7).toNatClampNeg v2).1 1 0 0 7) + (nI 1))) 5 0 0 (((siI (siI (siI S 6 0 0 (S.1 1 0 0 7).toNatClampNeg v1) 7 0 0 ((siI S 6 0 0 (S.1 1 0 0 7).toNatClampNeg v1).1 1 0 0 7).toNatClampNeg v2) 1 0 0 7 (((siI (siI S 6 0 0 (S.1 1 0 0 7).toNatClampNeg v1) 7 0 0 ((siI S 6 0 0 (S.1 1 0 0 7).toNatClampNeg v1).1 1 0 0 7).toNatClampNeg v2).1 1 0 0 7) + (nI 1))).1 1 0 0 6) - (nI 1)).toNatClampNeg (((siI (siI (siI S 6 0 0 (S.1 1 0 0 7).toNatClampNeg v1) 7 0 0 ((siI S 6 0 0 (S.1 1 0 0 7).toNatClampNeg v1).1 1 0 0 7).toNatClampNeg v2) 1 0 0 7 (((siI (siI S 6 0 0 (S.1 1 0 0 7).toNatClampNeg v1) 7 0 0 ((siI S 6 0 0 (S.1 1 0 0 7).toNatClampNeg v1).1 1 0 0 7).toNatClampNeg v2).1 1 0 0 7) + (nI 1))).1 5 0 0 (((siI (siI (siI S 6 0 0 (S.1 1 0 0 7).toNatClampNeg v1) 7 0 0 ((siI S 6 0 0 (S.1 1 0 0 7).toNatClampNeg v1).1 1 0 0 7).toNatClampNeg v2) 1 0 0 7 (((siI (siI S 6 0 0 (S.1 1 0 0 7).toNatClampNeg v1) 7 0 0 ((siI S 6 0 0 (S.1 1 0 0 7).toNatClampNeg v1).1 1 0 0 7).toNatClampNeg v2).1 1 0 0 7) + (nI 1))).1 1 0 0 6) - (nI 1)).toNatClampNeg) + (nI 1))).1 1 0 0 6), .ref (spl 5 0 0)] μ Q)
      refine jX.go (by rfl) (by rfl) (by rfl) (?_ : jX G jP 49 74 lv [.int (((siI (siI (siI (siI S 6 0 0 (S.1 1 0 0 7).toNatClampNeg v1) 7 0 0 ((siI S 6 0 0 (S.1 1 0 0 7).toNatClampNeg v1).1 1 0 0 7).toNatClampNeg v2) 1 0 0 7 (((siI (siI S 6 0 0 (S.1 1 0 0 7).toNatClampNeg v1) 7 0 0 ((siI S 6 0 0 (S.1 1 0 0 7).toNatClampNeg v1).1 1 0 0 7).toNatClampNeg v2).1 1 0 0 7) + (nI 1))) 5 0 0 (((siI (siI (siI S 6 0 0 (S.1 1 0 0 7).toNatClampNeg v1) 7 0 0 ((siI S 6 0 0 (S.1 1 0 0 7).toNatClampNeg v1).1 1 0 0 7).toNatClampNeg v2) 1 0 0 7 (((siI (siI S 6 0 0 (S.1 1 0 0 7).toNatClampNeg v1) 7 0 0 ((siI S 6 0 0 (S.1 1 0 0 7).toNatClampNeg v1).1 1 0 0 7).toNatClampNeg v2).1 1 0 0 7) + (nI 1))).1 1 0 0 6) - (nI 1)).toNatClampNeg (((siI (siI (siI S 6 0 0 (S.1 1 0 0 7).toNatClampNeg v1) 7 0 0 ((siI S 6 0 0 (S.1 1 0 0 7).toNatClampNeg v1).1 1 0 0 7).toNatClampNeg v2) 1 0 0 7 (((siI (siI S 6 0 0 (S.1 1 0 0 7).toNatClampNeg v1) 7 0 0 ((siI S 6 0 0 (S.1 1 0 0 7).toNatClampNeg v1).1 1 0 0 7).toNatClampNeg v2).1 1 0 0 7) + (nI 1))).1 5 0 0 (((siI (siI (siI S 6 0 0 (S.1 1 0 0 7).toNatClampNeg v1) 7 0 0 ((siI S 6 0 0 (S.1 1 0 0 7).toNatClampNeg v1).1 1 0 0 7).toNatClampNeg v2) 1 0 0 7 (((siI (siI S 6 0 0 (S.1 1 0 0 7).toNatClampNeg v1) 7 0 0 ((siI S 6 0 0 (S.1 1 0 0 7).toNatClampNeg v1).1 1 0 0 7).toNatClampNeg v2).1 1 0 0 7) + (nI 1))).1 1 0 0 6) - (nI 1)).toNatClampNeg) + (nI 1))).1 1 0 0 6) - (nI 1)), .ref (spl 5 0 0)] μ Q)
      obtain ⟨g5, h⟩ := jif_some h
      refine jX.sai R (by rfl) (by rfl) (by rfl) (by rfl) g5 (?_ : jX G jP 49 75 lv [.int ((siI (siI (siI (siI S 6 0 0 (S.1 1 0 0 7).toNatClampNeg v1) 7 0 0 ((siI S 6 0 0 (S.1 1 0 0 7).toNatClampNeg v1).1 1 0 0 7).toNatClampNeg v2) 1 0 0 7 (((siI (siI S 6 0 0 (S.1 1 0 0 7).toNatClampNeg v1) 7 0 0 ((siI S 6 0 0 (S.1 1 0 0 7).toNatClampNeg v1).1 1 0 0 7).toNatClampNeg v2).1 1 0 0 7) + (nI 1))) 5 0 0 (((siI (siI (siI S 6 0 0 (S.1 1 0 0 7).toNatClampNeg v1) 7 0 0 ((siI S 6 0 0 (S.1 1 0 0 7).toNatClampNeg v1).1 1 0 0 7).toNatClampNeg v2) 1 0 0 7 (((siI (siI S 6 0 0 (S.1 1 0 0 7).toNatClampNeg v1) 7 0 0 ((siI S 6 0 0 (S.1 1 0 0 7).toNatClampNeg v1).1 1 0 0 7).toNatClampNeg v2).1 1 0 0 7) + (nI 1))).1 1 0 0 6) - (nI 1)).toNatClampNeg (((siI (siI (siI S 6 0 0 (S.1 1 0 0 7).toNatClampNeg v1) 7 0 0 ((siI S 6 0 0 (S.1 1 0 0 7).toNatClampNeg v1).1 1 0 0 7).toNatClampNeg v2) 1 0 0 7 (((siI (siI S 6 0 0 (S.1 1 0 0 7).toNatClampNeg v1) 7 0 0 ((siI S 6 0 0 (S.1 1 0 0 7).toNatClampNeg v1).1 1 0 0 7).toNatClampNeg v2).1 1 0 0 7) + (nI 1))).1 5 0 0 (((siI (siI (siI S 6 0 0 (S.1 1 0 0 7).toNatClampNeg v1) 7 0 0 ((siI S 6 0 0 (S.1 1 0 0 7).toNatClampNeg v1).1 1 0 0 7).toNatClampNeg v2) 1 0 0 7 (((siI (siI S 6 0 0 (S.1 1 0 0 7).toNatClampNeg v1) 7 0 0 ((siI S 6 0 0 (S.1 1 0 0 7).toNatClampNeg v1).1 1 0 0 7).toNatClampNeg v2).1 1 0 0 7) + (nI 1))).1 1 0 0 6) - (nI 1)).toNatClampNeg) + (nI 1))).1 5 0 0 (((siI (siI (siI (siI S 6 0 0 (S.1 1 0 0 7).toNatClampNeg v1) 7 0 0 ((siI S 6 0 0 (S.1 1 0 0 7).toNatClampNeg v1).1 1 0 0 7).toNatClampNeg v2) 1 0 0 7 (((siI (siI S 6 0 0 (S.1 1 0 0 7).toNatClampNeg v1) 7 0 0 ((siI S 6 0 0 (S.1 1 0 0 7).toNatClampNeg v1).1 1 0 0 7).toNatClampNeg v2).1 1 0 0 7) + (nI 1))) 5 0 0 (((siI (siI (siI S 6 0 0 (S.1 1 0 0 7).toNatClampNeg v1) 7 0 0 ((siI S 6 0 0 (S.1 1 0 0 7).toNatClampNeg v1).1 1 0 0 7).toNatClampNeg v2) 1 0 0 7 (((siI (siI S 6 0 0 (S.1 1 0 0 7).toNatClampNeg v1) 7 0 0 ((siI S 6 0 0 (S.1 1 0 0 7).toNatClampNeg v1).1 1 0 0 7).toNatClampNeg v2).1 1 0 0 7) + (nI 1))).1 1 0 0 6) - (nI 1)).toNatClampNeg (((siI (siI (siI S 6 0 0 (S.1 1 0 0 7).toNatClampNeg v1) 7 0 0 ((siI S 6 0 0 (S.1 1 0 0 7).toNatClampNeg v1).1 1 0 0 7).toNatClampNeg v2) 1 0 0 7 (((siI (siI S 6 0 0 (S.1 1 0 0 7).toNatClampNeg v1) 7 0 0 ((siI S 6 0 0 (S.1 1 0 0 7).toNatClampNeg v1).1 1 0 0 7).toNatClampNeg v2).1 1 0 0 7) + (nI 1))).1 5 0 0 (((siI (siI (siI S 6 0 0 (S.1 1 0 0 7).toNatClampNeg v1) 7 0 0 ((siI S 6 0 0 (S.1 1 0 0 7).toNatClampNeg v1).1 1 0 0 7).toNatClampNeg v2) 1 0 0 7 (((siI (siI S 6 0 0 (S.1 1 0 0 7).toNatClampNeg v1) 7 0 0 ((siI S 6 0 0 (S.1 1 0 0 7).toNatClampNeg v1).1 1 0 0 7).toNatClampNeg v2).1 1 0 0 7) + (nI 1))).1 1 0 0 6) - (nI 1)).toNatClampNeg) + (nI 1))).1 1 0 0 6) - (nI 1)).toNatClampNeg)] μ Q)
      refine jX.ic (v := nI 1) (n := 1) (by rfl) (by rfl) (by decide) (?_ : jX G jP 49 76 lv [.int (nI 1), .int ((siI (siI (siI (siI S 6 0 0 (S.1 1 0 0 7).toNatClampNeg v1) 7 0 0 ((siI S 6 0 0 (S.1 1 0 0 7).toNatClampNeg v1).1 1 0 0 7).toNatClampNeg v2) 1 0 0 7 (((siI (siI S 6 0 0 (S.1 1 0 0 7).toNatClampNeg v1) 7 0 0 ((siI S 6 0 0 (S.1 1 0 0 7).toNatClampNeg v1).1 1 0 0 7).toNatClampNeg v2).1 1 0 0 7) + (nI 1))) 5 0 0 (((siI (siI (siI S 6 0 0 (S.1 1 0 0 7).toNatClampNeg v1) 7 0 0 ((siI S 6 0 0 (S.1 1 0 0 7).toNatClampNeg v1).1 1 0 0 7).toNatClampNeg v2) 1 0 0 7 (((siI (siI S 6 0 0 (S.1 1 0 0 7).toNatClampNeg v1) 7 0 0 ((siI S 6 0 0 (S.1 1 0 0 7).toNatClampNeg v1).1 1 0 0 7).toNatClampNeg v2).1 1 0 0 7) + (nI 1))).1 1 0 0 6) - (nI 1)).toNatClampNeg (((siI (siI (siI S 6 0 0 (S.1 1 0 0 7).toNatClampNeg v1) 7 0 0 ((siI S 6 0 0 (S.1 1 0 0 7).toNatClampNeg v1).1 1 0 0 7).toNatClampNeg v2) 1 0 0 7 (((siI (siI S 6 0 0 (S.1 1 0 0 7).toNatClampNeg v1) 7 0 0 ((siI S 6 0 0 (S.1 1 0 0 7).toNatClampNeg v1).1 1 0 0 7).toNatClampNeg v2).1 1 0 0 7) + (nI 1))).1 5 0 0 (((siI (siI (siI S 6 0 0 (S.1 1 0 0 7).toNatClampNeg v1) 7 0 0 ((siI S 6 0 0 (S.1 1 0 0 7).toNatClampNeg v1).1 1 0 0 7).toNatClampNeg v2) 1 0 0 7 (((siI (siI S 6 0 0 (S.1 1 0 0 7).toNatClampNeg v1) 7 0 0 ((siI S 6 0 0 (S.1 1 0 0 7).toNatClampNeg v1).1 1 0 0 7).toNatClampNeg v2).1 1 0 0 7) + (nI 1))).1 1 0 0 6) - (nI 1)).toNatClampNeg) + (nI 1))).1 5 0 0 (((siI (siI (siI (siI S 6 0 0 (S.1 1 0 0 7).toNatClampNeg v1) 7 0 0 ((siI S 6 0 0 (S.1 1 0 0 7).toNatClampNeg v1).1 1 0 0 7).toNatClampNeg v2) 1 0 0 7 (((siI (siI S 6 0 0 (S.1 1 0 0 7).toNatClampNeg v1) 7 0 0 ((siI S 6 0 0 (S.1 1 0 0 7).toNatClampNeg v1).1 1 0 0 7).toNatClampNeg v2).1 1 0 0 7) + (nI 1))) 5 0 0 (((siI (siI (siI S 6 0 0 (S.1 1 0 0 7).toNatClampNeg v1) 7 0 0 ((siI S 6 0 0 (S.1 1 0 0 7).toNatClampNeg v1).1 1 0 0 7).toNatClampNeg v2) 1 0 0 7 (((siI (siI S 6 0 0 (S.1 1 0 0 7).toNatClampNeg v1) 7 0 0 ((siI S 6 0 0 (S.1 1 0 0 7).toNatClampNeg v1).1 1 0 0 7).toNatClampNeg v2).1 1 0 0 7) + (nI 1))).1 1 0 0 6) - (nI 1)).toNatClampNeg (((siI (siI (siI S 6 0 0 (S.1 1 0 0 7).toNatClampNeg v1) 7 0 0 ((siI S 6 0 0 (S.1 1 0 0 7).toNatClampNeg v1).1 1 0 0 7).toNatClampNeg v2) 1 0 0 7 (((siI (siI S 6 0 0 (S.1 1 0 0 7).toNatClampNeg v1) 7 0 0 ((siI S 6 0 0 (S.1 1 0 0 7).toNatClampNeg v1).1 1 0 0 7).toNatClampNeg v2).1 1 0 0 7) + (nI 1))).1 5 0 0 (((siI (siI (siI S 6 0 0 (S.1 1 0 0 7).toNatClampNeg v1) 7 0 0 ((siI S 6 0 0 (S.1 1 0 0 7).toNatClampNeg v1).1 1 0 0 7).toNatClampNeg v2) 1 0 0 7 (((siI (siI S 6 0 0 (S.1 1 0 0 7).toNatClampNeg v1) 7 0 0 ((siI S 6 0 0 (S.1 1 0 0 7).toNatClampNeg v1).1 1 0 0 7).toNatClampNeg v2).1 1 0 0 7) + (nI 1))).1 1 0 0 6) - (nI 1)).toNatClampNeg) + (nI 1))).1 1 0 0 6) - (nI 1)).toNatClampNeg)] μ Q)
      refine jX.go (by rfl) (by rfl) (by rfl) (?_ : jX G jP 49 77 lv [.int (((siI (siI (siI (siI S 6 0 0 (S.1 1 0 0 7).toNatClampNeg v1) 7 0 0 ((siI S 6 0 0 (S.1 1 0 0 7).toNatClampNeg v1).1 1 0 0 7).toNatClampNeg v2) 1 0 0 7 (((siI (siI S 6 0 0 (S.1 1 0 0 7).toNatClampNeg v1) 7 0 0 ((siI S 6 0 0 (S.1 1 0 0 7).toNatClampNeg v1).1 1 0 0 7).toNatClampNeg v2).1 1 0 0 7) + (nI 1))) 5 0 0 (((siI (siI (siI S 6 0 0 (S.1 1 0 0 7).toNatClampNeg v1) 7 0 0 ((siI S 6 0 0 (S.1 1 0 0 7).toNatClampNeg v1).1 1 0 0 7).toNatClampNeg v2) 1 0 0 7 (((siI (siI S 6 0 0 (S.1 1 0 0 7).toNatClampNeg v1) 7 0 0 ((siI S 6 0 0 (S.1 1 0 0 7).toNatClampNeg v1).1 1 0 0 7).toNatClampNeg v2).1 1 0 0 7) + (nI 1))).1 1 0 0 6) - (nI 1)).toNatClampNeg (((siI (siI (siI S 6 0 0 (S.1 1 0 0 7).toNatClampNeg v1) 7 0 0 ((siI S 6 0 0 (S.1 1 0 0 7).toNatClampNeg v1).1 1 0 0 7).toNatClampNeg v2) 1 0 0 7 (((siI (siI S 6 0 0 (S.1 1 0 0 7).toNatClampNeg v1) 7 0 0 ((siI S 6 0 0 (S.1 1 0 0 7).toNatClampNeg v1).1 1 0 0 7).toNatClampNeg v2).1 1 0 0 7) + (nI 1))).1 5 0 0 (((siI (siI (siI S 6 0 0 (S.1 1 0 0 7).toNatClampNeg v1) 7 0 0 ((siI S 6 0 0 (S.1 1 0 0 7).toNatClampNeg v1).1 1 0 0 7).toNatClampNeg v2) 1 0 0 7 (((siI (siI S 6 0 0 (S.1 1 0 0 7).toNatClampNeg v1) 7 0 0 ((siI S 6 0 0 (S.1 1 0 0 7).toNatClampNeg v1).1 1 0 0 7).toNatClampNeg v2).1 1 0 0 7) + (nI 1))).1 1 0 0 6) - (nI 1)).toNatClampNeg) + (nI 1))).1 5 0 0 (((siI (siI (siI (siI S 6 0 0 (S.1 1 0 0 7).toNatClampNeg v1) 7 0 0 ((siI S 6 0 0 (S.1 1 0 0 7).toNatClampNeg v1).1 1 0 0 7).toNatClampNeg v2) 1 0 0 7 (((siI (siI S 6 0 0 (S.1 1 0 0 7).toNatClampNeg v1) 7 0 0 ((siI S 6 0 0 (S.1 1 0 0 7).toNatClampNeg v1).1 1 0 0 7).toNatClampNeg v2).1 1 0 0 7) + (nI 1))) 5 0 0 (((siI (siI (siI S 6 0 0 (S.1 1 0 0 7).toNatClampNeg v1) 7 0 0 ((siI S 6 0 0 (S.1 1 0 0 7).toNatClampNeg v1).1 1 0 0 7).toNatClampNeg v2) 1 0 0 7 (((siI (siI S 6 0 0 (S.1 1 0 0 7).toNatClampNeg v1) 7 0 0 ((siI S 6 0 0 (S.1 1 0 0 7).toNatClampNeg v1).1 1 0 0 7).toNatClampNeg v2).1 1 0 0 7) + (nI 1))).1 1 0 0 6) - (nI 1)).toNatClampNeg (((siI (siI (siI S 6 0 0 (S.1 1 0 0 7).toNatClampNeg v1) 7 0 0 ((siI S 6 0 0 (S.1 1 0 0 7).toNatClampNeg v1).1 1 0 0 7).toNatClampNeg v2) 1 0 0 7 (((siI (siI S 6 0 0 (S.1 1 0 0 7).toNatClampNeg v1) 7 0 0 ((siI S 6 0 0 (S.1 1 0 0 7).toNatClampNeg v1).1 1 0 0 7).toNatClampNeg v2).1 1 0 0 7) + (nI 1))).1 5 0 0 (((siI (siI (siI S 6 0 0 (S.1 1 0 0 7).toNatClampNeg v1) 7 0 0 ((siI S 6 0 0 (S.1 1 0 0 7).toNatClampNeg v1).1 1 0 0 7).toNatClampNeg v2) 1 0 0 7 (((siI (siI S 6 0 0 (S.1 1 0 0 7).toNatClampNeg v1) 7 0 0 ((siI S 6 0 0 (S.1 1 0 0 7).toNatClampNeg v1).1 1 0 0 7).toNatClampNeg v2).1 1 0 0 7) + (nI 1))).1 1 0 0 6) - (nI 1)).toNatClampNeg) + (nI 1))).1 1 0 0 6) - (nI 1)).toNatClampNeg) - (nI 1))] μ Q)
      exact jX.ret (by rfl) (by rfl) (by rfl) (by rfl) (sretv (f := srI) h K R)
    · refine jX.b2f hc (by rfl) (by rfl) (by rfl) (?_ : jX G jP 49 17 lv [] μ Q)
      refine jX.ic (v := (-1)) (n := 1) (by rfl) (by rfl) (by decide) (?_ : jX G jP 49 18 lv [.int (-1)] μ Q)
      exact jX.ret (by rfl) (by rfl) (by rfl) (by rfl) (sretv (f := srI) h K R)
/-! 50 StrandRuntime.code(II)I -/
def F_50 (G : jG) (t : Nat) (v1 : Int32) (v2 : Int32) (S : sS) : Option ((Int32 ⊕ Nat) × sS) := bif jcmp .lt v1 0 then (some (.inr 0, sxc S)) else (bif jcmp .le v1 (nI 36) then (bif jcmp .eq (S.1 1 0 0 6) 0 then (some (.inr 1, sxc S)) else (bif jcmp .ge (S.1 1 0 0 7) (nI 1500) then (some (.inr 1, sxc S)) else (bif jcmp .eq (S.1 23 0 0 7) 0 then ((F_48 G t v1 v2 S).bind (fun q1 => bif jcmp .ne q1.1 0 then ((F_49 G t v1 v2 q1.2).bind (fun q2 => some (.inl q2.1, q2.2))) else (some (.inr 0, sxc q1.2)))) else (some (.inr 1, sxc S))))) else (some (.inr 0, sxc S)))
theorem F_50_ok {G : jG} {t : Nat} {v1 : Int32} {v2 : Int32} {S : sS} {r : (Int32 ⊕ Nat)} {S' : sS} {μ : jS} {Q : Option Value ⊕ Nat → jS → Prop} (R : sR S μ) (h : F_50 G t v1 v2 S = some (r, S')) (K : ∀ μ', sR S' μ' → Q (sthI r) μ') : jX G jP 50 0 (lv_args 0 [.ref (spl 0 0 0), .int v1, .int v2]) [] μ Q := by
  unfold F_50 at h
  have l0 : jld (lv_args 0 [.ref (spl 0 0 0), .int v1, .int v2]) 0 = some (.ref (spl 0 0 0)) := by rfl
  have l1 : jld (lv_args 0 [.ref (spl 0 0 0), .int v1, .int v2]) 1 = some (.int v1) := by rfl
  have l2 : jld (lv_args 0 [.ref (spl 0 0 0), .int v1, .int v2]) 2 = some (.int v2) := by rfl
  generalize lv_args 0 [.ref (spl 0 0 0), .int v1, .int v2] = lv at *
  refine jX.lin l1 (by rfl) (by rfl) (?_ : jX G jP 50 1 lv [.int v1] μ Q)
  rcases bif_or h with ⟨hc, h⟩ | ⟨hc, h⟩
  · refine jX.b1t hc (by rfl) (by rfl) (by rfl) (?_ : jX G jP 50 10 lv [] μ Q)
    exact jX.throw (by rfl) (sretv (f := sthI) h K R.xc)
  · refine jX.b1f hc (by rfl) (by rfl) (by rfl) (?_ : jX G jP 50 4 lv [] μ Q)
    refine jX.lin l1 (by rfl) (by rfl) (?_ : jX G jP 50 5 lv [.int v1] μ Q)
    refine jX.ic (v := nI 36) (n := 2) (by rfl) (by rfl) (by decide) (?_ : jX G jP 50 7 lv [.int (nI 36), .int v1] μ Q)
    rcases bif_or h with ⟨hc, h⟩ | ⟨hc, h⟩
    · refine jX.b2t hc (by rfl) (by rfl) (by rfl) (?_ : jX G jP 50 18 lv [] μ Q)
      refine jX.lrn l0 (by rfl) (by rfl) (?_ : jX G jP 50 19 lv [.ref (spl 0 0 0)] μ Q)
      refine jX.sg R (by rfl) (by rfl) (by rfl) (by rfl) (by rfl) (by rfl) (?_ : jX G jP 50 22 lv [.ref (spl 1 0 0)] μ Q)
      refine jX.sg R (by rfl) (by rfl) (by rfl) (by rfl) (by rfl) (by rfl) (?_ : jX G jP 50 25 lv [.int (S.1 1 0 0 6)] μ Q)
      rcases bif_or h with ⟨hc, h⟩ | ⟨hc, h⟩
      · refine jX.b1t hc (by rfl) (by rfl) (by rfl) (?_ : jX G jP 50 51 lv [] μ Q)
        exact jX.throw (by rfl) (sretv (f := sthI) h K R.xc)
      · refine jX.b1f hc (by rfl) (by rfl) (by rfl) (?_ : jX G jP 50 28 lv [] μ Q)
        refine jX.lrn l0 (by rfl) (by rfl) (?_ : jX G jP 50 29 lv [.ref (spl 0 0 0)] μ Q)
        refine jX.sg R (by rfl) (by rfl) (by rfl) (by rfl) (by rfl) (by rfl) (?_ : jX G jP 50 32 lv [.ref (spl 1 0 0)] μ Q)
        refine jX.sg R (by rfl) (by rfl) (by rfl) (by rfl) (by rfl) (by rfl) (?_ : jX G jP 50 35 lv [.int (S.1 1 0 0 7)] μ Q)
        refine jX.ic (v := nI 1500) (n := 3) (by rfl) (by rfl) (by decide) (?_ : jX G jP 50 38 lv [.int (nI 1500), .int (S.1 1 0 0 7)] μ Q)
        rcases bif_or h with ⟨hc, h⟩ | ⟨hc, h⟩
        · refine jX.b2t hc (by rfl) (by rfl) (by rfl) (?_ : jX G jP 50 51 lv [] μ Q)
          exact jX.throw (by rfl) (sretv (f := sthI) h K R.xc)
        · refine jX.b2f hc (by rfl) (by rfl) (by rfl) (?_ : jX G jP 50 41 lv [] μ Q)
          refine jX.lrn l0 (by rfl) (by rfl) (?_ : jX G jP 50 42 lv [.ref (spl 0 0 0)] μ Q)
          refine jX.sg R (by rfl) (by rfl) (by rfl) (by rfl) (by rfl) (by rfl) (?_ : jX G jP 50 45 lv [.ref (spl 23 0 0)] μ Q)
          refine jX.sg R (by rfl) (by rfl) (by rfl) (by rfl) (by rfl) (by rfl) (?_ : jX G jP 50 48 lv [.int (S.1 23 0 0 7)] μ Q)
          rcases bif_or h with ⟨hc, h⟩ | ⟨hc, h⟩
          · refine jX.b1t hc (by rfl) (by rfl) (by rfl) (?_ : jX G jP 50 59 lv [] μ Q)
            refine jX.lrn l0 (by rfl) (by rfl) (?_ : jX G jP 50 60 lv [.ref (spl 0 0 0)] μ Q)
            refine jX.sg R (by rfl) (by rfl) (by rfl) (by rfl) (by rfl) (by rfl) (?_ : jX G jP 50 63 lv [.ref (spl 1 0 0)] μ Q)
            refine jX.lin l1 (by rfl) (by rfl) (?_ : jX G jP 50 64 lv [.int v1, .ref (spl 1 0 0)] μ Q)
            refine jX.lin l2 (by rfl) (by rfl) (?_ : jX G jP 50 65 lv [.int v2, .int v1, .ref (spl 1 0 0)] μ Q)
            obtain ⟨q1, e1, h⟩ := sbd h
            refine jX.c1 (v := .int q1.1) (by rfl) (by rfl) (by rfl) (by rfl) (by rfl) (by rfl) (by rfl) (R.rec (by rfl) (by rfl)) (Nat.le_of_ble_eq_true rfl) (Nat.le_of_ble_eq_true rfl) (F_48_ok R e1 (fun μ R => ⟨rfl, (?_ : jX G jP 50 68 lv [.int q1.1] μ Q)⟩))
            rcases bif_or h with ⟨hc, h⟩ | ⟨hc, h⟩
            · refine jX.b1t hc (by rfl) (by rfl) (by rfl) (?_ : jX G jP 50 79 lv [] μ Q)
              refine jX.lrn l0 (by rfl) (by rfl) (?_ : jX G jP 50 80 lv [.ref (spl 0 0 0)] μ Q)
              refine jX.sg R (by rfl) (by rfl) (by rfl) (by rfl) (by rfl) (by rfl) (?_ : jX G jP 50 83 lv [.ref (spl 1 0 0)] μ Q)
              refine jX.lin l1 (by rfl) (by rfl) (?_ : jX G jP 50 84 lv [.int v1, .ref (spl 1 0 0)] μ Q)
              refine jX.lin l2 (by rfl) (by rfl) (?_ : jX G jP 50 85 lv [.int v2, .int v1, .ref (spl 1 0 0)] μ Q)
              obtain ⟨q2, e2, h⟩ := sbd h
              refine jX.c1 (v := .int q2.1) (by rfl) (by rfl) (by rfl) (by rfl) (by rfl) (by rfl) (by rfl) (R.rec (by rfl) (by rfl)) (Nat.le_of_ble_eq_true rfl) (Nat.le_of_ble_eq_true rfl) (F_49_ok R e2 (fun μ R => ⟨rfl, (?_ : jX G jP 50 88 lv [.int q2.1] μ Q)⟩))
              exact jX.ret (by rfl) (by rfl) (by rfl) (by rfl) (sretv (f := sthI) h K R)
            · refine jX.b1f hc (by rfl) (by rfl) (by rfl) (?_ : jX G jP 50 71 lv [] μ Q)
              exact jX.throw (by rfl) (sretv (f := sthI) h K R.xc)
          · refine jX.b1f hc (by rfl) (by rfl) (by rfl) (?_ : jX G jP 50 51 lv [] μ Q)
            exact jX.throw (by rfl) (sretv (f := sthI) h K R.xc)
    · refine jX.b2f hc (by rfl) (by rfl) (by rfl) (?_ : jX G jP 50 10 lv [] μ Q)
      exact jX.throw (by rfl) (sretv (f := sthI) h K R.xc)
/-! 51 StrandRuntime$Heap.release(I)V -/
def F_51 (G : jG) (t : Nat) (v1 : Int32) (S : sS) : Option (Unit × sS) := jif (jin v1 600) (sif ((S.2.2.1.2 v1.toNatClampNeg).map fun p => (p, 0)) (some ((), S)) (fun a2 => jif (sex S.2.2.2.1 32 a2.1 a2.2) (bif jcmp .eq (S.1 32 a2.1 a2.2 1) 0 then (some ((), S)) else (bif jcmp .lt (S.1 11 0 0 7) (nI 600) then (jif (jin ((siI (siI (siI S 11 0 0 9 ((S.1 11 0 0 9) - (S.1 32 a2.1 a2.2 3))) 11 0 0 8 (((siI S 11 0 0 9 ((S.1 11 0 0 9) - (S.1 32 a2.1 a2.2 3))).1 11 0 0 8) - (nI 1))) 32 a2.1 a2.2 1 (nI 0)).1 11 0 0 7) 600) (some ((), (siI (siI (siI (siI (siI S 11 0 0 9 ((S.1 11 0 0 9) - (S.1 32 a2.1 a2.2 3))) 11 0 0 8 (((siI S 11 0 0 9 ((S.1 11 0 0 9) - (S.1 32 a2.1 a2.2 3))).1 11 0 0 8) - (nI 1))) 32 a2.1 a2.2 1 (nI 0)) 13 0 0 ((siI (siI (siI S 11 0 0 9 ((S.1 11 0 0 9) - (S.1 32 a2.1 a2.2 3))) 11 0 0 8 (((siI S 11 0 0 9 ((S.1 11 0 0 9) - (S.1 32 a2.1 a2.2 3))).1 11 0 0 8) - (nI 1))) 32 a2.1 a2.2 1 (nI 0)).1 11 0 0 7).toNatClampNeg v1) 11 0 0 7 (((siI (siI (siI (siI S 11 0 0 9 ((S.1 11 0 0 9) - (S.1 32 a2.1 a2.2 3))) 11 0 0 8 (((siI S 11 0 0 9 ((S.1 11 0 0 9) - (S.1 32 a2.1 a2.2 3))).1 11 0 0 8) - (nI 1))) 32 a2.1 a2.2 1 (nI 0)) 13 0 0 ((siI (siI (siI S 11 0 0 9 ((S.1 11 0 0 9) - (S.1 32 a2.1 a2.2 3))) 11 0 0 8 (((siI S 11 0 0 9 ((S.1 11 0 0 9) - (S.1 32 a2.1 a2.2 3))).1 11 0 0 8) - (nI 1))) 32 a2.1 a2.2 1 (nI 0)).1 11 0 0 7).toNatClampNeg v1).1 11 0 0 7) + (nI 1)))))) else (some ((), S))))))
theorem F_51_ok {G : jG} {t : Nat} {v1 : Int32} {S : sS} {r : Unit} {S' : sS} {μ : jS} {Q : Option Value ⊕ Nat → jS → Prop} (R : sR S μ) (h : F_51 G t v1 S = some (r, S')) (K : ∀ μ', sR S' μ' → Q (srV r) μ') : jX G jP 51 0 (lv_args 0 [.ref (spl 11 0 0), .int v1]) [] μ Q := by
  unfold F_51 at h
  have l0 : jld (lv_args 0 [.ref (spl 11 0 0), .int v1]) 0 = some (.ref (spl 11 0 0)) := by rfl
  have l1 : jld (lv_args 0 [.ref (spl 11 0 0), .int v1]) 1 = some (.int v1) := by rfl
  generalize lv_args 0 [.ref (spl 11 0 0), .int v1] = lv at *
  refine jX.lrn l0 (by rfl) (by rfl) (?_ : jX G jP 51 1 lv [.ref (spl 11 0 0)] μ Q)
  refine jX.sg R (by rfl) (by rfl) (by rfl) (by rfl) (by rfl) (by rfl) (?_ : jX G jP 51 4 lv [.ref (spl 12 0 0)] μ Q)
  refine jX.lin l1 (by rfl) (by rfl) (?_ : jX G jP 51 5 lv [.int v1, .ref (spl 12 0 0)] μ Q)
  obtain ⟨g1, h⟩ := jif_some h
  refine jX.sar R (by rfl) (by rfl) (by rfl) (by rfl) g1 (srf_32 _) (?_ : jX G jP 51 6 lv [soR 32 ((S.2.2.1.2 v1.toNatClampNeg).map fun p => (p, 0))] μ Q)
  refine jX.so (k := 2) (pc' := 7) (by rfl) (by rfl) (fun _ => by rfl) (by rfl) (fun lv l2 kp => (?_ : jX G jP 51 7 lv [] μ Q))
  replace l0 := kp 0 _ l0 (by rfl) (by first | rfl | simp [soR_cat])
  replace l1 := kp 1 _ l1 (by rfl) (by first | rfl | simp [soR_cat])
  refine jX.lon l2 (by rfl) (by rfl) (?_ : jX G jP 51 8 lv [soR 32 ((S.2.2.1.2 v1.toNatClampNeg).map fun p => (p, 0))] μ Q)
  rcases sif_or h with ⟨e2, h⟩ | ⟨a2, e2, h⟩
  · rw [soR_none (t := 32) e2]
    rw [soR_none (t := 32) e2] at l2
    refine jX.go (by rfl) (by rfl) (by rfl) (?_ : jX G jP 51 28 lv [] μ Q)
    exact jX.ret (by rfl) (by rfl) (by rfl) (by rfl) (sretv (f := srV) h K R)
  · rw [soR_some (t := 32) e2]
    rw [soR_some (t := 32) e2] at l2
    refine jX.go (by rfl) (by rfl) (by rfl) (?_ : jX G jP 51 11 lv [] μ Q)
    refine jX.lrn l2 (by rfl) (by rfl) (?_ : jX G jP 51 12 lv [.ref (spl 32 a2.1 a2.2)] μ Q)
    obtain ⟨g3, h⟩ := jif_some h
    refine jX.sg R g3 (by rfl) (by rfl) (by rfl) (by rfl) (by rfl) (?_ : jX G jP 51 15 lv [.int (S.1 32 a2.1 a2.2 1)] μ Q)
    rcases bif_or h with ⟨hc, h⟩ | ⟨hc, h⟩
    · refine jX.b1t hc (by rfl) (by rfl) (by rfl) (?_ : jX G jP 51 28 lv [] μ Q)
      exact jX.ret (by rfl) (by rfl) (by rfl) (by rfl) (sretv (f := srV) h K R)
    · refine jX.b1f hc (by rfl) (by rfl) (by rfl) (?_ : jX G jP 51 18 lv [] μ Q)
      refine jX.lrn l0 (by rfl) (by rfl) (?_ : jX G jP 51 19 lv [.ref (spl 11 0 0)] μ Q)
      refine jX.sg R (by rfl) (by rfl) (by rfl) (by rfl) (by rfl) (by rfl) (?_ : jX G jP 51 22 lv [.int (S.1 11 0 0 7)] μ Q)
      refine jX.ic (v := nI 600) (n := 3) (by rfl) (by rfl) (by decide) (?_ : jX G jP 51 25 lv [.int (nI 600), .int (S.1 11 0 0 7)] μ Q)
      rcases bif_or h with ⟨hc, h⟩ | ⟨hc, h⟩
      · refine jX.b2t hc (by rfl) (by rfl) (by rfl) (?_ : jX G jP 51 29 lv [] μ Q)
        refine jX.lrn l0 (by rfl) (by rfl) (?_ : jX G jP 51 30 lv [.ref (spl 11 0 0)] μ Q)
        refine jX.go (by rfl) (by rfl) (by rfl) (?_ : jX G jP 51 31 lv [.ref (spl 11 0 0), .ref (spl 11 0 0)] μ Q)
        refine jX.sg R (by rfl) (by rfl) (by rfl) (by rfl) (by rfl) (by rfl) (?_ : jX G jP 51 34 lv [.int (S.1 11 0 0 9), .ref (spl 11 0 0)] μ Q)
        refine jX.lrn l2 (by rfl) (by rfl) (?_ : jX G jP 51 35 lv [.ref (spl 32 a2.1 a2.2), .int (S.1 11 0 0 9), .ref (spl 11 0 0)] μ Q)
        refine jX.sg R g3 (by rfl) (by rfl) (by rfl) (by rfl) (by rfl) (?_ : jX G jP 51 38 lv [.int (S.1 32 a2.1 a2.2 3), .int (S.1 11 0 0 9), .ref (spl 11 0 0)] μ Q)
        refine jX.go (by rfl) (by rfl) (by rfl) (?_ : jX G jP 51 39 lv [.int ((S.1 11 0 0 9) - (S.1 32 a2.1 a2.2 3)), .ref (spl 11 0 0)] μ Q)
        refine jX.spI R (by rfl) (by rfl) (by rfl) (by rfl) (by rfl) (by rfl) (by rfl) (by rfl) (by rfl) (fun μ R => (?_ : jX G jP 51 42 lv [] μ Q))
        refine jX.lrn l0 (by rfl) (by rfl) (?_ : jX G jP 51 43 lv [.ref (spl 11 0 0)] μ Q)
        refine jX.go (by rfl) (by rfl) (by rfl) (?_ : jX G jP 51 44 lv [.ref (spl 11 0 0), .ref (spl 11 0 0)] μ Q)
        refine jX.sg R (by rfl) (by rfl) (by rfl) (by rfl) (by rfl) (by rfl) (?_ : jX G jP 51 47 lv [.int ((siI S 11 0 0 9 ((S.1 11 0 0 9) - (S.1 32 a2.1 a2.2 3))).1 11 0 0 8), .ref (spl 11 0 0)] μ Q)
        refine jX.ic (v := nI 1) (n := 1) (by rfl) (by rfl) (by decide) (?_ : jX G jP 51 48 lv [.int (nI 1), .int ((siI S 11 0 0 9 ((S.1 11 0 0 9) - (S.1 32 a2.1 a2.2 3))).1 11 0 0 8), .ref (spl 11 0 0)] μ Q)
        refine jX.go (by rfl) (by rfl) (by rfl) (?_ : jX G jP 51 49 lv [.int (((siI S 11 0 0 9 ((S.1 11 0 0 9) - (S.1 32 a2.1 a2.2 3))).1 11 0 0 8) - (nI 1)), .ref (spl 11 0 0)] μ Q)
        refine jX.spI R (by rfl) (by rfl) (by rfl) (by rfl) (by rfl) (by rfl) (by rfl) (by rfl) (by rfl) (fun μ R => (?_ : jX G jP 51 52 lv [] μ Q))
        refine jX.lrn l2 (by rfl) (by rfl) (?_ : jX G jP 51 53 lv [.ref (spl 32 a2.1 a2.2)] μ Q)
        refine jX.ic (v := nI 0) (n := 1) (by rfl) (by rfl) (by decide) (?_ : jX G jP 51 54 lv [.int (nI 0), .ref (spl 32 a2.1 a2.2)] μ Q)
        refine jX.spI R g3 (by rfl) (by rfl) (by rfl) (by rfl) (by rfl) (by rfl) (by rfl) (by rfl) (fun μ R => (?_ : jX G jP 51 57 lv [] μ Q))
        refine jX.lrn l0 (by rfl) (by rfl) (?_ : jX G jP 51 58 lv [.ref (spl 11 0 0)] μ Q)
        refine jX.sg R (by rfl) (by rfl) (by rfl) (by rfl) (by rfl) (by rfl) (?_ : jX G jP 51 61 lv [.ref (spl 13 0 0)] μ Q)
        refine jX.lrn l0 (by rfl) (by rfl) (?_ : jX G jP 51 62 lv [.ref (spl 11 0 0), .ref (spl 13 0 0)] μ Q)
        refine jX.sg R (by rfl) (by rfl) (by rfl) (by rfl) (by rfl) (by rfl) (?_ : jX G jP 51 65 lv [.int ((siI (siI (siI S 11 0 0 9 ((S.1 11 0 0 9) - (S.1 32 a2.1 a2.2 3))) 11 0 0 8 (((siI S 11 0 0 9 ((S.1 11 0 0 9) - (S.1 32 a2.1 a2.2 3))).1 11 0 0 8) - (nI 1))) 32 a2.1 a2.2 1 (nI 0)).1 11 0 0 7), .ref (spl 13 0 0)] μ Q)
        refine jX.lin l1 (by rfl) (by rfl) (?_ : jX G jP 51 66 lv [.int v1, .int ((siI (siI (siI S 11 0 0 9 ((S.1 11 0 0 9) - (S.1 32 a2.1 a2.2 3))) 11 0 0 8 (((siI S 11 0 0 9 ((S.1 11 0 0 9) - (S.1 32 a2.1 a2.2 3))).1 11 0 0 8) - (nI 1))) 32 a2.1 a2.2 1 (nI 0)).1 11 0 0 7), .ref (spl 13 0 0)] μ Q)
        obtain ⟨g4, h⟩ := jif_some h
        refine jX.sti R (by rfl) (by rfl) (by rfl) (fun _ => by rfl) g4 (fun μ R => (?_ : jX G jP 51 67 lv [] μ Q))
        refine jX.lrn l0 (by rfl) (by rfl) (?_ : jX G jP 51 68 lv [.ref (spl 11 0 0)] μ Q)
        refine jX.go (by rfl) (by rfl) (by rfl) (?_ : jX G jP 51 69 lv [.ref (spl 11 0 0), .ref (spl 11 0 0)] μ Q)
        refine jX.sg R (by rfl) (by rfl) (by rfl) (by rfl) (by rfl) (by rfl) (?_ : jX G jP 51 72 lv [.int ((siI (siI (siI (siI S 11 0 0 9 ((S.1 11 0 0 9) - (S.1 32 a2.1 a2.2 3))) 11 0 0 8 (((siI S 11 0 0 9 ((S.1 11 0 0 9) - (S.1 32 a2.1 a2.2 3))).1 11 0 0 8) - (nI 1))) 32 a2.1 a2.2 1 (nI 0)) 13 0 0 ((siI (siI (siI S 11 0 0 9 ((S.1 11 0 0 9) - (S.1 32 a2.1 a2.2 3))) 11 0 0 8 (((siI S 11 0 0 9 ((S.1 11 0 0 9) - (S.1 32 a2.1 a2.2 3))).1 11 0 0 8) - (nI 1))) 32 a2.1 a2.2 1 (nI 0)).1 11 0 0 7).toNatClampNeg v1).1 11 0 0 7), .ref (spl 11 0 0)] μ Q)
        refine jX.ic (v := nI 1) (n := 1) (by rfl) (by rfl) (by decide) (?_ : jX G jP 51 73 lv [.int (nI 1), .int ((siI (siI (siI (siI S 11 0 0 9 ((S.1 11 0 0 9) - (S.1 32 a2.1 a2.2 3))) 11 0 0 8 (((siI S 11 0 0 9 ((S.1 11 0 0 9) - (S.1 32 a2.1 a2.2 3))).1 11 0 0 8) - (nI 1))) 32 a2.1 a2.2 1 (nI 0)) 13 0 0 ((siI (siI (siI S 11 0 0 9 ((S.1 11 0 0 9) - (S.1 32 a2.1 a2.2 3))) 11 0 0 8 (((siI S 11 0 0 9 ((S.1 11 0 0 9) - (S.1 32 a2.1 a2.2 3))).1 11 0 0 8) - (nI 1))) 32 a2.1 a2.2 1 (nI 0)).1 11 0 0 7).toNatClampNeg v1).1 11 0 0 7), .ref (spl 11 0 0)] μ Q)
        refine jX.go (by rfl) (by rfl) (by rfl) (?_ : jX G jP 51 74 lv [.int (((siI (siI (siI (siI S 11 0 0 9 ((S.1 11 0 0 9) - (S.1 32 a2.1 a2.2 3))) 11 0 0 8 (((siI S 11 0 0 9 ((S.1 11 0 0 9) - (S.1 32 a2.1 a2.2 3))).1 11 0 0 8) - (nI 1))) 32 a2.1 a2.2 1 (nI 0)) 13 0 0 ((siI (siI (siI S 11 0 0 9 ((S.1 11 0 0 9) - (S.1 32 a2.1 a2.2 3))) 11 0 0 8 (((siI S 11 0 0 9 ((S.1 11 0 0 9) - (S.1 32 a2.1 a2.2 3))).1 11 0 0 8) - (nI 1))) 32 a2.1 a2.2 1 (nI 0)).1 11 0 0 7).toNatClampNeg v1).1 11 0 0 7) + (nI 1)), .ref (spl 11 0 0)] μ Q)
        refine jX.spI R (by rfl) (by rfl) (by rfl) (by rfl) (by rfl) (by rfl) (by rfl) (by rfl) (by rfl) (fun μ R => (?_ : jX G jP 51 77 lv [] μ Q))
        exact jX.ret (by rfl) (by rfl) (by rfl) (by rfl) (sretv (f := srV) h K R)
      · refine jX.b2f hc (by rfl) (by rfl) (by rfl) (?_ : jX G jP 51 28 lv [] μ Q)
        exact jX.ret (by rfl) (by rfl) (by rfl) (by rfl) (sretv (f := srV) h K R)
