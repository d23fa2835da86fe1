/-! printed by dec.py: what methods 52 to 97 do to the store -/
/-! 52 StrandRuntime$Heap.collectWhole()V -/
def F_52_30 (G : jG) (t : Nat) (k6 : Int32 → sS → Option (Unit × sS)) (v1 : Int32) (S : sS) : Option (Unit × sS) := k6 (v1 + Int32.ofInt 1) S
theorem F_52_30_ok {G : jG} {t : Nat} {k6 : Int32 → sS → Option (Unit × sS)} {r : Unit} {S' : sS} {Q : Option Value ⊕ Nat → jS → Prop} (hk6 : ∀ (v1 : Int32) (S : sS) (lv : jL) (μ : jS), jld lv 0 = some (.ref (spl 11 0 0)) → jld lv 1 = some (.int v1) → sR S μ → k6 v1 S = some (r, S') → jX G jP 52 6 lv [] μ Q) (K : ∀ μ', sR S' μ' → Q (srV r) μ') : ∀ (v1 : Int32) (S : sS) (lv : jL) (μ : jS), jld lv 0 = some (.ref (spl 11 0 0)) → jld lv 1 = some (.int v1) → sR S μ → F_52_30 G t k6 v1 S = some (r, S') → jX G jP 52 30 lv [] μ Q := by
  intro v1 S lv μ l0 l1 R h
  unfold F_52_30 at h
  refine jX.inc l1 (by rfl) (by rfl) (by rfl) (fun lv l1 kp => (?_ : jX G jP 52 33 lv [] μ Q))
  replace l0 := kp 0 _ l0 (by rfl) (by first | rfl | simp [soR_cat])
  refine jX.go (by rfl) (by rfl) (by rfl) (?_ : jX G jP 52 6 lv [] μ Q)
  exact hk6 (v1 + Int32.ofInt 1) _ _ _ l0 l1 R h
def F_52_6 (G : jG) (t : Nat) : Nat → Int32 → sS → Option (Unit × sS)
  | 0 => fun _ _ => none
  | tt + 1 => fun v1 S => bif jcmp .ge v1 (nI 600) then ((F_10 G t S).bind (fun q1 => some ((), q1.2))) else (jif (jin v1 600) (bif jcmp .ne (S.1 16 0 1 v1.toNatClampNeg) 0 then (F_52_30 G t (F_52_6 G t tt) v1 S) else ((F_51 G t v1 S).bind (fun q3 => F_52_30 G t (F_52_6 G t tt) v1 q3.2))))
theorem F_52_6_ok {G : jG} {t : Nat} {r : Unit} {S' : sS} {Q : Option Value ⊕ Nat → jS → Prop} (K : ∀ μ', sR S' μ' → Q (srV r) μ') : ∀ tt : Nat, ∀ (v1 : Int32) (S : sS) (lv : jL) (μ : jS), jld lv 0 = some (.ref (spl 11 0 0)) → jld lv 1 = some (.int v1) → sR S μ → F_52_6 G t tt v1 S = some (r, S') → jX G jP 52 6 lv [] μ Q := by
  intro tt
  induction tt with
  | zero =>
    intro v1 S lv μ l0 l1 R h
    rw [F_52_6] at h
    cases h
  | succ tt ih =>
    intro v1 S lv μ l0 l1 R h
    rw [F_52_6] at h
    refine jX.lin l1 (by rfl) (by rfl) (?_ : jX G jP 52 7 lv [.int v1] μ Q)
    refine jX.ic (v := nI 600) (n := 3) (by rfl) (by rfl) (by decide) (?_ : jX G jP 52 10 lv [.int (nI 600), .int v1] μ Q)
    rcases bif_or h with ⟨hc, h⟩ | ⟨hc, h⟩
    · refine jX.b2t hc (by rfl) (by rfl) (by rfl) (?_ : jX G jP 52 36 lv [] μ Q)
      refine jX.lrn l0 (by rfl) (by rfl) (?_ : jX G jP 52 37 lv [.ref (spl 11 0 0)] μ Q)
      obtain ⟨q1, e1, h⟩ := sbd h
      refine jX.cv (by rfl) (by rfl) (by rfl) (by rfl) (by rfl) (by rfl) (by rfl) (R.rec (by rfl) (by rfl)) (Nat.le_of_ble_eq_true rfl) (Nat.le_of_ble_eq_true rfl) (F_10_ok R e1 (fun μ R => ⟨rfl, (?_ : jX G jP 52 40 lv [] μ Q)⟩))
      exact jX.ret (by rfl) (by rfl) (by rfl) (by rfl) (sretv (f := srV) h K R)
    · refine jX.b2f hc (by rfl) (by rfl) (by rfl) (?_ : jX G jP 52 13 lv [] μ Q)
      refine jX.lrn l0 (by rfl) (by rfl) (?_ : jX G jP 52 14 lv [.ref (spl 11 0 0)] μ Q)
      refine jX.sg R (by rfl) (by rfl) (by rfl) (by rfl) (by rfl) (by rfl) (?_ : jX G jP 52 17 lv [.ref (spl 15 0 1)] μ Q)
      refine jX.sg R (by rfl) (by rfl) (by rfl) (by rfl) (by rfl) (by rfl) (?_ : jX G jP 52 20 lv [.ref (spl 16 0 1)] μ Q)
      refine jX.lin l1 (by rfl) (by rfl) (?_ : jX G jP 52 21 lv [.int v1, .ref (spl 16 0 1)] μ Q)
      obtain ⟨g2, h⟩ := jif_some h
      refine jX.sai R (by rfl) (by rfl) (by rfl) (by rfl) g2 (?_ : jX G jP 52 22 lv [.int (S.1 16 0 1 v1.toNatClampNeg)] μ Q)
      rcases bif_or h with ⟨hc, h⟩ | ⟨hc, h⟩
      · refine jX.b1t hc (by rfl) (by rfl) (by rfl) (?_ : jX G jP 52 30 lv [] μ Q)
        exact F_52_30_ok ih K v1 _ _ _ l0 l1 R h
      · refine jX.b1f hc (by rfl) (by rfl) (by rfl) (?_ : jX G jP 52 25 lv [] μ Q)
        refine jX.lrn l0 (by rfl) (by rfl) (?_ : jX G jP 52 26 lv [.ref (spl 11 0 0)] μ Q)
        refine jX.lin l1 (by rfl) (by rfl) (?_ : jX G jP 52 27 lv [.int v1, .ref (spl 11 0 0)] μ Q)
        obtain ⟨q3, e3, h⟩ := sbd h
        refine jX.cv (by rfl) (by rfl) (by rfl) (by rfl) (by rfl) (by rfl) (by rfl) (R.rec (by rfl) (by rfl)) (Nat.le_of_ble_eq_true rfl) (Nat.le_of_ble_eq_true rfl) (F_51_ok R e3 (fun μ R => ⟨rfl, (?_ : jX G jP 52 30 lv [] μ Q)⟩))
        exact F_52_30_ok ih K v1 _ _ _ l0 l1 R h
def F_52 (G : jG) (t : Nat) (S : sS) : Option (Unit × sS) := (F_39 G t S).bind (fun q1 => F_52_6 G t t (nI 0) q1.2)
theorem F_52_ok {G : jG} {t : Nat} {S : sS} {r : Unit} {S' : sS} {μ : jS} {Q : Option Value ⊕ Nat → jS → Prop} (R : sR S μ) (h : F_52 G t S = some (r, S')) (K : ∀ μ', sR S' μ' → Q (srV r) μ') : jX G jP 52 0 (lv_args 0 [.ref (spl 11 0 0)]) [] μ Q := by
  unfold F_52 at h
  have l0 : jld (lv_args 0 [.ref (spl 11 0 0)]) 0 = some (.ref (spl 11 0 0)) := by rfl
  generalize lv_args 0 [.ref (spl 11 0 0)] = lv at *
  refine jX.lrn l0 (by rfl) (by rfl) (?_ : jX G jP 52 1 lv [.ref (spl 11 0 0)] μ Q)
  obtain ⟨q1, e1, h⟩ := sbd h
  refine jX.cv (by rfl) (by rfl) (by rfl) (by rfl) (by rfl) (by rfl) (by rfl) (R.rec (by rfl) (by rfl)) (Nat.le_of_ble_eq_true rfl) (Nat.le_of_ble_eq_true rfl) (F_39_ok R e1 (fun μ R => ⟨rfl, (?_ : jX G jP 52 4 lv [] μ Q)⟩))
  refine jX.ic (v := nI 0) (n := 1) (by rfl) (by rfl) (by decide) (?_ : jX G jP 52 5 lv [.int (nI 0)] μ Q)
  refine jX.s1 (k := 1) (pc' := 6) (by rfl) (by rfl) (by rfl) (fun lv l1 kp => (?_ : jX G jP 52 6 lv [] μ Q))
  replace l0 := kp 0 _ l0 (by rfl) (by first | rfl | simp [soR_cat])
  exact F_52_6_ok  K _ (nI 0) _ _ _ l0 l1 R h
/-! 53 StrandRuntime.collect()I -/
def F_53 (G : jG) (t : Nat) (S : sS) : Option (Int32 × sS) := (F_52 G t S).bind (fun q1 => some ((q1.2.1 11 0 0 8), q1.2))
theorem F_53_ok {G : jG} {t : Nat} {S : sS} {r : Int32} {S' : sS} {μ : jS} {Q : Option Value ⊕ Nat → jS → Prop} (R : sR S μ) (h : F_53 G t S = some (r, S')) (K : ∀ μ', sR S' μ' → Q (srI r) μ') : jX G jP 53 0 (lv_args 0 [.ref (spl 0 0 0)]) [] μ Q := by
  unfold F_53 at h
  have l0 : jld (lv_args 0 [.ref (spl 0 0 0)]) 0 = some (.ref (spl 0 0 0)) := by rfl
  generalize lv_args 0 [.ref (spl 0 0 0)] = lv at *
  refine jX.lrn l0 (by rfl) (by rfl) (?_ : jX G jP 53 1 lv [.ref (spl 0 0 0)] μ Q)
  refine jX.sg R (by rfl) (by rfl) (by rfl) (by rfl) (by rfl) (by rfl) (?_ : jX G jP 53 4 lv [.ref (spl 11 0 0)] μ Q)
  obtain ⟨q1, e1, h⟩ := sbd h
  refine jX.cv (by rfl) (by rfl) (by rfl) (by rfl) (by rfl) (by rfl) (by rfl) (R.rec (by rfl) (by rfl)) (Nat.le_of_ble_eq_true rfl) (Nat.le_of_ble_eq_true rfl) (F_52_ok R e1 (fun μ R => ⟨rfl, (?_ : jX G jP 53 7 lv [] μ Q)⟩))
  refine jX.lrn l0 (by rfl) (by rfl) (?_ : jX G jP 53 8 lv [.ref (spl 0 0 0)] μ Q)
  refine jX.sg R (by rfl) (by rfl) (by rfl) (by rfl) (by rfl) (by rfl) (?_ : jX G jP 53 11 lv [.ref (spl 11 0 0)] μ Q)
  refine jX.sg R (by rfl) (by rfl) (by rfl) (by rfl) (by rfl) (by rfl) (?_ : jX G jP 53 14 lv [.int (q1.2.1 11 0 0 8)] μ Q)
  exact jX.ret (by rfl) (by rfl) (by rfl) (by rfl) (sretv (f := srI) h K R)
/-! 54 StrandRuntime$World.alive()I -/
def F_54_25 (G : jG) (t : Nat) (k4 : Int32 → Int32 → sS → Option (Int32 × sS)) (v1 : Int32) (v2 : Int32) (S : sS) : Option (Int32 × sS) := k4 v1 (v2 + Int32.ofInt 1) S
theorem F_54_25_ok {G : jG} {t : Nat} {k4 : Int32 → Int32 → sS → Option (Int32 × sS)} {r : Int32} {S' : sS} {Q : Option Value ⊕ Nat → jS → Prop} (hk4 : ∀ (v1 : Int32) (v2 : Int32) (S : sS) (lv : jL) (μ : jS), jld lv 0 = some (.ref (spl 8 0 0)) → jld lv 1 = some (.int v1) → jld lv 2 = some (.int v2) → sR S μ → k4 v1 v2 S = some (r, S') → jX G jP 54 4 lv [] μ Q) (K : ∀ μ', sR S' μ' → Q (srI r) μ') : ∀ (v1 : Int32) (v2 : Int32) (S : sS) (lv : jL) (μ : jS), jld lv 0 = some (.ref (spl 8 0 0)) → jld lv 1 = some (.int v1) → jld lv 2 = some (.int v2) → sR S μ → F_54_25 G t k4 v1 v2 S = some (r, S') → jX G jP 54 25 lv [] μ Q := by
  intro v1 v2 S lv μ l0 l1 l2 R h
  unfold F_54_25 at h
  refine jX.inc l2 (by rfl) (by rfl) (by rfl) (fun lv l2 kp => (?_ : jX G jP 54 28 lv [] μ Q))
  replace l0 := kp 0 _ l0 (by rfl) (by first | rfl | simp [soR_cat])
  replace l1 := kp 1 _ l1 (by rfl) (by first | rfl | simp [soR_cat])
  refine jX.go (by rfl) (by rfl) (by rfl) (?_ : jX G jP 54 4 lv [] μ Q)
  exact hk4 v1 (v2 + Int32.ofInt 1) _ _ _ l0 l1 l2 R h
def F_54_4 (G : jG) (t : Nat) : Nat → Int32 → Int32 → sS → Option (Int32 × sS)
  | 0 => fun _ _ _ => none
  | tt + 1 => fun v1 v2 S => bif jcmp .ge v2 (nI 16) then (some (v1, S)) else (jif (jin v2 16) (jif (sex S.2.2.2.1 25 v2.toNatClampNeg 0) ((F_22 G t (v2.toNatClampNeg, 0) S).bind (fun q3 => bif jcmp .eq q3.1 0 then (F_54_25 G t (F_54_4 G t tt) v1 v2 q3.2) else (F_54_25 G t (F_54_4 G t tt) (v1 + Int32.ofInt 1) v2 q3.2)))))
theorem F_54_4_ok {G : jG} {t : Nat} {r : Int32} {S' : sS} {Q : Option Value ⊕ Nat → jS → Prop} (K : ∀ μ', sR S' μ' → Q (srI r) μ') : ∀ tt : Nat, ∀ (v1 : Int32) (v2 : Int32) (S : sS) (lv : jL) (μ : jS), jld lv 0 = some (.ref (spl 8 0 0)) → jld lv 1 = some (.int v1) → jld lv 2 = some (.int v2) → sR S μ → F_54_4 G t tt v1 v2 S = some (r, S') → jX G jP 54 4 lv [] μ Q := by
  intro tt
  induction tt with
  | zero =>
    intro v1 v2 S lv μ l0 l1 l2 R h
    rw [F_54_4] at h
    cases h
  | succ tt ih =>
    intro v1 v2 S lv μ l0 l1 l2 R h
    rw [F_54_4] at h
    refine jX.lin l2 (by rfl) (by rfl) (?_ : jX G jP 54 5 lv [.int v2] μ Q)
    refine jX.ic (v := nI 16) (n := 2) (by rfl) (by rfl) (by decide) (?_ : jX G jP 54 7 lv [.int (nI 16), .int v2] μ Q)
    rcases bif_or h with ⟨hc, h⟩ | ⟨hc, h⟩
    · refine jX.b2t hc (by rfl) (by rfl) (by rfl) (?_ : jX G jP 54 31 lv [] μ Q)
      refine jX.lin l1 (by rfl) (by rfl) (?_ : jX G jP 54 32 lv [.int v1] μ Q)
      exact jX.ret (by rfl) (by rfl) (by rfl) (by rfl) (sretv (f := srI) h K R)
    · refine jX.b2f hc (by rfl) (by rfl) (by rfl) (?_ : jX G jP 54 10 lv [] μ Q)
      refine jX.lrn l0 (by rfl) (by rfl) (?_ : jX G jP 54 11 lv [.ref (spl 8 0 0)] μ Q)
      refine jX.sg R (by rfl) (by rfl) (by rfl) (by rfl) (by rfl) (by rfl) (?_ : jX G jP 54 14 lv [.ref (spl 9 0 0)] μ Q)
      refine jX.lin l2 (by rfl) (by rfl) (?_ : jX G jP 54 15 lv [.int v2, .ref (spl 9 0 0)] μ Q)
      obtain ⟨g1, h⟩ := jif_some h
      refine jX.sar (f := fun q => bif Nat.blt q 16 then some (spl 25 q 0) else none) R (by rfl) (by rfl) (by rfl) (by rfl) g1 (srf_in g1) (?_ : jX G jP 54 16 lv [.ref (spl 25 v2.toNatClampNeg 0)] μ Q)
      obtain ⟨g2, h⟩ := jif_some h
      obtain ⟨q3, e3, h⟩ := sbd h
      refine jX.c1 (v := .int q3.1) (by rfl) (by rfl) (by rfl) (by rfl) (by rfl) (by rfl) (by rfl) (R.rec g2 (by rfl)) (Nat.le_of_ble_eq_true rfl) (Nat.le_of_ble_eq_true rfl) (F_22_ok R e3 (fun μ R => ⟨rfl, (?_ : jX G jP 54 19 lv [.int q3.1] μ Q)⟩))
      rcases bif_or h with ⟨hc, h⟩ | ⟨hc, h⟩
      · refine jX.b1t hc (by rfl) (by rfl) (by rfl) (?_ : jX G jP 54 25 lv [] μ Q)
        exact F_54_25_ok ih K v1 v2 _ _ _ l0 l1 l2 R h
      · refine jX.b1f hc (by rfl) (by rfl) (by rfl) (?_ : jX G jP 54 22 lv [] μ Q)
        refine jX.inc l1 (by rfl) (by rfl) (by rfl) (fun lv l1 kp => (?_ : jX G jP 54 25 lv [] μ Q))
        replace l0 := kp 0 _ l0 (by rfl) (by first | rfl | simp [soR_cat])
        replace l2 := kp 2 _ l2 (by rfl) (by first | rfl | simp [soR_cat])
        exact F_54_25_ok ih K (v1 + Int32.ofInt 1) v2 _ _ _ l0 l1 l2 R h
def F_54 (G : jG) (t : Nat) (S : sS) : Option (Int32 × sS) := F_54_4 G t t (nI 0) (nI 0) S
theorem F_54_ok {G : jG} {t : Nat} {S : sS} {r : Int32} {S' : sS} {μ : jS} {Q : Option Value ⊕ Nat → jS → Prop} (R : sR S μ) (h : F_54 G t S = some (r, S')) (K : ∀ μ', sR S' μ' → Q (srI r) μ') : jX G jP 54 0 (lv_args 0 [.ref (spl 8 0 0)]) [] μ Q := by
  unfold F_54 at h
  have l0 : jld (lv_args 0 [.ref (spl 8 0 0)]) 0 = some (.ref (spl 8 0 0)) := by rfl
  generalize lv_args 0 [.ref (spl 8 0 0)] = lv at *
  refine jX.ic (v := nI 0) (n := 1) (by rfl) (by rfl) (by decide) (?_ : jX G jP 54 1 lv [.int (nI 0)] μ Q)
  refine jX.s1 (k := 1) (pc' := 2) (by rfl) (by rfl) (by rfl) (fun lv l1 kp => (?_ : jX G jP 54 2 lv [] μ Q))
  replace l0 := kp 0 _ l0 (by rfl) (by first | rfl | simp [soR_cat])
  refine jX.ic (v := nI 0) (n := 1) (by rfl) (by rfl) (by decide) (?_ : jX G jP 54 3 lv [.int (nI 0)] μ Q)
  refine jX.s1 (k := 2) (pc' := 4) (by rfl) (by rfl) (by rfl) (fun lv l2 kp => (?_ : jX G jP 54 4 lv [] μ Q))
  replace l0 := kp 0 _ l0 (by rfl) (by first | rfl | simp [soR_cat])
  replace l1 := kp 1 _ l1 (by rfl) (by first | rfl | simp [soR_cat])
  exact F_54_4_ok  K _ (nI 0) (nI 0) _ _ _ l0 l1 l2 R h
/-! 55 StrandRuntime$Heap.reachedObjects()I -/
def F_55 (G : jG) (t : Nat) (S : sS) : Option (Int32 × sS) := (F_39 G t S).bind (fun q1 => some ((q1.2.1 15 0 1 3), q1.2))
theorem F_55_ok {G : jG} {t : Nat} {S : sS} {r : Int32} {S' : sS} {μ : jS} {Q : Option Value ⊕ Nat → jS → Prop} (R : sR S μ) (h : F_55 G t S = some (r, S')) (K : ∀ μ', sR S' μ' → Q (srI r) μ') : jX G jP 55 0 (lv_args 0 [.ref (spl 11 0 0)]) [] μ Q := by
  unfold F_55 at h
  have l0 : jld (lv_args 0 [.ref (spl 11 0 0)]) 0 = some (.ref (spl 11 0 0)) := by rfl
  generalize lv_args 0 [.ref (spl 11 0 0)] = lv at *
  refine jX.lrn l0 (by rfl) (by rfl) (?_ : jX G jP 55 1 lv [.ref (spl 11 0 0)] μ Q)
  obtain ⟨q1, e1, h⟩ := sbd h
  refine jX.cv (by rfl) (by rfl) (by rfl) (by rfl) (by rfl) (by rfl) (by rfl) (R.rec (by rfl) (by rfl)) (Nat.le_of_ble_eq_true rfl) (Nat.le_of_ble_eq_true rfl) (F_39_ok R e1 (fun μ R => ⟨rfl, (?_ : jX G jP 55 4 lv [] μ Q)⟩))
  refine jX.lrn l0 (by rfl) (by rfl) (?_ : jX G jP 55 5 lv [.ref (spl 11 0 0)] μ Q)
  refine jX.sg R (by rfl) (by rfl) (by rfl) (by rfl) (by rfl) (by rfl) (?_ : jX G jP 55 8 lv [.ref (spl 15 0 1)] μ Q)
  refine jX.sg R (by rfl) (by rfl) (by rfl) (by rfl) (by rfl) (by rfl) (?_ : jX G jP 55 11 lv [.int (q1.2.1 15 0 1 3)] μ Q)
  exact jX.ret (by rfl) (by rfl) (by rfl) (by rfl) (sretv (f := srI) h K R)
/-! 56 StrandRuntime$Heap.reachedCells()I -/
def F_56 (G : jG) (t : Nat) (S : sS) : Option (Int32 × sS) := (F_39 G t S).bind (fun q1 => some ((q1.2.1 15 0 1 4), q1.2))
theorem F_56_ok {G : jG} {t : Nat} {S : sS} {r : Int32} {S' : sS} {μ : jS} {Q : Option Value ⊕ Nat → jS → Prop} (R : sR S μ) (h : F_56 G t S = some (r, S')) (K : ∀ μ', sR S' μ' → Q (srI r) μ') : jX G jP 56 0 (lv_args 0 [.ref (spl 11 0 0)]) [] μ Q := by
  unfold F_56 at h
  have l0 : jld (lv_args 0 [.ref (spl 11 0 0)]) 0 = some (.ref (spl 11 0 0)) := by rfl
  generalize lv_args 0 [.ref (spl 11 0 0)] = lv at *
  refine jX.lrn l0 (by rfl) (by rfl) (?_ : jX G jP 56 1 lv [.ref (spl 11 0 0)] μ Q)
  obtain ⟨q1, e1, h⟩ := sbd h
  refine jX.cv (by rfl) (by rfl) (by rfl) (by rfl) (by rfl) (by rfl) (by rfl) (R.rec (by rfl) (by rfl)) (Nat.le_of_ble_eq_true rfl) (Nat.le_of_ble_eq_true rfl) (F_39_ok R e1 (fun μ R => ⟨rfl, (?_ : jX G jP 56 4 lv [] μ Q)⟩))
  refine jX.lrn l0 (by rfl) (by rfl) (?_ : jX G jP 56 5 lv [.ref (spl 11 0 0)] μ Q)
  refine jX.sg R (by rfl) (by rfl) (by rfl) (by rfl) (by rfl) (by rfl) (?_ : jX G jP 56 8 lv [.ref (spl 15 0 1)] μ Q)
  refine jX.sg R (by rfl) (by rfl) (by rfl) (by rfl) (by rfl) (by rfl) (?_ : jX G jP 56 11 lv [.int (q1.2.1 15 0 1 4)] μ Q)
  exact jX.ret (by rfl) (by rfl) (by rfl) (by rfl) (sretv (f := srI) h K R)
/-! 57 StrandRuntime.count(I)I -/
def F_57_28 (G : jG) (t : Nat) (v1 : Int32) (S : sS) : Option ((Int32 ⊕ Nat) × sS) := bif decide (v1.toInt < 0 ∨ 7 < v1.toInt) then (some (.inr 0, sxc S)) else (bif decide (v1 = nI 0) then (some (.inl (S.1 23 0 0 8), S)) else (bif decide (v1 = nI 1) then (some (.inl (S.1 8 0 0 7), S)) else (bif decide (v1 = nI 2) then ((F_54 G t S).bind (fun q1 => some (.inl q1.1, q1.2))) else (bif decide (v1 = nI 3) then (some (.inl (S.1 23 0 0 6), S)) else (bif decide (v1 = nI 4) then (some (.inl (S.1 8 0 0 5), S)) else (bif decide (v1 = nI 5) then ((F_55 G t S).bind (fun q2 => some (.inl q2.1, q2.2))) else (bif decide (v1 = nI 6) then ((F_56 G t S).bind (fun q3 => some (.inl q3.1, q3.2))) else (bif decide (v1 = nI 7) then (some (.inl (S.1 11 0 0 10), S)) else (none)))))))))
theorem F_57_28_ok {G : jG} {t : Nat} {r : (Int32 ⊕ Nat)} {S' : sS} {Q : Option Value ⊕ Nat → jS → Prop} (K : ∀ μ', sR S' μ' → Q (sthI r) μ') : ∀ (v1 : Int32) (S : sS) (lv : jL) (μ : jS), jld lv 0 = some (.ref (spl 0 0 0)) → jld lv 1 = some (.int v1) → sR S μ → F_57_28 G t v1 S = some (r, S') → jX G jP 57 28 lv [] μ Q := by
  intro v1 S lv μ l0 l1 R h
  unfold F_57_28 at h
  refine jX.lin l1 (by rfl) (by rfl) (?_ : jX G jP 57 29 lv [.int v1] μ Q)
  rcases bif_or h with ⟨hc, h⟩ | ⟨-, h⟩
  · refine jX.swd hc (by rfl) (by rfl) (by rfl) (?_ : jX G jP 57 140 lv [] μ Q)
    exact jX.throw (by rfl) (sretv (f := sthI) h K R.xc)
  rcases bif_or h with ⟨hc, h⟩ | ⟨-, h⟩
  · refine jX.swn hc (by rfl) (by rfl) (by rfl) (?_ : jX G jP 57 76 lv [] μ Q)
    refine jX.lrn l0 (by rfl) (by rfl) (?_ : jX G jP 57 77 lv [.ref (spl 0 0 0)] μ Q)
    refine jX.sg R (by rfl) (by rfl) (by rfl) (by rfl) (by rfl) (by rfl) (?_ : jX G jP 57 80 lv [.ref (spl 23 0 0)] μ Q)
    refine jX.sg R (by rfl) (by rfl) (by rfl) (by rfl) (by rfl) (by rfl) (?_ : jX G jP 57 83 lv [.int (S.1 23 0 0 8)] μ Q)
    exact jX.ret (by rfl) (by rfl) (by rfl) (by rfl) (sretv (f := sthI) h K R)
  rcases bif_or h with ⟨hc, h⟩ | ⟨-, h⟩
  · refine jX.swn hc (by rfl) (by rfl) (by rfl) (?_ : jX G jP 57 84 lv [] μ Q)
    refine jX.lrn l0 (by rfl) (by rfl) (?_ : jX G jP 57 85 lv [.ref (spl 0 0 0)] μ Q)
    refine jX.sg R (by rfl) (by rfl) (by rfl) (by rfl) (by rfl) (by rfl) (?_ : jX G jP 57 88 lv [.ref (spl 8 0 0)] μ Q)
    refine jX.sg R (by rfl) (by rfl) (by rfl) (by rfl) (by rfl) (by rfl) (?_ : jX G jP 57 91 lv [.int (S.1 8 0 0 7)] μ Q)
    exact jX.ret (by rfl) (by rfl) (by rfl) (by rfl) (sretv (f := sthI) h K R)
  rcases bif_or h with ⟨hc, h⟩ | ⟨-, h⟩
  · refine jX.swn hc (by rfl) (by rfl) (by rfl) (?_ : jX G jP 57 92 lv [] μ Q)
    refine jX.lrn l0 (by rfl) (by rfl) (?_ : jX G jP 57 93 lv [.ref (spl 0 0 0)] μ Q)
    refine jX.sg R (by rfl) (by rfl) (by rfl) (by rfl) (by rfl) (by rfl) (?_ : jX G jP 57 96 lv [.ref (spl 8 0 0)] μ Q)
    obtain ⟨q1, e1, h⟩ := sbd h
    refine jX.c1 (v := .int q1.1) (by rfl) (by rfl) (by rfl) (by rfl) (by rfl) (by rfl) (by rfl) (R.rec (by rfl) (by rfl)) (Nat.le_of_ble_eq_true rfl) (Nat.le_of_ble_eq_true rfl) (F_54_ok R e1 (fun μ R => ⟨rfl, (?_ : jX G jP 57 99 lv [.int q1.1] μ Q)⟩))
    exact jX.ret (by rfl) (by rfl) (by rfl) (by rfl) (sretv (f := sthI) h K R)
  rcases bif_or h with ⟨hc, h⟩ | ⟨-, h⟩
  · refine jX.swn hc (by rfl) (by rfl) (by rfl) (?_ : jX G jP 57 100 lv [] μ Q)
    refine jX.lrn l0 (by rfl) (by rfl) (?_ : jX G jP 57 101 lv [.ref (spl 0 0 0)] μ Q)
    refine jX.sg R (by rfl) (by rfl) (by rfl) (by rfl) (by rfl) (by rfl) (?_ : jX G jP 57 104 lv [.ref (spl 23 0 0)] μ Q)
    refine jX.sg R (by rfl) (by rfl) (by rfl) (by rfl) (by rfl) (by rfl) (?_ : jX G jP 57 107 lv [.int (S.1 23 0 0 6)] μ Q)
    exact jX.ret (by rfl) (by rfl) (by rfl) (by rfl) (sretv (f := sthI) h K R)
  rcases bif_or h with ⟨hc, h⟩ | ⟨-, h⟩
  · refine jX.swn hc (by rfl) (by rfl) (by rfl) (?_ : jX G jP 57 108 lv [] μ Q)
    refine jX.lrn l0 (by rfl) (by rfl) (?_ : jX G jP 57 109 lv [.ref (spl 0 0 0)] μ Q)
    refine jX.sg R (by rfl) (by rfl) (by rfl) (by rfl) (by rfl) (by rfl) (?_ : jX G jP 57 112 lv [.ref (spl 8 0 0)] μ Q)
    refine jX.sg R (by rfl) (by rfl) (by rfl) (by rfl) (by rfl) (by rfl) (?_ : jX G jP 57 115 lv [.int (S.1 8 0 0 5)] μ Q)
    exact jX.ret (by rfl) (by rfl) (by rfl) (by rfl) (sretv (f := sthI) h K R)
  rcases bif_or h with ⟨hc, h⟩ | ⟨-, h⟩
  · refine jX.swn hc (by rfl) (by rfl) (by rfl) (?_ : jX G jP 57 116 lv [] μ Q)
    refine jX.lrn l0 (by rfl) (by rfl) (?_ : jX G jP 57 117 lv [.ref (spl 0 0 0)] μ Q)
    refine jX.sg R (by rfl) (by rfl) (by rfl) (by rfl) (by rfl) (by rfl) (?_ : jX G jP 57 120 lv [.ref (spl 11 0 0)] μ Q)
    obtain ⟨q2, e2, h⟩ := sbd h
    refine jX.c1 (v := .int q2.1) (by rfl) (by rfl) (by rfl) (by rfl) (by rfl) (by rfl) (by rfl) (R.rec (by rfl) (by rfl)) (Nat.le_of_ble_eq_true rfl) (Nat.le_of_ble_eq_true rfl) (F_55_ok R e2 (fun μ R => ⟨rfl, (?_ : jX G jP 57 123 lv [.int q2.1] μ Q)⟩))
    exact jX.ret (by rfl) (by rfl) (by rfl) (by rfl) (sretv (f := sthI) h K R)
  rcases bif_or h with ⟨hc, h⟩ | ⟨-, h⟩
  · refine jX.swn hc (by rfl) (by rfl) (by rfl) (?_ : jX G jP 57 124 lv [] μ Q)
    refine jX.lrn l0 (by rfl) (by rfl) (?_ : jX G jP 57 125 lv [.ref (spl 0 0 0)] μ Q)
    refine jX.sg R (by rfl) (by rfl) (by rfl) (by rfl) (by rfl) (by rfl) (?_ : jX G jP 57 128 lv [.ref (spl 11 0 0)] μ Q)
    obtain ⟨q3, e3, h⟩ := sbd h
    refine jX.c1 (v := .int q3.1) (by rfl) (by rfl) (by rfl) (by rfl) (by rfl) (by rfl) (by rfl) (R.rec (by rfl) (by rfl)) (Nat.le_of_ble_eq_true rfl) (Nat.le_of_ble_eq_true rfl) (F_56_ok R e3 (fun μ R => ⟨rfl, (?_ : jX G jP 57 131 lv [.int q3.1] μ Q)⟩))
    exact jX.ret (by rfl) (by rfl) (by rfl) (by rfl) (sretv (f := sthI) h K R)
  rcases bif_or h with ⟨hc, h⟩ | ⟨-, h⟩
  · refine jX.swn hc (by rfl) (by rfl) (by rfl) (?_ : jX G jP 57 132 lv [] μ Q)
    refine jX.lrn l0 (by rfl) (by rfl) (?_ : jX G jP 57 133 lv [.ref (spl 0 0 0)] μ Q)
    refine jX.sg R (by rfl) (by rfl) (by rfl) (by rfl) (by rfl) (by rfl) (?_ : jX G jP 57 136 lv [.ref (spl 11 0 0)] μ Q)
    refine jX.sg R (by rfl) (by rfl) (by rfl) (by rfl) (by rfl) (by rfl) (?_ : jX G jP 57 139 lv [.int (S.1 11 0 0 10)] μ Q)
    exact jX.ret (by rfl) (by rfl) (by rfl) (by rfl) (sretv (f := sthI) h K R)
  cases h
def F_57 (G : jG) (t : Nat) (v1 : Int32) (S : sS) : Option ((Int32 ⊕ Nat) × sS) := bif jcmp .lt v1 (nI 20) then (F_57_28 G t v1 S) else (bif jcmp .ge v1 (nI 36) then (F_57_28 G t v1 S) else ((F_26 G t (0, 5) (v1 - (nI 20)) S).bind (fun q1 => some (.inl q1.1.toInt32, q1.2))))
theorem F_57_ok {G : jG} {t : Nat} {v1 : Int32} {S : sS} {r : (Int32 ⊕ Nat)} {S' : sS} {μ : jS} {Q : Option Value ⊕ Nat → jS → Prop} (R : sR S μ) (h : F_57 G t v1 S = some (r, S')) (K : ∀ μ', sR S' μ' → Q (sthI r) μ') : jX G jP 57 0 (lv_args 0 [.ref (spl 0 0 0), .int v1]) [] μ Q := by
  unfold F_57 at h
  have l0 : jld (lv_args 0 [.ref (spl 0 0 0), .int v1]) 0 = some (.ref (spl 0 0 0)) := by rfl
  have l1 : jld (lv_args 0 [.ref (spl 0 0 0), .int v1]) 1 = some (.int v1) := by rfl
  generalize lv_args 0 [.ref (spl 0 0 0), .int v1] = lv at *
  refine jX.lin l1 (by rfl) (by rfl) (?_ : jX G jP 57 1 lv [.int v1] μ Q)
  refine jX.ic (v := nI 20) (n := 2) (by rfl) (by rfl) (by decide) (?_ : jX G jP 57 3 lv [.int (nI 20), .int v1] μ Q)
  rcases bif_or h with ⟨hc, h⟩ | ⟨hc, h⟩
  · refine jX.b2t hc (by rfl) (by rfl) (by rfl) (?_ : jX G jP 57 28 lv [] μ Q)
    exact F_57_28_ok  K v1 _ _ _ l0 l1 R h
  · refine jX.b2f hc (by rfl) (by rfl) (by rfl) (?_ : jX G jP 57 6 lv [] μ Q)
    refine jX.lin l1 (by rfl) (by rfl) (?_ : jX G jP 57 7 lv [.int v1] μ Q)
    refine jX.ic (v := nI 36) (n := 2) (by rfl) (by rfl) (by decide) (?_ : jX G jP 57 9 lv [.int (nI 36), .int v1] μ Q)
    rcases bif_or h with ⟨hc, h⟩ | ⟨hc, h⟩
    · refine jX.b2t hc (by rfl) (by rfl) (by rfl) (?_ : jX G jP 57 28 lv [] μ Q)
      exact F_57_28_ok  K v1 _ _ _ l0 l1 R h
    · refine jX.b2f hc (by rfl) (by rfl) (by rfl) (?_ : jX G jP 57 12 lv [] μ Q)
      refine jX.lrn l0 (by rfl) (by rfl) (?_ : jX G jP 57 13 lv [.ref (spl 0 0 0)] μ Q)
      refine jX.sg R (by rfl) (by rfl) (by rfl) (by rfl) (by rfl) (by rfl) (?_ : jX G jP 57 16 lv [.ref (spl 8 0 0)] μ Q)
      refine jX.sg R (by rfl) (by rfl) (by rfl) (by rfl) (by rfl) (by rfl) (?_ : jX G jP 57 19 lv [.ref (spl 29 0 5)] μ Q)
      refine jX.lin l1 (by rfl) (by rfl) (?_ : jX G jP 57 20 lv [.int v1, .ref (spl 29 0 5)] μ Q)
      refine jX.ic (v := nI 20) (n := 2) (by rfl) (by rfl) (by decide) (?_ : jX G jP 57 22 lv [.int (nI 20), .int v1, .ref (spl 29 0 5)] μ Q)
      refine jX.go (by rfl) (by rfl) (by rfl) (?_ : jX G jP 57 23 lv [.int (v1 - (nI 20)), .ref (spl 29 0 5)] μ Q)
      obtain ⟨q1, e1, h⟩ := sbd h
      refine jX.c1 (v := .long q1.1) (by rfl) (by rfl) (by rfl) (by rfl) (by rfl) (by rfl) (by rfl) (R.rec (by rfl) (by rfl)) (Nat.le_of_ble_eq_true rfl) (Nat.le_of_ble_eq_true rfl) (F_26_ok R e1 (fun μ R => ⟨rfl, (?_ : jX G jP 57 26 lv [.long q1.1] μ Q)⟩))
      refine jX.go (by rfl) (by rfl) (by rfl) (?_ : jX G jP 57 27 lv [.int q1.1.toInt32] μ Q)
      exact jX.ret (by rfl) (by rfl) (by rfl) (by rfl) (sretv (f := sthI) h K R)
/-! 58 StrandRuntime$Heap.thingAt(I)LStrandRuntime$Thing; -/
def F_58 (G : jG) (t : Nat) (v1 : Int32) (S : sS) : Option ((Option (Nat × Nat)) × sS) := bif jcmp .lt v1 0 then (some (none, S)) else (bif jcmp .ge v1 (nI 600) then (some (none, S)) else (jif (jin v1 600) (some ((S.2.2.1.2 v1.toNatClampNeg).map fun p => (p, 0), S))))
theorem F_58_ok {G : jG} {t : Nat} {v1 : Int32} {S : sS} {r : (Option (Nat × Nat))} {S' : sS} {μ : jS} {Q : Option Value ⊕ Nat → jS → Prop} (R : sR S μ) (h : F_58 G t v1 S = some (r, S')) (K : ∀ μ', sR S' μ' → Q ((srO 32) r) μ') : jX G jP 58 0 (lv_args 0 [.ref (spl 11 0 0), .int v1]) [] μ Q := by
  unfold F_58 at h
  have l0 : jld (lv_args 0 [.ref (spl 11 0 0), .int v1]) 0 = some (.ref (spl 11 0 0)) := by rfl
  have l1 : jld (lv_args 0 [.ref (spl 11 0 0), .int v1]) 1 = some (.int v1) := by rfl
  generalize lv_args 0 [.ref (spl 11 0 0), .int v1] = lv at *
  refine jX.lin l1 (by rfl) (by rfl) (?_ : jX G jP 58 1 lv [.int v1] μ Q)
  rcases bif_or h with ⟨hc, h⟩ | ⟨hc, h⟩
  · refine jX.b1t hc (by rfl) (by rfl) (by rfl) (?_ : jX G jP 58 20 lv [] μ Q)
    refine jX.go (by rfl) (by rfl) (by rfl) (?_ : jX G jP 58 21 lv [.null] μ Q)
    exact jX.ret (by rfl) (by rfl) (by rfl) (by rfl) (sretv (f := (srO 32)) h K R)
  · refine jX.b1f hc (by rfl) (by rfl) (by rfl) (?_ : jX G jP 58 4 lv [] μ Q)
    refine jX.lin l1 (by rfl) (by rfl) (?_ : jX G jP 58 5 lv [.int v1] μ Q)
    refine jX.ic (v := nI 600) (n := 3) (by rfl) (by rfl) (by decide) (?_ : jX G jP 58 8 lv [.int (nI 600), .int v1] μ Q)
    rcases bif_or h with ⟨hc, h⟩ | ⟨hc, h⟩
    · refine jX.b2t hc (by rfl) (by rfl) (by rfl) (?_ : jX G jP 58 20 lv [] μ Q)
      refine jX.go (by rfl) (by rfl) (by rfl) (?_ : jX G jP 58 21 lv [.null] μ Q)
      exact jX.ret (by rfl) (by rfl) (by rfl) (by rfl) (sretv (f := (srO 32)) h K R)
    · refine jX.b2f hc (by rfl) (by rfl) (by rfl) (?_ : jX G jP 58 11 lv [] μ Q)
      refine jX.lrn l0 (by rfl) (by rfl) (?_ : jX G jP 58 12 lv [.ref (spl 11 0 0)] μ Q)
      refine jX.sg R (by rfl) (by rfl) (by rfl) (by rfl) (by rfl) (by rfl) (?_ : jX G jP 58 15 lv [.ref (spl 12 0 0)] μ Q)
      refine jX.lin l1 (by rfl) (by rfl) (?_ : jX G jP 58 16 lv [.int v1, .ref (spl 12 0 0)] μ Q)
      obtain ⟨g1, h⟩ := jif_some h
      refine jX.sar R (by rfl) (by rfl) (by rfl) (by rfl) g1 (srf_32 _) (?_ : jX G jP 58 17 lv [soR 32 ((S.2.2.1.2 v1.toNatClampNeg).map fun p => (p, 0))] μ Q)
      refine jX.go (by rfl) (by rfl) (by rfl) (?_ : jX G jP 58 21 lv [soR 32 ((S.2.2.1.2 v1.toNatClampNeg).map fun p => (p, 0))] μ Q)
      exact jX.ret (by rfl) (by rfl) (by rfl) (jret_o _ _) (sretv (f := (srO 32)) h K R)
/-! 59 StrandRuntime$Digest.add(J)V -/
def F_59 (G : jG) (t : Nat) (v1 : Int64) (S : sS) : Option (Unit × sS) := some ((), (siL S 18 0 0 6 ((31 * (S.2.1 18 0 0 6)) + v1)))
theorem F_59_ok {G : jG} {t : Nat} {v1 : Int64} {S : sS} {r : Unit} {S' : sS} {μ : jS} {Q : Option Value ⊕ Nat → jS → Prop} (R : sR S μ) (h : F_59 G t v1 S = some (r, S')) (K : ∀ μ', sR S' μ' → Q (srV r) μ') : jX G jP 59 0 (lv_args 0 [.ref (spl 18 0 0), .long v1]) [] μ Q := by
  unfold F_59 at h
  have l0 : jld (lv_args 0 [.ref (spl 18 0 0), .long v1]) 0 = some (.ref (spl 18 0 0)) := by rfl
  have l1 : jld (lv_args 0 [.ref (spl 18 0 0), .long v1]) 1 = some (.long v1) := by rfl
  generalize lv_args 0 [.ref (spl 18 0 0), .long v1] = lv at *
  refine jX.lrn l0 (by rfl) (by rfl) (?_ : jX G jP 59 1 lv [.ref (spl 18 0 0)] μ Q)
  refine jX.go (by rfl) (by rfl) (by rfl) (?_ : jX G jP 59 4 lv [.long 31, .ref (spl 18 0 0)] μ Q)
  refine jX.lrn l0 (by rfl) (by rfl) (?_ : jX G jP 59 5 lv [.ref (spl 18 0 0), .long 31, .ref (spl 18 0 0)] μ Q)
  refine jX.sg R (by rfl) (by rfl) (by rfl) (by rfl) (by rfl) (by rfl) (?_ : jX G jP 59 8 lv [.long (S.2.1 18 0 0 6), .long 31, .ref (spl 18 0 0)] μ Q)
  refine jX.go (by rfl) (by rfl) (by rfl) (?_ : jX G jP 59 9 lv [.long (31 * (S.2.1 18 0 0 6)), .ref (spl 18 0 0)] μ Q)
  refine jX.lln l1 (by rfl) (by rfl) (?_ : jX G jP 59 10 lv [.long v1, .long (31 * (S.2.1 18 0 0 6)), .ref (spl 18 0 0)] μ Q)
  refine jX.go (by rfl) (by rfl) (by rfl) (?_ : jX G jP 59 11 lv [.long ((31 * (S.2.1 18 0 0 6)) + v1), .ref (spl 18 0 0)] μ Q)
  refine jX.spL R (by rfl) (by rfl) (by rfl) (by rfl) (by rfl) (by rfl) (by rfl) (by rfl) (by rfl) (fun μ R => (?_ : jX G jP 59 14 lv [] μ Q))
  exact jX.ret (by rfl) (by rfl) (by rfl) (by rfl) (sretv (f := srV) h K R)
/-! 60 StrandRuntime$Digest.addValue(LStrandRuntime$Row;I)V -/
def F_60_38 (G : jG) (t : Nat) (w0 : Int64) (S : sS) : Option (Unit × sS) := (F_59 G t w0 S).bind (fun q1 => some ((), q1.2))
theorem F_60_38_ok {G : jG} {t : Nat} {r : Unit} {S' : sS} {Q : Option Value ⊕ Nat → jS → Prop} (K : ∀ μ', sR S' μ' → Q (srV r) μ') : ∀ (w0 : Int64) (S : sS) (lv : jL) (μ : jS), sR S μ → F_60_38 G t w0 S = some (r, S') → jX G jP 60 38 lv [.long w0, .ref (spl 18 0 0)] μ Q := by
  intro w0 S lv μ R h
  unfold F_60_38 at h
  obtain ⟨q1, e1, h⟩ := sbd h
  refine jX.cv (by rfl) (by rfl) (by rfl) (by rfl) (by rfl) (by rfl) (by rfl) (R.rec (by rfl) (by rfl)) (Nat.le_of_ble_eq_true rfl) (Nat.le_of_ble_eq_true rfl) (F_59_ok R e1 (fun μ R => ⟨rfl, (?_ : jX G jP 60 41 lv [] μ Q)⟩))
  exact jX.ret (by rfl) (by rfl) (by rfl) (by rfl) (sretv (f := srV) h K R)
def F_60_117 (G : jG) (t : Nat) (v4 : (Nat × Nat)) (v5 : Int32) (w0 : Int64) (S : sS) : Option (Unit × sS) := (F_59 G t w0 S).bind (fun q1 => jif (sex q1.2.2.2.2.1 32 v4.1 v4.2) (jif (sex q1.2.2.2.2.1 29 v4.1 4) ((F_59 G t ((q1.2.1 29 v4.1 4 2).toInt64) q1.2).bind (fun q4 => bif jcmp .ge (q4.2.1 18 0 0 4) (nI 600) then (some ((), q4.2)) else (jif (jin (q4.2.1 18 0 0 4) 600) (jif (jin ((siI q4.2 20 0 0 (q4.2.1 18 0 0 4).toNatClampNeg v5).1 18 0 0 4) 600) (some ((), (siI (siI (siI q4.2 20 0 0 (q4.2.1 18 0 0 4).toNatClampNeg v5) 21 0 0 ((siI q4.2 20 0 0 (q4.2.1 18 0 0 4).toNatClampNeg v5).1 18 0 0 4).toNatClampNeg (nI 0)) 18 0 0 4 (((siI (siI q4.2 20 0 0 (q4.2.1 18 0 0 4).toNatClampNeg v5) 21 0 0 ((siI q4.2 20 0 0 (q4.2.1 18 0 0 4).toNatClampNeg v5).1 18 0 0 4).toNatClampNeg (nI 0)).1 18 0 0 4) + (nI 1)))))))))))
theorem F_60_117_ok {G : jG} {t : Nat} {r : Unit} {S' : sS} {Q : Option Value ⊕ Nat → jS → Prop} (K : ∀ μ', sR S' μ' → Q (srV r) μ') : ∀ (v4 : (Nat × Nat)) (v5 : Int32) (w0 : Int64) (S : sS) (lv : jL) (μ : jS), jld lv 0 = some (.ref (spl 18 0 0)) → jld lv 4 = some (.ref (spl 32 v4.1 v4.2)) → jld lv 5 = some (.int v5) → sR S μ → F_60_117 G t v4 v5 w0 S = some (r, S') → jX G jP 60 117 lv [.long w0, .ref (spl 18 0 0)] μ Q := by
  intro v4 v5 w0 S lv μ l0 l4 l5 R h
  unfold F_60_117 at h
  obtain ⟨q1, e1, h⟩ := sbd h
  refine jX.cv (by rfl) (by rfl) (by rfl) (by rfl) (by rfl) (by rfl) (by rfl) (R.rec (by rfl) (by rfl)) (Nat.le_of_ble_eq_true rfl) (Nat.le_of_ble_eq_true rfl) (F_59_ok R e1 (fun μ R => ⟨rfl, (?_ : jX G jP 60 120 lv [] μ Q)⟩))
  refine jX.lrn l0 (by rfl) (by rfl) (?_ : jX G jP 60 121 lv [.ref (spl 18 0 0)] μ Q)
  refine jX.lr l4 (by rfl) (by rfl) (?_ : jX G jP 60 123 lv [.ref (spl 32 v4.1 v4.2), .ref (spl 18 0 0)] μ Q)
  obtain ⟨g2, h⟩ := jif_some h
  refine jX.sg R g2 (by rfl) (by rfl) (by rfl) (by rfl) (by rfl) (?_ : jX G jP 60 126 lv [.ref (spl 29 v4.1 4), .ref (spl 18 0 0)] μ Q)
  obtain ⟨g3, h⟩ := jif_some h
  refine jX.sg R g3 (by rfl) (by rfl) (by rfl) (by rfl) (by rfl) (?_ : jX G jP 60 129 lv [.int (q1.2.1 29 v4.1 4 2), .ref (spl 18 0 0)] μ Q)
  refine jX.go (by rfl) (by rfl) (by rfl) (?_ : jX G jP 60 130 lv [.long ((q1.2.1 29 v4.1 4 2).toInt64), .ref (spl 18 0 0)] μ Q)
  obtain ⟨q4, e4, h⟩ := sbd h
  refine jX.cv (by rfl) (by rfl) (by rfl) (by rfl) (by rfl) (by rfl) (by rfl) (R.rec (by rfl) (by rfl)) (Nat.le_of_ble_eq_true rfl) (Nat.le_of_ble_eq_true rfl) (F_59_ok R e4 (fun μ R => ⟨rfl, (?_ : jX G jP 60 133 lv [] μ Q)⟩))
  refine jX.lrn l0 (by rfl) (by rfl) (?_ : jX G jP 60 134 lv [.ref (spl 18 0 0)] μ Q)
  refine jX.sg R (by rfl) (by rfl) (by rfl) (by rfl) (by rfl) (by rfl) (?_ : jX G jP 60 137 lv [.int (q4.2.1 18 0 0 4)] μ Q)
  refine jX.ic (v := nI 600) (n := 3) (by rfl) (by rfl) (by decide) (?_ : jX G jP 60 140 lv [.int (nI 600), .int (q4.2.1 18 0 0 4)] μ Q)
  rcases bif_or h with ⟨hc, h⟩ | ⟨hc, h⟩
  · refine jX.b2t hc (by rfl) (by rfl) (by rfl) (?_ : jX G jP 60 174 lv [] μ Q)
    exact jX.ret (by rfl) (by rfl) (by rfl) (by rfl) (sretv (f := srV) h K R)
  · refine jX.b2f hc (by rfl) (by rfl) (by rfl) (?_ : jX G jP 60 143 lv [] μ Q)
    refine jX.lrn l0 (by rfl) (by rfl) (?_ : jX G jP 60 144 lv [.ref (spl 18 0 0)] μ Q)
    refine jX.sg R (by rfl) (by rfl) (by rfl) (by rfl) (by rfl) (by rfl) (?_ : jX G jP 60 147 lv [.ref (spl 20 0 0)] μ Q)
    refine jX.lrn l0 (by rfl) (by rfl) (?_ : jX G jP 60 148 lv [.ref (spl 18 0 0), .ref (spl 20 0 0)] μ Q)
    refine jX.sg R (by rfl) (by rfl) (by rfl) (by rfl) (by rfl) (by rfl) (?_ : jX G jP 60 151 lv [.int (q4.2.1 18 0 0 4), .ref (spl 20 0 0)] μ Q)
    refine jX.li l5 (by rfl) (by rfl) (?_ : jX G jP 60 153 lv [.int v5, .int (q4.2.1 18 0 0 4), .ref (spl 20 0 0)] μ Q)
    obtain ⟨g5, h⟩ := jif_some h
    refine jX.sti R (by rfl) (by rfl) (by rfl) (fun _ => by rfl) g5 (fun μ R => (?_ : jX G jP 60 154 lv [] μ Q))
    refine jX.lrn l0 (by rfl) (by rfl) (?_ : jX G jP 60 155 lv [.ref (spl 18 0 0)] μ Q)
    refine jX.sg R (by rfl) (by rfl) (by rfl) (by rfl) (by rfl) (by rfl) (?_ : jX G jP 60 158 lv [.ref (spl 21 0 0)] μ Q)
    refine jX.lrn l0 (by rfl) (by rfl) (?_ : jX G jP 60 159 lv [.ref (spl 18 0 0), .ref (spl 21 0 0)] μ Q)
    refine jX.sg R (by rfl) (by rfl) (by rfl) (by rfl) (by rfl) (by rfl) (?_ : jX G jP 60 162 lv [.int ((siI q4.2 20 0 0 (q4.2.1 18 0 0 4).toNatClampNeg v5).1 18 0 0 4), .ref (spl 21 0 0)] μ Q)
    refine jX.ic (v := nI 0) (n := 1) (by rfl) (by rfl) (by decide) (?_ : jX G jP 60 163 lv [.int (nI 0), .int ((siI q4.2 20 0 0 (q4.2.1 18 0 0 4).toNatClampNeg v5).1 18 0 0 4), .ref (spl 21 0 0)] μ Q)
    obtain ⟨g6, h⟩ := jif_some h
    refine jX.sti R (by rfl) (by rfl) (by rfl) (fun _ => by rfl) g6 (fun μ R => (?_ : jX G jP 60 164 lv [] μ Q))
    refine jX.lrn l0 (by rfl) (by rfl) (?_ : jX G jP 60 165 lv [.ref (spl 18 0 0)] μ Q)
    refine jX.go (by rfl) (by rfl) (by rfl) (?_ : jX G jP 60 166 lv [.ref (spl 18 0 0), .ref (spl 18 0 0)] μ Q)
    refine jX.sg R (by rfl) (by rfl) (by rfl) (by rfl) (by rfl) (by rfl) (?_ : jX G jP 60 169 lv [.int ((siI (siI q4.2 20 0 0 (q4.2.1 18 0 0 4).toNatClampNeg v5) 21 0 0 ((siI q4.2 20 0 0 (q4.2.1 18 0 0 4).toNatClampNeg v5).1 18 0 0 4).toNatClampNeg (nI 0)).1 18 0 0 4), .ref (spl 18 0 0)] μ Q)
    refine jX.ic (v := nI 1) (n := 1) (by rfl) (by rfl) (by decide) (?_ : jX G jP 60 170 lv [.int (nI 1), .int ((siI (siI q4.2 20 0 0 (q4.2.1 18 0 0 4).toNatClampNeg v5) 21 0 0 ((siI q4.2 20 0 0 (q4.2.1 18 0 0 4).toNatClampNeg v5).1 18 0 0 4).toNatClampNeg (nI 0)).1 18 0 0 4), .ref (spl 18 0 0)] μ Q)
    refine jX.go (by rfl) (by rfl) (by rfl) (?_ : jX G jP 60 171 lv [.int (((siI (siI q4.2 20 0 0 (q4.2.1 18 0 0 4).toNatClampNeg v5) 21 0 0 ((siI q4.2 20 0 0 (q4.2.1 18 0 0 4).toNatClampNeg v5).1 18 0 0 4).toNatClampNeg (nI 0)).1 18 0 0 4) + (nI 1)), .ref (spl 18 0 0)] μ Q)
    refine jX.spI R (by rfl) (by rfl) (by rfl) (by rfl) (by rfl) (by rfl) (by rfl) (by rfl) (by rfl) (fun μ R => (?_ : jX G jP 60 174 lv [] μ Q))
    exact jX.ret (by rfl) (by rfl) (by rfl) (by rfl) (sretv (f := srV) h K R)
def F_60 (G : jG) (t : Nat) (v1 : (Nat × Nat)) (v2 : Int32) (S : sS) : Option (Unit × sS) := jif (sex S.2.2.2.1 29 v1.1 v1.2) ((F_27 G t v1 v2 S).bind (fun q2 => (F_58 G t (q2.1 - (nI 2)) q2.2).bind (fun q3 => sif q3.1 (bif jcmp .ne q2.1 (nI 1) then (jif (sex q3.2.2.2.2.1 29 v1.1 v1.2) ((F_26 G t v1 v2 q3.2).bind (fun q6 => F_60_38 G t q6.1 q6.2))) else (F_60_38 G t 1 q3.2)) (fun a4 => jif (jin (q2.1 - (nI 2)) 600) (bif jcmp .le (q3.2.1 19 0 0 (q2.1 - (nI 2)).toNatClampNeg) 0 then (jif (jin (q2.1 - (nI 2)) 600) (jif (sex (siI (siI q3.2 18 0 0 5 ((q3.2.1 18 0 0 5) + (nI 1))) 19 0 0 (q2.1 - (nI 2)).toNatClampNeg ((siI q3.2 18 0 0 5 ((q3.2.1 18 0 0 5) + (nI 1))).1 18 0 0 5)).2.2.2.1 32 a4.1 a4.2) (bif jcmp .ne ((siI (siI q3.2 18 0 0 5 ((q3.2.1 18 0 0 5) + (nI 1))) 19 0 0 (q2.1 - (nI 2)).toNatClampNeg ((siI q3.2 18 0 0 5 ((q3.2.1 18 0 0 5) + (nI 1))).1 18 0 0 5)).1 32 a4.1 a4.2 1) (nI 2) then (F_60_117 G t a4 (q2.1 - (nI 2)) 4 (siI (siI q3.2 18 0 0 5 ((q3.2.1 18 0 0 5) + (nI 1))) 19 0 0 (q2.1 - (nI 2)).toNatClampNeg ((siI q3.2 18 0 0 5 ((q3.2.1 18 0 0 5) + (nI 1))).1 18 0 0 5))) else (F_60_117 G t a4 (q2.1 - (nI 2)) 3 (siI (siI q3.2 18 0 0 5 ((q3.2.1 18 0 0 5) + (nI 1))) 19 0 0 (q2.1 - (nI 2)).toNatClampNeg ((siI q3.2 18 0 0 5 ((q3.2.1 18 0 0 5) + (nI 1))).1 18 0 0 5)))))) else ((F_59 G t 2 q3.2).bind (fun q10 => jif (jin (q2.1 - (nI 2)) 600) ((F_59 G t ((q10.2.1 19 0 0 (q2.1 - (nI 2)).toNatClampNeg).toInt64) q10.2).bind (fun q12 => some ((), q12.2))))))))))
theorem F_60_ok {G : jG} {t : Nat} {v1 : (Nat × Nat)} {v2 : Int32} {S : sS} {r : Unit} {S' : sS} {μ : jS} {Q : Option Value ⊕ Nat → jS → Prop} (R : sR S μ) (h : F_60 G t v1 v2 S = some (r, S')) (K : ∀ μ', sR S' μ' → Q (srV r) μ') : jX G jP 60 0 (lv_args 0 [.ref (spl 18 0 0), .ref (spl 29 v1.1 v1.2), .int v2]) [] μ Q := by
  unfold F_60 at h
  have l0 : jld (lv_args 0 [.ref (spl 18 0 0), .ref (spl 29 v1.1 v1.2), .int v2]) 0 = some (.ref (spl 18 0 0)) := by rfl
  have l1 : jld (lv_args 0 [.ref (spl 18 0 0), .ref (spl 29 v1.1 v1.2), .int v2]) 1 = some (.ref (spl 29 v1.1 v1.2)) := by rfl
  have l2 : jld (lv_args 0 [.ref (spl 18 0 0), .ref (spl 29 v1.1 v1.2), .int v2]) 2 = some (.int v2) := by rfl
  generalize lv_args 0 [.ref (spl 18 0 0), .ref (spl 29 v1.1 v1.2), .int v2] = lv at *
  refine jX.lrn l1 (by rfl) (by rfl) (?_ : jX G jP 60 1 lv [.ref (spl 29 v1.1 v1.2)] μ Q)
  refine jX.lin l2 (by rfl) (by rfl) (?_ : jX G jP 60 2 lv [.int v2, .ref (spl 29 v1.1 v1.2)] μ Q)
  obtain ⟨g1, h⟩ := jif_some h
  obtain ⟨q2, e2, h⟩ := sbd h
  refine jX.c1 (v := .int q2.1) (by rfl) (by rfl) (by rfl) (by rfl) (by rfl) (by rfl) (by rfl) (R.rec g1 (by rfl)) (Nat.le_of_ble_eq_true rfl) (Nat.le_of_ble_eq_true rfl) (F_27_ok R e2 (fun μ R => ⟨rfl, (?_ : jX G jP 60 5 lv [.int q2.1] μ Q)⟩))
  refine jX.s1 (k := 3) (pc' := 6) (by rfl) (by rfl) (by rfl) (fun lv l3 kp => (?_ : jX G jP 60 6 lv [] μ Q))
  replace l0 := kp 0 _ l0 (by rfl) (by first | rfl | simp [soR_cat])
  replace l1 := kp 1 _ l1 (by rfl) (by first | rfl | simp [soR_cat])
  replace l2 := kp 2 _ l2 (by rfl) (by first | rfl | simp [soR_cat])
  refine jX.lrn l0 (by rfl) (by rfl) (?_ : jX G jP 60 7 lv [.ref (spl 18 0 0)] μ Q)
  refine jX.sg R (by rfl) (by rfl) (by rfl) (by rfl) (by rfl) (by rfl) (?_ : jX G jP 60 10 lv [.ref (spl 11 0 0)] μ Q)
  refine jX.lin l3 (by rfl) (by rfl) (?_ : jX G jP 60 11 lv [.int q2.1, .ref (spl 11 0 0)] μ Q)
  refine jX.ic (v := nI 2) (n := 1) (by rfl) (by rfl) (by decide) (?_ : jX G jP 60 12 lv [.int (nI 2), .int q2.1, .ref (spl 11 0 0)] μ Q)
  refine jX.go (by rfl) (by rfl) (by rfl) (?_ : jX G jP 60 13 lv [.int (q2.1 - (nI 2)), .ref (spl 11 0 0)] μ Q)
  obtain ⟨q3, e3, h⟩ := sbd h
  refine jX.c1 (v := soR 32 q3.1) (by rfl) (by rfl) (by rfl) (by rfl) (by rfl) (by rfl) (by rfl) (R.rec (by rfl) (by rfl)) (Nat.le_of_ble_eq_true rfl) (Nat.le_of_ble_eq_true rfl) (F_58_ok R e3 (fun μ R => ⟨rfl, (?_ : jX G jP 60 16 lv [soR 32 q3.1] μ Q)⟩))
  refine jX.so (k := 4) (pc' := 18) (by rfl) (by rfl) (fun _ => by rfl) (by rfl) (fun lv l4 kp => (?_ : jX G jP 60 18 lv [] μ Q))
  replace l0 := kp 0 _ l0 (by rfl) (by first | rfl | simp [soR_cat])
  replace l1 := kp 1 _ l1 (by rfl) (by first | rfl | simp [soR_cat])
  replace l2 := kp 2 _ l2 (by rfl) (by first | rfl | simp [soR_cat])
  replace l3 := kp 3 _ l3 (by rfl) (by first | rfl | simp [soR_cat])
  refine jX.lo l4 (by rfl) (by rfl) (?_ : jX G jP 60 20 lv [soR 32 q3.1] μ Q)
  rcases sif_or h with ⟨e4, h⟩ | ⟨a4, e4, h⟩
  · rw [soR_none (t := 32) e4]
    rw [soR_none (t := 32) e4] at l4
    refine jX.go (by rfl) (by rfl) (by rfl) (?_ : jX G jP 60 23 lv [] μ Q)
    refine jX.lrn l0 (by rfl) (by rfl) (?_ : jX G jP 60 24 lv [.ref (spl 18 0 0)] μ Q)
    refine jX.lin l3 (by rfl) (by rfl) (?_ : jX G jP 60 25 lv [.int q2.1, .ref (spl 18 0 0)] μ Q)
    refine jX.ic (v := nI 1) (n := 1) (by rfl) (by rfl) (by decide) (?_ : jX G jP 60 26 lv [.int (nI 1), .int q2.1, .ref (spl 18 0 0)] μ Q)
    rcases bif_or h with ⟨hc, h⟩ | ⟨hc, h⟩
    · refine jX.b2t hc (by rfl) (by rfl) (by rfl) (?_ : jX G jP 60 33 lv [.ref (spl 18 0 0)] μ Q)
      refine jX.lrn l1 (by rfl) (by rfl) (?_ : jX G jP 60 34 lv [.ref (spl 29 v1.1 v1.2), .ref (spl 18 0 0)] μ Q)
      refine jX.lin l2 (by rfl) (by rfl) (?_ : jX G jP 60 35 lv [.int v2, .ref (spl 29 v1.1 v1.2), .ref (spl 18 0 0)] μ Q)
      obtain ⟨g5, h⟩ := jif_some h
      obtain ⟨q6, e6, h⟩ := sbd h
      refine jX.c1 (v := .long q6.1) (by rfl) (by rfl) (by rfl) (by rfl) (by rfl) (by rfl) (by rfl) (R.rec g5 (by rfl)) (Nat.le_of_ble_eq_true rfl) (Nat.le_of_ble_eq_true rfl) (F_26_ok R e6 (fun μ R => ⟨rfl, (?_ : jX G jP 60 38 lv [.long q6.1, .ref (spl 18 0 0)] μ Q)⟩))
      exact F_60_38_ok  K q6.1 _ _ _  R h
    · refine jX.b2f hc (by rfl) (by rfl) (by rfl) (?_ : jX G jP 60 29 lv [.ref (spl 18 0 0)] μ Q)
      refine jX.go (by rfl) (by rfl) (by rfl) (?_ : jX G jP 60 30 lv [.long 1, .ref (spl 18 0 0)] μ Q)
      refine jX.go (by rfl) (by rfl) (by rfl) (?_ : jX G jP 60 38 lv [.long 1, .ref (spl 18 0 0)] μ Q)
      exact F_60_38_ok  K 1 _ _ _  R h
  · rw [soR_some (t := 32) e4]
    rw [soR_some (t := 32) e4] at l4
    refine jX.go (by rfl) (by rfl) (by rfl) (?_ : jX G jP 60 42 lv [] μ Q)
    refine jX.lin l3 (by rfl) (by rfl) (?_ : jX G jP 60 43 lv [.int q2.1] μ Q)
    refine jX.ic (v := nI 2) (n := 1) (by rfl) (by rfl) (by decide) (?_ : jX G jP 60 44 lv [.int (nI 2), .int q2.1] μ Q)
    refine jX.go (by rfl) (by rfl) (by rfl) (?_ : jX G jP 60 45 lv [.int (q2.1 - (nI 2))] μ Q)
    refine jX.s1 (k := 5) (pc' := 47) (by rfl) (by rfl) (by rfl) (fun lv l5 kp => (?_ : jX G jP 60 47 lv [] μ Q))
    replace l0 := kp 0 _ l0 (by rfl) (by first | rfl | simp [soR_cat])
    replace l4 := kp 4 _ l4 (by rfl) (by first | rfl | simp [soR_cat])
    refine jX.lrn l0 (by rfl) (by rfl) (?_ : jX G jP 60 48 lv [.ref (spl 18 0 0)] μ Q)
    refine jX.sg R (by rfl) (by rfl) (by rfl) (by rfl) (by rfl) (by rfl) (?_ : jX G jP 60 51 lv [.ref (spl 19 0 0)] μ Q)
    refine jX.li l5 (by rfl) (by rfl) (?_ : jX G jP 60 53 lv [.int (q2.1 - (nI 2)), .ref (spl 19 0 0)] μ Q)
    obtain ⟨g7, h⟩ := jif_some h
    refine jX.sai R (by rfl) (by rfl) (by rfl) (by rfl) g7 (?_ : jX G jP 60 54 lv [.int (q3.2.1 19 0 0 (q2.1 - (nI 2)).toNatClampNeg)] μ Q)
    rcases bif_or h with ⟨hc, h⟩ | ⟨hc, h⟩
    · refine jX.b1t hc (by rfl) (by rfl) (by rfl) (?_ : jX G jP 60 77 lv [] μ Q)
      refine jX.lrn l0 (by rfl) (by rfl) (?_ : jX G jP 60 78 lv [.ref (spl 18 0 0)] μ Q)
      refine jX.go (by rfl) (by rfl) (by rfl) (?_ : jX G jP 60 79 lv [.ref (spl 18 0 0), .ref (spl 18 0 0)] μ Q)
      refine jX.sg R (by rfl) (by rfl) (by rfl) (by rfl) (by rfl) (by rfl) (?_ : jX G jP 60 82 lv [.int (q3.2.1 18 0 0 5), .ref (spl 18 0 0)] μ Q)
      refine jX.ic (v := nI 1) (n := 1) (by rfl) (by rfl) (by decide) (?_ : jX G jP 60 83 lv [.int (nI 1), .int (q3.2.1 18 0 0 5), .ref (spl 18 0 0)] μ Q)
      refine jX.go (by rfl) (by rfl) (by rfl) (?_ : jX G jP 60 84 lv [.int ((q3.2.1 18 0 0 5) + (nI 1)), .ref (spl 18 0 0)] μ Q)
      refine jX.spI R (by rfl) (by rfl) (by rfl) (by rfl) (by rfl) (by rfl) (by rfl) (by rfl) (by rfl) (fun μ R => (?_ : jX G jP 60 87 lv [] μ Q))
      refine jX.lrn l0 (by rfl) (by rfl) (?_ : jX G jP 60 88 lv [.ref (spl 18 0 0)] μ Q)
      refine jX.sg R (by rfl) (by rfl) (by rfl) (by rfl) (by rfl) (by rfl) (?_ : jX G jP 60 91 lv [.ref (spl 19 0 0)] μ Q)
      refine jX.li l5 (by rfl) (by rfl) (?_ : jX G jP 60 93 lv [.int (q2.1 - (nI 2)), .ref (spl 19 0 0)] μ Q)
      refine jX.lrn l0 (by rfl) (by rfl) (?_ : jX G jP 60 94 lv [.ref (spl 18 0 0), .int (q2.1 - (nI 2)), .ref (spl 19 0 0)] μ Q)
      refine jX.sg R (by rfl) (by rfl) (by rfl) (by rfl) (by rfl) (by rfl) (?_ : jX G jP 60 97 lv [.int ((siI q3.2 18 0 0 5 ((q3.2.1 18 0 0 5) + (nI 1))).1 18 0 0 5), .int (q2.1 - (nI 2)), .ref (spl 19 0 0)] μ Q)
      obtain ⟨g8, h⟩ := jif_some h
      refine jX.sti R (by rfl) (by rfl) (by rfl) (fun _ => by rfl) g8 (fun μ R => (?_ : jX G jP 60 98 lv [] μ Q))
      refine jX.lrn l0 (by rfl) (by rfl) (?_ : jX G jP 60 99 lv [.ref (spl 18 0 0)] μ Q)
      refine jX.lr l4 (by rfl) (by rfl) (?_ : jX G jP 60 101 lv [.ref (spl 32 a4.1 a4.2), .ref (spl 18 0 0)] μ Q)
      obtain ⟨g9, h⟩ := jif_some h
      refine jX.sg R g9 (by rfl) (by rfl) (by rfl) (by rfl) (by rfl) (?_ : jX G jP 60 104 lv [.int ((siI (siI q3.2 18 0 0 5 ((q3.2.1 18 0 0 5) + (nI 1))) 19 0 0 (q2.1 - (nI 2)).toNatClampNeg ((siI q3.2 18 0 0 5 ((q3.2.1 18 0 0 5) + (nI 1))).1 18 0 0 5)).1 32 a4.1 a4.2 1), .ref (spl 18 0 0)] μ Q)
      refine jX.ic (v := nI 2) (n := 1) (by rfl) (by rfl) (by decide) (?_ : jX G jP 60 105 lv [.int (nI 2), .int ((siI (siI q3.2 18 0 0 5 ((q3.2.1 18 0 0 5) + (nI 1))) 19 0 0 (q2.1 - (nI 2)).toNatClampNeg ((siI q3.2 18 0 0 5 ((q3.2.1 18 0 0 5) + (nI 1))).1 18 0 0 5)).1 32 a4.1 a4.2 1), .ref (spl 18 0 0)] μ Q)
      rcases bif_or h with ⟨hc, h⟩ | ⟨hc, h⟩
      · refine jX.b2t hc (by rfl) (by rfl) (by rfl) (?_ : jX G jP 60 114 lv [.ref (spl 18 0 0)] μ Q)
        refine jX.go (by rfl) (by rfl) (by rfl) (?_ : jX G jP 60 117 lv [.long 4, .ref (spl 18 0 0)] μ Q)
        exact F_60_117_ok  K a4 (q2.1 - (nI 2)) 4 _ _ _ l0 l4 l5 R h
      · refine jX.b2f hc (by rfl) (by rfl) (by rfl) (?_ : jX G jP 60 108 lv [.ref (spl 18 0 0)] μ Q)
        refine jX.go (by rfl) (by rfl) (by rfl) (?_ : jX G jP 60 111 lv [.long 3, .ref (spl 18 0 0)] μ Q)
        refine jX.go (by rfl) (by rfl) (by rfl) (?_ : jX G jP 60 117 lv [.long 3, .ref (spl 18 0 0)] μ Q)
        exact F_60_117_ok  K a4 (q2.1 - (nI 2)) 3 _ _ _ l0 l4 l5 R h
    · refine jX.b1f hc (by rfl) (by rfl) (by rfl) (?_ : jX G jP 60 57 lv [] μ Q)
      refine jX.lrn l0 (by rfl) (by rfl) (?_ : jX G jP 60 58 lv [.ref (spl 18 0 0)] μ Q)
      refine jX.go (by rfl) (by rfl) (by rfl) (?_ : jX G jP 60 61 lv [.long 2, .ref (spl 18 0 0)] μ Q)
      obtain ⟨q10, e10, h⟩ := sbd h
      refine jX.cv (by rfl) (by rfl) (by rfl) (by rfl) (by rfl) (by rfl) (by rfl) (R.rec (by rfl) (by rfl)) (Nat.le_of_ble_eq_true rfl) (Nat.le_of_ble_eq_true rfl) (F_59_ok R e10 (fun μ R => ⟨rfl, (?_ : jX G jP 60 64 lv [] μ Q)⟩))
      refine jX.lrn l0 (by rfl) (by rfl) (?_ : jX G jP 60 65 lv [.ref (spl 18 0 0)] μ Q)
      refine jX.lrn l0 (by rfl) (by rfl) (?_ : jX G jP 60 66 lv [.ref (spl 18 0 0), .ref (spl 18 0 0)] μ Q)
      refine jX.sg R (by rfl) (by rfl) (by rfl) (by rfl) (by rfl) (by rfl) (?_ : jX G jP 60 69 lv [.ref (spl 19 0 0), .ref (spl 18 0 0)] μ Q)
      refine jX.li l5 (by rfl) (by rfl) (?_ : jX G jP 60 71 lv [.int (q2.1 - (nI 2)), .ref (spl 19 0 0), .ref (spl 18 0 0)] μ Q)
      obtain ⟨g11, h⟩ := jif_some h
      refine jX.sai R (by rfl) (by rfl) (by rfl) (by rfl) g11 (?_ : jX G jP 60 72 lv [.int (q10.2.1 19 0 0 (q2.1 - (nI 2)).toNatClampNeg), .ref (spl 18 0 0)] μ Q)
      refine jX.go (by rfl) (by rfl) (by rfl) (?_ : jX G jP 60 73 lv [.long ((q10.2.1 19 0 0 (q2.1 - (nI 2)).toNatClampNeg).toInt64), .ref (spl 18 0 0)] μ Q)
      obtain ⟨q12, e12, h⟩ := sbd h
      refine jX.cv (by rfl) (by rfl) (by rfl) (by rfl) (by rfl) (by rfl) (by rfl) (R.rec (by rfl) (by rfl)) (Nat.le_of_ble_eq_true rfl) (Nat.le_of_ble_eq_true rfl) (F_59_ok R e12 (fun μ R => ⟨rfl, (?_ : jX G jP 60 76 lv [] μ Q)⟩))
      exact jX.ret (by rfl) (by rfl) (by rfl) (by rfl) (sretv (f := srV) h K R)
/-! 61 StrandRuntime$Digest.follow()V -/
def F_61_98 (G : jG) (t : Nat) (k2 : Int32 → sS → Option (Unit × sS)) (v1 : Int32) (S : sS) : Option (Unit × sS) := k2 (v1 + Int32.ofInt 1) S
theorem F_61_98_ok {G : jG} {t : Nat} {k2 : Int32 → sS → Option (Unit × sS)} {r : Unit} {S' : sS} {Q : Option Value ⊕ Nat → jS → Prop} (hk2 : ∀ (v1 : Int32) (S : sS) (lv : jL) (μ : jS), jld lv 0 = some (.ref (spl 18 0 0)) → jld lv 1 = some (.int v1) → sR S μ → k2 v1 S = some (r, S') → jX G jP 61 2 lv [] μ Q) (K : ∀ μ', sR S' μ' → Q (srV r) μ') : ∀ (v1 : Int32) (S : sS) (lv : jL) (μ : jS), jld lv 0 = some (.ref (spl 18 0 0)) → jld lv 1 = some (.int v1) → sR S μ → F_61_98 G t k2 v1 S = some (r, S') → jX G jP 61 98 lv [] μ Q := by
  intro v1 S lv μ l0 l1 R h
  unfold F_61_98 at h
  refine jX.inc l1 (by rfl) (by rfl) (by rfl) (fun lv l1 kp => (?_ : jX G jP 61 101 lv [] μ Q))
  replace l0 := kp 0 _ l0 (by rfl) (by first | rfl | simp [soR_cat])
  refine jX.go (by rfl) (by rfl) (by rfl) (?_ : jX G jP 61 2 lv [] μ Q)
  exact hk2 (v1 + Int32.ofInt 1) _ _ _ l0 l1 R h
def F_61_62 (G : jG) (t : Nat) (k2 : Int32 → sS → Option (Unit × sS)) (v1 : Int32) (S : sS) : Option (Unit × sS) := F_61_98 G t k2 v1 (siI S 18 0 0 4 ((S.1 18 0 0 4) - (nI 1)))
theorem F_61_62_ok {G : jG} {t : Nat} {k2 : Int32 → sS → Option (Unit × sS)} {r : Unit} {S' : sS} {Q : Option Value ⊕ Nat → jS → Prop} (hk2 : ∀ (v1 : Int32) (S : sS) (lv : jL) (μ : jS), jld lv 0 = some (.ref (spl 18 0 0)) → jld lv 1 = some (.int v1) → sR S μ → k2 v1 S = some (r, S') → jX G jP 61 2 lv [] μ Q) (K : ∀ μ', sR S' μ' → Q (srV r) μ') : ∀ (v1 : Int32) (S : sS) (lv : jL) (μ : jS), jld lv 0 = some (.ref (spl 18 0 0)) → jld lv 1 = some (.int v1) → sR S μ → F_61_62 G t k2 v1 S = some (r, S') → jX G jP 61 62 lv [] μ Q := by
  intro v1 S lv μ l0 l1 R h
  unfold F_61_62 at h
  refine jX.lrn l0 (by rfl) (by rfl) (?_ : jX G jP 61 63 lv [.ref (spl 18 0 0)] μ Q)
  refine jX.go (by rfl) (by rfl) (by rfl) (?_ : jX G jP 61 64 lv [.ref (spl 18 0 0), .ref (spl 18 0 0)] μ Q)
  refine jX.sg R (by rfl) (by rfl) (by rfl) (by rfl) (by rfl) (by rfl) (?_ : jX G jP 61 67 lv [.int (S.1 18 0 0 4), .ref (spl 18 0 0)] μ Q)
  refine jX.ic (v := nI 1) (n := 1) (by rfl) (by rfl) (by decide) (?_ : jX G jP 61 68 lv [.int (nI 1), .int (S.1 18 0 0 4), .ref (spl 18 0 0)] μ Q)
  refine jX.go (by rfl) (by rfl) (by rfl) (?_ : jX G jP 61 69 lv [.int ((S.1 18 0 0 4) - (nI 1)), .ref (spl 18 0 0)] μ Q)
  refine jX.spI R (by rfl) (by rfl) (by rfl) (by rfl) (by rfl) (by rfl) (by rfl) (by rfl) (by rfl) (fun μ R => (?_ : jX G jP 61 72 lv [] μ Q))
  refine jX.go (by rfl) (by rfl) (by rfl) (?_ : jX G jP 61 98 lv [] μ Q)
  exact F_61_98_ok hk2 K v1 _ _ _ l0 l1 R h
def F_61_2 (G : jG) (t : Nat) : Nat → Int32 → sS → Option (Unit × sS)
  | 0 => fun _ _ => none
  | tt + 1 => fun v1 S => bif jcmp .ge v1 (nI 10800) then (some ((), S)) else (bif jcmp .le (S.1 18 0 0 4) 0 then (some ((), S)) else (jif (jin ((S.1 18 0 0 4) - (nI 1)) 600) ((F_58 G t (S.1 20 0 0 ((S.1 18 0 0 4) - (nI 1)).toNatClampNeg) S).bind (fun q2 => jif (jin ((q2.2.1 18 0 0 4) - (nI 1)) 600) (sif q2.1 (F_61_62 G t (F_61_2 G t tt) v1 q2.2) (fun a4 => jif (sex q2.2.2.2.2.1 32 a4.1 a4.2) (jif (sex q2.2.2.2.2.1 29 a4.1 4) (bif jcmp .lt (q2.2.1 21 0 0 ((q2.2.1 18 0 0 4) - (nI 1)).toNatClampNeg) (q2.2.1 29 a4.1 4 2) then (jif (jin ((q2.2.1 18 0 0 4) - (nI 1)) 600) ((F_60 G t (a4.1, 4) (q2.2.1 21 0 0 ((q2.2.1 18 0 0 4) - (nI 1)).toNatClampNeg) (siI q2.2 21 0 0 ((q2.2.1 18 0 0 4) - (nI 1)).toNatClampNeg ((q2.2.1 21 0 0 ((q2.2.1 18 0 0 4) - (nI 1)).toNatClampNeg) + (nI 1)))).bind (fun q8 => F_61_98 G t (F_61_2 G t tt) v1 q8.2))) else (F_61_62 G t (F_61_2 G t tt) v1 q2.2)))))))))
theorem F_61_2_ok {G : jG} {t : Nat} {r : Unit} {S' : sS} {Q : Option Value ⊕ Nat → jS → Prop} (K : ∀ μ', sR S' μ' → Q (srV r) μ') : ∀ tt : Nat, ∀ (v1 : Int32) (S : sS) (lv : jL) (μ : jS), jld lv 0 = some (.ref (spl 18 0 0)) → jld lv 1 = some (.int v1) → sR S μ → F_61_2 G t tt v1 S = some (r, S') → jX G jP 61 2 lv [] μ Q := by
  intro tt
  induction tt with
  | zero =>
    intro v1 S lv μ l0 l1 R h
    rw [F_61_2] at h
    cases h
  | succ tt ih =>
    intro v1 S lv μ l0 l1 R h
    rw [F_61_2] at h
    refine jX.lin l1 (by rfl) (by rfl) (?_ : jX G jP 61 3 lv [.int v1] μ Q)
    refine jX.ic (v := nI 10800) (n := 3) (by rfl) (by rfl) (by decide) (?_ : jX G jP 61 6 lv [.int (nI 10800), .int v1] μ Q)
    rcases bif_or h with ⟨hc, h⟩ | ⟨hc, h⟩
    · refine jX.b2t hc (by rfl) (by rfl) (by rfl) (?_ : jX G jP 61 104 lv [] μ Q)
      exact jX.ret (by rfl) (by rfl) (by rfl) (by rfl) (sretv (f := srV) h K R)
    · refine jX.b2f hc (by rfl) (by rfl) (by rfl) (?_ : jX G jP 61 9 lv [] μ Q)
      refine jX.lrn l0 (by rfl) (by rfl) (?_ : jX G jP 61 10 lv [.ref (spl 18 0 0)] μ Q)
      refine jX.sg R (by rfl) (by rfl) (by rfl) (by rfl) (by rfl) (by rfl) (?_ : jX G jP 61 13 lv [.int (S.1 18 0 0 4)] μ Q)
      rcases bif_or h with ⟨hc, h⟩ | ⟨hc, h⟩
      · refine jX.b1t hc (by rfl) (by rfl) (by rfl) (?_ : jX G jP 61 104 lv [] μ Q)
        exact jX.ret (by rfl) (by rfl) (by rfl) (by rfl) (sretv (f := srV) h K R)
      · refine jX.b1f hc (by rfl) (by rfl) (by rfl) (?_ : jX G jP 61 16 lv [] μ Q)
        refine jX.lrn l0 (by rfl) (by rfl) (?_ : jX G jP 61 17 lv [.ref (spl 18 0 0)] μ Q)
        refine jX.sg R (by rfl) (by rfl) (by rfl) (by rfl) (by rfl) (by rfl) (?_ : jX G jP 61 20 lv [.ref (spl 11 0 0)] μ Q)
        refine jX.lrn l0 (by rfl) (by rfl) (?_ : jX G jP 61 21 lv [.ref (spl 18 0 0), .ref (spl 11 0 0)] μ Q)
        refine jX.sg R (by rfl) (by rfl) (by rfl) (by rfl) (by rfl) (by rfl) (?_ : jX G jP 61 24 lv [.ref (spl 20 0 0), .ref (spl 11 0 0)] μ Q)
        refine jX.lrn l0 (by rfl) (by rfl) (?_ : jX G jP 61 25 lv [.ref (spl 18 0 0), .ref (spl 20 0 0), .ref (spl 11 0 0)] μ Q)
        refine jX.sg R (by rfl) (by rfl) (by rfl) (by rfl) (by rfl) (by rfl) (?_ : jX G jP 61 28 lv [.int (S.1 18 0 0 4), .ref (spl 20 0 0), .ref (spl 11 0 0)] μ Q)
        refine jX.ic (v := nI 1) (n := 1) (by rfl) (by rfl) (by decide) (?_ : jX G jP 61 29 lv [.int (nI 1), .int (S.1 18 0 0 4), .ref (spl 20 0 0), .ref (spl 11 0 0)] μ Q)
        refine jX.go (by rfl) (by rfl) (by rfl) (?_ : jX G jP 61 30 lv [.int ((S.1 18 0 0 4) - (nI 1)), .ref (spl 20 0 0), .ref (spl 11 0 0)] μ Q)
        obtain ⟨g1, h⟩ := jif_some h
        refine jX.sai R (by rfl) (by rfl) (by rfl) (by rfl) g1 (?_ : jX G jP 61 31 lv [.int (S.1 20 0 0 ((S.1 18 0 0 4) - (nI 1)).toNatClampNeg), .ref (spl 11 0 0)] μ Q)
        obtain ⟨q2, e2, h⟩ := sbd h
        refine jX.c1 (v := soR 32 q2.1) (by rfl) (by rfl) (by rfl) (by rfl) (by rfl) (by rfl) (by rfl) (R.rec (by rfl) (by rfl)) (Nat.le_of_ble_eq_true rfl) (Nat.le_of_ble_eq_true rfl) (F_58_ok R e2 (fun μ R => ⟨rfl, (?_ : jX G jP 61 34 lv [soR 32 q2.1] μ Q)⟩))
        refine jX.so (k := 2) (pc' := 35) (by rfl) (by rfl) (fun _ => by rfl) (by rfl) (fun lv l2 kp => (?_ : jX G jP 61 35 lv [] μ Q))
        replace l0 := kp 0 _ l0 (by rfl) (by first | rfl | simp [soR_cat])
        replace l1 := kp 1 _ l1 (by rfl) (by first | rfl | simp [soR_cat])
        refine jX.lrn l0 (by rfl) (by rfl) (?_ : jX G jP 61 36 lv [.ref (spl 18 0 0)] μ Q)
        refine jX.sg R (by rfl) (by rfl) (by rfl) (by rfl) (by rfl) (by rfl) (?_ : jX G jP 61 39 lv [.ref (spl 21 0 0)] μ Q)
        refine jX.lrn l0 (by rfl) (by rfl) (?_ : jX G jP 61 40 lv [.ref (spl 18 0 0), .ref (spl 21 0 0)] μ Q)
        refine jX.sg R (by rfl) (by rfl) (by rfl) (by rfl) (by rfl) (by rfl) (?_ : jX G jP 61 43 lv [.int (q2.2.1 18 0 0 4), .ref (spl 21 0 0)] μ Q)
        refine jX.ic (v := nI 1) (n := 1) (by rfl) (by rfl) (by decide) (?_ : jX G jP 61 44 lv [.int (nI 1), .int (q2.2.1 18 0 0 4), .ref (spl 21 0 0)] μ Q)
        refine jX.go (by rfl) (by rfl) (by rfl) (?_ : jX G jP 61 45 lv [.int ((q2.2.1 18 0 0 4) - (nI 1)), .ref (spl 21 0 0)] μ Q)
        obtain ⟨g3, h⟩ := jif_some h
        refine jX.sai R (by rfl) (by rfl) (by rfl) (by rfl) g3 (?_ : jX G jP 61 46 lv [.int (q2.2.1 21 0 0 ((q2.2.1 18 0 0 4) - (nI 1)).toNatClampNeg)] μ Q)
        refine jX.s1 (k := 3) (pc' := 47) (by rfl) (by rfl) (by rfl) (fun lv l3 kp => (?_ : jX G jP 61 47 lv [] μ Q))
        replace l0 := kp 0 _ l0 (by rfl) (by first | rfl | simp [soR_cat])
        replace l1 := kp 1 _ l1 (by rfl) (by first | rfl | simp [soR_cat])
        replace l2 := kp 2 _ l2 (by rfl) (by first | rfl | simp [soR_cat])
        refine jX.lon l2 (by rfl) (by rfl) (?_ : jX G jP 61 48 lv [soR 32 q2.1] μ Q)
        rcases sif_or h with ⟨e4, h⟩ | ⟨a4, e4, h⟩
        · rw [soR_none (t := 32) e4]
          rw [soR_none (t := 32) e4] at l2
          refine jX.go (by rfl) (by rfl) (by rfl) (?_ : jX G jP 61 62 lv [] μ Q)
          exact F_61_62_ok ih K v1 _ _ _ l0 l1 R h
        · rw [soR_some (t := 32) e4]
          rw [soR_some (t := 32) e4] at l2
          refine jX.go (by rfl) (by rfl) (by rfl) (?_ : jX G jP 61 51 lv [] μ Q)
          refine jX.lin l3 (by rfl) (by rfl) (?_ : jX G jP 61 52 lv [.int (q2.2.1 21 0 0 ((q2.2.1 18 0 0 4) - (nI 1)).toNatClampNeg)] μ Q)
          refine jX.lrn l2 (by rfl) (by rfl) (?_ : jX G jP 61 53 lv [.ref (spl 32 a4.1 a4.2), .int (q2.2.1 21 0 0 ((q2.2.1 18 0 0 4) - (nI 1)).toNatClampNeg)] μ Q)
          obtain ⟨g5, h⟩ := jif_some h
          refine jX.sg R g5 (by rfl) (by rfl) (by rfl) (by rfl) (by rfl) (?_ : jX G jP 61 56 lv [.ref (spl 29 a4.1 4), .int (q2.2.1 21 0 0 ((q2.2.1 18 0 0 4) - (nI 1)).toNatClampNeg)] μ Q)
          obtain ⟨g6, h⟩ := jif_some h
          refine jX.sg R g6 (by rfl) (by rfl) (by rfl) (by rfl) (by rfl) (?_ : jX G jP 61 59 lv [.int (q2.2.1 29 a4.1 4 2), .int (q2.2.1 21 0 0 ((q2.2.1 18 0 0 4) - (nI 1)).toNatClampNeg)] μ Q)
          rcases bif_or h with ⟨hc, h⟩ | ⟨hc, h⟩
          · refine jX.b2t hc (by rfl) (by rfl) (by rfl) (?_ : jX G jP 61 75 lv [] μ Q)
            refine jX.lrn l0 (by rfl) (by rfl) (?_ : jX G jP 61 76 lv [.ref (spl 18 0 0)] μ Q)
            refine jX.sg R (by rfl) (by rfl) (by rfl) (by rfl) (by rfl) (by rfl) (?_ : jX G jP 61 79 lv [.ref (spl 21 0 0)] μ Q)
            refine jX.lrn l0 (by rfl) (by rfl) (?_ : jX G jP 61 80 lv [.ref (spl 18 0 0), .ref (spl 21 0 0)] μ Q)
            refine jX.sg R (by rfl) (by rfl) (by rfl) (by rfl) (by rfl) (by rfl) (?_ : jX G jP 61 83 lv [.int (q2.2.1 18 0 0 4), .ref (spl 21 0 0)] μ Q)
            refine jX.ic (v := nI 1) (n := 1) (by rfl) (by rfl) (by decide) (?_ : jX G jP 61 84 lv [.int (nI 1), .int (q2.2.1 18 0 0 4), .ref (spl 21 0 0)] μ Q)
            refine jX.go (by rfl) (by rfl) (by rfl) (?_ : jX G jP 61 85 lv [.int ((q2.2.1 18 0 0 4) - (nI 1)), .ref (spl 21 0 0)] μ Q)
            refine jX.lin l3 (by rfl) (by rfl) (?_ : jX G jP 61 86 lv [.int (q2.2.1 21 0 0 ((q2.2.1 18 0 0 4) - (nI 1)).toNatClampNeg), .int ((q2.2.1 18 0 0 4) - (nI 1)), .ref (spl 21 0 0)] μ Q)
            refine jX.ic (v := nI 1) (n := 1) (by rfl) (by rfl) (by decide) (?_ : jX G jP 61 87 lv [.int (nI 1), .int (q2.2.1 21 0 0 ((q2.2.1 18 0 0 4) - (nI 1)).toNatClampNeg), .int ((q2.2.1 18 0 0 4) - (nI 1)), .ref (spl 21 0 0)] μ Q)
            refine jX.go (by rfl) (by rfl) (by rfl) (?_ : jX G jP 61 88 lv [.int ((q2.2.1 21 0 0 ((q2.2.1 18 0 0 4) - (nI 1)).toNatClampNeg) + (nI 1)), .int ((q2.2.1 18 0 0 4) - (nI 1)), .ref (spl 21 0 0)] μ Q)
            obtain ⟨g7, h⟩ := jif_some h
            refine jX.sti R (by rfl) (by rfl) (by rfl) (fun _ => by rfl) g7 (fun μ R => (?_ : jX G jP 61 89 lv [] μ Q))
            refine jX.lrn l0 (by rfl) (by rfl) (?_ : jX G jP 61 90 lv [.ref (spl 18 0 0)] μ Q)
            refine jX.lrn l2 (by rfl) (by rfl) (?_ : jX G jP 61 91 lv [.ref (spl 32 a4.1 a4.2), .ref (spl 18 0 0)] μ Q)
            refine jX.sg R g5 (by rfl) (by rfl) (by rfl) (by rfl) (by rfl) (?_ : jX G jP 61 94 lv [.ref (spl 29 a4.1 4), .ref (spl 18 0 0)] μ Q)
            refine jX.lin l3 (by rfl) (by rfl) (?_ : jX G jP 61 95 lv [.int (q2.2.1 21 0 0 ((q2.2.1 18 0 0 4) - (nI 1)).toNatClampNeg), .ref (spl 29 a4.1 4), .ref (spl 18 0 0)] μ Q)
            obtain ⟨q8, e8, h⟩ := sbd h
            refine jX.cv (by rfl) (by rfl) (by rfl) (by rfl) (by rfl) (by rfl) (by rfl) (R.rec (by rfl) (by rfl)) (Nat.le_of_ble_eq_true rfl) (Nat.le_of_ble_eq_true rfl) (F_60_ok R e8 (fun μ R => ⟨rfl, (?_ : jX G jP 61 98 lv [] μ Q)⟩))
            exact F_61_98_ok ih K v1 _ _ _ l0 l1 R h
          · refine jX.b2f hc (by rfl) (by rfl) (by rfl) (?_ : jX G jP 61 62 lv [] μ Q)
            exact F_61_62_ok ih K v1 _ _ _ l0 l1 R h
def F_61 (G : jG) (t : Nat) (S : sS) : Option (Unit × sS) := F_61_2 G t t (nI 0) S
theorem F_61_ok {G : jG} {t : Nat} {S : sS} {r : Unit} {S' : sS} {μ : jS} {Q : Option Value ⊕ Nat → jS → Prop} (R : sR S μ) (h : F_61 G t S = some (r, S')) (K : ∀ μ', sR S' μ' → Q (srV r) μ') : jX G jP 61 0 (lv_args 0 [.ref (spl 18 0 0)]) [] μ Q := by
  unfold F_61 at h
  have l0 : jld (lv_args 0 [.ref (spl 18 0 0)]) 0 = some (.ref (spl 18 0 0)) := by rfl
  generalize lv_args 0 [.ref (spl 18 0 0)] = lv at *
  refine jX.ic (v := nI 0) (n := 1) (by rfl) (by rfl) (by decide) (?_ : jX G jP 61 1 lv [.int (nI 0)] μ Q)
  refine jX.s1 (k := 1) (pc' := 2) (by rfl) (by rfl) (by rfl) (fun lv l1 kp => (?_ : jX G jP 61 2 lv [] μ Q))
  replace l0 := kp 0 _ l0 (by rfl) (by first | rfl | simp [soR_cat])
  exact F_61_2_ok  K _ (nI 0) _ _ _ l0 l1 R h
/-! 62 StrandRuntime$Digest.ofAll(LStrandRuntime$Row;)J -/
def F_62_27 (G : jG) (t : Nat) : Nat → (Nat × Nat) → Int32 → sS → Option (Int64 × sS)
  | 0 => fun _ _ _ => none
  | tt + 1 => fun v1 v2 S => jif (sex S.2.2.2.1 29 v1.1 v1.2) (bif jcmp .ge v2 (S.1 29 v1.1 v1.2 2) then (some ((S.2.1 18 0 0 6), S)) else ((F_60 G t v1 v2 S).bind (fun q2 => (F_61 G t q2.2).bind (fun q3 => F_62_27 G t tt v1 (v2 + Int32.ofInt 1) q3.2))))
theorem F_62_27_ok {G : jG} {t : Nat} {r : Int64} {S' : sS} {Q : Option Value ⊕ Nat → jS → Prop} (K : ∀ μ', sR S' μ' → Q (srL r) μ') : ∀ tt : Nat, ∀ (v1 : (Nat × Nat)) (v2 : Int32) (S : sS) (lv : jL) (μ : jS), jld lv 0 = some (.ref (spl 18 0 0)) → jld lv 1 = some (.ref (spl 29 v1.1 v1.2)) → jld lv 2 = some (.int v2) → sR S μ → F_62_27 G t tt v1 v2 S = some (r, S') → jX G jP 62 27 lv [] μ Q := by
  intro tt
  induction tt with
  | zero =>
    intro v1 v2 S lv μ l0 l1 l2 R h
    rw [F_62_27] at h
    cases h
  | succ tt ih =>
    intro v1 v2 S lv μ l0 l1 l2 R h
    rw [F_62_27] at h
    refine jX.lin l2 (by rfl) (by rfl) (?_ : jX G jP 62 28 lv [.int v2] μ Q)
    refine jX.lrn l1 (by rfl) (by rfl) (?_ : jX G jP 62 29 lv [.ref (spl 29 v1.1 v1.2), .int v2] μ Q)
    obtain ⟨g1, h⟩ := jif_some h
    refine jX.sg R g1 (by rfl) (by rfl) (by rfl) (by rfl) (by rfl) (?_ : jX G jP 62 32 lv [.int (S.1 29 v1.1 v1.2 2), .int v2] μ Q)
    rcases bif_or h with ⟨hc, h⟩ | ⟨hc, h⟩
    · refine jX.b2t hc (by rfl) (by rfl) (by rfl) (?_ : jX G jP 62 51 lv [] μ Q)
      refine jX.lrn l0 (by rfl) (by rfl) (?_ : jX G jP 62 52 lv [.ref (spl 18 0 0)] μ Q)
      refine jX.sg R (by rfl) (by rfl) (by rfl) (by rfl) (by rfl) (by rfl) (?_ : jX G jP 62 55 lv [.long (S.2.1 18 0 0 6)] μ Q)
      exact jX.ret (by rfl) (by rfl) (by rfl) (by rfl) (sretv (f := srL) h K R)
    · refine jX.b2f hc (by rfl) (by rfl) (by rfl) (?_ : jX G jP 62 35 lv [] μ Q)
      refine jX.lrn l0 (by rfl) (by rfl) (?_ : jX G jP 62 36 lv [.ref (spl 18 0 0)] μ Q)
      refine jX.lrn l1 (by rfl) (by rfl) (?_ : jX G jP 62 37 lv [.ref (spl 29 v1.1 v1.2), .ref (spl 18 0 0)] μ Q)
      refine jX.lin l2 (by rfl) (by rfl) (?_ : jX G jP 62 38 lv [.int v2, .ref (spl 29 v1.1 v1.2), .ref (spl 18 0 0)] μ Q)
      obtain ⟨q2, e2, h⟩ := sbd h
      refine jX.cv (by rfl) (by rfl) (by rfl) (by rfl) (by rfl) (by rfl) (by rfl) (R.rec (by rfl) (by rfl)) (Nat.le_of_ble_eq_true rfl) (Nat.le_of_ble_eq_true rfl) (F_60_ok R e2 (fun μ R => ⟨rfl, (?_ : jX G jP 62 41 lv [] μ Q)⟩))
      refine jX.lrn l0 (by rfl) (by rfl) (?_ : jX G jP 62 42 lv [.ref (spl 18 0 0)] μ Q)
      obtain ⟨q3, e3, h⟩ := sbd h
      refine jX.cv (by rfl) (by rfl) (by rfl) (by rfl) (by rfl) (by rfl) (by rfl) (R.rec (by rfl) (by rfl)) (Nat.le_of_ble_eq_true rfl) (Nat.le_of_ble_eq_true rfl) (F_61_ok R e3 (fun μ R => ⟨rfl, (?_ : jX G jP 62 45 lv [] μ Q)⟩))
      refine jX.inc l2 (by rfl) (by rfl) (by rfl) (fun lv l2 kp => (?_ : jX G jP 62 48 lv [] μ Q))
      replace l0 := kp 0 _ l0 (by rfl) (by first | rfl | simp [soR_cat])
      replace l1 := kp 1 _ l1 (by rfl) (by first | rfl | simp [soR_cat])
      refine jX.go (by rfl) (by rfl) (by rfl) (?_ : jX G jP 62 27 lv [] μ Q)
      exact ih v1 (v2 + Int32.ofInt 1) _ _ _ l0 l1 l2 R h
def F_62 (G : jG) (t : Nat) (v1 : (Nat × Nat)) (S : sS) : Option (Int64 × sS) := (F_8 G t (19, 0, 0) (nI 0) S).bind (fun q1 => F_62_27 G t t v1 (nI 0) (siL (siI (siI q1.2 18 0 0 4 (nI 0)) 18 0 0 5 (nI 0)) 18 0 0 6 7))
theorem F_62_ok {G : jG} {t : Nat} {v1 : (Nat × Nat)} {S : sS} {r : Int64} {S' : sS} {μ : jS} {Q : Option Value ⊕ Nat → jS → Prop} (R : sR S μ) (h : F_62 G t v1 S = some (r, S')) (K : ∀ μ', sR S' μ' → Q (srL r) μ') : jX G jP 62 0 (lv_args 0 [.ref (spl 18 0 0), .ref (spl 29 v1.1 v1.2)]) [] μ Q := by
  unfold F_62 at h
  have l0 : jld (lv_args 0 [.ref (spl 18 0 0), .ref (spl 29 v1.1 v1.2)]) 0 = some (.ref (spl 18 0 0)) := by rfl
  have l1 : jld (lv_args 0 [.ref (spl 18 0 0), .ref (spl 29 v1.1 v1.2)]) 1 = some (.ref (spl 29 v1.1 v1.2)) := by rfl
  generalize lv_args 0 [.ref (spl 18 0 0), .ref (spl 29 v1.1 v1.2)] = lv at *
  refine jX.lrn l0 (by rfl) (by rfl) (?_ : jX G jP 62 1 lv [.ref (spl 18 0 0)] μ Q)
  refine jX.sg R (by rfl) (by rfl) (by rfl) (by rfl) (by rfl) (by rfl) (?_ : jX G jP 62 4 lv [.ref (spl 19 0 0)] μ Q)
  refine jX.ic (v := nI 0) (n := 1) (by rfl) (by rfl) (by decide) (?_ : jX G jP 62 5 lv [.int (nI 0), .ref (spl 19 0 0)] μ Q)
  obtain ⟨q1, e1, h⟩ := sbd h
  refine jX.cv (by rfl) (by rfl) (by rfl) (by rfl) (by rfl) (by rfl) (by rfl) (by rfl) (Nat.le_of_ble_eq_true rfl) (Nat.le_of_ble_eq_true rfl) (F_8_ok R e1 (fun μ R => ⟨rfl, (?_ : jX G jP 62 8 lv [] μ Q)⟩))
  refine jX.lrn l0 (by rfl) (by rfl) (?_ : jX G jP 62 9 lv [.ref (spl 18 0 0)] μ Q)
  refine jX.ic (v := nI 0) (n := 1) (by rfl) (by rfl) (by decide) (?_ : jX G jP 62 10 lv [.int (nI 0), .ref (spl 18 0 0)] μ Q)
  refine jX.spI R (by rfl) (by rfl) (by rfl) (by rfl) (by rfl) (by rfl) (by rfl) (by rfl) (by rfl) (fun μ R => (?_ : jX G jP 62 13 lv [] μ Q))
  refine jX.lrn l0 (by rfl) (by rfl) (?_ : jX G jP 62 14 lv [.ref (spl 18 0 0)] μ Q)
  refine jX.ic (v := nI 0) (n := 1) (by rfl) (by rfl) (by decide) (?_ : jX G jP 62 15 lv [.int (nI 0), .ref (spl 18 0 0)] μ Q)
  refine jX.spI R (by rfl) (by rfl) (by rfl) (by rfl) (by rfl) (by rfl) (by rfl) (by rfl) (by rfl) (fun μ R => (?_ : jX G jP 62 18 lv [] μ Q))
  refine jX.lrn l0 (by rfl) (by rfl) (?_ : jX G jP 62 19 lv [.ref (spl 18 0 0)] μ Q)
  refine jX.go (by rfl) (by rfl) (by rfl) (?_ : jX G jP 62 22 lv [.long 7, .ref (spl 18 0 0)] μ Q)
  refine jX.spL R (by rfl) (by rfl) (by rfl) (by rfl) (by rfl) (by rfl) (by rfl) (by rfl) (by rfl) (fun μ R => (?_ : jX G jP 62 25 lv [] μ Q))
  refine jX.ic (v := nI 0) (n := 1) (by rfl) (by rfl) (by decide) (?_ : jX G jP 62 26 lv [.int (nI 0)] μ Q)
  refine jX.s1 (k := 2) (pc' := 27) (by rfl) (by rfl) (by rfl) (fun lv l2 kp => (?_ : jX G jP 62 27 lv [] μ Q))
  replace l0 := kp 0 _ l0 (by rfl) (by first | rfl | simp [soR_cat])
  replace l1 := kp 1 _ l1 (by rfl) (by first | rfl | simp [soR_cat])
  exact F_62_27_ok  K _ v1 (nI 0) _ _ _ l0 l1 l2 R h
/-! 63 StrandRuntime.digest()J -/
def F_63 (G : jG) (t : Nat) (S : sS) : Option (Int64 × sS) := (F_62 G t (0, 5) S).bind (fun q1 => some (q1.1, q1.2))
theorem F_63_ok {G : jG} {t : Nat} {S : sS} {r : Int64} {S' : sS} {μ : jS} {Q : Option Value ⊕ Nat → jS → Prop} (R : sR S μ) (h : F_63 G t S = some (r, S')) (K : ∀ μ', sR S' μ' → Q (srL r) μ') : jX G jP 63 0 (lv_args 0 [.ref (spl 0 0 0)]) [] μ Q := by
  unfold F_63 at h
  have l0 : jld (lv_args 0 [.ref (spl 0 0 0)]) 0 = some (.ref (spl 0 0 0)) := by rfl
  generalize lv_args 0 [.ref (spl 0 0 0)] = lv at *
  refine jX.lrn l0 (by rfl) (by rfl) (?_ : jX G jP 63 1 lv [.ref (spl 0 0 0)] μ Q)
  refine jX.sg R (by rfl) (by rfl) (by rfl) (by rfl) (by rfl) (by rfl) (?_ : jX G jP 63 4 lv [.ref (spl 18 0 0)] μ Q)
  refine jX.lrn l0 (by rfl) (by rfl) (?_ : jX G jP 63 5 lv [.ref (spl 0 0 0), .ref (spl 18 0 0)] μ Q)
  refine jX.sg R (by rfl) (by rfl) (by rfl) (by rfl) (by rfl) (by rfl) (?_ : jX G jP 63 8 lv [.ref (spl 8 0 0), .ref (spl 18 0 0)] μ Q)
  refine jX.sg R (by rfl) (by rfl) (by rfl) (by rfl) (by rfl) (by rfl) (?_ : jX G jP 63 11 lv [.ref (spl 29 0 5), .ref (spl 18 0 0)] μ Q)
  obtain ⟨q1, e1, h⟩ := sbd h
  refine jX.c1 (v := .long q1.1) (by rfl) (by rfl) (by rfl) (by rfl) (by rfl) (by rfl) (by rfl) (R.rec (by rfl) (by rfl)) (Nat.le_of_ble_eq_true rfl) (Nat.le_of_ble_eq_true rfl) (F_62_ok R e1 (fun μ R => ⟨rfl, (?_ : jX G jP 63 14 lv [.long q1.1] μ Q)⟩))
  exact jX.ret (by rfl) (by rfl) (by rfl) (by rfl) (sretv (f := srL) h K R)
/-! 64 StrandRuntime$Program.addFunction(II)I -/
def F_64 (G : jG) (t : Nat) (v1 : Int32) (v2 : Int32) (S : sS) : Option (Int32 × sS) := bif jcmp .lt (S.1 1 0 0 6) (nI 32) then (jif (jin (S.1 1 0 0 6) 32) (jif (jin ((siI S 2 0 0 (S.1 1 0 0 6).toNatClampNeg v1).1 1 0 0 6) 32) (jif (jin ((siI (siI S 2 0 0 (S.1 1 0 0 6).toNatClampNeg v1) 3 0 0 ((siI S 2 0 0 (S.1 1 0 0 6).toNatClampNeg v1).1 1 0 0 6).toNatClampNeg v2).1 1 0 0 6) 32) (jif (jin ((siI (siI (siI S 2 0 0 (S.1 1 0 0 6).toNatClampNeg v1) 3 0 0 ((siI S 2 0 0 (S.1 1 0 0 6).toNatClampNeg v1).1 1 0 0 6).toNatClampNeg v2) 4 0 0 ((siI (siI S 2 0 0 (S.1 1 0 0 6).toNatClampNeg v1) 3 0 0 ((siI S 2 0 0 (S.1 1 0 0 6).toNatClampNeg v1).1 1 0 0 6).toNatClampNeg v2).1 1 0 0 6).toNatClampNeg ((siI (siI S 2 0 0 (S.1 1 0 0 6).toNatClampNeg v1) 3 0 0 ((siI S 2 0 0 (S.1 1 0 0 6).toNatClampNeg v1).1 1 0 0 6).toNatClampNeg v2).1 1 0 0 7)).1 1 0 0 6) 32) (some ((((siI (siI (siI (siI (siI S 2 0 0 (S.1 1 0 0 6).toNatClampNeg v1) 3 0 0 ((siI S 2 0 0 (S.1 1 0 0 6).toNatClampNeg v1).1 1 0 0 6).toNatClampNeg v2) 4 0 0 ((siI (siI S 2 0 0 (S.1 1 0 0 6).toNatClampNeg v1) 3 0 0 ((siI S 2 0 0 (S.1 1 0 0 6).toNatClampNeg v1).1 1 0 0 6).toNatClampNeg v2).1 1 0 0 6).toNatClampNeg ((siI (siI S 2 0 0 (S.1 1 0 0 6).toNatClampNeg v1) 3 0 0 ((siI S 2 0 0 (S.1 1 0 0 6).toNatClampNeg v1).1 1 0 0 6).toNatClampNeg v2).1 1 0 0 7)) 5 0 0 ((siI (siI (siI S 2 0 0 (S.1 1 0 0 6).toNatClampNeg v1) 3 0 0 ((siI S 2 0 0 (S.1 1 0 0 6).toNatClampNeg v1).1 1 0 0 6).toNatClampNeg v2) 4 0 0 ((siI (siI S 2 0 0 (S.1 1 0 0 6).toNatClampNeg v1) 3 0 0 ((siI S 2 0 0 (S.1 1 0 0 6).toNatClampNeg v1).1 1 0 0 6).toNatClampNeg v2).1 1 0 0 6).toNatClampNeg ((siI (siI S 2 0 0 (S.1 1 0 0 6).toNatClampNeg v1) 3 0 0 ((siI S 2 0 0 (S.1 1 0 0 6).toNatClampNeg v1).1 1 0 0 6).toNatClampNeg v2).1 1 0 0 7)).1 1 0 0 6).toNatClampNeg (nI 0)) 1 0 0 6 (((siI (siI (siI (siI S 2 0 0 (S.1 1 0 0 6).toNatClampNeg v1) 3 0 0 ((siI S 2 0 0 (S.1 1 0 0 6).toNatClampNeg v1).1 1 0 0 6).toNatClampNeg v2) 4 0 0 ((siI (siI S 2 0 0 (S.1 1 0 0 6).toNatClampNeg v1) 3 0 0 ((siI S 2 0 0 (S.1 1 0 0 6).toNatClampNeg v1).1 1 0 0 6).toNatClampNeg v2).1 1 0 0 6).toNatClampNeg ((siI (siI S 2 0 0 (S.1 1 0 0 6).toNatClampNeg v1) 3 0 0 ((siI S 2 0 0 (S.1 1 0 0 6).toNatClampNeg v1).1 1 0 0 6).toNatClampNeg v2).1 1 0 0 7)) 5 0 0 ((siI (siI (siI S 2 0 0 (S.1 1 0 0 6).toNatClampNeg v1) 3 0 0 ((siI S 2 0 0 (S.1 1 0 0 6).toNatClampNeg v1).1 1 0 0 6).toNatClampNeg v2) 4 0 0 ((siI (siI S 2 0 0 (S.1 1 0 0 6).toNatClampNeg v1) 3 0 0 ((siI S 2 0 0 (S.1 1 0 0 6).toNatClampNeg v1).1 1 0 0 6).toNatClampNeg v2).1 1 0 0 6).toNatClampNeg ((siI (siI S 2 0 0 (S.1 1 0 0 6).toNatClampNeg v1) 3 0 0 ((siI S 2 0 0 (S.1 1 0 0 6).toNatClampNeg v1).1 1 0 0 6).toNatClampNeg v2).1 1 0 0 7)).1 1 0 0 6).toNatClampNeg (nI 0)).1 1 0 0 6) + (nI 1))).1 1 0 0 6) - (nI 1)), (siI (siI (siI (siI (siI S 2 0 0 (S.1 1 0 0 6).toNatClampNeg v1) 3 0 0 ((siI S 2 0 0 (S.1 1 0 0 6).toNatClampNeg v1).1 1 0 0 6).toNatClampNeg v2) 4 0 0 ((siI (siI S 2 0 0 (S.1 1 0 0 6).toNatClampNeg v1) 3 0 0 ((siI S 2 0 0 (S.1 1 0 0 6).toNatClampNeg v1).1 1 0 0 6).toNatClampNeg v2).1 1 0 0 6).toNatClampNeg ((siI (siI S 2 0 0 (S.1 1 0 0 6).toNatClampNeg v1) 3 0 0 ((siI S 2 0 0 (S.1 1 0 0 6).toNatClampNeg v1).1 1 0 0 6).toNatClampNeg v2).1 1 0 0 7)) 5 0 0 ((siI (siI (siI S 2 0 0 (S.1 1 0 0 6).toNatClampNeg v1) 3 0 0 ((siI S 2 0 0 (S.1 1 0 0 6).toNatClampNeg v1).1 1 0 0 6).toNatClampNeg v2) 4 0 0 ((siI (siI S 2 0 0 (S.1 1 0 0 6).toNatClampNeg v1) 3 0 0 ((siI S 2 0 0 (S.1 1 0 0 6).toNatClampNeg v1).1 1 0 0 6).toNatClampNeg v2).1 1 0 0 6).toNatClampNeg ((siI (siI S 2 0 0 (S.1 1 0 0 6).toNatClampNeg v1) 3 0 0 ((siI S 2 0 0 (S.1 1 0 0 6).toNatClampNeg v1).1 1 0 0 6).toNatClampNeg v2).1 1 0 0 7)).1 1 0 0 6).toNatClampNeg (nI 0)) 1 0 0 6 (((siI (siI (siI (siI S 2 0 0 (S.1 1 0 0 6).toNatClampNeg v1) 3 0 0 ((siI S 2 0 0 (S.1 1 0 0 6).toNatClampNeg v1).1 1 0 0 6).toNatClampNeg v2) 4 0 0 ((siI (siI S 2 0 0 (S.1 1 0 0 6).toNatClampNeg v1) 3 0 0 ((siI S 2 0 0 (S.1 1 0 0 6).toNatClampNeg v1).1 1 0 0 6).toNatClampNeg v2).1 1 0 0 6).toNatClampNeg ((siI (siI S 2 0 0 (S.1 1 0 0 6).toNatClampNeg v1) 3 0 0 ((siI S 2 0 0 (S.1 1 0 0 6).toNatClampNeg v1).1 1 0 0 6).toNatClampNeg v2).1 1 0 0 7)) 5 0 0 ((siI (siI (siI S 2 0 0 (S.1 1 0 0 6).toNatClampNeg v1) 3 0 0 ((siI S 2 0 0 (S.1 1 0 0 6).toNatClampNeg v1).1 1 0 0 6).toNatClampNeg v2) 4 0 0 ((siI (siI S 2 0 0 (S.1 1 0 0 6).toNatClampNeg v1) 3 0 0 ((siI S 2 0 0 (S.1 1 0 0 6).toNatClampNeg v1).1 1 0 0 6).toNatClampNeg v2).1 1 0 0 6).toNatClampNeg ((siI (siI S 2 0 0 (S.1 1 0 0 6).toNatClampNeg v1) 3 0 0 ((siI S 2 0 0 (S.1 1 0 0 6).toNatClampNeg v1).1 1 0 0 6).toNatClampNeg v2).1 1 0 0 7)).1 1 0 0 6).toNatClampNeg (nI 0)).1 1 0 0 6) + (nI 1))))))))) else (some ((-1), S))
theorem F_64_ok {G : jG} {t : Nat} {v1 : Int32} {v2 : Int32} {S : sS} {r : Int32} {S' : sS} {μ : jS} {Q : Option Value ⊕ Nat → jS → Prop} (R : sR S μ) (h : F_64 G t v1 v2 S = some (r, S')) (K : ∀ μ', sR S' μ' → Q (srI r) μ') : jX G jP 64 0 (lv_args 0 [.ref (spl 1 0 0), .int v1, .int v2]) [] μ Q := by
  unfold F_64 at h
  have l0 : jld (lv_args 0 [.ref (spl 1 0 0), .int v1, .int v2]) 0 = some (.ref (spl 1 0 0)) := by rfl
  have l1 : jld (lv_args 0 [.ref (spl 1 0 0), .int v1, .int v2]) 1 = some (.int v1) := by rfl
  have l2 : jld (lv_args 0 [.ref (spl 1 0 0), .int v1, .int v2]) 2 = some (.int v2) := by rfl
  generalize lv_args 0 [.ref (spl 1 0 0), .int v1, .int v2] = lv at *
  refine jX.lrn l0 (by rfl) (by rfl) (?_ : jX G jP 64 1 lv [.ref (spl 1 0 0)] μ Q)
  refine jX.sg R (by rfl) (by rfl) (by rfl) (by rfl) (by rfl) (by rfl) (?_ : jX G jP 64 4 lv [.int (S.1 1 0 0 6)] μ Q)
  refine jX.ic (v := nI 32) (n := 2) (by rfl) (by rfl) (by decide) (?_ : jX G jP 64 6 lv [.int (nI 32), .int (S.1 1 0 0 6)] μ Q)
  rcases bif_or h with ⟨hc, h⟩ | ⟨hc, h⟩
  · refine jX.b2t hc (by rfl) (by rfl) (by rfl) (?_ : jX G jP 64 11 lv [] μ Q)
    refine jX.lrn l0 (by rfl) (by rfl) (?_ : jX G jP 64 12 lv [.ref (spl 1 0 0)] μ Q)
    refine jX.sg R (by rfl) (by rfl) (by rfl) (by rfl) (by rfl) (by rfl) (?_ : jX G jP 64 15 lv [.ref (spl 2 0 0)] μ Q)
    refine jX.lrn l0 (by rfl) (by rfl) (?_ : jX G jP 64 16 lv [.ref (spl 1 0 0), .ref (spl 2 0 0)] μ Q)
    refine jX.sg R (by rfl) (by rfl) (by rfl) (by rfl) (by rfl) (by rfl) (?_ : jX G jP 64 19 lv [.int (S.1 1 0 0 6), .ref (spl 2 0 0)] μ Q)
    refine jX.lin l1 (by rfl) (by rfl) (?_ : jX G jP 64 20 lv [.int v1, .int (S.1 1 0 0 6), .ref (spl 2 0 0)] μ Q)
    obtain ⟨g1, h⟩ := jif_some h
    refine jX.sti R (by rfl) (by rfl) (by rfl) (fun _ => by rfl) g1 (fun μ R => (?_ : jX G jP 64 21 lv [] μ Q))
    refine jX.lrn l0 (by rfl) (by rfl) (?_ : jX G jP 64 22 lv [.ref (spl 1 0 0)] μ Q)
    refine jX.sg R (by rfl) (by rfl) (by rfl) (by rfl) (by rfl) (by rfl) (?_ : jX G jP 64 25 lv [.ref (spl 3 0 0)] μ Q)
    refine jX.lrn l0 (by rfl) (by rfl) (?_ : jX G jP 64 26 lv [.ref (spl 1 0 0), .ref (spl 3 0 0)] μ Q)
    refine jX.sg R (by rfl) (by rfl) (by rfl) (by rfl) (by rfl) (by rfl) (?_ : jX G jP 64 29 lv [.int ((siI S 2 0 0 (S.1 1 0 0 6).toNatClampNeg v1).1 1 0 0 6), .ref (spl 3 0 0)] μ Q)
    refine jX.lin l2 (by rfl) (by rfl) (?_ : jX G jP 64 30 lv [.int v2, .int ((siI S 2 0 0 (S.1 1 0 0 6).toNatClampNeg v1).1 1 0 0 6), .ref (spl 3 0 0)] μ Q)
    obtain ⟨g2, h⟩ := jif_some h
    refine jX.sti R (by rfl) (by rfl) (by rfl) (fun _ => by rfl) g2 (fun μ R => (?_ : jX G jP 64 31 lv [] μ Q))
    refine jX.lrn l0 (by rfl) (by rfl) (?_ : jX G jP 64 32 lv [.ref (spl 1 0 0)] μ Q)
    refine jX.sg R (by rfl) (by rfl) (by rfl) (by rfl) (by rfl) (by rfl) (?_ : jX G jP 64 35 lv [.ref (spl 4 0 0)] μ Q)
    refine jX.lrn l0 (by rfl) (by rfl) (?_ : jX G jP 64 36 lv [.ref (spl 1 0 0), .ref (spl 4 0 0)] μ Q)
    refine jX.sg R (by rfl) (by rfl) (by rfl) (by rfl) (by rfl) (by rfl) (?_ : jX G jP 64 39 lv [.int ((siI (siI S 2 0 0 (S.1 1 0 0 6).toNatClampNeg v1) 3 0 0 ((siI S 2 0 0 (S.1 1 0 0 6).toNatClampNeg v1).1 1 0 0 6).toNatClampNeg v2).1 1 0 0 6), .ref (spl 4 0 0)] μ Q)
    refine jX.lrn l0 (by rfl) (by rfl) (?_ : jX G jP 64 40 lv [.ref (spl 1 0 0), .int ((siI (siI S 2 0 0 (S.1 1 0 0 6).toNatClampNeg v1) 3 0 0 ((siI S 2 0 0 (S.1 1 0 0 6).toNatClampNeg v1).1 1 0 0 6).toNatClampNeg v2).1 1 0 0 6), .ref (spl 4 0 0)] μ Q)
    refine jX.sg R (by rfl) (by rfl) (by rfl) (by rfl) (by rfl) (by rfl) (?_ : jX G jP 64 43 lv [.int ((siI (siI S 2 0 0 (S.1 1 0 0 6).toNatClampNeg v1) 3 0 0 ((siI S 2 0 0 (S.1 1 0 0 6).toNatClampNeg v1).1 1 0 0 6).toNatClampNeg v2).1 1 0 0 7), .int ((siI (siI S 2 0 0 (S.1 1 0 0 6).toNatClampNeg v1) 3 0 0 ((siI S 2 0 0 (S.1 1 0 0 6).toNatClampNeg v1).1 1 0 0 6).toNatClampNeg v2).1 1 0 0 6), .ref (spl 4 0 0)] μ Q)
    obtain ⟨g3, h⟩ := jif_some h
    refine jX.sti R (by rfl) (by rfl) (by rfl) (fun _ => by rfl) g3 (fun μ R => (?_ : jX G jP 64 44 lv [] μ Q))
    refine jX.lrn l0 (by rfl) (by rfl) (?_ : jX G jP 64 45 lv [.ref (spl 1 0 0)] μ Q)
    refine jX.sg R (by rfl) (by rfl) (by rfl) (by rfl) (by rfl) (by rfl) (?_ : jX G jP 64 48 lv [.ref (spl 5 0 0)] μ Q)
    refine jX.lrn l0 (by rfl) (by rfl) (?_ : jX G jP 64 49 lv [.ref (spl 1 0 0), .ref (spl 5 0 0)] μ Q)
    refine jX.sg R (by rfl) (by rfl) (by rfl) (by rfl) (by rfl) (by rfl) (?_ : jX G jP 64 52 lv [.int ((siI (siI (siI S 2 0 0 (S.1 1 0 0 6).toNatClampNeg v1) 3 0 0 ((siI S 2 0 0 (S.1 1 0 0 6).toNatClampNeg v1).1 1 0 0 6).toNatClampNeg v2) 4 0 0 ((siI (siI S 2 0 0 (S.1 1 0 0 6).toNatClampNeg v1) 3 0 0 ((siI S 2 0 0 (S.1 1 0 0 6).toNatClampNeg v1).1 1 0 0 6).toNatClampNeg v2).1 1 0 0 6).toNatClampNeg ((siI (siI S 2 0 0 (S.1 1 0 0 6).toNatClampNeg v1) 3 0 0 ((siI S 2 0 0 (S.1 1 0 0 6).toNatClampNeg v1).1 1 0 0 6).toNatClampNeg v2).1 1 0 0 7)).1 1 0 0 6), .ref (spl 5 0 0)] μ Q)
    refine jX.ic (v := nI 0) (n := 1) (by rfl) (by rfl) (by decide) (?_ : jX G jP 64 53 lv [.int (nI 0), .int ((siI (siI (siI S 2 0 0 (S.1 1 0 0 6).toNatClampNeg v1) 3 0 0 ((siI S 2 0 0 (S.1 1 0 0 6).toNatClampNeg v1).1 1 0 0 6).toNatClampNeg v2) 4 0 0 ((siI (siI S 2 0 0 (S.1 1 0 0 6).toNatClampNeg v1) 3 0 0 ((siI S 2 0 0 (S.1 1 0 0 6).toNatClampNeg v1).1 1 0 0 6).toNatClampNeg v2).1 1 0 0 6).toNatClampNeg ((siI (siI S 2 0 0 (S.1 1 0 0 6).toNatClampNeg v1) 3 0 0 ((siI S 2 0 0 (S.1 1 0 0 6).toNatClampNeg v1).1 1 0 0 6).toNatClampNeg v2).1 1 0 0 7)).1 1 0 0 6), .ref (spl 5 0 0)] μ Q)
    obtain ⟨g4, h⟩ := jif_some h
    refine jX.sti R (by rfl) (by rfl) (by rfl) (fun _ => by rfl) g4 (fun μ R => (?_ : jX G jP 64 54 lv [] μ Q))
    refine jX.lrn l0 (by rfl) (by rfl) (?_ : jX G jP 64 55 lv [.ref (spl 1 0 0)] μ Q)
    refine jX.go (by rfl) (by rfl) (by rfl) (?_ : jX G jP 64 56 lv [.ref (spl 1 0 0), .ref (spl 1 0 0)] μ Q)
    refine jX.sg R (by rfl) (by rfl) (by rfl) (by rfl) (by rfl) (by rfl) (?_ : jX G jP 64 59 lv [.int ((siI (siI (siI (siI S 2 0 0 (S.1 1 0 0 6).toNatClampNeg v1) 3 0 0 ((siI S 2 0 0 (S.1 1 0 0 6).toNatClampNeg v1).1 1 0 0 6).toNatClampNeg v2) 4 0 0 ((siI (siI S 2 0 0 (S.1 1 0 0 6).toNatClampNeg v1) 3 0 0 ((siI S 2 0 0 (S.1 1 0 0 6).toNatClampNeg v1).1 1 0 0 6).toNatClampNeg v2).1 1 0 0 6).toNatClampNeg ((siI (siI S 2 0 0 (S.1 1 0 0 6).toNatClampNeg v1) 3 0 0 ((siI S 2 0 0 (S.1 1 0 0 6).toNatClampNeg v1).1 1 0 0 6).toNatClampNeg v2).1 1 0 0 7)) 5 0 0 ((siI (siI (siI S 2 0 0 (S.1 1 0 0 6).toNatClampNeg v1) 3 0 0 ((siI S 2 0 0 (S.1 1 0 0 6).toNatClampNeg v1).1 1 0 0 6).toNatClampNeg v2) 4 0 0 ((siI (siI S 2 0 0 (S.1 1 0 0 6).toNatClampNeg v1) 3 0 0 ((siI S 2 0 0 (S.1 1 0 0 6).toNatClampNeg v1).1 1 0 0 6).toNatClampNeg v2).1 1 0 0 6).toNatClampNeg ((siI (siI S 2 0 0 (S.1 1 0 0 6).toNatClampNeg v1) 3 0 0 ((siI S 2 0 0 (S.1 1 0 0 6).toNatClampNeg v1).1 1 0 0 6).toNatClampNeg v2).1 1 0 0 7)).1 1 0 0 6).toNatClampNeg (nI 0)).1 1 0 0 6), .ref (spl 1 0 0)] μ Q)
    refine jX.ic (v := nI 1) (n := 1) (by rfl) (by rfl) (by decide) (?_ : jX G jP 64 60 lv [.int (nI 1), .int ((siI (siI (siI (siI S 2 0 0 (S.1 1 0 0 6).toNatClampNeg v1) 3 0 0 ((siI S 2 0 0 (S.1 1 0 0 6).toNatClampNeg v1).1 1 0 0 6).toNatClampNeg v2) 4 0 0 ((siI (siI S 2 0 0 (S.1 1 0 0 6).toNatClampNeg v1) 3 0 0 ((siI S 2 0 0 (S.1 1 0 0 6).toNatClampNeg v1).1 1 0 0 6).toNatClampNeg v2).1 1 0 0 6).toNatClampNeg ((siI (siI S 2 0 0 (S.1 1 0 0 6).toNatClampNeg v1) 3 0 0 ((siI S 2 0 0 (S.1 1 0 0 6).toNatClampNeg v1).1 1 0 0 6).toNatClampNeg v2).1 1 0 0 7)) 5 0 0 ((siI (siI (siI S 2 0 0 (S.1 1 0 0 6).toNatClampNeg v1) 3 0 0 ((siI S 2 0 0 (S.1 1 0 0 6).toNatClampNeg v1).1 1 0 0 6).toNatClampNeg v2) 4 0 0 ((siI (siI S 2 0 0 (S.1 1 0 0 6).toNatClampNeg v1) 3 0 0 ((siI S 2 0 0 (S.1 1 0 0 6).toNatClampNeg v1).1 1 0 0 6).toNatClampNeg v2).1 1 0 0 6).toNatClampNeg ((siI (siI S 2 0 0 (S.1 1 0 0 6).toNatClampNeg v1) 3 0 0 ((siI S 2 0 0 (S.1 1 0 0 6).toNatClampNeg v1).1 1 0 0 6).toNatClampNeg v2).1 1 0 0 7)).1 1 0 0 6).toNatClampNeg (nI 0)).1 1 0 0 6), .ref (spl 1 0 0)] μ Q)
    refine jX.go (by rfl) (by rfl) (by rfl) (?_ : jX G jP 64 61 lv [.int (((siI (siI (siI (siI S 2 0 0 (S.1 1 0 0 6).toNatClampNeg v1) 3 0 0 ((siI S 2 0 0 (S.1 1 0 0 6).toNatClampNeg v1).1 1 0 0 6).toNatClampNeg v2) 4 0 0 ((siI (siI S 2 0 0 (S.1 1 0 0 6).toNatClampNeg v1) 3 0 0 ((siI S 2 0 0 (S.1 1 0 0 6).toNatClampNeg v1).1 1 0 0 6).toNatClampNeg v2).1 1 0 0 6).toNatClampNeg ((siI (siI S 2 0 0 (S.1 1 0 0 6).toNatClampNeg v1) 3 0 0 ((siI S 2 0 0 (S.1 1 0 0 6).toNatClampNeg v1).1 1 0 0 6).toNatClampNeg v2).1 1 0 0 7)) 5 0 0 ((siI (siI (siI S 2 0 0 (S.1 1 0 0 6).toNatClampNeg v1) 3 0 0 ((siI S 2 0 0 (S.1 1 0 0 6).toNatClampNeg v1).1 1 0 0 6).toNatClampNeg v2) 4 0 0 ((siI (siI S 2 0 0 (S.1 1 0 0 6).toNatClampNeg v1) 3 0 0 ((siI S 2 0 0 (S.1 1 0 0 6).toNatClampNeg v1).1 1 0 0 6).toNatClampNeg v2).1 1 0 0 6).toNatClampNeg ((siI (siI S 2 0 0 (S.1 1 0 0 6).toNatClampNeg v1) 3 0 0 ((siI S 2 0 0 (S.1 1 0 0 6).toNatClampNeg v1).1 1 0 0 6).toNatClampNeg v2).1 1 0 0 7)).1 1 0 0 6).toNatClampNeg (nI 0)).1 1 0 0 6) + (nI 1)), .ref (spl 1 0 0)] μ Q)
    refine jX.spI R (by rfl) (by rfl) (by rfl) (by rfl) (by rfl) (by rfl) (by rfl) (by rfl) (by rfl) (fun μ R => (?_ : jX G jP 64 64 lv [] μ Q))
    refine jX.lrn l0 (by rfl) (by rfl) (?_ : jX G jP 64 65 lv [.ref (spl 1 0 0)] μ Q)
    refine jX.sg R (by rfl) (by rfl) (by rfl) (by rfl) (by rfl) (by rfl) (?_ : jX G jP 64 68 lv [.int ((siI (siI (siI (siI (siI S 2 0 0 (S.1 1 0 0 6).toNatClampNeg v1) 3 0 0 ((siI S 2 0 0 (S.1 1 0 0 6).toNatClampNeg v1).1 1 0 0 6).toNatClampNeg v2) 4 0 0 ((siI (siI S 2 0 0 (S.1 1 0 0 6).toNatClampNeg v1) 3 0 0 ((siI S 2 0 0 (S.1 1 0 0 6).toNatClampNeg v1).1 1 0 0 6).toNatClampNeg v2).1 1 0 0 6).toNatClampNeg ((siI (siI S 2 0 0 (S.1 1 0 0 6).toNatClampNeg v1) 3 0 0 ((siI S 2 0 0 (S.1 1 0 0 6).toNatClampNeg v1).1 1 0 0 6).toNatClampNeg v2).1 1 0 0 7)) 5 0 0 ((siI (siI (siI S 2 0 0 (S.1 1 0 0 6).toNatClampNeg v1) 3 0 0 ((siI S 2 0 0 (S.1 1 0 0 6).toNatClampNeg v1).1 1 0 0 6).toNatClampNeg v2) 4 0 0 ((siI (siI S 2 0 0 (S.1 1 0 0 6).toNatClampNeg v1) 3 0 0 ((siI S 2 0 0 (S.1 1 0 0 6).toNatClampNeg v1).1 1 0 0 6).toNatClampNeg v2).1 1 0 0 6).toNatClampNeg ((siI (siI S 2 0 0 (S.1 1 0 0 6).toNatClampNeg v1) 3 0 0 ((siI S 2 0 0 (S.1 1 0 0 6).toNatClampNeg v1).1 1 0 0 6).toNatClampNeg v2).1 1 0 0 7)).1 1 0 0 6).toNatClampNeg (nI 0)) 1 0 0 6 (((siI (siI (siI (siI S 2 0 0 (S.1 1 0 0 6).toNatClampNeg v1) 3 0 0 ((siI S 2 0 0 (S.1 1 0 0 6).toNatClampNeg v1).1 1 0 0 6).toNatClampNeg v2) 4 0 0 ((siI (siI S 2 0 0 (S.1 1 0 0 6).toNatClampNeg v1) 3 0 0 ((siI S 2 0 0 (S.1 1 0 0 6).toNatClampNeg v1).1 1 0 0 6).toNatClampNeg v2).1 1 0 0 6).toNatClampNeg ((siI (siI S 2 0 0 (S.1 1 0 0 6).toNatClampNeg v1) 3 0 0 ((siI S 2 0 0 (S.1 1 0 0 6).toNatClampNeg v1).1 1 0 0 6).toNatClampNeg v2).1 1 0 0 7)) 5 0 0 ((siI (siI (siI S 2 0 0 (S.1 1 0 0 6).toNatClampNeg v1) 3 0 0 ((siI S 2 0 0 (S.1 1 0 0 6).toNatClampNeg v1).1 1 0 0 6).toNatClampNeg v2) 4 0 0 ((siI (siI S 2 0 0 (S.1 1 0 0 6).toNatClampNeg v1) 3 0 0 ((siI S 2 0 0 (S.1 1 0 0 6).toNatClampNeg v1).1 1 0 0 6).toNatClampNeg v2).1 1 0 0 6).toNatClampNeg ((siI (siI S 2 0 0 (S.1 1 0 0 6).toNatClampNeg v1) 3 0 0 ((siI S 2 0 0 (S.1 1 0 0 6).toNatClampNeg v1).1 1 0 0 6).toNatClampNeg v2).1 1 0 0 7)).1 1 0 0 6).toNatClampNeg (nI 0)).1 1 0 0 6) + (nI 1))).1 1 0 0 6)] μ Q)
    refine jX.ic (v := nI 1) (n := 1) (by rfl) (by rfl) (by decide) (?_ : jX G jP 64 69 lv [.int (nI 1), .int ((siI (siI (siI (siI (siI S 2 0 0 (S.1 1 0 0 6).toNatClampNeg v1) 3 0 0 ((siI S 2 0 0 (S.1 1 0 0 6).toNatClampNeg v1).1 1 0 0 6).toNatClampNeg v2) 4 0 0 ((siI (siI S 2 0 0 (S.1 1 0 0 6).toNatClampNeg v1) 3 0 0 ((siI S 2 0 0 (S.1 1 0 0 6).toNatClampNeg v1).1 1 0 0 6).toNatClampNeg v2).1 1 0 0 6).toNatClampNeg ((siI (siI S 2 0 0 (S.1 1 0 0 6).toNatClampNeg v1) 3 0 0 ((siI S 2 0 0 (S.1 1 0 0 6).toNatClampNeg v1).1 1 0 0 6).toNatClampNeg v2).1 1 0 0 7)) 5 0 0 ((siI (siI (siI S 2 0 0 (S.1 1 0 0 6).toNatClampNeg v1) 3 0 0 ((siI S 2 0 0 (S.1 1 0 0 6).toNatClampNeg v1).1 1 0 0 6).toNatClampNeg v2) 4 0 0 ((siI (siI S 2 0 0 (S.1 1 0 0 6).toNatClampNeg v1) 3 0 0 ((siI S 2 0 0 (S.1 1 0 0 6).toNatClampNeg v1).1 1 0 0 6).toNatClampNeg v2).1 1 0 0 6).toNatClampNeg ((siI (siI S 2 0 0 (S.1 1 0 0 6).toNatClampNeg v1) 3 0 0 ((siI S 2 0 0 (S.1 1 0 0 6).toNatClampNeg v1).1 1 0 0 6).toNatClampNeg v2).1 1 0 0 7)).1 1 0 0 6).toNatClampNeg (nI 0)) 1 0 0 6 (((siI (siI (siI (siI S 2 0 0 (S.1 1 0 0 6).toNatClampNeg v1) 3 0 0 ((siI S 2 0 0 (S.1 1 0 0 6).toNatClampNeg v1).1 1 0 0 6).toNatClampNeg v2) 4 0 0 ((siI (siI S 2 0 0 (S.1 1 0 0 6).toNatClampNeg v1) 3 0 0 ((siI S 2 0 0 (S.1 1 0 0 6).toNatClampNeg v1).1 1 0 0 6).toNatClampNeg v2).1 1 0 0 6).toNatClampNeg ((siI (siI S 2 0 0 (S.1 1 0 0 6).toNatClampNeg v1) 3 0 0 ((siI S 2 0 0 (S.1 1 0 0 6).toNatClampNeg v1).1 1 0 0 6).toNatClampNeg v2).1 1 0 0 7)) 5 0 0 ((siI (siI (siI S 2 0 0 (S.1 1 0 0 6).toNatClampNeg v1) 3 0 0 ((siI S 2 0 0 (S.1 1 0 0 6).toNatClampNeg v1).1 1 0 0 6).toNatClampNeg v2) 4 0 0 ((siI (siI S 2 0 0 (S.1 1 0 0 6).toNatClampNeg v1) 3 0 0 ((siI S 2 0 0 (S.1 1 0 0 6).toNatClampNeg v1).1 1 0 0 6).toNatClampNeg v2).1 1 0 0 6).toNatClampNeg ((siI (siI S 2 0 0 (S.1 1 0 0 6).toNatClampNeg v1) 3 0 0 ((siI S 2 0 0 (S.1 1 0 0 6).toNatClampNeg v1).1 1 0 0 6).toNatClampNeg v2).1 1 0 0 7)).1 1 0 0 6).toNatClampNeg (nI 0)).1 1 0 0 6) + (nI 1))).1 1 0 0 6)] μ Q)
    refine jX.go (by rfl) (by rfl) (by rfl) (?_ : jX G jP 64 70 lv [.int (((siI (siI (siI (siI (siI S 2 0 0 (S.1 1 0 0 6).toNatClampNeg v1) 3 0 0 ((siI S 2 0 0 (S.1 1 0 0 6).toNatClampNeg v1).1 1 0 0 6).toNatClampNeg v2) 4 0 0 ((siI (siI S 2 0 0 (S.1 1 0 0 6).toNatClampNeg v1) 3 0 0 ((siI S 2 0 0 (S.1 1 0 0 6).toNatClampNeg v1).1 1 0 0 6).toNatClampNeg v2).1 1 0 0 6).toNatClampNeg ((siI (siI S 2 0 0 (S.1 1 0 0 6).toNatClampNeg v1) 3 0 0 ((siI S 2 0 0 (S.1 1 0 0 6).toNatClampNeg v1).1 1 0 0 6).toNatClampNeg v2).1 1 0 0 7)) 5 0 0 ((siI (siI (siI S 2 0 0 (S.1 1 0 0 6).toNatClampNeg v1) 3 0 0 ((siI S 2 0 0 (S.1 1 0 0 6).toNatClampNeg v1).1 1 0 0 6).toNatClampNeg v2) 4 0 0 ((siI (siI S 2 0 0 (S.1 1 0 0 6).toNatClampNeg v1) 3 0 0 ((siI S 2 0 0 (S.1 1 0 0 6).toNatClampNeg v1).1 1 0 0 6).toNatClampNeg v2).1 1 0 0 6).toNatClampNeg ((siI (siI S 2 0 0 (S.1 1 0 0 6).toNatClampNeg v1) 3 0 0 ((siI S 2 0 0 (S.1 1 0 0 6).toNatClampNeg v1).1 1 0 0 6).toNatClampNeg v2).1 1 0 0 7)).1 1 0 0 6).toNatClampNeg (nI 0)) 1 0 0 6 (((siI (siI (siI (siI S 2 0 0 (S.1 1 0 0 6).toNatClampNeg v1) 3 0 0 ((siI S 2 0 0 (S.1 1 0 0 6).toNatClampNeg v1).1 1 0 0 6).toNatClampNeg v2) 4 0 0 ((siI (siI S 2 0 0 (S.1 1 0 0 6).toNatClampNeg v1) 3 0 0 ((siI S 2 0 0 (S.1 1 0 0 6).toNatClampNeg v1).1 1 0 0 6).toNatClampNeg v2).1 1 0 0 6).toNatClampNeg ((siI (siI S 2 0 0 (S.1 1 0 0 6).toNatClampNeg v1) 3 0 0 ((siI S 2 0 0 (S.1 1 0 0 6).toNatClampNeg v1).1 1 0 0 6).toNatClampNeg v2).1 1 0 0 7)) 5 0 0 ((siI (siI (siI S 2 0 0 (S.1 1 0 0 6).toNatClampNeg v1) 3 0 0 ((siI S 2 0 0 (S.1 1 0 0 6).toNatClampNeg v1).1 1 0 0 6).toNatClampNeg v2) 4 0 0 ((siI (siI S 2 0 0 (S.1 1 0 0 6).toNatClampNeg v1) 3 0 0 ((siI S 2 0 0 (S.1 1 0 0 6).toNatClampNeg v1).1 1 0 0 6).toNatClampNeg v2).1 1 0 0 6).toNatClampNeg ((siI (siI S 2 0 0 (S.1 1 0 0 6).toNatClampNeg v1) 3 0 0 ((siI S 2 0 0 (S.1 1 0 0 6).toNatClampNeg v1).1 1 0 0 6).toNatClampNeg v2).1 1 0 0 7)).1 1 0 0 6).toNatClampNeg (nI 0)).1 1 0 0 6) + (nI 1))).1 1 0 0 6) - (nI 1))] μ Q)
    exact jX.ret (by rfl) (by rfl) (by rfl) (by rfl) (sretv (f := srI) h K R)
  · refine jX.b2f hc (by rfl) (by rfl) (by rfl) (?_ : jX G jP 64 9 lv [] μ Q)
    refine jX.ic (v := (-1)) (n := 1) (by rfl) (by rfl) (by decide) (?_ : jX G jP 64 10 lv [.int (-1)] μ Q)
    exact jX.ret (by rfl) (by rfl) (by rfl) (by rfl) (sretv (f := srI) h K R)
/-! 65 StrandRuntime.function(II)I -/
def F_65 (G : jG) (t : Nat) (v1 : Int32) (v2 : Int32) (S : sS) : Option ((Int32 ⊕ Nat) × sS) := bif jcmp .lt v1 0 then (some (.inr 0, sxc S)) else (bif jcmp .gt v1 (nI 4) then (some (.inr 0, sxc S)) else (bif jcmp .lt v2 v1 then (some (.inr 0, sxc S)) else (bif jcmp .le v2 (nI 12) then (bif jcmp .ge (S.1 1 0 0 6) (nI 32) then (some (.inr 1, sxc S)) else (bif jcmp .eq (S.1 23 0 0 7) 0 then ((F_64 G t v1 v2 S).bind (fun q1 => some (.inl q1.1, q1.2))) else (some (.inr 1, sxc S)))) else (some (.inr 0, sxc S)))))
theorem F_65_ok {G : jG} {t : Nat} {v1 : Int32} {v2 : Int32} {S : sS} {r : (Int32 ⊕ Nat)} {S' : sS} {μ : jS} {Q : Option Value ⊕ Nat → jS → Prop} (R : sR S μ) (h : F_65 G t v1 v2 S = some (r, S')) (K : ∀ μ', sR S' μ' → Q (sthI r) μ') : jX G jP 65 0 (lv_args 0 [.ref (spl 0 0 0), .int v1, .int v2]) [] μ Q := by
  unfold F_65 at h
  have l0 : jld (lv_args 0 [.ref (spl 0 0 0), .int v1, .int v2]) 0 = some (.ref (spl 0 0 0)) := by rfl
  have l1 : jld (lv_args 0 [.ref (spl 0 0 0), .int v1, .int v2]) 1 = some (.int v1) := by rfl
  have l2 : jld (lv_args 0 [.ref (spl 0 0 0), .int v1, .int v2]) 2 = some (.int v2) := by rfl
  generalize lv_args 0 [.ref (spl 0 0 0), .int v1, .int v2] = lv at *
  refine jX.lin l1 (by rfl) (by rfl) (?_ : jX G jP 65 1 lv [.int v1] μ Q)
  rcases bif_or h with ⟨hc, h⟩ | ⟨hc, h⟩
  · refine jX.b1t hc (by rfl) (by rfl) (by rfl) (?_ : jX G jP 65 20 lv [] μ Q)
    exact jX.throw (by rfl) (sretv (f := sthI) h K R.xc)
  · refine jX.b1f hc (by rfl) (by rfl) (by rfl) (?_ : jX G jP 65 4 lv [] μ Q)
    refine jX.lin l1 (by rfl) (by rfl) (?_ : jX G jP 65 5 lv [.int v1] μ Q)
    refine jX.ic (v := nI 4) (n := 1) (by rfl) (by rfl) (by decide) (?_ : jX G jP 65 6 lv [.int (nI 4), .int v1] μ Q)
    rcases bif_or h with ⟨hc, h⟩ | ⟨hc, h⟩
    · refine jX.b2t hc (by rfl) (by rfl) (by rfl) (?_ : jX G jP 65 20 lv [] μ Q)
      exact jX.throw (by rfl) (sretv (f := sthI) h K R.xc)
    · refine jX.b2f hc (by rfl) (by rfl) (by rfl) (?_ : jX G jP 65 9 lv [] μ Q)
      refine jX.lin l2 (by rfl) (by rfl) (?_ : jX G jP 65 10 lv [.int v2] μ Q)
      refine jX.lin l1 (by rfl) (by rfl) (?_ : jX G jP 65 11 lv [.int v1, .int v2] μ Q)
      rcases bif_or h with ⟨hc, h⟩ | ⟨hc, h⟩
      · refine jX.b2t hc (by rfl) (by rfl) (by rfl) (?_ : jX G jP 65 20 lv [] μ Q)
        exact jX.throw (by rfl) (sretv (f := sthI) h K R.xc)
      · refine jX.b2f hc (by rfl) (by rfl) (by rfl) (?_ : jX G jP 65 14 lv [] μ Q)
        refine jX.lin l2 (by rfl) (by rfl) (?_ : jX G jP 65 15 lv [.int v2] μ Q)
        refine jX.ic (v := nI 12) (n := 2) (by rfl) (by rfl) (by decide) (?_ : jX G jP 65 17 lv [.int (nI 12), .int v2] μ Q)
        rcases bif_or h with ⟨hc, h⟩ | ⟨hc, h⟩
        · refine jX.b2t hc (by rfl) (by rfl) (by rfl) (?_ : jX G jP 65 28 lv [] μ Q)
          refine jX.lrn l0 (by rfl) (by rfl) (?_ : jX G jP 65 29 lv [.ref (spl 0 0 0)] μ Q)
          refine jX.sg R (by rfl) (by rfl) (by rfl) (by rfl) (by rfl) (by rfl) (?_ : jX G jP 65 32 lv [.ref (spl 1 0 0)] μ Q)
          refine jX.sg R (by rfl) (by rfl) (by rfl) (by rfl) (by rfl) (by rfl) (?_ : jX G jP 65 35 lv [.int (S.1 1 0 0 6)] μ Q)
          refine jX.ic (v := nI 32) (n := 2) (by rfl) (by rfl) (by decide) (?_ : jX G jP 65 37 lv [.int (nI 32), .int (S.1 1 0 0 6)] μ Q)
          rcases bif_or h with ⟨hc, h⟩ | ⟨hc, h⟩
          · refine jX.b2t hc (by rfl) (by rfl) (by rfl) (?_ : jX G jP 65 50 lv [] μ Q)
            exact jX.throw (by rfl) (sretv (f := sthI) h K R.xc)
          · refine jX.b2f hc (by rfl) (by rfl) (by rfl) (?_ : jX G jP 65 40 lv [] μ Q)
            refine jX.lrn l0 (by rfl) (by rfl) (?_ : jX G jP 65 41 lv [.ref (spl 0 0 0)] μ Q)
            refine jX.sg R (by rfl) (by rfl) (by rfl) (by rfl) (by rfl) (by rfl) (?_ : jX G jP 65 44 lv [.ref (spl 23 0 0)] μ Q)
            refine jX.sg R (by rfl) (by rfl) (by rfl) (by rfl) (by rfl) (by rfl) (?_ : jX G jP 65 47 lv [.int (S.1 23 0 0 7)] μ Q)
            rcases bif_or h with ⟨hc, h⟩ | ⟨hc, h⟩
            · refine jX.b1t hc (by rfl) (by rfl) (by rfl) (?_ : jX G jP 65 58 lv [] μ Q)
              refine jX.lrn l0 (by rfl) (by rfl) (?_ : jX G jP 65 59 lv [.ref (spl 0 0 0)] μ Q)
              refine jX.sg R (by rfl) (by rfl) (by rfl) (by rfl) (by rfl) (by rfl) (?_ : jX G jP 65 62 lv [.ref (spl 1 0 0)] μ Q)
              refine jX.lin l1 (by rfl) (by rfl) (?_ : jX G jP 65 63 lv [.int v1, .ref (spl 1 0 0)] μ Q)
              refine jX.lin l2 (by rfl) (by rfl) (?_ : jX G jP 65 64 lv [.int v2, .int v1, .ref (spl 1 0 0)] μ Q)
              obtain ⟨q1, e1, h⟩ := sbd h
              refine jX.c1 (v := .int q1.1) (by rfl) (by rfl) (by rfl) (by rfl) (by rfl) (by rfl) (by rfl) (R.rec (by rfl) (by rfl)) (Nat.le_of_ble_eq_true rfl) (Nat.le_of_ble_eq_true rfl) (F_64_ok R e1 (fun μ R => ⟨rfl, (?_ : jX G jP 65 67 lv [.int q1.1] μ Q)⟩))
              exact jX.ret (by rfl) (by rfl) (by rfl) (by rfl) (sretv (f := sthI) h K R)
            · refine jX.b1f hc (by rfl) (by rfl) (by rfl) (?_ : jX G jP 65 50 lv [] μ Q)
              exact jX.throw (by rfl) (sretv (f := sthI) h K R.xc)
        · refine jX.b2f hc (by rfl) (by rfl) (by rfl) (?_ : jX G jP 65 20 lv [] μ Q)
          exact jX.throw (by rfl) (sretv (f := sthI) h K R.xc)
/-! 66 StrandRuntime$Strand.top()LStrandRuntime$Frame; -/
def F_66 (G : jG) (t : Nat) (v0 : (Nat × Nat)) (S : sS) : Option ((Option (Nat × Nat)) × sS) := jif (sex S.2.2.2.1 25 v0.1 v0.2) (bif jcmp .le (S.1 25 v0.1 v0.2 3) 0 then (some (none, S)) else (bif jcmp .gt (S.1 25 v0.1 v0.2 3) (nI 30) then (some (none, S)) else (jif (sex S.2.2.2.1 26 v0.1 0) (jif (jin ((S.1 25 v0.1 v0.2 3) - (nI 1)) 30) (some ((S.2.2.1.1 v0.1 ((S.1 25 v0.1 v0.2 3) - (nI 1)).toNatClampNeg).map fun p => (p, 0), S))))))
theorem F_66_ok {G : jG} {t : Nat} {v0 : (Nat × Nat)} {S : sS} {r : (Option (Nat × Nat))} {S' : sS} {μ : jS} {Q : Option Value ⊕ Nat → jS → Prop} (R : sR S μ) (h : F_66 G t v0 S = some (r, S')) (K : ∀ μ', sR S' μ' → Q ((srO 27) r) μ') : jX G jP 66 0 (lv_args 0 [.ref (spl 25 v0.1 v0.2)]) [] μ Q := by
  unfold F_66 at h
  have l0 : jld (lv_args 0 [.ref (spl 25 v0.1 v0.2)]) 0 = some (.ref (spl 25 v0.1 v0.2)) := by rfl
  generalize lv_args 0 [.ref (spl 25 v0.1 v0.2)] = lv at *
  refine jX.lrn l0 (by rfl) (by rfl) (?_ : jX G jP 66 1 lv [.ref (spl 25 v0.1 v0.2)] μ Q)
  obtain ⟨g1, h⟩ := jif_some h
  refine jX.sg R g1 (by rfl) (by rfl) (by rfl) (by rfl) (by rfl) (?_ : jX G jP 66 4 lv [.int (S.1 25 v0.1 v0.2 3)] μ Q)
  rcases bif_or h with ⟨hc, h⟩ | ⟨hc, h⟩
  · refine jX.b1t hc (by rfl) (by rfl) (by rfl) (?_ : jX G jP 66 30 lv [] μ Q)
    refine jX.go (by rfl) (by rfl) (by rfl) (?_ : jX G jP 66 31 lv [.null] μ Q)
    exact jX.ret (by rfl) (by rfl) (by rfl) (by rfl) (sretv (f := (srO 27)) h K R)
  · refine jX.b1f hc (by rfl) (by rfl) (by rfl) (?_ : jX G jP 66 7 lv [] μ Q)
    refine jX.lrn l0 (by rfl) (by rfl) (?_ : jX G jP 66 8 lv [.ref (spl 25 v0.1 v0.2)] μ Q)
    refine jX.sg R g1 (by rfl) (by rfl) (by rfl) (by rfl) (by rfl) (?_ : jX G jP 66 11 lv [.int (S.1 25 v0.1 v0.2 3)] μ Q)
    refine jX.ic (v := nI 30) (n := 2) (by rfl) (by rfl) (by decide) (?_ : jX G jP 66 13 lv [.int (nI 30), .int (S.1 25 v0.1 v0.2 3)] μ Q)
    rcases bif_or h with ⟨hc, h⟩ | ⟨hc, h⟩
    · refine jX.b2t hc (by rfl) (by rfl) (by rfl) (?_ : jX G jP 66 30 lv [] μ Q)
      refine jX.go (by rfl) (by rfl) (by rfl) (?_ : jX G jP 66 31 lv [.null] μ Q)
      exact jX.ret (by rfl) (by rfl) (by rfl) (by rfl) (sretv (f := (srO 27)) h K R)
    · refine jX.b2f hc (by rfl) (by rfl) (by rfl) (?_ : jX G jP 66 16 lv [] μ Q)
      refine jX.lrn l0 (by rfl) (by rfl) (?_ : jX G jP 66 17 lv [.ref (spl 25 v0.1 v0.2)] μ Q)
      refine jX.sg R g1 (by rfl) (by rfl) (by rfl) (by rfl) (by rfl) (?_ : jX G jP 66 20 lv [.ref (spl 26 v0.1 0)] μ Q)
      refine jX.lrn l0 (by rfl) (by rfl) (?_ : jX G jP 66 21 lv [.ref (spl 25 v0.1 v0.2), .ref (spl 26 v0.1 0)] μ Q)
      refine jX.sg R g1 (by rfl) (by rfl) (by rfl) (by rfl) (by rfl) (?_ : jX G jP 66 24 lv [.int (S.1 25 v0.1 v0.2 3), .ref (spl 26 v0.1 0)] μ Q)
      refine jX.ic (v := nI 1) (n := 1) (by rfl) (by rfl) (by decide) (?_ : jX G jP 66 25 lv [.int (nI 1), .int (S.1 25 v0.1 v0.2 3), .ref (spl 26 v0.1 0)] μ Q)
      refine jX.go (by rfl) (by rfl) (by rfl) (?_ : jX G jP 66 26 lv [.int ((S.1 25 v0.1 v0.2 3) - (nI 1)), .ref (spl 26 v0.1 0)] μ Q)
      obtain ⟨g2, h⟩ := jif_some h
      obtain ⟨g3, h⟩ := jif_some h
      refine jX.sar R g2 (by rfl) (by rfl) (by rfl) g3 (srf_27 _) (?_ : jX G jP 66 27 lv [soR 27 ((S.2.2.1.1 v0.1 ((S.1 25 v0.1 v0.2 3) - (nI 1)).toNatClampNeg).map fun p => (p, 0))] μ Q)
      refine jX.go (by rfl) (by rfl) (by rfl) (?_ : jX G jP 66 31 lv [soR 27 ((S.2.2.1.1 v0.1 ((S.1 25 v0.1 v0.2 3) - (nI 1)).toNatClampNeg).map fun p => (p, 0))] μ Q)
      exact jX.ret (by rfl) (by rfl) (by rfl) (jret_o _ _) (sretv (f := (srO 27)) h K R)
/-! 67 StrandRuntime$World.operandsOf(I)LStrandRuntime$Row; -/
def F_67_23 (G : jG) (t : Nat) (w0 : (Option (Nat × Nat))) (S : sS) : Option ((Option (Nat × Nat)) × sS) := sif w0 (some (none, S)) (fun a1 => jif (sex S.2.2.2.1 27 a1.1 a1.2) (some (some (a1.1, 1), S)))
theorem F_67_23_ok {G : jG} {t : Nat} {r : (Option (Nat × Nat))} {S' : sS} {Q : Option Value ⊕ Nat → jS → Prop} (K : ∀ μ', sR S' μ' → Q ((srO 29) r) μ') : ∀ (w0 : (Option (Nat × Nat))) (S : sS) (lv : jL) (μ : jS), sR S μ → F_67_23 G t w0 S = some (r, S') → jX G jP 67 23 lv [soR 27 w0] μ Q := by
  intro w0 S lv μ R h
  unfold F_67_23 at h
  refine jX.so (k := 2) (pc' := 24) (by rfl) (by rfl) (fun _ => by rfl) (by rfl) (fun lv l2 kp => (?_ : jX G jP 67 24 lv [] μ Q))
  refine jX.lon l2 (by rfl) (by rfl) (?_ : jX G jP 67 25 lv [soR 27 w0] μ Q)
  rcases sif_or h with ⟨e1, h⟩ | ⟨a1, e1, h⟩
  · rw [soR_none (t := 27) e1]
    rw [soR_none (t := 27) e1] at l2
    refine jX.go (by rfl) (by rfl) (by rfl) (?_ : jX G jP 67 28 lv [] μ Q)
    refine jX.go (by rfl) (by rfl) (by rfl) (?_ : jX G jP 67 29 lv [.null] μ Q)
    refine jX.go (by rfl) (by rfl) (by rfl) (?_ : jX G jP 67 36 lv [.null] μ Q)
    exact jX.ret (by rfl) (by rfl) (by rfl) (by rfl) (sretv (f := (srO 29)) h K R)
  · rw [soR_some (t := 27) e1]
    rw [soR_some (t := 27) e1] at l2
    refine jX.go (by rfl) (by rfl) (by rfl) (?_ : jX G jP 67 32 lv [] μ Q)
    refine jX.lrn l2 (by rfl) (by rfl) (?_ : jX G jP 67 33 lv [.ref (spl 27 a1.1 a1.2)] μ Q)
    obtain ⟨g2, h⟩ := jif_some h
    refine jX.sg R g2 (by rfl) (by rfl) (by rfl) (by rfl) (by rfl) (?_ : jX G jP 67 36 lv [.ref (spl 29 a1.1 1)] μ Q)
    exact jX.ret (by rfl) (by rfl) (by rfl) (by rfl) (sretv (f := (srO 29)) h K R)
def F_67_22 (G : jG) (t : Nat) (S : sS) : Option ((Option (Nat × Nat)) × sS) := F_67_23 G t none S
theorem F_67_22_ok {G : jG} {t : Nat} {r : (Option (Nat × Nat))} {S' : sS} {Q : Option Value ⊕ Nat → jS → Prop} (K : ∀ μ', sR S' μ' → Q ((srO 29) r) μ') : ∀ (S : sS) (lv : jL) (μ : jS), sR S μ → F_67_22 G t S = some (r, S') → jX G jP 67 22 lv [] μ Q := by
  intro S lv μ R h
  unfold F_67_22 at h
  refine jX.go (by rfl) (by rfl) (by rfl) (?_ : jX G jP 67 23 lv [.null] μ Q)
  exact F_67_23_ok  K none _ _ _  R h
def F_67 (G : jG) (t : Nat) (v1 : Int32) (S : sS) : Option ((Option (Nat × Nat)) × sS) := bif jcmp .lt v1 0 then (F_67_22 G t S) else (bif jcmp .ge v1 (nI 16) then (F_67_22 G t S) else (jif (jin v1 16) (jif (sex S.2.2.2.1 25 v1.toNatClampNeg 0) ((F_66 G t (v1.toNatClampNeg, 0) S).bind (fun q3 => F_67_23 G t q3.1 q3.2)))))
theorem F_67_ok {G : jG} {t : Nat} {v1 : Int32} {S : sS} {r : (Option (Nat × Nat))} {S' : sS} {μ : jS} {Q : Option Value ⊕ Nat → jS → Prop} (R : sR S μ) (h : F_67 G t v1 S = some (r, S')) (K : ∀ μ', sR S' μ' → Q ((srO 29) r) μ') : jX G jP 67 0 (lv_args 0 [.ref (spl 8 0 0), .int v1]) [] μ Q := by
  unfold F_67 at h
  have l0 : jld (lv_args 0 [.ref (spl 8 0 0), .int v1]) 0 = some (.ref (spl 8 0 0)) := by rfl
  have l1 : jld (lv_args 0 [.ref (spl 8 0 0), .int v1]) 1 = some (.int v1) := by rfl
  generalize lv_args 0 [.ref (spl 8 0 0), .int v1] = lv at *
  refine jX.lin l1 (by rfl) (by rfl) (?_ : jX G jP 67 1 lv [.int v1] μ Q)
  rcases bif_or h with ⟨hc, h⟩ | ⟨hc, h⟩
  · refine jX.b1t hc (by rfl) (by rfl) (by rfl) (?_ : jX G jP 67 22 lv [] μ Q)
    exact F_67_22_ok  K  _ _ _  R h
  · refine jX.b1f hc (by rfl) (by rfl) (by rfl) (?_ : jX G jP 67 4 lv [] μ Q)
    refine jX.lin l1 (by rfl) (by rfl) (?_ : jX G jP 67 5 lv [.int v1] μ Q)
    refine jX.ic (v := nI 16) (n := 2) (by rfl) (by rfl) (by decide) (?_ : jX G jP 67 7 lv [.int (nI 16), .int v1] μ Q)
    rcases bif_or h with ⟨hc, h⟩ | ⟨hc, h⟩
    · refine jX.b2t hc (by rfl) (by rfl) (by rfl) (?_ : jX G jP 67 22 lv [] μ Q)
      exact F_67_22_ok  K  _ _ _  R h
    · refine jX.b2f hc (by rfl) (by rfl) (by rfl) (?_ : jX G jP 67 10 lv [] μ Q)
      refine jX.lrn l0 (by rfl) (by rfl) (?_ : jX G jP 67 11 lv [.ref (spl 8 0 0)] μ Q)
      refine jX.sg R (by rfl) (by rfl) (by rfl) (by rfl) (by rfl) (by rfl) (?_ : jX G jP 67 14 lv [.ref (spl 9 0 0)] μ Q)
      refine jX.lin l1 (by rfl) (by rfl) (?_ : jX G jP 67 15 lv [.int v1, .ref (spl 9 0 0)] μ Q)
      obtain ⟨g1, h⟩ := jif_some h
      refine jX.sar (f := fun q => bif Nat.blt q 16 then some (spl 25 q 0) else none) R (by rfl) (by rfl) (by rfl) (by rfl) g1 (srf_in g1) (?_ : jX G jP 67 16 lv [.ref (spl 25 v1.toNatClampNeg 0)] μ Q)
      obtain ⟨g2, h⟩ := jif_some h
      obtain ⟨q3, e3, h⟩ := sbd h
      refine jX.c1 (v := soR 27 q3.1) (by rfl) (by rfl) (by rfl) (by rfl) (by rfl) (by rfl) (by rfl) (R.rec g2 (by rfl)) (Nat.le_of_ble_eq_true rfl) (Nat.le_of_ble_eq_true rfl) (F_66_ok R e3 (fun μ R => ⟨rfl, (?_ : jX G jP 67 19 lv [soR 27 q3.1] μ Q)⟩))
      refine jX.go (by rfl) (by rfl) (by rfl) (?_ : jX G jP 67 23 lv [soR 27 q3.1] μ Q)
      exact F_67_23_ok  K q3.1 _ _ _  R h
/-! 68 StrandRuntime$Heap.kindOf(I)I -/
def F_68 (G : jG) (t : Nat) (v1 : Int32) (S : sS) : Option (Int32 × sS) := (F_58 G t (v1 - (nI 2)) S).bind (fun q1 => sif q1.1 (some (v1, q1.2)) (fun a2 => jif (sex q1.2.2.2.2.1 32 a2.1 a2.2) (some ((q1.2.1 32 a2.1 a2.2 1), q1.2))))
theorem F_68_ok {G : jG} {t : Nat} {v1 : Int32} {S : sS} {r : Int32} {S' : sS} {μ : jS} {Q : Option Value ⊕ Nat → jS → Prop} (R : sR S μ) (h : F_68 G t v1 S = some (r, S')) (K : ∀ μ', sR S' μ' → Q (srI r) μ') : jX G jP 68 0 (lv_args 0 [.ref (spl 11 0 0), .int v1]) [] μ Q := by
  unfold F_68 at h
  have l0 : jld (lv_args 0 [.ref (spl 11 0 0), .int v1]) 0 = some (.ref (spl 11 0 0)) := by rfl
  have l1 : jld (lv_args 0 [.ref (spl 11 0 0), .int v1]) 1 = some (.int v1) := by rfl
  generalize lv_args 0 [.ref (spl 11 0 0), .int v1] = lv at *
  refine jX.lrn l0 (by rfl) (by rfl) (?_ : jX G jP 68 1 lv [.ref (spl 11 0 0)] μ Q)
  refine jX.lin l1 (by rfl) (by rfl) (?_ : jX G jP 68 2 lv [.int v1, .ref (spl 11 0 0)] μ Q)
  refine jX.ic (v := nI 2) (n := 1) (by rfl) (by rfl) (by decide) (?_ : jX G jP 68 3 lv [.int (nI 2), .int v1, .ref (spl 11 0 0)] μ Q)
  refine jX.go (by rfl) (by rfl) (by rfl) (?_ : jX G jP 68 4 lv [.int (v1 - (nI 2)), .ref (spl 11 0 0)] μ Q)
  obtain ⟨q1, e1, h⟩ := sbd h
  refine jX.c1 (v := soR 32 q1.1) (by rfl) (by rfl) (by rfl) (by rfl) (by rfl) (by rfl) (by rfl) (R.rec (by rfl) (by rfl)) (Nat.le_of_ble_eq_true rfl) (Nat.le_of_ble_eq_true rfl) (F_58_ok R e1 (fun μ R => ⟨rfl, (?_ : jX G jP 68 7 lv [soR 32 q1.1] μ Q)⟩))
  refine jX.so (k := 2) (pc' := 8) (by rfl) (by rfl) (fun _ => by rfl) (by rfl) (fun lv l2 kp => (?_ : jX G jP 68 8 lv [] μ Q))
  replace l1 := kp 1 _ l1 (by rfl) (by first | rfl | simp [soR_cat])
  refine jX.lon l2 (by rfl) (by rfl) (?_ : jX G jP 68 9 lv [soR 32 q1.1] μ Q)
  rcases sif_or h with ⟨e2, h⟩ | ⟨a2, e2, h⟩
  · rw [soR_none (t := 32) e2]
    rw [soR_none (t := 32) e2] at l2
    refine jX.go (by rfl) (by rfl) (by rfl) (?_ : jX G jP 68 12 lv [] μ Q)
    refine jX.lin l1 (by rfl) (by rfl) (?_ : jX G jP 68 13 lv [.int v1] μ Q)
    refine jX.go (by rfl) (by rfl) (by rfl) (?_ : jX G jP 68 20 lv [.int v1] μ Q)
    exact jX.ret (by rfl) (by rfl) (by rfl) (by rfl) (sretv (f := srI) h K R)
  · rw [soR_some (t := 32) e2]
    rw [soR_some (t := 32) e2] at l2
    refine jX.go (by rfl) (by rfl) (by rfl) (?_ : jX G jP 68 16 lv [] μ Q)
    refine jX.lrn l2 (by rfl) (by rfl) (?_ : jX G jP 68 17 lv [.ref (spl 32 a2.1 a2.2)] μ Q)
    obtain ⟨g3, h⟩ := jif_some h
    refine jX.sg R g3 (by rfl) (by rfl) (by rfl) (by rfl) (by rfl) (?_ : jX G jP 68 20 lv [.int (q1.2.1 32 a2.1 a2.2 1)] μ Q)
    exact jX.ret (by rfl) (by rfl) (by rfl) (by rfl) (sretv (f := srI) h K R)
/-! 69 StrandRuntime.kind(II)I -/
def F_69 (G : jG) (t : Nat) (v1 : Int32) (v2 : Int32) (S : sS) : Option ((Int32 ⊕ Nat) × sS) := (F_67 G t v1 S).bind (fun q1 => sif q1.1 (some (.inr 2, sxc q1.2)) (fun a2 => bif jcmp .lt v2 0 then (some (.inr 2, sxc q1.2)) else (jif (sex q1.2.2.2.2.1 29 a2.1 a2.2) (bif jcmp .lt v2 (q1.2.1 29 a2.1 a2.2 2) then ((F_27 G t a2 (((q1.2.1 29 a2.1 a2.2 2) - (nI 1)) - v2) q1.2).bind (fun q4 => (F_68 G t q4.1 q4.2).bind (fun q5 => some (.inl q5.1, q5.2)))) else (some (.inr 2, sxc q1.2))))))
theorem F_69_ok {G : jG} {t : Nat} {v1 : Int32} {v2 : Int32} {S : sS} {r : (Int32 ⊕ Nat)} {S' : sS} {μ : jS} {Q : Option Value ⊕ Nat → jS → Prop} (R : sR S μ) (h : F_69 G t v1 v2 S = some (r, S')) (K : ∀ μ', sR S' μ' → Q (sthI r) μ') : jX G jP 69 0 (lv_args 0 [.ref (spl 0 0 0), .int v1, .int v2]) [] μ Q := by
  unfold F_69 at h
  have l0 : jld (lv_args 0 [.ref (spl 0 0 0), .int v1, .int v2]) 0 = some (.ref (spl 0 0 0)) := by rfl
  have l1 : jld (lv_args 0 [.ref (spl 0 0 0), .int v1, .int v2]) 1 = some (.int v1) := by rfl
  have l2 : jld (lv_args 0 [.ref (spl 0 0 0), .int v1, .int v2]) 2 = some (.int v2) := by rfl
  generalize lv_args 0 [.ref (spl 0 0 0), .int v1, .int v2] = lv at *
  refine jX.lrn l0 (by rfl) (by rfl) (?_ : jX G jP 69 1 lv [.ref (spl 0 0 0)] μ Q)
  refine jX.sg R (by rfl) (by rfl) (by rfl) (by rfl) (by rfl) (by rfl) (?_ : jX G jP 69 4 lv [.ref (spl 8 0 0)] μ Q)
  refine jX.lin l1 (by rfl) (by rfl) (?_ : jX G jP 69 5 lv [.int v1, .ref (spl 8 0 0)] μ Q)
  obtain ⟨q1, e1, h⟩ := sbd h
  refine jX.c1 (v := soR 29 q1.1) (by rfl) (by rfl) (by rfl) (by rfl) (by rfl) (by rfl) (by rfl) (R.rec (by rfl) (by rfl)) (Nat.le_of_ble_eq_true rfl) (Nat.le_of_ble_eq_true rfl) (F_67_ok R e1 (fun μ R => ⟨rfl, (?_ : jX G jP 69 8 lv [soR 29 q1.1] μ Q)⟩))
  refine jX.so (k := 3) (pc' := 9) (by rfl) (by rfl) (fun _ => by rfl) (by rfl) (fun lv l3 kp => (?_ : jX G jP 69 9 lv [] μ Q))
  replace l0 := kp 0 _ l0 (by rfl) (by first | rfl | simp [soR_cat])
  replace l2 := kp 2 _ l2 (by rfl) (by first | rfl | simp [soR_cat])
  refine jX.lon l3 (by rfl) (by rfl) (?_ : jX G jP 69 10 lv [soR 29 q1.1] μ Q)
  rcases sif_or h with ⟨e2, h⟩ | ⟨a2, e2, h⟩
  · rw [soR_none (t := 29) e2]
    rw [soR_none (t := 29) e2] at l3
    refine jX.go (by rfl) (by rfl) (by rfl) (?_ : jX G jP 69 25 lv [] μ Q)
    exact jX.throw (by rfl) (sretv (f := sthI) h K R.xc)
  · rw [soR_some (t := 29) e2]
    rw [soR_some (t := 29) e2] at l3
    refine jX.go (by rfl) (by rfl) (by rfl) (?_ : jX G jP 69 13 lv [] μ Q)
    refine jX.lin l2 (by rfl) (by rfl) (?_ : jX G jP 69 14 lv [.int v2] μ Q)
    rcases bif_or h with ⟨hc, h⟩ | ⟨hc, h⟩
    · refine jX.b1t hc (by rfl) (by rfl) (by rfl) (?_ : jX G jP 69 25 lv [] μ Q)
      exact jX.throw (by rfl) (sretv (f := sthI) h K R.xc)
    · refine jX.b1f hc (by rfl) (by rfl) (by rfl) (?_ : jX G jP 69 17 lv [] μ Q)
      refine jX.lin l2 (by rfl) (by rfl) (?_ : jX G jP 69 18 lv [.int v2] μ Q)
      refine jX.lrn l3 (by rfl) (by rfl) (?_ : jX G jP 69 19 lv [.ref (spl 29 a2.1 a2.2), .int v2] μ Q)
      obtain ⟨g3, h⟩ := jif_some h
      refine jX.sg R g3 (by rfl) (by rfl) (by rfl) (by rfl) (by rfl) (?_ : jX G jP 69 22 lv [.int (q1.2.1 29 a2.1 a2.2 2), .int v2] μ Q)
      rcases bif_or h with ⟨hc, h⟩ | ⟨hc, h⟩
      · refine jX.b2t hc (by rfl) (by rfl) (by rfl) (?_ : jX G jP 69 33 lv [] μ Q)
        refine jX.lrn l0 (by rfl) (by rfl) (?_ : jX G jP 69 34 lv [.ref (spl 0 0 0)] μ Q)
        refine jX.sg R (by rfl) (by rfl) (by rfl) (by rfl) (by rfl) (by rfl) (?_ : jX G jP 69 37 lv [.ref (spl 11 0 0)] μ Q)
        refine jX.lrn l3 (by rfl) (by rfl) (?_ : jX G jP 69 38 lv [.ref (spl 29 a2.1 a2.2), .ref (spl 11 0 0)] μ Q)
        refine jX.lrn l3 (by rfl) (by rfl) (?_ : jX G jP 69 39 lv [.ref (spl 29 a2.1 a2.2), .ref (spl 29 a2.1 a2.2), .ref (spl 11 0 0)] μ Q)
        refine jX.sg R g3 (by rfl) (by rfl) (by rfl) (by rfl) (by rfl) (?_ : jX G jP 69 42 lv [.int (q1.2.1 29 a2.1 a2.2 2), .ref (spl 29 a2.1 a2.2), .ref (spl 11 0 0)] μ Q)
        refine jX.ic (v := nI 1) (n := 1) (by rfl) (by rfl) (by decide) (?_ : jX G jP 69 43 lv [.int (nI 1), .int (q1.2.1 29 a2.1 a2.2 2), .ref (spl 29 a2.1 a2.2), .ref (spl 11 0 0)] μ Q)
        refine jX.go (by rfl) (by rfl) (by rfl) (?_ : jX G jP 69 44 lv [.int ((q1.2.1 29 a2.1 a2.2 2) - (nI 1)), .ref (spl 29 a2.1 a2.2), .ref (spl 11 0 0)] μ Q)
        refine jX.lin l2 (by rfl) (by rfl) (?_ : jX G jP 69 45 lv [.int v2, .int ((q1.2.1 29 a2.1 a2.2 2) - (nI 1)), .ref (spl 29 a2.1 a2.2), .ref (spl 11 0 0)] μ Q)
        refine jX.go (by rfl) (by rfl) (by rfl) (?_ : jX G jP 69 46 lv [.int (((q1.2.1 29 a2.1 a2.2 2) - (nI 1)) - v2), .ref (spl 29 a2.1 a2.2), .ref (spl 11 0 0)] μ Q)
        obtain ⟨q4, e4, h⟩ := sbd h
        refine jX.c1 (v := .int q4.1) (by rfl) (by rfl) (by rfl) (by rfl) (by rfl) (by rfl) (by rfl) (R.rec g3 (by rfl)) (Nat.le_of_ble_eq_true rfl) (Nat.le_of_ble_eq_true rfl) (F_27_ok R e4 (fun μ R => ⟨rfl, (?_ : jX G jP 69 49 lv [.int q4.1, .ref (spl 11 0 0)] μ Q)⟩))
        obtain ⟨q5, e5, h⟩ := sbd h
        refine jX.c1 (v := .int q5.1) (by rfl) (by rfl) (by rfl) (by rfl) (by rfl) (by rfl) (by rfl) (R.rec (by rfl) (by rfl)) (Nat.le_of_ble_eq_true rfl) (Nat.le_of_ble_eq_true rfl) (F_68_ok R e5 (fun μ R => ⟨rfl, (?_ : jX G jP 69 52 lv [.int q5.1] μ Q)⟩))
        exact jX.ret (by rfl) (by rfl) (by rfl) (by rfl) (sretv (f := sthI) h K R)
      · refine jX.b2f hc (by rfl) (by rfl) (by rfl) (?_ : jX G jP 69 25 lv [] μ Q)
        exact jX.throw (by rfl) (sretv (f := sthI) h K R.xc)
/-! 70 StrandRuntime.operand(II)J -/
def F_70 (G : jG) (t : Nat) (v1 : Int32) (v2 : Int32) (S : sS) : Option ((Int64 ⊕ Nat) × sS) := (F_67 G t v1 S).bind (fun q1 => sif q1.1 (some (.inr 2, sxc q1.2)) (fun a2 => bif jcmp .lt v2 0 then (some (.inr 2, sxc q1.2)) else (jif (sex q1.2.2.2.2.1 29 a2.1 a2.2) (bif jcmp .lt v2 (q1.2.1 29 a2.1 a2.2 2) then ((F_26 G t a2 (((q1.2.1 29 a2.1 a2.2 2) - (nI 1)) - v2) q1.2).bind (fun q4 => some (.inl q4.1, q4.2))) else (some (.inr 2, sxc q1.2))))))
theorem F_70_ok {G : jG} {t : Nat} {v1 : Int32} {v2 : Int32} {S : sS} {r : (Int64 ⊕ Nat)} {S' : sS} {μ : jS} {Q : Option Value ⊕ Nat → jS → Prop} (R : sR S μ) (h : F_70 G t v1 v2 S = some (r, S')) (K : ∀ μ', sR S' μ' → Q (sthL r) μ') : jX G jP 70 0 (lv_args 0 [.ref (spl 0 0 0), .int v1, .int v2]) [] μ Q := by
  unfold F_70 at h
  have l0 : jld (lv_args 0 [.ref (spl 0 0 0), .int v1, .int v2]) 0 = some (.ref (spl 0 0 0)) := by rfl
  have l1 : jld (lv_args 0 [.ref (spl 0 0 0), .int v1, .int v2]) 1 = some (.int v1) := by rfl
  have l2 : jld (lv_args 0 [.ref (spl 0 0 0), .int v1, .int v2]) 2 = some (.int v2) := by rfl
  generalize lv_args 0 [.ref (spl 0 0 0), .int v1, .int v2] = lv at *
  refine jX.lrn l0 (by rfl) (by rfl) (?_ : jX G jP 70 1 lv [.ref (spl 0 0 0)] μ Q)
  refine jX.sg R (by rfl) (by rfl) (by rfl) (by rfl) (by rfl) (by rfl) (?_ : jX G jP 70 4 lv [.ref (spl 8 0 0)] μ Q)
  refine jX.lin l1 (by rfl) (by rfl) (?_ : jX G jP 70 5 lv [.int v1, .ref (spl 8 0 0)] μ Q)
  obtain ⟨q1, e1, h⟩ := sbd h
  refine jX.c1 (v := soR 29 q1.1) (by rfl) (by rfl) (by rfl) (by rfl) (by rfl) (by rfl) (by rfl) (R.rec (by rfl) (by rfl)) (Nat.le_of_ble_eq_true rfl) (Nat.le_of_ble_eq_true rfl) (F_67_ok R e1 (fun μ R => ⟨rfl, (?_ : jX G jP 70 8 lv [soR 29 q1.1] μ Q)⟩))
  refine jX.so (k := 3) (pc' := 9) (by rfl) (by rfl) (fun _ => by rfl) (by rfl) (fun lv l3 kp => (?_ : jX G jP 70 9 lv [] μ Q))
  replace l2 := kp 2 _ l2 (by rfl) (by first | rfl | simp [soR_cat])
  refine jX.lon l3 (by rfl) (by rfl) (?_ : jX G jP 70 10 lv [soR 29 q1.1] μ Q)
  rcases sif_or h with ⟨e2, h⟩ | ⟨a2, e2, h⟩
  · rw [soR_none (t := 29) e2]
    rw [soR_none (t := 29) e2] at l3
    refine jX.go (by rfl) (by rfl) (by rfl) (?_ : jX G jP 70 25 lv [] μ Q)
    exact jX.throw (by rfl) (sretv (f := sthL) h K R.xc)
  · rw [soR_some (t := 29) e2]
    rw [soR_some (t := 29) e2] at l3
    refine jX.go (by rfl) (by rfl) (by rfl) (?_ : jX G jP 70 13 lv [] μ Q)
    refine jX.lin l2 (by rfl) (by rfl) (?_ : jX G jP 70 14 lv [.int v2] μ Q)
    rcases bif_or h with ⟨hc, h⟩ | ⟨hc, h⟩
    · refine jX.b1t hc (by rfl) (by rfl) (by rfl) (?_ : jX G jP 70 25 lv [] μ Q)
      exact jX.throw (by rfl) (sretv (f := sthL) h K R.xc)
    · refine jX.b1f hc (by rfl) (by rfl) (by rfl) (?_ : jX G jP 70 17 lv [] μ Q)
      refine jX.lin l2 (by rfl) (by rfl) (?_ : jX G jP 70 18 lv [.int v2] μ Q)
      refine jX.lrn l3 (by rfl) (by rfl) (?_ : jX G jP 70 19 lv [.ref (spl 29 a2.1 a2.2), .int v2] μ Q)
      obtain ⟨g3, h⟩ := jif_some h
      refine jX.sg R g3 (by rfl) (by rfl) (by rfl) (by rfl) (by rfl) (?_ : jX G jP 70 22 lv [.int (q1.2.1 29 a2.1 a2.2 2), .int v2] μ Q)
      rcases bif_or h with ⟨hc, h⟩ | ⟨hc, h⟩
      · refine jX.b2t hc (by rfl) (by rfl) (by rfl) (?_ : jX G jP 70 33 lv [] μ Q)
        refine jX.lrn l3 (by rfl) (by rfl) (?_ : jX G jP 70 34 lv [.ref (spl 29 a2.1 a2.2)] μ Q)
        refine jX.lrn l3 (by rfl) (by rfl) (?_ : jX G jP 70 35 lv [.ref (spl 29 a2.1 a2.2), .ref (spl 29 a2.1 a2.2)] μ Q)
        refine jX.sg R g3 (by rfl) (by rfl) (by rfl) (by rfl) (by rfl) (?_ : jX G jP 70 38 lv [.int (q1.2.1 29 a2.1 a2.2 2), .ref (spl 29 a2.1 a2.2)] μ Q)
        refine jX.ic (v := nI 1) (n := 1) (by rfl) (by rfl) (by decide) (?_ : jX G jP 70 39 lv [.int (nI 1), .int (q1.2.1 29 a2.1 a2.2 2), .ref (spl 29 a2.1 a2.2)] μ Q)
        refine jX.go (by rfl) (by rfl) (by rfl) (?_ : jX G jP 70 40 lv [.int ((q1.2.1 29 a2.1 a2.2 2) - (nI 1)), .ref (spl 29 a2.1 a2.2)] μ Q)
        refine jX.lin l2 (by rfl) (by rfl) (?_ : jX G jP 70 41 lv [.int v2, .int ((q1.2.1 29 a2.1 a2.2 2) - (nI 1)), .ref (spl 29 a2.1 a2.2)] μ Q)
        refine jX.go (by rfl) (by rfl) (by rfl) (?_ : jX G jP 70 42 lv [.int (((q1.2.1 29 a2.1 a2.2 2) - (nI 1)) - v2), .ref (spl 29 a2.1 a2.2)] μ Q)
        obtain ⟨q4, e4, h⟩ := sbd h
        refine jX.c1 (v := .long q4.1) (by rfl) (by rfl) (by rfl) (by rfl) (by rfl) (by rfl) (by rfl) (R.rec g3 (by rfl)) (Nat.le_of_ble_eq_true rfl) (Nat.le_of_ble_eq_true rfl) (F_26_ok R e4 (fun μ R => ⟨rfl, (?_ : jX G jP 70 45 lv [.long q4.1] μ Q)⟩))
        exact jX.ret (by rfl) (by rfl) (by rfl) (by rfl) (sretv (f := sthL) h K R)
      · refine jX.b2f hc (by rfl) (by rfl) (by rfl) (?_ : jX G jP 70 25 lv [] μ Q)
        exact jX.throw (by rfl) (sretv (f := sthL) h K R.xc)
/-! 71 StrandRuntime.pace(I)I -/
def F_71 (G : jG) (t : Nat) (v1 : Int32) (S : sS) : Option ((Int32 ⊕ Nat) × sS) := bif jcmp .lt v1 0 then (some (.inr 0, sxc S)) else (bif jcmp .le v1 (nI 50) then (some (.inl (S.1 23 0 0 10), (siI S 23 0 0 10 v1))) else (some (.inr 0, sxc S)))
theorem F_71_ok {G : jG} {t : Nat} {v1 : Int32} {S : sS} {r : (Int32 ⊕ Nat)} {S' : sS} {μ : jS} {Q : Option Value ⊕ Nat → jS → Prop} (R : sR S μ) (h : F_71 G t v1 S = some (r, S')) (K : ∀ μ', sR S' μ' → Q (sthI r) μ') : jX G jP 71 0 (lv_args 0 [.ref (spl 0 0 0), .int v1]) [] μ Q := by
  unfold F_71 at h
  have l0 : jld (lv_args 0 [.ref (spl 0 0 0), .int v1]) 0 = some (.ref (spl 0 0 0)) := by rfl
  have l1 : jld (lv_args 0 [.ref (spl 0 0 0), .int v1]) 1 = some (.int v1) := by rfl
  generalize lv_args 0 [.ref (spl 0 0 0), .int v1] = lv at *
  refine jX.lin l1 (by rfl) (by rfl) (?_ : jX G jP 71 1 lv [.int v1] μ Q)
  rcases bif_or h with ⟨hc, h⟩ | ⟨hc, h⟩
  · refine jX.b1t hc (by rfl) (by rfl) (by rfl) (?_ : jX G jP 71 10 lv [] μ Q)
    exact jX.throw (by rfl) (sretv (f := sthI) h K R.xc)
  · refine jX.b1f hc (by rfl) (by rfl) (by rfl) (?_ : jX G jP 71 4 lv [] μ Q)
    refine jX.lin l1 (by rfl) (by rfl) (?_ : jX G jP 71 5 lv [.int v1] μ Q)
    refine jX.ic (v := nI 50) (n := 2) (by rfl) (by rfl) (by decide) (?_ : jX G jP 71 7 lv [.int (nI 50), .int v1] μ Q)
    rcases bif_or h with ⟨hc, h⟩ | ⟨hc, h⟩
    · refine jX.b2t hc (by rfl) (by rfl) (by rfl) (?_ : jX G jP 71 18 lv [] μ Q)
      refine jX.lrn l0 (by rfl) (by rfl) (?_ : jX G jP 71 19 lv [.ref (spl 0 0 0)] μ Q)
      refine jX.sg R (by rfl) (by rfl) (by rfl) (by rfl) (by rfl) (by rfl) (?_ : jX G jP 71 22 lv [.ref (spl 23 0 0)] μ Q)
      refine jX.sg R (by rfl) (by rfl) (by rfl) (by rfl) (by rfl) (by rfl) (?_ : jX G jP 71 25 lv [.int (S.1 23 0 0 10)] μ Q)
      refine jX.s1 (k := 2) (pc' := 26) (by rfl) (by rfl) (by rfl) (fun lv l2 kp => (?_ : jX G jP 71 26 lv [] μ Q))
      replace l0 := kp 0 _ l0 (by rfl) (by first | rfl | simp [soR_cat])
      replace l1 := kp 1 _ l1 (by rfl) (by first | rfl | simp [soR_cat])
      refine jX.lrn l0 (by rfl) (by rfl) (?_ : jX G jP 71 27 lv [.ref (spl 0 0 0)] μ Q)
      refine jX.sg R (by rfl) (by rfl) (by rfl) (by rfl) (by rfl) (by rfl) (?_ : jX G jP 71 30 lv [.ref (spl 23 0 0)] μ Q)
      refine jX.lin l1 (by rfl) (by rfl) (?_ : jX G jP 71 31 lv [.int v1, .ref (spl 23 0 0)] μ Q)
      refine jX.spI R (by rfl) (by rfl) (by rfl) (by rfl) (by rfl) (by rfl) (by rfl) (by rfl) (by rfl) (fun μ R => (?_ : jX G jP 71 34 lv [] μ Q))
      refine jX.lin l2 (by rfl) (by rfl) (?_ : jX G jP 71 35 lv [.int (S.1 23 0 0 10)] μ Q)
      exact jX.ret (by rfl) (by rfl) (by rfl) (by rfl) (sretv (f := sthI) h K R)
    · refine jX.b2f hc (by rfl) (by rfl) (by rfl) (?_ : jX G jP 71 10 lv [] μ Q)
      exact jX.throw (by rfl) (sretv (f := sthI) h K R.xc)
/-! 72 StrandRuntime.quantum(I)I -/
def F_72 (G : jG) (t : Nat) (v1 : Int32) (S : sS) : Option ((Int32 ⊕ Nat) × sS) := bif jcmp .lt v1 (nI 1) then (some (.inr 0, sxc S)) else (bif jcmp .le v1 (nI 100) then (some (.inl (S.1 23 0 0 9), (siI S 23 0 0 9 v1))) else (some (.inr 0, sxc S)))
theorem F_72_ok {G : jG} {t : Nat} {v1 : Int32} {S : sS} {r : (Int32 ⊕ Nat)} {S' : sS} {μ : jS} {Q : Option Value ⊕ Nat → jS → Prop} (R : sR S μ) (h : F_72 G t v1 S = some (r, S')) (K : ∀ μ', sR S' μ' → Q (sthI r) μ') : jX G jP 72 0 (lv_args 0 [.ref (spl 0 0 0), .int v1]) [] μ Q := by
  unfold F_72 at h
  have l0 : jld (lv_args 0 [.ref (spl 0 0 0), .int v1]) 0 = some (.ref (spl 0 0 0)) := by rfl
  have l1 : jld (lv_args 0 [.ref (spl 0 0 0), .int v1]) 1 = some (.int v1) := by rfl
  generalize lv_args 0 [.ref (spl 0 0 0), .int v1] = lv at *
  refine jX.lin l1 (by rfl) (by rfl) (?_ : jX G jP 72 1 lv [.int v1] μ Q)
  refine jX.ic (v := nI 1) (n := 1) (by rfl) (by rfl) (by decide) (?_ : jX G jP 72 2 lv [.int (nI 1), .int v1] μ Q)
  rcases bif_or h with ⟨hc, h⟩ | ⟨hc, h⟩
  · refine jX.b2t hc (by rfl) (by rfl) (by rfl) (?_ : jX G jP 72 11 lv [] μ Q)
    exact jX.throw (by rfl) (sretv (f := sthI) h K R.xc)
  · refine jX.b2f hc (by rfl) (by rfl) (by rfl) (?_ : jX G jP 72 5 lv [] μ Q)
    refine jX.lin l1 (by rfl) (by rfl) (?_ : jX G jP 72 6 lv [.int v1] μ Q)
    refine jX.ic (v := nI 100) (n := 2) (by rfl) (by rfl) (by decide) (?_ : jX G jP 72 8 lv [.int (nI 100), .int v1] μ Q)
    rcases bif_or h with ⟨hc, h⟩ | ⟨hc, h⟩
    · refine jX.b2t hc (by rfl) (by rfl) (by rfl) (?_ : jX G jP 72 19 lv [] μ Q)
      refine jX.lrn l0 (by rfl) (by rfl) (?_ : jX G jP 72 20 lv [.ref (spl 0 0 0)] μ Q)
      refine jX.sg R (by rfl) (by rfl) (by rfl) (by rfl) (by rfl) (by rfl) (?_ : jX G jP 72 23 lv [.ref (spl 23 0 0)] μ Q)
      refine jX.sg R (by rfl) (by rfl) (by rfl) (by rfl) (by rfl) (by rfl) (?_ : jX G jP 72 26 lv [.int (S.1 23 0 0 9)] μ Q)
      refine jX.s1 (k := 2) (pc' := 27) (by rfl) (by rfl) (by rfl) (fun lv l2 kp => (?_ : jX G jP 72 27 lv [] μ Q))
      replace l0 := kp 0 _ l0 (by rfl) (by first | rfl | simp [soR_cat])
      replace l1 := kp 1 _ l1 (by rfl) (by first | rfl | simp [soR_cat])
      refine jX.lrn l0 (by rfl) (by rfl) (?_ : jX G jP 72 28 lv [.ref (spl 0 0 0)] μ Q)
      refine jX.sg R (by rfl) (by rfl) (by rfl) (by rfl) (by rfl) (by rfl) (?_ : jX G jP 72 31 lv [.ref (spl 23 0 0)] μ Q)
      refine jX.lin l1 (by rfl) (by rfl) (?_ : jX G jP 72 32 lv [.int v1, .ref (spl 23 0 0)] μ Q)
      refine jX.spI R (by rfl) (by rfl) (by rfl) (by rfl) (by rfl) (by rfl) (by rfl) (by rfl) (by rfl) (fun μ R => (?_ : jX G jP 72 35 lv [] μ Q))
      refine jX.lin l2 (by rfl) (by rfl) (?_ : jX G jP 72 36 lv [.int (S.1 23 0 0 9)] μ Q)
      exact jX.ret (by rfl) (by rfl) (by rfl) (by rfl) (sretv (f := sthI) h K R)
    · refine jX.b2f hc (by rfl) (by rfl) (by rfl) (?_ : jX G jP 72 11 lv [] μ Q)
      exact jX.throw (by rfl) (sretv (f := sthI) h K R.xc)
/-! 73 StrandRuntime$World.runner()LStrandRuntime$Strand; -/
def F_73 (G : jG) (t : Nat) (S : sS) : Option ((Option (Nat × Nat)) × sS) := bif jcmp .lt (S.1 8 0 0 5) 0 then (some (none, S)) else (bif jcmp .ge (S.1 8 0 0 5) (nI 16) then (some (none, S)) else (jif (jin (S.1 8 0 0 5) 16) (some (some ((S.1 8 0 0 5).toNatClampNeg, 0), S))))
theorem F_73_ok {G : jG} {t : Nat} {S : sS} {r : (Option (Nat × Nat))} {S' : sS} {μ : jS} {Q : Option Value ⊕ Nat → jS → Prop} (R : sR S μ) (h : F_73 G t S = some (r, S')) (K : ∀ μ', sR S' μ' → Q ((srO 25) r) μ') : jX G jP 73 0 (lv_args 0 [.ref (spl 8 0 0)]) [] μ Q := by
  unfold F_73 at h
  have l0 : jld (lv_args 0 [.ref (spl 8 0 0)]) 0 = some (.ref (spl 8 0 0)) := by rfl
  generalize lv_args 0 [.ref (spl 8 0 0)] = lv at *
  refine jX.lrn l0 (by rfl) (by rfl) (?_ : jX G jP 73 1 lv [.ref (spl 8 0 0)] μ Q)
  refine jX.sg R (by rfl) (by rfl) (by rfl) (by rfl) (by rfl) (by rfl) (?_ : jX G jP 73 4 lv [.int (S.1 8 0 0 5)] μ Q)
  rcases bif_or h with ⟨hc, h⟩ | ⟨hc, h⟩
  · refine jX.b1t hc (by rfl) (by rfl) (by rfl) (?_ : jX G jP 73 28 lv [] μ Q)
    refine jX.go (by rfl) (by rfl) (by rfl) (?_ : jX G jP 73 29 lv [.null] μ Q)
    exact jX.ret (by rfl) (by rfl) (by rfl) (by rfl) (sretv (f := (srO 25)) h K R)
  · refine jX.b1f hc (by rfl) (by rfl) (by rfl) (?_ : jX G jP 73 7 lv [] μ Q)
    refine jX.lrn l0 (by rfl) (by rfl) (?_ : jX G jP 73 8 lv [.ref (spl 8 0 0)] μ Q)
    refine jX.sg R (by rfl) (by rfl) (by rfl) (by rfl) (by rfl) (by rfl) (?_ : jX G jP 73 11 lv [.int (S.1 8 0 0 5)] μ Q)
    refine jX.ic (v := nI 16) (n := 2) (by rfl) (by rfl) (by decide) (?_ : jX G jP 73 13 lv [.int (nI 16), .int (S.1 8 0 0 5)] μ Q)
    rcases bif_or h with ⟨hc, h⟩ | ⟨hc, h⟩
    · refine jX.b2t hc (by rfl) (by rfl) (by rfl) (?_ : jX G jP 73 28 lv [] μ Q)
      refine jX.go (by rfl) (by rfl) (by rfl) (?_ : jX G jP 73 29 lv [.null] μ Q)
      exact jX.ret (by rfl) (by rfl) (by rfl) (by rfl) (sretv (f := (srO 25)) h K R)
    · refine jX.b2f hc (by rfl) (by rfl) (by rfl) (?_ : jX G jP 73 16 lv [] μ Q)
      refine jX.lrn l0 (by rfl) (by rfl) (?_ : jX G jP 73 17 lv [.ref (spl 8 0 0)] μ Q)
      refine jX.sg R (by rfl) (by rfl) (by rfl) (by rfl) (by rfl) (by rfl) (?_ : jX G jP 73 20 lv [.ref (spl 9 0 0)] μ Q)
      refine jX.lrn l0 (by rfl) (by rfl) (?_ : jX G jP 73 21 lv [.ref (spl 8 0 0), .ref (spl 9 0 0)] μ Q)
      refine jX.sg R (by rfl) (by rfl) (by rfl) (by rfl) (by rfl) (by rfl) (?_ : jX G jP 73 24 lv [.int (S.1 8 0 0 5), .ref (spl 9 0 0)] μ Q)
      obtain ⟨g1, h⟩ := jif_some h
      refine jX.sar (f := fun q => bif Nat.blt q 16 then some (spl 25 q 0) else none) R (by rfl) (by rfl) (by rfl) (by rfl) g1 (srf_in g1) (?_ : jX G jP 73 25 lv [.ref (spl 25 ((S.1 8 0 0 5).toNatClampNeg) 0)] μ Q)
      refine jX.go (by rfl) (by rfl) (by rfl) (?_ : jX G jP 73 29 lv [.ref (spl 25 ((S.1 8 0 0 5).toNatClampNeg) 0)] μ Q)
      exact jX.ret (by rfl) (by rfl) (by rfl) (by rfl) (sretv (f := (srO 25)) h K R)
/-! 74 StrandRuntime$Program.nextOf(LStrandRuntime$Frame;)I -/
def F_74_42 (G : jG) (t : Nat) (v1 : (Nat × Nat)) (v2 : Int32) (w0 : Int32) (S : sS) : Option (Int32 × sS) := bif jcmp .eq w0 0 then (some ((-1), S)) else (jif (jin v2 32) (jif (sex S.2.2.2.1 27 v1.1 v1.2) (some (((S.1 4 0 0 v2.toNatClampNeg) + (S.1 27 v1.1 v1.2 6)), S))))
theorem F_74_42_ok {G : jG} {t : Nat} {r : Int32} {S' : sS} {Q : Option Value ⊕ Nat → jS → Prop} (K : ∀ μ', sR S' μ' → Q (srI r) μ') : ∀ (v1 : (Nat × Nat)) (v2 : Int32) (w0 : Int32) (S : sS) (lv : jL) (μ : jS), jld lv 0 = some (.ref (spl 1 0 0)) → jld lv 1 = some (.ref (spl 27 v1.1 v1.2)) → jld lv 2 = some (.int v2) → sR S μ → F_74_42 G t v1 v2 w0 S = some (r, S') → jX G jP 74 42 lv [.int w0] μ Q := by
  intro v1 v2 w0 S lv μ l0 l1 l2 R h
  unfold F_74_42 at h
  refine jX.s1 (k := 3) (pc' := 43) (by rfl) (by rfl) (by rfl) (fun lv l3 kp => (?_ : jX G jP 74 43 lv [] μ Q))
  replace l0 := kp 0 _ l0 (by rfl) (by first | rfl | simp [soR_cat])
  replace l1 := kp 1 _ l1 (by rfl) (by first | rfl | simp [soR_cat])
  replace l2 := kp 2 _ l2 (by rfl) (by first | rfl | simp [soR_cat])
  refine jX.lin l3 (by rfl) (by rfl) (?_ : jX G jP 74 44 lv [.int w0] μ Q)
  rcases bif_or h with ⟨hc, h⟩ | ⟨hc, h⟩
  · refine jX.b1t hc (by rfl) (by rfl) (by rfl) (?_ : jX G jP 74 61 lv [] μ Q)
    refine jX.ic (v := (-1)) (n := 1) (by rfl) (by rfl) (by decide) (?_ : jX G jP 74 62 lv [.int (-1)] μ Q)
    exact jX.ret (by rfl) (by rfl) (by rfl) (by rfl) (sretv (f := srI) h K R)
  · refine jX.b1f hc (by rfl) (by rfl) (by rfl) (?_ : jX G jP 74 47 lv [] μ Q)
    refine jX.lrn l0 (by rfl) (by rfl) (?_ : jX G jP 74 48 lv [.ref (spl 1 0 0)] μ Q)
    refine jX.sg R (by rfl) (by rfl) (by rfl) (by rfl) (by rfl) (by rfl) (?_ : jX G jP 74 51 lv [.ref (spl 4 0 0)] μ Q)
    refine jX.lin l2 (by rfl) (by rfl) (?_ : jX G jP 74 52 lv [.int v2, .ref (spl 4 0 0)] μ Q)
    obtain ⟨g1, h⟩ := jif_some h
    refine jX.sai R (by rfl) (by rfl) (by rfl) (by rfl) g1 (?_ : jX G jP 74 53 lv [.int (S.1 4 0 0 v2.toNatClampNeg)] μ Q)
    refine jX.lrn l1 (by rfl) (by rfl) (?_ : jX G jP 74 54 lv [.ref (spl 27 v1.1 v1.2), .int (S.1 4 0 0 v2.toNatClampNeg)] μ Q)
    obtain ⟨g2, h⟩ := jif_some h
    refine jX.sg R g2 (by rfl) (by rfl) (by rfl) (by rfl) (by rfl) (?_ : jX G jP 74 57 lv [.int (S.1 27 v1.1 v1.2 6), .int (S.1 4 0 0 v2.toNatClampNeg)] μ Q)
    refine jX.go (by rfl) (by rfl) (by rfl) (?_ : jX G jP 74 58 lv [.int ((S.1 4 0 0 v2.toNatClampNeg) + (S.1 27 v1.1 v1.2 6))] μ Q)
    refine jX.go (by rfl) (by rfl) (by rfl) (?_ : jX G jP 74 62 lv [.int ((S.1 4 0 0 v2.toNatClampNeg) + (S.1 27 v1.1 v1.2 6))] μ Q)
    exact jX.ret (by rfl) (by rfl) (by rfl) (by rfl) (sretv (f := srI) h K R)
def F_74_41 (G : jG) (t : Nat) (v1 : (Nat × Nat)) (v2 : Int32) (S : sS) : Option (Int32 × sS) := F_74_42 G t v1 v2 (nI 0) S
theorem F_74_41_ok {G : jG} {t : Nat} {r : Int32} {S' : sS} {Q : Option Value ⊕ Nat → jS → Prop} (K : ∀ μ', sR S' μ' → Q (srI r) μ') : ∀ (v1 : (Nat × Nat)) (v2 : Int32) (S : sS) (lv : jL) (μ : jS), jld lv 0 = some (.ref (spl 1 0 0)) → jld lv 1 = some (.ref (spl 27 v1.1 v1.2)) → jld lv 2 = some (.int v2) → sR S μ → F_74_41 G t v1 v2 S = some (r, S') → jX G jP 74 41 lv [] μ Q := by
  intro v1 v2 S lv μ l0 l1 l2 R h
  unfold F_74_41 at h
  refine jX.ic (v := nI 0) (n := 1) (by rfl) (by rfl) (by decide) (?_ : jX G jP 74 42 lv [.int (nI 0)] μ Q)
  exact F_74_42_ok  K v1 v2 (nI 0) _ _ _ l0 l1 l2 R h
def F_74 (G : jG) (t : Nat) (v1 : (Nat × Nat)) (S : sS) : Option (Int32 × sS) := jif (sex S.2.2.2.1 27 v1.1 v1.2) (bif jcmp .lt (S.1 27 v1.1 v1.2 5) 0 then (F_74_41 G t v1 (S.1 27 v1.1 v1.2 5) S) else (bif jcmp .ge (S.1 27 v1.1 v1.2 5) (S.1 1 0 0 6) then (F_74_41 G t v1 (S.1 27 v1.1 v1.2 5) S) else (bif jcmp .lt (S.1 27 v1.1 v1.2 6) 0 then (F_74_41 G t v1 (S.1 27 v1.1 v1.2 5) S) else (jif (jin (S.1 27 v1.1 v1.2 5) 32) (bif jcmp .ge (S.1 27 v1.1 v1.2 6) (S.1 5 0 0 (S.1 27 v1.1 v1.2 5).toNatClampNeg) then (F_74_41 G t v1 (S.1 27 v1.1 v1.2 5) S) else (F_74_42 G t v1 (S.1 27 v1.1 v1.2 5) (nI 1) S))))))
theorem F_74_ok {G : jG} {t : Nat} {v1 : (Nat × Nat)} {S : sS} {r : Int32} {S' : sS} {μ : jS} {Q : Option Value ⊕ Nat → jS → Prop} (R : sR S μ) (h : F_74 G t v1 S = some (r, S')) (K : ∀ μ', sR S' μ' → Q (srI r) μ') : jX G jP 74 0 (lv_args 0 [.ref (spl 1 0 0), .ref (spl 27 v1.1 v1.2)]) [] μ Q := by
  unfold F_74 at h
  have l0 : jld (lv_args 0 [.ref (spl 1 0 0), .ref (spl 27 v1.1 v1.2)]) 0 = some (.ref (spl 1 0 0)) := by rfl
  have l1 : jld (lv_args 0 [.ref (spl 1 0 0), .ref (spl 27 v1.1 v1.2)]) 1 = some (.ref (spl 27 v1.1 v1.2)) := by rfl
  generalize lv_args 0 [.ref (spl 1 0 0), .ref (spl 27 v1.1 v1.2)] = lv at *
  refine jX.lrn l1 (by rfl) (by rfl) (?_ : jX G jP 74 1 lv [.ref (spl 27 v1.1 v1.2)] μ Q)
  obtain ⟨g1, h⟩ := jif_some h
  refine jX.sg R g1 (by rfl) (by rfl) (by rfl) (by rfl) (by rfl) (?_ : jX G jP 74 4 lv [.int (S.1 27 v1.1 v1.2 5)] μ Q)
  refine jX.s1 (k := 2) (pc' := 5) (by rfl) (by rfl) (by rfl) (fun lv l2 kp => (?_ : jX G jP 74 5 lv [] μ Q))
  replace l0 := kp 0 _ l0 (by rfl) (by first | rfl | simp [soR_cat])
  replace l1 := kp 1 _ l1 (by rfl) (by first | rfl | simp [soR_cat])
  refine jX.lin l2 (by rfl) (by rfl) (?_ : jX G jP 74 6 lv [.int (S.1 27 v1.1 v1.2 5)] μ Q)
  rcases bif_or h with ⟨hc, h⟩ | ⟨hc, h⟩
  · refine jX.b1t hc (by rfl) (by rfl) (by rfl) (?_ : jX G jP 74 41 lv [] μ Q)
    exact F_74_41_ok  K v1 (S.1 27 v1.1 v1.2 5) _ _ _ l0 l1 l2 R h
  · refine jX.b1f hc (by rfl) (by rfl) (by rfl) (?_ : jX G jP 74 9 lv [] μ Q)
    refine jX.lin l2 (by rfl) (by rfl) (?_ : jX G jP 74 10 lv [.int (S.1 27 v1.1 v1.2 5)] μ Q)
    refine jX.lrn l0 (by rfl) (by rfl) (?_ : jX G jP 74 11 lv [.ref (spl 1 0 0), .int (S.1 27 v1.1 v1.2 5)] μ Q)
    refine jX.sg R (by rfl) (by rfl) (by rfl) (by rfl) (by rfl) (by rfl) (?_ : jX G jP 74 14 lv [.int (S.1 1 0 0 6), .int (S.1 27 v1.1 v1.2 5)] μ Q)
    rcases bif_or h with ⟨hc, h⟩ | ⟨hc, h⟩
    · refine jX.b2t hc (by rfl) (by rfl) (by rfl) (?_ : jX G jP 74 41 lv [] μ Q)
      exact F_74_41_ok  K v1 (S.1 27 v1.1 v1.2 5) _ _ _ l0 l1 l2 R h
    · refine jX.b2f hc (by rfl) (by rfl) (by rfl) (?_ : jX G jP 74 17 lv [] μ Q)
      refine jX.lrn l1 (by rfl) (by rfl) (?_ : jX G jP 74 18 lv [.ref (spl 27 v1.1 v1.2)] μ Q)
      refine jX.sg R g1 (by rfl) (by rfl) (by rfl) (by rfl) (by rfl) (?_ : jX G jP 74 21 lv [.int (S.1 27 v1.1 v1.2 6)] μ Q)
      rcases bif_or h with ⟨hc, h⟩ | ⟨hc, h⟩
      · refine jX.b1t hc (by rfl) (by rfl) (by rfl) (?_ : jX G jP 74 41 lv [] μ Q)
        exact F_74_41_ok  K v1 (S.1 27 v1.1 v1.2 5) _ _ _ l0 l1 l2 R h
      · refine jX.b1f hc (by rfl) (by rfl) (by rfl) (?_ : jX G jP 74 24 lv [] μ Q)
        refine jX.lrn l1 (by rfl) (by rfl) (?_ : jX G jP 74 25 lv [.ref (spl 27 v1.1 v1.2)] μ Q)
        refine jX.sg R g1 (by rfl) (by rfl) (by rfl) (by rfl) (by rfl) (?_ : jX G jP 74 28 lv [.int (S.1 27 v1.1 v1.2 6)] μ Q)
        refine jX.lrn l0 (by rfl) (by rfl) (?_ : jX G jP 74 29 lv [.ref (spl 1 0 0), .int (S.1 27 v1.1 v1.2 6)] μ Q)
        refine jX.sg R (by rfl) (by rfl) (by rfl) (by rfl) (by rfl) (by rfl) (?_ : jX G jP 74 32 lv [.ref (spl 5 0 0), .int (S.1 27 v1.1 v1.2 6)] μ Q)
        refine jX.lin l2 (by rfl) (by rfl) (?_ : jX G jP 74 33 lv [.int (S.1 27 v1.1 v1.2 5), .ref (spl 5 0 0), .int (S.1 27 v1.1 v1.2 6)] μ Q)
        obtain ⟨g2, h⟩ := jif_some h
        refine jX.sai R (by rfl) (by rfl) (by rfl) (by rfl) g2 (?_ : jX G jP 74 34 lv [.int (S.1 5 0 0 (S.1 27 v1.1 v1.2 5).toNatClampNeg), .int (S.1 27 v1.1 v1.2 6)] μ Q)
        rcases bif_or h with ⟨hc, h⟩ | ⟨hc, h⟩
        · refine jX.b2t hc (by rfl) (by rfl) (by rfl) (?_ : jX G jP 74 41 lv [] μ Q)
          exact F_74_41_ok  K v1 (S.1 27 v1.1 v1.2 5) _ _ _ l0 l1 l2 R h
        · refine jX.b2f hc (by rfl) (by rfl) (by rfl) (?_ : jX G jP 74 37 lv [] μ Q)
          refine jX.ic (v := nI 1) (n := 1) (by rfl) (by rfl) (by decide) (?_ : jX G jP 74 38 lv [.int (nI 1)] μ Q)
          refine jX.go (by rfl) (by rfl) (by rfl) (?_ : jX G jP 74 42 lv [.int (nI 1)] μ Q)
          exact F_74_42_ok  K v1 (S.1 27 v1.1 v1.2 5) (nI 1) _ _ _ l0 l1 l2 R h
/-! 75 StrandRuntime$Program.takes(II)I -/
def F_75_12 (G : jG) (t : Nat) (v2 : Int32) (S : sS) : Option (Int32 × sS) := (F_17 G t v2 S).bind (fun q1 => some (q1.1, q1.2))
theorem F_75_12_ok {G : jG} {t : Nat} {r : Int32} {S' : sS} {Q : Option Value ⊕ Nat → jS → Prop} (K : ∀ μ', sR S' μ' → Q (srI r) μ') : ∀ (v2 : Int32) (S : sS) (lv : jL) (μ : jS), jld lv 0 = some (.ref (spl 1 0 0)) → jld lv 2 = some (.int v2) → sR S μ → F_75_12 G t v2 S = some (r, S') → jX G jP 75 12 lv [] μ Q := by
  intro v2 S lv μ l0 l2 R h
  unfold F_75_12 at h
  refine jX.lrn l0 (by rfl) (by rfl) (?_ : jX G jP 75 13 lv [.ref (spl 1 0 0)] μ Q)
  refine jX.lin l2 (by rfl) (by rfl) (?_ : jX G jP 75 14 lv [.int v2, .ref (spl 1 0 0)] μ Q)
  obtain ⟨q1, e1, h⟩ := sbd h
  refine jX.c1 (v := .int q1.1) (by rfl) (by rfl) (by rfl) (by rfl) (by rfl) (by rfl) (by rfl) (R.rec (by rfl) (by rfl)) (Nat.le_of_ble_eq_true rfl) (Nat.le_of_ble_eq_true rfl) (F_17_ok R e1 (fun μ R => ⟨rfl, (?_ : jX G jP 75 17 lv [.int q1.1] μ Q)⟩))
  exact jX.ret (by rfl) (by rfl) (by rfl) (by rfl) (sretv (f := srI) h K R)
def F_75 (G : jG) (t : Nat) (v1 : Int32) (v2 : Int32) (S : sS) : Option (Int32 × sS) := bif jcmp .eq v1 (nI 18) then (F_75_12 G t v2 S) else (bif jcmp .ne v1 (nI 20) then (bif jcmp .ne v1 (nI 31) then (jif (jin v1 (G 1).1) (some (((G 1).2 v1.toNatClampNeg), S))) else (some (((nI 3) * (v2 &&& (nI 7))), S))) else (F_75_12 G t v2 S))
theorem F_75_ok {G : jG} {t : Nat} {v1 : Int32} {v2 : Int32} {S : sS} {r : Int32} {S' : sS} {μ : jS} {Q : Option Value ⊕ Nat → jS → Prop} (R : sR S μ) (h : F_75 G t v1 v2 S = some (r, S')) (K : ∀ μ', sR S' μ' → Q (srI r) μ') : jX G jP 75 0 (lv_args 0 [.ref (spl 1 0 0), .int v1, .int v2]) [] μ Q := by
  unfold F_75 at h
  have l0 : jld (lv_args 0 [.ref (spl 1 0 0), .int v1, .int v2]) 0 = some (.ref (spl 1 0 0)) := by rfl
  have l1 : jld (lv_args 0 [.ref (spl 1 0 0), .int v1, .int v2]) 1 = some (.int v1) := by rfl
  have l2 : jld (lv_args 0 [.ref (spl 1 0 0), .int v1, .int v2]) 2 = some (.int v2) := by rfl
  generalize lv_args 0 [.ref (spl 1 0 0), .int v1, .int v2] = lv at *
  refine jX.lin l1 (by rfl) (by rfl) (?_ : jX G jP 75 1 lv [.int v1] μ Q)
  refine jX.ic (v := nI 18) (n := 2) (by rfl) (by rfl) (by decide) (?_ : jX G jP 75 3 lv [.int (nI 18), .int v1] μ Q)
  rcases bif_or h with ⟨hc, h⟩ | ⟨hc, h⟩
  · refine jX.b2t hc (by rfl) (by rfl) (by rfl) (?_ : jX G jP 75 12 lv [] μ Q)
    exact F_75_12_ok  K v2 _ _ _ l0 l2 R h
  · refine jX.b2f hc (by rfl) (by rfl) (by rfl) (?_ : jX G jP 75 6 lv [] μ Q)
    refine jX.lin l1 (by rfl) (by rfl) (?_ : jX G jP 75 7 lv [.int v1] μ Q)
    refine jX.ic (v := nI 20) (n := 2) (by rfl) (by rfl) (by decide) (?_ : jX G jP 75 9 lv [.int (nI 20), .int v1] μ Q)
    rcases bif_or h with ⟨hc, h⟩ | ⟨hc, h⟩
    · refine jX.b2t hc (by rfl) (by rfl) (by rfl) (?_ : jX G jP 75 18 lv [] μ Q)
      refine jX.lin l1 (by rfl) (by rfl) (?_ : jX G jP 75 19 lv [.int v1] μ Q)
      refine jX.ic (v := nI 31) (n := 2) (by rfl) (by rfl) (by decide) (?_ : jX G jP 75 21 lv [.int (nI 31), .int v1] μ Q)
      rcases bif_or h with ⟨hc, h⟩ | ⟨hc, h⟩
      · refine jX.b2t hc (by rfl) (by rfl) (by rfl) (?_ : jX G jP 75 33 lv [] μ Q)
        refine jX.go (by rfl) (by rfl) (by rfl) (?_ : jX G jP 75 36 lv [.float 1] μ Q)
        refine jX.lin l1 (by rfl) (by rfl) (?_ : jX G jP 75 37 lv [.int v1, .float 1] μ Q)
        obtain ⟨g1, h⟩ := jif_some h
        refine jX.gi g1 (by rfl) (by rfl) (?_ : jX G jP 75 38 lv [.int ((G 1).2 v1.toNatClampNeg)] μ Q)
        exact jX.ret (by rfl) (by rfl) (by rfl) (by rfl) (sretv (f := srI) h K R)
      · refine jX.b2f hc (by rfl) (by rfl) (by rfl) (?_ : jX G jP 75 24 lv [] μ Q)
        refine jX.ic (v := nI 3) (n := 1) (by rfl) (by rfl) (by decide) (?_ : jX G jP 75 25 lv [.int (nI 3)] μ Q)
        refine jX.lin l2 (by rfl) (by rfl) (?_ : jX G jP 75 26 lv [.int v2, .int (nI 3)] μ Q)
        refine jX.ic (v := nI 7) (n := 2) (by rfl) (by rfl) (by decide) (?_ : jX G jP 75 28 lv [.int (nI 7), .int v2, .int (nI 3)] μ Q)
        refine jX.go (by rfl) (by rfl) (by rfl) (?_ : jX G jP 75 29 lv [.int (v2 &&& (nI 7)), .int (nI 3)] μ Q)
        refine jX.go (by rfl) (by rfl) (by rfl) (?_ : jX G jP 75 30 lv [.int ((nI 3) * (v2 &&& (nI 7)))] μ Q)
        refine jX.go (by rfl) (by rfl) (by rfl) (?_ : jX G jP 75 38 lv [.int ((nI 3) * (v2 &&& (nI 7)))] μ Q)
        exact jX.ret (by rfl) (by rfl) (by rfl) (by rfl) (sretv (f := srI) h K R)
    · refine jX.b2f hc (by rfl) (by rfl) (by rfl) (?_ : jX G jP 75 12 lv [] μ Q)
      exact F_75_12_ok  K v2 _ _ _ l0 l2 R h
/-! 76 StrandRuntime$Row.drop(I)V -/
def F_76_19 (G : jG) (t : Nat) (w0 : Int32) (w1 : (Nat × Nat)) (S : sS) : Option (Unit × sS) := jif (sex S.2.2.2.1 29 w1.1 w1.2) (some ((), (siI S 29 w1.1 w1.2 2 w0)))
theorem F_76_19_ok {G : jG} {t : Nat} {r : Unit} {S' : sS} {Q : Option Value ⊕ Nat → jS → Prop} (K : ∀ μ', sR S' μ' → Q (srV r) μ') : ∀ (w0 : Int32) (w1 : (Nat × Nat)) (S : sS) (lv : jL) (μ : jS), sR S μ → F_76_19 G t w0 w1 S = some (r, S') → jX G jP 76 19 lv [.int w0, .ref (spl 29 w1.1 w1.2)] μ Q := by
  intro w0 w1 S lv μ R h
  unfold F_76_19 at h
  obtain ⟨g1, h⟩ := jif_some h
  refine jX.spI R g1 (by rfl) (by rfl) (by rfl) (by rfl) (by rfl) (by rfl) (by rfl) (by rfl) (fun μ R => (?_ : jX G jP 76 22 lv [] μ Q))
  exact jX.ret (by rfl) (by rfl) (by rfl) (by rfl) (sretv (f := srV) h K R)
def F_76 (G : jG) (t : Nat) (v0 : (Nat × Nat)) (v1 : Int32) (S : sS) : Option (Unit × sS) := jif (sex S.2.2.2.1 29 v0.1 v0.2) (bif jcmp .ge v1 (S.1 29 v0.1 v0.2 2) then (F_76_19 G t (nI 0) v0 S) else (F_76_19 G t ((S.1 29 v0.1 v0.2 2) - v1) v0 S))
theorem F_76_ok {G : jG} {t : Nat} {v0 : (Nat × Nat)} {v1 : Int32} {S : sS} {r : Unit} {S' : sS} {μ : jS} {Q : Option Value ⊕ Nat → jS → Prop} (R : sR S μ) (h : F_76 G t v0 v1 S = some (r, S')) (K : ∀ μ', sR S' μ' → Q (srV r) μ') : jX G jP 76 0 (lv_args 0 [.ref (spl 29 v0.1 v0.2), .int v1]) [] μ Q := by
  unfold F_76 at h
  have l0 : jld (lv_args 0 [.ref (spl 29 v0.1 v0.2), .int v1]) 0 = some (.ref (spl 29 v0.1 v0.2)) := by rfl
  have l1 : jld (lv_args 0 [.ref (spl 29 v0.1 v0.2), .int v1]) 1 = some (.int v1) := by rfl
  generalize lv_args 0 [.ref (spl 29 v0.1 v0.2), .int v1] = lv at *
  refine jX.lrn l0 (by rfl) (by rfl) (?_ : jX G jP 76 1 lv [.ref (spl 29 v0.1 v0.2)] μ Q)
  refine jX.lin l1 (by rfl) (by rfl) (?_ : jX G jP 76 2 lv [.int v1, .ref (spl 29 v0.1 v0.2)] μ Q)
  refine jX.lrn l0 (by rfl) (by rfl) (?_ : jX G jP 76 3 lv [.ref (spl 29 v0.1 v0.2), .int v1, .ref (spl 29 v0.1 v0.2)] μ Q)
  obtain ⟨g1, h⟩ := jif_some h
  refine jX.sg R g1 (by rfl) (by rfl) (by rfl) (by rfl) (by rfl) (?_ : jX G jP 76 6 lv [.int (S.1 29 v0.1 v0.2 2), .int v1, .ref (spl 29 v0.1 v0.2)] μ Q)
  rcases bif_or h with ⟨hc, h⟩ | ⟨hc, h⟩
  · refine jX.b2t hc (by rfl) (by rfl) (by rfl) (?_ : jX G jP 76 18 lv [.ref (spl 29 v0.1 v0.2)] μ Q)
    refine jX.ic (v := nI 0) (n := 1) (by rfl) (by rfl) (by decide) (?_ : jX G jP 76 19 lv [.int (nI 0), .ref (spl 29 v0.1 v0.2)] μ Q)
    exact F_76_19_ok  K (nI 0) v0 _ _ _  R h
  · refine jX.b2f hc (by rfl) (by rfl) (by rfl) (?_ : jX G jP 76 9 lv [.ref (spl 29 v0.1 v0.2)] μ Q)
    refine jX.lrn l0 (by rfl) (by rfl) (?_ : jX G jP 76 10 lv [.ref (spl 29 v0.1 v0.2), .ref (spl 29 v0.1 v0.2)] μ Q)
    refine jX.sg R g1 (by rfl) (by rfl) (by rfl) (by rfl) (by rfl) (?_ : jX G jP 76 13 lv [.int (S.1 29 v0.1 v0.2 2), .ref (spl 29 v0.1 v0.2)] μ Q)
    refine jX.lin l1 (by rfl) (by rfl) (?_ : jX G jP 76 14 lv [.int v1, .int (S.1 29 v0.1 v0.2 2), .ref (spl 29 v0.1 v0.2)] μ Q)
    refine jX.go (by rfl) (by rfl) (by rfl) (?_ : jX G jP 76 15 lv [.int ((S.1 29 v0.1 v0.2 2) - v1), .ref (spl 29 v0.1 v0.2)] μ Q)
    refine jX.go (by rfl) (by rfl) (by rfl) (?_ : jX G jP 76 19 lv [.int ((S.1 29 v0.1 v0.2 2) - v1), .ref (spl 29 v0.1 v0.2)] μ Q)
    exact F_76_19_ok  K ((S.1 29 v0.1 v0.2 2) - v1) v0 _ _ _  R h
/-! 77 StrandRuntime$Machine.enterFunction(IILStrandRuntime$Strand;LStrandRuntime$Row;)I -/
def F_77_50 (G : jG) (t : Nat) (v4 : (Nat × Nat)) (v5 : Int32) (w0 : Int32) (S : sS) : Option (Int32 × sS) := bif jcmp .ne w0 0 then (jif (sex S.2.2.2.1 29 v4.1 v4.2) ((F_76 G t v4 v5 S).bind (fun q2 => some ((nI 0), q2.2)))) else (some ((-3), S))
theorem F_77_50_ok {G : jG} {t : Nat} {r : Int32} {S' : sS} {Q : Option Value ⊕ Nat → jS → Prop} (K : ∀ μ', sR S' μ' → Q (srI r) μ') : ∀ (v4 : (Nat × Nat)) (v5 : Int32) (w0 : Int32) (S : sS) (lv : jL) (μ : jS), jld lv 4 = some (.ref (spl 29 v4.1 v4.2)) → jld lv 5 = some (.int v5) → sR S μ → F_77_50 G t v4 v5 w0 S = some (r, S') → jX G jP 77 50 lv [.int w0] μ Q := by
  intro v4 v5 w0 S lv μ l4 l5 R h
  unfold F_77_50 at h
  refine jX.s1 (k := 7) (pc' := 52) (by rfl) (by rfl) (by rfl) (fun lv l7 kp => (?_ : jX G jP 77 52 lv [] μ Q))
  replace l4 := kp 4 _ l4 (by rfl) (by first | rfl | simp [soR_cat])
  replace l5 := kp 5 _ l5 (by rfl) (by first | rfl | simp [soR_cat])
  refine jX.li l7 (by rfl) (by rfl) (?_ : jX G jP 77 54 lv [.int w0] μ Q)
  rcases bif_or h with ⟨hc, h⟩ | ⟨hc, h⟩
  · refine jX.b1t hc (by rfl) (by rfl) (by rfl) (?_ : jX G jP 77 60 lv [] μ Q)
    refine jX.lr l4 (by rfl) (by rfl) (?_ : jX G jP 77 62 lv [.ref (spl 29 v4.1 v4.2)] μ Q)
    refine jX.li l5 (by rfl) (by rfl) (?_ : jX G jP 77 64 lv [.int v5, .ref (spl 29 v4.1 v4.2)] μ Q)
    obtain ⟨g1, h⟩ := jif_some h
    obtain ⟨q2, e2, h⟩ := sbd h
    refine jX.cv (by rfl) (by rfl) (by rfl) (by rfl) (by rfl) (by rfl) (by rfl) (R.rec g1 (by rfl)) (Nat.le_of_ble_eq_true rfl) (Nat.le_of_ble_eq_true rfl) (F_76_ok R e2 (fun μ R => ⟨rfl, (?_ : jX G jP 77 67 lv [] μ Q)⟩))
    refine jX.ic (v := nI 0) (n := 1) (by rfl) (by rfl) (by decide) (?_ : jX G jP 77 68 lv [.int (nI 0)] μ Q)
    exact jX.ret (by rfl) (by rfl) (by rfl) (by rfl) (sretv (f := srI) h K R)
  · refine jX.b1f hc (by rfl) (by rfl) (by rfl) (?_ : jX G jP 77 57 lv [] μ Q)
    refine jX.ic (v := (-3)) (n := 2) (by rfl) (by rfl) (by decide) (?_ : jX G jP 77 59 lv [.int (-3)] μ Q)
    exact jX.ret (by rfl) (by rfl) (by rfl) (by rfl) (sretv (f := srI) h K R)
def F_77 (G : jG) (t : Nat) (v1 : Int32) (v2 : Int32) (v3 : (Nat × Nat)) (v4 : (Nat × Nat)) (S : sS) : Option (Int32 × sS) := (F_17 G t v2 S).bind (fun q1 => jif (sex q1.2.2.2.2.1 29 v4.1 v4.2) (bif jcmp .ne v1 (nI 18) then ((F_31 G t v2 v4 ((q1.2.1 29 v4.1 v4.2 2) - q1.1) q1.2).bind (fun q3 => F_77_50 G t v4 q1.1 q3.1 q3.2)) else (jif (sex q1.2.2.2.2.1 25 v3.1 v3.2) ((F_29 G t v3 v2 v4 ((q1.2.1 29 v4.1 v4.2 2) - q1.1) q1.2).bind (fun q5 => F_77_50 G t v4 q1.1 q5.1 q5.2)))))
theorem F_77_ok {G : jG} {t : Nat} {v1 : Int32} {v2 : Int32} {v3 : (Nat × Nat)} {v4 : (Nat × Nat)} {S : sS} {r : Int32} {S' : sS} {μ : jS} {Q : Option Value ⊕ Nat → jS → Prop} (R : sR S μ) (h : F_77 G t v1 v2 v3 v4 S = some (r, S')) (K : ∀ μ', sR S' μ' → Q (srI r) μ') : jX G jP 77 0 (lv_args 0 [.ref (spl 23 0 0), .int v1, .int v2, .ref (spl 25 v3.1 v3.2), .ref (spl 29 v4.1 v4.2)]) [] μ Q := by
  unfold F_77 at h
  have l0 : jld (lv_args 0 [.ref (spl 23 0 0), .int v1, .int v2, .ref (spl 25 v3.1 v3.2), .ref (spl 29 v4.1 v4.2)]) 0 = some (.ref (spl 23 0 0)) := by rfl
  have l1 : jld (lv_args 0 [.ref (spl 23 0 0), .int v1, .int v2, .ref (spl 25 v3.1 v3.2), .ref (spl 29 v4.1 v4.2)]) 1 = some (.int v1) := by rfl
  have l2 : jld (lv_args 0 [.ref (spl 23 0 0), .int v1, .int v2, .ref (spl 25 v3.1 v3.2), .ref (spl 29 v4.1 v4.2)]) 2 = some (.int v2) := by rfl
  have l3 : jld (lv_args 0 [.ref (spl 23 0 0), .int v1, .int v2, .ref (spl 25 v3.1 v3.2), .ref (spl 29 v4.1 v4.2)]) 3 = some (.ref (spl 25 v3.1 v3.2)) := by rfl
  have l4 : jld (lv_args 0 [.ref (spl 23 0 0), .int v1, .int v2, .ref (spl 25 v3.1 v3.2), .ref (spl 29 v4.1 v4.2)]) 4 = some (.ref (spl 29 v4.1 v4.2)) := by rfl
  generalize lv_args 0 [.ref (spl 23 0 0), .int v1, .int v2, .ref (spl 25 v3.1 v3.2), .ref (spl 29 v4.1 v4.2)] = lv at *
  refine jX.lrn l0 (by rfl) (by rfl) (?_ : jX G jP 77 1 lv [.ref (spl 23 0 0)] μ Q)
  refine jX.sg R (by rfl) (by rfl) (by rfl) (by rfl) (by rfl) (by rfl) (?_ : jX G jP 77 4 lv [.ref (spl 1 0 0)] μ Q)
  refine jX.lin l2 (by rfl) (by rfl) (?_ : jX G jP 77 5 lv [.int v2, .ref (spl 1 0 0)] μ Q)
  obtain ⟨q1, e1, h⟩ := sbd h
  refine jX.c1 (v := .int q1.1) (by rfl) (by rfl) (by rfl) (by rfl) (by rfl) (by rfl) (by rfl) (R.rec (by rfl) (by rfl)) (Nat.le_of_ble_eq_true rfl) (Nat.le_of_ble_eq_true rfl) (F_17_ok R e1 (fun μ R => ⟨rfl, (?_ : jX G jP 77 8 lv [.int q1.1] μ Q)⟩))
  refine jX.s1 (k := 5) (pc' := 10) (by rfl) (by rfl) (by rfl) (fun lv l5 kp => (?_ : jX G jP 77 10 lv [] μ Q))
  replace l0 := kp 0 _ l0 (by rfl) (by first | rfl | simp [soR_cat])
  replace l1 := kp 1 _ l1 (by rfl) (by first | rfl | simp [soR_cat])
  replace l2 := kp 2 _ l2 (by rfl) (by first | rfl | simp [soR_cat])
  replace l3 := kp 3 _ l3 (by rfl) (by first | rfl | simp [soR_cat])
  replace l4 := kp 4 _ l4 (by rfl) (by first | rfl | simp [soR_cat])
  refine jX.lr l4 (by rfl) (by rfl) (?_ : jX G jP 77 12 lv [.ref (spl 29 v4.1 v4.2)] μ Q)
  obtain ⟨g2, h⟩ := jif_some h
  refine jX.sg R g2 (by rfl) (by rfl) (by rfl) (by rfl) (by rfl) (?_ : jX G jP 77 15 lv [.int (q1.2.1 29 v4.1 v4.2 2)] μ Q)
  refine jX.li l5 (by rfl) (by rfl) (?_ : jX G jP 77 17 lv [.int q1.1, .int (q1.2.1 29 v4.1 v4.2 2)] μ Q)
  refine jX.go (by rfl) (by rfl) (by rfl) (?_ : jX G jP 77 18 lv [.int ((q1.2.1 29 v4.1 v4.2 2) - q1.1)] μ Q)
  refine jX.s1 (k := 6) (pc' := 20) (by rfl) (by rfl) (by rfl) (fun lv l6 kp => (?_ : jX G jP 77 20 lv [] μ Q))
  replace l0 := kp 0 _ l0 (by rfl) (by first | rfl | simp [soR_cat])
  replace l1 := kp 1 _ l1 (by rfl) (by first | rfl | simp [soR_cat])
  replace l2 := kp 2 _ l2 (by rfl) (by first | rfl | simp [soR_cat])
  replace l3 := kp 3 _ l3 (by rfl) (by first | rfl | simp [soR_cat])
  replace l4 := kp 4 _ l4 (by rfl) (by first | rfl | simp [soR_cat])
  replace l5 := kp 5 _ l5 (by rfl) (by first | rfl | simp [soR_cat])
  refine jX.lin l1 (by rfl) (by rfl) (?_ : jX G jP 77 21 lv [.int v1] μ Q)
  refine jX.ic (v := nI 18) (n := 2) (by rfl) (by rfl) (by decide) (?_ : jX G jP 77 23 lv [.int (nI 18), .int v1] μ Q)
  rcases bif_or h with ⟨hc, h⟩ | ⟨hc, h⟩
  · refine jX.b2t hc (by rfl) (by rfl) (by rfl) (?_ : jX G jP 77 38 lv [] μ Q)
    refine jX.lrn l0 (by rfl) (by rfl) (?_ : jX G jP 77 39 lv [.ref (spl 23 0 0)] μ Q)
    refine jX.sg R (by rfl) (by rfl) (by rfl) (by rfl) (by rfl) (by rfl) (?_ : jX G jP 77 42 lv [.ref (spl 8 0 0)] μ Q)
    refine jX.lin l2 (by rfl) (by rfl) (?_ : jX G jP 77 43 lv [.int v2, .ref (spl 8 0 0)] μ Q)
    refine jX.lr l4 (by rfl) (by rfl) (?_ : jX G jP 77 45 lv [.ref (spl 29 v4.1 v4.2), .int v2, .ref (spl 8 0 0)] μ Q)
    refine jX.li l6 (by rfl) (by rfl) (?_ : jX G jP 77 47 lv [.int ((q1.2.1 29 v4.1 v4.2 2) - q1.1), .ref (spl 29 v4.1 v4.2), .int v2, .ref (spl 8 0 0)] μ Q)
    obtain ⟨q3, e3, h⟩ := sbd h
    refine jX.c1 (v := .int q3.1) (by rfl) (by rfl) (by rfl) (by rfl) (by rfl) (by rfl) (by rfl) (R.rec (by rfl) (by rfl)) (Nat.le_of_ble_eq_true rfl) (Nat.le_of_ble_eq_true rfl) (F_31_ok R e3 (fun μ R => ⟨rfl, (?_ : jX G jP 77 50 lv [.int q3.1] μ Q)⟩))
    exact F_77_50_ok  K v4 q1.1 q3.1 _ _ _ l4 l5 R h
  · refine jX.b2f hc (by rfl) (by rfl) (by rfl) (?_ : jX G jP 77 26 lv [] μ Q)
    refine jX.lrn l3 (by rfl) (by rfl) (?_ : jX G jP 77 27 lv [.ref (spl 25 v3.1 v3.2)] μ Q)
    refine jX.lin l2 (by rfl) (by rfl) (?_ : jX G jP 77 28 lv [.int v2, .ref (spl 25 v3.1 v3.2)] μ Q)
    refine jX.lr l4 (by rfl) (by rfl) (?_ : jX G jP 77 30 lv [.ref (spl 29 v4.1 v4.2), .int v2, .ref (spl 25 v3.1 v3.2)] μ Q)
    refine jX.li l6 (by rfl) (by rfl) (?_ : jX G jP 77 32 lv [.int ((q1.2.1 29 v4.1 v4.2 2) - q1.1), .ref (spl 29 v4.1 v4.2), .int v2, .ref (spl 25 v3.1 v3.2)] μ Q)
    obtain ⟨g4, h⟩ := jif_some h
    obtain ⟨q5, e5, h⟩ := sbd h
    refine jX.c1 (v := .int q5.1) (by rfl) (by rfl) (by rfl) (by rfl) (by rfl) (by rfl) (by rfl) (R.rec g4 (by rfl)) (Nat.le_of_ble_eq_true rfl) (Nat.le_of_ble_eq_true rfl) (F_29_ok R e5 (fun μ R => ⟨rfl, (?_ : jX G jP 77 35 lv [.int q5.1] μ Q)⟩))
    refine jX.go (by rfl) (by rfl) (by rfl) (?_ : jX G jP 77 50 lv [.int q5.1] μ Q)
    exact F_77_50_ok  K v4 q1.1 q5.1 _ _ _ l4 l5 R h
/-! 78 StrandRuntime$Row.push(JI)V -/
def F_78 (G : jG) (t : Nat) (v0 : (Nat × Nat)) (v1 : Int64) (v3 : Int32) (S : sS) : Option (Unit × sS) := jif (sex S.2.2.2.1 29 v0.1 v0.2) (jif (sex S.2.2.2.1 30 v0.1 v0.2) (bif jcmp .ge (S.1 29 v0.1 v0.2 2) (Int32.ofNat (srl v0.2)) then (some ((), S)) else (jif (jin (S.1 29 v0.1 v0.2 2) (srl v0.2)) (jif (sex (siL S 30 v0.1 v0.2 (S.1 29 v0.1 v0.2 2).toNatClampNeg v1).2.2.2.1 31 v0.1 v0.2) (jif (jin ((siL S 30 v0.1 v0.2 (S.1 29 v0.1 v0.2 2).toNatClampNeg v1).1 29 v0.1 v0.2 2) (srl v0.2)) (some ((), (siI (siI (siL S 30 v0.1 v0.2 (S.1 29 v0.1 v0.2 2).toNatClampNeg v1) 31 v0.1 v0.2 ((siL S 30 v0.1 v0.2 (S.1 29 v0.1 v0.2 2).toNatClampNeg v1).1 29 v0.1 v0.2 2).toNatClampNeg v3) 29 v0.1 v0.2 2 (((siI (siL S 30 v0.1 v0.2 (S.1 29 v0.1 v0.2 2).toNatClampNeg v1) 31 v0.1 v0.2 ((siL S 30 v0.1 v0.2 (S.1 29 v0.1 v0.2 2).toNatClampNeg v1).1 29 v0.1 v0.2 2).toNatClampNeg v3).1 29 v0.1 v0.2 2) + (nI 1))))))))))
theorem F_78_ok {G : jG} {t : Nat} {v0 : (Nat × Nat)} {v1 : Int64} {v3 : Int32} {S : sS} {r : Unit} {S' : sS} {μ : jS} {Q : Option Value ⊕ Nat → jS → Prop} (R : sR S μ) (h : F_78 G t v0 v1 v3 S = some (r, S')) (K : ∀ μ', sR S' μ' → Q (srV r) μ') : jX G jP 78 0 (lv_args 0 [.ref (spl 29 v0.1 v0.2), .long v1, .int v3]) [] μ Q := by
  unfold F_78 at h
  have l0 : jld (lv_args 0 [.ref (spl 29 v0.1 v0.2), .long v1, .int v3]) 0 = some (.ref (spl 29 v0.1 v0.2)) := by rfl
  have l1 : jld (lv_args 0 [.ref (spl 29 v0.1 v0.2), .long v1, .int v3]) 1 = some (.long v1) := by rfl
  have l3 : jld (lv_args 0 [.ref (spl 29 v0.1 v0.2), .long v1, .int v3]) 3 = some (.int v3) := by rfl
  generalize lv_args 0 [.ref (spl 29 v0.1 v0.2), .long v1, .int v3] = lv at *
  refine jX.lrn l0 (by rfl) (by rfl) (?_ : jX G jP 78 1 lv [.ref (spl 29 v0.1 v0.2)] μ Q)
  obtain ⟨g1, h⟩ := jif_some h
  refine jX.sg R g1 (by rfl) (by rfl) (by rfl) (by rfl) (by rfl) (?_ : jX G jP 78 4 lv [.int (S.1 29 v0.1 v0.2 2)] μ Q)
  refine jX.lrn l0 (by rfl) (by rfl) (?_ : jX G jP 78 5 lv [.ref (spl 29 v0.1 v0.2), .int (S.1 29 v0.1 v0.2 2)] μ Q)
  refine jX.sg R g1 (by rfl) (by rfl) (by rfl) (by rfl) (by rfl) (?_ : jX G jP 78 8 lv [.ref (spl 30 v0.1 v0.2), .int (S.1 29 v0.1 v0.2 2)] μ Q)
  obtain ⟨g2, h⟩ := jif_some h
  refine jX.sln R g2 (by rfl) (by rfl) (by rfl) (?_ : jX G jP 78 9 lv [.int (Int32.ofNat (srl v0.2)), .int (S.1 29 v0.1 v0.2 2)] μ Q)
  rcases bif_or h with ⟨hc, h⟩ | ⟨hc, h⟩
  · refine jX.b2t hc (by rfl) (by rfl) (by rfl) (?_ : jX G jP 78 42 lv [] μ Q)
    exact jX.ret (by rfl) (by rfl) (by rfl) (by rfl) (sretv (f := srV) h K R)
  · refine jX.b2f hc (by rfl) (by rfl) (by rfl) (?_ : jX G jP 78 12 lv [] μ Q)
    refine jX.lrn l0 (by rfl) (by rfl) (?_ : jX G jP 78 13 lv [.ref (spl 29 v0.1 v0.2)] μ Q)
    refine jX.sg R g1 (by rfl) (by rfl) (by rfl) (by rfl) (by rfl) (?_ : jX G jP 78 16 lv [.ref (spl 30 v0.1 v0.2)] μ Q)
    refine jX.lrn l0 (by rfl) (by rfl) (?_ : jX G jP 78 17 lv [.ref (spl 29 v0.1 v0.2), .ref (spl 30 v0.1 v0.2)] μ Q)
    refine jX.sg R g1 (by rfl) (by rfl) (by rfl) (by rfl) (by rfl) (?_ : jX G jP 78 20 lv [.int (S.1 29 v0.1 v0.2 2), .ref (spl 30 v0.1 v0.2)] μ Q)
    refine jX.lln l1 (by rfl) (by rfl) (?_ : jX G jP 78 21 lv [.long v1, .int (S.1 29 v0.1 v0.2 2), .ref (spl 30 v0.1 v0.2)] μ Q)
    obtain ⟨g3, h⟩ := jif_some h
    refine jX.stl R g2 (by rfl) (by rfl) (fun _ => by rfl) g3 (fun μ R => (?_ : jX G jP 78 22 lv [] μ Q))
    refine jX.lrn l0 (by rfl) (by rfl) (?_ : jX G jP 78 23 lv [.ref (spl 29 v0.1 v0.2)] μ Q)
    refine jX.sg R g1 (by rfl) (by rfl) (by rfl) (by rfl) (by rfl) (?_ : jX G jP 78 26 lv [.ref (spl 31 v0.1 v0.2)] μ Q)
    refine jX.lrn l0 (by rfl) (by rfl) (?_ : jX G jP 78 27 lv [.ref (spl 29 v0.1 v0.2), .ref (spl 31 v0.1 v0.2)] μ Q)
    refine jX.sg R g1 (by rfl) (by rfl) (by rfl) (by rfl) (by rfl) (?_ : jX G jP 78 30 lv [.int ((siL S 30 v0.1 v0.2 (S.1 29 v0.1 v0.2 2).toNatClampNeg v1).1 29 v0.1 v0.2 2), .ref (spl 31 v0.1 v0.2)] μ Q)
    refine jX.lin l3 (by rfl) (by rfl) (?_ : jX G jP 78 31 lv [.int v3, .int ((siL S 30 v0.1 v0.2 (S.1 29 v0.1 v0.2 2).toNatClampNeg v1).1 29 v0.1 v0.2 2), .ref (spl 31 v0.1 v0.2)] μ Q)
    obtain ⟨g4, h⟩ := jif_some h
    obtain ⟨g5, h⟩ := jif_some h
    refine jX.sti R g4 (by rfl) (by rfl) (fun _ => by rfl) g5 (fun μ R => (?_ : jX G jP 78 32 lv [] μ Q))
    refine jX.lrn l0 (by rfl) (by rfl) (?_ : jX G jP 78 33 lv [.ref (spl 29 v0.1 v0.2)] μ Q)
    refine jX.go (by rfl) (by rfl) (by rfl) (?_ : jX G jP 78 34 lv [.ref (spl 29 v0.1 v0.2), .ref (spl 29 v0.1 v0.2)] μ Q)
    refine jX.sg R g1 (by rfl) (by rfl) (by rfl) (by rfl) (by rfl) (?_ : jX G jP 78 37 lv [.int ((siI (siL S 30 v0.1 v0.2 (S.1 29 v0.1 v0.2 2).toNatClampNeg v1) 31 v0.1 v0.2 ((siL S 30 v0.1 v0.2 (S.1 29 v0.1 v0.2 2).toNatClampNeg v1).1 29 v0.1 v0.2 2).toNatClampNeg v3).1 29 v0.1 v0.2 2), .ref (spl 29 v0.1 v0.2)] μ Q)
    refine jX.ic (v := nI 1) (n := 1) (by rfl) (by rfl) (by decide) (?_ : jX G jP 78 38 lv [.int (nI 1), .int ((siI (siL S 30 v0.1 v0.2 (S.1 29 v0.1 v0.2 2).toNatClampNeg v1) 31 v0.1 v0.2 ((siL S 30 v0.1 v0.2 (S.1 29 v0.1 v0.2 2).toNatClampNeg v1).1 29 v0.1 v0.2 2).toNatClampNeg v3).1 29 v0.1 v0.2 2), .ref (spl 29 v0.1 v0.2)] μ Q)
    refine jX.go (by rfl) (by rfl) (by rfl) (?_ : jX G jP 78 39 lv [.int (((siI (siL S 30 v0.1 v0.2 (S.1 29 v0.1 v0.2 2).toNatClampNeg v1) 31 v0.1 v0.2 ((siL S 30 v0.1 v0.2 (S.1 29 v0.1 v0.2 2).toNatClampNeg v1).1 29 v0.1 v0.2 2).toNatClampNeg v3).1 29 v0.1 v0.2 2) + (nI 1)), .ref (spl 29 v0.1 v0.2)] μ Q)
    refine jX.spI R g1 (by rfl) (by rfl) (by rfl) (by rfl) (by rfl) (by rfl) (by rfl) (by rfl) (fun μ R => (?_ : jX G jP 78 42 lv [] μ Q))
    exact jX.ret (by rfl) (by rfl) (by rfl) (by rfl) (sretv (f := srV) h K R)
/-! 79 StrandRuntime$Frame.end(IJI)V -/
def F_79 (G : jG) (t : Nat) (v0 : (Nat × Nat)) (v1 : Int32) (v2 : Int64) (v4 : Int32) (S : sS) : Option (Unit × sS) := jif (sex S.2.2.2.1 27 v0.1 v0.2) (jif (sex (siI S 27 v0.1 v0.2 7 v1).2.2.2.1 29 v0.1 3) ((F_78 G t (v0.1, 3) v2 v4 (siI (siI S 27 v0.1 v0.2 7 v1) 29 v0.1 3 2 (nI 0))).bind (fun q3 => some ((), q3.2))))
theorem F_79_ok {G : jG} {t : Nat} {v0 : (Nat × Nat)} {v1 : Int32} {v2 : Int64} {v4 : Int32} {S : sS} {r : Unit} {S' : sS} {μ : jS} {Q : Option Value ⊕ Nat → jS → Prop} (R : sR S μ) (h : F_79 G t v0 v1 v2 v4 S = some (r, S')) (K : ∀ μ', sR S' μ' → Q (srV r) μ') : jX G jP 79 0 (lv_args 0 [.ref (spl 27 v0.1 v0.2), .int v1, .long v2, .int v4]) [] μ Q := by
  unfold F_79 at h
  have l0 : jld (lv_args 0 [.ref (spl 27 v0.1 v0.2), .int v1, .long v2, .int v4]) 0 = some (.ref (spl 27 v0.1 v0.2)) := by rfl
  have l1 : jld (lv_args 0 [.ref (spl 27 v0.1 v0.2), .int v1, .long v2, .int v4]) 1 = some (.int v1) := by rfl
  have l2 : jld (lv_args 0 [.ref (spl 27 v0.1 v0.2), .int v1, .long v2, .int v4]) 2 = some (.long v2) := by rfl
  have l4 : jld (lv_args 0 [.ref (spl 27 v0.1 v0.2), .int v1, .long v2, .int v4]) 4 = some (.int v4) := by rfl
  generalize lv_args 0 [.ref (spl 27 v0.1 v0.2), .int v1, .long v2, .int v4] = lv at *
  refine jX.lrn l0 (by rfl) (by rfl) (?_ : jX G jP 79 1 lv [.ref (spl 27 v0.1 v0.2)] μ Q)
  refine jX.lin l1 (by rfl) (by rfl) (?_ : jX G jP 79 2 lv [.int v1, .ref (spl 27 v0.1 v0.2)] μ Q)
  obtain ⟨g1, h⟩ := jif_some h
  refine jX.spI R g1 (by rfl) (by rfl) (by rfl) (by rfl) (by rfl) (by rfl) (by rfl) (by rfl) (fun μ R => (?_ : jX G jP 79 5 lv [] μ Q))
  refine jX.lrn l0 (by rfl) (by rfl) (?_ : jX G jP 79 6 lv [.ref (spl 27 v0.1 v0.2)] μ Q)
  refine jX.sg R g1 (by rfl) (by rfl) (by rfl) (by rfl) (by rfl) (?_ : jX G jP 79 9 lv [.ref (spl 29 v0.1 3)] μ Q)
  refine jX.ic (v := nI 0) (n := 1) (by rfl) (by rfl) (by decide) (?_ : jX G jP 79 10 lv [.int (nI 0), .ref (spl 29 v0.1 3)] μ Q)
  obtain ⟨g2, h⟩ := jif_some h
  refine jX.spI R g2 (by rfl) (by rfl) (by rfl) (by rfl) (by rfl) (by rfl) (by rfl) (by rfl) (fun μ R => (?_ : jX G jP 79 13 lv [] μ Q))
  refine jX.lrn l0 (by rfl) (by rfl) (?_ : jX G jP 79 14 lv [.ref (spl 27 v0.1 v0.2)] μ Q)
  refine jX.sg R g1 (by rfl) (by rfl) (by rfl) (by rfl) (by rfl) (?_ : jX G jP 79 17 lv [.ref (spl 29 v0.1 3)] μ Q)
  refine jX.lln l2 (by rfl) (by rfl) (?_ : jX G jP 79 18 lv [.long v2, .ref (spl 29 v0.1 3)] μ Q)
  refine jX.li l4 (by rfl) (by rfl) (?_ : jX G jP 79 20 lv [.int v4, .long v2, .ref (spl 29 v0.1 3)] μ Q)
  obtain ⟨q3, e3, h⟩ := sbd h
  refine jX.cv (by rfl) (by rfl) (by rfl) (by rfl) (by rfl) (by rfl) (by rfl) (R.rec g2 (by rfl)) (Nat.le_of_ble_eq_true rfl) (Nat.le_of_ble_eq_true rfl) (F_78_ok R e3 (fun μ R => ⟨rfl, (?_ : jX G jP 79 23 lv [] μ Q)⟩))
  exact jX.ret (by rfl) (by rfl) (by rfl) (by rfl) (sretv (f := srV) h K R)
/-! 80 StrandRuntime$Strand.leave(LStrandRuntime$Frame;)V -/
def F_80_43 (G : jG) (t : Nat) (v0 : (Nat × Nat)) (v3 : Int64) (w0 : Int32) (w1 : (Nat × Nat)) (S : sS) : Option (Unit × sS) := jif (sex S.2.2.2.1 25 w1.1 w1.2) (jif (sex (siI S 25 w1.1 w1.2 4 w0).2.2.2.1 25 v0.1 v0.2) (some ((), (siL (siI S 25 w1.1 w1.2 4 w0) 25 v0.1 v0.2 7 v3))))
theorem F_80_43_ok {G : jG} {t : Nat} {r : Unit} {S' : sS} {Q : Option Value ⊕ Nat → jS → Prop} (K : ∀ μ', sR S' μ' → Q (srV r) μ') : ∀ (v0 : (Nat × Nat)) (v3 : Int64) (w0 : Int32) (w1 : (Nat × Nat)) (S : sS) (lv : jL) (μ : jS), jld lv 0 = some (.ref (spl 25 v0.1 v0.2)) → jld lv 3 = some (.long v3) → sR S μ → F_80_43 G t v0 v3 w0 w1 S = some (r, S') → jX G jP 80 43 lv [.int w0, .ref (spl 25 w1.1 w1.2)] μ Q := by
  intro v0 v3 w0 w1 S lv μ l0 l3 R h
  unfold F_80_43 at h
  obtain ⟨g1, h⟩ := jif_some h
  refine jX.spI R g1 (by rfl) (by rfl) (by rfl) (by rfl) (by rfl) (by rfl) (by rfl) (by rfl) (fun μ R => (?_ : jX G jP 80 46 lv [] μ Q))
  refine jX.lrn l0 (by rfl) (by rfl) (?_ : jX G jP 80 47 lv [.ref (spl 25 v0.1 v0.2)] μ Q)
  refine jX.lln l3 (by rfl) (by rfl) (?_ : jX G jP 80 48 lv [.long v3, .ref (spl 25 v0.1 v0.2)] μ Q)
  obtain ⟨g2, h⟩ := jif_some h
  refine jX.spL R g2 (by rfl) (by rfl) (by rfl) (by rfl) (by rfl) (by rfl) (by rfl) (by rfl) (fun μ R => (?_ : jX G jP 80 51 lv [] μ Q))
  refine jX.go (by rfl) (by rfl) (by rfl) (?_ : jX G jP 80 95 lv [] μ Q)
  exact jX.ret (by rfl) (by rfl) (by rfl) (by rfl) (sretv (f := srV) h K R)
def F_80 (G : jG) (t : Nat) (v0 : (Nat × Nat)) (v1 : (Nat × Nat)) (S : sS) : Option (Unit × sS) := jif (sex S.2.2.2.1 25 v0.1 v0.2) ((F_66 G t v0 (siI S 25 v0.1 v0.2 3 ((S.1 25 v0.1 v0.2 3) - (nI 1)))).bind (fun q2 => jif (sex q2.2.2.2.2.1 27 v1.1 v1.2) (jif (sex q2.2.2.2.2.1 29 v1.1 3) ((F_26 G t (v1.1, 3) (nI 0) q2.2).bind (fun q5 => sif q2.1 (jif (sex q5.2.2.2.2.1 27 v1.1 v1.2) (bif jcmp .ne (q5.2.1 27 v1.1 v1.2 7) (nI 2) then (F_80_43 G t v0 q5.1 (nI 5) v0 q5.2) else (F_80_43 G t v0 q5.1 (nI 6) v0 q5.2))) (fun a6 => jif (sex q5.2.2.2.2.1 27 v1.1 v1.2) (bif jcmp .ne (q5.2.1 27 v1.1 v1.2 7) (nI 2) then (jif (sex q5.2.2.2.2.1 27 a6.1 a6.2) (bif jcmp .ne (q5.2.1 27 a6.1 a6.2 7) 0 then (some ((), q5.2)) else (jif (sex q5.2.2.2.2.1 29 v1.1 3) ((F_27 G t (v1.1, 3) (nI 0) q5.2).bind (fun q11 => jif (sex q11.2.2.2.2.1 29 a6.1 1) ((F_78 G t (a6.1, 1) q5.1 q11.1 q11.2).bind (fun q13 => some ((), q13.2)))))))) else (jif (sex q5.2.2.2.2.1 27 a6.1 a6.2) ((F_79 G t a6 (nI 2) q5.1 (nI 0) q5.2).bind (fun q15 => some ((), q15.2)))))))))))
theorem F_80_ok {G : jG} {t : Nat} {v0 : (Nat × Nat)} {v1 : (Nat × Nat)} {S : sS} {r : Unit} {S' : sS} {μ : jS} {Q : Option Value ⊕ Nat → jS → Prop} (R : sR S μ) (h : F_80 G t v0 v1 S = some (r, S')) (K : ∀ μ', sR S' μ' → Q (srV r) μ') : jX G jP 80 0 (lv_args 0 [.ref (spl 25 v0.1 v0.2), .ref (spl 27 v1.1 v1.2)]) [] μ Q := by
  unfold F_80 at h
  have l0 : jld (lv_args 0 [.ref (spl 25 v0.1 v0.2), .ref (spl 27 v1.1 v1.2)]) 0 = some (.ref (spl 25 v0.1 v0.2)) := by rfl
  have l1 : jld (lv_args 0 [.ref (spl 25 v0.1 v0.2), .ref (spl 27 v1.1 v1.2)]) 1 = some (.ref (spl 27 v1.1 v1.2)) := by rfl
  generalize lv_args 0 [.ref (spl 25 v0.1 v0.2), .ref (spl 27 v1.1 v1.2)] = lv at *
  refine jX.lrn l0 (by rfl) (by rfl) (?_ : jX G jP 80 1 lv [.ref (spl 25 v0.1 v0.2)] μ Q)
  refine jX.go (by rfl) (by rfl) (by rfl) (?_ : jX G jP 80 2 lv [.ref (spl 25 v0.1 v0.2), .ref (spl 25 v0.1 v0.2)] μ Q)
  obtain ⟨g1, h⟩ := jif_some h
  refine jX.sg R g1 (by rfl) (by rfl) (by rfl) (by rfl) (by rfl) (?_ : jX G jP 80 5 lv [.int (S.1 25 v0.1 v0.2 3), .ref (spl 25 v0.1 v0.2)] μ Q)
  refine jX.ic (v := nI 1) (n := 1) (by rfl) (by rfl) (by decide) (?_ : jX G jP 80 6 lv [.int (nI 1), .int (S.1 25 v0.1 v0.2 3), .ref (spl 25 v0.1 v0.2)] μ Q)
  refine jX.go (by rfl) (by rfl) (by rfl) (?_ : jX G jP 80 7 lv [.int ((S.1 25 v0.1 v0.2 3) - (nI 1)), .ref (spl 25 v0.1 v0.2)] μ Q)
  refine jX.spI R g1 (by rfl) (by rfl) (by rfl) (by rfl) (by rfl) (by rfl) (by rfl) (by rfl) (fun μ R => (?_ : jX G jP 80 10 lv [] μ Q))
  refine jX.lrn l0 (by rfl) (by rfl) (?_ : jX G jP 80 11 lv [.ref (spl 25 v0.1 v0.2)] μ Q)
  obtain ⟨q2, e2, h⟩ := sbd h
  refine jX.c1 (v := soR 27 q2.1) (by rfl) (by rfl) (by rfl) (by rfl) (by rfl) (by rfl) (by rfl) (R.rec g1 (by rfl)) (Nat.le_of_ble_eq_true rfl) (Nat.le_of_ble_eq_true rfl) (F_66_ok R e2 (fun μ R => ⟨rfl, (?_ : jX G jP 80 14 lv [soR 27 q2.1] μ Q)⟩))
  refine jX.so (k := 2) (pc' := 15) (by rfl) (by rfl) (fun _ => by rfl) (by rfl) (fun lv l2 kp => (?_ : jX G jP 80 15 lv [] μ Q))
  replace l0 := kp 0 _ l0 (by rfl) (by first | rfl | simp [soR_cat])
  replace l1 := kp 1 _ l1 (by rfl) (by first | rfl | simp [soR_cat])
  refine jX.lrn l1 (by rfl) (by rfl) (?_ : jX G jP 80 16 lv [.ref (spl 27 v1.1 v1.2)] μ Q)
  obtain ⟨g3, h⟩ := jif_some h
  refine jX.sg R g3 (by rfl) (by rfl) (by rfl) (by rfl) (by rfl) (?_ : jX G jP 80 19 lv [.ref (spl 29 v1.1 3)] μ Q)
  refine jX.ic (v := nI 0) (n := 1) (by rfl) (by rfl) (by decide) (?_ : jX G jP 80 20 lv [.int (nI 0), .ref (spl 29 v1.1 3)] μ Q)
  obtain ⟨g4, h⟩ := jif_some h
  obtain ⟨q5, e5, h⟩ := sbd h
  refine jX.c1 (v := .long q5.1) (by rfl) (by rfl) (by rfl) (by rfl) (by rfl) (by rfl) (by rfl) (R.rec g4 (by rfl)) (Nat.le_of_ble_eq_true rfl) (Nat.le_of_ble_eq_true rfl) (F_26_ok R e5 (fun μ R => ⟨rfl, (?_ : jX G jP 80 23 lv [.long q5.1] μ Q)⟩))
  refine jX.s2 (k := 3) (pc' := 24) (by rfl) (by rfl) (by rfl) (fun lv l3 kp => (?_ : jX G jP 80 24 lv [] μ Q))
  replace l0 := kp 0 _ l0 (by rfl) (by first | rfl | simp [soR_cat])
  replace l1 := kp 1 _ l1 (by rfl) (by first | rfl | simp [soR_cat])
  replace l2 := kp 2 _ l2 (by rfl) (by first | rfl | simp [soR_cat])
  refine jX.lon l2 (by rfl) (by rfl) (?_ : jX G jP 80 25 lv [soR 27 q2.1] μ Q)
  rcases sif_or h with ⟨e6, h⟩ | ⟨a6, e6, h⟩
  · rw [soR_none (t := 27) e6]
    rw [soR_none (t := 27) e6] at l2
    refine jX.go (by rfl) (by rfl) (by rfl) (?_ : jX G jP 80 28 lv [] μ Q)
    refine jX.lrn l0 (by rfl) (by rfl) (?_ : jX G jP 80 29 lv [.ref (spl 25 v0.1 v0.2)] μ Q)
    refine jX.lrn l1 (by rfl) (by rfl) (?_ : jX G jP 80 30 lv [.ref (spl 27 v1.1 v1.2), .ref (spl 25 v0.1 v0.2)] μ Q)
    obtain ⟨g7, h⟩ := jif_some h
    refine jX.sg R g7 (by rfl) (by rfl) (by rfl) (by rfl) (by rfl) (?_ : jX G jP 80 33 lv [.int (q5.2.1 27 v1.1 v1.2 7), .ref (spl 25 v0.1 v0.2)] μ Q)
    refine jX.ic (v := nI 2) (n := 1) (by rfl) (by rfl) (by decide) (?_ : jX G jP 80 34 lv [.int (nI 2), .int (q5.2.1 27 v1.1 v1.2 7), .ref (spl 25 v0.1 v0.2)] μ Q)
    rcases bif_or h with ⟨hc, h⟩ | ⟨hc, h⟩
    · refine jX.b2t hc (by rfl) (by rfl) (by rfl) (?_ : jX G jP 80 42 lv [.ref (spl 25 v0.1 v0.2)] μ Q)
      refine jX.ic (v := nI 5) (n := 1) (by rfl) (by rfl) (by decide) (?_ : jX G jP 80 43 lv [.int (nI 5), .ref (spl 25 v0.1 v0.2)] μ Q)
      exact F_80_43_ok  K v0 q5.1 (nI 5) v0 _ _ _ l0 l3 R h
    · refine jX.b2f hc (by rfl) (by rfl) (by rfl) (?_ : jX G jP 80 37 lv [.ref (spl 25 v0.1 v0.2)] μ Q)
      refine jX.ic (v := nI 6) (n := 2) (by rfl) (by rfl) (by decide) (?_ : jX G jP 80 39 lv [.int (nI 6), .ref (spl 25 v0.1 v0.2)] μ Q)
      refine jX.go (by rfl) (by rfl) (by rfl) (?_ : jX G jP 80 43 lv [.int (nI 6), .ref (spl 25 v0.1 v0.2)] μ Q)
      exact F_80_43_ok  K v0 q5.1 (nI 6) v0 _ _ _ l0 l3 R h
  · rw [soR_some (t := 27) e6]
    rw [soR_some (t := 27) e6] at l2
    refine jX.go (by rfl) (by rfl) (by rfl) (?_ : jX G jP 80 54 lv [] μ Q)
    refine jX.lrn l1 (by rfl) (by rfl) (?_ : jX G jP 80 55 lv [.ref (spl 27 v1.1 v1.2)] μ Q)
    obtain ⟨g8, h⟩ := jif_some h
    refine jX.sg R g8 (by rfl) (by rfl) (by rfl) (by rfl) (by rfl) (?_ : jX G jP 80 58 lv [.int (q5.2.1 27 v1.1 v1.2 7)] μ Q)
    refine jX.ic (v := nI 2) (n := 1) (by rfl) (by rfl) (by decide) (?_ : jX G jP 80 59 lv [.int (nI 2), .int (q5.2.1 27 v1.1 v1.2 7)] μ Q)
    rcases bif_or h with ⟨hc, h⟩ | ⟨hc, h⟩
    · refine jX.b2t hc (by rfl) (by rfl) (by rfl) (?_ : jX G jP 80 72 lv [] μ Q)
      refine jX.lrn l2 (by rfl) (by rfl) (?_ : jX G jP 80 73 lv [.ref (spl 27 a6.1 a6.2)] μ Q)
      obtain ⟨g9, h⟩ := jif_some h
      refine jX.sg R g9 (by rfl) (by rfl) (by rfl) (by rfl) (by rfl) (?_ : jX G jP 80 76 lv [.int (q5.2.1 27 a6.1 a6.2 7)] μ Q)
      rcases bif_or h with ⟨hc, h⟩ | ⟨hc, h⟩
      · refine jX.b1t hc (by rfl) (by rfl) (by rfl) (?_ : jX G jP 80 95 lv [] μ Q)
        exact jX.ret (by rfl) (by rfl) (by rfl) (by rfl) (sretv (f := srV) h K R)
      · refine jX.b1f hc (by rfl) (by rfl) (by rfl) (?_ : jX G jP 80 79 lv [] μ Q)
        refine jX.lrn l2 (by rfl) (by rfl) (?_ : jX G jP 80 80 lv [.ref (spl 27 a6.1 a6.2)] μ Q)
        refine jX.sg R g9 (by rfl) (by rfl) (by rfl) (by rfl) (by rfl) (?_ : jX G jP 80 83 lv [.ref (spl 29 a6.1 1)] μ Q)
        refine jX.lln l3 (by rfl) (by rfl) (?_ : jX G jP 80 84 lv [.long q5.1, .ref (spl 29 a6.1 1)] μ Q)
        refine jX.lrn l1 (by rfl) (by rfl) (?_ : jX G jP 80 85 lv [.ref (spl 27 v1.1 v1.2), .long q5.1, .ref (spl 29 a6.1 1)] μ Q)
        refine jX.sg R g8 (by rfl) (by rfl) (by rfl) (by rfl) (by rfl) (?_ : jX G jP 80 88 lv [.ref (spl 29 v1.1 3), .long q5.1, .ref (spl 29 a6.1 1)] μ Q)
        refine jX.ic (v := nI 0) (n := 1) (by rfl) (by rfl) (by decide) (?_ : jX G jP 80 89 lv [.int (nI 0), .ref (spl 29 v1.1 3), .long q5.1, .ref (spl 29 a6.1 1)] μ Q)
        obtain ⟨g10, h⟩ := jif_some h
        obtain ⟨q11, e11, h⟩ := sbd h
        refine jX.c1 (v := .int q11.1) (by rfl) (by rfl) (by rfl) (by rfl) (by rfl) (by rfl) (by rfl) (R.rec g10 (by rfl)) (Nat.le_of_ble_eq_true rfl) (Nat.le_of_ble_eq_true rfl) (F_27_ok R e11 (fun μ R => ⟨rfl, (?_ : jX G jP 80 92 lv [.int q11.1, .long q5.1, .ref (spl 29 a6.1 1)] μ Q)⟩))
        obtain ⟨g12, h⟩ := jif_some h
        obtain ⟨q13, e13, h⟩ := sbd h
        refine jX.cv (by rfl) (by rfl) (by rfl) (by rfl) (by rfl) (by rfl) (by rfl) (R.rec g12 (by rfl)) (Nat.le_of_ble_eq_true rfl) (Nat.le_of_ble_eq_true rfl) (F_78_ok R e13 (fun μ R => ⟨rfl, (?_ : jX G jP 80 95 lv [] μ Q)⟩))
        exact jX.ret (by rfl) (by rfl) (by rfl) (by rfl) (sretv (f := srV) h K R)
    · refine jX.b2f hc (by rfl) (by rfl) (by rfl) (?_ : jX G jP 80 62 lv [] μ Q)
      refine jX.lrn l2 (by rfl) (by rfl) (?_ : jX G jP 80 63 lv [.ref (spl 27 a6.1 a6.2)] μ Q)
      refine jX.ic (v := nI 2) (n := 1) (by rfl) (by rfl) (by decide) (?_ : jX G jP 80 64 lv [.int (nI 2), .ref (spl 27 a6.1 a6.2)] μ Q)
      refine jX.lln l3 (by rfl) (by rfl) (?_ : jX G jP 80 65 lv [.long q5.1, .int (nI 2), .ref (spl 27 a6.1 a6.2)] μ Q)
      refine jX.ic (v := nI 0) (n := 1) (by rfl) (by rfl) (by decide) (?_ : jX G jP 80 66 lv [.int (nI 0), .long q5.1, .int (nI 2), .ref (spl 27 a6.1 a6.2)] μ Q)
      obtain ⟨g14, h⟩ := jif_some h
      obtain ⟨q15, e15, h⟩ := sbd h
      refine jX.cv (by rfl) (by rfl) (by rfl) (by rfl) (by rfl) (by rfl) (by rfl) (R.rec g14 (by rfl)) (Nat.le_of_ble_eq_true rfl) (Nat.le_of_ble_eq_true rfl) (F_79_ok R e15 (fun μ R => ⟨rfl, (?_ : jX G jP 80 69 lv [] μ Q)⟩))
      refine jX.go (by rfl) (by rfl) (by rfl) (?_ : jX G jP 80 95 lv [] μ Q)
      exact jX.ret (by rfl) (by rfl) (by rfl) (by rfl) (sretv (f := srV) h K R)
/-! 81 StrandRuntime$Strand.finish(IJI)V -/
def F_81_128 (G : jG) (t : Nat) (k23 : (Nat × Nat) → Int32 → sS → Option (Unit × sS)) (v0 : (Nat × Nat)) (v6 : Int32) (S : sS) : Option (Unit × sS) := k23 v0 (v6 + Int32.ofInt 1) S
theorem F_81_128_ok {G : jG} {t : Nat} {k23 : (Nat × Nat) → Int32 → sS → Option (Unit × sS)} {r : Unit} {S' : sS} {Q : Option Value ⊕ Nat → jS → Prop} (hk23 : ∀ (v0 : (Nat × Nat)) (v6 : Int32) (S : sS) (lv : jL) (μ : jS), jld lv 0 = some (.ref (spl 25 v0.1 v0.2)) → jld lv 6 = some (.int v6) → sR S μ → k23 v0 v6 S = some (r, S') → jX G jP 81 23 lv [] μ Q) (K : ∀ μ', sR S' μ' → Q (srV r) μ') : ∀ (v0 : (Nat × Nat)) (v6 : Int32) (S : sS) (lv : jL) (μ : jS), jld lv 0 = some (.ref (spl 25 v0.1 v0.2)) → jld lv 6 = some (.int v6) → sR S μ → F_81_128 G t k23 v0 v6 S = some (r, S') → jX G jP 81 128 lv [] μ Q := by
  intro v0 v6 S lv μ l0 l6 R h
  unfold F_81_128 at h
  refine jX.inc l6 (by rfl) (by rfl) (by rfl) (fun lv l6 kp => (?_ : jX G jP 81 131 lv [] μ Q))
  replace l0 := kp 0 _ l0 (by rfl) (by first | rfl | simp [soR_cat])
  refine jX.go (by rfl) (by rfl) (by rfl) (?_ : jX G jP 81 23 lv [] μ Q)
  exact hk23 v0 (v6 + Int32.ofInt 1) _ _ _ l0 l6 R h
def F_81_23 (G : jG) (t : Nat) : Nat → (Nat × Nat) → Int32 → sS → Option (Unit × sS)
  | 0 => fun _ _ _ => none
  | tt + 1 => fun v0 v6 S => bif jcmp .gt v6 (nI 210) then (some ((), S)) else (jif (sex S.2.2.2.1 25 v0.1 v0.2) ((F_66 G t v0 S).bind (fun q2 => sif q2.1 (some ((), q2.2)) (fun a3 => jif (sex q2.2.2.2.2.1 27 a3.1 a3.2) (bif jcmp .ne (q2.2.1 27 a3.1 a3.2 7) 0 then (jif (sex q2.2.2.2.2.1 29 a3.1 2) (bif jcmp .ne (q2.2.1 29 a3.1 2 2) 0 then (jif (sex q2.2.2.2.2.1 28 a3.1 0) (jif (jin ((q2.2.1 29 a3.1 2 2) - (nI 1)) 6) (jif (sex q2.2.2.2.2.1 25 v0.1 v0.2) ((F_29 G t v0 (q2.2.1 28 a3.1 0 ((q2.2.1 29 a3.1 2 2) - (nI 1)).toNatClampNeg) (a3.1, 2) ((q2.2.1 29 a3.1 2 2) - (nI 1)) q2.2).bind (fun q9 => jif (sex q9.2.2.2.2.1 27 a3.1 a3.2) (jif (sex q9.2.2.2.2.1 29 a3.1 2) ((F_76 G t (a3.1, 2) (nI 1) q9.2).bind (fun q12 => bif jcmp .ne q9.1 0 then (F_81_128 G t (F_81_23 G t tt) v0 v6 q12.2) else (jif (sex q12.2.2.2.2.1 27 a3.1 a3.2) ((F_79 G t a3 (nI 2) (-3) (nI 0) q12.2).bind (fun q14 => F_81_128 G t (F_81_23 G t tt) v0 v6 q14.2))))))))))) else (jif (sex q2.2.2.2.2.1 25 v0.1 v0.2) ((F_80 G t v0 a3 q2.2).bind (fun q16 => F_81_128 G t (F_81_23 G t tt) v0 v6 q16.2))))) else (some ((), q2.2)))))))
theorem F_81_23_ok {G : jG} {t : Nat} {r : Unit} {S' : sS} {Q : Option Value ⊕ Nat → jS → Prop} (K : ∀ μ', sR S' μ' → Q (srV r) μ') : ∀ tt : Nat, ∀ (v0 : (Nat × Nat)) (v6 : Int32) (S : sS) (lv : jL) (μ : jS), jld lv 0 = some (.ref (spl 25 v0.1 v0.2)) → jld lv 6 = some (.int v6) → sR S μ → F_81_23 G t tt v0 v6 S = some (r, S') → jX G jP 81 23 lv [] μ Q := by
  intro tt
  induction tt with
  | zero =>
    intro v0 v6 S lv μ l0 l6 R h
    rw [F_81_23] at h
    cases h
  | succ tt ih =>
    intro v0 v6 S lv μ l0 l6 R h
    rw [F_81_23] at h
    refine jX.li l6 (by rfl) (by rfl) (?_ : jX G jP 81 25 lv [.int v6] μ Q)
    refine jX.ic (v := nI 210) (n := 3) (by rfl) (by rfl) (by decide) (?_ : jX G jP 81 28 lv [.int (nI 210), .int v6] μ Q)
    rcases bif_or h with ⟨hc, h⟩ | ⟨hc, h⟩
    · refine jX.b2t hc (by rfl) (by rfl) (by rfl) (?_ : jX G jP 81 134 lv [] μ Q)
      exact jX.ret (by rfl) (by rfl) (by rfl) (by rfl) (sretv (f := srV) h K R)
    · refine jX.b2f hc (by rfl) (by rfl) (by rfl) (?_ : jX G jP 81 31 lv [] μ Q)
      refine jX.lrn l0 (by rfl) (by rfl) (?_ : jX G jP 81 32 lv [.ref (spl 25 v0.1 v0.2)] μ Q)
      obtain ⟨g1, h⟩ := jif_some h
      obtain ⟨q2, e2, h⟩ := sbd h
      refine jX.c1 (v := soR 27 q2.1) (by rfl) (by rfl) (by rfl) (by rfl) (by rfl) (by rfl) (by rfl) (R.rec g1 (by rfl)) (Nat.le_of_ble_eq_true rfl) (Nat.le_of_ble_eq_true rfl) (F_66_ok R e2 (fun μ R => ⟨rfl, (?_ : jX G jP 81 35 lv [soR 27 q2.1] μ Q)⟩))
      refine jX.so (k := 7) (pc' := 37) (by rfl) (by rfl) (fun _ => by rfl) (by rfl) (fun lv l7 kp => (?_ : jX G jP 81 37 lv [] μ Q))
      replace l0 := kp 0 _ l0 (by rfl) (by first | rfl | simp [soR_cat])
      replace l6 := kp 6 _ l6 (by rfl) (by first | rfl | simp [soR_cat])
      refine jX.lo l7 (by rfl) (by rfl) (?_ : jX G jP 81 39 lv [soR 27 q2.1] μ Q)
      rcases sif_or h with ⟨e3, h⟩ | ⟨a3, e3, h⟩
      · rw [soR_none (t := 27) e3]
        rw [soR_none (t := 27) e3] at l7
        refine jX.go (by rfl) (by rfl) (by rfl) (?_ : jX G jP 81 50 lv [] μ Q)
        exact jX.ret (by rfl) (by rfl) (by rfl) (by rfl) (sretv (f := srV) h K R)
      · rw [soR_some (t := 27) e3]
        rw [soR_some (t := 27) e3] at l7
        refine jX.go (by rfl) (by rfl) (by rfl) (?_ : jX G jP 81 42 lv [] μ Q)
        refine jX.lr l7 (by rfl) (by rfl) (?_ : jX G jP 81 44 lv [.ref (spl 27 a3.1 a3.2)] μ Q)
        obtain ⟨g4, h⟩ := jif_some h
        refine jX.sg R g4 (by rfl) (by rfl) (by rfl) (by rfl) (by rfl) (?_ : jX G jP 81 47 lv [.int (q2.2.1 27 a3.1 a3.2 7)] μ Q)
        rcases bif_or h with ⟨hc, h⟩ | ⟨hc, h⟩
        · refine jX.b1t hc (by rfl) (by rfl) (by rfl) (?_ : jX G jP 81 51 lv [] μ Q)
          refine jX.lr l7 (by rfl) (by rfl) (?_ : jX G jP 81 53 lv [.ref (spl 27 a3.1 a3.2)] μ Q)
          refine jX.sg R g4 (by rfl) (by rfl) (by rfl) (by rfl) (by rfl) (?_ : jX G jP 81 56 lv [.ref (spl 29 a3.1 2)] μ Q)
          obtain ⟨g5, h⟩ := jif_some h
          refine jX.sg R g5 (by rfl) (by rfl) (by rfl) (by rfl) (by rfl) (?_ : jX G jP 81 59 lv [.int (q2.2.1 29 a3.1 2 2)] μ Q)
          rcases bif_or h with ⟨hc, h⟩ | ⟨hc, h⟩
          · refine jX.b1t hc (by rfl) (by rfl) (by rfl) (?_ : jX G jP 81 71 lv [] μ Q)
            refine jX.lr l7 (by rfl) (by rfl) (?_ : jX G jP 81 73 lv [.ref (spl 27 a3.1 a3.2)] μ Q)
            refine jX.sg R g4 (by rfl) (by rfl) (by rfl) (by rfl) (by rfl) (?_ : jX G jP 81 76 lv [.ref (spl 29 a3.1 2)] μ Q)
            refine jX.sg R g5 (by rfl) (by rfl) (by rfl) (by rfl) (by rfl) (?_ : jX G jP 81 79 lv [.int (q2.2.1 29 a3.1 2 2)] μ Q)
            refine jX.ic (v := nI 1) (n := 1) (by rfl) (by rfl) (by decide) (?_ : jX G jP 81 80 lv [.int (nI 1), .int (q2.2.1 29 a3.1 2 2)] μ Q)
            refine jX.go (by rfl) (by rfl) (by rfl) (?_ : jX G jP 81 81 lv [.int ((q2.2.1 29 a3.1 2 2) - (nI 1))] μ Q)
            refine jX.s1 (k := 8) (pc' := 83) (by rfl) (by rfl) (by rfl) (fun lv l8 kp => (?_ : jX G jP 81 83 lv [] μ Q))
            replace l0 := kp 0 _ l0 (by rfl) (by first | rfl | simp [soR_cat])
            replace l6 := kp 6 _ l6 (by rfl) (by first | rfl | simp [soR_cat])
            replace l7 := kp 7 _ l7 (by rfl) (by first | rfl | simp [soR_cat])
            refine jX.lrn l0 (by rfl) (by rfl) (?_ : jX G jP 81 84 lv [.ref (spl 25 v0.1 v0.2)] μ Q)
            refine jX.lr l7 (by rfl) (by rfl) (?_ : jX G jP 81 86 lv [.ref (spl 27 a3.1 a3.2), .ref (spl 25 v0.1 v0.2)] μ Q)
            refine jX.sg R g4 (by rfl) (by rfl) (by rfl) (by rfl) (by rfl) (?_ : jX G jP 81 89 lv [.ref (spl 28 a3.1 0), .ref (spl 25 v0.1 v0.2)] μ Q)
            refine jX.li l8 (by rfl) (by rfl) (?_ : jX G jP 81 91 lv [.int ((q2.2.1 29 a3.1 2 2) - (nI 1)), .ref (spl 28 a3.1 0), .ref (spl 25 v0.1 v0.2)] μ Q)
            obtain ⟨g6, h⟩ := jif_some h
            obtain ⟨g7, h⟩ := jif_some h
            refine jX.sai R g6 (by rfl) (by rfl) (by rfl) g7 (?_ : jX G jP 81 92 lv [.int (q2.2.1 28 a3.1 0 ((q2.2.1 29 a3.1 2 2) - (nI 1)).toNatClampNeg), .ref (spl 25 v0.1 v0.2)] μ Q)
            refine jX.lr l7 (by rfl) (by rfl) (?_ : jX G jP 81 94 lv [.ref (spl 27 a3.1 a3.2), .int (q2.2.1 28 a3.1 0 ((q2.2.1 29 a3.1 2 2) - (nI 1)).toNatClampNeg), .ref (spl 25 v0.1 v0.2)] μ Q)
            refine jX.sg R g4 (by rfl) (by rfl) (by rfl) (by rfl) (by rfl) (?_ : jX G jP 81 97 lv [.ref (spl 29 a3.1 2), .int (q2.2.1 28 a3.1 0 ((q2.2.1 29 a3.1 2 2) - (nI 1)).toNatClampNeg), .ref (spl 25 v0.1 v0.2)] μ Q)
            refine jX.li l8 (by rfl) (by rfl) (?_ : jX G jP 81 99 lv [.int ((q2.2.1 29 a3.1 2 2) - (nI 1)), .ref (spl 29 a3.1 2), .int (q2.2.1 28 a3.1 0 ((q2.2.1 29 a3.1 2 2) - (nI 1)).toNatClampNeg), .ref (spl 25 v0.1 v0.2)] μ Q)
            obtain ⟨g8, h⟩ := jif_some h
            obtain ⟨q9, e9, h⟩ := sbd h
            refine jX.c1 (v := .int q9.1) (by rfl) (by rfl) (by rfl) (by rfl) (by rfl) (by rfl) (by rfl) (R.rec g8 (by rfl)) (Nat.le_of_ble_eq_true rfl) (Nat.le_of_ble_eq_true rfl) (F_29_ok R e9 (fun μ R => ⟨rfl, (?_ : jX G jP 81 102 lv [.int q9.1] μ Q)⟩))
            refine jX.s1 (k := 9) (pc' := 104) (by rfl) (by rfl) (by rfl) (fun lv l9 kp => (?_ : jX G jP 81 104 lv [] μ Q))
            replace l0 := kp 0 _ l0 (by rfl) (by first | rfl | simp [soR_cat])
            replace l6 := kp 6 _ l6 (by rfl) (by first | rfl | simp [soR_cat])
            replace l7 := kp 7 _ l7 (by rfl) (by first | rfl | simp [soR_cat])
            refine jX.lr l7 (by rfl) (by rfl) (?_ : jX G jP 81 106 lv [.ref (spl 27 a3.1 a3.2)] μ Q)
            obtain ⟨g10, h⟩ := jif_some h
            refine jX.sg R g10 (by rfl) (by rfl) (by rfl) (by rfl) (by rfl) (?_ : jX G jP 81 109 lv [.ref (spl 29 a3.1 2)] μ Q)
            refine jX.ic (v := nI 1) (n := 1) (by rfl) (by rfl) (by decide) (?_ : jX G jP 81 110 lv [.int (nI 1), .ref (spl 29 a3.1 2)] μ Q)
            obtain ⟨g11, h⟩ := jif_some h
            obtain ⟨q12, e12, h⟩ := sbd h
            refine jX.cv (by rfl) (by rfl) (by rfl) (by rfl) (by rfl) (by rfl) (by rfl) (R.rec g11 (by rfl)) (Nat.le_of_ble_eq_true rfl) (Nat.le_of_ble_eq_true rfl) (F_76_ok R e12 (fun μ R => ⟨rfl, (?_ : jX G jP 81 113 lv [] μ Q)⟩))
            refine jX.li l9 (by rfl) (by rfl) (?_ : jX G jP 81 115 lv [.int q9.1] μ Q)
            rcases bif_or h with ⟨hc, h⟩ | ⟨hc, h⟩
            · refine jX.b1t hc (by rfl) (by rfl) (by rfl) (?_ : jX G jP 81 128 lv [] μ Q)
              exact F_81_128_ok ih K v0 v6 _ _ _ l0 l6 R h
            · refine jX.b1f hc (by rfl) (by rfl) (by rfl) (?_ : jX G jP 81 118 lv [] μ Q)
              refine jX.lr l7 (by rfl) (by rfl) (?_ : jX G jP 81 120 lv [.ref (spl 27 a3.1 a3.2)] μ Q)
              refine jX.ic (v := nI 2) (n := 1) (by rfl) (by rfl) (by decide) (?_ : jX G jP 81 121 lv [.int (nI 2), .ref (spl 27 a3.1 a3.2)] μ Q)
              refine jX.go (by rfl) (by rfl) (by rfl) (?_ : jX G jP 81 124 lv [.long (-3), .int (nI 2), .ref (spl 27 a3.1 a3.2)] μ Q)
              refine jX.ic (v := nI 0) (n := 1) (by rfl) (by rfl) (by decide) (?_ : jX G jP 81 125 lv [.int (nI 0), .long (-3), .int (nI 2), .ref (spl 27 a3.1 a3.2)] μ Q)
              obtain ⟨g13, h⟩ := jif_some h
              obtain ⟨q14, e14, h⟩ := sbd h
              refine jX.cv (by rfl) (by rfl) (by rfl) (by rfl) (by rfl) (by rfl) (by rfl) (R.rec g13 (by rfl)) (Nat.le_of_ble_eq_true rfl) (Nat.le_of_ble_eq_true rfl) (F_79_ok R e14 (fun μ R => ⟨rfl, (?_ : jX G jP 81 128 lv [] μ Q)⟩))
              exact F_81_128_ok ih K v0 v6 _ _ _ l0 l6 R h
          · refine jX.b1f hc (by rfl) (by rfl) (by rfl) (?_ : jX G jP 81 62 lv [] μ Q)
            refine jX.lrn l0 (by rfl) (by rfl) (?_ : jX G jP 81 63 lv [.ref (spl 25 v0.1 v0.2)] μ Q)
            refine jX.lr l7 (by rfl) (by rfl) (?_ : jX G jP 81 65 lv [.ref (spl 27 a3.1 a3.2), .ref (spl 25 v0.1 v0.2)] μ Q)
            obtain ⟨g15, h⟩ := jif_some h
            obtain ⟨q16, e16, h⟩ := sbd h
            refine jX.cv (by rfl) (by rfl) (by rfl) (by rfl) (by rfl) (by rfl) (by rfl) (R.rec g15 (by rfl)) (Nat.le_of_ble_eq_true rfl) (Nat.le_of_ble_eq_true rfl) (F_80_ok R e16 (fun μ R => ⟨rfl, (?_ : jX G jP 81 68 lv [] μ Q)⟩))
            refine jX.go (by rfl) (by rfl) (by rfl) (?_ : jX G jP 81 128 lv [] μ Q)
            exact F_81_128_ok ih K v0 v6 _ _ _ l0 l6 R h
        · refine jX.b1f hc (by rfl) (by rfl) (by rfl) (?_ : jX G jP 81 50 lv [] μ Q)
          exact jX.ret (by rfl) (by rfl) (by rfl) (by rfl) (sretv (f := srV) h K R)
def F_81_20 (G : jG) (t : Nat) (v0 : (Nat × Nat)) (S : sS) : Option (Unit × sS) := F_81_23 G t t v0 (nI 0) S
theorem F_81_20_ok {G : jG} {t : Nat} {r : Unit} {S' : sS} {Q : Option Value ⊕ Nat → jS → Prop} (K : ∀ μ', sR S' μ' → Q (srV r) μ') : ∀ (v0 : (Nat × Nat)) (S : sS) (lv : jL) (μ : jS), jld lv 0 = some (.ref (spl 25 v0.1 v0.2)) → sR S μ → F_81_20 G t v0 S = some (r, S') → jX G jP 81 20 lv [] μ Q := by
  intro v0 S lv μ l0 R h
  unfold F_81_20 at h
  refine jX.ic (v := nI 0) (n := 1) (by rfl) (by rfl) (by decide) (?_ : jX G jP 81 21 lv [.int (nI 0)] μ Q)
  refine jX.s1 (k := 6) (pc' := 23) (by rfl) (by rfl) (by rfl) (fun lv l6 kp => (?_ : jX G jP 81 23 lv [] μ Q))
  replace l0 := kp 0 _ l0 (by rfl) (by first | rfl | simp [soR_cat])
  exact F_81_23_ok  K _ v0 (nI 0) _ _ _ l0 l6 R h
def F_81 (G : jG) (t : Nat) (v0 : (Nat × Nat)) (v1 : Int32) (v2 : Int64) (v4 : Int32) (S : sS) : Option (Unit × sS) := jif (sex S.2.2.2.1 25 v0.1 v0.2) ((F_66 G t v0 S).bind (fun q2 => sif q2.1 (F_81_20 G t v0 q2.2) (fun a3 => jif (sex q2.2.2.2.2.1 27 a3.1 a3.2) ((F_79 G t a3 v1 v2 v4 q2.2).bind (fun q5 => F_81_20 G t v0 q5.2)))))
theorem F_81_ok {G : jG} {t : Nat} {v0 : (Nat × Nat)} {v1 : Int32} {v2 : Int64} {v4 : Int32} {S : sS} {r : Unit} {S' : sS} {μ : jS} {Q : Option Value ⊕ Nat → jS → Prop} (R : sR S μ) (h : F_81 G t v0 v1 v2 v4 S = some (r, S')) (K : ∀ μ', sR S' μ' → Q (srV r) μ') : jX G jP 81 0 (lv_args 0 [.ref (spl 25 v0.1 v0.2), .int v1, .long v2, .int v4]) [] μ Q := by
  unfold F_81 at h
  have l0 : jld (lv_args 0 [.ref (spl 25 v0.1 v0.2), .int v1, .long v2, .int v4]) 0 = some (.ref (spl 25 v0.1 v0.2)) := by rfl
  have l1 : jld (lv_args 0 [.ref (spl 25 v0.1 v0.2), .int v1, .long v2, .int v4]) 1 = some (.int v1) := by rfl
  have l2 : jld (lv_args 0 [.ref (spl 25 v0.1 v0.2), .int v1, .long v2, .int v4]) 2 = some (.long v2) := by rfl
  have l4 : jld (lv_args 0 [.ref (spl 25 v0.1 v0.2), .int v1, .long v2, .int v4]) 4 = some (.int v4) := by rfl
  generalize lv_args 0 [.ref (spl 25 v0.1 v0.2), .int v1, .long v2, .int v4] = lv at *
  refine jX.lrn l0 (by rfl) (by rfl) (?_ : jX G jP 81 1 lv [.ref (spl 25 v0.1 v0.2)] μ Q)
  obtain ⟨g1, h⟩ := jif_some h
  obtain ⟨q2, e2, h⟩ := sbd h
  refine jX.c1 (v := soR 27 q2.1) (by rfl) (by rfl) (by rfl) (by rfl) (by rfl) (by rfl) (by rfl) (R.rec g1 (by rfl)) (Nat.le_of_ble_eq_true rfl) (Nat.le_of_ble_eq_true rfl) (F_66_ok R e2 (fun μ R => ⟨rfl, (?_ : jX G jP 81 4 lv [soR 27 q2.1] μ Q)⟩))
  refine jX.so (k := 5) (pc' := 6) (by rfl) (by rfl) (fun _ => by rfl) (by rfl) (fun lv l5 kp => (?_ : jX G jP 81 6 lv [] μ Q))
  replace l0 := kp 0 _ l0 (by rfl) (by first | rfl | simp [soR_cat])
  replace l1 := kp 1 _ l1 (by rfl) (by first | rfl | simp [soR_cat])
  replace l2 := kp 2 _ l2 (by rfl) (by first | rfl | simp [soR_cat])
  replace l4 := kp 4 _ l4 (by rfl) (by first | rfl | simp [soR_cat])
  refine jX.lo l5 (by rfl) (by rfl) (?_ : jX G jP 81 8 lv [soR 27 q2.1] μ Q)
  rcases sif_or h with ⟨e3, h⟩ | ⟨a3, e3, h⟩
  · rw [soR_none (t := 27) e3]
    rw [soR_none (t := 27) e3] at l5
    refine jX.go (by rfl) (by rfl) (by rfl) (?_ : jX G jP 81 20 lv [] μ Q)
    exact F_81_20_ok  K v0 _ _ _ l0 R h
  · rw [soR_some (t := 27) e3]
    rw [soR_some (t := 27) e3] at l5
    refine jX.go (by rfl) (by rfl) (by rfl) (?_ : jX G jP 81 11 lv [] μ Q)
    refine jX.lr l5 (by rfl) (by rfl) (?_ : jX G jP 81 13 lv [.ref (spl 27 a3.1 a3.2)] μ Q)
    refine jX.lin l1 (by rfl) (by rfl) (?_ : jX G jP 81 14 lv [.int v1, .ref (spl 27 a3.1 a3.2)] μ Q)
    refine jX.lln l2 (by rfl) (by rfl) (?_ : jX G jP 81 15 lv [.long v2, .int v1, .ref (spl 27 a3.1 a3.2)] μ Q)
    refine jX.li l4 (by rfl) (by rfl) (?_ : jX G jP 81 17 lv [.int v4, .long v2, .int v1, .ref (spl 27 a3.1 a3.2)] μ Q)
    obtain ⟨g4, h⟩ := jif_some h
    obtain ⟨q5, e5, h⟩ := sbd h
    refine jX.cv (by rfl) (by rfl) (by rfl) (by rfl) (by rfl) (by rfl) (by rfl) (R.rec g4 (by rfl)) (Nat.le_of_ble_eq_true rfl) (Nat.le_of_ble_eq_true rfl) (F_79_ok R e5 (fun μ R => ⟨rfl, (?_ : jX G jP 81 20 lv [] μ Q)⟩))
    exact F_81_20_ok  K v0 _ _ _ l0 R h
/-! 82 StrandRuntime$Thing.cellsOf(II)I -/
def F_82 (G : jG) (t : Nat) (v0 : Int32) (v1 : Int32) (S : sS) : Option (Int32 × sS) := bif jcmp .ne v0 (nI 2) then (some (((nI 3) + v1), S)) else (some (((nI 2) + v1), S))
theorem F_82_ok {G : jG} {t : Nat} {v0 : Int32} {v1 : Int32} {S : sS} {r : Int32} {S' : sS} {μ : jS} {Q : Option Value ⊕ Nat → jS → Prop} (R : sR S μ) (h : F_82 G t v0 v1 S = some (r, S')) (K : ∀ μ', sR S' μ' → Q (srI r) μ') : jX G jP 82 0 (lv_args 0 [.int v0, .int v1]) [] μ Q := by
  unfold F_82 at h
  have l0 : jld (lv_args 0 [.int v0, .int v1]) 0 = some (.int v0) := by rfl
  have l1 : jld (lv_args 0 [.int v0, .int v1]) 1 = some (.int v1) := by rfl
  generalize lv_args 0 [.int v0, .int v1] = lv at *
  refine jX.lin l0 (by rfl) (by rfl) (?_ : jX G jP 82 1 lv [.int v0] μ Q)
  refine jX.ic (v := nI 2) (n := 1) (by rfl) (by rfl) (by decide) (?_ : jX G jP 82 2 lv [.int (nI 2), .int v0] μ Q)
  rcases bif_or h with ⟨hc, h⟩ | ⟨hc, h⟩
  · refine jX.b2t hc (by rfl) (by rfl) (by rfl) (?_ : jX G jP 82 11 lv [] μ Q)
    refine jX.ic (v := nI 3) (n := 1) (by rfl) (by rfl) (by decide) (?_ : jX G jP 82 12 lv [.int (nI 3)] μ Q)
    refine jX.lin l1 (by rfl) (by rfl) (?_ : jX G jP 82 13 lv [.int v1, .int (nI 3)] μ Q)
    refine jX.go (by rfl) (by rfl) (by rfl) (?_ : jX G jP 82 14 lv [.int ((nI 3) + v1)] μ Q)
    exact jX.ret (by rfl) (by rfl) (by rfl) (by rfl) (sretv (f := srI) h K R)
  · refine jX.b2f hc (by rfl) (by rfl) (by rfl) (?_ : jX G jP 82 5 lv [] μ Q)
    refine jX.ic (v := nI 2) (n := 1) (by rfl) (by rfl) (by decide) (?_ : jX G jP 82 6 lv [.int (nI 2)] μ Q)
    refine jX.lin l1 (by rfl) (by rfl) (?_ : jX G jP 82 7 lv [.int v1, .int (nI 2)] μ Q)
    refine jX.go (by rfl) (by rfl) (by rfl) (?_ : jX G jP 82 8 lv [.int ((nI 2) + v1)] μ Q)
    refine jX.go (by rfl) (by rfl) (by rfl) (?_ : jX G jP 82 14 lv [.int ((nI 2) + v1)] μ Q)
    exact jX.ret (by rfl) (by rfl) (by rfl) (by rfl) (sretv (f := srI) h K R)
/-! 83 StrandRuntime$Heap.hasCellsFor(II)Z -/
def F_83 (G : jG) (t : Nat) (v1 : Int32) (v2 : Int32) (S : sS) : Option (Int32 × sS) := (F_82 G t v1 v2 S).bind (fun q1 => bif jcmp .gt ((S.1 11 0 0 9) + q1.1) (nI 1200) then (some ((nI 0), q1.2)) else (bif jcmp .le (q1.2.1 11 0 0 7) 0 then (some ((nI 0), q1.2)) else (some ((nI 1), q1.2))))
theorem F_83_ok {G : jG} {t : Nat} {v1 : Int32} {v2 : Int32} {S : sS} {r : Int32} {S' : sS} {μ : jS} {Q : Option Value ⊕ Nat → jS → Prop} (R : sR S μ) (h : F_83 G t v1 v2 S = some (r, S')) (K : ∀ μ', sR S' μ' → Q (srI r) μ') : jX G jP 83 0 (lv_args 0 [.ref (spl 11 0 0), .int v1, .int v2]) [] μ Q := by
  unfold F_83 at h
  have l0 : jld (lv_args 0 [.ref (spl 11 0 0), .int v1, .int v2]) 0 = some (.ref (spl 11 0 0)) := by rfl
  have l1 : jld (lv_args 0 [.ref (spl 11 0 0), .int v1, .int v2]) 1 = some (.int v1) := by rfl
  have l2 : jld (lv_args 0 [.ref (spl 11 0 0), .int v1, .int v2]) 2 = some (.int v2) := by rfl
  generalize lv_args 0 [.ref (spl 11 0 0), .int v1, .int v2] = lv at *
  refine jX.lrn l0 (by rfl) (by rfl) (?_ : jX G jP 83 1 lv [.ref (spl 11 0 0)] μ Q)
  refine jX.sg R (by rfl) (by rfl) (by rfl) (by rfl) (by rfl) (by rfl) (?_ : jX G jP 83 4 lv [.int (S.1 11 0 0 9)] μ Q)
  refine jX.lin l1 (by rfl) (by rfl) (?_ : jX G jP 83 5 lv [.int v1, .int (S.1 11 0 0 9)] μ Q)
  refine jX.lin l2 (by rfl) (by rfl) (?_ : jX G jP 83 6 lv [.int v2, .int v1, .int (S.1 11 0 0 9)] μ Q)
  obtain ⟨q1, e1, h⟩ := sbd h
  refine jX.c1 (v := .int q1.1) (by rfl) (by rfl) (by rfl) (by rfl) (by rfl) (by rfl) (by rfl) (by rfl) (Nat.le_of_ble_eq_true rfl) (Nat.le_of_ble_eq_true rfl) (F_82_ok R e1 (fun μ R => ⟨rfl, (?_ : jX G jP 83 9 lv [.int q1.1, .int (S.1 11 0 0 9)] μ Q)⟩))
  refine jX.go (by rfl) (by rfl) (by rfl) (?_ : jX G jP 83 10 lv [.int ((S.1 11 0 0 9) + q1.1)] μ Q)
  refine jX.ic (v := nI 1200) (n := 3) (by rfl) (by rfl) (by decide) (?_ : jX G jP 83 13 lv [.int (nI 1200), .int ((S.1 11 0 0 9) + q1.1)] μ Q)
  rcases bif_or h with ⟨hc, h⟩ | ⟨hc, h⟩
  · refine jX.b2t hc (by rfl) (by rfl) (by rfl) (?_ : jX G jP 83 27 lv [] μ Q)
    refine jX.ic (v := nI 0) (n := 1) (by rfl) (by rfl) (by decide) (?_ : jX G jP 83 28 lv [.int (nI 0)] μ Q)
    exact jX.ret (by rfl) (by rfl) (by rfl) (by rfl) (sretv (f := srI) h K R)
  · refine jX.b2f hc (by rfl) (by rfl) (by rfl) (?_ : jX G jP 83 16 lv [] μ Q)
    refine jX.lrn l0 (by rfl) (by rfl) (?_ : jX G jP 83 17 lv [.ref (spl 11 0 0)] μ Q)
    refine jX.sg R (by rfl) (by rfl) (by rfl) (by rfl) (by rfl) (by rfl) (?_ : jX G jP 83 20 lv [.int (q1.2.1 11 0 0 7)] μ Q)
    rcases bif_or h with ⟨hc, h⟩ | ⟨hc, h⟩
    · refine jX.b1t hc (by rfl) (by rfl) (by rfl) (?_ : jX G jP 83 27 lv [] μ Q)
      refine jX.ic (v := nI 0) (n := 1) (by rfl) (by rfl) (by decide) (?_ : jX G jP 83 28 lv [.int (nI 0)] μ Q)
      exact jX.ret (by rfl) (by rfl) (by rfl) (by rfl) (sretv (f := srI) h K R)
    · refine jX.b1f hc (by rfl) (by rfl) (by rfl) (?_ : jX G jP 83 23 lv [] μ Q)
      refine jX.ic (v := nI 1) (n := 1) (by rfl) (by rfl) (by decide) (?_ : jX G jP 83 24 lv [.int (nI 1)] μ Q)
      refine jX.go (by rfl) (by rfl) (by rfl) (?_ : jX G jP 83 28 lv [.int (nI 1)] μ Q)
      exact jX.ret (by rfl) (by rfl) (by rfl) (by rfl) (sretv (f := srI) h K R)
/-! 85 StrandRuntime$Thing.become(II)V -/
def F_85_38 (G : jG) (t : Nat) (w0 : Int32) (w1 : (Nat × Nat)) (S : sS) : Option (Unit × sS) := jif (sex S.2.2.2.1 29 w1.1 w1.2) ((F_3 G t w1 w0 S).bind (fun q2 => some ((), q2.2)))
theorem F_85_38_ok {G : jG} {t : Nat} {r : Unit} {S' : sS} {Q : Option Value ⊕ Nat → jS → Prop} (K : ∀ μ', sR S' μ' → Q (srV r) μ') : ∀ (w0 : Int32) (w1 : (Nat × Nat)) (S : sS) (lv : jL) (μ : jS), sR S μ → F_85_38 G t w0 w1 S = some (r, S') → jX G jP 85 38 lv [.int w0, .ref (spl 29 w1.1 w1.2)] μ Q := by
  intro w0 w1 S lv μ R h
  unfold F_85_38 at h
  obtain ⟨g1, h⟩ := jif_some h
  obtain ⟨q2, e2, h⟩ := sbd h
  refine jX.cv (by rfl) (by rfl) (by rfl) (by rfl) (by rfl) (by rfl) (by rfl) (R.rec g1 (by rfl)) (Nat.le_of_ble_eq_true rfl) (Nat.le_of_ble_eq_true rfl) (F_3_ok R e2 (fun μ R => ⟨rfl, (?_ : jX G jP 85 41 lv [] μ Q)⟩))
  exact jX.ret (by rfl) (by rfl) (by rfl) (by rfl) (sretv (f := srV) h K R)
def F_85 (G : jG) (t : Nat) (v0 : (Nat × Nat)) (v1 : Int32) (v2 : Int32) (S : sS) : Option (Unit × sS) := jif (sex S.2.2.2.1 32 v0.1 v0.2) ((F_82 G t v1 v2 (siI (siI S 32 v0.1 v0.2 1 v1) 32 v0.1 v0.2 2 v2)).bind (fun q2 => jif (sex q2.2.2.2.2.1 32 v0.1 v0.2) (bif jcmp .ne v1 (nI 2) then (F_85_38 G t (nI 0) (v0.1, 4) (siI (siI q2.2 32 v0.1 v0.2 3 q2.1) 32 v0.1 v0.2 4 (nI 0))) else (F_85_38 G t v2 (v0.1, 4) (siI (siI q2.2 32 v0.1 v0.2 3 q2.1) 32 v0.1 v0.2 4 (nI 0))))))
theorem F_85_ok {G : jG} {t : Nat} {v0 : (Nat × Nat)} {v1 : Int32} {v2 : Int32} {S : sS} {r : Unit} {S' : sS} {μ : jS} {Q : Option Value ⊕ Nat → jS → Prop} (R : sR S μ) (h : F_85 G t v0 v1 v2 S = some (r, S')) (K : ∀ μ', sR S' μ' → Q (srV r) μ') : jX G jP 85 0 (lv_args 0 [.ref (spl 32 v0.1 v0.2), .int v1, .int v2]) [] μ Q := by
  unfold F_85 at h
  have l0 : jld (lv_args 0 [.ref (spl 32 v0.1 v0.2), .int v1, .int v2]) 0 = some (.ref (spl 32 v0.1 v0.2)) := by rfl
  have l1 : jld (lv_args 0 [.ref (spl 32 v0.1 v0.2), .int v1, .int v2]) 1 = some (.int v1) := by rfl
  have l2 : jld (lv_args 0 [.ref (spl 32 v0.1 v0.2), .int v1, .int v2]) 2 = some (.int v2) := by rfl
  generalize lv_args 0 [.ref (spl 32 v0.1 v0.2), .int v1, .int v2] = lv at *
  refine jX.lrn l0 (by rfl) (by rfl) (?_ : jX G jP 85 1 lv [.ref (spl 32 v0.1 v0.2)] μ Q)
  refine jX.lin l1 (by rfl) (by rfl) (?_ : jX G jP 85 2 lv [.int v1, .ref (spl 32 v0.1 v0.2)] μ Q)
  obtain ⟨g1, h⟩ := jif_some h
  refine jX.spI R g1 (by rfl) (by rfl) (by rfl) (by rfl) (by rfl) (by rfl) (by rfl) (by rfl) (fun μ R => (?_ : jX G jP 85 5 lv [] μ Q))
  refine jX.lrn l0 (by rfl) (by rfl) (?_ : jX G jP 85 6 lv [.ref (spl 32 v0.1 v0.2)] μ Q)
  refine jX.lin l2 (by rfl) (by rfl) (?_ : jX G jP 85 7 lv [.int v2, .ref (spl 32 v0.1 v0.2)] μ Q)
  refine jX.spI R g1 (by rfl) (by rfl) (by rfl) (by rfl) (by rfl) (by rfl) (by rfl) (by rfl) (fun μ R => (?_ : jX G jP 85 10 lv [] μ Q))
  refine jX.lrn l0 (by rfl) (by rfl) (?_ : jX G jP 85 11 lv [.ref (spl 32 v0.1 v0.2)] μ Q)
  refine jX.lin l1 (by rfl) (by rfl) (?_ : jX G jP 85 12 lv [.int v1, .ref (spl 32 v0.1 v0.2)] μ Q)
  refine jX.lin l2 (by rfl) (by rfl) (?_ : jX G jP 85 13 lv [.int v2, .int v1, .ref (spl 32 v0.1 v0.2)] μ Q)
  obtain ⟨q2, e2, h⟩ := sbd h
  refine jX.c1 (v := .int q2.1) (by rfl) (by rfl) (by rfl) (by rfl) (by rfl) (by rfl) (by rfl) (by rfl) (Nat.le_of_ble_eq_true rfl) (Nat.le_of_ble_eq_true rfl) (F_82_ok R e2 (fun μ R => ⟨rfl, (?_ : jX G jP 85 16 lv [.int q2.1, .ref (spl 32 v0.1 v0.2)] μ Q)⟩))
  obtain ⟨g3, h⟩ := jif_some h
  refine jX.spI R g3 (by rfl) (by rfl) (by rfl) (by rfl) (by rfl) (by rfl) (by rfl) (by rfl) (fun μ R => (?_ : jX G jP 85 19 lv [] μ Q))
  refine jX.lrn l0 (by rfl) (by rfl) (?_ : jX G jP 85 20 lv [.ref (spl 32 v0.1 v0.2)] μ Q)
  refine jX.ic (v := nI 0) (n := 1) (by rfl) (by rfl) (by decide) (?_ : jX G jP 85 21 lv [.int (nI 0), .ref (spl 32 v0.1 v0.2)] μ Q)
  refine jX.spI R g3 (by rfl) (by rfl) (by rfl) (by rfl) (by rfl) (by rfl) (by rfl) (by rfl) (fun μ R => (?_ : jX G jP 85 24 lv [] μ Q))
  refine jX.lrn l0 (by rfl) (by rfl) (?_ : jX G jP 85 25 lv [.ref (spl 32 v0.1 v0.2)] μ Q)
  refine jX.sg R g3 (by rfl) (by rfl) (by rfl) (by rfl) (by rfl) (?_ : jX G jP 85 28 lv [.ref (spl 29 v0.1 4)] μ Q)
  refine jX.lin l1 (by rfl) (by rfl) (?_ : jX G jP 85 29 lv [.int v1, .ref (spl 29 v0.1 4)] μ Q)
  refine jX.ic (v := nI 2) (n := 1) (by rfl) (by rfl) (by decide) (?_ : jX G jP 85 30 lv [.int (nI 2), .int v1, .ref (spl 29 v0.1 4)] μ Q)
  rcases bif_or h with ⟨hc, h⟩ | ⟨hc, h⟩
  · refine jX.b2t hc (by rfl) (by rfl) (by rfl) (?_ : jX G jP 85 37 lv [.ref (spl 29 v0.1 4)] μ Q)
    refine jX.ic (v := nI 0) (n := 1) (by rfl) (by rfl) (by decide) (?_ : jX G jP 85 38 lv [.int (nI 0), .ref (spl 29 v0.1 4)] μ Q)
    exact F_85_38_ok  K (nI 0) (v0.1, 4) _ _ _  R h
  · refine jX.b2f hc (by rfl) (by rfl) (by rfl) (?_ : jX G jP 85 33 lv [.ref (spl 29 v0.1 4)] μ Q)
    refine jX.lin l2 (by rfl) (by rfl) (?_ : jX G jP 85 34 lv [.int v2, .ref (spl 29 v0.1 4)] μ Q)
    refine jX.go (by rfl) (by rfl) (by rfl) (?_ : jX G jP 85 38 lv [.int v2, .ref (spl 29 v0.1 4)] μ Q)
    exact F_85_38_ok  K v2 (v0.1, 4) _ _ _  R h
/-! 86 StrandRuntime$Heap.make(II)I -/
def F_86_117 (G : jG) (t : Nat) (v3 : Int32) (v4 : (Nat × Nat)) (w0 : Int32) (w1 : Int32) (w2 : (Nat × Nat)) (S : sS) : Option (Int32 × sS) := jif (sex S.2.2.2.1 16 w2.1 w2.2) (jif (jin w1 600) (jif (sex (siI S 16 w2.1 w2.2 w1.toNatClampNeg w0).2.2.2.1 32 v4.1 v4.2) (some ((v3 + (nI 2)), (siI (siI (siI (siI (siI S 16 w2.1 w2.2 w1.toNatClampNeg w0) 11 0 0 9 (((siI S 16 w2.1 w2.2 w1.toNatClampNeg w0).1 11 0 0 9) + ((siI S 16 w2.1 w2.2 w1.toNatClampNeg w0).1 32 v4.1 v4.2 3))) 11 0 0 13 (((siI (siI S 16 w2.1 w2.2 w1.toNatClampNeg w0) 11 0 0 9 (((siI S 16 w2.1 w2.2 w1.toNatClampNeg w0).1 11 0 0 9) + ((siI S 16 w2.1 w2.2 w1.toNatClampNeg w0).1 32 v4.1 v4.2 3))).1 11 0 0 13) + ((siI (siI S 16 w2.1 w2.2 w1.toNatClampNeg w0) 11 0 0 9 (((siI S 16 w2.1 w2.2 w1.toNatClampNeg w0).1 11 0 0 9) + ((siI S 16 w2.1 w2.2 w1.toNatClampNeg w0).1 32 v4.1 v4.2 3))).1 32 v4.1 v4.2 3))) 11 0 0 8 (((siI (siI (siI S 16 w2.1 w2.2 w1.toNatClampNeg w0) 11 0 0 9 (((siI S 16 w2.1 w2.2 w1.toNatClampNeg w0).1 11 0 0 9) + ((siI S 16 w2.1 w2.2 w1.toNatClampNeg w0).1 32 v4.1 v4.2 3))) 11 0 0 13 (((siI (siI S 16 w2.1 w2.2 w1.toNatClampNeg w0) 11 0 0 9 (((siI S 16 w2.1 w2.2 w1.toNatClampNeg w0).1 11 0 0 9) + ((siI S 16 w2.1 w2.2 w1.toNatClampNeg w0).1 32 v4.1 v4.2 3))).1 11 0 0 13) + ((siI (siI S 16 w2.1 w2.2 w1.toNatClampNeg w0) 11 0 0 9 (((siI S 16 w2.1 w2.2 w1.toNatClampNeg w0).1 11 0 0 9) + ((siI S 16 w2.1 w2.2 w1.toNatClampNeg w0).1 32 v4.1 v4.2 3))).1 32 v4.1 v4.2 3))).1 11 0 0 8) + (nI 1))) 11 0 0 10 (((siI (siI (siI (siI S 16 w2.1 w2.2 w1.toNatClampNeg w0) 11 0 0 9 (((siI S 16 w2.1 w2.2 w1.toNatClampNeg w0).1 11 0 0 9) + ((siI S 16 w2.1 w2.2 w1.toNatClampNeg w0).1 32 v4.1 v4.2 3))) 11 0 0 13 (((siI (siI S 16 w2.1 w2.2 w1.toNatClampNeg w0) 11 0 0 9 (((siI S 16 w2.1 w2.2 w1.toNatClampNeg w0).1 11 0 0 9) + ((siI S 16 w2.1 w2.2 w1.toNatClampNeg w0).1 32 v4.1 v4.2 3))).1 11 0 0 13) + ((siI (siI S 16 w2.1 w2.2 w1.toNatClampNeg w0) 11 0 0 9 (((siI S 16 w2.1 w2.2 w1.toNatClampNeg w0).1 11 0 0 9) + ((siI S 16 w2.1 w2.2 w1.toNatClampNeg w0).1 32 v4.1 v4.2 3))).1 32 v4.1 v4.2 3))) 11 0 0 8 (((siI (siI (siI S 16 w2.1 w2.2 w1.toNatClampNeg w0) 11 0 0 9 (((siI S 16 w2.1 w2.2 w1.toNatClampNeg w0).1 11 0 0 9) + ((siI S 16 w2.1 w2.2 w1.toNatClampNeg w0).1 32 v4.1 v4.2 3))) 11 0 0 13 (((siI (siI S 16 w2.1 w2.2 w1.toNatClampNeg w0) 11 0 0 9 (((siI S 16 w2.1 w2.2 w1.toNatClampNeg w0).1 11 0 0 9) + ((siI S 16 w2.1 w2.2 w1.toNatClampNeg w0).1 32 v4.1 v4.2 3))).1 11 0 0 13) + ((siI (siI S 16 w2.1 w2.2 w1.toNatClampNeg w0) 11 0 0 9 (((siI S 16 w2.1 w2.2 w1.toNatClampNeg w0).1 11 0 0 9) + ((siI S 16 w2.1 w2.2 w1.toNatClampNeg w0).1 32 v4.1 v4.2 3))).1 32 v4.1 v4.2 3))).1 11 0 0 8) + (nI 1))).1 11 0 0 10) + (nI 1)))))))
theorem F_86_117_ok {G : jG} {t : Nat} {r : Int32} {S' : sS} {Q : Option Value ⊕ Nat → jS → Prop} (K : ∀ μ', sR S' μ' → Q (srI r) μ') : ∀ (v3 : Int32) (v4 : (Nat × Nat)) (w0 : Int32) (w1 : Int32) (w2 : (Nat × Nat)) (S : sS) (lv : jL) (μ : jS), jld lv 0 = some (.ref (spl 11 0 0)) → jld lv 3 = some (.int v3) → jld lv 4 = some (.ref (spl 32 v4.1 v4.2)) → sR S μ → F_86_117 G t v3 v4 w0 w1 w2 S = some (r, S') → jX G jP 86 117 lv [.int w0, .int w1, .ref (spl 16 w2.1 w2.2)] μ Q := by
  intro v3 v4 w0 w1 w2 S lv μ l0 l3 l4 R h
  unfold F_86_117 at h
  obtain ⟨g1, h⟩ := jif_some h
  obtain ⟨g2, h⟩ := jif_some h
  refine jX.sti R g1 (by rfl) (by rfl) (fun _ => by rfl) g2 (fun μ R => (?_ : jX G jP 86 118 lv [] μ Q))
  refine jX.lrn l0 (by rfl) (by rfl) (?_ : jX G jP 86 119 lv [.ref (spl 11 0 0)] μ Q)
  refine jX.go (by rfl) (by rfl) (by rfl) (?_ : jX G jP 86 120 lv [.ref (spl 11 0 0), .ref (spl 11 0 0)] μ Q)
  refine jX.sg R (by rfl) (by rfl) (by rfl) (by rfl) (by rfl) (by rfl) (?_ : jX G jP 86 123 lv [.int ((siI S 16 w2.1 w2.2 w1.toNatClampNeg w0).1 11 0 0 9), .ref (spl 11 0 0)] μ Q)
  refine jX.lr l4 (by rfl) (by rfl) (?_ : jX G jP 86 125 lv [.ref (spl 32 v4.1 v4.2), .int ((siI S 16 w2.1 w2.2 w1.toNatClampNeg w0).1 11 0 0 9), .ref (spl 11 0 0)] μ Q)
  obtain ⟨g3, h⟩ := jif_some h
  refine jX.sg R g3 (by rfl) (by rfl) (by rfl) (by rfl) (by rfl) (?_ : jX G jP 86 128 lv [.int ((siI S 16 w2.1 w2.2 w1.toNatClampNeg w0).1 32 v4.1 v4.2 3), .int ((siI S 16 w2.1 w2.2 w1.toNatClampNeg w0).1 11 0 0 9), .ref (spl 11 0 0)] μ Q)
  refine jX.go (by rfl) (by rfl) (by rfl) (?_ : jX G jP 86 129 lv [.int (((siI S 16 w2.1 w2.2 w1.toNatClampNeg w0).1 11 0 0 9) + ((siI S 16 w2.1 w2.2 w1.toNatClampNeg w0).1 32 v4.1 v4.2 3)), .ref (spl 11 0 0)] μ Q)
  refine jX.spI R (by rfl) (by rfl) (by rfl) (by rfl) (by rfl) (by rfl) (by rfl) (by rfl) (by rfl) (fun μ R => (?_ : jX G jP 86 132 lv [] μ Q))
  refine jX.lrn l0 (by rfl) (by rfl) (?_ : jX G jP 86 133 lv [.ref (spl 11 0 0)] μ Q)
  refine jX.go (by rfl) (by rfl) (by rfl) (?_ : jX G jP 86 134 lv [.ref (spl 11 0 0), .ref (spl 11 0 0)] μ Q)
  refine jX.sg R (by rfl) (by rfl) (by rfl) (by rfl) (by rfl) (by rfl) (?_ : jX G jP 86 137 lv [.int ((siI (siI S 16 w2.1 w2.2 w1.toNatClampNeg w0) 11 0 0 9 (((siI S 16 w2.1 w2.2 w1.toNatClampNeg w0).1 11 0 0 9) + ((siI S 16 w2.1 w2.2 w1.toNatClampNeg w0).1 32 v4.1 v4.2 3))).1 11 0 0 13), .ref (spl 11 0 0)] μ Q)
  refine jX.lr l4 (by rfl) (by rfl) (?_ : jX G jP 86 139 lv [.ref (spl 32 v4.1 v4.2), .int ((siI (siI S 16 w2.1 w2.2 w1.toNatClampNeg w0) 11 0 0 9 (((siI S 16 w2.1 w2.2 w1.toNatClampNeg w0).1 11 0 0 9) + ((siI S 16 w2.1 w2.2 w1.toNatClampNeg w0).1 32 v4.1 v4.2 3))).1 11 0 0 13), .ref (spl 11 0 0)] μ Q)
  refine jX.sg R g3 (by rfl) (by rfl) (by rfl) (by rfl) (by rfl) (?_ : jX G jP 86 142 lv [.int ((siI (siI S 16 w2.1 w2.2 w1.toNatClampNeg w0) 11 0 0 9 (((siI S 16 w2.1 w2.2 w1.toNatClampNeg w0).1 11 0 0 9) + ((siI S 16 w2.1 w2.2 w1.toNatClampNeg w0).1 32 v4.1 v4.2 3))).1 32 v4.1 v4.2 3), .int ((siI (siI S 16 w2.1 w2.2 w1.toNatClampNeg w0) 11 0 0 9 (((siI S 16 w2.1 w2.2 w1.toNatClampNeg w0).1 11 0 0 9) + ((siI S 16 w2.1 w2.2 w1.toNatClampNeg w0).1 32 v4.1 v4.2 3))).1 11 0 0 13), .ref (spl 11 0 0)] μ Q)
  refine jX.go (by rfl) (by rfl) (by rfl) (?_ : jX G jP 86 143 lv [.int (((siI (siI S 16 w2.1 w2.2 w1.toNatClampNeg w0) 11 0 0 9 (((siI S 16 w2.1 w2.2 w1.toNatClampNeg w0).1 11 0 0 9) + ((siI S 16 w2.1 w2.2 w1.toNatClampNeg w0).1 32 v4.1 v4.2 3))).1 11 0 0 13) + ((siI (siI S 16 w2.1 w2.2 w1.toNatClampNeg w0) 11 0 0 9 (((siI S 16 w2.1 w2.2 w1.toNatClampNeg w0).1 11 0 0 9) + ((siI S 16 w2.1 w2.2 w1.toNatClampNeg w0).1 32 v4.1 v4.2 3))).1 32 v4.1 v4.2 3)), .ref (spl 11 0 0)] μ Q)
  refine jX.spI R (by rfl) (by rfl) (by rfl) (by rfl) (by rfl) (by rfl) (by rfl) (by rfl) (by rfl) (fun μ R => (?_ : jX G jP 86 146 lv [] μ Q))
  refine jX.lrn l0 (by rfl) (by rfl) (?_ : jX G jP 86 147 lv [.ref (spl 11 0 0)] μ Q)
  refine jX.go (by rfl) (by rfl) (by rfl) (?_ : jX G jP 86 148 lv [.ref (spl 11 0 0), .ref (spl 11 0 0)] μ Q)
  refine jX.sg R (by rfl) (by rfl) (by rfl) (by rfl) (by rfl) (by rfl) (?_ : jX G jP 86 151 lv [.int ((siI (siI (siI S 16 w2.1 w2.2 w1.toNatClampNeg w0) 11 0 0 9 (((siI S 16 w2.1 w2.2 w1.toNatClampNeg w0).1 11 0 0 9) + ((siI S 16 w2.1 w2.2 w1.toNatClampNeg w0).1 32 v4.1 v4.2 3))) 11 0 0 13 (((siI (siI S 16 w2.1 w2.2 w1.toNatClampNeg w0) 11 0 0 9 (((siI S 16 w2.1 w2.2 w1.toNatClampNeg w0).1 11 0 0 9) + ((siI S 16 w2.1 w2.2 w1.toNatClampNeg w0).1 32 v4.1 v4.2 3))).1 11 0 0 13) + ((siI (siI S 16 w2.1 w2.2 w1.toNatClampNeg w0) 11 0 0 9 (((siI S 16 w2.1 w2.2 w1.toNatClampNeg w0).1 11 0 0 9) + ((siI S 16 w2.1 w2.2 w1.toNatClampNeg w0).1 32 v4.1 v4.2 3))).1 32 v4.1 v4.2 3))).1 11 0 0 8), .ref (spl 11 0 0)] μ Q)
  refine jX.ic (v := nI 1) (n := 1) (by rfl) (by rfl) (by decide) (?_ : jX G jP 86 152 lv [.int (nI 1), .int ((siI (siI (siI S 16 w2.1 w2.2 w1.toNatClampNeg w0) 11 0 0 9 (((siI S 16 w2.1 w2.2 w1.toNatClampNeg w0).1 11 0 0 9) + ((siI S 16 w2.1 w2.2 w1.toNatClampNeg w0).1 32 v4.1 v4.2 3))) 11 0 0 13 (((siI (siI S 16 w2.1 w2.2 w1.toNatClampNeg w0) 11 0 0 9 (((siI S 16 w2.1 w2.2 w1.toNatClampNeg w0).1 11 0 0 9) + ((siI S 16 w2.1 w2.2 w1.toNatClampNeg w0).1 32 v4.1 v4.2 3))).1 11 0 0 13) + ((siI (siI S 16 w2.1 w2.2 w1.toNatClampNeg w0) 11 0 0 9 (((siI S 16 w2.1 w2.2 w1.toNatClampNeg w0).1 11 0 0 9) + ((siI S 16 w2.1 w2.2 w1.toNatClampNeg w0).1 32 v4.1 v4.2 3))).1 32 v4.1 v4.2 3))).1 11 0 0 8), .ref (spl 11 0 0)] μ Q)
  refine jX.go (by rfl) (by rfl) (by rfl) (?_ : jX G jP 86 153 lv [.int (((siI (siI (siI S 16 w2.1 w2.2 w1.toNatClampNeg w0) 11 0 0 9 (((siI S 16 w2.1 w2.2 w1.toNatClampNeg w0).1 11 0 0 9) + ((siI S 16 w2.1 w2.2 w1.toNatClampNeg w0).1 32 v4.1 v4.2 3))) 11 0 0 13 (((siI (siI S 16 w2.1 w2.2 w1.toNatClampNeg w0) 11 0 0 9 (((siI S 16 w2.1 w2.2 w1.toNatClampNeg w0).1 11 0 0 9) + ((siI S 16 w2.1 w2.2 w1.toNatClampNeg w0).1 32 v4.1 v4.2 3))).1 11 0 0 13) + ((siI (siI S 16 w2.1 w2.2 w1.toNatClampNeg w0) 11 0 0 9 (((siI S 16 w2.1 w2.2 w1.toNatClampNeg w0).1 11 0 0 9) + ((siI S 16 w2.1 w2.2 w1.toNatClampNeg w0).1 32 v4.1 v4.2 3))).1 32 v4.1 v4.2 3))).1 11 0 0 8) + (nI 1)), .ref (spl 11 0 0)] μ Q)
  refine jX.spI R (by rfl) (by rfl) (by rfl) (by rfl) (by rfl) (by rfl) (by rfl) (by rfl) (by rfl) (fun μ R => (?_ : jX G jP 86 156 lv [] μ Q))
  refine jX.lrn l0 (by rfl) (by rfl) (?_ : jX G jP 86 157 lv [.ref (spl 11 0 0)] μ Q)
  refine jX.go (by rfl) (by rfl) (by rfl) (?_ : jX G jP 86 158 lv [.ref (spl 11 0 0), .ref (spl 11 0 0)] μ Q)
  refine jX.sg R (by rfl) (by rfl) (by rfl) (by rfl) (by rfl) (by rfl) (?_ : jX G jP 86 161 lv [.int ((siI (siI (siI (siI S 16 w2.1 w2.2 w1.toNatClampNeg w0) 11 0 0 9 (((siI S 16 w2.1 w2.2 w1.toNatClampNeg w0).1 11 0 0 9) + ((siI S 16 w2.1 w2.2 w1.toNatClampNeg w0).1 32 v4.1 v4.2 3))) 11 0 0 13 (((siI (siI S 16 w2.1 w2.2 w1.toNatClampNeg w0) 11 0 0 9 (((siI S 16 w2.1 w2.2 w1.toNatClampNeg w0).1 11 0 0 9) + ((siI S 16 w2.1 w2.2 w1.toNatClampNeg w0).1 32 v4.1 v4.2 3))).1 11 0 0 13) + ((siI (siI S 16 w2.1 w2.2 w1.toNatClampNeg w0) 11 0 0 9 (((siI S 16 w2.1 w2.2 w1.toNatClampNeg w0).1 11 0 0 9) + ((siI S 16 w2.1 w2.2 w1.toNatClampNeg w0).1 32 v4.1 v4.2 3))).1 32 v4.1 v4.2 3))) 11 0 0 8 (((siI (siI (siI S 16 w2.1 w2.2 w1.toNatClampNeg w0) 11 0 0 9 (((siI S 16 w2.1 w2.2 w1.toNatClampNeg w0).1 11 0 0 9) + ((siI S 16 w2.1 w2.2 w1.toNatClampNeg w0).1 32 v4.1 v4.2 3))) 11 0 0 13 (((siI (siI S 16 w2.1 w2.2 w1.toNatClampNeg w0) 11 0 0 9 (((siI S 16 w2.1 w2.2 w1.toNatClampNeg w0).1 11 0 0 9) + ((siI S 16 w2.1 w2.2 w1.toNatClampNeg w0).1 32 v4.1 v4.2 3))).1 11 0 0 13) + ((siI (siI S 16 w2.1 w2.2 w1.toNatClampNeg w0) 11 0 0 9 (((siI S 16 w2.1 w2.2 w1.toNatClampNeg w0).1 11 0 0 9) + ((siI S 16 w2.1 w2.2 w1.toNatClampNeg w0).1 32 v4.1 v4.2 3))).1 32 v4.1 v4.2 3))).1 11 0 0 8) + (nI 1))).1 11 0 0 10), .ref (spl 11 0 0)] μ Q)
  refine jX.ic (v := nI 1) (n := 1) (by rfl) (by rfl) (by decide) (?_ : jX G jP 86 162 lv [.int (nI 1), .int ((siI (siI (siI (siI S 16 w2.1 w2.2 w1.toNatClampNeg w0) 11 0 0 9 (((siI S 16 w2.1 w2.2 w1.toNatClampNeg w0).1 11 0 0 9) + ((siI S 16 w2.1 w2.2 w1.toNatClampNeg w0).1 32 v4.1 v4.2 3))) 11 0 0 13 (((siI (siI S 16 w2.1 w2.2 w1.toNatClampNeg w0) 11 0 0 9 (((siI S 16 w2.1 w2.2 w1.toNatClampNeg w0).1 11 0 0 9) + ((siI S 16 w2.1 w2.2 w1.toNatClampNeg w0).1 32 v4.1 v4.2 3))).1 11 0 0 13) + ((siI (siI S 16 w2.1 w2.2 w1.toNatClampNeg w0) 11 0 0 9 (((siI S 16 w2.1 w2.2 w1.toNatClampNeg w0).1 11 0 0 9) + ((siI S 16 w2.1 w2.2 w1.toNatClampNeg w0).1 32 v4.1 v4.2 3))).1 32 v4.1 v4.2 3))) 11 0 0 8 (((siI (siI (siI S 16 w2.1 w2.2 w1.toNatClampNeg w0) 11 0 0 9 (((siI S 16 w2.1 w2.2 w1.toNatClampNeg w0).1 11 0 0 9) + ((siI S 16 w2.1 w2.2 w1.toNatClampNeg w0).1 32 v4.1 v4.2 3))) 11 0 0 13 (((siI (siI S 16 w2.1 w2.2 w1.toNatClampNeg w0) 11 0 0 9 (((siI S 16 w2.1 w2.2 w1.toNatClampNeg w0).1 11 0 0 9) + ((siI S 16 w2.1 w2.2 w1.toNatClampNeg w0).1 32 v4.1 v4.2 3))).1 11 0 0 13) + ((siI (siI S 16 w2.1 w2.2 w1.toNatClampNeg w0) 11 0 0 9 (((siI S 16 w2.1 w2.2 w1.toNatClampNeg w0).1 11 0 0 9) + ((siI S 16 w2.1 w2.2 w1.toNatClampNeg w0).1 32 v4.1 v4.2 3))).1 32 v4.1 v4.2 3))).1 11 0 0 8) + (nI 1))).1 11 0 0 10), .ref (spl 11 0 0)] μ Q)
  refine jX.go (by rfl) (by rfl) (by rfl) (?_ : jX G jP 86 163 lv [.int (((siI (siI (siI (siI S 16 w2.1 w2.2 w1.toNatClampNeg w0) 11 0 0 9 (((siI S 16 w2.1 w2.2 w1.toNatClampNeg w0).1 11 0 0 9) + ((siI S 16 w2.1 w2.2 w1.toNatClampNeg w0).1 32 v4.1 v4.2 3))) 11 0 0 13 (((siI (siI S 16 w2.1 w2.2 w1.toNatClampNeg w0) 11 0 0 9 (((siI S 16 w2.1 w2.2 w1.toNatClampNeg w0).1 11 0 0 9) + ((siI S 16 w2.1 w2.2 w1.toNatClampNeg w0).1 32 v4.1 v4.2 3))).1 11 0 0 13) + ((siI (siI S 16 w2.1 w2.2 w1.toNatClampNeg w0) 11 0 0 9 (((siI S 16 w2.1 w2.2 w1.toNatClampNeg w0).1 11 0 0 9) + ((siI S 16 w2.1 w2.2 w1.toNatClampNeg w0).1 32 v4.1 v4.2 3))).1 32 v4.1 v4.2 3))) 11 0 0 8 (((siI (siI (siI S 16 w2.1 w2.2 w1.toNatClampNeg w0) 11 0 0 9 (((siI S 16 w2.1 w2.2 w1.toNatClampNeg w0).1 11 0 0 9) + ((siI S 16 w2.1 w2.2 w1.toNatClampNeg w0).1 32 v4.1 v4.2 3))) 11 0 0 13 (((siI (siI S 16 w2.1 w2.2 w1.toNatClampNeg w0) 11 0 0 9 (((siI S 16 w2.1 w2.2 w1.toNatClampNeg w0).1 11 0 0 9) + ((siI S 16 w2.1 w2.2 w1.toNatClampNeg w0).1 32 v4.1 v4.2 3))).1 11 0 0 13) + ((siI (siI S 16 w2.1 w2.2 w1.toNatClampNeg w0) 11 0 0 9 (((siI S 16 w2.1 w2.2 w1.toNatClampNeg w0).1 11 0 0 9) + ((siI S 16 w2.1 w2.2 w1.toNatClampNeg w0).1 32 v4.1 v4.2 3))).1 32 v4.1 v4.2 3))).1 11 0 0 8) + (nI 1))).1 11 0 0 10) + (nI 1)), .ref (spl 11 0 0)] μ Q)
  refine jX.spI R (by rfl) (by rfl) (by rfl) (by rfl) (by rfl) (by rfl) (by rfl) (by rfl) (by rfl) (fun μ R => (?_ : jX G jP 86 166 lv [] μ Q))
  refine jX.lin l3 (by rfl) (by rfl) (?_ : jX G jP 86 167 lv [.int v3] μ Q)
  refine jX.ic (v := nI 2) (n := 1) (by rfl) (by rfl) (by decide) (?_ : jX G jP 86 168 lv [.int (nI 2), .int v3] μ Q)
  refine jX.go (by rfl) (by rfl) (by rfl) (?_ : jX G jP 86 169 lv [.int (v3 + (nI 2))] μ Q)
  exact jX.ret (by rfl) (by rfl) (by rfl) (by rfl) (sretv (f := srI) h K R)
def F_86_97 (G : jG) (t : Nat) (v3 : Int32) (v4 : (Nat × Nat)) (w0 : Int32) (S : sS) : Option (Int32 × sS) := bif jcmp .eq w0 0 then (F_86_117 G t v3 v4 (nI 0) v3 (0, 0) S) else (F_86_117 G t v3 v4 (nI 2) v3 (0, 0) S)
theorem F_86_97_ok {G : jG} {t : Nat} {r : Int32} {S' : sS} {Q : Option Value ⊕ Nat → jS → Prop} (K : ∀ μ', sR S' μ' → Q (srI r) μ') : ∀ (v3 : Int32) (v4 : (Nat × Nat)) (w0 : Int32) (S : sS) (lv : jL) (μ : jS), jld lv 0 = some (.ref (spl 11 0 0)) → jld lv 3 = some (.int v3) → jld lv 4 = some (.ref (spl 32 v4.1 v4.2)) → sR S μ → F_86_97 G t v3 v4 w0 S = some (r, S') → jX G jP 86 97 lv [.int w0] μ Q := by
  intro v3 v4 w0 S lv μ l0 l3 l4 R h
  unfold F_86_97 at h
  refine jX.s1 (k := 5) (pc' := 99) (by rfl) (by rfl) (by rfl) (fun lv l5 kp => (?_ : jX G jP 86 99 lv [] μ Q))
  replace l0 := kp 0 _ l0 (by rfl) (by first | rfl | simp [soR_cat])
  replace l3 := kp 3 _ l3 (by rfl) (by first | rfl | simp [soR_cat])
  replace l4 := kp 4 _ l4 (by rfl) (by first | rfl | simp [soR_cat])
  refine jX.lrn l0 (by rfl) (by rfl) (?_ : jX G jP 86 100 lv [.ref (spl 11 0 0)] μ Q)
  refine jX.sg R (by rfl) (by rfl) (by rfl) (by rfl) (by rfl) (by rfl) (?_ : jX G jP 86 103 lv [.ref (spl 15 0 0)] μ Q)
  refine jX.sg R (by rfl) (by rfl) (by rfl) (by rfl) (by rfl) (by rfl) (?_ : jX G jP 86 106 lv [.ref (spl 16 0 0)] μ Q)
  refine jX.lin l3 (by rfl) (by rfl) (?_ : jX G jP 86 107 lv [.int v3, .ref (spl 16 0 0)] μ Q)
  refine jX.li l5 (by rfl) (by rfl) (?_ : jX G jP 86 109 lv [.int w0, .int v3, .ref (spl 16 0 0)] μ Q)
  rcases bif_or h with ⟨hc, h⟩ | ⟨hc, h⟩
  · refine jX.b1t hc (by rfl) (by rfl) (by rfl) (?_ : jX G jP 86 116 lv [.int v3, .ref (spl 16 0 0)] μ Q)
    refine jX.ic (v := nI 0) (n := 1) (by rfl) (by rfl) (by decide) (?_ : jX G jP 86 117 lv [.int (nI 0), .int v3, .ref (spl 16 0 0)] μ Q)
    exact F_86_117_ok  K v3 v4 (nI 0) v3 (0, 0) _ _ _ l0 l3 l4 R h
  · refine jX.b1f hc (by rfl) (by rfl) (by rfl) (?_ : jX G jP 86 112 lv [.int v3, .ref (spl 16 0 0)] μ Q)
    refine jX.ic (v := nI 2) (n := 1) (by rfl) (by rfl) (by decide) (?_ : jX G jP 86 113 lv [.int (nI 2), .int v3, .ref (spl 16 0 0)] μ Q)
    refine jX.go (by rfl) (by rfl) (by rfl) (?_ : jX G jP 86 117 lv [.int (nI 2), .int v3, .ref (spl 16 0 0)] μ Q)
    exact F_86_117_ok  K v3 v4 (nI 2) v3 (0, 0) _ _ _ l0 l3 l4 R h
def F_86_92 (G : jG) (t : Nat) (v3 : Int32) (v4 : (Nat × Nat)) (S : sS) : Option (Int32 × sS) := F_86_97 G t v3 v4 (nI 1) S
theorem F_86_92_ok {G : jG} {t : Nat} {r : Int32} {S' : sS} {Q : Option Value ⊕ Nat → jS → Prop} (K : ∀ μ', sR S' μ' → Q (srI r) μ') : ∀ (v3 : Int32) (v4 : (Nat × Nat)) (S : sS) (lv : jL) (μ : jS), jld lv 0 = some (.ref (spl 11 0 0)) → jld lv 3 = some (.int v3) → jld lv 4 = some (.ref (spl 32 v4.1 v4.2)) → sR S μ → F_86_92 G t v3 v4 S = some (r, S') → jX G jP 86 92 lv [] μ Q := by
  intro v3 v4 S lv μ l0 l3 l4 R h
  unfold F_86_92 at h
  refine jX.ic (v := nI 1) (n := 1) (by rfl) (by rfl) (by decide) (?_ : jX G jP 86 93 lv [.int (nI 1)] μ Q)
  refine jX.go (by rfl) (by rfl) (by rfl) (?_ : jX G jP 86 97 lv [.int (nI 1)] μ Q)
  exact F_86_97_ok  K v3 v4 (nI 1) _ _ _ l0 l3 l4 R h
def F_86_96 (G : jG) (t : Nat) (v3 : Int32) (v4 : (Nat × Nat)) (S : sS) : Option (Int32 × sS) := F_86_97 G t v3 v4 (nI 0) S
theorem F_86_96_ok {G : jG} {t : Nat} {r : Int32} {S' : sS} {Q : Option Value ⊕ Nat → jS → Prop} (K : ∀ μ', sR S' μ' → Q (srI r) μ') : ∀ (v3 : Int32) (v4 : (Nat × Nat)) (S : sS) (lv : jL) (μ : jS), jld lv 0 = some (.ref (spl 11 0 0)) → jld lv 3 = some (.int v3) → jld lv 4 = some (.ref (spl 32 v4.1 v4.2)) → sR S μ → F_86_96 G t v3 v4 S = some (r, S') → jX G jP 86 96 lv [] μ Q := by
  intro v3 v4 S lv μ l0 l3 l4 R h
  unfold F_86_96 at h
  refine jX.ic (v := nI 0) (n := 1) (by rfl) (by rfl) (by decide) (?_ : jX G jP 86 97 lv [.int (nI 0)] μ Q)
  exact F_86_97_ok  K v3 v4 (nI 0) _ _ _ l0 l3 l4 R h
def F_86_61 (G : jG) (t : Nat) (v1 : Int32) (v2 : Int32) (v3 : Int32) (v4 : (Nat × Nat)) (S : sS) : Option (Int32 × sS) := jif (sex S.2.2.2.1 32 v4.1 v4.2) ((F_85 G t v4 v1 v2 S).bind (fun q2 => bif jcmp .eq (q2.2.1 11 0 0 11) (nI 1) then (F_86_92 G t v3 v4 q2.2) else (bif jcmp .ne (q2.2.1 11 0 0 11) (nI 2) then (F_86_96 G t v3 v4 q2.2) else (bif jcmp .lt v3 (q2.2.1 11 0 0 12) then (F_86_96 G t v3 v4 q2.2) else (F_86_92 G t v3 v4 q2.2)))))
theorem F_86_61_ok {G : jG} {t : Nat} {r : Int32} {S' : sS} {Q : Option Value ⊕ Nat → jS → Prop} (K : ∀ μ', sR S' μ' → Q (srI r) μ') : ∀ (v1 : Int32) (v2 : Int32) (v3 : Int32) (v4 : (Nat × Nat)) (S : sS) (lv : jL) (μ : jS), jld lv 0 = some (.ref (spl 11 0 0)) → jld lv 1 = some (.int v1) → jld lv 2 = some (.int v2) → jld lv 3 = some (.int v3) → jld lv 4 = some (.ref (spl 32 v4.1 v4.2)) → sR S μ → F_86_61 G t v1 v2 v3 v4 S = some (r, S') → jX G jP 86 61 lv [] μ Q := by
  intro v1 v2 v3 v4 S lv μ l0 l1 l2 l3 l4 R h
  unfold F_86_61 at h
  refine jX.lr l4 (by rfl) (by rfl) (?_ : jX G jP 86 63 lv [.ref (spl 32 v4.1 v4.2)] μ Q)
  refine jX.lin l1 (by rfl) (by rfl) (?_ : jX G jP 86 64 lv [.int v1, .ref (spl 32 v4.1 v4.2)] μ Q)
  refine jX.lin l2 (by rfl) (by rfl) (?_ : jX G jP 86 65 lv [.int v2, .int v1, .ref (spl 32 v4.1 v4.2)] μ Q)
  obtain ⟨g1, h⟩ := jif_some h
  obtain ⟨q2, e2, h⟩ := sbd h
  refine jX.cv (by rfl) (by rfl) (by rfl) (by rfl) (by rfl) (by rfl) (by rfl) (R.rec g1 (by rfl)) (Nat.le_of_ble_eq_true rfl) (Nat.le_of_ble_eq_true rfl) (F_85_ok R e2 (fun μ R => ⟨rfl, (?_ : jX G jP 86 68 lv [] μ Q)⟩))
  refine jX.lrn l0 (by rfl) (by rfl) (?_ : jX G jP 86 69 lv [.ref (spl 11 0 0)] μ Q)
  refine jX.sg R (by rfl) (by rfl) (by rfl) (by rfl) (by rfl) (by rfl) (?_ : jX G jP 86 72 lv [.int (q2.2.1 11 0 0 11)] μ Q)
  refine jX.ic (v := nI 1) (n := 1) (by rfl) (by rfl) (by decide) (?_ : jX G jP 86 73 lv [.int (nI 1), .int (q2.2.1 11 0 0 11)] μ Q)
  rcases bif_or h with ⟨hc, h⟩ | ⟨hc, h⟩
  · refine jX.b2t hc (by rfl) (by rfl) (by rfl) (?_ : jX G jP 86 92 lv [] μ Q)
    exact F_86_92_ok  K v3 v4 _ _ _ l0 l3 l4 R h
  · refine jX.b2f hc (by rfl) (by rfl) (by rfl) (?_ : jX G jP 86 76 lv [] μ Q)
    refine jX.lrn l0 (by rfl) (by rfl) (?_ : jX G jP 86 77 lv [.ref (spl 11 0 0)] μ Q)
    refine jX.sg R (by rfl) (by rfl) (by rfl) (by rfl) (by rfl) (by rfl) (?_ : jX G jP 86 80 lv [.int (q2.2.1 11 0 0 11)] μ Q)
    refine jX.ic (v := nI 2) (n := 1) (by rfl) (by rfl) (by decide) (?_ : jX G jP 86 81 lv [.int (nI 2), .int (q2.2.1 11 0 0 11)] μ Q)
    rcases bif_or h with ⟨hc, h⟩ | ⟨hc, h⟩
    · refine jX.b2t hc (by rfl) (by rfl) (by rfl) (?_ : jX G jP 86 96 lv [] μ Q)
      exact F_86_96_ok  K v3 v4 _ _ _ l0 l3 l4 R h
    · refine jX.b2f hc (by rfl) (by rfl) (by rfl) (?_ : jX G jP 86 84 lv [] μ Q)
      refine jX.lin l3 (by rfl) (by rfl) (?_ : jX G jP 86 85 lv [.int v3] μ Q)
      refine jX.lrn l0 (by rfl) (by rfl) (?_ : jX G jP 86 86 lv [.ref (spl 11 0 0), .int v3] μ Q)
      refine jX.sg R (by rfl) (by rfl) (by rfl) (by rfl) (by rfl) (by rfl) (?_ : jX G jP 86 89 lv [.int (q2.2.1 11 0 0 12), .int v3] μ Q)
      rcases bif_or h with ⟨hc, h⟩ | ⟨hc, h⟩
      · refine jX.b2t hc (by rfl) (by rfl) (by rfl) (?_ : jX G jP 86 96 lv [] μ Q)
        exact F_86_96_ok  K v3 v4 _ _ _ l0 l3 l4 R h
      · refine jX.b2f hc (by rfl) (by rfl) (by rfl) (?_ : jX G jP 86 92 lv [] μ Q)
        exact F_86_92_ok  K v3 v4 _ _ _ l0 l3 l4 R h
def F_86 (G : jG) (t : Nat) (v1 : Int32) (v2 : Int32) (S : sS) : Option (Int32 × sS) := (F_83 G t v1 v2 S).bind (fun q1 => bif jcmp .ne q1.1 0 then (jif (jin ((siI q1.2 11 0 0 7 ((q1.2.1 11 0 0 7) - (nI 1))).1 11 0 0 7) 600) (jif (jin ((siI q1.2 11 0 0 7 ((q1.2.1 11 0 0 7) - (nI 1))).1 13 0 0 ((siI q1.2 11 0 0 7 ((q1.2.1 11 0 0 7) - (nI 1))).1 11 0 0 7).toNatClampNeg) 600) (sif (((siI q1.2 11 0 0 7 ((q1.2.1 11 0 0 7) - (nI 1))).2.2.1.2 ((siI q1.2 11 0 0 7 ((q1.2.1 11 0 0 7) - (nI 1))).1 13 0 0 ((siI q1.2 11 0 0 7 ((q1.2.1 11 0 0 7) - (nI 1))).1 11 0 0 7).toNatClampNeg).toNatClampNeg).map fun p => (p, 0)) (jif (sex (snT (siI q1.2 11 0 0 7 ((q1.2.1 11 0 0 7) - (nI 1)))).2.2.2.1 32 ((siI q1.2 11 0 0 7 ((q1.2.1 11 0 0 7) - (nI 1))).2.2.2.2.1) 0) (jif (jin ((siI q1.2 11 0 0 7 ((q1.2.1 11 0 0 7) - (nI 1))).1 13 0 0 ((siI q1.2 11 0 0 7 ((q1.2.1 11 0 0 7) - (nI 1))).1 11 0 0 7).toNatClampNeg) 600) (F_86_61 G t v1 v2 ((siI q1.2 11 0 0 7 ((q1.2.1 11 0 0 7) - (nI 1))).1 13 0 0 ((siI q1.2 11 0 0 7 ((q1.2.1 11 0 0 7) - (nI 1))).1 11 0 0 7).toNatClampNeg) ((siI q1.2 11 0 0 7 ((q1.2.1 11 0 0 7) - (nI 1))).2.2.2.2.1, 0) (ssT (snT (siI q1.2 11 0 0 7 ((q1.2.1 11 0 0 7) - (nI 1)))) ((siI q1.2 11 0 0 7 ((q1.2.1 11 0 0 7) - (nI 1))).1 13 0 0 ((siI q1.2 11 0 0 7 ((q1.2.1 11 0 0 7) - (nI 1))).1 11 0 0 7).toNatClampNeg).toNatClampNeg ((siI q1.2 11 0 0 7 ((q1.2.1 11 0 0 7) - (nI 1))).2.2.2.2.1))))) (fun a4 => F_86_61 G t v1 v2 ((siI q1.2 11 0 0 7 ((q1.2.1 11 0 0 7) - (nI 1))).1 13 0 0 ((siI q1.2 11 0 0 7 ((q1.2.1 11 0 0 7) - (nI 1))).1 11 0 0 7).toNatClampNeg) a4 (siI q1.2 11 0 0 7 ((q1.2.1 11 0 0 7) - (nI 1))))))) else (some ((nI 1), q1.2)))
theorem F_86_ok {G : jG} {t : Nat} {v1 : Int32} {v2 : Int32} {S : sS} {r : Int32} {S' : sS} {μ : jS} {Q : Option Value ⊕ Nat → jS → Prop} (R : sR S μ) (h : F_86 G t v1 v2 S = some (r, S')) (K : ∀ μ', sR S' μ' → Q (srI r) μ') : jX G jP 86 0 (lv_args 0 [.ref (spl 11 0 0), .int v1, .int v2]) [] μ Q := by
  unfold F_86 at h
  have l0 : jld (lv_args 0 [.ref (spl 11 0 0), .int v1, .int v2]) 0 = some (.ref (spl 11 0 0)) := by rfl
  have l1 : jld (lv_args 0 [.ref (spl 11 0 0), .int v1, .int v2]) 1 = some (.int v1) := by rfl
  have l2 : jld (lv_args 0 [.ref (spl 11 0 0), .int v1, .int v2]) 2 = some (.int v2) := by rfl
  generalize lv_args 0 [.ref (spl 11 0 0), .int v1, .int v2] = lv at *
  refine jX.lrn l0 (by rfl) (by rfl) (?_ : jX G jP 86 1 lv [.ref (spl 11 0 0)] μ Q)
  refine jX.lin l1 (by rfl) (by rfl) (?_ : jX G jP 86 2 lv [.int v1, .ref (spl 11 0 0)] μ Q)
  refine jX.lin l2 (by rfl) (by rfl) (?_ : jX G jP 86 3 lv [.int v2, .int v1, .ref (spl 11 0 0)] μ Q)
  obtain ⟨q1, e1, h⟩ := sbd h
  refine jX.c1 (v := .int q1.1) (by rfl) (by rfl) (by rfl) (by rfl) (by rfl) (by rfl) (by rfl) (R.rec (by rfl) (by rfl)) (Nat.le_of_ble_eq_true rfl) (Nat.le_of_ble_eq_true rfl) (F_83_ok R e1 (fun μ R => ⟨rfl, (?_ : jX G jP 86 6 lv [.int q1.1] μ Q)⟩))
  rcases bif_or h with ⟨hc, h⟩ | ⟨hc, h⟩
  · refine jX.b1t hc (by rfl) (by rfl) (by rfl) (?_ : jX G jP 86 11 lv [] μ Q)
    refine jX.lrn l0 (by rfl) (by rfl) (?_ : jX G jP 86 12 lv [.ref (spl 11 0 0)] μ Q)
    refine jX.go (by rfl) (by rfl) (by rfl) (?_ : jX G jP 86 13 lv [.ref (spl 11 0 0), .ref (spl 11 0 0)] μ Q)
    refine jX.sg R (by rfl) (by rfl) (by rfl) (by rfl) (by rfl) (by rfl) (?_ : jX G jP 86 16 lv [.int (q1.2.1 11 0 0 7), .ref (spl 11 0 0)] μ Q)
    refine jX.ic (v := nI 1) (n := 1) (by rfl) (by rfl) (by decide) (?_ : jX G jP 86 17 lv [.int (nI 1), .int (q1.2.1 11 0 0 7), .ref (spl 11 0 0)] μ Q)
    refine jX.go (by rfl) (by rfl) (by rfl) (?_ : jX G jP 86 18 lv [.int ((q1.2.1 11 0 0 7) - (nI 1)), .ref (spl 11 0 0)] μ Q)
    refine jX.spI R (by rfl) (by rfl) (by rfl) (by rfl) (by rfl) (by rfl) (by rfl) (by rfl) (by rfl) (fun μ R => (?_ : jX G jP 86 21 lv [] μ Q))
    refine jX.lrn l0 (by rfl) (by rfl) (?_ : jX G jP 86 22 lv [.ref (spl 11 0 0)] μ Q)
    refine jX.sg R (by rfl) (by rfl) (by rfl) (by rfl) (by rfl) (by rfl) (?_ : jX G jP 86 25 lv [.ref (spl 13 0 0)] μ Q)
    refine jX.lrn l0 (by rfl) (by rfl) (?_ : jX G jP 86 26 lv [.ref (spl 11 0 0), .ref (spl 13 0 0)] μ Q)
    refine jX.sg R (by rfl) (by rfl) (by rfl) (by rfl) (by rfl) (by rfl) (?_ : jX G jP 86 29 lv [.int ((siI q1.2 11 0 0 7 ((q1.2.1 11 0 0 7) - (nI 1))).1 11 0 0 7), .ref (spl 13 0 0)] μ Q)
    obtain ⟨g2, h⟩ := jif_some h
    refine jX.sai R (by rfl) (by rfl) (by rfl) (by rfl) g2 (?_ : jX G jP 86 30 lv [.int ((siI q1.2 11 0 0 7 ((q1.2.1 11 0 0 7) - (nI 1))).1 13 0 0 ((siI q1.2 11 0 0 7 ((q1.2.1 11 0 0 7) - (nI 1))).1 11 0 0 7).toNatClampNeg)] μ Q)
    refine jX.s1 (k := 3) (pc' := 31) (by rfl) (by rfl) (by rfl) (fun lv l3 kp => (?_ : jX G jP 86 31 lv [] μ Q))
    replace l0 := kp 0 _ l0 (by rfl) (by first | rfl | simp [soR_cat])
    replace l1 := kp 1 _ l1 (by rfl) (by first | rfl | simp [soR_cat])
    replace l2 := kp 2 _ l2 (by rfl) (by first | rfl | simp [soR_cat])
    refine jX.lrn l0 (by rfl) (by rfl) (?_ : jX G jP 86 32 lv [.ref (spl 11 0 0)] μ Q)
    refine jX.sg R (by rfl) (by rfl) (by rfl) (by rfl) (by rfl) (by rfl) (?_ : jX G jP 86 35 lv [.ref (spl 12 0 0)] μ Q)
    refine jX.lin l3 (by rfl) (by rfl) (?_ : jX G jP 86 36 lv [.int ((siI q1.2 11 0 0 7 ((q1.2.1 11 0 0 7) - (nI 1))).1 13 0 0 ((siI q1.2 11 0 0 7 ((q1.2.1 11 0 0 7) - (nI 1))).1 11 0 0 7).toNatClampNeg), .ref (spl 12 0 0)] μ Q)
    obtain ⟨g3, h⟩ := jif_some h
    refine jX.sar R (by rfl) (by rfl) (by rfl) (by rfl) g3 (srf_32 _) (?_ : jX G jP 86 37 lv [soR 32 (((siI q1.2 11 0 0 7 ((q1.2.1 11 0 0 7) - (nI 1))).2.2.1.2 ((siI q1.2 11 0 0 7 ((q1.2.1 11 0 0 7) - (nI 1))).1 13 0 0 ((siI q1.2 11 0 0 7 ((q1.2.1 11 0 0 7) - (nI 1))).1 11 0 0 7).toNatClampNeg).toNatClampNeg).map fun p => (p, 0))] μ Q)
    refine jX.so (k := 4) (pc' := 39) (by rfl) (by rfl) (fun _ => by rfl) (by rfl) (fun lv l4 kp => (?_ : jX G jP 86 39 lv [] μ Q))
    replace l0 := kp 0 _ l0 (by rfl) (by first | rfl | simp [soR_cat])
    replace l1 := kp 1 _ l1 (by rfl) (by first | rfl | simp [soR_cat])
    replace l2 := kp 2 _ l2 (by rfl) (by first | rfl | simp [soR_cat])
    replace l3 := kp 3 _ l3 (by rfl) (by first | rfl | simp [soR_cat])
    refine jX.lo l4 (by rfl) (by rfl) (?_ : jX G jP 86 41 lv [soR 32 (((siI q1.2 11 0 0 7 ((q1.2.1 11 0 0 7) - (nI 1))).2.2.1.2 ((siI q1.2 11 0 0 7 ((q1.2.1 11 0 0 7) - (nI 1))).1 13 0 0 ((siI q1.2 11 0 0 7 ((q1.2.1 11 0 0 7) - (nI 1))).1 11 0 0 7).toNatClampNeg).toNatClampNeg).map fun p => (p, 0))] μ Q)
    rcases sif_or h with ⟨e4, h⟩ | ⟨a4, e4, h⟩
    · rw [soR_none (t := 32) e4]
      rw [soR_none (t := 32) e4] at l4
      refine jX.go (by rfl) (by rfl) (by rfl) (?_ : jX G jP 86 44 lv [] μ Q)
      refine jX.nT R (by rfl) (by rfl) (by rfl) (by rfl) (by rfl) (by rfl) (by rfl) (Nat.le_of_ble_eq_true rfl) (fun μ R => (?_ : jX G jP 86 51 lv [.ref (spl 32 ((siI q1.2 11 0 0 7 ((q1.2.1 11 0 0 7) - (nI 1))).2.2.2.2.1) 0)] μ Q))
      refine jX.s1 (k := 4) (pc' := 53) (by rfl) (by rfl) (by rfl) (fun lv l4 kp => (?_ : jX G jP 86 53 lv [] μ Q))
      replace l0 := kp 0 _ l0 (by rfl) (by first | rfl | simp [soR_cat])
      replace l1 := kp 1 _ l1 (by rfl) (by first | rfl | simp [soR_cat])
      replace l2 := kp 2 _ l2 (by rfl) (by first | rfl | simp [soR_cat])
      replace l3 := kp 3 _ l3 (by rfl) (by first | rfl | simp [soR_cat])
      refine jX.lrn l0 (by rfl) (by rfl) (?_ : jX G jP 86 54 lv [.ref (spl 11 0 0)] μ Q)
      refine jX.sg R (by rfl) (by rfl) (by rfl) (by rfl) (by rfl) (by rfl) (?_ : jX G jP 86 57 lv [.ref (spl 12 0 0)] μ Q)
      refine jX.lin l3 (by rfl) (by rfl) (?_ : jX G jP 86 58 lv [.int ((siI q1.2 11 0 0 7 ((q1.2.1 11 0 0 7) - (nI 1))).1 13 0 0 ((siI q1.2 11 0 0 7 ((q1.2.1 11 0 0 7) - (nI 1))).1 11 0 0 7).toNatClampNeg), .ref (spl 12 0 0)] μ Q)
      refine jX.lr l4 (by rfl) (by rfl) (?_ : jX G jP 86 60 lv [.ref (spl 32 ((siI q1.2 11 0 0 7 ((q1.2.1 11 0 0 7) - (nI 1))).2.2.2.2.1) 0), .int ((siI q1.2 11 0 0 7 ((q1.2.1 11 0 0 7) - (nI 1))).1 13 0 0 ((siI q1.2 11 0 0 7 ((q1.2.1 11 0 0 7) - (nI 1))).1 11 0 0 7).toNatClampNeg), .ref (spl 12 0 0)] μ Q)
      obtain ⟨g5, h⟩ := jif_some h
      obtain ⟨g6, h⟩ := jif_some h
      refine jX.stT R g5 (by rfl) (by rfl) (by rfl) g6 (fun μ R => (?_ : jX G jP 86 61 lv [] μ Q))
      exact F_86_61_ok  K v1 v2 ((siI q1.2 11 0 0 7 ((q1.2.1 11 0 0 7) - (nI 1))).1 13 0 0 ((siI q1.2 11 0 0 7 ((q1.2.1 11 0 0 7) - (nI 1))).1 11 0 0 7).toNatClampNeg) ((siI q1.2 11 0 0 7 ((q1.2.1 11 0 0 7) - (nI 1))).2.2.2.2.1, 0) _ _ _ l0 l1 l2 l3 l4 R h
    · rw [soR_some (t := 32) e4]
      rw [soR_some (t := 32) e4] at l4
      refine jX.go (by rfl) (by rfl) (by rfl) (?_ : jX G jP 86 61 lv [] μ Q)
      exact F_86_61_ok  K v1 v2 ((siI q1.2 11 0 0 7 ((q1.2.1 11 0 0 7) - (nI 1))).1 13 0 0 ((siI q1.2 11 0 0 7 ((q1.2.1 11 0 0 7) - (nI 1))).1 11 0 0 7).toNatClampNeg) a4 _ _ _ l0 l1 l2 l3 l4 R h
  · refine jX.b1f hc (by rfl) (by rfl) (by rfl) (?_ : jX G jP 86 9 lv [] μ Q)
    refine jX.ic (v := nI 1) (n := 1) (by rfl) (by rfl) (by decide) (?_ : jX G jP 86 10 lv [.int (nI 1)] μ Q)
    exact jX.ret (by rfl) (by rfl) (by rfl) (by rfl) (sretv (f := srI) h K R)
/-! 87 StrandRuntime$Heap.thingOf(II)LStrandRuntime$Thing; -/
def F_87 (G : jG) (t : Nat) (v1 : Int32) (v2 : Int32) (S : sS) : Option ((Option (Nat × Nat)) × sS) := (F_58 G t (v1 - (nI 2)) S).bind (fun q1 => sif q1.1 (some (none, q1.2)) (fun a2 => jif (sex q1.2.2.2.2.1 32 a2.1 a2.2) (bif jcmp .ne (q1.2.1 32 a2.1 a2.2 1) v2 then (some (none, q1.2)) else (some (some (a2.1, a2.2), q1.2)))))
theorem F_87_ok {G : jG} {t : Nat} {v1 : Int32} {v2 : Int32} {S : sS} {r : (Option (Nat × Nat))} {S' : sS} {μ : jS} {Q : Option Value ⊕ Nat → jS → Prop} (R : sR S μ) (h : F_87 G t v1 v2 S = some (r, S')) (K : ∀ μ', sR S' μ' → Q ((srO 32) r) μ') : jX G jP 87 0 (lv_args 0 [.ref (spl 11 0 0), .int v1, .int v2]) [] μ Q := by
  unfold F_87 at h
  have l0 : jld (lv_args 0 [.ref (spl 11 0 0), .int v1, .int v2]) 0 = some (.ref (spl 11 0 0)) := by rfl
  have l1 : jld (lv_args 0 [.ref (spl 11 0 0), .int v1, .int v2]) 1 = some (.int v1) := by rfl
  have l2 : jld (lv_args 0 [.ref (spl 11 0 0), .int v1, .int v2]) 2 = some (.int v2) := by rfl
  generalize lv_args 0 [.ref (spl 11 0 0), .int v1, .int v2] = lv at *
  refine jX.lrn l0 (by rfl) (by rfl) (?_ : jX G jP 87 1 lv [.ref (spl 11 0 0)] μ Q)
  refine jX.lin l1 (by rfl) (by rfl) (?_ : jX G jP 87 2 lv [.int v1, .ref (spl 11 0 0)] μ Q)
  refine jX.ic (v := nI 2) (n := 1) (by rfl) (by rfl) (by decide) (?_ : jX G jP 87 3 lv [.int (nI 2), .int v1, .ref (spl 11 0 0)] μ Q)
  refine jX.go (by rfl) (by rfl) (by rfl) (?_ : jX G jP 87 4 lv [.int (v1 - (nI 2)), .ref (spl 11 0 0)] μ Q)
  obtain ⟨q1, e1, h⟩ := sbd h
  refine jX.c1 (v := soR 32 q1.1) (by rfl) (by rfl) (by rfl) (by rfl) (by rfl) (by rfl) (by rfl) (R.rec (by rfl) (by rfl)) (Nat.le_of_ble_eq_true rfl) (Nat.le_of_ble_eq_true rfl) (F_58_ok R e1 (fun μ R => ⟨rfl, (?_ : jX G jP 87 7 lv [soR 32 q1.1] μ Q)⟩))
  refine jX.so (k := 3) (pc' := 8) (by rfl) (by rfl) (fun _ => by rfl) (by rfl) (fun lv l3 kp => (?_ : jX G jP 87 8 lv [] μ Q))
  replace l2 := kp 2 _ l2 (by rfl) (by first | rfl | simp [soR_cat])
  refine jX.lon l3 (by rfl) (by rfl) (?_ : jX G jP 87 9 lv [soR 32 q1.1] μ Q)
  rcases sif_or h with ⟨e2, h⟩ | ⟨a2, e2, h⟩
  · rw [soR_none (t := 32) e2]
    rw [soR_none (t := 32) e2] at l3
    refine jX.go (by rfl) (by rfl) (by rfl) (?_ : jX G jP 87 24 lv [] μ Q)
    refine jX.go (by rfl) (by rfl) (by rfl) (?_ : jX G jP 87 25 lv [.null] μ Q)
    exact jX.ret (by rfl) (by rfl) (by rfl) (by rfl) (sretv (f := (srO 32)) h K R)
  · rw [soR_some (t := 32) e2]
    rw [soR_some (t := 32) e2] at l3
    refine jX.go (by rfl) (by rfl) (by rfl) (?_ : jX G jP 87 12 lv [] μ Q)
    refine jX.lrn l3 (by rfl) (by rfl) (?_ : jX G jP 87 13 lv [.ref (spl 32 a2.1 a2.2)] μ Q)
    obtain ⟨g3, h⟩ := jif_some h
    refine jX.sg R g3 (by rfl) (by rfl) (by rfl) (by rfl) (by rfl) (?_ : jX G jP 87 16 lv [.int (q1.2.1 32 a2.1 a2.2 1)] μ Q)
    refine jX.lin l2 (by rfl) (by rfl) (?_ : jX G jP 87 17 lv [.int v2, .int (q1.2.1 32 a2.1 a2.2 1)] μ Q)
    rcases bif_or h with ⟨hc, h⟩ | ⟨hc, h⟩
    · refine jX.b2t hc (by rfl) (by rfl) (by rfl) (?_ : jX G jP 87 24 lv [] μ Q)
      refine jX.go (by rfl) (by rfl) (by rfl) (?_ : jX G jP 87 25 lv [.null] μ Q)
      exact jX.ret (by rfl) (by rfl) (by rfl) (by rfl) (sretv (f := (srO 32)) h K R)
    · refine jX.b2f hc (by rfl) (by rfl) (by rfl) (?_ : jX G jP 87 20 lv [] μ Q)
      refine jX.lrn l3 (by rfl) (by rfl) (?_ : jX G jP 87 21 lv [.ref (spl 32 a2.1 a2.2)] μ Q)
      refine jX.go (by rfl) (by rfl) (by rfl) (?_ : jX G jP 87 25 lv [.ref (spl 32 a2.1 a2.2)] μ Q)
      exact jX.ret (by rfl) (by rfl) (by rfl) (by rfl) (sretv (f := (srO 32)) h K R)
/-! 88 StrandRuntime$Channels.caseAt(LStrandRuntime$Strand;LStrandRuntime$Row;I)I -/
def F_88 (G : jG) (t : Nat) (v1 : (Nat × Nat)) (v2 : (Nat × Nat)) (v3 : Int32) (S : sS) : Option (Int32 × sS) := jif (sex S.2.2.2.1 29 v2.1 v2.2) (jif (sex S.2.2.2.1 25 v1.1 v1.2) (some (((S.1 29 v2.1 v2.2 2) - ((nI 3) * ((S.1 25 v1.1 v1.2 6) - v3))), S)))
theorem F_88_ok {G : jG} {t : Nat} {v1 : (Nat × Nat)} {v2 : (Nat × Nat)} {v3 : Int32} {S : sS} {r : Int32} {S' : sS} {μ : jS} {Q : Option Value ⊕ Nat → jS → Prop} (R : sR S μ) (h : F_88 G t v1 v2 v3 S = some (r, S')) (K : ∀ μ', sR S' μ' → Q (srI r) μ') : jX G jP 88 0 (lv_args 0 [.ref (spl 22 0 0), .ref (spl 25 v1.1 v1.2), .ref (spl 29 v2.1 v2.2), .int v3]) [] μ Q := by
  unfold F_88 at h
  have l1 : jld (lv_args 0 [.ref (spl 22 0 0), .ref (spl 25 v1.1 v1.2), .ref (spl 29 v2.1 v2.2), .int v3]) 1 = some (.ref (spl 25 v1.1 v1.2)) := by rfl
  have l2 : jld (lv_args 0 [.ref (spl 22 0 0), .ref (spl 25 v1.1 v1.2), .ref (spl 29 v2.1 v2.2), .int v3]) 2 = some (.ref (spl 29 v2.1 v2.2)) := by rfl
  have l3 : jld (lv_args 0 [.ref (spl 22 0 0), .ref (spl 25 v1.1 v1.2), .ref (spl 29 v2.1 v2.2), .int v3]) 3 = some (.int v3) := by rfl
  generalize lv_args 0 [.ref (spl 22 0 0), .ref (spl 25 v1.1 v1.2), .ref (spl 29 v2.1 v2.2), .int v3] = lv at *
  refine jX.lrn l2 (by rfl) (by rfl) (?_ : jX G jP 88 1 lv [.ref (spl 29 v2.1 v2.2)] μ Q)
  obtain ⟨g1, h⟩ := jif_some h
  refine jX.sg R g1 (by rfl) (by rfl) (by rfl) (by rfl) (by rfl) (?_ : jX G jP 88 4 lv [.int (S.1 29 v2.1 v2.2 2)] μ Q)
  refine jX.ic (v := nI 3) (n := 1) (by rfl) (by rfl) (by decide) (?_ : jX G jP 88 5 lv [.int (nI 3), .int (S.1 29 v2.1 v2.2 2)] μ Q)
  refine jX.lrn l1 (by rfl) (by rfl) (?_ : jX G jP 88 6 lv [.ref (spl 25 v1.1 v1.2), .int (nI 3), .int (S.1 29 v2.1 v2.2 2)] μ Q)
  obtain ⟨g2, h⟩ := jif_some h
  refine jX.sg R g2 (by rfl) (by rfl) (by rfl) (by rfl) (by rfl) (?_ : jX G jP 88 9 lv [.int (S.1 25 v1.1 v1.2 6), .int (nI 3), .int (S.1 29 v2.1 v2.2 2)] μ Q)
  refine jX.lin l3 (by rfl) (by rfl) (?_ : jX G jP 88 10 lv [.int v3, .int (S.1 25 v1.1 v1.2 6), .int (nI 3), .int (S.1 29 v2.1 v2.2 2)] μ Q)
  refine jX.go (by rfl) (by rfl) (by rfl) (?_ : jX G jP 88 11 lv [.int ((S.1 25 v1.1 v1.2 6) - v3), .int (nI 3), .int (S.1 29 v2.1 v2.2 2)] μ Q)
  refine jX.go (by rfl) (by rfl) (by rfl) (?_ : jX G jP 88 12 lv [.int ((nI 3) * ((S.1 25 v1.1 v1.2 6) - v3)), .int (S.1 29 v2.1 v2.2 2)] μ Q)
  refine jX.go (by rfl) (by rfl) (by rfl) (?_ : jX G jP 88 13 lv [.int ((S.1 29 v2.1 v2.2 2) - ((nI 3) * ((S.1 25 v1.1 v1.2 6) - v3)))] μ Q)
  exact jX.ret (by rfl) (by rfl) (by rfl) (by rfl) (sretv (f := srI) h K R)
/-! 89 StrandRuntime$Channels.caseOf(LStrandRuntime$Strand;IZZ)I -/
def F_89_169 (G : jG) (t : Nat) (k108 : (Nat × Nat) → Int32 → Int32 → Int32 → (Nat × Nat) → Int32 → sS → Option (Int32 × sS)) (v1 : (Nat × Nat)) (v2 : Int32) (v3 : Int32) (v4 : Int32) (v6 : (Nat × Nat)) (v7 : Int32) (S : sS) : Option (Int32 × sS) := k108 v1 v2 v3 v4 v6 (v7 + Int32.ofInt 1) S
theorem F_89_169_ok {G : jG} {t : Nat} {k108 : (Nat × Nat) → Int32 → Int32 → Int32 → (Nat × Nat) → Int32 → sS → Option (Int32 × sS)} {r : Int32} {S' : sS} {Q : Option Value ⊕ Nat → jS → Prop} (hk108 : ∀ (v1 : (Nat × Nat)) (v2 : Int32) (v3 : Int32) (v4 : Int32) (v6 : (Nat × Nat)) (v7 : Int32) (S : sS) (lv : jL) (μ : jS), jld lv 0 = some (.ref (spl 22 0 0)) → jld lv 1 = some (.ref (spl 25 v1.1 v1.2)) → jld lv 2 = some (.int v2) → jld lv 3 = some (.int v3) → jld lv 4 = some (.int v4) → jld lv 6 = some (.ref (spl 29 v6.1 v6.2)) → jld lv 7 = some (.int v7) → sR S μ → k108 v1 v2 v3 v4 v6 v7 S = some (r, S') → jX G jP 89 108 lv [] μ Q) (K : ∀ μ', sR S' μ' → Q (srI r) μ') : ∀ (v1 : (Nat × Nat)) (v2 : Int32) (v3 : Int32) (v4 : Int32) (v6 : (Nat × Nat)) (v7 : Int32) (S : sS) (lv : jL) (μ : jS), jld lv 0 = some (.ref (spl 22 0 0)) → jld lv 1 = some (.ref (spl 25 v1.1 v1.2)) → jld lv 2 = some (.int v2) → jld lv 3 = some (.int v3) → jld lv 4 = some (.int v4) → jld lv 6 = some (.ref (spl 29 v6.1 v6.2)) → jld lv 7 = some (.int v7) → sR S μ → F_89_169 G t k108 v1 v2 v3 v4 v6 v7 S = some (r, S') → jX G jP 89 169 lv [] μ Q := by
  intro v1 v2 v3 v4 v6 v7 S lv μ l0 l1 l2 l3 l4 l6 l7 R h
  unfold F_89_169 at h
  refine jX.inc l7 (by rfl) (by rfl) (by rfl) (fun lv l7 kp => (?_ : jX G jP 89 172 lv [] μ Q))
  replace l0 := kp 0 _ l0 (by rfl) (by first | rfl | simp [soR_cat])
  replace l1 := kp 1 _ l1 (by rfl) (by first | rfl | simp [soR_cat])
  replace l2 := kp 2 _ l2 (by rfl) (by first | rfl | simp [soR_cat])
  replace l3 := kp 3 _ l3 (by rfl) (by first | rfl | simp [soR_cat])
  replace l4 := kp 4 _ l4 (by rfl) (by first | rfl | simp [soR_cat])
  replace l6 := kp 6 _ l6 (by rfl) (by first | rfl | simp [soR_cat])
  refine jX.go (by rfl) (by rfl) (by rfl) (?_ : jX G jP 89 108 lv [] μ Q)
  exact hk108 v1 v2 v3 v4 v6 (v7 + Int32.ofInt 1) _ _ _ l0 l1 l2 l3 l4 l6 l7 R h
def F_89_148 (G : jG) (t : Nat) (k108 : (Nat × Nat) → Int32 → Int32 → Int32 → (Nat × Nat) → Int32 → sS → Option (Int32 × sS)) (v1 : (Nat × Nat)) (v2 : Int32) (v3 : Int32) (v4 : Int32) (v6 : (Nat × Nat)) (v7 : Int32) (v8 : Int32) (w0 : Int32) (S : sS) : Option (Int32 × sS) := bif jcmp .eq w0 0 then (F_89_169 G t k108 v1 v2 v3 v4 v6 v7 S) else (jif (sex S.2.2.2.1 29 v6.1 v6.2) ((F_27 G t v6 v8 S).bind (fun q2 => bif jcmp .ne q2.1 v2 then (F_89_169 G t k108 v1 v2 v3 v4 v6 v7 q2.2) else (some (v7, q2.2)))))
theorem F_89_148_ok {G : jG} {t : Nat} {k108 : (Nat × Nat) → Int32 → Int32 → Int32 → (Nat × Nat) → Int32 → sS → Option (Int32 × sS)} {r : Int32} {S' : sS} {Q : Option Value ⊕ Nat → jS → Prop} (hk108 : ∀ (v1 : (Nat × Nat)) (v2 : Int32) (v3 : Int32) (v4 : Int32) (v6 : (Nat × Nat)) (v7 : Int32) (S : sS) (lv : jL) (μ : jS), jld lv 0 = some (.ref (spl 22 0 0)) → jld lv 1 = some (.ref (spl 25 v1.1 v1.2)) → jld lv 2 = some (.int v2) → jld lv 3 = some (.int v3) → jld lv 4 = some (.int v4) → jld lv 6 = some (.ref (spl 29 v6.1 v6.2)) → jld lv 7 = some (.int v7) → sR S μ → k108 v1 v2 v3 v4 v6 v7 S = some (r, S') → jX G jP 89 108 lv [] μ Q) (K : ∀ μ', sR S' μ' → Q (srI r) μ') : ∀ (v1 : (Nat × Nat)) (v2 : Int32) (v3 : Int32) (v4 : Int32) (v6 : (Nat × Nat)) (v7 : Int32) (v8 : Int32) (w0 : Int32) (S : sS) (lv : jL) (μ : jS), jld lv 0 = some (.ref (spl 22 0 0)) → jld lv 1 = some (.ref (spl 25 v1.1 v1.2)) → jld lv 2 = some (.int v2) → jld lv 3 = some (.int v3) → jld lv 4 = some (.int v4) → jld lv 6 = some (.ref (spl 29 v6.1 v6.2)) → jld lv 7 = some (.int v7) → jld lv 8 = some (.int v8) → sR S μ → F_89_148 G t k108 v1 v2 v3 v4 v6 v7 v8 w0 S = some (r, S') → jX G jP 89 148 lv [.int w0] μ Q := by
  intro v1 v2 v3 v4 v6 v7 v8 w0 S lv μ l0 l1 l2 l3 l4 l6 l7 l8 R h
  unfold F_89_148 at h
  refine jX.s1 (k := 9) (pc' := 150) (by rfl) (by rfl) (by rfl) (fun lv l9 kp => (?_ : jX G jP 89 150 lv [] μ Q))
  replace l0 := kp 0 _ l0 (by rfl) (by first | rfl | simp [soR_cat])
  replace l1 := kp 1 _ l1 (by rfl) (by first | rfl | simp [soR_cat])
  replace l2 := kp 2 _ l2 (by rfl) (by first | rfl | simp [soR_cat])
  replace l3 := kp 3 _ l3 (by rfl) (by first | rfl | simp [soR_cat])
  replace l4 := kp 4 _ l4 (by rfl) (by first | rfl | simp [soR_cat])
  replace l6 := kp 6 _ l6 (by rfl) (by first | rfl | simp [soR_cat])
  replace l7 := kp 7 _ l7 (by rfl) (by first | rfl | simp [soR_cat])
  replace l8 := kp 8 _ l8 (by rfl) (by first | rfl | simp [soR_cat])
  refine jX.li l9 (by rfl) (by rfl) (?_ : jX G jP 89 152 lv [.int w0] μ Q)
  rcases bif_or h with ⟨hc, h⟩ | ⟨hc, h⟩
  · refine jX.b1t hc (by rfl) (by rfl) (by rfl) (?_ : jX G jP 89 169 lv [] μ Q)
    exact F_89_169_ok hk108 K v1 v2 v3 v4 v6 v7 _ _ _ l0 l1 l2 l3 l4 l6 l7 R h
  · refine jX.b1f hc (by rfl) (by rfl) (by rfl) (?_ : jX G jP 89 155 lv [] μ Q)
    refine jX.lr l6 (by rfl) (by rfl) (?_ : jX G jP 89 157 lv [.ref (spl 29 v6.1 v6.2)] μ Q)
    refine jX.li l8 (by rfl) (by rfl) (?_ : jX G jP 89 159 lv [.int v8, .ref (spl 29 v6.1 v6.2)] μ Q)
    obtain ⟨g1, h⟩ := jif_some h
    obtain ⟨q2, e2, h⟩ := sbd h
    refine jX.c1 (v := .int q2.1) (by rfl) (by rfl) (by rfl) (by rfl) (by rfl) (by rfl) (by rfl) (R.rec g1 (by rfl)) (Nat.le_of_ble_eq_true rfl) (Nat.le_of_ble_eq_true rfl) (F_27_ok R e2 (fun μ R => ⟨rfl, (?_ : jX G jP 89 162 lv [.int q2.1] μ Q)⟩))
    refine jX.lin l2 (by rfl) (by rfl) (?_ : jX G jP 89 163 lv [.int v2, .int q2.1] μ Q)
    rcases bif_or h with ⟨hc, h⟩ | ⟨hc, h⟩
    · refine jX.b2t hc (by rfl) (by rfl) (by rfl) (?_ : jX G jP 89 169 lv [] μ Q)
      exact F_89_169_ok hk108 K v1 v2 v3 v4 v6 v7 _ _ _ l0 l1 l2 l3 l4 l6 l7 R h
    · refine jX.b2f hc (by rfl) (by rfl) (by rfl) (?_ : jX G jP 89 166 lv [] μ Q)
      refine jX.li l7 (by rfl) (by rfl) (?_ : jX G jP 89 168 lv [.int v7] μ Q)
      exact jX.ret (by rfl) (by rfl) (by rfl) (by rfl) (sretv (f := srI) h K R)
def F_89_108 (G : jG) (t : Nat) : Nat → (Nat × Nat) → Int32 → Int32 → Int32 → (Nat × Nat) → Int32 → sS → Option (Int32 × sS)
  | 0 => fun _ _ _ _ _ _ _ => none
  | tt + 1 => fun v1 v2 v3 v4 v6 v7 S => jif (sex S.2.2.2.1 25 v1.1 v1.2) (bif jcmp .ge v7 (S.1 25 v1.1 v1.2 6) then (some ((-1), S)) else ((F_88 G t v1 v6 v7 S).bind (fun q2 => jif (sex q2.2.2.2.2.1 29 v6.1 v6.2) ((F_26 G t v6 (q2.1 + (nI 1)) q2.2).bind (fun q4 => bif jcmp .eq (lg_cmp q4.1 0) 0 then (F_89_148 G t (F_89_108 G t tt) v1 v2 v3 v4 v6 v7 q2.1 v4 q4.2) else (F_89_148 G t (F_89_108 G t tt) v1 v2 v3 v4 v6 v7 q2.1 v3 q4.2))))))
theorem F_89_108_ok {G : jG} {t : Nat} {r : Int32} {S' : sS} {Q : Option Value ⊕ Nat → jS → Prop} (K : ∀ μ', sR S' μ' → Q (srI r) μ') : ∀ tt : Nat, ∀ (v1 : (Nat × Nat)) (v2 : Int32) (v3 : Int32) (v4 : Int32) (v6 : (Nat × Nat)) (v7 : Int32) (S : sS) (lv : jL) (μ : jS), jld lv 0 = some (.ref (spl 22 0 0)) → jld lv 1 = some (.ref (spl 25 v1.1 v1.2)) → jld lv 2 = some (.int v2) → jld lv 3 = some (.int v3) → jld lv 4 = some (.int v4) → jld lv 6 = some (.ref (spl 29 v6.1 v6.2)) → jld lv 7 = some (.int v7) → sR S μ → F_89_108 G t tt v1 v2 v3 v4 v6 v7 S = some (r, S') → jX G jP 89 108 lv [] μ Q := by
  intro tt
  induction tt with
  | zero =>
    intro v1 v2 v3 v4 v6 v7 S lv μ l0 l1 l2 l3 l4 l6 l7 R h
    rw [F_89_108] at h
    cases h
  | succ tt ih =>
    intro v1 v2 v3 v4 v6 v7 S lv μ l0 l1 l2 l3 l4 l6 l7 R h
    rw [F_89_108] at h
    refine jX.li l7 (by rfl) (by rfl) (?_ : jX G jP 89 110 lv [.int v7] μ Q)
    refine jX.lrn l1 (by rfl) (by rfl) (?_ : jX G jP 89 111 lv [.ref (spl 25 v1.1 v1.2), .int v7] μ Q)
    obtain ⟨g1, h⟩ := jif_some h
    refine jX.sg R g1 (by rfl) (by rfl) (by rfl) (by rfl) (by rfl) (?_ : jX G jP 89 114 lv [.int (S.1 25 v1.1 v1.2 6), .int v7] μ Q)
    rcases bif_or h with ⟨hc, h⟩ | ⟨hc, h⟩
    · refine jX.b2t hc (by rfl) (by rfl) (by rfl) (?_ : jX G jP 89 175 lv [] μ Q)
      refine jX.ic (v := (-1)) (n := 1) (by rfl) (by rfl) (by decide) (?_ : jX G jP 89 176 lv [.int (-1)] μ Q)
      exact jX.ret (by rfl) (by rfl) (by rfl) (by rfl) (sretv (f := srI) h K R)
    · refine jX.b2f hc (by rfl) (by rfl) (by rfl) (?_ : jX G jP 89 117 lv [] μ Q)
      refine jX.lrn l0 (by rfl) (by rfl) (?_ : jX G jP 89 118 lv [.ref (spl 22 0 0)] μ Q)
      refine jX.lrn l1 (by rfl) (by rfl) (?_ : jX G jP 89 119 lv [.ref (spl 25 v1.1 v1.2), .ref (spl 22 0 0)] μ Q)
      refine jX.lr l6 (by rfl) (by rfl) (?_ : jX G jP 89 121 lv [.ref (spl 29 v6.1 v6.2), .ref (spl 25 v1.1 v1.2), .ref (spl 22 0 0)] μ Q)
      refine jX.li l7 (by rfl) (by rfl) (?_ : jX G jP 89 123 lv [.int v7, .ref (spl 29 v6.1 v6.2), .ref (spl 25 v1.1 v1.2), .ref (spl 22 0 0)] μ Q)
      obtain ⟨q2, e2, h⟩ := sbd h
      refine jX.c1 (v := .int q2.1) (by rfl) (by rfl) (by rfl) (by rfl) (by rfl) (by rfl) (by rfl) (R.rec (by rfl) (by rfl)) (Nat.le_of_ble_eq_true rfl) (Nat.le_of_ble_eq_true rfl) (F_88_ok R e2 (fun μ R => ⟨rfl, (?_ : jX G jP 89 126 lv [.int q2.1] μ Q)⟩))
      refine jX.s1 (k := 8) (pc' := 128) (by rfl) (by rfl) (by rfl) (fun lv l8 kp => (?_ : jX G jP 89 128 lv [] μ Q))
      replace l0 := kp 0 _ l0 (by rfl) (by first | rfl | simp [soR_cat])
      replace l1 := kp 1 _ l1 (by rfl) (by first | rfl | simp [soR_cat])
      replace l2 := kp 2 _ l2 (by rfl) (by first | rfl | simp [soR_cat])
      replace l3 := kp 3 _ l3 (by rfl) (by first | rfl | simp [soR_cat])
      replace l4 := kp 4 _ l4 (by rfl) (by first | rfl | simp [soR_cat])
      replace l6 := kp 6 _ l6 (by rfl) (by first | rfl | simp [soR_cat])
      replace l7 := kp 7 _ l7 (by rfl) (by first | rfl | simp [soR_cat])
      refine jX.lr l6 (by rfl) (by rfl) (?_ : jX G jP 89 130 lv [.ref (spl 29 v6.1 v6.2)] μ Q)
      refine jX.li l8 (by rfl) (by rfl) (?_ : jX G jP 89 132 lv [.int q2.1, .ref (spl 29 v6.1 v6.2)] μ Q)
      refine jX.ic (v := nI 1) (n := 1) (by rfl) (by rfl) (by decide) (?_ : jX G jP 89 133 lv [.int (nI 1), .int q2.1, .ref (spl 29 v6.1 v6.2)] μ Q)
      refine jX.go (by rfl) (by rfl) (by rfl) (?_ : jX G jP 89 134 lv [.int (q2.1 + (nI 1)), .ref (spl 29 v6.1 v6.2)] μ Q)
      obtain ⟨g3, h⟩ := jif_some h
      obtain ⟨q4, e4, h⟩ := sbd h
      refine jX.c1 (v := .long q4.1) (by rfl) (by rfl) (by rfl) (by rfl) (by rfl) (by rfl) (by rfl) (R.rec g3 (by rfl)) (Nat.le_of_ble_eq_true rfl) (Nat.le_of_ble_eq_true rfl) (F_26_ok R e4 (fun μ R => ⟨rfl, (?_ : jX G jP 89 137 lv [.long q4.1] μ Q)⟩))
      refine jX.go (by rfl) (by rfl) (by rfl) (?_ : jX G jP 89 138 lv [.long 0, .long q4.1] μ Q)
      refine jX.go (by rfl) (by rfl) (by rfl) (?_ : jX G jP 89 139 lv [.int (lg_cmp q4.1 0)] μ Q)
      rcases bif_or h with ⟨hc, h⟩ | ⟨hc, h⟩
      · refine jX.b1t hc (by rfl) (by rfl) (by rfl) (?_ : jX G jP 89 146 lv [] μ Q)
        refine jX.li l4 (by rfl) (by rfl) (?_ : jX G jP 89 148 lv [.int v4] μ Q)
        exact F_89_148_ok ih K v1 v2 v3 v4 v6 v7 q2.1 v4 _ _ _ l0 l1 l2 l3 l4 l6 l7 l8 R h
      · refine jX.b1f hc (by rfl) (by rfl) (by rfl) (?_ : jX G jP 89 142 lv [] μ Q)
        refine jX.lin l3 (by rfl) (by rfl) (?_ : jX G jP 89 143 lv [.int v3] μ Q)
        refine jX.go (by rfl) (by rfl) (by rfl) (?_ : jX G jP 89 148 lv [.int v3] μ Q)
        exact F_89_148_ok ih K v1 v2 v3 v4 v6 v7 q2.1 v3 _ _ _ l0 l1 l2 l3 l4 l6 l7 l8 R h
def F_89 (G : jG) (t : Nat) (v1 : (Nat × Nat)) (v2 : Int32) (v3 : Int32) (v4 : Int32) (S : sS) : Option (Int32 × sS) := jif (sex S.2.2.2.1 25 v1.1 v1.2) ((F_66 G t v1 S).bind (fun q2 => sif q2.1 (some ((-1), q2.2)) (fun a3 => jif (sex q2.2.2.2.2.1 27 a3.1 a3.2) (jif (sex q2.2.2.2.2.1 25 v1.1 v1.2) (bif decide ((q2.2.1 25 v1.1 v1.2 4).toInt < 2 ∨ 4 < (q2.2.1 25 v1.1 v1.2 4).toInt) then (some ((-1), q2.2)) else (bif decide (q2.2.1 25 v1.1 v1.2 4 = nI 2) then (bif jcmp .eq v3 0 then (some ((-1), q2.2)) else (jif (sex q2.2.2.2.2.1 29 a3.1 1) ((F_27 G t (a3.1, 1) ((q2.2.1 29 a3.1 1 2) - (nI 2)) q2.2).bind (fun q7 => bif jcmp .ne q7.1 v2 then (some ((-1), q7.2)) else (some ((nI 0), q7.2)))))) else (bif decide (q2.2.1 25 v1.1 v1.2 4 = nI 3) then (bif jcmp .eq v4 0 then (some ((-1), q2.2)) else (jif (sex q2.2.2.2.2.1 29 a3.1 1) ((F_27 G t (a3.1, 1) ((q2.2.1 29 a3.1 1 2) - (nI 1)) q2.2).bind (fun q9 => bif jcmp .ne q9.1 v2 then (some ((-1), q9.2)) else (some ((nI 0), q9.2)))))) else (bif decide (q2.2.1 25 v1.1 v1.2 4 = nI 4) then (F_89_108 G t t v1 v2 v3 v4 (a3.1, 1) (nI 0) q2.2) else (none)))))))))
theorem F_89_ok {G : jG} {t : Nat} {v1 : (Nat × Nat)} {v2 : Int32} {v3 : Int32} {v4 : Int32} {S : sS} {r : Int32} {S' : sS} {μ : jS} {Q : Option Value ⊕ Nat → jS → Prop} (R : sR S μ) (h : F_89 G t v1 v2 v3 v4 S = some (r, S')) (K : ∀ μ', sR S' μ' → Q (srI r) μ') : jX G jP 89 0 (lv_args 0 [.ref (spl 22 0 0), .ref (spl 25 v1.1 v1.2), .int v2, .int v3, .int v4]) [] μ Q := by
  unfold F_89 at h
  have l0 : jld (lv_args 0 [.ref (spl 22 0 0), .ref (spl 25 v1.1 v1.2), .int v2, .int v3, .int v4]) 0 = some (.ref (spl 22 0 0)) := by rfl
  have l1 : jld (lv_args 0 [.ref (spl 22 0 0), .ref (spl 25 v1.1 v1.2), .int v2, .int v3, .int v4]) 1 = some (.ref (spl 25 v1.1 v1.2)) := by rfl
  have l2 : jld (lv_args 0 [.ref (spl 22 0 0), .ref (spl 25 v1.1 v1.2), .int v2, .int v3, .int v4]) 2 = some (.int v2) := by rfl
  have l3 : jld (lv_args 0 [.ref (spl 22 0 0), .ref (spl 25 v1.1 v1.2), .int v2, .int v3, .int v4]) 3 = some (.int v3) := by rfl
  have l4 : jld (lv_args 0 [.ref (spl 22 0 0), .ref (spl 25 v1.1 v1.2), .int v2, .int v3, .int v4]) 4 = some (.int v4) := by rfl
  generalize lv_args 0 [.ref (spl 22 0 0), .ref (spl 25 v1.1 v1.2), .int v2, .int v3, .int v4] = lv at *
  refine jX.lrn l1 (by rfl) (by rfl) (?_ : jX G jP 89 1 lv [.ref (spl 25 v1.1 v1.2)] μ Q)
  obtain ⟨g1, h⟩ := jif_some h
  obtain ⟨q2, e2, h⟩ := sbd h
  refine jX.c1 (v := soR 27 q2.1) (by rfl) (by rfl) (by rfl) (by rfl) (by rfl) (by rfl) (by rfl) (R.rec g1 (by rfl)) (Nat.le_of_ble_eq_true rfl) (Nat.le_of_ble_eq_true rfl) (F_66_ok R e2 (fun μ R => ⟨rfl, (?_ : jX G jP 89 4 lv [soR 27 q2.1] μ Q)⟩))
  refine jX.so (k := 5) (pc' := 6) (by rfl) (by rfl) (fun _ => by rfl) (by rfl) (fun lv l5 kp => (?_ : jX G jP 89 6 lv [] μ Q))
  replace l0 := kp 0 _ l0 (by rfl) (by first | rfl | simp [soR_cat])
  replace l1 := kp 1 _ l1 (by rfl) (by first | rfl | simp [soR_cat])
  replace l2 := kp 2 _ l2 (by rfl) (by first | rfl | simp [soR_cat])
  replace l3 := kp 3 _ l3 (by rfl) (by first | rfl | simp [soR_cat])
  replace l4 := kp 4 _ l4 (by rfl) (by first | rfl | simp [soR_cat])
  refine jX.lo l5 (by rfl) (by rfl) (?_ : jX G jP 89 8 lv [soR 27 q2.1] μ Q)
  rcases sif_or h with ⟨e3, h⟩ | ⟨a3, e3, h⟩
  · rw [soR_none (t := 27) e3]
    rw [soR_none (t := 27) e3] at l5
    refine jX.go (by rfl) (by rfl) (by rfl) (?_ : jX G jP 89 11 lv [] μ Q)
    refine jX.ic (v := (-1)) (n := 1) (by rfl) (by rfl) (by decide) (?_ : jX G jP 89 12 lv [.int (-1)] μ Q)
    exact jX.ret (by rfl) (by rfl) (by rfl) (by rfl) (sretv (f := srI) h K R)
  · rw [soR_some (t := 27) e3]
    rw [soR_some (t := 27) e3] at l5
    refine jX.go (by rfl) (by rfl) (by rfl) (?_ : jX G jP 89 13 lv [] μ Q)
    refine jX.lr l5 (by rfl) (by rfl) (?_ : jX G jP 89 15 lv [.ref (spl 27 a3.1 a3.2)] μ Q)
    obtain ⟨g4, h⟩ := jif_some h
    refine jX.sg R g4 (by rfl) (by rfl) (by rfl) (by rfl) (by rfl) (?_ : jX G jP 89 18 lv [.ref (spl 29 a3.1 1)] μ Q)
    refine jX.s1 (k := 6) (pc' := 20) (by rfl) (by rfl) (by rfl) (fun lv l6 kp => (?_ : jX G jP 89 20 lv [] μ Q))
    replace l0 := kp 0 _ l0 (by rfl) (by first | rfl | simp [soR_cat])
    replace l1 := kp 1 _ l1 (by rfl) (by first | rfl | simp [soR_cat])
    replace l2 := kp 2 _ l2 (by rfl) (by first | rfl | simp [soR_cat])
    replace l3 := kp 3 _ l3 (by rfl) (by first | rfl | simp [soR_cat])
    replace l4 := kp 4 _ l4 (by rfl) (by first | rfl | simp [soR_cat])
    refine jX.lrn l1 (by rfl) (by rfl) (?_ : jX G jP 89 21 lv [.ref (spl 25 v1.1 v1.2)] μ Q)
    obtain ⟨g5, h⟩ := jif_some h
    refine jX.sg R g5 (by rfl) (by rfl) (by rfl) (by rfl) (by rfl) (?_ : jX G jP 89 24 lv [.int (q2.2.1 25 v1.1 v1.2 4)] μ Q)
    rcases bif_or h with ⟨hc, h⟩ | ⟨-, h⟩
    · refine jX.swd hc (by rfl) (by rfl) (by rfl) (?_ : jX G jP 89 177 lv [] μ Q)
      refine jX.ic (v := (-1)) (n := 1) (by rfl) (by rfl) (by decide) (?_ : jX G jP 89 178 lv [.int (-1)] μ Q)
      exact jX.ret (by rfl) (by rfl) (by rfl) (by rfl) (sretv (f := srI) h K R)
    rcases bif_or h with ⟨hc, h⟩ | ⟨-, h⟩
    · refine jX.swn hc (by rfl) (by rfl) (by rfl) (?_ : jX G jP 89 52 lv [] μ Q)
      refine jX.lin l3 (by rfl) (by rfl) (?_ : jX G jP 89 53 lv [.int v3] μ Q)
      rcases bif_or h with ⟨hc, h⟩ | ⟨hc, h⟩
      · refine jX.b1t hc (by rfl) (by rfl) (by rfl) (?_ : jX G jP 89 76 lv [] μ Q)
        refine jX.ic (v := (-1)) (n := 1) (by rfl) (by rfl) (by decide) (?_ : jX G jP 89 77 lv [.int (-1)] μ Q)
        exact jX.ret (by rfl) (by rfl) (by rfl) (by rfl) (sretv (f := srI) h K R)
      · refine jX.b1f hc (by rfl) (by rfl) (by rfl) (?_ : jX G jP 89 56 lv [] μ Q)
        refine jX.lr l6 (by rfl) (by rfl) (?_ : jX G jP 89 58 lv [.ref (spl 29 a3.1 1)] μ Q)
        refine jX.lr l6 (by rfl) (by rfl) (?_ : jX G jP 89 60 lv [.ref (spl 29 a3.1 1), .ref (spl 29 a3.1 1)] μ Q)
        obtain ⟨g6, h⟩ := jif_some h
        refine jX.sg R g6 (by rfl) (by rfl) (by rfl) (by rfl) (by rfl) (?_ : jX G jP 89 63 lv [.int (q2.2.1 29 a3.1 1 2), .ref (spl 29 a3.1 1)] μ Q)
        refine jX.ic (v := nI 2) (n := 1) (by rfl) (by rfl) (by decide) (?_ : jX G jP 89 64 lv [.int (nI 2), .int (q2.2.1 29 a3.1 1 2), .ref (spl 29 a3.1 1)] μ Q)
        refine jX.go (by rfl) (by rfl) (by rfl) (?_ : jX G jP 89 65 lv [.int ((q2.2.1 29 a3.1 1 2) - (nI 2)), .ref (spl 29 a3.1 1)] μ Q)
        obtain ⟨q7, e7, h⟩ := sbd h
        refine jX.c1 (v := .int q7.1) (by rfl) (by rfl) (by rfl) (by rfl) (by rfl) (by rfl) (by rfl) (R.rec g6 (by rfl)) (Nat.le_of_ble_eq_true rfl) (Nat.le_of_ble_eq_true rfl) (F_27_ok R e7 (fun μ R => ⟨rfl, (?_ : jX G jP 89 68 lv [.int q7.1] μ Q)⟩))
        refine jX.lin l2 (by rfl) (by rfl) (?_ : jX G jP 89 69 lv [.int v2, .int q7.1] μ Q)
        rcases bif_or h with ⟨hc, h⟩ | ⟨hc, h⟩
        · refine jX.b2t hc (by rfl) (by rfl) (by rfl) (?_ : jX G jP 89 76 lv [] μ Q)
          refine jX.ic (v := (-1)) (n := 1) (by rfl) (by rfl) (by decide) (?_ : jX G jP 89 77 lv [.int (-1)] μ Q)
          exact jX.ret (by rfl) (by rfl) (by rfl) (by rfl) (sretv (f := srI) h K R)
        · refine jX.b2f hc (by rfl) (by rfl) (by rfl) (?_ : jX G jP 89 72 lv [] μ Q)
          refine jX.ic (v := nI 0) (n := 1) (by rfl) (by rfl) (by decide) (?_ : jX G jP 89 73 lv [.int (nI 0)] μ Q)
          refine jX.go (by rfl) (by rfl) (by rfl) (?_ : jX G jP 89 77 lv [.int (nI 0)] μ Q)
          exact jX.ret (by rfl) (by rfl) (by rfl) (by rfl) (sretv (f := srI) h K R)
    rcases bif_or h with ⟨hc, h⟩ | ⟨-, h⟩
    · refine jX.swn hc (by rfl) (by rfl) (by rfl) (?_ : jX G jP 89 78 lv [] μ Q)
      refine jX.li l4 (by rfl) (by rfl) (?_ : jX G jP 89 80 lv [.int v4] μ Q)
      rcases bif_or h with ⟨hc, h⟩ | ⟨hc, h⟩
      · refine jX.b1t hc (by rfl) (by rfl) (by rfl) (?_ : jX G jP 89 103 lv [] μ Q)
        refine jX.ic (v := (-1)) (n := 1) (by rfl) (by rfl) (by decide) (?_ : jX G jP 89 104 lv [.int (-1)] μ Q)
        exact jX.ret (by rfl) (by rfl) (by rfl) (by rfl) (sretv (f := srI) h K R)
      · refine jX.b1f hc (by rfl) (by rfl) (by rfl) (?_ : jX G jP 89 83 lv [] μ Q)
        refine jX.lr l6 (by rfl) (by rfl) (?_ : jX G jP 89 85 lv [.ref (spl 29 a3.1 1)] μ Q)
        refine jX.lr l6 (by rfl) (by rfl) (?_ : jX G jP 89 87 lv [.ref (spl 29 a3.1 1), .ref (spl 29 a3.1 1)] μ Q)
        obtain ⟨g8, h⟩ := jif_some h
        refine jX.sg R g8 (by rfl) (by rfl) (by rfl) (by rfl) (by rfl) (?_ : jX G jP 89 90 lv [.int (q2.2.1 29 a3.1 1 2), .ref (spl 29 a3.1 1)] μ Q)
        refine jX.ic (v := nI 1) (n := 1) (by rfl) (by rfl) (by decide) (?_ : jX G jP 89 91 lv [.int (nI 1), .int (q2.2.1 29 a3.1 1 2), .ref (spl 29 a3.1 1)] μ Q)
        refine jX.go (by rfl) (by rfl) (by rfl) (?_ : jX G jP 89 92 lv [.int ((q2.2.1 29 a3.1 1 2) - (nI 1)), .ref (spl 29 a3.1 1)] μ Q)
        obtain ⟨q9, e9, h⟩ := sbd h
        refine jX.c1 (v := .int q9.1) (by rfl) (by rfl) (by rfl) (by rfl) (by rfl) (by rfl) (by rfl) (R.rec g8 (by rfl)) (Nat.le_of_ble_eq_true rfl) (Nat.le_of_ble_eq_true rfl) (F_27_ok R e9 (fun μ R => ⟨rfl, (?_ : jX G jP 89 95 lv [.int q9.1] μ Q)⟩))
        refine jX.lin l2 (by rfl) (by rfl) (?_ : jX G jP 89 96 lv [.int v2, .int q9.1] μ Q)
        rcases bif_or h with ⟨hc, h⟩ | ⟨hc, h⟩
        · refine jX.b2t hc (by rfl) (by rfl) (by rfl) (?_ : jX G jP 89 103 lv [] μ Q)
          refine jX.ic (v := (-1)) (n := 1) (by rfl) (by rfl) (by decide) (?_ : jX G jP 89 104 lv [.int (-1)] μ Q)
          exact jX.ret (by rfl) (by rfl) (by rfl) (by rfl) (sretv (f := srI) h K R)
        · refine jX.b2f hc (by rfl) (by rfl) (by rfl) (?_ : jX G jP 89 99 lv [] μ Q)
          refine jX.ic (v := nI 0) (n := 1) (by rfl) (by rfl) (by decide) (?_ : jX G jP 89 100 lv [.int (nI 0)] μ Q)
          refine jX.go (by rfl) (by rfl) (by rfl) (?_ : jX G jP 89 104 lv [.int (nI 0)] μ Q)
          exact jX.ret (by rfl) (by rfl) (by rfl) (by rfl) (sretv (f := srI) h K R)
    rcases bif_or h with ⟨hc, h⟩ | ⟨-, h⟩
    · refine jX.swn hc (by rfl) (by rfl) (by rfl) (?_ : jX G jP 89 105 lv [] μ Q)
      refine jX.ic (v := nI 0) (n := 1) (by rfl) (by rfl) (by decide) (?_ : jX G jP 89 106 lv [.int (nI 0)] μ Q)
      refine jX.s1 (k := 7) (pc' := 108) (by rfl) (by rfl) (by rfl) (fun lv l7 kp => (?_ : jX G jP 89 108 lv [] μ Q))
      replace l0 := kp 0 _ l0 (by rfl) (by first | rfl | simp [soR_cat])
      replace l1 := kp 1 _ l1 (by rfl) (by first | rfl | simp [soR_cat])
      replace l2 := kp 2 _ l2 (by rfl) (by first | rfl | simp [soR_cat])
      replace l3 := kp 3 _ l3 (by rfl) (by first | rfl | simp [soR_cat])
      replace l4 := kp 4 _ l4 (by rfl) (by first | rfl | simp [soR_cat])
      replace l6 := kp 6 _ l6 (by rfl) (by first | rfl | simp [soR_cat])
      exact F_89_108_ok  K _ v1 v2 v3 v4 (a3.1, 1) (nI 0) _ _ _ l0 l1 l2 l3 l4 l6 l7 R h
    cases h
/-! 90 StrandRuntime$Channels.longestWaiting(IZZ)LStrandRuntime$Strand; -/
def F_90_72 (G : jG) (t : Nat) (k6 : Int32 → Int32 → Int32 → (Option (Nat × Nat)) → Int32 → sS → Option ((Option (Nat × Nat)) × sS)) (v1 : Int32) (v2 : Int32) (v3 : Int32) (v4 : (Option (Nat × Nat))) (v5 : Int32) (S : sS) : Option ((Option (Nat × Nat)) × sS) := k6 v1 v2 v3 v4 (v5 + Int32.ofInt 1) S
theorem F_90_72_ok {G : jG} {t : Nat} {k6 : Int32 → Int32 → Int32 → (Option (Nat × Nat)) → Int32 → sS → Option ((Option (Nat × Nat)) × sS)} {r : (Option (Nat × Nat))} {S' : sS} {Q : Option Value ⊕ Nat → jS → Prop} (hk6 : ∀ (v1 : Int32) (v2 : Int32) (v3 : Int32) (v4 : (Option (Nat × Nat))) (v5 : Int32) (S : sS) (lv : jL) (μ : jS), jld lv 0 = some (.ref (spl 22 0 0)) → jld lv 1 = some (.int v1) → jld lv 2 = some (.int v2) → jld lv 3 = some (.int v3) → jld lv 4 = some (soR 25 v4) → jld lv 5 = some (.int v5) → sR S μ → k6 v1 v2 v3 v4 v5 S = some (r, S') → jX G jP 90 6 lv [] μ Q) (K : ∀ μ', sR S' μ' → Q ((srO 25) r) μ') : ∀ (v1 : Int32) (v2 : Int32) (v3 : Int32) (v4 : (Option (Nat × Nat))) (v5 : Int32) (S : sS) (lv : jL) (μ : jS), jld lv 0 = some (.ref (spl 22 0 0)) → jld lv 1 = some (.int v1) → jld lv 2 = some (.int v2) → jld lv 3 = some (.int v3) → jld lv 4 = some (soR 25 v4) → jld lv 5 = some (.int v5) → sR S μ → F_90_72 G t k6 v1 v2 v3 v4 v5 S = some (r, S') → jX G jP 90 72 lv [] μ Q := by
  intro v1 v2 v3 v4 v5 S lv μ l0 l1 l2 l3 l4 l5 R h
  unfold F_90_72 at h
  refine jX.inc l5 (by rfl) (by rfl) (by rfl) (fun lv l5 kp => (?_ : jX G jP 90 75 lv [] μ Q))
  replace l0 := kp 0 _ l0 (by rfl) (by first | rfl | simp [soR_cat])
  replace l1 := kp 1 _ l1 (by rfl) (by first | rfl | simp [soR_cat])
  replace l2 := kp 2 _ l2 (by rfl) (by first | rfl | simp [soR_cat])
  replace l3 := kp 3 _ l3 (by rfl) (by first | rfl | simp [soR_cat])
  replace l4 := kp 4 _ l4 (by rfl) (by first | rfl | simp [soR_cat])
  refine jX.go (by rfl) (by rfl) (by rfl) (?_ : jX G jP 90 6 lv [] μ Q)
  exact hk6 v1 v2 v3 v4 (v5 + Int32.ofInt 1) _ _ _ l0 l1 l2 l3 l4 l5 R h
def F_90_48 (G : jG) (t : Nat) (k6 : Int32 → Int32 → Int32 → (Option (Nat × Nat)) → Int32 → sS → Option ((Option (Nat × Nat)) × sS)) (v1 : Int32) (v2 : Int32) (v3 : Int32) (v4 : (Option (Nat × Nat))) (v5 : Int32) (v6 : (Nat × Nat)) (w0 : Int32) (S : sS) : Option ((Option (Nat × Nat)) × sS) := bif jcmp .eq w0 0 then (F_90_72 G t k6 v1 v2 v3 v4 v5 S) else ((F_89 G t v6 v1 v2 v3 S).bind (fun q1 => bif jcmp .eq q1.1 (-1) then (F_90_72 G t k6 v1 v2 v3 v4 v5 q1.2) else (F_90_72 G t k6 v1 v2 v3 (some (v6.1, v6.2)) v5 q1.2)))
theorem F_90_48_ok {G : jG} {t : Nat} {k6 : Int32 → Int32 → Int32 → (Option (Nat × Nat)) → Int32 → sS → Option ((Option (Nat × Nat)) × sS)} {r : (Option (Nat × Nat))} {S' : sS} {Q : Option Value ⊕ Nat → jS → Prop} (hk6 : ∀ (v1 : Int32) (v2 : Int32) (v3 : Int32) (v4 : (Option (Nat × Nat))) (v5 : Int32) (S : sS) (lv : jL) (μ : jS), jld lv 0 = some (.ref (spl 22 0 0)) → jld lv 1 = some (.int v1) → jld lv 2 = some (.int v2) → jld lv 3 = some (.int v3) → jld lv 4 = some (soR 25 v4) → jld lv 5 = some (.int v5) → sR S μ → k6 v1 v2 v3 v4 v5 S = some (r, S') → jX G jP 90 6 lv [] μ Q) (K : ∀ μ', sR S' μ' → Q ((srO 25) r) μ') : ∀ (v1 : Int32) (v2 : Int32) (v3 : Int32) (v4 : (Option (Nat × Nat))) (v5 : Int32) (v6 : (Nat × Nat)) (w0 : Int32) (S : sS) (lv : jL) (μ : jS), jld lv 0 = some (.ref (spl 22 0 0)) → jld lv 1 = some (.int v1) → jld lv 2 = some (.int v2) → jld lv 3 = some (.int v3) → jld lv 4 = some (soR 25 v4) → jld lv 5 = some (.int v5) → jld lv 6 = some (.ref (spl 25 v6.1 v6.2)) → sR S μ → F_90_48 G t k6 v1 v2 v3 v4 v5 v6 w0 S = some (r, S') → jX G jP 90 48 lv [.int w0] μ Q := by
  intro v1 v2 v3 v4 v5 v6 w0 S lv μ l0 l1 l2 l3 l4 l5 l6 R h
  unfold F_90_48 at h
  refine jX.s1 (k := 7) (pc' := 50) (by rfl) (by rfl) (by rfl) (fun lv l7 kp => (?_ : jX G jP 90 50 lv [] μ Q))
  replace l0 := kp 0 _ l0 (by rfl) (by first | rfl | simp [soR_cat])
  replace l1 := kp 1 _ l1 (by rfl) (by first | rfl | simp [soR_cat])
  replace l2 := kp 2 _ l2 (by rfl) (by first | rfl | simp [soR_cat])
  replace l3 := kp 3 _ l3 (by rfl) (by first | rfl | simp [soR_cat])
  replace l4 := kp 4 _ l4 (by rfl) (by first | rfl | simp [soR_cat])
  replace l5 := kp 5 _ l5 (by rfl) (by first | rfl | simp [soR_cat])
  replace l6 := kp 6 _ l6 (by rfl) (by first | rfl | simp [soR_cat])
  refine jX.li l7 (by rfl) (by rfl) (?_ : jX G jP 90 52 lv [.int w0] μ Q)
  rcases bif_or h with ⟨hc, h⟩ | ⟨hc, h⟩
  · refine jX.b1t hc (by rfl) (by rfl) (by rfl) (?_ : jX G jP 90 72 lv [] μ Q)
    exact F_90_72_ok hk6 K v1 v2 v3 v4 v5 _ _ _ l0 l1 l2 l3 l4 l5 R h
  · refine jX.b1f hc (by rfl) (by rfl) (by rfl) (?_ : jX G jP 90 55 lv [] μ Q)
    refine jX.lrn l0 (by rfl) (by rfl) (?_ : jX G jP 90 56 lv [.ref (spl 22 0 0)] μ Q)
    refine jX.lr l6 (by rfl) (by rfl) (?_ : jX G jP 90 58 lv [.ref (spl 25 v6.1 v6.2), .ref (spl 22 0 0)] μ Q)
    refine jX.lin l1 (by rfl) (by rfl) (?_ : jX G jP 90 59 lv [.int v1, .ref (spl 25 v6.1 v6.2), .ref (spl 22 0 0)] μ Q)
    refine jX.lin l2 (by rfl) (by rfl) (?_ : jX G jP 90 60 lv [.int v2, .int v1, .ref (spl 25 v6.1 v6.2), .ref (spl 22 0 0)] μ Q)
    refine jX.lin l3 (by rfl) (by rfl) (?_ : jX G jP 90 61 lv [.int v3, .int v2, .int v1, .ref (spl 25 v6.1 v6.2), .ref (spl 22 0 0)] μ Q)
    obtain ⟨q1, e1, h⟩ := sbd h
    refine jX.c1 (v := .int q1.1) (by rfl) (by rfl) (by rfl) (by rfl) (by rfl) (by rfl) (by rfl) (R.rec (by rfl) (by rfl)) (Nat.le_of_ble_eq_true rfl) (Nat.le_of_ble_eq_true rfl) (F_89_ok R e1 (fun μ R => ⟨rfl, (?_ : jX G jP 90 64 lv [.int q1.1] μ Q)⟩))
    refine jX.ic (v := (-1)) (n := 1) (by rfl) (by rfl) (by decide) (?_ : jX G jP 90 65 lv [.int (-1), .int q1.1] μ Q)
    rcases bif_or h with ⟨hc, h⟩ | ⟨hc, h⟩
    · refine jX.b2t hc (by rfl) (by rfl) (by rfl) (?_ : jX G jP 90 72 lv [] μ Q)
      exact F_90_72_ok hk6 K v1 v2 v3 v4 v5 _ _ _ l0 l1 l2 l3 l4 l5 R h
    · refine jX.b2f hc (by rfl) (by rfl) (by rfl) (?_ : jX G jP 90 68 lv [] μ Q)
      refine jX.lr l6 (by rfl) (by rfl) (?_ : jX G jP 90 70 lv [.ref (spl 25 v6.1 v6.2)] μ Q)
      refine jX.s1 (k := 4) (pc' := 72) (by rfl) (by rfl) (by rfl) (fun lv l4 kp => (?_ : jX G jP 90 72 lv [] μ Q))
      replace l0 := kp 0 _ l0 (by rfl) (by first | rfl | simp [soR_cat])
      replace l1 := kp 1 _ l1 (by rfl) (by first | rfl | simp [soR_cat])
      replace l2 := kp 2 _ l2 (by rfl) (by first | rfl | simp [soR_cat])
      replace l3 := kp 3 _ l3 (by rfl) (by first | rfl | simp [soR_cat])
      replace l5 := kp 5 _ l5 (by rfl) (by first | rfl | simp [soR_cat])
      exact F_90_72_ok hk6 K v1 v2 v3 (some (v6.1, v6.2)) v5 _ _ _ l0 l1 l2 l3 l4 l5 R h
def F_90_43 (G : jG) (t : Nat) (k6 : Int32 → Int32 → Int32 → (Option (Nat × Nat)) → Int32 → sS → Option ((Option (Nat × Nat)) × sS)) (v1 : Int32) (v2 : Int32) (v3 : Int32) (v4 : (Option (Nat × Nat))) (v5 : Int32) (v6 : (Nat × Nat)) (S : sS) : Option ((Option (Nat × Nat)) × sS) := F_90_48 G t k6 v1 v2 v3 v4 v5 v6 (nI 1) S
theorem F_90_43_ok {G : jG} {t : Nat} {k6 : Int32 → Int32 → Int32 → (Option (Nat × Nat)) → Int32 → sS → Option ((Option (Nat × Nat)) × sS)} {r : (Option (Nat × Nat))} {S' : sS} {Q : Option Value ⊕ Nat → jS → Prop} (hk6 : ∀ (v1 : Int32) (v2 : Int32) (v3 : Int32) (v4 : (Option (Nat × Nat))) (v5 : Int32) (S : sS) (lv : jL) (μ : jS), jld lv 0 = some (.ref (spl 22 0 0)) → jld lv 1 = some (.int v1) → jld lv 2 = some (.int v2) → jld lv 3 = some (.int v3) → jld lv 4 = some (soR 25 v4) → jld lv 5 = some (.int v5) → sR S μ → k6 v1 v2 v3 v4 v5 S = some (r, S') → jX G jP 90 6 lv [] μ Q) (K : ∀ μ', sR S' μ' → Q ((srO 25) r) μ') : ∀ (v1 : Int32) (v2 : Int32) (v3 : Int32) (v4 : (Option (Nat × Nat))) (v5 : Int32) (v6 : (Nat × Nat)) (S : sS) (lv : jL) (μ : jS), jld lv 0 = some (.ref (spl 22 0 0)) → jld lv 1 = some (.int v1) → jld lv 2 = some (.int v2) → jld lv 3 = some (.int v3) → jld lv 4 = some (soR 25 v4) → jld lv 5 = some (.int v5) → jld lv 6 = some (.ref (spl 25 v6.1 v6.2)) → sR S μ → F_90_43 G t k6 v1 v2 v3 v4 v5 v6 S = some (r, S') → jX G jP 90 43 lv [] μ Q := by
  intro v1 v2 v3 v4 v5 v6 S lv μ l0 l1 l2 l3 l4 l5 l6 R h
  unfold F_90_43 at h
  refine jX.ic (v := nI 1) (n := 1) (by rfl) (by rfl) (by decide) (?_ : jX G jP 90 44 lv [.int (nI 1)] μ Q)
  refine jX.go (by rfl) (by rfl) (by rfl) (?_ : jX G jP 90 48 lv [.int (nI 1)] μ Q)
  exact F_90_48_ok hk6 K v1 v2 v3 v4 v5 v6 (nI 1) _ _ _ l0 l1 l2 l3 l4 l5 l6 R h
def F_90_6 (G : jG) (t : Nat) : Nat → Int32 → Int32 → Int32 → (Option (Nat × Nat)) → Int32 → sS → Option ((Option (Nat × Nat)) × sS)
  | 0 => fun _ _ _ _ _ _ => none
  | tt + 1 => fun v1 v2 v3 v4 v5 S => bif jcmp .ge v5 (nI 16) then (some (v4, S)) else (jif (jin v5 16) (sif v4 (F_90_43 G t (F_90_6 G t tt) v1 v2 v3 none v5 (v5.toNatClampNeg, 0) S) (fun a2 => jif (sex S.2.2.2.1 25 v5.toNatClampNeg 0) (jif (sex S.2.2.2.1 25 a2.1 a2.2) (bif jcmp .ge (S.1 25 v5.toNatClampNeg 0 5) (S.1 25 a2.1 a2.2 5) then (F_90_48 G t (F_90_6 G t tt) v1 v2 v3 (some (a2.1, a2.2)) v5 (v5.toNatClampNeg, 0) (nI 0) S) else (F_90_43 G t (F_90_6 G t tt) v1 v2 v3 (some (a2.1, a2.2)) v5 (v5.toNatClampNeg, 0) S))))))
theorem F_90_6_ok {G : jG} {t : Nat} {r : (Option (Nat × Nat))} {S' : sS} {Q : Option Value ⊕ Nat → jS → Prop} (K : ∀ μ', sR S' μ' → Q ((srO 25) r) μ') : ∀ tt : Nat, ∀ (v1 : Int32) (v2 : Int32) (v3 : Int32) (v4 : (Option (Nat × Nat))) (v5 : Int32) (S : sS) (lv : jL) (μ : jS), jld lv 0 = some (.ref (spl 22 0 0)) → jld lv 1 = some (.int v1) → jld lv 2 = some (.int v2) → jld lv 3 = some (.int v3) → jld lv 4 = some (soR 25 v4) → jld lv 5 = some (.int v5) → sR S μ → F_90_6 G t tt v1 v2 v3 v4 v5 S = some (r, S') → jX G jP 90 6 lv [] μ Q := by
  intro tt
  induction tt with
  | zero =>
    intro v1 v2 v3 v4 v5 S lv μ l0 l1 l2 l3 l4 l5 R h
    rw [F_90_6] at h
    cases h
  | succ tt ih =>
    intro v1 v2 v3 v4 v5 S lv μ l0 l1 l2 l3 l4 l5 R h
    rw [F_90_6] at h
    refine jX.li l5 (by rfl) (by rfl) (?_ : jX G jP 90 8 lv [.int v5] μ Q)
    refine jX.ic (v := nI 16) (n := 2) (by rfl) (by rfl) (by decide) (?_ : jX G jP 90 10 lv [.int (nI 16), .int v5] μ Q)
    rcases bif_or h with ⟨hc, h⟩ | ⟨hc, h⟩
    · refine jX.b2t hc (by rfl) (by rfl) (by rfl) (?_ : jX G jP 90 78 lv [] μ Q)
      refine jX.lo l4 (by rfl) (by rfl) (?_ : jX G jP 90 80 lv [soR 25 v4] μ Q)
      exact jX.ret (by rfl) (by rfl) (by rfl) (jret_o _ _) (sretv (f := (srO 25)) h K R)
    · refine jX.b2f hc (by rfl) (by rfl) (by rfl) (?_ : jX G jP 90 13 lv [] μ Q)
      refine jX.lrn l0 (by rfl) (by rfl) (?_ : jX G jP 90 14 lv [.ref (spl 22 0 0)] μ Q)
      refine jX.sg R (by rfl) (by rfl) (by rfl) (by rfl) (by rfl) (by rfl) (?_ : jX G jP 90 17 lv [.ref (spl 8 0 0)] μ Q)
      refine jX.sg R (by rfl) (by rfl) (by rfl) (by rfl) (by rfl) (by rfl) (?_ : jX G jP 90 20 lv [.ref (spl 9 0 0)] μ Q)
      refine jX.li l5 (by rfl) (by rfl) (?_ : jX G jP 90 22 lv [.int v5, .ref (spl 9 0 0)] μ Q)
      obtain ⟨g1, h⟩ := jif_some h
      refine jX.sar (f := fun q => bif Nat.blt q 16 then some (spl 25 q 0) else none) R (by rfl) (by rfl) (by rfl) (by rfl) g1 (srf_in g1) (?_ : jX G jP 90 23 lv [.ref (spl 25 v5.toNatClampNeg 0)] μ Q)
      refine jX.s1 (k := 6) (pc' := 25) (by rfl) (by rfl) (by rfl) (fun lv l6 kp => (?_ : jX G jP 90 25 lv [] μ Q))
      replace l0 := kp 0 _ l0 (by rfl) (by first | rfl | simp [soR_cat])
      replace l1 := kp 1 _ l1 (by rfl) (by first | rfl | simp [soR_cat])
      replace l2 := kp 2 _ l2 (by rfl) (by first | rfl | simp [soR_cat])
      replace l3 := kp 3 _ l3 (by rfl) (by first | rfl | simp [soR_cat])
      replace l4 := kp 4 _ l4 (by rfl) (by first | rfl | simp [soR_cat])
      replace l5 := kp 5 _ l5 (by rfl) (by first | rfl | simp [soR_cat])
      refine jX.lo l4 (by rfl) (by rfl) (?_ : jX G jP 90 27 lv [soR 25 v4] μ Q)
      rcases sif_or h with ⟨e2, h⟩ | ⟨a2, e2, h⟩
      · rw [soR_none (t := 25) e2]
        rw [soR_none (t := 25) e2] at l4
        refine jX.go (by rfl) (by rfl) (by rfl) (?_ : jX G jP 90 43 lv [] μ Q)
        exact F_90_43_ok ih K v1 v2 v3 none v5 (v5.toNatClampNeg, 0) _ _ _ l0 l1 l2 l3 l4 l5 l6 R h
      · rw [soR_some (t := 25) e2]
        rw [soR_some (t := 25) e2] at l4
        refine jX.go (by rfl) (by rfl) (by rfl) (?_ : jX G jP 90 30 lv [] μ Q)
        refine jX.lr l6 (by rfl) (by rfl) (?_ : jX G jP 90 32 lv [.ref (spl 25 v5.toNatClampNeg 0)] μ Q)
        obtain ⟨g3, h⟩ := jif_some h
        refine jX.sg R g3 (by rfl) (by rfl) (by rfl) (by rfl) (by rfl) (?_ : jX G jP 90 35 lv [.int (S.1 25 v5.toNatClampNeg 0 5)] μ Q)
        refine jX.lr l4 (by rfl) (by rfl) (?_ : jX G jP 90 37 lv [.ref (spl 25 a2.1 a2.2), .int (S.1 25 v5.toNatClampNeg 0 5)] μ Q)
        obtain ⟨g4, h⟩ := jif_some h
        refine jX.sg R g4 (by rfl) (by rfl) (by rfl) (by rfl) (by rfl) (?_ : jX G jP 90 40 lv [.int (S.1 25 a2.1 a2.2 5), .int (S.1 25 v5.toNatClampNeg 0 5)] μ Q)
        rcases bif_or h with ⟨hc, h⟩ | ⟨hc, h⟩
        · refine jX.b2t hc (by rfl) (by rfl) (by rfl) (?_ : jX G jP 90 47 lv [] μ Q)
          refine jX.ic (v := nI 0) (n := 1) (by rfl) (by rfl) (by decide) (?_ : jX G jP 90 48 lv [.int (nI 0)] μ Q)
          exact F_90_48_ok ih K v1 v2 v3 (some (a2.1, a2.2)) v5 (v5.toNatClampNeg, 0) (nI 0) _ _ _ l0 l1 l2 l3 l4 l5 l6 R h
        · refine jX.b2f hc (by rfl) (by rfl) (by rfl) (?_ : jX G jP 90 43 lv [] μ Q)
          exact F_90_43_ok ih K v1 v2 v3 (some (a2.1, a2.2)) v5 (v5.toNatClampNeg, 0) _ _ _ l0 l1 l2 l3 l4 l5 l6 R h
def F_90 (G : jG) (t : Nat) (v1 : Int32) (v2 : Int32) (v3 : Int32) (S : sS) : Option ((Option (Nat × Nat)) × sS) := F_90_6 G t t v1 v2 v3 none (nI 0) S
theorem F_90_ok {G : jG} {t : Nat} {v1 : Int32} {v2 : Int32} {v3 : Int32} {S : sS} {r : (Option (Nat × Nat))} {S' : sS} {μ : jS} {Q : Option Value ⊕ Nat → jS → Prop} (R : sR S μ) (h : F_90 G t v1 v2 v3 S = some (r, S')) (K : ∀ μ', sR S' μ' → Q ((srO 25) r) μ') : jX G jP 90 0 (lv_args 0 [.ref (spl 22 0 0), .int v1, .int v2, .int v3]) [] μ Q := by
  unfold F_90 at h
  have l0 : jld (lv_args 0 [.ref (spl 22 0 0), .int v1, .int v2, .int v3]) 0 = some (.ref (spl 22 0 0)) := by rfl
  have l1 : jld (lv_args 0 [.ref (spl 22 0 0), .int v1, .int v2, .int v3]) 1 = some (.int v1) := by rfl
  have l2 : jld (lv_args 0 [.ref (spl 22 0 0), .int v1, .int v2, .int v3]) 2 = some (.int v2) := by rfl
  have l3 : jld (lv_args 0 [.ref (spl 22 0 0), .int v1, .int v2, .int v3]) 3 = some (.int v3) := by rfl
  generalize lv_args 0 [.ref (spl 22 0 0), .int v1, .int v2, .int v3] = lv at *
  refine jX.go (by rfl) (by rfl) (by rfl) (?_ : jX G jP 90 1 lv [.null] μ Q)
  refine jX.s1 (k := 4) (pc' := 3) (by rfl) (by rfl) (by rfl) (fun lv l4 kp => (?_ : jX G jP 90 3 lv [] μ Q))
  replace l0 := kp 0 _ l0 (by rfl) (by first | rfl | simp [soR_cat])
  replace l1 := kp 1 _ l1 (by rfl) (by first | rfl | simp [soR_cat])
  replace l2 := kp 2 _ l2 (by rfl) (by first | rfl | simp [soR_cat])
  replace l3 := kp 3 _ l3 (by rfl) (by first | rfl | simp [soR_cat])
  refine jX.ic (v := nI 0) (n := 1) (by rfl) (by rfl) (by decide) (?_ : jX G jP 90 4 lv [.int (nI 0)] μ Q)
  refine jX.s1 (k := 5) (pc' := 6) (by rfl) (by rfl) (by rfl) (fun lv l5 kp => (?_ : jX G jP 90 6 lv [] μ Q))
  replace l0 := kp 0 _ l0 (by rfl) (by first | rfl | simp [soR_cat])
  replace l1 := kp 1 _ l1 (by rfl) (by first | rfl | simp [soR_cat])
  replace l2 := kp 2 _ l2 (by rfl) (by first | rfl | simp [soR_cat])
  replace l3 := kp 3 _ l3 (by rfl) (by first | rfl | simp [soR_cat])
  replace l4 := kp 4 _ l4 (by rfl) (by first | rfl | simp [soR_cat])
  exact F_90_6_ok  K _ v1 v2 v3 none (nI 0) _ _ _ l0 l1 l2 l3 l4 l5 R h
/-! 91 StrandRuntime$Channels.dropWaited(LStrandRuntime$Strand;LStrandRuntime$Row;)V -/
def F_91_35 (G : jG) (t : Nat) (w0 : Int32) (w1 : (Nat × Nat)) (S : sS) : Option (Unit × sS) := jif (sex S.2.2.2.1 29 w1.1 w1.2) ((F_76 G t w1 w0 S).bind (fun q2 => some ((), q2.2)))
theorem F_91_35_ok {G : jG} {t : Nat} {r : Unit} {S' : sS} {Q : Option Value ⊕ Nat → jS → Prop} (K : ∀ μ', sR S' μ' → Q (srV r) μ') : ∀ (w0 : Int32) (w1 : (Nat × Nat)) (S : sS) (lv : jL) (μ : jS), sR S μ → F_91_35 G t w0 w1 S = some (r, S') → jX G jP 91 35 lv [.int w0, .ref (spl 29 w1.1 w1.2)] μ Q := by
  intro w0 w1 S lv μ R h
  unfold F_91_35 at h
  obtain ⟨g1, h⟩ := jif_some h
  obtain ⟨q2, e2, h⟩ := sbd h
  refine jX.cv (by rfl) (by rfl) (by rfl) (by rfl) (by rfl) (by rfl) (by rfl) (R.rec g1 (by rfl)) (Nat.le_of_ble_eq_true rfl) (Nat.le_of_ble_eq_true rfl) (F_76_ok R e2 (fun μ R => ⟨rfl, (?_ : jX G jP 91 38 lv [] μ Q)⟩))
  exact jX.ret (by rfl) (by rfl) (by rfl) (by rfl) (sretv (f := srV) h K R)
def F_91 (G : jG) (t : Nat) (v1 : (Nat × Nat)) (v2 : (Nat × Nat)) (S : sS) : Option (Unit × sS) := jif (sex S.2.2.2.1 25 v1.1 v1.2) (bif jcmp .ne (S.1 25 v1.1 v1.2 4) (nI 4) then (bif jcmp .ne (S.1 25 v1.1 v1.2 4) (nI 2) then (F_91_35 G t (nI 1) v2 S) else (F_91_35 G t (nI 2) v2 S)) else (jif (sex S.2.2.2.1 29 v2.1 v2.2) ((F_76 G t v2 ((nI 3) * (S.1 25 v1.1 v1.2 6)) S).bind (fun q3 => some ((), q3.2)))))
theorem F_91_ok {G : jG} {t : Nat} {v1 : (Nat × Nat)} {v2 : (Nat × Nat)} {S : sS} {r : Unit} {S' : sS} {μ : jS} {Q : Option Value ⊕ Nat → jS → Prop} (R : sR S μ) (h : F_91 G t v1 v2 S = some (r, S')) (K : ∀ μ', sR S' μ' → Q (srV r) μ') : jX G jP 91 0 (lv_args 0 [.ref (spl 22 0 0), .ref (spl 25 v1.1 v1.2), .ref (spl 29 v2.1 v2.2)]) [] μ Q := by
  unfold F_91 at h
  have l1 : jld (lv_args 0 [.ref (spl 22 0 0), .ref (spl 25 v1.1 v1.2), .ref (spl 29 v2.1 v2.2)]) 1 = some (.ref (spl 25 v1.1 v1.2)) := by rfl
  have l2 : jld (lv_args 0 [.ref (spl 22 0 0), .ref (spl 25 v1.1 v1.2), .ref (spl 29 v2.1 v2.2)]) 2 = some (.ref (spl 29 v2.1 v2.2)) := by rfl
  generalize lv_args 0 [.ref (spl 22 0 0), .ref (spl 25 v1.1 v1.2), .ref (spl 29 v2.1 v2.2)] = lv at *
  refine jX.lrn l1 (by rfl) (by rfl) (?_ : jX G jP 91 1 lv [.ref (spl 25 v1.1 v1.2)] μ Q)
  obtain ⟨g1, h⟩ := jif_some h
  refine jX.sg R g1 (by rfl) (by rfl) (by rfl) (by rfl) (by rfl) (?_ : jX G jP 91 4 lv [.int (S.1 25 v1.1 v1.2 4)] μ Q)
  refine jX.ic (v := nI 4) (n := 1) (by rfl) (by rfl) (by decide) (?_ : jX G jP 91 5 lv [.int (nI 4), .int (S.1 25 v1.1 v1.2 4)] μ Q)
  rcases bif_or h with ⟨hc, h⟩ | ⟨hc, h⟩
  · refine jX.b2t hc (by rfl) (by rfl) (by rfl) (?_ : jX G jP 91 21 lv [] μ Q)
    refine jX.lrn l2 (by rfl) (by rfl) (?_ : jX G jP 91 22 lv [.ref (spl 29 v2.1 v2.2)] μ Q)
    refine jX.lrn l1 (by rfl) (by rfl) (?_ : jX G jP 91 23 lv [.ref (spl 25 v1.1 v1.2), .ref (spl 29 v2.1 v2.2)] μ Q)
    refine jX.sg R g1 (by rfl) (by rfl) (by rfl) (by rfl) (by rfl) (?_ : jX G jP 91 26 lv [.int (S.1 25 v1.1 v1.2 4), .ref (spl 29 v2.1 v2.2)] μ Q)
    refine jX.ic (v := nI 2) (n := 1) (by rfl) (by rfl) (by decide) (?_ : jX G jP 91 27 lv [.int (nI 2), .int (S.1 25 v1.1 v1.2 4), .ref (spl 29 v2.1 v2.2)] μ Q)
    rcases bif_or h with ⟨hc, h⟩ | ⟨hc, h⟩
    · refine jX.b2t hc (by rfl) (by rfl) (by rfl) (?_ : jX G jP 91 34 lv [.ref (spl 29 v2.1 v2.2)] μ Q)
      refine jX.ic (v := nI 1) (n := 1) (by rfl) (by rfl) (by decide) (?_ : jX G jP 91 35 lv [.int (nI 1), .ref (spl 29 v2.1 v2.2)] μ Q)
      exact F_91_35_ok  K (nI 1) v2 _ _ _  R h
    · refine jX.b2f hc (by rfl) (by rfl) (by rfl) (?_ : jX G jP 91 30 lv [.ref (spl 29 v2.1 v2.2)] μ Q)
      refine jX.ic (v := nI 2) (n := 1) (by rfl) (by rfl) (by decide) (?_ : jX G jP 91 31 lv [.int (nI 2), .ref (spl 29 v2.1 v2.2)] μ Q)
      refine jX.go (by rfl) (by rfl) (by rfl) (?_ : jX G jP 91 35 lv [.int (nI 2), .ref (spl 29 v2.1 v2.2)] μ Q)
      exact F_91_35_ok  K (nI 2) v2 _ _ _  R h
  · refine jX.b2f hc (by rfl) (by rfl) (by rfl) (?_ : jX G jP 91 8 lv [] μ Q)
    refine jX.lrn l2 (by rfl) (by rfl) (?_ : jX G jP 91 9 lv [.ref (spl 29 v2.1 v2.2)] μ Q)
    refine jX.ic (v := nI 3) (n := 1) (by rfl) (by rfl) (by decide) (?_ : jX G jP 91 10 lv [.int (nI 3), .ref (spl 29 v2.1 v2.2)] μ Q)
    refine jX.lrn l1 (by rfl) (by rfl) (?_ : jX G jP 91 11 lv [.ref (spl 25 v1.1 v1.2), .int (nI 3), .ref (spl 29 v2.1 v2.2)] μ Q)
    refine jX.sg R g1 (by rfl) (by rfl) (by rfl) (by rfl) (by rfl) (?_ : jX G jP 91 14 lv [.int (S.1 25 v1.1 v1.2 6), .int (nI 3), .ref (spl 29 v2.1 v2.2)] μ Q)
    refine jX.go (by rfl) (by rfl) (by rfl) (?_ : jX G jP 91 15 lv [.int ((nI 3) * (S.1 25 v1.1 v1.2 6)), .ref (spl 29 v2.1 v2.2)] μ Q)
    obtain ⟨g2, h⟩ := jif_some h
    obtain ⟨q3, e3, h⟩ := sbd h
    refine jX.cv (by rfl) (by rfl) (by rfl) (by rfl) (by rfl) (by rfl) (by rfl) (R.rec g2 (by rfl)) (Nat.le_of_ble_eq_true rfl) (Nat.le_of_ble_eq_true rfl) (F_76_ok R e3 (fun μ R => ⟨rfl, (?_ : jX G jP 91 18 lv [] μ Q)⟩))
    refine jX.go (by rfl) (by rfl) (by rfl) (?_ : jX G jP 91 38 lv [] μ Q)
    exact jX.ret (by rfl) (by rfl) (by rfl) (by rfl) (sretv (f := srV) h K R)
/-! 92 StrandRuntime$Channels.passOn(LStrandRuntime$Thing;ILStrandRuntime$Row;I)Z -/
def F_92_52 (G : jG) (t : Nat) (v3 : (Nat × Nat)) (v4 : Int32) (v5 : (Nat × Nat)) (v6 : (Nat × Nat)) (w0 : Int32) (S : sS) : Option (Int32 × sS) := jif (sex S.2.2.2.1 27 v6.1 v6.2) ((F_91 G t v5 (v6.1, 1) S).bind (fun q2 => jif (sex q2.2.2.2.2.1 27 v6.1 v6.2) (jif (sex q2.2.2.2.2.1 29 v3.1 v3.2) ((F_26 G t v3 v4 q2.2).bind (fun q5 => jif (sex q5.2.2.2.2.1 29 v3.1 v3.2) ((F_27 G t v3 v4 q5.2).bind (fun q7 => jif (sex q7.2.2.2.2.1 29 v6.1 1) ((F_78 G t (v6.1, 1) q5.1 q7.1 q7.2).bind (fun q9 => jif (sex q9.2.2.2.2.1 27 v6.1 v6.2) (jif (sex q9.2.2.2.2.1 29 v6.1 1) ((F_78 G t (v6.1, 1) w0.toInt64 (nI 0) q9.2).bind (fun q12 => (F_30 G t v5 q12.2).bind (fun q13 => some ((nI 1), q13.2))))))))))))))
theorem F_92_52_ok {G : jG} {t : Nat} {r : Int32} {S' : sS} {Q : Option Value ⊕ Nat → jS → Prop} (K : ∀ μ', sR S' μ' → Q (srI r) μ') : ∀ (v3 : (Nat × Nat)) (v4 : Int32) (v5 : (Nat × Nat)) (v6 : (Nat × Nat)) (w0 : Int32) (S : sS) (lv : jL) (μ : jS), jld lv 0 = some (.ref (spl 22 0 0)) → jld lv 3 = some (.ref (spl 29 v3.1 v3.2)) → jld lv 4 = some (.int v4) → jld lv 5 = some (.ref (spl 25 v5.1 v5.2)) → jld lv 6 = some (.ref (spl 27 v6.1 v6.2)) → sR S μ → F_92_52 G t v3 v4 v5 v6 w0 S = some (r, S') → jX G jP 92 52 lv [.int w0] μ Q := by
  intro v3 v4 v5 v6 w0 S lv μ l0 l3 l4 l5 l6 R h
  unfold F_92_52 at h
  refine jX.s1 (k := 7) (pc' := 54) (by rfl) (by rfl) (by rfl) (fun lv l7 kp => (?_ : jX G jP 92 54 lv [] μ Q))
  replace l0 := kp 0 _ l0 (by rfl) (by first | rfl | simp [soR_cat])
  replace l3 := kp 3 _ l3 (by rfl) (by first | rfl | simp [soR_cat])
  replace l4 := kp 4 _ l4 (by rfl) (by first | rfl | simp [soR_cat])
  replace l5 := kp 5 _ l5 (by rfl) (by first | rfl | simp [soR_cat])
  replace l6 := kp 6 _ l6 (by rfl) (by first | rfl | simp [soR_cat])
  refine jX.lrn l0 (by rfl) (by rfl) (?_ : jX G jP 92 55 lv [.ref (spl 22 0 0)] μ Q)
  refine jX.lr l5 (by rfl) (by rfl) (?_ : jX G jP 92 57 lv [.ref (spl 25 v5.1 v5.2), .ref (spl 22 0 0)] μ Q)
  refine jX.lr l6 (by rfl) (by rfl) (?_ : jX G jP 92 59 lv [.ref (spl 27 v6.1 v6.2), .ref (spl 25 v5.1 v5.2), .ref (spl 22 0 0)] μ Q)
  obtain ⟨g1, h⟩ := jif_some h
  refine jX.sg R g1 (by rfl) (by rfl) (by rfl) (by rfl) (by rfl) (?_ : jX G jP 92 62 lv [.ref (spl 29 v6.1 1), .ref (spl 25 v5.1 v5.2), .ref (spl 22 0 0)] μ Q)
  obtain ⟨q2, e2, h⟩ := sbd h
  refine jX.cv (by rfl) (by rfl) (by rfl) (by rfl) (by rfl) (by rfl) (by rfl) (R.rec (by rfl) (by rfl)) (Nat.le_of_ble_eq_true rfl) (Nat.le_of_ble_eq_true rfl) (F_91_ok R e2 (fun μ R => ⟨rfl, (?_ : jX G jP 92 65 lv [] μ Q)⟩))
  refine jX.lr l6 (by rfl) (by rfl) (?_ : jX G jP 92 67 lv [.ref (spl 27 v6.1 v6.2)] μ Q)
  obtain ⟨g3, h⟩ := jif_some h
  refine jX.sg R g3 (by rfl) (by rfl) (by rfl) (by rfl) (by rfl) (?_ : jX G jP 92 70 lv [.ref (spl 29 v6.1 1)] μ Q)
  refine jX.lrn l3 (by rfl) (by rfl) (?_ : jX G jP 92 71 lv [.ref (spl 29 v3.1 v3.2), .ref (spl 29 v6.1 1)] μ Q)
  refine jX.li l4 (by rfl) (by rfl) (?_ : jX G jP 92 73 lv [.int v4, .ref (spl 29 v3.1 v3.2), .ref (spl 29 v6.1 1)] μ Q)
  obtain ⟨g4, h⟩ := jif_some h
  obtain ⟨q5, e5, h⟩ := sbd h
  refine jX.c1 (v := .long q5.1) (by rfl) (by rfl) (by rfl) (by rfl) (by rfl) (by rfl) (by rfl) (R.rec g4 (by rfl)) (Nat.le_of_ble_eq_true rfl) (Nat.le_of_ble_eq_true rfl) (F_26_ok R e5 (fun μ R => ⟨rfl, (?_ : jX G jP 92 76 lv [.long q5.1, .ref (spl 29 v6.1 1)] μ Q)⟩))
  refine jX.lrn l3 (by rfl) (by rfl) (?_ : jX G jP 92 77 lv [.ref (spl 29 v3.1 v3.2), .long q5.1, .ref (spl 29 v6.1 1)] μ Q)
  refine jX.li l4 (by rfl) (by rfl) (?_ : jX G jP 92 79 lv [.int v4, .ref (spl 29 v3.1 v3.2), .long q5.1, .ref (spl 29 v6.1 1)] μ Q)
  obtain ⟨g6, h⟩ := jif_some h
  obtain ⟨q7, e7, h⟩ := sbd h
  refine jX.c1 (v := .int q7.1) (by rfl) (by rfl) (by rfl) (by rfl) (by rfl) (by rfl) (by rfl) (R.rec g6 (by rfl)) (Nat.le_of_ble_eq_true rfl) (Nat.le_of_ble_eq_true rfl) (F_27_ok R e7 (fun μ R => ⟨rfl, (?_ : jX G jP 92 82 lv [.int q7.1, .long q5.1, .ref (spl 29 v6.1 1)] μ Q)⟩))
  obtain ⟨g8, h⟩ := jif_some h
  obtain ⟨q9, e9, h⟩ := sbd h
  refine jX.cv (by rfl) (by rfl) (by rfl) (by rfl) (by rfl) (by rfl) (by rfl) (R.rec g8 (by rfl)) (Nat.le_of_ble_eq_true rfl) (Nat.le_of_ble_eq_true rfl) (F_78_ok R e9 (fun μ R => ⟨rfl, (?_ : jX G jP 92 85 lv [] μ Q)⟩))
  refine jX.lr l6 (by rfl) (by rfl) (?_ : jX G jP 92 87 lv [.ref (spl 27 v6.1 v6.2)] μ Q)
  obtain ⟨g10, h⟩ := jif_some h
  refine jX.sg R g10 (by rfl) (by rfl) (by rfl) (by rfl) (by rfl) (?_ : jX G jP 92 90 lv [.ref (spl 29 v6.1 1)] μ Q)
  refine jX.li l7 (by rfl) (by rfl) (?_ : jX G jP 92 92 lv [.int w0, .ref (spl 29 v6.1 1)] μ Q)
  refine jX.go (by rfl) (by rfl) (by rfl) (?_ : jX G jP 92 93 lv [.long w0.toInt64, .ref (spl 29 v6.1 1)] μ Q)
  refine jX.ic (v := nI 0) (n := 1) (by rfl) (by rfl) (by decide) (?_ : jX G jP 92 94 lv [.int (nI 0), .long w0.toInt64, .ref (spl 29 v6.1 1)] μ Q)
  obtain ⟨g11, h⟩ := jif_some h
  obtain ⟨q12, e12, h⟩ := sbd h
  refine jX.cv (by rfl) (by rfl) (by rfl) (by rfl) (by rfl) (by rfl) (by rfl) (R.rec g11 (by rfl)) (Nat.le_of_ble_eq_true rfl) (Nat.le_of_ble_eq_true rfl) (F_78_ok R e12 (fun μ R => ⟨rfl, (?_ : jX G jP 92 97 lv [] μ Q)⟩))
  refine jX.lrn l0 (by rfl) (by rfl) (?_ : jX G jP 92 98 lv [.ref (spl 22 0 0)] μ Q)
  refine jX.sg R (by rfl) (by rfl) (by rfl) (by rfl) (by rfl) (by rfl) (?_ : jX G jP 92 101 lv [.ref (spl 8 0 0)] μ Q)
  refine jX.lr l5 (by rfl) (by rfl) (?_ : jX G jP 92 103 lv [.ref (spl 25 v5.1 v5.2), .ref (spl 8 0 0)] μ Q)
  obtain ⟨q13, e13, h⟩ := sbd h
  refine jX.cv (by rfl) (by rfl) (by rfl) (by rfl) (by rfl) (by rfl) (by rfl) (R.rec (by rfl) (by rfl)) (Nat.le_of_ble_eq_true rfl) (Nat.le_of_ble_eq_true rfl) (F_30_ok R e13 (fun μ R => ⟨rfl, (?_ : jX G jP 92 106 lv [] μ Q)⟩))
  refine jX.ic (v := nI 1) (n := 1) (by rfl) (by rfl) (by decide) (?_ : jX G jP 92 107 lv [.int (nI 1)] μ Q)
  exact jX.ret (by rfl) (by rfl) (by rfl) (by rfl) (sretv (f := srI) h K R)
def F_92_23 (G : jG) (t : Nat) (v1 : (Nat × Nat)) (v2 : Int32) (v3 : (Nat × Nat)) (v4 : Int32) (v5 : (Option (Nat × Nat))) (w0 : (Option (Nat × Nat))) (S : sS) : Option (Int32 × sS) := sif w0 (jif (sex S.2.2.2.1 32 v1.1 v1.2) (jif (sex S.2.2.2.1 29 v1.1 4) (bif jcmp .ge (S.1 29 v1.1 4 2) (S.1 32 v1.1 v1.2 2) then (some ((nI 0), S)) else (jif (sex S.2.2.2.1 29 v3.1 v3.2) ((F_26 G t v3 v4 S).bind (fun q5 => jif (sex q5.2.2.2.2.1 29 v3.1 v3.2) ((F_27 G t v3 v4 q5.2).bind (fun q7 => jif (sex q7.2.2.2.2.1 29 v1.1 4) ((F_78 G t (v1.1, 4) q5.1 q7.1 q7.2).bind (fun q9 => some ((nI 1), q9.2))))))))))) (fun a1 => (v5).bind (fun a10 => jif (sex S.2.2.2.1 25 a10.1 a10.2) (bif jcmp .ne (S.1 25 a10.1 a10.2 4) (nI 4) then (F_92_52 G t v3 v4 a10 a1 (nI 1) S) else ((F_89 G t a10 v2 (nI 0) (nI 1) S).bind (fun q12 => F_92_52 G t v3 v4 a10 a1 q12.1 q12.2)))))
theorem F_92_23_ok {G : jG} {t : Nat} {r : Int32} {S' : sS} {Q : Option Value ⊕ Nat → jS → Prop} (K : ∀ μ', sR S' μ' → Q (srI r) μ') : ∀ (v1 : (Nat × Nat)) (v2 : Int32) (v3 : (Nat × Nat)) (v4 : Int32) (v5 : (Option (Nat × Nat))) (w0 : (Option (Nat × Nat))) (S : sS) (lv : jL) (μ : jS), jld lv 0 = some (.ref (spl 22 0 0)) → jld lv 1 = some (.ref (spl 32 v1.1 v1.2)) → jld lv 2 = some (.int v2) → jld lv 3 = some (.ref (spl 29 v3.1 v3.2)) → jld lv 4 = some (.int v4) → jld lv 5 = some (soR 25 v5) → sR S μ → F_92_23 G t v1 v2 v3 v4 v5 w0 S = some (r, S') → jX G jP 92 23 lv [soR 27 w0] μ Q := by
  intro v1 v2 v3 v4 v5 w0 S lv μ l0 l1 l2 l3 l4 l5 R h
  unfold F_92_23 at h
  refine jX.so (k := 6) (pc' := 25) (by rfl) (by rfl) (fun _ => by rfl) (by rfl) (fun lv l6 kp => (?_ : jX G jP 92 25 lv [] μ Q))
  replace l0 := kp 0 _ l0 (by rfl) (by first | rfl | simp [soR_cat])
  replace l1 := kp 1 _ l1 (by rfl) (by first | rfl | simp [soR_cat])
  replace l2 := kp 2 _ l2 (by rfl) (by first | rfl | simp [soR_cat])
  replace l3 := kp 3 _ l3 (by rfl) (by first | rfl | simp [soR_cat])
  replace l4 := kp 4 _ l4 (by rfl) (by first | rfl | simp [soR_cat])
  replace l5 := kp 5 _ l5 (by rfl) (by first | rfl | simp [soR_cat])
  refine jX.lo l6 (by rfl) (by rfl) (?_ : jX G jP 92 27 lv [soR 27 w0] μ Q)
  rcases sif_or h with ⟨e1, h⟩ | ⟨a1, e1, h⟩
  · rw [soR_none (t := 27) e1]
    rw [soR_none (t := 27) e1] at l6
    refine jX.go (by rfl) (by rfl) (by rfl) (?_ : jX G jP 92 108 lv [] μ Q)
    refine jX.lrn l1 (by rfl) (by rfl) (?_ : jX G jP 92 109 lv [.ref (spl 32 v1.1 v1.2)] μ Q)
    obtain ⟨g2, h⟩ := jif_some h
    refine jX.sg R g2 (by rfl) (by rfl) (by rfl) (by rfl) (by rfl) (?_ : jX G jP 92 112 lv [.ref (spl 29 v1.1 4)] μ Q)
    obtain ⟨g3, h⟩ := jif_some h
    refine jX.sg R g3 (by rfl) (by rfl) (by rfl) (by rfl) (by rfl) (?_ : jX G jP 92 115 lv [.int (S.1 29 v1.1 4 2)] μ Q)
    refine jX.lrn l1 (by rfl) (by rfl) (?_ : jX G jP 92 116 lv [.ref (spl 32 v1.1 v1.2), .int (S.1 29 v1.1 4 2)] μ Q)
    refine jX.sg R g2 (by rfl) (by rfl) (by rfl) (by rfl) (by rfl) (?_ : jX G jP 92 119 lv [.int (S.1 32 v1.1 v1.2 2), .int (S.1 29 v1.1 4 2)] μ Q)
    rcases bif_or h with ⟨hc, h⟩ | ⟨hc, h⟩
    · refine jX.b2t hc (by rfl) (by rfl) (by rfl) (?_ : jX G jP 92 143 lv [] μ Q)
      refine jX.ic (v := nI 0) (n := 1) (by rfl) (by rfl) (by decide) (?_ : jX G jP 92 144 lv [.int (nI 0)] μ Q)
      exact jX.ret (by rfl) (by rfl) (by rfl) (by rfl) (sretv (f := srI) h K R)
    · refine jX.b2f hc (by rfl) (by rfl) (by rfl) (?_ : jX G jP 92 122 lv [] μ Q)
      refine jX.lrn l1 (by rfl) (by rfl) (?_ : jX G jP 92 123 lv [.ref (spl 32 v1.1 v1.2)] μ Q)
      refine jX.sg R g2 (by rfl) (by rfl) (by rfl) (by rfl) (by rfl) (?_ : jX G jP 92 126 lv [.ref (spl 29 v1.1 4)] μ Q)
      refine jX.lrn l3 (by rfl) (by rfl) (?_ : jX G jP 92 127 lv [.ref (spl 29 v3.1 v3.2), .ref (spl 29 v1.1 4)] μ Q)
      refine jX.li l4 (by rfl) (by rfl) (?_ : jX G jP 92 129 lv [.int v4, .ref (spl 29 v3.1 v3.2), .ref (spl 29 v1.1 4)] μ Q)
      obtain ⟨g4, h⟩ := jif_some h
      obtain ⟨q5, e5, h⟩ := sbd h
      refine jX.c1 (v := .long q5.1) (by rfl) (by rfl) (by rfl) (by rfl) (by rfl) (by rfl) (by rfl) (R.rec g4 (by rfl)) (Nat.le_of_ble_eq_true rfl) (Nat.le_of_ble_eq_true rfl) (F_26_ok R e5 (fun μ R => ⟨rfl, (?_ : jX G jP 92 132 lv [.long q5.1, .ref (spl 29 v1.1 4)] μ Q)⟩))
      refine jX.lrn l3 (by rfl) (by rfl) (?_ : jX G jP 92 133 lv [.ref (spl 29 v3.1 v3.2), .long q5.1, .ref (spl 29 v1.1 4)] μ Q)
      refine jX.li l4 (by rfl) (by rfl) (?_ : jX G jP 92 135 lv [.int v4, .ref (spl 29 v3.1 v3.2), .long q5.1, .ref (spl 29 v1.1 4)] μ Q)
      obtain ⟨g6, h⟩ := jif_some h
      obtain ⟨q7, e7, h⟩ := sbd h
      refine jX.c1 (v := .int q7.1) (by rfl) (by rfl) (by rfl) (by rfl) (by rfl) (by rfl) (by rfl) (R.rec g6 (by rfl)) (Nat.le_of_ble_eq_true rfl) (Nat.le_of_ble_eq_true rfl) (F_27_ok R e7 (fun μ R => ⟨rfl, (?_ : jX G jP 92 138 lv [.int q7.1, .long q5.1, .ref (spl 29 v1.1 4)] μ Q)⟩))
      obtain ⟨g8, h⟩ := jif_some h
      obtain ⟨q9, e9, h⟩ := sbd h
      refine jX.cv (by rfl) (by rfl) (by rfl) (by rfl) (by rfl) (by rfl) (by rfl) (R.rec g8 (by rfl)) (Nat.le_of_ble_eq_true rfl) (Nat.le_of_ble_eq_true rfl) (F_78_ok R e9 (fun μ R => ⟨rfl, (?_ : jX G jP 92 141 lv [] μ Q)⟩))
      refine jX.ic (v := nI 1) (n := 1) (by rfl) (by rfl) (by decide) (?_ : jX G jP 92 142 lv [.int (nI 1)] μ Q)
      exact jX.ret (by rfl) (by rfl) (by rfl) (by rfl) (sretv (f := srI) h K R)
  · rw [soR_some (t := 27) e1]
    rw [soR_some (t := 27) e1] at l6
    refine jX.go (by rfl) (by rfl) (by rfl) (?_ : jX G jP 92 30 lv [] μ Q)
    refine jX.lo l5 (by rfl) (by rfl) (?_ : jX G jP 92 32 lv [soR 25 v5] μ Q)
    obtain ⟨a10, e10, h⟩ := sbd h
    rw [soR_some (t := 25) e10]
    rw [soR_some (t := 25) e10] at l5
    obtain ⟨g11, h⟩ := jif_some h
    refine jX.sg R g11 (by rfl) (by rfl) (by rfl) (by rfl) (by rfl) (?_ : jX G jP 92 35 lv [.int (S.1 25 a10.1 a10.2 4)] μ Q)
    refine jX.ic (v := nI 4) (n := 1) (by rfl) (by rfl) (by decide) (?_ : jX G jP 92 36 lv [.int (nI 4), .int (S.1 25 a10.1 a10.2 4)] μ Q)
    rcases bif_or h with ⟨hc, h⟩ | ⟨hc, h⟩
    · refine jX.b2t hc (by rfl) (by rfl) (by rfl) (?_ : jX G jP 92 51 lv [] μ Q)
      refine jX.ic (v := nI 1) (n := 1) (by rfl) (by rfl) (by decide) (?_ : jX G jP 92 52 lv [.int (nI 1)] μ Q)
      exact F_92_52_ok  K v3 v4 a10 a1 (nI 1) _ _ _ l0 l3 l4 l5 l6 R h
    · refine jX.b2f hc (by rfl) (by rfl) (by rfl) (?_ : jX G jP 92 39 lv [] μ Q)
      refine jX.lrn l0 (by rfl) (by rfl) (?_ : jX G jP 92 40 lv [.ref (spl 22 0 0)] μ Q)
      refine jX.lr l5 (by rfl) (by rfl) (?_ : jX G jP 92 42 lv [.ref (spl 25 a10.1 a10.2), .ref (spl 22 0 0)] μ Q)
      refine jX.lin l2 (by rfl) (by rfl) (?_ : jX G jP 92 43 lv [.int v2, .ref (spl 25 a10.1 a10.2), .ref (spl 22 0 0)] μ Q)
      refine jX.ic (v := nI 0) (n := 1) (by rfl) (by rfl) (by decide) (?_ : jX G jP 92 44 lv [.int (nI 0), .int v2, .ref (spl 25 a10.1 a10.2), .ref (spl 22 0 0)] μ Q)
      refine jX.ic (v := nI 1) (n := 1) (by rfl) (by rfl) (by decide) (?_ : jX G jP 92 45 lv [.int (nI 1), .int (nI 0), .int v2, .ref (spl 25 a10.1 a10.2), .ref (spl 22 0 0)] μ Q)
      obtain ⟨q12, e12, h⟩ := sbd h
      refine jX.c1 (v := .int q12.1) (by rfl) (by rfl) (by rfl) (by rfl) (by rfl) (by rfl) (by rfl) (R.rec (by rfl) (by rfl)) (Nat.le_of_ble_eq_true rfl) (Nat.le_of_ble_eq_true rfl) (F_89_ok R e12 (fun μ R => ⟨rfl, (?_ : jX G jP 92 48 lv [.int q12.1] μ Q)⟩))
      refine jX.go (by rfl) (by rfl) (by rfl) (?_ : jX G jP 92 52 lv [.int q12.1] μ Q)
      exact F_92_52_ok  K v3 v4 a10 a1 q12.1 _ _ _ l0 l3 l4 l5 l6 R h
def F_92 (G : jG) (t : Nat) (v1 : (Nat × Nat)) (v2 : Int32) (v3 : (Nat × Nat)) (v4 : Int32) (S : sS) : Option (Int32 × sS) := (F_90 G t v2 (nI 0) (nI 1) S).bind (fun q1 => sif q1.1 (F_92_23 G t v1 v2 v3 v4 none none q1.2) (fun a2 => jif (sex q1.2.2.2.2.1 25 a2.1 a2.2) ((F_66 G t a2 q1.2).bind (fun q4 => F_92_23 G t v1 v2 v3 v4 (some (a2.1, a2.2)) q4.1 q4.2))))
theorem F_92_ok {G : jG} {t : Nat} {v1 : (Nat × Nat)} {v2 : Int32} {v3 : (Nat × Nat)} {v4 : Int32} {S : sS} {r : Int32} {S' : sS} {μ : jS} {Q : Option Value ⊕ Nat → jS → Prop} (R : sR S μ) (h : F_92 G t v1 v2 v3 v4 S = some (r, S')) (K : ∀ μ', sR S' μ' → Q (srI r) μ') : jX G jP 92 0 (lv_args 0 [.ref (spl 22 0 0), .ref (spl 32 v1.1 v1.2), .int v2, .ref (spl 29 v3.1 v3.2), .int v4]) [] μ Q := by
  unfold F_92 at h
  have l0 : jld (lv_args 0 [.ref (spl 22 0 0), .ref (spl 32 v1.1 v1.2), .int v2, .ref (spl 29 v3.1 v3.2), .int v4]) 0 = some (.ref (spl 22 0 0)) := by rfl
  have l1 : jld (lv_args 0 [.ref (spl 22 0 0), .ref (spl 32 v1.1 v1.2), .int v2, .ref (spl 29 v3.1 v3.2), .int v4]) 1 = some (.ref (spl 32 v1.1 v1.2)) := by rfl
  have l2 : jld (lv_args 0 [.ref (spl 22 0 0), .ref (spl 32 v1.1 v1.2), .int v2, .ref (spl 29 v3.1 v3.2), .int v4]) 2 = some (.int v2) := by rfl
  have l3 : jld (lv_args 0 [.ref (spl 22 0 0), .ref (spl 32 v1.1 v1.2), .int v2, .ref (spl 29 v3.1 v3.2), .int v4]) 3 = some (.ref (spl 29 v3.1 v3.2)) := by rfl
  have l4 : jld (lv_args 0 [.ref (spl 22 0 0), .ref (spl 32 v1.1 v1.2), .int v2, .ref (spl 29 v3.1 v3.2), .int v4]) 4 = some (.int v4) := by rfl
  generalize lv_args 0 [.ref (spl 22 0 0), .ref (spl 32 v1.1 v1.2), .int v2, .ref (spl 29 v3.1 v3.2), .int v4] = lv at *
  refine jX.lrn l0 (by rfl) (by rfl) (?_ : jX G jP 92 1 lv [.ref (spl 22 0 0)] μ Q)
  refine jX.lin l2 (by rfl) (by rfl) (?_ : jX G jP 92 2 lv [.int v2, .ref (spl 22 0 0)] μ Q)
  refine jX.ic (v := nI 0) (n := 1) (by rfl) (by rfl) (by decide) (?_ : jX G jP 92 3 lv [.int (nI 0), .int v2, .ref (spl 22 0 0)] μ Q)
  refine jX.ic (v := nI 1) (n := 1) (by rfl) (by rfl) (by decide) (?_ : jX G jP 92 4 lv [.int (nI 1), .int (nI 0), .int v2, .ref (spl 22 0 0)] μ Q)
  obtain ⟨q1, e1, h⟩ := sbd h
  refine jX.c1 (v := soR 25 q1.1) (by rfl) (by rfl) (by rfl) (by rfl) (by rfl) (by rfl) (by rfl) (R.rec (by rfl) (by rfl)) (Nat.le_of_ble_eq_true rfl) (Nat.le_of_ble_eq_true rfl) (F_90_ok R e1 (fun μ R => ⟨rfl, (?_ : jX G jP 92 7 lv [soR 25 q1.1] μ Q)⟩))
  refine jX.so (k := 5) (pc' := 9) (by rfl) (by rfl) (fun _ => by rfl) (by rfl) (fun lv l5 kp => (?_ : jX G jP 92 9 lv [] μ Q))
  replace l0 := kp 0 _ l0 (by rfl) (by first | rfl | simp [soR_cat])
  replace l1 := kp 1 _ l1 (by rfl) (by first | rfl | simp [soR_cat])
  replace l2 := kp 2 _ l2 (by rfl) (by first | rfl | simp [soR_cat])
  replace l3 := kp 3 _ l3 (by rfl) (by first | rfl | simp [soR_cat])
  replace l4 := kp 4 _ l4 (by rfl) (by first | rfl | simp [soR_cat])
  refine jX.lo l5 (by rfl) (by rfl) (?_ : jX G jP 92 11 lv [soR 25 q1.1] μ Q)
  rcases sif_or h with ⟨e2, h⟩ | ⟨a2, e2, h⟩
  · rw [soR_none (t := 25) e2]
    rw [soR_none (t := 25) e2] at l5
    refine jX.go (by rfl) (by rfl) (by rfl) (?_ : jX G jP 92 14 lv [] μ Q)
    refine jX.go (by rfl) (by rfl) (by rfl) (?_ : jX G jP 92 15 lv [.null] μ Q)
    refine jX.go (by rfl) (by rfl) (by rfl) (?_ : jX G jP 92 23 lv [.null] μ Q)
    exact F_92_23_ok  K v1 v2 v3 v4 none none _ _ _ l0 l1 l2 l3 l4 l5 R h
  · rw [soR_some (t := 25) e2]
    rw [soR_some (t := 25) e2] at l5
    refine jX.go (by rfl) (by rfl) (by rfl) (?_ : jX G jP 92 18 lv [] μ Q)
    refine jX.lr l5 (by rfl) (by rfl) (?_ : jX G jP 92 20 lv [.ref (spl 25 a2.1 a2.2)] μ Q)
    obtain ⟨g3, h⟩ := jif_some h
    obtain ⟨q4, e4, h⟩ := sbd h
    refine jX.c1 (v := soR 27 q4.1) (by rfl) (by rfl) (by rfl) (by rfl) (by rfl) (by rfl) (by rfl) (R.rec g3 (by rfl)) (Nat.le_of_ble_eq_true rfl) (Nat.le_of_ble_eq_true rfl) (F_66_ok R e4 (fun μ R => ⟨rfl, (?_ : jX G jP 92 23 lv [soR 27 q4.1] μ Q)⟩))
    exact F_92_23_ok  K v1 v2 v3 v4 (some (a2.1, a2.2)) q4.1 _ _ _ l0 l1 l2 l3 l4 l5 R h
/-! 93 StrandRuntime$World.await(LStrandRuntime$Strand;II)V -/
def F_93 (G : jG) (t : Nat) (v1 : (Nat × Nat)) (v2 : Int32) (v3 : Int32) (S : sS) : Option (Unit × sS) := jif (sex S.2.2.2.1 25 v1.1 v1.2) (some ((), (siI (siI (siI (siI S 25 v1.1 v1.2 4 v2) 25 v1.1 v1.2 6 v3) 25 v1.1 v1.2 5 ((siI (siI S 25 v1.1 v1.2 4 v2) 25 v1.1 v1.2 6 v3).1 8 0 0 8)) 8 0 0 8 (((siI (siI (siI S 25 v1.1 v1.2 4 v2) 25 v1.1 v1.2 6 v3) 25 v1.1 v1.2 5 ((siI (siI S 25 v1.1 v1.2 4 v2) 25 v1.1 v1.2 6 v3).1 8 0 0 8)).1 8 0 0 8) + (nI 1)))))
theorem F_93_ok {G : jG} {t : Nat} {v1 : (Nat × Nat)} {v2 : Int32} {v3 : Int32} {S : sS} {r : Unit} {S' : sS} {μ : jS} {Q : Option Value ⊕ Nat → jS → Prop} (R : sR S μ) (h : F_93 G t v1 v2 v3 S = some (r, S')) (K : ∀ μ', sR S' μ' → Q (srV r) μ') : jX G jP 93 0 (lv_args 0 [.ref (spl 8 0 0), .ref (spl 25 v1.1 v1.2), .int v2, .int v3]) [] μ Q := by
  unfold F_93 at h
  have l0 : jld (lv_args 0 [.ref (spl 8 0 0), .ref (spl 25 v1.1 v1.2), .int v2, .int v3]) 0 = some (.ref (spl 8 0 0)) := by rfl
  have l1 : jld (lv_args 0 [.ref (spl 8 0 0), .ref (spl 25 v1.1 v1.2), .int v2, .int v3]) 1 = some (.ref (spl 25 v1.1 v1.2)) := by rfl
  have l2 : jld (lv_args 0 [.ref (spl 8 0 0), .ref (spl 25 v1.1 v1.2), .int v2, .int v3]) 2 = some (.int v2) := by rfl
  have l3 : jld (lv_args 0 [.ref (spl 8 0 0), .ref (spl 25 v1.1 v1.2), .int v2, .int v3]) 3 = some (.int v3) := by rfl
  generalize lv_args 0 [.ref (spl 8 0 0), .ref (spl 25 v1.1 v1.2), .int v2, .int v3] = lv at *
  refine jX.lrn l1 (by rfl) (by rfl) (?_ : jX G jP 93 1 lv [.ref (spl 25 v1.1 v1.2)] μ Q)
  refine jX.lin l2 (by rfl) (by rfl) (?_ : jX G jP 93 2 lv [.int v2, .ref (spl 25 v1.1 v1.2)] μ Q)
  obtain ⟨g1, h⟩ := jif_some h
  refine jX.spI R g1 (by rfl) (by rfl) (by rfl) (by rfl) (by rfl) (by rfl) (by rfl) (by rfl) (fun μ R => (?_ : jX G jP 93 5 lv [] μ Q))
  refine jX.lrn l1 (by rfl) (by rfl) (?_ : jX G jP 93 6 lv [.ref (spl 25 v1.1 v1.2)] μ Q)
  refine jX.lin l3 (by rfl) (by rfl) (?_ : jX G jP 93 7 lv [.int v3, .ref (spl 25 v1.1 v1.2)] μ Q)
  refine jX.spI R g1 (by rfl) (by rfl) (by rfl) (by rfl) (by rfl) (by rfl) (by rfl) (by rfl) (fun μ R => (?_ : jX G jP 93 10 lv [] μ Q))
  refine jX.lrn l1 (by rfl) (by rfl) (?_ : jX G jP 93 11 lv [.ref (spl 25 v1.1 v1.2)] μ Q)
  refine jX.lrn l0 (by rfl) (by rfl) (?_ : jX G jP 93 12 lv [.ref (spl 8 0 0), .ref (spl 25 v1.1 v1.2)] μ Q)
  refine jX.sg R (by rfl) (by rfl) (by rfl) (by rfl) (by rfl) (by rfl) (?_ : jX G jP 93 15 lv [.int ((siI (siI S 25 v1.1 v1.2 4 v2) 25 v1.1 v1.2 6 v3).1 8 0 0 8), .ref (spl 25 v1.1 v1.2)] μ Q)
  refine jX.spI R g1 (by rfl) (by rfl) (by rfl) (by rfl) (by rfl) (by rfl) (by rfl) (by rfl) (fun μ R => (?_ : jX G jP 93 18 lv [] μ Q))
  refine jX.lrn l0 (by rfl) (by rfl) (?_ : jX G jP 93 19 lv [.ref (spl 8 0 0)] μ Q)
  refine jX.go (by rfl) (by rfl) (by rfl) (?_ : jX G jP 93 20 lv [.ref (spl 8 0 0), .ref (spl 8 0 0)] μ Q)
  refine jX.sg R (by rfl) (by rfl) (by rfl) (by rfl) (by rfl) (by rfl) (?_ : jX G jP 93 23 lv [.int ((siI (siI (siI S 25 v1.1 v1.2 4 v2) 25 v1.1 v1.2 6 v3) 25 v1.1 v1.2 5 ((siI (siI S 25 v1.1 v1.2 4 v2) 25 v1.1 v1.2 6 v3).1 8 0 0 8)).1 8 0 0 8), .ref (spl 8 0 0)] μ Q)
  refine jX.ic (v := nI 1) (n := 1) (by rfl) (by rfl) (by decide) (?_ : jX G jP 93 24 lv [.int (nI 1), .int ((siI (siI (siI S 25 v1.1 v1.2 4 v2) 25 v1.1 v1.2 6 v3) 25 v1.1 v1.2 5 ((siI (siI S 25 v1.1 v1.2 4 v2) 25 v1.1 v1.2 6 v3).1 8 0 0 8)).1 8 0 0 8), .ref (spl 8 0 0)] μ Q)
  refine jX.go (by rfl) (by rfl) (by rfl) (?_ : jX G jP 93 25 lv [.int (((siI (siI (siI S 25 v1.1 v1.2 4 v2) 25 v1.1 v1.2 6 v3) 25 v1.1 v1.2 5 ((siI (siI S 25 v1.1 v1.2 4 v2) 25 v1.1 v1.2 6 v3).1 8 0 0 8)).1 8 0 0 8) + (nI 1)), .ref (spl 8 0 0)] μ Q)
  refine jX.spI R (by rfl) (by rfl) (by rfl) (by rfl) (by rfl) (by rfl) (by rfl) (by rfl) (by rfl) (fun μ R => (?_ : jX G jP 93 28 lv [] μ Q))
  exact jX.ret (by rfl) (by rfl) (by rfl) (by rfl) (sretv (f := srV) h K R)
/-! 94 StrandRuntime$Channels.send(LStrandRuntime$Strand;LStrandRuntime$Row;)I -/
def F_94_84 (G : jG) (t : Nat) (v1 : (Nat × Nat)) (S : sS) : Option (Int32 × sS) := (F_93 G t v1 (nI 2) (nI 0) S).bind (fun q1 => some ((nI 0), q1.2))
theorem F_94_84_ok {G : jG} {t : Nat} {r : Int32} {S' : sS} {Q : Option Value ⊕ Nat → jS → Prop} (K : ∀ μ', sR S' μ' → Q (srI r) μ') : ∀ (v1 : (Nat × Nat)) (S : sS) (lv : jL) (μ : jS), jld lv 0 = some (.ref (spl 22 0 0)) → jld lv 1 = some (.ref (spl 25 v1.1 v1.2)) → sR S μ → F_94_84 G t v1 S = some (r, S') → jX G jP 94 84 lv [] μ Q := by
  intro v1 S lv μ l0 l1 R h
  unfold F_94_84 at h
  refine jX.lrn l0 (by rfl) (by rfl) (?_ : jX G jP 94 85 lv [.ref (spl 22 0 0)] μ Q)
  refine jX.sg R (by rfl) (by rfl) (by rfl) (by rfl) (by rfl) (by rfl) (?_ : jX G jP 94 88 lv [.ref (spl 8 0 0)] μ Q)
  refine jX.lrn l1 (by rfl) (by rfl) (?_ : jX G jP 94 89 lv [.ref (spl 25 v1.1 v1.2), .ref (spl 8 0 0)] μ Q)
  refine jX.ic (v := nI 2) (n := 1) (by rfl) (by rfl) (by decide) (?_ : jX G jP 94 90 lv [.int (nI 2), .ref (spl 25 v1.1 v1.2), .ref (spl 8 0 0)] μ Q)
  refine jX.ic (v := nI 0) (n := 1) (by rfl) (by rfl) (by decide) (?_ : jX G jP 94 91 lv [.int (nI 0), .int (nI 2), .ref (spl 25 v1.1 v1.2), .ref (spl 8 0 0)] μ Q)
  obtain ⟨q1, e1, h⟩ := sbd h
  refine jX.cv (by rfl) (by rfl) (by rfl) (by rfl) (by rfl) (by rfl) (by rfl) (R.rec (by rfl) (by rfl)) (Nat.le_of_ble_eq_true rfl) (Nat.le_of_ble_eq_true rfl) (F_93_ok R e1 (fun μ R => ⟨rfl, (?_ : jX G jP 94 94 lv [] μ Q)⟩))
  refine jX.ic (v := nI 0) (n := 1) (by rfl) (by rfl) (by decide) (?_ : jX G jP 94 95 lv [.int (nI 0)] μ Q)
  exact jX.ret (by rfl) (by rfl) (by rfl) (by rfl) (sretv (f := srI) h K R)
def F_94_56 (G : jG) (t : Nat) (v1 : (Nat × Nat)) (v2 : (Nat × Nat)) (v3 : Int32) (v4 : Int32) (v5 : (Option (Nat × Nat))) (S : sS) : Option (Int32 × sS) := sif v5 (F_94_84 G t v1 S) (fun a1 => (F_92 G t a1 v4 v2 (v3 + (nI 1)) S).bind (fun q2 => bif jcmp .eq q2.1 0 then (F_94_84 G t v1 q2.2) else (jif (sex q2.2.2.2.2.1 29 v2.1 v2.2) ((F_76 G t v2 (nI 2) q2.2).bind (fun q4 => some ((nI 0), q4.2))))))
theorem F_94_56_ok {G : jG} {t : Nat} {r : Int32} {S' : sS} {Q : Option Value ⊕ Nat → jS → Prop} (K : ∀ μ', sR S' μ' → Q (srI r) μ') : ∀ (v1 : (Nat × Nat)) (v2 : (Nat × Nat)) (v3 : Int32) (v4 : Int32) (v5 : (Option (Nat × Nat))) (S : sS) (lv : jL) (μ : jS), jld lv 0 = some (.ref (spl 22 0 0)) → jld lv 1 = some (.ref (spl 25 v1.1 v1.2)) → jld lv 2 = some (.ref (spl 29 v2.1 v2.2)) → jld lv 3 = some (.int v3) → jld lv 4 = some (.int v4) → jld lv 5 = some (soR 32 v5) → sR S μ → F_94_56 G t v1 v2 v3 v4 v5 S = some (r, S') → jX G jP 94 56 lv [] μ Q := by
  intro v1 v2 v3 v4 v5 S lv μ l0 l1 l2 l3 l4 l5 R h
  unfold F_94_56 at h
  refine jX.lo l5 (by rfl) (by rfl) (?_ : jX G jP 94 58 lv [soR 32 v5] μ Q)
  rcases sif_or h with ⟨e1, h⟩ | ⟨a1, e1, h⟩
  · rw [soR_none (t := 32) e1]
    rw [soR_none (t := 32) e1] at l5
    refine jX.go (by rfl) (by rfl) (by rfl) (?_ : jX G jP 94 84 lv [] μ Q)
    exact F_94_84_ok  K v1 _ _ _ l0 l1 R h
  · rw [soR_some (t := 32) e1]
    rw [soR_some (t := 32) e1] at l5
    refine jX.go (by rfl) (by rfl) (by rfl) (?_ : jX G jP 94 61 lv [] μ Q)
    refine jX.lrn l0 (by rfl) (by rfl) (?_ : jX G jP 94 62 lv [.ref (spl 22 0 0)] μ Q)
    refine jX.lr l5 (by rfl) (by rfl) (?_ : jX G jP 94 64 lv [.ref (spl 32 a1.1 a1.2), .ref (spl 22 0 0)] μ Q)
    refine jX.li l4 (by rfl) (by rfl) (?_ : jX G jP 94 66 lv [.int v4, .ref (spl 32 a1.1 a1.2), .ref (spl 22 0 0)] μ Q)
    refine jX.lrn l2 (by rfl) (by rfl) (?_ : jX G jP 94 67 lv [.ref (spl 29 v2.1 v2.2), .int v4, .ref (spl 32 a1.1 a1.2), .ref (spl 22 0 0)] μ Q)
    refine jX.lin l3 (by rfl) (by rfl) (?_ : jX G jP 94 68 lv [.int v3, .ref (spl 29 v2.1 v2.2), .int v4, .ref (spl 32 a1.1 a1.2), .ref (spl 22 0 0)] μ Q)
    refine jX.ic (v := nI 1) (n := 1) (by rfl) (by rfl) (by decide) (?_ : jX G jP 94 69 lv [.int (nI 1), .int v3, .ref (spl 29 v2.1 v2.2), .int v4, .ref (spl 32 a1.1 a1.2), .ref (spl 22 0 0)] μ Q)
    refine jX.go (by rfl) (by rfl) (by rfl) (?_ : jX G jP 94 70 lv [.int (v3 + (nI 1)), .ref (spl 29 v2.1 v2.2), .int v4, .ref (spl 32 a1.1 a1.2), .ref (spl 22 0 0)] μ Q)
    obtain ⟨q2, e2, h⟩ := sbd h
    refine jX.c1 (v := .int q2.1) (by rfl) (by rfl) (by rfl) (by rfl) (by rfl) (by rfl) (by rfl) (R.rec (by rfl) (by rfl)) (Nat.le_of_ble_eq_true rfl) (Nat.le_of_ble_eq_true rfl) (F_92_ok R e2 (fun μ R => ⟨rfl, (?_ : jX G jP 94 73 lv [.int q2.1] μ Q)⟩))
    rcases bif_or h with ⟨hc, h⟩ | ⟨hc, h⟩
    · refine jX.b1t hc (by rfl) (by rfl) (by rfl) (?_ : jX G jP 94 84 lv [] μ Q)
      exact F_94_84_ok  K v1 _ _ _ l0 l1 R h
    · refine jX.b1f hc (by rfl) (by rfl) (by rfl) (?_ : jX G jP 94 76 lv [] μ Q)
      refine jX.lrn l2 (by rfl) (by rfl) (?_ : jX G jP 94 77 lv [.ref (spl 29 v2.1 v2.2)] μ Q)
      refine jX.ic (v := nI 2) (n := 1) (by rfl) (by rfl) (by decide) (?_ : jX G jP 94 78 lv [.int (nI 2), .ref (spl 29 v2.1 v2.2)] μ Q)
      obtain ⟨g3, h⟩ := jif_some h
      obtain ⟨q4, e4, h⟩ := sbd h
      refine jX.cv (by rfl) (by rfl) (by rfl) (by rfl) (by rfl) (by rfl) (by rfl) (R.rec g3 (by rfl)) (Nat.le_of_ble_eq_true rfl) (Nat.le_of_ble_eq_true rfl) (F_76_ok R e4 (fun μ R => ⟨rfl, (?_ : jX G jP 94 81 lv [] μ Q)⟩))
      refine jX.go (by rfl) (by rfl) (by rfl) (?_ : jX G jP 94 94 lv [] μ Q)
      refine jX.ic (v := nI 0) (n := 1) (by rfl) (by rfl) (by decide) (?_ : jX G jP 94 95 lv [.int (nI 0)] μ Q)
      exact jX.ret (by rfl) (by rfl) (by rfl) (by rfl) (sretv (f := srI) h K R)
def F_94_40 (G : jG) (t : Nat) (v1 : (Nat × Nat)) (v2 : (Nat × Nat)) (v3 : Int32) (v4 : Int32) (v5 : (Option (Nat × Nat))) (S : sS) : Option (Int32 × sS) := sif v5 (F_94_56 G t v1 v2 v3 v4 none S) (fun a1 => jif (sex S.2.2.2.1 32 a1.1 a1.2) (bif jcmp .eq (S.1 32 a1.1 a1.2 4) 0 then (F_94_56 G t v1 v2 v3 v4 (some (a1.1, a1.2)) S) else (some ((-4), S))))
theorem F_94_40_ok {G : jG} {t : Nat} {r : Int32} {S' : sS} {Q : Option Value ⊕ Nat → jS → Prop} (K : ∀ μ', sR S' μ' → Q (srI r) μ') : ∀ (v1 : (Nat × Nat)) (v2 : (Nat × Nat)) (v3 : Int32) (v4 : Int32) (v5 : (Option (Nat × Nat))) (S : sS) (lv : jL) (μ : jS), jld lv 0 = some (.ref (spl 22 0 0)) → jld lv 1 = some (.ref (spl 25 v1.1 v1.2)) → jld lv 2 = some (.ref (spl 29 v2.1 v2.2)) → jld lv 3 = some (.int v3) → jld lv 4 = some (.int v4) → jld lv 5 = some (soR 32 v5) → sR S μ → F_94_40 G t v1 v2 v3 v4 v5 S = some (r, S') → jX G jP 94 40 lv [] μ Q := by
  intro v1 v2 v3 v4 v5 S lv μ l0 l1 l2 l3 l4 l5 R h
  unfold F_94_40 at h
  refine jX.lo l5 (by rfl) (by rfl) (?_ : jX G jP 94 42 lv [soR 32 v5] μ Q)
  rcases sif_or h with ⟨e1, h⟩ | ⟨a1, e1, h⟩
  · rw [soR_none (t := 32) e1]
    rw [soR_none (t := 32) e1] at l5
    refine jX.go (by rfl) (by rfl) (by rfl) (?_ : jX G jP 94 56 lv [] μ Q)
    exact F_94_56_ok  K v1 v2 v3 v4 none _ _ _ l0 l1 l2 l3 l4 l5 R h
  · rw [soR_some (t := 32) e1]
    rw [soR_some (t := 32) e1] at l5
    refine jX.go (by rfl) (by rfl) (by rfl) (?_ : jX G jP 94 45 lv [] μ Q)
    refine jX.lr l5 (by rfl) (by rfl) (?_ : jX G jP 94 47 lv [.ref (spl 32 a1.1 a1.2)] μ Q)
    obtain ⟨g2, h⟩ := jif_some h
    refine jX.sg R g2 (by rfl) (by rfl) (by rfl) (by rfl) (by rfl) (?_ : jX G jP 94 50 lv [.int (S.1 32 a1.1 a1.2 4)] μ Q)
    rcases bif_or h with ⟨hc, h⟩ | ⟨hc, h⟩
    · refine jX.b1t hc (by rfl) (by rfl) (by rfl) (?_ : jX G jP 94 56 lv [] μ Q)
      exact F_94_56_ok  K v1 v2 v3 v4 (some (a1.1, a1.2)) _ _ _ l0 l1 l2 l3 l4 l5 R h
    · refine jX.b1f hc (by rfl) (by rfl) (by rfl) (?_ : jX G jP 94 53 lv [] μ Q)
      refine jX.ic (v := (-4)) (n := 2) (by rfl) (by rfl) (by decide) (?_ : jX G jP 94 55 lv [.int (-4)] μ Q)
      exact jX.ret (by rfl) (by rfl) (by rfl) (by rfl) (sretv (f := srI) h K R)
def F_94 (G : jG) (t : Nat) (v1 : (Nat × Nat)) (v2 : (Nat × Nat)) (S : sS) : Option (Int32 × sS) := jif (sex S.2.2.2.1 29 v2.1 v2.2) ((F_27 G t v2 ((S.1 29 v2.1 v2.2 2) - (nI 2)) S).bind (fun q2 => (F_87 G t q2.1 (nI 3) q2.2).bind (fun q3 => sif q3.1 (bif jcmp .eq q2.1 (nI 1) then (F_94_40 G t v1 v2 ((S.1 29 v2.1 v2.2 2) - (nI 2)) q2.1 none q3.2) else (some ((-2), q3.2))) (fun a4 => F_94_40 G t v1 v2 ((S.1 29 v2.1 v2.2 2) - (nI 2)) q2.1 (some (a4.1, a4.2)) q3.2))))
theorem F_94_ok {G : jG} {t : Nat} {v1 : (Nat × Nat)} {v2 : (Nat × Nat)} {S : sS} {r : Int32} {S' : sS} {μ : jS} {Q : Option Value ⊕ Nat → jS → Prop} (R : sR S μ) (h : F_94 G t v1 v2 S = some (r, S')) (K : ∀ μ', sR S' μ' → Q (srI r) μ') : jX G jP 94 0 (lv_args 0 [.ref (spl 22 0 0), .ref (spl 25 v1.1 v1.2), .ref (spl 29 v2.1 v2.2)]) [] μ Q := by
  unfold F_94 at h
  have l0 : jld (lv_args 0 [.ref (spl 22 0 0), .ref (spl 25 v1.1 v1.2), .ref (spl 29 v2.1 v2.2)]) 0 = some (.ref (spl 22 0 0)) := by rfl
  have l1 : jld (lv_args 0 [.ref (spl 22 0 0), .ref (spl 25 v1.1 v1.2), .ref (spl 29 v2.1 v2.2)]) 1 = some (.ref (spl 25 v1.1 v1.2)) := by rfl
  have l2 : jld (lv_args 0 [.ref (spl 22 0 0), .ref (spl 25 v1.1 v1.2), .ref (spl 29 v2.1 v2.2)]) 2 = some (.ref (spl 29 v2.1 v2.2)) := by rfl
  generalize lv_args 0 [.ref (spl 22 0 0), .ref (spl 25 v1.1 v1.2), .ref (spl 29 v2.1 v2.2)] = lv at *
  refine jX.lrn l2 (by rfl) (by rfl) (?_ : jX G jP 94 1 lv [.ref (spl 29 v2.1 v2.2)] μ Q)
  obtain ⟨g1, h⟩ := jif_some h
  refine jX.sg R g1 (by rfl) (by rfl) (by rfl) (by rfl) (by rfl) (?_ : jX G jP 94 4 lv [.int (S.1 29 v2.1 v2.2 2)] μ Q)
  refine jX.ic (v := nI 2) (n := 1) (by rfl) (by rfl) (by decide) (?_ : jX G jP 94 5 lv [.int (nI 2), .int (S.1 29 v2.1 v2.2 2)] μ Q)
  refine jX.go (by rfl) (by rfl) (by rfl) (?_ : jX G jP 94 6 lv [.int ((S.1 29 v2.1 v2.2 2) - (nI 2))] μ Q)
  refine jX.s1 (k := 3) (pc' := 7) (by rfl) (by rfl) (by rfl) (fun lv l3 kp => (?_ : jX G jP 94 7 lv [] μ Q))
  replace l0 := kp 0 _ l0 (by rfl) (by first | rfl | simp [soR_cat])
  replace l1 := kp 1 _ l1 (by rfl) (by first | rfl | simp [soR_cat])
  replace l2 := kp 2 _ l2 (by rfl) (by first | rfl | simp [soR_cat])
  refine jX.lrn l2 (by rfl) (by rfl) (?_ : jX G jP 94 8 lv [.ref (spl 29 v2.1 v2.2)] μ Q)
  refine jX.lin l3 (by rfl) (by rfl) (?_ : jX G jP 94 9 lv [.int ((S.1 29 v2.1 v2.2 2) - (nI 2)), .ref (spl 29 v2.1 v2.2)] μ Q)
  obtain ⟨q2, e2, h⟩ := sbd h
  refine jX.c1 (v := .int q2.1) (by rfl) (by rfl) (by rfl) (by rfl) (by rfl) (by rfl) (by rfl) (R.rec g1 (by rfl)) (Nat.le_of_ble_eq_true rfl) (Nat.le_of_ble_eq_true rfl) (F_27_ok R e2 (fun μ R => ⟨rfl, (?_ : jX G jP 94 12 lv [.int q2.1] μ Q)⟩))
  refine jX.s1 (k := 4) (pc' := 14) (by rfl) (by rfl) (by rfl) (fun lv l4 kp => (?_ : jX G jP 94 14 lv [] μ Q))
  replace l0 := kp 0 _ l0 (by rfl) (by first | rfl | simp [soR_cat])
  replace l1 := kp 1 _ l1 (by rfl) (by first | rfl | simp [soR_cat])
  replace l2 := kp 2 _ l2 (by rfl) (by first | rfl | simp [soR_cat])
  replace l3 := kp 3 _ l3 (by rfl) (by first | rfl | simp [soR_cat])
  refine jX.lrn l0 (by rfl) (by rfl) (?_ : jX G jP 94 15 lv [.ref (spl 22 0 0)] μ Q)
  refine jX.sg R (by rfl) (by rfl) (by rfl) (by rfl) (by rfl) (by rfl) (?_ : jX G jP 94 18 lv [.ref (spl 11 0 0)] μ Q)
  refine jX.li l4 (by rfl) (by rfl) (?_ : jX G jP 94 20 lv [.int q2.1, .ref (spl 11 0 0)] μ Q)
  refine jX.ic (v := nI 3) (n := 1) (by rfl) (by rfl) (by decide) (?_ : jX G jP 94 21 lv [.int (nI 3), .int q2.1, .ref (spl 11 0 0)] μ Q)
  obtain ⟨q3, e3, h⟩ := sbd h
  refine jX.c1 (v := soR 32 q3.1) (by rfl) (by rfl) (by rfl) (by rfl) (by rfl) (by rfl) (by rfl) (R.rec (by rfl) (by rfl)) (Nat.le_of_ble_eq_true rfl) (Nat.le_of_ble_eq_true rfl) (F_87_ok R e3 (fun μ R => ⟨rfl, (?_ : jX G jP 94 24 lv [soR 32 q3.1] μ Q)⟩))
  refine jX.so (k := 5) (pc' := 26) (by rfl) (by rfl) (fun _ => by rfl) (by rfl) (fun lv l5 kp => (?_ : jX G jP 94 26 lv [] μ Q))
  replace l0 := kp 0 _ l0 (by rfl) (by first | rfl | simp [soR_cat])
  replace l1 := kp 1 _ l1 (by rfl) (by first | rfl | simp [soR_cat])
  replace l2 := kp 2 _ l2 (by rfl) (by first | rfl | simp [soR_cat])
  replace l3 := kp 3 _ l3 (by rfl) (by first | rfl | simp [soR_cat])
  replace l4 := kp 4 _ l4 (by rfl) (by first | rfl | simp [soR_cat])
  refine jX.lo l5 (by rfl) (by rfl) (?_ : jX G jP 94 28 lv [soR 32 q3.1] μ Q)
  rcases sif_or h with ⟨e4, h⟩ | ⟨a4, e4, h⟩
  · rw [soR_none (t := 32) e4]
    rw [soR_none (t := 32) e4] at l5
    refine jX.go (by rfl) (by rfl) (by rfl) (?_ : jX G jP 94 31 lv [] μ Q)
    refine jX.li l4 (by rfl) (by rfl) (?_ : jX G jP 94 33 lv [.int q2.1] μ Q)
    refine jX.ic (v := nI 1) (n := 1) (by rfl) (by rfl) (by decide) (?_ : jX G jP 94 34 lv [.int (nI 1), .int q2.1] μ Q)
    rcases bif_or h with ⟨hc, h⟩ | ⟨hc, h⟩
    · refine jX.b2t hc (by rfl) (by rfl) (by rfl) (?_ : jX G jP 94 40 lv [] μ Q)
      exact F_94_40_ok  K v1 v2 ((S.1 29 v2.1 v2.2 2) - (nI 2)) q2.1 none _ _ _ l0 l1 l2 l3 l4 l5 R h
    · refine jX.b2f hc (by rfl) (by rfl) (by rfl) (?_ : jX G jP 94 37 lv [] μ Q)
      refine jX.ic (v := (-2)) (n := 2) (by rfl) (by rfl) (by decide) (?_ : jX G jP 94 39 lv [.int (-2)] μ Q)
      exact jX.ret (by rfl) (by rfl) (by rfl) (by rfl) (sretv (f := srI) h K R)
  · rw [soR_some (t := 32) e4]
    rw [soR_some (t := 32) e4] at l5
    refine jX.go (by rfl) (by rfl) (by rfl) (?_ : jX G jP 94 40 lv [] μ Q)
    exact F_94_40_ok  K v1 v2 ((S.1 29 v2.1 v2.2 2) - (nI 2)) q2.1 (some (a4.1, a4.2)) _ _ _ l0 l1 l2 l3 l4 l5 R h
/-! 95 StrandRuntime$Channels.hasForReceiver(LStrandRuntime$Thing;I)Z -/
def F_95_27 (G : jG) (t : Nat) (S : sS) : Option (Int32 × sS) := some ((nI 1), S)
theorem F_95_27_ok {G : jG} {t : Nat} {r : Int32} {S' : sS} {Q : Option Value ⊕ Nat → jS → Prop} (K : ∀ μ', sR S' μ' → Q (srI r) μ') : ∀ (S : sS) (lv : jL) (μ : jS), sR S μ → F_95_27 G t S = some (r, S') → jX G jP 95 27 lv [] μ Q := by
  intro S lv μ R h
  unfold F_95_27 at h
  refine jX.ic (v := nI 1) (n := 1) (by rfl) (by rfl) (by decide) (?_ : jX G jP 95 28 lv [.int (nI 1)] μ Q)
  refine jX.go (by rfl) (by rfl) (by rfl) (?_ : jX G jP 95 32 lv [.int (nI 1)] μ Q)
  exact jX.ret (by rfl) (by rfl) (by rfl) (by rfl) (sretv (f := srI) h K R)
def F_95 (G : jG) (t : Nat) (v1 : (Nat × Nat)) (v2 : Int32) (S : sS) : Option (Int32 × sS) := jif (sex S.2.2.2.1 32 v1.1 v1.2) (jif (sex S.2.2.2.1 29 v1.1 4) (bif jcmp .gt (S.1 29 v1.1 4 2) 0 then (F_95_27 G t S) else (bif jcmp .ne (S.1 32 v1.1 v1.2 4) 0 then (F_95_27 G t S) else ((F_90 G t v2 (nI 1) (nI 0) S).bind (fun q3 => sif q3.1 (some ((nI 0), q3.2)) (fun a4 => F_95_27 G t q3.2))))))
theorem F_95_ok {G : jG} {t : Nat} {v1 : (Nat × Nat)} {v2 : Int32} {S : sS} {r : Int32} {S' : sS} {μ : jS} {Q : Option Value ⊕ Nat → jS → Prop} (R : sR S μ) (h : F_95 G t v1 v2 S = some (r, S')) (K : ∀ μ', sR S' μ' → Q (srI r) μ') : jX G jP 95 0 (lv_args 0 [.ref (spl 22 0 0), .ref (spl 32 v1.1 v1.2), .int v2]) [] μ Q := by
  unfold F_95 at h
  have l0 : jld (lv_args 0 [.ref (spl 22 0 0), .ref (spl 32 v1.1 v1.2), .int v2]) 0 = some (.ref (spl 22 0 0)) := by rfl
  have l1 : jld (lv_args 0 [.ref (spl 22 0 0), .ref (spl 32 v1.1 v1.2), .int v2]) 1 = some (.ref (spl 32 v1.1 v1.2)) := by rfl
  have l2 : jld (lv_args 0 [.ref (spl 22 0 0), .ref (spl 32 v1.1 v1.2), .int v2]) 2 = some (.int v2) := by rfl
  generalize lv_args 0 [.ref (spl 22 0 0), .ref (spl 32 v1.1 v1.2), .int v2] = lv at *
  refine jX.lrn l1 (by rfl) (by rfl) (?_ : jX G jP 95 1 lv [.ref (spl 32 v1.1 v1.2)] μ Q)
  obtain ⟨g1, h⟩ := jif_some h
  refine jX.sg R g1 (by rfl) (by rfl) (by rfl) (by rfl) (by rfl) (?_ : jX G jP 95 4 lv [.ref (spl 29 v1.1 4)] μ Q)
  obtain ⟨g2, h⟩ := jif_some h
  refine jX.sg R g2 (by rfl) (by rfl) (by rfl) (by rfl) (by rfl) (?_ : jX G jP 95 7 lv [.int (S.1 29 v1.1 4 2)] μ Q)
  rcases bif_or h with ⟨hc, h⟩ | ⟨hc, h⟩
  · refine jX.b1t hc (by rfl) (by rfl) (by rfl) (?_ : jX G jP 95 27 lv [] μ Q)
    exact F_95_27_ok  K  _ _ _  R h
  · refine jX.b1f hc (by rfl) (by rfl) (by rfl) (?_ : jX G jP 95 10 lv [] μ Q)
    refine jX.lrn l1 (by rfl) (by rfl) (?_ : jX G jP 95 11 lv [.ref (spl 32 v1.1 v1.2)] μ Q)
    refine jX.sg R g1 (by rfl) (by rfl) (by rfl) (by rfl) (by rfl) (?_ : jX G jP 95 14 lv [.int (S.1 32 v1.1 v1.2 4)] μ Q)
    rcases bif_or h with ⟨hc, h⟩ | ⟨hc, h⟩
    · refine jX.b1t hc (by rfl) (by rfl) (by rfl) (?_ : jX G jP 95 27 lv [] μ Q)
      exact F_95_27_ok  K  _ _ _  R h
    · refine jX.b1f hc (by rfl) (by rfl) (by rfl) (?_ : jX G jP 95 17 lv [] μ Q)
      refine jX.lrn l0 (by rfl) (by rfl) (?_ : jX G jP 95 18 lv [.ref (spl 22 0 0)] μ Q)
      refine jX.lin l2 (by rfl) (by rfl) (?_ : jX G jP 95 19 lv [.int v2, .ref (spl 22 0 0)] μ Q)
      refine jX.ic (v := nI 1) (n := 1) (by rfl) (by rfl) (by decide) (?_ : jX G jP 95 20 lv [.int (nI 1), .int v2, .ref (spl 22 0 0)] μ Q)
      refine jX.ic (v := nI 0) (n := 1) (by rfl) (by rfl) (by decide) (?_ : jX G jP 95 21 lv [.int (nI 0), .int (nI 1), .int v2, .ref (spl 22 0 0)] μ Q)
      obtain ⟨q3, e3, h⟩ := sbd h
      refine jX.c1 (v := soR 25 q3.1) (by rfl) (by rfl) (by rfl) (by rfl) (by rfl) (by rfl) (by rfl) (R.rec (by rfl) (by rfl)) (Nat.le_of_ble_eq_true rfl) (Nat.le_of_ble_eq_true rfl) (F_90_ok R e3 (fun μ R => ⟨rfl, (?_ : jX G jP 95 24 lv [soR 25 q3.1] μ Q)⟩))
      rcases sif_or h with ⟨e4, h⟩ | ⟨a4, e4, h⟩
      · rw [soR_none (t := 25) e4]
        refine jX.go (by rfl) (by rfl) (by rfl) (?_ : jX G jP 95 31 lv [] μ Q)
        refine jX.ic (v := nI 0) (n := 1) (by rfl) (by rfl) (by decide) (?_ : jX G jP 95 32 lv [.int (nI 0)] μ Q)
        exact jX.ret (by rfl) (by rfl) (by rfl) (by rfl) (sretv (f := srI) h K R)
      · rw [soR_some (t := 25) e4]
        refine jX.go (by rfl) (by rfl) (by rfl) (?_ : jX G jP 95 27 lv [] μ Q)
        exact F_95_27_ok  K  _ _ _  R h
/-! 96 StrandRuntime$Heap.loses(LStrandRuntime$Row;I)V -/
def F_96 (G : jG) (t : Nat) (v1 : (Nat × Nat)) (v2 : Int32) (S : sS) : Option (Unit × sS) := bif jcmp .ne (S.1 11 0 0 11) (nI 1) then (some ((), S)) else ((F_35 G t (0, 0) v1 v2 (v2 + (nI 1)) S).bind (fun q1 => some ((), q1.2)))
theorem F_96_ok {G : jG} {t : Nat} {v1 : (Nat × Nat)} {v2 : Int32} {S : sS} {r : Unit} {S' : sS} {μ : jS} {Q : Option Value ⊕ Nat → jS → Prop} (R : sR S μ) (h : F_96 G t v1 v2 S = some (r, S')) (K : ∀ μ', sR S' μ' → Q (srV r) μ') : jX G jP 96 0 (lv_args 0 [.ref (spl 11 0 0), .ref (spl 29 v1.1 v1.2), .int v2]) [] μ Q := by
  unfold F_96 at h
  have l0 : jld (lv_args 0 [.ref (spl 11 0 0), .ref (spl 29 v1.1 v1.2), .int v2]) 0 = some (.ref (spl 11 0 0)) := by rfl
  have l1 : jld (lv_args 0 [.ref (spl 11 0 0), .ref (spl 29 v1.1 v1.2), .int v2]) 1 = some (.ref (spl 29 v1.1 v1.2)) := by rfl
  have l2 : jld (lv_args 0 [.ref (spl 11 0 0), .ref (spl 29 v1.1 v1.2), .int v2]) 2 = some (.int v2) := by rfl
  generalize lv_args 0 [.ref (spl 11 0 0), .ref (spl 29 v1.1 v1.2), .int v2] = lv at *
  refine jX.lrn l0 (by rfl) (by rfl) (?_ : jX G jP 96 1 lv [.ref (spl 11 0 0)] μ Q)
  refine jX.sg R (by rfl) (by rfl) (by rfl) (by rfl) (by rfl) (by rfl) (?_ : jX G jP 96 4 lv [.int (S.1 11 0 0 11)] μ Q)
  refine jX.ic (v := nI 1) (n := 1) (by rfl) (by rfl) (by decide) (?_ : jX G jP 96 5 lv [.int (nI 1), .int (S.1 11 0 0 11)] μ Q)
  rcases bif_or h with ⟨hc, h⟩ | ⟨hc, h⟩
  · refine jX.b2t hc (by rfl) (by rfl) (by rfl) (?_ : jX G jP 96 20 lv [] μ Q)
    exact jX.ret (by rfl) (by rfl) (by rfl) (by rfl) (sretv (f := srV) h K R)
  · refine jX.b2f hc (by rfl) (by rfl) (by rfl) (?_ : jX G jP 96 8 lv [] μ Q)
    refine jX.lrn l0 (by rfl) (by rfl) (?_ : jX G jP 96 9 lv [.ref (spl 11 0 0)] μ Q)
    refine jX.sg R (by rfl) (by rfl) (by rfl) (by rfl) (by rfl) (by rfl) (?_ : jX G jP 96 12 lv [.ref (spl 15 0 0)] μ Q)
    refine jX.lrn l1 (by rfl) (by rfl) (?_ : jX G jP 96 13 lv [.ref (spl 29 v1.1 v1.2), .ref (spl 15 0 0)] μ Q)
    refine jX.lin l2 (by rfl) (by rfl) (?_ : jX G jP 96 14 lv [.int v2, .ref (spl 29 v1.1 v1.2), .ref (spl 15 0 0)] μ Q)
    refine jX.lin l2 (by rfl) (by rfl) (?_ : jX G jP 96 15 lv [.int v2, .int v2, .ref (spl 29 v1.1 v1.2), .ref (spl 15 0 0)] μ Q)
    refine jX.ic (v := nI 1) (n := 1) (by rfl) (by rfl) (by decide) (?_ : jX G jP 96 16 lv [.int (nI 1), .int v2, .int v2, .ref (spl 29 v1.1 v1.2), .ref (spl 15 0 0)] μ Q)
    refine jX.go (by rfl) (by rfl) (by rfl) (?_ : jX G jP 96 17 lv [.int (v2 + (nI 1)), .int v2, .ref (spl 29 v1.1 v1.2), .ref (spl 15 0 0)] μ Q)
    obtain ⟨q1, e1, h⟩ := sbd h
    refine jX.cv (by rfl) (by rfl) (by rfl) (by rfl) (by rfl) (by rfl) (by rfl) (R.rec (by rfl) (by rfl)) (Nat.le_of_ble_eq_true rfl) (Nat.le_of_ble_eq_true rfl) (F_35_ok R e1 (fun μ R => ⟨rfl, (?_ : jX G jP 96 20 lv [] μ Q)⟩))
    exact jX.ret (by rfl) (by rfl) (by rfl) (by rfl) (sretv (f := srV) h K R)
/-! 97 StrandRuntime$Row.dropFirst()V -/
def F_97_2 (G : jG) (t : Nat) : Nat → (Nat × Nat) → Int32 → sS → Option (Unit × sS)
  | 0 => fun _ _ _ => none
  | tt + 1 => fun v0 v1 S => jif (sex S.2.2.2.1 29 v0.1 v0.2) (bif jcmp .ge v1 (S.1 29 v0.1 v0.2 2) then ((F_76 G t v0 (nI 1) S).bind (fun q2 => some ((), q2.2))) else (jif (sex S.2.2.2.1 30 v0.1 v0.2) (jif (jin v1 (srl v0.2)) (jif (jin (v1 - (nI 1)) (srl v0.2)) (jif (sex (siL S 30 v0.1 v0.2 (v1 - (nI 1)).toNatClampNeg (S.2.1 30 v0.1 v0.2 v1.toNatClampNeg)).2.2.2.1 31 v0.1 v0.2) (jif (jin v1 (srl v0.2)) (jif (jin (v1 - (nI 1)) (srl v0.2)) (F_97_2 G t tt v0 (v1 + Int32.ofInt 1) (siI (siL S 30 v0.1 v0.2 (v1 - (nI 1)).toNatClampNeg (S.2.1 30 v0.1 v0.2 v1.toNatClampNeg)) 31 v0.1 v0.2 (v1 - (nI 1)).toNatClampNeg ((siL S 30 v0.1 v0.2 (v1 - (nI 1)).toNatClampNeg (S.2.1 30 v0.1 v0.2 v1.toNatClampNeg)).1 31 v0.1 v0.2 v1.toNatClampNeg))))))))))
theorem F_97_2_ok {G : jG} {t : Nat} {r : Unit} {S' : sS} {Q : Option Value ⊕ Nat → jS → Prop} (K : ∀ μ', sR S' μ' → Q (srV r) μ') : ∀ tt : Nat, ∀ (v0 : (Nat × Nat)) (v1 : Int32) (S : sS) (lv : jL) (μ : jS), jld lv 0 = some (.ref (spl 29 v0.1 v0.2)) → jld lv 1 = some (.int v1) → sR S μ → F_97_2 G t tt v0 v1 S = some (r, S') → jX G jP 97 2 lv [] μ Q := by
  intro tt
  induction tt with
  | zero =>
    intro v0 v1 S lv μ l0 l1 R h
    rw [F_97_2] at h
    cases h
  | succ tt ih =>
    intro v0 v1 S lv μ l0 l1 R h
    rw [F_97_2] at h
    refine jX.lin l1 (by rfl) (by rfl) (?_ : jX G jP 97 3 lv [.int v1] μ Q)
    refine jX.lrn l0 (by rfl) (by rfl) (?_ : jX G jP 97 4 lv [.ref (spl 29 v0.1 v0.2), .int v1] μ Q)
    obtain ⟨g1, h⟩ := jif_some h
    refine jX.sg R g1 (by rfl) (by rfl) (by rfl) (by rfl) (by rfl) (?_ : jX G jP 97 7 lv [.int (S.1 29 v0.1 v0.2 2), .int v1] μ Q)
    rcases bif_or h with ⟨hc, h⟩ | ⟨hc, h⟩
    · refine jX.b2t hc (by rfl) (by rfl) (by rfl) (?_ : jX G jP 97 44 lv [] μ Q)
      refine jX.lrn l0 (by rfl) (by rfl) (?_ : jX G jP 97 45 lv [.ref (spl 29 v0.1 v0.2)] μ Q)
      refine jX.ic (v := nI 1) (n := 1) (by rfl) (by rfl) (by decide) (?_ : jX G jP 97 46 lv [.int (nI 1), .ref (spl 29 v0.1 v0.2)] μ Q)
      obtain ⟨q2, e2, h⟩ := sbd h
      refine jX.cv (by rfl) (by rfl) (by rfl) (by rfl) (by rfl) (by rfl) (by rfl) (R.rec g1 (by rfl)) (Nat.le_of_ble_eq_true rfl) (Nat.le_of_ble_eq_true rfl) (F_76_ok R e2 (fun μ R => ⟨rfl, (?_ : jX G jP 97 49 lv [] μ Q)⟩))
      exact jX.ret (by rfl) (by rfl) (by rfl) (by rfl) (sretv (f := srV) h K R)
    · refine jX.b2f hc (by rfl) (by rfl) (by rfl) (?_ : jX G jP 97 10 lv [] μ Q)
      refine jX.lrn l0 (by rfl) (by rfl) (?_ : jX G jP 97 11 lv [.ref (spl 29 v0.1 v0.2)] μ Q)
      refine jX.sg R g1 (by rfl) (by rfl) (by rfl) (by rfl) (by rfl) (?_ : jX G jP 97 14 lv [.ref (spl 30 v0.1 v0.2)] μ Q)
      refine jX.lin l1 (by rfl) (by rfl) (?_ : jX G jP 97 15 lv [.int v1, .ref (spl 30 v0.1 v0.2)] μ Q)
      refine jX.ic (v := nI 1) (n := 1) (by rfl) (by rfl) (by decide) (?_ : jX G jP 97 16 lv [.int (nI 1), .int v1, .ref (spl 30 v0.1 v0.2)] μ Q)
      refine jX.go (by rfl) (by rfl) (by rfl) (?_ : jX G jP 97 17 lv [.int (v1 - (nI 1)), .ref (spl 30 v0.1 v0.2)] μ Q)
      refine jX.lrn l0 (by rfl) (by rfl) (?_ : jX G jP 97 18 lv [.ref (spl 29 v0.1 v0.2), .int (v1 - (nI 1)), .ref (spl 30 v0.1 v0.2)] μ Q)
      refine jX.sg R g1 (by rfl) (by rfl) (by rfl) (by rfl) (by rfl) (?_ : jX G jP 97 21 lv [.ref (spl 30 v0.1 v0.2), .int (v1 - (nI 1)), .ref (spl 30 v0.1 v0.2)] μ Q)
      refine jX.lin l1 (by rfl) (by rfl) (?_ : jX G jP 97 22 lv [.int v1, .ref (spl 30 v0.1 v0.2), .int (v1 - (nI 1)), .ref (spl 30 v0.1 v0.2)] μ Q)
      obtain ⟨g3, h⟩ := jif_some h
      obtain ⟨g4, h⟩ := jif_some h
      refine jX.sal R g3 (by rfl) (by rfl) (by rfl) g4 (?_ : jX G jP 97 23 lv [.long (S.2.1 30 v0.1 v0.2 v1.toNatClampNeg), .int (v1 - (nI 1)), .ref (spl 30 v0.1 v0.2)] μ Q)
      obtain ⟨g5, h⟩ := jif_some h
      refine jX.stl R g3 (by rfl) (by rfl) (fun _ => by rfl) g5 (fun μ R => (?_ : jX G jP 97 24 lv [] μ Q))
      refine jX.lrn l0 (by rfl) (by rfl) (?_ : jX G jP 97 25 lv [.ref (spl 29 v0.1 v0.2)] μ Q)
      refine jX.sg R g1 (by rfl) (by rfl) (by rfl) (by rfl) (by rfl) (?_ : jX G jP 97 28 lv [.ref (spl 31 v0.1 v0.2)] μ Q)
      refine jX.lin l1 (by rfl) (by rfl) (?_ : jX G jP 97 29 lv [.int v1, .ref (spl 31 v0.1 v0.2)] μ Q)
      refine jX.ic (v := nI 1) (n := 1) (by rfl) (by rfl) (by decide) (?_ : jX G jP 97 30 lv [.int (nI 1), .int v1, .ref (spl 31 v0.1 v0.2)] μ Q)
      refine jX.go (by rfl) (by rfl) (by rfl) (?_ : jX G jP 97 31 lv [.int (v1 - (nI 1)), .ref (spl 31 v0.1 v0.2)] μ Q)
      refine jX.lrn l0 (by rfl) (by rfl) (?_ : jX G jP 97 32 lv [.ref (spl 29 v0.1 v0.2), .int (v1 - (nI 1)), .ref (spl 31 v0.1 v0.2)] μ Q)
      refine jX.sg R g1 (by rfl) (by rfl) (by rfl) (by rfl) (by rfl) (?_ : jX G jP 97 35 lv [.ref (spl 31 v0.1 v0.2), .int (v1 - (nI 1)), .ref (spl 31 v0.1 v0.2)] μ Q)
      refine jX.lin l1 (by rfl) (by rfl) (?_ : jX G jP 97 36 lv [.int v1, .ref (spl 31 v0.1 v0.2), .int (v1 - (nI 1)), .ref (spl 31 v0.1 v0.2)] μ Q)
      obtain ⟨g6, h⟩ := jif_some h
      obtain ⟨g7, h⟩ := jif_some h
      refine jX.sai R g6 (by rfl) (by rfl) (by rfl) g7 (?_ : jX G jP 97 37 lv [.int ((siL S 30 v0.1 v0.2 (v1 - (nI 1)).toNatClampNeg (S.2.1 30 v0.1 v0.2 v1.toNatClampNeg)).1 31 v0.1 v0.2 v1.toNatClampNeg), .int (v1 - (nI 1)), .ref (spl 31 v0.1 v0.2)] μ Q)
      obtain ⟨g8, h⟩ := jif_some h
      refine jX.sti R g6 (by rfl) (by rfl) (fun _ => by rfl) g8 (fun μ R => (?_ : jX G jP 97 38 lv [] μ Q))
      refine jX.inc l1 (by rfl) (by rfl) (by rfl) (fun lv l1 kp => (?_ : jX G jP 97 41 lv [] μ Q))
      replace l0 := kp 0 _ l0 (by rfl) (by first | rfl | simp [soR_cat])
      refine jX.go (by rfl) (by rfl) (by rfl) (?_ : jX G jP 97 2 lv [] μ Q)
      exact ih v0 (v1 + Int32.ofInt 1) _ _ _ l0 l1 R h
def F_97 (G : jG) (t : Nat) (v0 : (Nat × Nat)) (S : sS) : Option (Unit × sS) := F_97_2 G t t v0 (nI 1) S
theorem F_97_ok {G : jG} {t : Nat} {v0 : (Nat × Nat)} {S : sS} {r : Unit} {S' : sS} {μ : jS} {Q : Option Value ⊕ Nat → jS → Prop} (R : sR S μ) (h : F_97 G t v0 S = some (r, S')) (K : ∀ μ', sR S' μ' → Q (srV r) μ') : jX G jP 97 0 (lv_args 0 [.ref (spl 29 v0.1 v0.2)]) [] μ Q := by
  unfold F_97 at h
  have l0 : jld (lv_args 0 [.ref (spl 29 v0.1 v0.2)]) 0 = some (.ref (spl 29 v0.1 v0.2)) := by rfl
  generalize lv_args 0 [.ref (spl 29 v0.1 v0.2)] = lv at *
  refine jX.ic (v := nI 1) (n := 1) (by rfl) (by rfl) (by decide) (?_ : jX G jP 97 1 lv [.int (nI 1)] μ Q)
  refine jX.s1 (k := 1) (pc' := 2) (by rfl) (by rfl) (by rfl) (fun lv l1 kp => (?_ : jX G jP 97 2 lv [] μ Q))
  replace l0 := kp 0 _ l0 (by rfl) (by first | rfl | simp [soR_cat])
  exact F_97_2_ok  K _ v0 (nI 1) _ _ _ l0 l1 R h
