/-! printed by dec.py: what methods 156 to 181 do to the store -/
/-! 156 StrandRuntimeModel.pops(LStrandRuntimeModel$Strand;I)Z -/
def F_156_84 (G : jG) (t : Nat) (v1 : (Nat × Nat)) (v4 : Int32) (S : sS) : Option (Int32 × sS) := bif jcmp .ne v4 0 then (jif (jfit 1 (.int v4)) (some (v4, S))) else ((F_155 G t v1 (-3) S).bind (fun q2 => jif (jfit 1 (.int v4)) (some (v4, q2.2))))
theorem F_156_84_ok {G : jG} {t : Nat} {r : Int32} {S' : sS} {Q : Option Value ⊕ Nat → jS → Prop} (K : ∀ μ', sR S' μ' → Q (srI r) μ') : ∀ (v1 : (Nat × Nat)) (v4 : Int32) (S : sS) (lv : jL) (μ : jS), jld lv 0 = some (.ref (spl 33 0 0)) → jld lv 1 = some (.ref (spl 54 v1.1 v1.2)) → jld lv 4 = some (.int v4) → sR S μ → F_156_84 G t v1 v4 S = some (r, S') → jX G jP 156 84 lv [] μ Q := by
  intro v1 v4 S lv μ l0 l1 l4 R h
  unfold F_156_84 at h
  refine jX.li l4 (by rfl) (by rfl) (?_ : jX G jP 156 86 lv [.int v4] μ Q)
  rcases bif_or h with ⟨hc, h⟩ | ⟨hc, h⟩
  · refine jX.b1t hc (by rfl) (by rfl) (by rfl) (?_ : jX G jP 156 97 lv [] μ Q)
    refine jX.li l4 (by rfl) (by rfl) (?_ : jX G jP 156 99 lv [.int v4] μ Q)
    obtain ⟨g1, h⟩ := jif_some h
    exact jX.ret (by rfl) (by rfl) (by rfl) (jret_b g1) (sretv (f := srI) h K R)
  · refine jX.b1f hc (by rfl) (by rfl) (by rfl) (?_ : jX G jP 156 89 lv [] μ Q)
    refine jX.lrn l0 (by rfl) (by rfl) (?_ : jX G jP 156 90 lv [.ref (spl 33 0 0)] μ Q)
    refine jX.lrn l1 (by rfl) (by rfl) (?_ : jX G jP 156 91 lv [.ref (spl 54 v1.1 v1.2), .ref (spl 33 0 0)] μ Q)
    refine jX.go (by rfl) (by rfl) (by rfl) (?_ : jX G jP 156 94 lv [.long (-3), .ref (spl 54 v1.1 v1.2), .ref (spl 33 0 0)] μ Q)
    obtain ⟨q2, e2, h⟩ := sbd h
    refine jX.cv (by rfl) (by rfl) (by rfl) (by rfl) (by rfl) (by rfl) (by rfl) (R.rec (by rfl) (by rfl)) (Nat.le_of_ble_eq_true rfl) (Nat.le_of_ble_eq_true rfl) (F_155_ok R e2 (fun μ R => ⟨rfl, (?_ : jX G jP 156 97 lv [] μ Q)⟩))
    refine jX.li l4 (by rfl) (by rfl) (?_ : jX G jP 156 99 lv [.int v4] μ Q)
    obtain ⟨g3, h⟩ := jif_some h
    exact jX.ret (by rfl) (by rfl) (by rfl) (jret_b g3) (sretv (f := srI) h K R)
def F_156_23 (G : jG) (t : Nat) : Nat → (Nat × Nat) → Int32 → (Nat × Nat) → Int32 → Int32 → sS → Option (Int32 × sS)
  | 0 => fun _ _ _ _ _ _ => none
  | tt + 1 => fun v1 v2 v3 v4 v5 S => bif jcmp .ge v5 v2 then (F_156_84 G t v1 v4 S) else (jif (sex S.2.2.2.1 56 v3.1 v3.2) (bif jcmp .le (S.1 56 v3.1 v3.2 2) 0 then (F_156_84 G t v1 v4 S) else (jif (sex (siI S 56 v3.1 v3.2 2 ((S.1 56 v3.1 v3.2 2) - (nI 1))).2.2.2.1 58 v3.1 v3.2) (jif (jin ((siI S 56 v3.1 v3.2 2 ((S.1 56 v3.1 v3.2 2) - (nI 1))).1 56 v3.1 v3.2 2) 16) (jif (jin v5 16) (jif (sex (siI (siI S 56 v3.1 v3.2 2 ((S.1 56 v3.1 v3.2 2) - (nI 1))) 47 0 0 v5.toNatClampNeg ((siI S 56 v3.1 v3.2 2 ((S.1 56 v3.1 v3.2 2) - (nI 1))).1 58 v3.1 v3.2 ((siI S 56 v3.1 v3.2 2 ((S.1 56 v3.1 v3.2 2) - (nI 1))).1 56 v3.1 v3.2 2).toNatClampNeg)).2.2.2.1 62 v3.1 v3.2) (jif (jin ((siI (siI S 56 v3.1 v3.2 2 ((S.1 56 v3.1 v3.2 2) - (nI 1))) 47 0 0 v5.toNatClampNeg ((siI S 56 v3.1 v3.2 2 ((S.1 56 v3.1 v3.2 2) - (nI 1))).1 58 v3.1 v3.2 ((siI S 56 v3.1 v3.2 2 ((S.1 56 v3.1 v3.2 2) - (nI 1))).1 56 v3.1 v3.2 2).toNatClampNeg)).1 56 v3.1 v3.2 2) 16) (jif (jin v5 16) (F_156_23 G t tt v1 v2 v3 v4 (v5 + Int32.ofInt 1) (siL (siI (siI S 56 v3.1 v3.2 2 ((S.1 56 v3.1 v3.2 2) - (nI 1))) 47 0 0 v5.toNatClampNeg ((siI S 56 v3.1 v3.2 2 ((S.1 56 v3.1 v3.2 2) - (nI 1))).1 58 v3.1 v3.2 ((siI S 56 v3.1 v3.2 2 ((S.1 56 v3.1 v3.2 2) - (nI 1))).1 56 v3.1 v3.2 2).toNatClampNeg)) 48 0 0 v5.toNatClampNeg ((siI (siI S 56 v3.1 v3.2 2 ((S.1 56 v3.1 v3.2 2) - (nI 1))) 47 0 0 v5.toNatClampNeg ((siI S 56 v3.1 v3.2 2 ((S.1 56 v3.1 v3.2 2) - (nI 1))).1 58 v3.1 v3.2 ((siI S 56 v3.1 v3.2 2 ((S.1 56 v3.1 v3.2 2) - (nI 1))).1 56 v3.1 v3.2 2).toNatClampNeg)).2.1 62 v3.1 v3.2 ((siI (siI S 56 v3.1 v3.2 2 ((S.1 56 v3.1 v3.2 2) - (nI 1))) 47 0 0 v5.toNatClampNeg ((siI S 56 v3.1 v3.2 2 ((S.1 56 v3.1 v3.2 2) - (nI 1))).1 58 v3.1 v3.2 ((siI S 56 v3.1 v3.2 2 ((S.1 56 v3.1 v3.2 2) - (nI 1))).1 56 v3.1 v3.2 2).toNatClampNeg)).1 56 v3.1 v3.2 2).toNatClampNeg)))))))))))
theorem F_156_23_ok {G : jG} {t : Nat} {r : Int32} {S' : sS} {Q : Option Value ⊕ Nat → jS → Prop} (K : ∀ μ', sR S' μ' → Q (srI r) μ') : ∀ tt : Nat, ∀ (v1 : (Nat × Nat)) (v2 : Int32) (v3 : (Nat × Nat)) (v4 : Int32) (v5 : Int32) (S : sS) (lv : jL) (μ : jS), jld lv 0 = some (.ref (spl 33 0 0)) → jld lv 1 = some (.ref (spl 54 v1.1 v1.2)) → jld lv 2 = some (.int v2) → jld lv 3 = some (.ref (spl 56 v3.1 v3.2)) → jld lv 4 = some (.int v4) → jld lv 5 = some (.int v5) → sR S μ → F_156_23 G t tt v1 v2 v3 v4 v5 S = some (r, S') → jX G jP 156 23 lv [] μ Q := by
  intro tt
  induction tt with
  | zero =>
    intro v1 v2 v3 v4 v5 S lv μ l0 l1 l2 l3 l4 l5 R h
    rw [F_156_23] at h
    cases h
  | succ tt ih =>
    intro v1 v2 v3 v4 v5 S lv μ l0 l1 l2 l3 l4 l5 R h
    rw [F_156_23] at h
    refine jX.li l5 (by rfl) (by rfl) (?_ : jX G jP 156 25 lv [.int v5] μ Q)
    refine jX.lin l2 (by rfl) (by rfl) (?_ : jX G jP 156 26 lv [.int v2, .int v5] μ Q)
    rcases bif_or h with ⟨hc, h⟩ | ⟨hc, h⟩
    · refine jX.b2t hc (by rfl) (by rfl) (by rfl) (?_ : jX G jP 156 84 lv [] μ Q)
      exact F_156_84_ok  K v1 v4 _ _ _ l0 l1 l4 R h
    · refine jX.b2f hc (by rfl) (by rfl) (by rfl) (?_ : jX G jP 156 29 lv [] μ Q)
      refine jX.lrn l3 (by rfl) (by rfl) (?_ : jX G jP 156 30 lv [.ref (spl 56 v3.1 v3.2)] μ Q)
      obtain ⟨g1, h⟩ := jif_some h
      refine jX.sg R g1 (by rfl) (by rfl) (by rfl) (by rfl) (by rfl) (?_ : jX G jP 156 33 lv [.int (S.1 56 v3.1 v3.2 2)] μ Q)
      rcases bif_or h with ⟨hc, h⟩ | ⟨hc, h⟩
      · refine jX.b1t hc (by rfl) (by rfl) (by rfl) (?_ : jX G jP 156 84 lv [] μ Q)
        exact F_156_84_ok  K v1 v4 _ _ _ l0 l1 l4 R h
      · refine jX.b1f hc (by rfl) (by rfl) (by rfl) (?_ : jX G jP 156 36 lv [] μ Q)
        refine jX.lrn l3 (by rfl) (by rfl) (?_ : jX G jP 156 37 lv [.ref (spl 56 v3.1 v3.2)] μ Q)
        refine jX.go (by rfl) (by rfl) (by rfl) (?_ : jX G jP 156 38 lv [.ref (spl 56 v3.1 v3.2), .ref (spl 56 v3.1 v3.2)] μ Q)
        refine jX.sg R g1 (by rfl) (by rfl) (by rfl) (by rfl) (by rfl) (?_ : jX G jP 156 41 lv [.int (S.1 56 v3.1 v3.2 2), .ref (spl 56 v3.1 v3.2)] μ Q)
        refine jX.ic (v := nI 1) (n := 1) (by rfl) (by rfl) (by decide) (?_ : jX G jP 156 42 lv [.int (nI 1), .int (S.1 56 v3.1 v3.2 2), .ref (spl 56 v3.1 v3.2)] μ Q)
        refine jX.go (by rfl) (by rfl) (by rfl) (?_ : jX G jP 156 43 lv [.int ((S.1 56 v3.1 v3.2 2) - (nI 1)), .ref (spl 56 v3.1 v3.2)] μ Q)
        refine jX.spI R g1 (by rfl) (by rfl) (by rfl) (by rfl) (by rfl) (by rfl) (by rfl) (by rfl) (fun μ R => (?_ : jX G jP 156 46 lv [] μ Q))
        refine jX.lrn l0 (by rfl) (by rfl) (?_ : jX G jP 156 47 lv [.ref (spl 33 0 0)] μ Q)
        refine jX.sg R (by rfl) (by rfl) (by rfl) (by rfl) (by rfl) (by rfl) (?_ : jX G jP 156 50 lv [.ref (spl 47 0 0)] μ Q)
        refine jX.li l5 (by rfl) (by rfl) (?_ : jX G jP 156 52 lv [.int v5, .ref (spl 47 0 0)] μ Q)
        refine jX.lrn l3 (by rfl) (by rfl) (?_ : jX G jP 156 53 lv [.ref (spl 56 v3.1 v3.2), .int v5, .ref (spl 47 0 0)] μ Q)
        refine jX.sg R g1 (by rfl) (by rfl) (by rfl) (by rfl) (by rfl) (?_ : jX G jP 156 56 lv [.ref (spl 58 v3.1 v3.2), .int v5, .ref (spl 47 0 0)] μ Q)
        refine jX.lrn l3 (by rfl) (by rfl) (?_ : jX G jP 156 57 lv [.ref (spl 56 v3.1 v3.2), .ref (spl 58 v3.1 v3.2), .int v5, .ref (spl 47 0 0)] μ Q)
        refine jX.sg R g1 (by rfl) (by rfl) (by rfl) (by rfl) (by rfl) (?_ : jX G jP 156 60 lv [.int ((siI S 56 v3.1 v3.2 2 ((S.1 56 v3.1 v3.2 2) - (nI 1))).1 56 v3.1 v3.2 2), .ref (spl 58 v3.1 v3.2), .int v5, .ref (spl 47 0 0)] μ Q)
        obtain ⟨g2, h⟩ := jif_some h
        obtain ⟨g3, h⟩ := jif_some h
        refine jX.sai R g2 (by rfl) (by rfl) (by rfl) g3 (?_ : jX G jP 156 61 lv [.int ((siI S 56 v3.1 v3.2 2 ((S.1 56 v3.1 v3.2 2) - (nI 1))).1 58 v3.1 v3.2 ((siI S 56 v3.1 v3.2 2 ((S.1 56 v3.1 v3.2 2) - (nI 1))).1 56 v3.1 v3.2 2).toNatClampNeg), .int v5, .ref (spl 47 0 0)] μ Q)
        obtain ⟨g4, h⟩ := jif_some h
        refine jX.sti R (by rfl) (by rfl) (by rfl) (fun _ => by rfl) g4 (fun μ R => (?_ : jX G jP 156 62 lv [] μ Q))
        refine jX.lrn l0 (by rfl) (by rfl) (?_ : jX G jP 156 63 lv [.ref (spl 33 0 0)] μ Q)
        refine jX.sg R (by rfl) (by rfl) (by rfl) (by rfl) (by rfl) (by rfl) (?_ : jX G jP 156 66 lv [.ref (spl 48 0 0)] μ Q)
        refine jX.li l5 (by rfl) (by rfl) (?_ : jX G jP 156 68 lv [.int v5, .ref (spl 48 0 0)] μ Q)
        refine jX.lrn l3 (by rfl) (by rfl) (?_ : jX G jP 156 69 lv [.ref (spl 56 v3.1 v3.2), .int v5, .ref (spl 48 0 0)] μ Q)
        refine jX.sg R g1 (by rfl) (by rfl) (by rfl) (by rfl) (by rfl) (?_ : jX G jP 156 72 lv [.ref (spl 62 v3.1 v3.2), .int v5, .ref (spl 48 0 0)] μ Q)
        refine jX.lrn l3 (by rfl) (by rfl) (?_ : jX G jP 156 73 lv [.ref (spl 56 v3.1 v3.2), .ref (spl 62 v3.1 v3.2), .int v5, .ref (spl 48 0 0)] μ Q)
        refine jX.sg R g1 (by rfl) (by rfl) (by rfl) (by rfl) (by rfl) (?_ : jX G jP 156 76 lv [.int ((siI (siI S 56 v3.1 v3.2 2 ((S.1 56 v3.1 v3.2 2) - (nI 1))) 47 0 0 v5.toNatClampNeg ((siI S 56 v3.1 v3.2 2 ((S.1 56 v3.1 v3.2 2) - (nI 1))).1 58 v3.1 v3.2 ((siI S 56 v3.1 v3.2 2 ((S.1 56 v3.1 v3.2 2) - (nI 1))).1 56 v3.1 v3.2 2).toNatClampNeg)).1 56 v3.1 v3.2 2), .ref (spl 62 v3.1 v3.2), .int v5, .ref (spl 48 0 0)] μ Q)
        obtain ⟨g5, h⟩ := jif_some h
        obtain ⟨g6, h⟩ := jif_some h
        refine jX.sal R g5 (by rfl) (by rfl) (by rfl) g6 (?_ : jX G jP 156 77 lv [.long ((siI (siI S 56 v3.1 v3.2 2 ((S.1 56 v3.1 v3.2 2) - (nI 1))) 47 0 0 v5.toNatClampNeg ((siI S 56 v3.1 v3.2 2 ((S.1 56 v3.1 v3.2 2) - (nI 1))).1 58 v3.1 v3.2 ((siI S 56 v3.1 v3.2 2 ((S.1 56 v3.1 v3.2 2) - (nI 1))).1 56 v3.1 v3.2 2).toNatClampNeg)).2.1 62 v3.1 v3.2 ((siI (siI S 56 v3.1 v3.2 2 ((S.1 56 v3.1 v3.2 2) - (nI 1))) 47 0 0 v5.toNatClampNeg ((siI S 56 v3.1 v3.2 2 ((S.1 56 v3.1 v3.2 2) - (nI 1))).1 58 v3.1 v3.2 ((siI S 56 v3.1 v3.2 2 ((S.1 56 v3.1 v3.2 2) - (nI 1))).1 56 v3.1 v3.2 2).toNatClampNeg)).1 56 v3.1 v3.2 2).toNatClampNeg), .int v5, .ref (spl 48 0 0)] μ Q)
        obtain ⟨g7, h⟩ := jif_some h
        refine jX.stl R (by rfl) (by rfl) (by rfl) (fun _ => by rfl) g7 (fun μ R => (?_ : jX G jP 156 78 lv [] μ Q))
        refine jX.inc l5 (by rfl) (by rfl) (by rfl) (fun lv l5 kp => (?_ : jX G jP 156 81 lv [] μ Q))
        replace l0 := kp 0 _ l0 (by rfl) (by first | rfl | simp [soR_cat])
        replace l1 := kp 1 _ l1 (by rfl) (by first | rfl | simp [soR_cat])
        replace l2 := kp 2 _ l2 (by rfl) (by first | rfl | simp [soR_cat])
        replace l3 := kp 3 _ l3 (by rfl) (by first | rfl | simp [soR_cat])
        replace l4 := kp 4 _ l4 (by rfl) (by first | rfl | simp [soR_cat])
        refine jX.go (by rfl) (by rfl) (by rfl) (?_ : jX G jP 156 23 lv [] μ Q)
        exact ih v1 v2 v3 v4 (v5 + Int32.ofInt 1) _ _ _ l0 l1 l2 l3 l4 l5 R h
def F_156_18 (G : jG) (t : Nat) (v1 : (Nat × Nat)) (v2 : Int32) (v3 : (Nat × Nat)) (w0 : Int32) (S : sS) : Option (Int32 × sS) := F_156_23 G t t v1 v2 v3 w0 (nI 0) S
theorem F_156_18_ok {G : jG} {t : Nat} {r : Int32} {S' : sS} {Q : Option Value ⊕ Nat → jS → Prop} (K : ∀ μ', sR S' μ' → Q (srI r) μ') : ∀ (v1 : (Nat × Nat)) (v2 : Int32) (v3 : (Nat × Nat)) (w0 : Int32) (S : sS) (lv : jL) (μ : jS), jld lv 0 = some (.ref (spl 33 0 0)) → jld lv 1 = some (.ref (spl 54 v1.1 v1.2)) → jld lv 2 = some (.int v2) → jld lv 3 = some (.ref (spl 56 v3.1 v3.2)) → sR S μ → F_156_18 G t v1 v2 v3 w0 S = some (r, S') → jX G jP 156 18 lv [.int w0] μ Q := by
  intro v1 v2 v3 w0 S lv μ l0 l1 l2 l3 R h
  unfold F_156_18 at h
  refine jX.s1 (k := 4) (pc' := 20) (by rfl) (by rfl) (by rfl) (fun lv l4 kp => (?_ : jX G jP 156 20 lv [] μ Q))
  replace l0 := kp 0 _ l0 (by rfl) (by first | rfl | simp [soR_cat])
  replace l1 := kp 1 _ l1 (by rfl) (by first | rfl | simp [soR_cat])
  replace l2 := kp 2 _ l2 (by rfl) (by first | rfl | simp [soR_cat])
  replace l3 := kp 3 _ l3 (by rfl) (by first | rfl | simp [soR_cat])
  refine jX.ic (v := nI 0) (n := 1) (by rfl) (by rfl) (by decide) (?_ : jX G jP 156 21 lv [.int (nI 0)] μ Q)
  refine jX.s1 (k := 5) (pc' := 23) (by rfl) (by rfl) (by rfl) (fun lv l5 kp => (?_ : jX G jP 156 23 lv [] μ Q))
  replace l0 := kp 0 _ l0 (by rfl) (by first | rfl | simp [soR_cat])
  replace l1 := kp 1 _ l1 (by rfl) (by first | rfl | simp [soR_cat])
  replace l2 := kp 2 _ l2 (by rfl) (by first | rfl | simp [soR_cat])
  replace l3 := kp 3 _ l3 (by rfl) (by first | rfl | simp [soR_cat])
  replace l4 := kp 4 _ l4 (by rfl) (by first | rfl | simp [soR_cat])
  exact F_156_23_ok  K _ v1 v2 v3 w0 (nI 0) _ _ _ l0 l1 l2 l3 l4 l5 R h
def F_156 (G : jG) (t : Nat) (v1 : (Nat × Nat)) (v2 : Int32) (S : sS) : Option (Int32 × sS) := (F_151 G t v1 S).bind (fun q1 => (q1.1).bind (fun a2 => jif (sex q1.2.2.2.2.1 56 a2.1 a2.2) (bif jcmp .lt (q1.2.1 56 a2.1 a2.2 2) v2 then (F_156_18 G t v1 v2 a2 (nI 0) q1.2) else (F_156_18 G t v1 v2 a2 (nI 1) q1.2))))
theorem F_156_ok {G : jG} {t : Nat} {v1 : (Nat × Nat)} {v2 : Int32} {S : sS} {r : Int32} {S' : sS} {μ : jS} {Q : Option Value ⊕ Nat → jS → Prop} (R : sR S μ) (h : F_156 G t v1 v2 S = some (r, S')) (K : ∀ μ', sR S' μ' → Q (srI r) μ') : jX G jP 156 0 (lv_args 0 [.ref (spl 33 0 0), .ref (spl 54 v1.1 v1.2), .int v2]) [] μ Q := by
  unfold F_156 at h
  have l0 : jld (lv_args 0 [.ref (spl 33 0 0), .ref (spl 54 v1.1 v1.2), .int v2]) 0 = some (.ref (spl 33 0 0)) := by rfl
  have l1 : jld (lv_args 0 [.ref (spl 33 0 0), .ref (spl 54 v1.1 v1.2), .int v2]) 1 = some (.ref (spl 54 v1.1 v1.2)) := by rfl
  have l2 : jld (lv_args 0 [.ref (spl 33 0 0), .ref (spl 54 v1.1 v1.2), .int v2]) 2 = some (.int v2) := by rfl
  generalize lv_args 0 [.ref (spl 33 0 0), .ref (spl 54 v1.1 v1.2), .int v2] = lv at *
  refine jX.lrn l1 (by rfl) (by rfl) (?_ : jX G jP 156 1 lv [.ref (spl 54 v1.1 v1.2)] μ Q)
  obtain ⟨q1, e1, h⟩ := sbd h
  refine jX.c1 (v := soR 56 q1.1) (by rfl) (by rfl) (by rfl) (by rfl) (by rfl) (by rfl) (by rfl) (by rfl) (Nat.le_of_ble_eq_true rfl) (Nat.le_of_ble_eq_true rfl) (F_151_ok R e1 (fun μ R => ⟨rfl, (?_ : jX G jP 156 4 lv [soR 56 q1.1] μ Q)⟩))
  refine jX.so (k := 3) (pc' := 5) (by rfl) (by rfl) (fun _ => by rfl) (by rfl) (fun lv l3 kp => (?_ : jX G jP 156 5 lv [] μ Q))
  replace l0 := kp 0 _ l0 (by rfl) (by first | rfl | simp [soR_cat])
  replace l1 := kp 1 _ l1 (by rfl) (by first | rfl | simp [soR_cat])
  replace l2 := kp 2 _ l2 (by rfl) (by first | rfl | simp [soR_cat])
  refine jX.lon l3 (by rfl) (by rfl) (?_ : jX G jP 156 6 lv [soR 56 q1.1] μ Q)
  obtain ⟨a2, e2, h⟩ := sbd h
  rw [soR_some (t := 56) e2]
  rw [soR_some (t := 56) e2] at l3
  obtain ⟨g3, h⟩ := jif_some h
  refine jX.sg R g3 (by rfl) (by rfl) (by rfl) (by rfl) (by rfl) (?_ : jX G jP 156 9 lv [.int (q1.2.1 56 a2.1 a2.2 2)] μ Q)
  refine jX.lin l2 (by rfl) (by rfl) (?_ : jX G jP 156 10 lv [.int v2, .int (q1.2.1 56 a2.1 a2.2 2)] μ Q)
  rcases bif_or h with ⟨hc, h⟩ | ⟨hc, h⟩
  · refine jX.b2t hc (by rfl) (by rfl) (by rfl) (?_ : jX G jP 156 17 lv [] μ Q)
    refine jX.ic (v := nI 0) (n := 1) (by rfl) (by rfl) (by decide) (?_ : jX G jP 156 18 lv [.int (nI 0)] μ Q)
    exact F_156_18_ok  K v1 v2 a2 (nI 0) _ _ _ l0 l1 l2 l3 R h
  · refine jX.b2f hc (by rfl) (by rfl) (by rfl) (?_ : jX G jP 156 13 lv [] μ Q)
    refine jX.ic (v := nI 1) (n := 1) (by rfl) (by rfl) (by decide) (?_ : jX G jP 156 14 lv [.int (nI 1)] μ Q)
    refine jX.go (by rfl) (by rfl) (by rfl) (?_ : jX G jP 156 18 lv [.int (nI 1)] μ Q)
    exact F_156_18_ok  K v1 v2 a2 (nI 1) _ _ _ l0 l1 l2 l3 R h
/-! 157 StrandRuntimeModel.push(LStrandRuntimeModel$Strand;IJ)Z -/
def F_157 (G : jG) (t : Nat) (v1 : (Nat × Nat)) (v2 : Int32) (v3 : Int64) (S : sS) : Option (Int32 × sS) := (F_151 G t v1 S).bind (fun q1 => (q1.1).bind (fun a2 => jif (sex q1.2.2.2.2.1 56 a2.1 a2.2) (bif jcmp .ne (q1.2.1 56 a2.1 a2.2 2) (nI 16) then (jif (sex q1.2.2.2.2.1 58 a2.1 a2.2) (jif (jin (q1.2.1 56 a2.1 a2.2 2) 16) (jif (sex (siI q1.2 58 a2.1 a2.2 (q1.2.1 56 a2.1 a2.2 2).toNatClampNeg v2).2.2.2.1 62 a2.1 a2.2) (jif (jin ((siI q1.2 58 a2.1 a2.2 (q1.2.1 56 a2.1 a2.2 2).toNatClampNeg v2).1 56 a2.1 a2.2 2) 16) (some ((nI 1), (siI (siL (siI q1.2 58 a2.1 a2.2 (q1.2.1 56 a2.1 a2.2 2).toNatClampNeg v2) 62 a2.1 a2.2 ((siI q1.2 58 a2.1 a2.2 (q1.2.1 56 a2.1 a2.2 2).toNatClampNeg v2).1 56 a2.1 a2.2 2).toNatClampNeg v3) 56 a2.1 a2.2 2 (((siL (siI q1.2 58 a2.1 a2.2 (q1.2.1 56 a2.1 a2.2 2).toNatClampNeg v2) 62 a2.1 a2.2 ((siI q1.2 58 a2.1 a2.2 (q1.2.1 56 a2.1 a2.2 2).toNatClampNeg v2).1 56 a2.1 a2.2 2).toNatClampNeg v3).1 56 a2.1 a2.2 2) + (nI 1))))))))) else ((F_155 G t v1 (-3) q1.2).bind (fun q8 => some ((nI 0), q8.2))))))
theorem F_157_ok {G : jG} {t : Nat} {v1 : (Nat × Nat)} {v2 : Int32} {v3 : Int64} {S : sS} {r : Int32} {S' : sS} {μ : jS} {Q : Option Value ⊕ Nat → jS → Prop} (R : sR S μ) (h : F_157 G t v1 v2 v3 S = some (r, S')) (K : ∀ μ', sR S' μ' → Q (srI r) μ') : jX G jP 157 0 (lv_args 0 [.ref (spl 33 0 0), .ref (spl 54 v1.1 v1.2), .int v2, .long v3]) [] μ Q := by
  unfold F_157 at h
  have l0 : jld (lv_args 0 [.ref (spl 33 0 0), .ref (spl 54 v1.1 v1.2), .int v2, .long v3]) 0 = some (.ref (spl 33 0 0)) := by rfl
  have l1 : jld (lv_args 0 [.ref (spl 33 0 0), .ref (spl 54 v1.1 v1.2), .int v2, .long v3]) 1 = some (.ref (spl 54 v1.1 v1.2)) := by rfl
  have l2 : jld (lv_args 0 [.ref (spl 33 0 0), .ref (spl 54 v1.1 v1.2), .int v2, .long v3]) 2 = some (.int v2) := by rfl
  have l3 : jld (lv_args 0 [.ref (spl 33 0 0), .ref (spl 54 v1.1 v1.2), .int v2, .long v3]) 3 = some (.long v3) := by rfl
  generalize lv_args 0 [.ref (spl 33 0 0), .ref (spl 54 v1.1 v1.2), .int v2, .long v3] = lv at *
  refine jX.lrn l1 (by rfl) (by rfl) (?_ : jX G jP 157 1 lv [.ref (spl 54 v1.1 v1.2)] μ Q)
  obtain ⟨q1, e1, h⟩ := sbd h
  refine jX.c1 (v := soR 56 q1.1) (by rfl) (by rfl) (by rfl) (by rfl) (by rfl) (by rfl) (by rfl) (by rfl) (Nat.le_of_ble_eq_true rfl) (Nat.le_of_ble_eq_true rfl) (F_151_ok R e1 (fun μ R => ⟨rfl, (?_ : jX G jP 157 4 lv [soR 56 q1.1] μ Q)⟩))
  refine jX.so (k := 5) (pc' := 6) (by rfl) (by rfl) (fun _ => by rfl) (by rfl) (fun lv l5 kp => (?_ : jX G jP 157 6 lv [] μ Q))
  replace l0 := kp 0 _ l0 (by rfl) (by first | rfl | simp [soR_cat])
  replace l1 := kp 1 _ l1 (by rfl) (by first | rfl | simp [soR_cat])
  replace l2 := kp 2 _ l2 (by rfl) (by first | rfl | simp [soR_cat])
  replace l3 := kp 3 _ l3 (by rfl) (by first | rfl | simp [soR_cat])
  refine jX.lo l5 (by rfl) (by rfl) (?_ : jX G jP 157 8 lv [soR 56 q1.1] μ Q)
  obtain ⟨a2, e2, h⟩ := sbd h
  rw [soR_some (t := 56) e2]
  rw [soR_some (t := 56) e2] at l5
  obtain ⟨g3, h⟩ := jif_some h
  refine jX.sg R g3 (by rfl) (by rfl) (by rfl) (by rfl) (by rfl) (?_ : jX G jP 157 11 lv [.int (q1.2.1 56 a2.1 a2.2 2)] μ Q)
  refine jX.ic (v := nI 16) (n := 2) (by rfl) (by rfl) (by decide) (?_ : jX G jP 157 13 lv [.int (nI 16), .int (q1.2.1 56 a2.1 a2.2 2)] μ Q)
  rcases bif_or h with ⟨hc, h⟩ | ⟨hc, h⟩
  · refine jX.b2t hc (by rfl) (by rfl) (by rfl) (?_ : jX G jP 157 26 lv [] μ Q)
    refine jX.lr l5 (by rfl) (by rfl) (?_ : jX G jP 157 28 lv [.ref (spl 56 a2.1 a2.2)] μ Q)
    refine jX.sg R g3 (by rfl) (by rfl) (by rfl) (by rfl) (by rfl) (?_ : jX G jP 157 31 lv [.ref (spl 58 a2.1 a2.2)] μ Q)
    refine jX.lr l5 (by rfl) (by rfl) (?_ : jX G jP 157 33 lv [.ref (spl 56 a2.1 a2.2), .ref (spl 58 a2.1 a2.2)] μ Q)
    refine jX.sg R g3 (by rfl) (by rfl) (by rfl) (by rfl) (by rfl) (?_ : jX G jP 157 36 lv [.int (q1.2.1 56 a2.1 a2.2 2), .ref (spl 58 a2.1 a2.2)] μ Q)
    refine jX.lin l2 (by rfl) (by rfl) (?_ : jX G jP 157 37 lv [.int v2, .int (q1.2.1 56 a2.1 a2.2 2), .ref (spl 58 a2.1 a2.2)] μ Q)
    obtain ⟨g4, h⟩ := jif_some h
    obtain ⟨g5, h⟩ := jif_some h
    refine jX.sti R g4 (by rfl) (by rfl) (fun _ => by rfl) g5 (fun μ R => (?_ : jX G jP 157 38 lv [] μ Q))
    refine jX.lr l5 (by rfl) (by rfl) (?_ : jX G jP 157 40 lv [.ref (spl 56 a2.1 a2.2)] μ Q)
    refine jX.sg R g3 (by rfl) (by rfl) (by rfl) (by rfl) (by rfl) (?_ : jX G jP 157 43 lv [.ref (spl 62 a2.1 a2.2)] μ Q)
    refine jX.lr l5 (by rfl) (by rfl) (?_ : jX G jP 157 45 lv [.ref (spl 56 a2.1 a2.2), .ref (spl 62 a2.1 a2.2)] μ Q)
    refine jX.sg R g3 (by rfl) (by rfl) (by rfl) (by rfl) (by rfl) (?_ : jX G jP 157 48 lv [.int ((siI q1.2 58 a2.1 a2.2 (q1.2.1 56 a2.1 a2.2 2).toNatClampNeg v2).1 56 a2.1 a2.2 2), .ref (spl 62 a2.1 a2.2)] μ Q)
    refine jX.lln l3 (by rfl) (by rfl) (?_ : jX G jP 157 49 lv [.long v3, .int ((siI q1.2 58 a2.1 a2.2 (q1.2.1 56 a2.1 a2.2 2).toNatClampNeg v2).1 56 a2.1 a2.2 2), .ref (spl 62 a2.1 a2.2)] μ Q)
    obtain ⟨g6, h⟩ := jif_some h
    obtain ⟨g7, h⟩ := jif_some h
    refine jX.stl R g6 (by rfl) (by rfl) (fun _ => by rfl) g7 (fun μ R => (?_ : jX G jP 157 50 lv [] μ Q))
    refine jX.lr l5 (by rfl) (by rfl) (?_ : jX G jP 157 52 lv [.ref (spl 56 a2.1 a2.2)] μ Q)
    refine jX.go (by rfl) (by rfl) (by rfl) (?_ : jX G jP 157 53 lv [.ref (spl 56 a2.1 a2.2), .ref (spl 56 a2.1 a2.2)] μ Q)
    refine jX.sg R g3 (by rfl) (by rfl) (by rfl) (by rfl) (by rfl) (?_ : jX G jP 157 56 lv [.int ((siL (siI q1.2 58 a2.1 a2.2 (q1.2.1 56 a2.1 a2.2 2).toNatClampNeg v2) 62 a2.1 a2.2 ((siI q1.2 58 a2.1 a2.2 (q1.2.1 56 a2.1 a2.2 2).toNatClampNeg v2).1 56 a2.1 a2.2 2).toNatClampNeg v3).1 56 a2.1 a2.2 2), .ref (spl 56 a2.1 a2.2)] μ Q)
    refine jX.ic (v := nI 1) (n := 1) (by rfl) (by rfl) (by decide) (?_ : jX G jP 157 57 lv [.int (nI 1), .int ((siL (siI q1.2 58 a2.1 a2.2 (q1.2.1 56 a2.1 a2.2 2).toNatClampNeg v2) 62 a2.1 a2.2 ((siI q1.2 58 a2.1 a2.2 (q1.2.1 56 a2.1 a2.2 2).toNatClampNeg v2).1 56 a2.1 a2.2 2).toNatClampNeg v3).1 56 a2.1 a2.2 2), .ref (spl 56 a2.1 a2.2)] μ Q)
    refine jX.go (by rfl) (by rfl) (by rfl) (?_ : jX G jP 157 58 lv [.int (((siL (siI q1.2 58 a2.1 a2.2 (q1.2.1 56 a2.1 a2.2 2).toNatClampNeg v2) 62 a2.1 a2.2 ((siI q1.2 58 a2.1 a2.2 (q1.2.1 56 a2.1 a2.2 2).toNatClampNeg v2).1 56 a2.1 a2.2 2).toNatClampNeg v3).1 56 a2.1 a2.2 2) + (nI 1)), .ref (spl 56 a2.1 a2.2)] μ Q)
    refine jX.spI R g3 (by rfl) (by rfl) (by rfl) (by rfl) (by rfl) (by rfl) (by rfl) (by rfl) (fun μ R => (?_ : jX G jP 157 61 lv [] μ Q))
    refine jX.ic (v := nI 1) (n := 1) (by rfl) (by rfl) (by decide) (?_ : jX G jP 157 62 lv [.int (nI 1)] μ Q)
    exact jX.ret (by rfl) (by rfl) (by rfl) (by rfl) (sretv (f := srI) h K R)
  · refine jX.b2f hc (by rfl) (by rfl) (by rfl) (?_ : jX G jP 157 16 lv [] μ Q)
    refine jX.lrn l0 (by rfl) (by rfl) (?_ : jX G jP 157 17 lv [.ref (spl 33 0 0)] μ Q)
    refine jX.lrn l1 (by rfl) (by rfl) (?_ : jX G jP 157 18 lv [.ref (spl 54 v1.1 v1.2), .ref (spl 33 0 0)] μ Q)
    refine jX.go (by rfl) (by rfl) (by rfl) (?_ : jX G jP 157 21 lv [.long (-3), .ref (spl 54 v1.1 v1.2), .ref (spl 33 0 0)] μ Q)
    obtain ⟨q8, e8, h⟩ := sbd h
    refine jX.cv (by rfl) (by rfl) (by rfl) (by rfl) (by rfl) (by rfl) (by rfl) (R.rec (by rfl) (by rfl)) (Nat.le_of_ble_eq_true rfl) (Nat.le_of_ble_eq_true rfl) (F_155_ok R e8 (fun μ R => ⟨rfl, (?_ : jX G jP 157 24 lv [] μ Q)⟩))
    refine jX.ic (v := nI 0) (n := 1) (by rfl) (by rfl) (by decide) (?_ : jX G jP 157 25 lv [.int (nI 0)] μ Q)
    exact jX.ret (by rfl) (by rfl) (by rfl) (by rfl) (sretv (f := srI) h K R)
/-! 158 StrandRuntimeModel.is(LStrandRuntimeModel$Strand;Z)Z -/
def F_158 (G : jG) (t : Nat) (v1 : (Nat × Nat)) (v2 : Int32) (S : sS) : Option (Int32 × sS) := bif jcmp .ne v2 0 then (jif (jfit 1 (.int v2)) (some (v2, S))) else ((F_155 G t v1 (-2) S).bind (fun q2 => jif (jfit 1 (.int v2)) (some (v2, q2.2))))
theorem F_158_ok {G : jG} {t : Nat} {v1 : (Nat × Nat)} {v2 : Int32} {S : sS} {r : Int32} {S' : sS} {μ : jS} {Q : Option Value ⊕ Nat → jS → Prop} (R : sR S μ) (h : F_158 G t v1 v2 S = some (r, S')) (K : ∀ μ', sR S' μ' → Q (srI r) μ') : jX G jP 158 0 (lv_args 0 [.ref (spl 33 0 0), .ref (spl 54 v1.1 v1.2), .int v2]) [] μ Q := by
  unfold F_158 at h
  have l0 : jld (lv_args 0 [.ref (spl 33 0 0), .ref (spl 54 v1.1 v1.2), .int v2]) 0 = some (.ref (spl 33 0 0)) := by rfl
  have l1 : jld (lv_args 0 [.ref (spl 33 0 0), .ref (spl 54 v1.1 v1.2), .int v2]) 1 = some (.ref (spl 54 v1.1 v1.2)) := by rfl
  have l2 : jld (lv_args 0 [.ref (spl 33 0 0), .ref (spl 54 v1.1 v1.2), .int v2]) 2 = some (.int v2) := by rfl
  generalize lv_args 0 [.ref (spl 33 0 0), .ref (spl 54 v1.1 v1.2), .int v2] = lv at *
  refine jX.lin l2 (by rfl) (by rfl) (?_ : jX G jP 158 1 lv [.int v2] μ Q)
  rcases bif_or h with ⟨hc, h⟩ | ⟨hc, h⟩
  · refine jX.b1t hc (by rfl) (by rfl) (by rfl) (?_ : jX G jP 158 12 lv [] μ Q)
    refine jX.lin l2 (by rfl) (by rfl) (?_ : jX G jP 158 13 lv [.int v2] μ Q)
    obtain ⟨g1, h⟩ := jif_some h
    exact jX.ret (by rfl) (by rfl) (by rfl) (jret_b g1) (sretv (f := srI) h K R)
  · refine jX.b1f hc (by rfl) (by rfl) (by rfl) (?_ : jX G jP 158 4 lv [] μ Q)
    refine jX.lrn l0 (by rfl) (by rfl) (?_ : jX G jP 158 5 lv [.ref (spl 33 0 0)] μ Q)
    refine jX.lrn l1 (by rfl) (by rfl) (?_ : jX G jP 158 6 lv [.ref (spl 54 v1.1 v1.2), .ref (spl 33 0 0)] μ Q)
    refine jX.go (by rfl) (by rfl) (by rfl) (?_ : jX G jP 158 9 lv [.long (-2), .ref (spl 54 v1.1 v1.2), .ref (spl 33 0 0)] μ Q)
    obtain ⟨q2, e2, h⟩ := sbd h
    refine jX.cv (by rfl) (by rfl) (by rfl) (by rfl) (by rfl) (by rfl) (by rfl) (R.rec (by rfl) (by rfl)) (Nat.le_of_ble_eq_true rfl) (Nat.le_of_ble_eq_true rfl) (F_155_ok R e2 (fun μ R => ⟨rfl, (?_ : jX G jP 158 12 lv [] μ Q)⟩))
    refine jX.lin l2 (by rfl) (by rfl) (?_ : jX G jP 158 13 lv [.int v2] μ Q)
    obtain ⟨g3, h⟩ := jif_some h
    exact jX.ret (by rfl) (by rfl) (by rfl) (jret_b g3) (sretv (f := srI) h K R)
/-! 159 StrandRuntimeModel.arithmetic(LStrandRuntimeModel$Strand;I)V -/
def F_159_145 (G : jG) (t : Nat) (w0 : Int64) (w1 : Int32) (w2 : (Nat × Nat)) (S : sS) : Option (Unit × sS) := (F_157 G t w2 w1 w0 S).bind (fun q1 => some ((), q1.2))
theorem F_159_145_ok {G : jG} {t : Nat} {r : Unit} {S' : sS} {Q : Option Value ⊕ Nat → jS → Prop} (K : ∀ μ', sR S' μ' → Q (srV r) μ') : ∀ (w0 : Int64) (w1 : Int32) (w2 : (Nat × Nat)) (S : sS) (lv : jL) (μ : jS), sR S μ → F_159_145 G t w0 w1 w2 S = some (r, S') → jX G jP 159 145 lv [.long w0, .int w1, .ref (spl 54 w2.1 w2.2), .ref (spl 33 0 0)] μ Q := by
  intro w0 w1 w2 S lv μ R h
  unfold F_159_145 at h
  obtain ⟨q1, e1, h⟩ := sbd h
  refine jX.c1 (v := .int q1.1) (by rfl) (by rfl) (by rfl) (by rfl) (by rfl) (by rfl) (by rfl) (R.rec (by rfl) (by rfl)) (Nat.le_of_ble_eq_true rfl) (Nat.le_of_ble_eq_true rfl) (F_157_ok R e1 (fun μ R => ⟨rfl, (?_ : jX G jP 159 148 lv [.int q1.1] μ Q)⟩))
  refine jX.go (by rfl) (by rfl) (by rfl) (?_ : jX G jP 159 149 lv [] μ Q)
  exact jX.ret (by rfl) (by rfl) (by rfl) (by rfl) (sretv (f := srV) h K R)
def F_159_78 (G : jG) (t : Nat) (v1 : (Nat × Nat)) (v2 : Int32) (v3 : Int64) (v5 : Int64) (S : sS) : Option (Unit × sS) := bif jcmp .ne v2 (nI 9) then (bif jcmp .ne v2 (nI 10) then (bif jcmp .ne v2 (nI 11) then (bif jcmp .ne v2 (nI 12) then (bif jcmp .ge (lg_cmp v3 v5) 0 then (F_159_145 G t 0 (nI 0) v1 S) else (F_159_145 G t 1 (nI 0) v1 S)) else (jif (decide (¬ v5 = 0)) (F_159_145 G t (v3 / v5) (nI 0) v1 S))) else (F_159_145 G t (v3 * v5) (nI 0) v1 S)) else (F_159_145 G t (v3 - v5) (nI 0) v1 S)) else (F_159_145 G t (v3 + v5) (nI 0) v1 S)
theorem F_159_78_ok {G : jG} {t : Nat} {r : Unit} {S' : sS} {Q : Option Value ⊕ Nat → jS → Prop} (K : ∀ μ', sR S' μ' → Q (srV r) μ') : ∀ (v1 : (Nat × Nat)) (v2 : Int32) (v3 : Int64) (v5 : Int64) (S : sS) (lv : jL) (μ : jS), jld lv 0 = some (.ref (spl 33 0 0)) → jld lv 1 = some (.ref (spl 54 v1.1 v1.2)) → jld lv 2 = some (.int v2) → jld lv 3 = some (.long v3) → jld lv 5 = some (.long v5) → sR S μ → F_159_78 G t v1 v2 v3 v5 S = some (r, S') → jX G jP 159 78 lv [] μ Q := by
  intro v1 v2 v3 v5 S lv μ l0 l1 l2 l3 l5 R h
  unfold F_159_78 at h
  refine jX.lrn l0 (by rfl) (by rfl) (?_ : jX G jP 159 79 lv [.ref (spl 33 0 0)] μ Q)
  refine jX.lrn l1 (by rfl) (by rfl) (?_ : jX G jP 159 80 lv [.ref (spl 54 v1.1 v1.2), .ref (spl 33 0 0)] μ Q)
  refine jX.ic (v := nI 0) (n := 1) (by rfl) (by rfl) (by decide) (?_ : jX G jP 159 81 lv [.int (nI 0), .ref (spl 54 v1.1 v1.2), .ref (spl 33 0 0)] μ Q)
  refine jX.lin l2 (by rfl) (by rfl) (?_ : jX G jP 159 82 lv [.int v2, .int (nI 0), .ref (spl 54 v1.1 v1.2), .ref (spl 33 0 0)] μ Q)
  refine jX.ic (v := nI 9) (n := 2) (by rfl) (by rfl) (by decide) (?_ : jX G jP 159 84 lv [.int (nI 9), .int v2, .int (nI 0), .ref (spl 54 v1.1 v1.2), .ref (spl 33 0 0)] μ Q)
  rcases bif_or h with ⟨hc, h⟩ | ⟨hc, h⟩
  · refine jX.b2t hc (by rfl) (by rfl) (by rfl) (?_ : jX G jP 159 94 lv [.int (nI 0), .ref (spl 54 v1.1 v1.2), .ref (spl 33 0 0)] μ Q)
    refine jX.lin l2 (by rfl) (by rfl) (?_ : jX G jP 159 95 lv [.int v2, .int (nI 0), .ref (spl 54 v1.1 v1.2), .ref (spl 33 0 0)] μ Q)
    refine jX.ic (v := nI 10) (n := 2) (by rfl) (by rfl) (by decide) (?_ : jX G jP 159 97 lv [.int (nI 10), .int v2, .int (nI 0), .ref (spl 54 v1.1 v1.2), .ref (spl 33 0 0)] μ Q)
    rcases bif_or h with ⟨hc, h⟩ | ⟨hc, h⟩
    · refine jX.b2t hc (by rfl) (by rfl) (by rfl) (?_ : jX G jP 159 107 lv [.int (nI 0), .ref (spl 54 v1.1 v1.2), .ref (spl 33 0 0)] μ Q)
      refine jX.lin l2 (by rfl) (by rfl) (?_ : jX G jP 159 108 lv [.int v2, .int (nI 0), .ref (spl 54 v1.1 v1.2), .ref (spl 33 0 0)] μ Q)
      refine jX.ic (v := nI 11) (n := 2) (by rfl) (by rfl) (by decide) (?_ : jX G jP 159 110 lv [.int (nI 11), .int v2, .int (nI 0), .ref (spl 54 v1.1 v1.2), .ref (spl 33 0 0)] μ Q)
      rcases bif_or h with ⟨hc, h⟩ | ⟨hc, h⟩
      · refine jX.b2t hc (by rfl) (by rfl) (by rfl) (?_ : jX G jP 159 120 lv [.int (nI 0), .ref (spl 54 v1.1 v1.2), .ref (spl 33 0 0)] μ Q)
        refine jX.lin l2 (by rfl) (by rfl) (?_ : jX G jP 159 121 lv [.int v2, .int (nI 0), .ref (spl 54 v1.1 v1.2), .ref (spl 33 0 0)] μ Q)
        refine jX.ic (v := nI 12) (n := 2) (by rfl) (by rfl) (by decide) (?_ : jX G jP 159 123 lv [.int (nI 12), .int v2, .int (nI 0), .ref (spl 54 v1.1 v1.2), .ref (spl 33 0 0)] μ Q)
        rcases bif_or h with ⟨hc, h⟩ | ⟨hc, h⟩
        · refine jX.b2t hc (by rfl) (by rfl) (by rfl) (?_ : jX G jP 159 133 lv [.int (nI 0), .ref (spl 54 v1.1 v1.2), .ref (spl 33 0 0)] μ Q)
          refine jX.lln l3 (by rfl) (by rfl) (?_ : jX G jP 159 134 lv [.long v3, .int (nI 0), .ref (spl 54 v1.1 v1.2), .ref (spl 33 0 0)] μ Q)
          refine jX.ll l5 (by rfl) (by rfl) (?_ : jX G jP 159 136 lv [.long v5, .long v3, .int (nI 0), .ref (spl 54 v1.1 v1.2), .ref (spl 33 0 0)] μ Q)
          refine jX.go (by rfl) (by rfl) (by rfl) (?_ : jX G jP 159 137 lv [.int (lg_cmp v3 v5), .int (nI 0), .ref (spl 54 v1.1 v1.2), .ref (spl 33 0 0)] μ Q)
          rcases bif_or h with ⟨hc, h⟩ | ⟨hc, h⟩
          · refine jX.b1t hc (by rfl) (by rfl) (by rfl) (?_ : jX G jP 159 144 lv [.int (nI 0), .ref (spl 54 v1.1 v1.2), .ref (spl 33 0 0)] μ Q)
            refine jX.go (by rfl) (by rfl) (by rfl) (?_ : jX G jP 159 145 lv [.long 0, .int (nI 0), .ref (spl 54 v1.1 v1.2), .ref (spl 33 0 0)] μ Q)
            exact F_159_145_ok  K 0 (nI 0) v1 _ _ _  R h
          · refine jX.b1f hc (by rfl) (by rfl) (by rfl) (?_ : jX G jP 159 140 lv [.int (nI 0), .ref (spl 54 v1.1 v1.2), .ref (spl 33 0 0)] μ Q)
            refine jX.go (by rfl) (by rfl) (by rfl) (?_ : jX G jP 159 141 lv [.long 1, .int (nI 0), .ref (spl 54 v1.1 v1.2), .ref (spl 33 0 0)] μ Q)
            refine jX.go (by rfl) (by rfl) (by rfl) (?_ : jX G jP 159 145 lv [.long 1, .int (nI 0), .ref (spl 54 v1.1 v1.2), .ref (spl 33 0 0)] μ Q)
            exact F_159_145_ok  K 1 (nI 0) v1 _ _ _  R h
        · refine jX.b2f hc (by rfl) (by rfl) (by rfl) (?_ : jX G jP 159 126 lv [.int (nI 0), .ref (spl 54 v1.1 v1.2), .ref (spl 33 0 0)] μ Q)
          refine jX.lln l3 (by rfl) (by rfl) (?_ : jX G jP 159 127 lv [.long v3, .int (nI 0), .ref (spl 54 v1.1 v1.2), .ref (spl 33 0 0)] μ Q)
          refine jX.ll l5 (by rfl) (by rfl) (?_ : jX G jP 159 129 lv [.long v5, .long v3, .int (nI 0), .ref (spl 54 v1.1 v1.2), .ref (spl 33 0 0)] μ Q)
          obtain ⟨g1, h⟩ := jif_some h
          refine jX.ld g1 (by rfl) (by rfl) (?_ : jX G jP 159 130 lv [.long (v3 / v5), .int (nI 0), .ref (spl 54 v1.1 v1.2), .ref (spl 33 0 0)] μ Q)
          refine jX.go (by rfl) (by rfl) (by rfl) (?_ : jX G jP 159 145 lv [.long (v3 / v5), .int (nI 0), .ref (spl 54 v1.1 v1.2), .ref (spl 33 0 0)] μ Q)
          exact F_159_145_ok  K (v3 / v5) (nI 0) v1 _ _ _  R h
      · refine jX.b2f hc (by rfl) (by rfl) (by rfl) (?_ : jX G jP 159 113 lv [.int (nI 0), .ref (spl 54 v1.1 v1.2), .ref (spl 33 0 0)] μ Q)
        refine jX.lln l3 (by rfl) (by rfl) (?_ : jX G jP 159 114 lv [.long v3, .int (nI 0), .ref (spl 54 v1.1 v1.2), .ref (spl 33 0 0)] μ Q)
        refine jX.ll l5 (by rfl) (by rfl) (?_ : jX G jP 159 116 lv [.long v5, .long v3, .int (nI 0), .ref (spl 54 v1.1 v1.2), .ref (spl 33 0 0)] μ Q)
        refine jX.go (by rfl) (by rfl) (by rfl) (?_ : jX G jP 159 117 lv [.long (v3 * v5), .int (nI 0), .ref (spl 54 v1.1 v1.2), .ref (spl 33 0 0)] μ Q)
        refine jX.go (by rfl) (by rfl) (by rfl) (?_ : jX G jP 159 145 lv [.long (v3 * v5), .int (nI 0), .ref (spl 54 v1.1 v1.2), .ref (spl 33 0 0)] μ Q)
        exact F_159_145_ok  K (v3 * v5) (nI 0) v1 _ _ _  R h
    · refine jX.b2f hc (by rfl) (by rfl) (by rfl) (?_ : jX G jP 159 100 lv [.int (nI 0), .ref (spl 54 v1.1 v1.2), .ref (spl 33 0 0)] μ Q)
      refine jX.lln l3 (by rfl) (by rfl) (?_ : jX G jP 159 101 lv [.long v3, .int (nI 0), .ref (spl 54 v1.1 v1.2), .ref (spl 33 0 0)] μ Q)
      refine jX.ll l5 (by rfl) (by rfl) (?_ : jX G jP 159 103 lv [.long v5, .long v3, .int (nI 0), .ref (spl 54 v1.1 v1.2), .ref (spl 33 0 0)] μ Q)
      refine jX.go (by rfl) (by rfl) (by rfl) (?_ : jX G jP 159 104 lv [.long (v3 - v5), .int (nI 0), .ref (spl 54 v1.1 v1.2), .ref (spl 33 0 0)] μ Q)
      refine jX.go (by rfl) (by rfl) (by rfl) (?_ : jX G jP 159 145 lv [.long (v3 - v5), .int (nI 0), .ref (spl 54 v1.1 v1.2), .ref (spl 33 0 0)] μ Q)
      exact F_159_145_ok  K (v3 - v5) (nI 0) v1 _ _ _  R h
  · refine jX.b2f hc (by rfl) (by rfl) (by rfl) (?_ : jX G jP 159 87 lv [.int (nI 0), .ref (spl 54 v1.1 v1.2), .ref (spl 33 0 0)] μ Q)
    refine jX.lln l3 (by rfl) (by rfl) (?_ : jX G jP 159 88 lv [.long v3, .int (nI 0), .ref (spl 54 v1.1 v1.2), .ref (spl 33 0 0)] μ Q)
    refine jX.ll l5 (by rfl) (by rfl) (?_ : jX G jP 159 90 lv [.long v5, .long v3, .int (nI 0), .ref (spl 54 v1.1 v1.2), .ref (spl 33 0 0)] μ Q)
    refine jX.go (by rfl) (by rfl) (by rfl) (?_ : jX G jP 159 91 lv [.long (v3 + v5), .int (nI 0), .ref (spl 54 v1.1 v1.2), .ref (spl 33 0 0)] μ Q)
    refine jX.go (by rfl) (by rfl) (by rfl) (?_ : jX G jP 159 145 lv [.long (v3 + v5), .int (nI 0), .ref (spl 54 v1.1 v1.2), .ref (spl 33 0 0)] μ Q)
    exact F_159_145_ok  K (v3 + v5) (nI 0) v1 _ _ _  R h
def F_159_34 (G : jG) (t : Nat) (v1 : (Nat × Nat)) (v2 : Int32) (w0 : Int32) (w1 : (Nat × Nat)) (S : sS) : Option (Unit × sS) := (F_158 G t w1 w0 S).bind (fun q1 => bif jcmp .ne q1.1 0 then (jif (jin (nI 1) 16) (jif (jin (nI 0) 16) (bif jcmp .ne v2 (nI 12) then (F_159_78 G t v1 v2 (q1.2.2.1 48 0 0 (nI 1).toNatClampNeg) (q1.2.2.1 48 0 0 (nI 0).toNatClampNeg) q1.2) else (bif jcmp .ne (lg_cmp (q1.2.2.1 48 0 0 (nI 0).toNatClampNeg) 0) 0 then (F_159_78 G t v1 v2 (q1.2.2.1 48 0 0 (nI 1).toNatClampNeg) (q1.2.2.1 48 0 0 (nI 0).toNatClampNeg) q1.2) else ((F_155 G t v1 (-1) q1.2).bind (fun q4 => some ((), q4.2))))))) else (some ((), q1.2)))
theorem F_159_34_ok {G : jG} {t : Nat} {r : Unit} {S' : sS} {Q : Option Value ⊕ Nat → jS → Prop} (K : ∀ μ', sR S' μ' → Q (srV r) μ') : ∀ (v1 : (Nat × Nat)) (v2 : Int32) (w0 : Int32) (w1 : (Nat × Nat)) (S : sS) (lv : jL) (μ : jS), jld lv 0 = some (.ref (spl 33 0 0)) → jld lv 1 = some (.ref (spl 54 v1.1 v1.2)) → jld lv 2 = some (.int v2) → sR S μ → F_159_34 G t v1 v2 w0 w1 S = some (r, S') → jX G jP 159 34 lv [.int w0, .ref (spl 54 w1.1 w1.2), .ref (spl 33 0 0)] μ Q := by
  intro v1 v2 w0 w1 S lv μ l0 l1 l2 R h
  unfold F_159_34 at h
  obtain ⟨q1, e1, h⟩ := sbd h
  refine jX.c1 (v := .int q1.1) (by rfl) (by rfl) (by rfl) (by rfl) (by rfl) (by rfl) (by rfl) (R.rec (by rfl) (by rfl)) (Nat.le_of_ble_eq_true rfl) (Nat.le_of_ble_eq_true rfl) (F_158_ok R e1 (fun μ R => ⟨rfl, (?_ : jX G jP 159 37 lv [.int q1.1] μ Q)⟩))
  rcases bif_or h with ⟨hc, h⟩ | ⟨hc, h⟩
  · refine jX.b1t hc (by rfl) (by rfl) (by rfl) (?_ : jX G jP 159 41 lv [] μ Q)
    refine jX.lrn l0 (by rfl) (by rfl) (?_ : jX G jP 159 42 lv [.ref (spl 33 0 0)] μ Q)
    refine jX.sg R (by rfl) (by rfl) (by rfl) (by rfl) (by rfl) (by rfl) (?_ : jX G jP 159 45 lv [.ref (spl 48 0 0)] μ Q)
    refine jX.ic (v := nI 1) (n := 1) (by rfl) (by rfl) (by decide) (?_ : jX G jP 159 46 lv [.int (nI 1), .ref (spl 48 0 0)] μ Q)
    obtain ⟨g2, h⟩ := jif_some h
    refine jX.sal R (by rfl) (by rfl) (by rfl) (by rfl) g2 (?_ : jX G jP 159 47 lv [.long (q1.2.2.1 48 0 0 (nI 1).toNatClampNeg)] μ Q)
    refine jX.s2 (k := 3) (pc' := 48) (by rfl) (by rfl) (by rfl) (fun lv l3 kp => (?_ : jX G jP 159 48 lv [] μ Q))
    replace l0 := kp 0 _ l0 (by rfl) (by first | rfl | simp [soR_cat])
    replace l1 := kp 1 _ l1 (by rfl) (by first | rfl | simp [soR_cat])
    replace l2 := kp 2 _ l2 (by rfl) (by first | rfl | simp [soR_cat])
    refine jX.lrn l0 (by rfl) (by rfl) (?_ : jX G jP 159 49 lv [.ref (spl 33 0 0)] μ Q)
    refine jX.sg R (by rfl) (by rfl) (by rfl) (by rfl) (by rfl) (by rfl) (?_ : jX G jP 159 52 lv [.ref (spl 48 0 0)] μ Q)
    refine jX.ic (v := nI 0) (n := 1) (by rfl) (by rfl) (by decide) (?_ : jX G jP 159 53 lv [.int (nI 0), .ref (spl 48 0 0)] μ Q)
    obtain ⟨g3, h⟩ := jif_some h
    refine jX.sal R (by rfl) (by rfl) (by rfl) (by rfl) g3 (?_ : jX G jP 159 54 lv [.long (q1.2.2.1 48 0 0 (nI 0).toNatClampNeg)] μ Q)
    refine jX.s2 (k := 5) (pc' := 56) (by rfl) (by rfl) (by rfl) (fun lv l5 kp => (?_ : jX G jP 159 56 lv [] μ Q))
    replace l0 := kp 0 _ l0 (by rfl) (by first | rfl | simp [soR_cat])
    replace l1 := kp 1 _ l1 (by rfl) (by first | rfl | simp [soR_cat])
    replace l2 := kp 2 _ l2 (by rfl) (by first | rfl | simp [soR_cat])
    replace l3 := kp 3 _ l3 (by rfl) (by first | rfl | simp [soR_cat])
    refine jX.lin l2 (by rfl) (by rfl) (?_ : jX G jP 159 57 lv [.int v2] μ Q)
    refine jX.ic (v := nI 12) (n := 2) (by rfl) (by rfl) (by decide) (?_ : jX G jP 159 59 lv [.int (nI 12), .int v2] μ Q)
    rcases bif_or h with ⟨hc, h⟩ | ⟨hc, h⟩
    · refine jX.b2t hc (by rfl) (by rfl) (by rfl) (?_ : jX G jP 159 78 lv [] μ Q)
      exact F_159_78_ok  K v1 v2 (q1.2.2.1 48 0 0 (nI 1).toNatClampNeg) (q1.2.2.1 48 0 0 (nI 0).toNatClampNeg) _ _ _ l0 l1 l2 l3 l5 R h
    · refine jX.b2f hc (by rfl) (by rfl) (by rfl) (?_ : jX G jP 159 62 lv [] μ Q)
      refine jX.ll l5 (by rfl) (by rfl) (?_ : jX G jP 159 64 lv [.long (q1.2.2.1 48 0 0 (nI 0).toNatClampNeg)] μ Q)
      refine jX.go (by rfl) (by rfl) (by rfl) (?_ : jX G jP 159 65 lv [.long 0, .long (q1.2.2.1 48 0 0 (nI 0).toNatClampNeg)] μ Q)
      refine jX.go (by rfl) (by rfl) (by rfl) (?_ : jX G jP 159 66 lv [.int (lg_cmp (q1.2.2.1 48 0 0 (nI 0).toNatClampNeg) 0)] μ Q)
      rcases bif_or h with ⟨hc, h⟩ | ⟨hc, h⟩
      · refine jX.b1t hc (by rfl) (by rfl) (by rfl) (?_ : jX G jP 159 78 lv [] μ Q)
        exact F_159_78_ok  K v1 v2 (q1.2.2.1 48 0 0 (nI 1).toNatClampNeg) (q1.2.2.1 48 0 0 (nI 0).toNatClampNeg) _ _ _ l0 l1 l2 l3 l5 R h
      · refine jX.b1f hc (by rfl) (by rfl) (by rfl) (?_ : jX G jP 159 69 lv [] μ Q)
        refine jX.lrn l0 (by rfl) (by rfl) (?_ : jX G jP 159 70 lv [.ref (spl 33 0 0)] μ Q)
        refine jX.lrn l1 (by rfl) (by rfl) (?_ : jX G jP 159 71 lv [.ref (spl 54 v1.1 v1.2), .ref (spl 33 0 0)] μ Q)
        refine jX.go (by rfl) (by rfl) (by rfl) (?_ : jX G jP 159 74 lv [.long (-1), .ref (spl 54 v1.1 v1.2), .ref (spl 33 0 0)] μ Q)
        obtain ⟨q4, e4, h⟩ := sbd h
        refine jX.cv (by rfl) (by rfl) (by rfl) (by rfl) (by rfl) (by rfl) (by rfl) (R.rec (by rfl) (by rfl)) (Nat.le_of_ble_eq_true rfl) (Nat.le_of_ble_eq_true rfl) (F_155_ok R e4 (fun μ R => ⟨rfl, (?_ : jX G jP 159 77 lv [] μ Q)⟩))
        exact jX.ret (by rfl) (by rfl) (by rfl) (by rfl) (sretv (f := srV) h K R)
  · refine jX.b1f hc (by rfl) (by rfl) (by rfl) (?_ : jX G jP 159 40 lv [] μ Q)
    exact jX.ret (by rfl) (by rfl) (by rfl) (by rfl) (sretv (f := srV) h K R)
def F_159_33 (G : jG) (t : Nat) (v1 : (Nat × Nat)) (v2 : Int32) (w0 : (Nat × Nat)) (S : sS) : Option (Unit × sS) := F_159_34 G t v1 v2 (nI 0) w0 S
theorem F_159_33_ok {G : jG} {t : Nat} {r : Unit} {S' : sS} {Q : Option Value ⊕ Nat → jS → Prop} (K : ∀ μ', sR S' μ' → Q (srV r) μ') : ∀ (v1 : (Nat × Nat)) (v2 : Int32) (w0 : (Nat × Nat)) (S : sS) (lv : jL) (μ : jS), jld lv 0 = some (.ref (spl 33 0 0)) → jld lv 1 = some (.ref (spl 54 v1.1 v1.2)) → jld lv 2 = some (.int v2) → sR S μ → F_159_33 G t v1 v2 w0 S = some (r, S') → jX G jP 159 33 lv [.ref (spl 54 w0.1 w0.2), .ref (spl 33 0 0)] μ Q := by
  intro v1 v2 w0 S lv μ l0 l1 l2 R h
  unfold F_159_33 at h
  refine jX.ic (v := nI 0) (n := 1) (by rfl) (by rfl) (by decide) (?_ : jX G jP 159 34 lv [.int (nI 0), .ref (spl 54 w0.1 w0.2), .ref (spl 33 0 0)] μ Q)
  exact F_159_34_ok  K v1 v2 (nI 0) w0 _ _ _ l0 l1 l2 R h
def F_159 (G : jG) (t : Nat) (v1 : (Nat × Nat)) (v2 : Int32) (S : sS) : Option (Unit × sS) := (F_156 G t v1 (nI 2) S).bind (fun q1 => bif jcmp .eq q1.1 0 then (some ((), q1.2)) else (jif (jin (nI 0) 16) (bif jcmp .ne (q1.2.1 47 0 0 (nI 0).toNatClampNeg) 0 then (F_159_33 G t v1 v2 v1 q1.2) else (jif (jin (nI 1) 16) (bif jcmp .ne (q1.2.1 47 0 0 (nI 1).toNatClampNeg) 0 then (F_159_33 G t v1 v2 v1 q1.2) else (F_159_34 G t v1 v2 (nI 1) v1 q1.2))))))
theorem F_159_ok {G : jG} {t : Nat} {v1 : (Nat × Nat)} {v2 : Int32} {S : sS} {r : Unit} {S' : sS} {μ : jS} {Q : Option Value ⊕ Nat → jS → Prop} (R : sR S μ) (h : F_159 G t v1 v2 S = some (r, S')) (K : ∀ μ', sR S' μ' → Q (srV r) μ') : jX G jP 159 0 (lv_args 0 [.ref (spl 33 0 0), .ref (spl 54 v1.1 v1.2), .int v2]) [] μ Q := by
  unfold F_159 at h
  have l0 : jld (lv_args 0 [.ref (spl 33 0 0), .ref (spl 54 v1.1 v1.2), .int v2]) 0 = some (.ref (spl 33 0 0)) := by rfl
  have l1 : jld (lv_args 0 [.ref (spl 33 0 0), .ref (spl 54 v1.1 v1.2), .int v2]) 1 = some (.ref (spl 54 v1.1 v1.2)) := by rfl
  have l2 : jld (lv_args 0 [.ref (spl 33 0 0), .ref (spl 54 v1.1 v1.2), .int v2]) 2 = some (.int v2) := by rfl
  generalize lv_args 0 [.ref (spl 33 0 0), .ref (spl 54 v1.1 v1.2), .int v2] = lv at *
  refine jX.lrn l0 (by rfl) (by rfl) (?_ : jX G jP 159 1 lv [.ref (spl 33 0 0)] μ Q)
  refine jX.lrn l1 (by rfl) (by rfl) (?_ : jX G jP 159 2 lv [.ref (spl 54 v1.1 v1.2), .ref (spl 33 0 0)] μ Q)
  refine jX.ic (v := nI 2) (n := 1) (by rfl) (by rfl) (by decide) (?_ : jX G jP 159 3 lv [.int (nI 2), .ref (spl 54 v1.1 v1.2), .ref (spl 33 0 0)] μ Q)
  obtain ⟨q1, e1, h⟩ := sbd h
  refine jX.c1 (v := .int q1.1) (by rfl) (by rfl) (by rfl) (by rfl) (by rfl) (by rfl) (by rfl) (R.rec (by rfl) (by rfl)) (Nat.le_of_ble_eq_true rfl) (Nat.le_of_ble_eq_true rfl) (F_156_ok R e1 (fun μ R => ⟨rfl, (?_ : jX G jP 159 6 lv [.int q1.1] μ Q)⟩))
  rcases bif_or h with ⟨hc, h⟩ | ⟨hc, h⟩
  · refine jX.b1t hc (by rfl) (by rfl) (by rfl) (?_ : jX G jP 159 40 lv [] μ Q)
    exact jX.ret (by rfl) (by rfl) (by rfl) (by rfl) (sretv (f := srV) h K R)
  · refine jX.b1f hc (by rfl) (by rfl) (by rfl) (?_ : jX G jP 159 9 lv [] μ Q)
    refine jX.lrn l0 (by rfl) (by rfl) (?_ : jX G jP 159 10 lv [.ref (spl 33 0 0)] μ Q)
    refine jX.lrn l1 (by rfl) (by rfl) (?_ : jX G jP 159 11 lv [.ref (spl 54 v1.1 v1.2), .ref (spl 33 0 0)] μ Q)
    refine jX.lrn l0 (by rfl) (by rfl) (?_ : jX G jP 159 12 lv [.ref (spl 33 0 0), .ref (spl 54 v1.1 v1.2), .ref (spl 33 0 0)] μ Q)
    refine jX.sg R (by rfl) (by rfl) (by rfl) (by rfl) (by rfl) (by rfl) (?_ : jX G jP 159 15 lv [.ref (spl 47 0 0), .ref (spl 54 v1.1 v1.2), .ref (spl 33 0 0)] μ Q)
    refine jX.ic (v := nI 0) (n := 1) (by rfl) (by rfl) (by decide) (?_ : jX G jP 159 16 lv [.int (nI 0), .ref (spl 47 0 0), .ref (spl 54 v1.1 v1.2), .ref (spl 33 0 0)] μ Q)
    obtain ⟨g2, h⟩ := jif_some h
    refine jX.sai R (by rfl) (by rfl) (by rfl) (by rfl) g2 (?_ : jX G jP 159 17 lv [.int (q1.2.1 47 0 0 (nI 0).toNatClampNeg), .ref (spl 54 v1.1 v1.2), .ref (spl 33 0 0)] μ Q)
    rcases bif_or h with ⟨hc, h⟩ | ⟨hc, h⟩
    · refine jX.b1t hc (by rfl) (by rfl) (by rfl) (?_ : jX G jP 159 33 lv [.ref (spl 54 v1.1 v1.2), .ref (spl 33 0 0)] μ Q)
      exact F_159_33_ok  K v1 v2 v1 _ _ _ l0 l1 l2 R h
    · refine jX.b1f hc (by rfl) (by rfl) (by rfl) (?_ : jX G jP 159 20 lv [.ref (spl 54 v1.1 v1.2), .ref (spl 33 0 0)] μ Q)
      refine jX.lrn l0 (by rfl) (by rfl) (?_ : jX G jP 159 21 lv [.ref (spl 33 0 0), .ref (spl 54 v1.1 v1.2), .ref (spl 33 0 0)] μ Q)
      refine jX.sg R (by rfl) (by rfl) (by rfl) (by rfl) (by rfl) (by rfl) (?_ : jX G jP 159 24 lv [.ref (spl 47 0 0), .ref (spl 54 v1.1 v1.2), .ref (spl 33 0 0)] μ Q)
      refine jX.ic (v := nI 1) (n := 1) (by rfl) (by rfl) (by decide) (?_ : jX G jP 159 25 lv [.int (nI 1), .ref (spl 47 0 0), .ref (spl 54 v1.1 v1.2), .ref (spl 33 0 0)] μ Q)
      obtain ⟨g3, h⟩ := jif_some h
      refine jX.sai R (by rfl) (by rfl) (by rfl) (by rfl) g3 (?_ : jX G jP 159 26 lv [.int (q1.2.1 47 0 0 (nI 1).toNatClampNeg), .ref (spl 54 v1.1 v1.2), .ref (spl 33 0 0)] μ Q)
      rcases bif_or h with ⟨hc, h⟩ | ⟨hc, h⟩
      · refine jX.b1t hc (by rfl) (by rfl) (by rfl) (?_ : jX G jP 159 33 lv [.ref (spl 54 v1.1 v1.2), .ref (spl 33 0 0)] μ Q)
        exact F_159_33_ok  K v1 v2 v1 _ _ _ l0 l1 l2 R h
      · refine jX.b1f hc (by rfl) (by rfl) (by rfl) (?_ : jX G jP 159 29 lv [.ref (spl 54 v1.1 v1.2), .ref (spl 33 0 0)] μ Q)
        refine jX.ic (v := nI 1) (n := 1) (by rfl) (by rfl) (by decide) (?_ : jX G jP 159 30 lv [.int (nI 1), .ref (spl 54 v1.1 v1.2), .ref (spl 33 0 0)] μ Q)
        refine jX.go (by rfl) (by rfl) (by rfl) (?_ : jX G jP 159 34 lv [.int (nI 1), .ref (spl 54 v1.1 v1.2), .ref (spl 33 0 0)] μ Q)
        exact F_159_34_ok  K v1 v2 (nI 1) v1 _ _ _ l0 l1 l2 R h
/-! 160 StrandRuntimeModel.truth(LStrandRuntimeModel$Strand;Z)V -/
def F_160_12 (G : jG) (t : Nat) (w0 : Int64) (w1 : Int32) (w2 : (Nat × Nat)) (S : sS) : Option (Unit × sS) := (F_157 G t w2 w1 w0 S).bind (fun q1 => some ((), q1.2))
theorem F_160_12_ok {G : jG} {t : Nat} {r : Unit} {S' : sS} {Q : Option Value ⊕ Nat → jS → Prop} (K : ∀ μ', sR S' μ' → Q (srV r) μ') : ∀ (w0 : Int64) (w1 : Int32) (w2 : (Nat × Nat)) (S : sS) (lv : jL) (μ : jS), sR S μ → F_160_12 G t w0 w1 w2 S = some (r, S') → jX G jP 160 12 lv [.long w0, .int w1, .ref (spl 54 w2.1 w2.2), .ref (spl 33 0 0)] μ Q := by
  intro w0 w1 w2 S lv μ R h
  unfold F_160_12 at h
  obtain ⟨q1, e1, h⟩ := sbd h
  refine jX.c1 (v := .int q1.1) (by rfl) (by rfl) (by rfl) (by rfl) (by rfl) (by rfl) (by rfl) (R.rec (by rfl) (by rfl)) (Nat.le_of_ble_eq_true rfl) (Nat.le_of_ble_eq_true rfl) (F_157_ok R e1 (fun μ R => ⟨rfl, (?_ : jX G jP 160 15 lv [.int q1.1] μ Q)⟩))
  refine jX.go (by rfl) (by rfl) (by rfl) (?_ : jX G jP 160 16 lv [] μ Q)
  exact jX.ret (by rfl) (by rfl) (by rfl) (by rfl) (sretv (f := srV) h K R)
def F_160 (G : jG) (t : Nat) (v1 : (Nat × Nat)) (v2 : Int32) (S : sS) : Option (Unit × sS) := bif jcmp .eq v2 0 then (F_160_12 G t 0 (nI 0) v1 S) else (F_160_12 G t 1 (nI 0) v1 S)
theorem F_160_ok {G : jG} {t : Nat} {v1 : (Nat × Nat)} {v2 : Int32} {S : sS} {r : Unit} {S' : sS} {μ : jS} {Q : Option Value ⊕ Nat → jS → Prop} (R : sR S μ) (h : F_160 G t v1 v2 S = some (r, S')) (K : ∀ μ', sR S' μ' → Q (srV r) μ') : jX G jP 160 0 (lv_args 0 [.ref (spl 33 0 0), .ref (spl 54 v1.1 v1.2), .int v2]) [] μ Q := by
  unfold F_160 at h
  have l0 : jld (lv_args 0 [.ref (spl 33 0 0), .ref (spl 54 v1.1 v1.2), .int v2]) 0 = some (.ref (spl 33 0 0)) := by rfl
  have l1 : jld (lv_args 0 [.ref (spl 33 0 0), .ref (spl 54 v1.1 v1.2), .int v2]) 1 = some (.ref (spl 54 v1.1 v1.2)) := by rfl
  have l2 : jld (lv_args 0 [.ref (spl 33 0 0), .ref (spl 54 v1.1 v1.2), .int v2]) 2 = some (.int v2) := by rfl
  generalize lv_args 0 [.ref (spl 33 0 0), .ref (spl 54 v1.1 v1.2), .int v2] = lv at *
  refine jX.lrn l0 (by rfl) (by rfl) (?_ : jX G jP 160 1 lv [.ref (spl 33 0 0)] μ Q)
  refine jX.lrn l1 (by rfl) (by rfl) (?_ : jX G jP 160 2 lv [.ref (spl 54 v1.1 v1.2), .ref (spl 33 0 0)] μ Q)
  refine jX.ic (v := nI 0) (n := 1) (by rfl) (by rfl) (by decide) (?_ : jX G jP 160 3 lv [.int (nI 0), .ref (spl 54 v1.1 v1.2), .ref (spl 33 0 0)] μ Q)
  refine jX.lin l2 (by rfl) (by rfl) (?_ : jX G jP 160 4 lv [.int v2, .int (nI 0), .ref (spl 54 v1.1 v1.2), .ref (spl 33 0 0)] μ Q)
  rcases bif_or h with ⟨hc, h⟩ | ⟨hc, h⟩
  · refine jX.b1t hc (by rfl) (by rfl) (by rfl) (?_ : jX G jP 160 11 lv [.int (nI 0), .ref (spl 54 v1.1 v1.2), .ref (spl 33 0 0)] μ Q)
    refine jX.go (by rfl) (by rfl) (by rfl) (?_ : jX G jP 160 12 lv [.long 0, .int (nI 0), .ref (spl 54 v1.1 v1.2), .ref (spl 33 0 0)] μ Q)
    exact F_160_12_ok  K 0 (nI 0) v1 _ _ _  R h
  · refine jX.b1f hc (by rfl) (by rfl) (by rfl) (?_ : jX G jP 160 7 lv [.int (nI 0), .ref (spl 54 v1.1 v1.2), .ref (spl 33 0 0)] μ Q)
    refine jX.go (by rfl) (by rfl) (by rfl) (?_ : jX G jP 160 8 lv [.long 1, .int (nI 0), .ref (spl 54 v1.1 v1.2), .ref (spl 33 0 0)] μ Q)
    refine jX.go (by rfl) (by rfl) (by rfl) (?_ : jX G jP 160 12 lv [.long 1, .int (nI 0), .ref (spl 54 v1.1 v1.2), .ref (spl 33 0 0)] μ Q)
    exact F_160_12_ok  K 1 (nI 0) v1 _ _ _  R h
/-! 161 StrandRuntimeModel.arguments(LStrandRuntimeModel$Strand;I)V -/
def F_161_2 (G : jG) (t : Nat) : Nat → (Nat × Nat) → Int32 → Int32 → sS → Option (Unit × sS)
  | 0 => fun _ _ _ _ => none
  | tt + 1 => fun v1 v2 v3 S => bif jcmp .ge v3 v2 then (some ((), S)) else ((F_151 G t v1 S).bind (fun q1 => (q1.1).bind (fun a2 => jif (sex q1.2.2.2.2.1 56 a2.1 a2.2) (jif (jin ((v2 - (nI 1)) - v3) 16) (jif (sex q1.2.2.2.2.1 57 a2.1 a2.2) (jif (jin v3 12) ((F_151 G t v1 (siI q1.2 57 a2.1 a2.2 v3.toNatClampNeg (q1.2.1 47 0 0 ((v2 - (nI 1)) - v3).toNatClampNeg))).bind (fun q7 => (q7.1).bind (fun a8 => jif (sex q7.2.2.2.2.1 56 a8.1 a8.2) (jif (jin ((v2 - (nI 1)) - v3) 16) (jif (sex q7.2.2.2.2.1 61 a8.1 a8.2) (jif (jin v3 12) (F_161_2 G t tt v1 v2 (v3 + Int32.ofInt 1) (siL q7.2 61 a8.1 a8.2 v3.toNatClampNeg (q7.2.2.1 48 0 0 ((v2 - (nI 1)) - v3).toNatClampNeg)))))))))))))))
theorem F_161_2_ok {G : jG} {t : Nat} {r : Unit} {S' : sS} {Q : Option Value ⊕ Nat → jS → Prop} (K : ∀ μ', sR S' μ' → Q (srV r) μ') : ∀ tt : Nat, ∀ (v1 : (Nat × Nat)) (v2 : Int32) (v3 : Int32) (S : sS) (lv : jL) (μ : jS), jld lv 0 = some (.ref (spl 33 0 0)) → jld lv 1 = some (.ref (spl 54 v1.1 v1.2)) → jld lv 2 = some (.int v2) → jld lv 3 = some (.int v3) → sR S μ → F_161_2 G t tt v1 v2 v3 S = some (r, S') → jX G jP 161 2 lv [] μ Q := by
  intro tt
  induction tt with
  | zero =>
    intro v1 v2 v3 S lv μ l0 l1 l2 l3 R h
    rw [F_161_2] at h
    cases h
  | succ tt ih =>
    intro v1 v2 v3 S lv μ l0 l1 l2 l3 R h
    rw [F_161_2] at h
    refine jX.lin l3 (by rfl) (by rfl) (?_ : jX G jP 161 3 lv [.int v3] μ Q)
    refine jX.lin l2 (by rfl) (by rfl) (?_ : jX G jP 161 4 lv [.int v2, .int v3] μ Q)
    rcases bif_or h with ⟨hc, h⟩ | ⟨hc, h⟩
    · refine jX.b2t hc (by rfl) (by rfl) (by rfl) (?_ : jX G jP 161 51 lv [] μ Q)
      exact jX.ret (by rfl) (by rfl) (by rfl) (by rfl) (sretv (f := srV) h K R)
    · refine jX.b2f hc (by rfl) (by rfl) (by rfl) (?_ : jX G jP 161 7 lv [] μ Q)
      refine jX.lrn l1 (by rfl) (by rfl) (?_ : jX G jP 161 8 lv [.ref (spl 54 v1.1 v1.2)] μ Q)
      obtain ⟨q1, e1, h⟩ := sbd h
      refine jX.c1 (v := soR 56 q1.1) (by rfl) (by rfl) (by rfl) (by rfl) (by rfl) (by rfl) (by rfl) (by rfl) (Nat.le_of_ble_eq_true rfl) (Nat.le_of_ble_eq_true rfl) (F_151_ok R e1 (fun μ R => ⟨rfl, (?_ : jX G jP 161 11 lv [soR 56 q1.1] μ Q)⟩))
      obtain ⟨a2, e2, h⟩ := sbd h
      rw [soR_some (t := 56) e2]
      obtain ⟨g3, h⟩ := jif_some h
      refine jX.sg R g3 (by rfl) (by rfl) (by rfl) (by rfl) (by rfl) (?_ : jX G jP 161 14 lv [.ref (spl 57 a2.1 a2.2)] μ Q)
      refine jX.lin l3 (by rfl) (by rfl) (?_ : jX G jP 161 15 lv [.int v3, .ref (spl 57 a2.1 a2.2)] μ Q)
      refine jX.lrn l0 (by rfl) (by rfl) (?_ : jX G jP 161 16 lv [.ref (spl 33 0 0), .int v3, .ref (spl 57 a2.1 a2.2)] μ Q)
      refine jX.sg R (by rfl) (by rfl) (by rfl) (by rfl) (by rfl) (by rfl) (?_ : jX G jP 161 19 lv [.ref (spl 47 0 0), .int v3, .ref (spl 57 a2.1 a2.2)] μ Q)
      refine jX.lin l2 (by rfl) (by rfl) (?_ : jX G jP 161 20 lv [.int v2, .ref (spl 47 0 0), .int v3, .ref (spl 57 a2.1 a2.2)] μ Q)
      refine jX.ic (v := nI 1) (n := 1) (by rfl) (by rfl) (by decide) (?_ : jX G jP 161 21 lv [.int (nI 1), .int v2, .ref (spl 47 0 0), .int v3, .ref (spl 57 a2.1 a2.2)] μ Q)
      refine jX.go (by rfl) (by rfl) (by rfl) (?_ : jX G jP 161 22 lv [.int (v2 - (nI 1)), .ref (spl 47 0 0), .int v3, .ref (spl 57 a2.1 a2.2)] μ Q)
      refine jX.lin l3 (by rfl) (by rfl) (?_ : jX G jP 161 23 lv [.int v3, .int (v2 - (nI 1)), .ref (spl 47 0 0), .int v3, .ref (spl 57 a2.1 a2.2)] μ Q)
      refine jX.go (by rfl) (by rfl) (by rfl) (?_ : jX G jP 161 24 lv [.int ((v2 - (nI 1)) - v3), .ref (spl 47 0 0), .int v3, .ref (spl 57 a2.1 a2.2)] μ Q)
      obtain ⟨g4, h⟩ := jif_some h
      refine jX.sai R (by rfl) (by rfl) (by rfl) (by rfl) g4 (?_ : jX G jP 161 25 lv [.int (q1.2.1 47 0 0 ((v2 - (nI 1)) - v3).toNatClampNeg), .int v3, .ref (spl 57 a2.1 a2.2)] μ Q)
      obtain ⟨g5, h⟩ := jif_some h
      obtain ⟨g6, h⟩ := jif_some h
      refine jX.sti R g5 (by rfl) (by rfl) (fun _ => by rfl) g6 (fun μ R => (?_ : jX G jP 161 26 lv [] μ Q))
      refine jX.lrn l1 (by rfl) (by rfl) (?_ : jX G jP 161 27 lv [.ref (spl 54 v1.1 v1.2)] μ Q)
      obtain ⟨q7, e7, h⟩ := sbd h
      refine jX.c1 (v := soR 56 q7.1) (by rfl) (by rfl) (by rfl) (by rfl) (by rfl) (by rfl) (by rfl) (by rfl) (Nat.le_of_ble_eq_true rfl) (Nat.le_of_ble_eq_true rfl) (F_151_ok R e7 (fun μ R => ⟨rfl, (?_ : jX G jP 161 30 lv [soR 56 q7.1] μ Q)⟩))
      obtain ⟨a8, e8, h⟩ := sbd h
      rw [soR_some (t := 56) e8]
      obtain ⟨g9, h⟩ := jif_some h
      refine jX.sg R g9 (by rfl) (by rfl) (by rfl) (by rfl) (by rfl) (?_ : jX G jP 161 33 lv [.ref (spl 61 a8.1 a8.2)] μ Q)
      refine jX.lin l3 (by rfl) (by rfl) (?_ : jX G jP 161 34 lv [.int v3, .ref (spl 61 a8.1 a8.2)] μ Q)
      refine jX.lrn l0 (by rfl) (by rfl) (?_ : jX G jP 161 35 lv [.ref (spl 33 0 0), .int v3, .ref (spl 61 a8.1 a8.2)] μ Q)
      refine jX.sg R (by rfl) (by rfl) (by rfl) (by rfl) (by rfl) (by rfl) (?_ : jX G jP 161 38 lv [.ref (spl 48 0 0), .int v3, .ref (spl 61 a8.1 a8.2)] μ Q)
      refine jX.lin l2 (by rfl) (by rfl) (?_ : jX G jP 161 39 lv [.int v2, .ref (spl 48 0 0), .int v3, .ref (spl 61 a8.1 a8.2)] μ Q)
      refine jX.ic (v := nI 1) (n := 1) (by rfl) (by rfl) (by decide) (?_ : jX G jP 161 40 lv [.int (nI 1), .int v2, .ref (spl 48 0 0), .int v3, .ref (spl 61 a8.1 a8.2)] μ Q)
      refine jX.go (by rfl) (by rfl) (by rfl) (?_ : jX G jP 161 41 lv [.int (v2 - (nI 1)), .ref (spl 48 0 0), .int v3, .ref (spl 61 a8.1 a8.2)] μ Q)
      refine jX.lin l3 (by rfl) (by rfl) (?_ : jX G jP 161 42 lv [.int v3, .int (v2 - (nI 1)), .ref (spl 48 0 0), .int v3, .ref (spl 61 a8.1 a8.2)] μ Q)
      refine jX.go (by rfl) (by rfl) (by rfl) (?_ : jX G jP 161 43 lv [.int ((v2 - (nI 1)) - v3), .ref (spl 48 0 0), .int v3, .ref (spl 61 a8.1 a8.2)] μ Q)
      obtain ⟨g10, h⟩ := jif_some h
      refine jX.sal R (by rfl) (by rfl) (by rfl) (by rfl) g10 (?_ : jX G jP 161 44 lv [.long (q7.2.2.1 48 0 0 ((v2 - (nI 1)) - v3).toNatClampNeg), .int v3, .ref (spl 61 a8.1 a8.2)] μ Q)
      obtain ⟨g11, h⟩ := jif_some h
      obtain ⟨g12, h⟩ := jif_some h
      refine jX.stl R g11 (by rfl) (by rfl) (fun _ => by rfl) g12 (fun μ R => (?_ : jX G jP 161 45 lv [] μ Q))
      refine jX.inc l3 (by rfl) (by rfl) (by rfl) (fun lv l3 kp => (?_ : jX G jP 161 48 lv [] μ Q))
      replace l0 := kp 0 _ l0 (by rfl) (by first | rfl | simp [soR_cat])
      replace l1 := kp 1 _ l1 (by rfl) (by first | rfl | simp [soR_cat])
      replace l2 := kp 2 _ l2 (by rfl) (by first | rfl | simp [soR_cat])
      refine jX.go (by rfl) (by rfl) (by rfl) (?_ : jX G jP 161 2 lv [] μ Q)
      exact ih v1 v2 (v3 + Int32.ofInt 1) _ _ _ l0 l1 l2 l3 R h
def F_161 (G : jG) (t : Nat) (v1 : (Nat × Nat)) (v2 : Int32) (S : sS) : Option (Unit × sS) := F_161_2 G t t v1 v2 (nI 0) S
theorem F_161_ok {G : jG} {t : Nat} {v1 : (Nat × Nat)} {v2 : Int32} {S : sS} {r : Unit} {S' : sS} {μ : jS} {Q : Option Value ⊕ Nat → jS → Prop} (R : sR S μ) (h : F_161 G t v1 v2 S = some (r, S')) (K : ∀ μ', sR S' μ' → Q (srV r) μ') : jX G jP 161 0 (lv_args 0 [.ref (spl 33 0 0), .ref (spl 54 v1.1 v1.2), .int v2]) [] μ Q := by
  unfold F_161 at h
  have l0 : jld (lv_args 0 [.ref (spl 33 0 0), .ref (spl 54 v1.1 v1.2), .int v2]) 0 = some (.ref (spl 33 0 0)) := by rfl
  have l1 : jld (lv_args 0 [.ref (spl 33 0 0), .ref (spl 54 v1.1 v1.2), .int v2]) 1 = some (.ref (spl 54 v1.1 v1.2)) := by rfl
  have l2 : jld (lv_args 0 [.ref (spl 33 0 0), .ref (spl 54 v1.1 v1.2), .int v2]) 2 = some (.int v2) := by rfl
  generalize lv_args 0 [.ref (spl 33 0 0), .ref (spl 54 v1.1 v1.2), .int v2] = lv at *
  refine jX.ic (v := nI 0) (n := 1) (by rfl) (by rfl) (by decide) (?_ : jX G jP 161 1 lv [.int (nI 0)] μ Q)
  refine jX.s1 (k := 3) (pc' := 2) (by rfl) (by rfl) (by rfl) (fun lv l3 kp => (?_ : jX G jP 161 2 lv [] μ Q))
  replace l0 := kp 0 _ l0 (by rfl) (by first | rfl | simp [soR_cat])
  replace l1 := kp 1 _ l1 (by rfl) (by first | rfl | simp [soR_cat])
  replace l2 := kp 2 _ l2 (by rfl) (by first | rfl | simp [soR_cat])
  exact F_161_2_ok  K _ v1 v2 (nI 0) _ _ _ l0 l1 l2 l3 R h
/-! 162 StrandRuntimeModel.call(LStrandRuntimeModel$Strand;I)V -/
def F_162 (G : jG) (t : Nat) (v1 : (Nat × Nat)) (v2 : Int32) (S : sS) : Option (Unit × sS) := jif (jin v2 32) ((F_156 G t v1 (S.1 37 0 0 v2.toNatClampNeg) S).bind (fun q2 => bif jcmp .ne q2.1 0 then (jif (sex q2.2.2.2.2.1 54 v1.1 v1.2) (bif jcmp .ne (q2.2.1 54 v1.1 v1.2 1) (nI 30) then ((F_142 G t v1 v2 (nI 0) q2.2).bind (fun q4 => (F_161 G t v1 (S.1 37 0 0 v2.toNatClampNeg) q4.2).bind (fun q5 => some ((), q5.2)))) else ((F_155 G t v1 (-3) q2.2).bind (fun q6 => some ((), q6.2))))) else (some ((), q2.2))))
theorem F_162_ok {G : jG} {t : Nat} {v1 : (Nat × Nat)} {v2 : Int32} {S : sS} {r : Unit} {S' : sS} {μ : jS} {Q : Option Value ⊕ Nat → jS → Prop} (R : sR S μ) (h : F_162 G t v1 v2 S = some (r, S')) (K : ∀ μ', sR S' μ' → Q (srV r) μ') : jX G jP 162 0 (lv_args 0 [.ref (spl 33 0 0), .ref (spl 54 v1.1 v1.2), .int v2]) [] μ Q := by
  unfold F_162 at h
  have l0 : jld (lv_args 0 [.ref (spl 33 0 0), .ref (spl 54 v1.1 v1.2), .int v2]) 0 = some (.ref (spl 33 0 0)) := by rfl
  have l1 : jld (lv_args 0 [.ref (spl 33 0 0), .ref (spl 54 v1.1 v1.2), .int v2]) 1 = some (.ref (spl 54 v1.1 v1.2)) := by rfl
  have l2 : jld (lv_args 0 [.ref (spl 33 0 0), .ref (spl 54 v1.1 v1.2), .int v2]) 2 = some (.int v2) := by rfl
  generalize lv_args 0 [.ref (spl 33 0 0), .ref (spl 54 v1.1 v1.2), .int v2] = lv at *
  refine jX.lrn l0 (by rfl) (by rfl) (?_ : jX G jP 162 1 lv [.ref (spl 33 0 0)] μ Q)
  refine jX.sg R (by rfl) (by rfl) (by rfl) (by rfl) (by rfl) (by rfl) (?_ : jX G jP 162 4 lv [.ref (spl 37 0 0)] μ Q)
  refine jX.lin l2 (by rfl) (by rfl) (?_ : jX G jP 162 5 lv [.int v2, .ref (spl 37 0 0)] μ Q)
  obtain ⟨g1, h⟩ := jif_some h
  refine jX.sai R (by rfl) (by rfl) (by rfl) (by rfl) g1 (?_ : jX G jP 162 6 lv [.int (S.1 37 0 0 v2.toNatClampNeg)] μ Q)
  refine jX.s1 (k := 3) (pc' := 7) (by rfl) (by rfl) (by rfl) (fun lv l3 kp => (?_ : jX G jP 162 7 lv [] μ Q))
  replace l0 := kp 0 _ l0 (by rfl) (by first | rfl | simp [soR_cat])
  replace l1 := kp 1 _ l1 (by rfl) (by first | rfl | simp [soR_cat])
  replace l2 := kp 2 _ l2 (by rfl) (by first | rfl | simp [soR_cat])
  refine jX.lrn l0 (by rfl) (by rfl) (?_ : jX G jP 162 8 lv [.ref (spl 33 0 0)] μ Q)
  refine jX.lrn l1 (by rfl) (by rfl) (?_ : jX G jP 162 9 lv [.ref (spl 54 v1.1 v1.2), .ref (spl 33 0 0)] μ Q)
  refine jX.lin l3 (by rfl) (by rfl) (?_ : jX G jP 162 10 lv [.int (S.1 37 0 0 v2.toNatClampNeg), .ref (spl 54 v1.1 v1.2), .ref (spl 33 0 0)] μ Q)
  obtain ⟨q2, e2, h⟩ := sbd h
  refine jX.c1 (v := .int q2.1) (by rfl) (by rfl) (by rfl) (by rfl) (by rfl) (by rfl) (by rfl) (R.rec (by rfl) (by rfl)) (Nat.le_of_ble_eq_true rfl) (Nat.le_of_ble_eq_true rfl) (F_156_ok R e2 (fun μ R => ⟨rfl, (?_ : jX G jP 162 13 lv [.int q2.1] μ Q)⟩))
  rcases bif_or h with ⟨hc, h⟩ | ⟨hc, h⟩
  · refine jX.b1t hc (by rfl) (by rfl) (by rfl) (?_ : jX G jP 162 17 lv [] μ Q)
    refine jX.lrn l1 (by rfl) (by rfl) (?_ : jX G jP 162 18 lv [.ref (spl 54 v1.1 v1.2)] μ Q)
    obtain ⟨g3, h⟩ := jif_some h
    refine jX.sg R g3 (by rfl) (by rfl) (by rfl) (by rfl) (by rfl) (?_ : jX G jP 162 21 lv [.int (q2.2.1 54 v1.1 v1.2 1)] μ Q)
    refine jX.ic (v := nI 30) (n := 2) (by rfl) (by rfl) (by decide) (?_ : jX G jP 162 23 lv [.int (nI 30), .int (q2.2.1 54 v1.1 v1.2 1)] μ Q)
    rcases bif_or h with ⟨hc, h⟩ | ⟨hc, h⟩
    · refine jX.b2t hc (by rfl) (by rfl) (by rfl) (?_ : jX G jP 162 35 lv [] μ Q)
      refine jX.lrn l0 (by rfl) (by rfl) (?_ : jX G jP 162 36 lv [.ref (spl 33 0 0)] μ Q)
      refine jX.lrn l1 (by rfl) (by rfl) (?_ : jX G jP 162 37 lv [.ref (spl 54 v1.1 v1.2), .ref (spl 33 0 0)] μ Q)
      refine jX.lin l2 (by rfl) (by rfl) (?_ : jX G jP 162 38 lv [.int v2, .ref (spl 54 v1.1 v1.2), .ref (spl 33 0 0)] μ Q)
      refine jX.ic (v := nI 0) (n := 1) (by rfl) (by rfl) (by decide) (?_ : jX G jP 162 39 lv [.int (nI 0), .int v2, .ref (spl 54 v1.1 v1.2), .ref (spl 33 0 0)] μ Q)
      obtain ⟨q4, e4, h⟩ := sbd h
      refine jX.cv (by rfl) (by rfl) (by rfl) (by rfl) (by rfl) (by rfl) (by rfl) (R.rec (by rfl) (by rfl)) (Nat.le_of_ble_eq_true rfl) (Nat.le_of_ble_eq_true rfl) (F_142_ok R e4 (fun μ R => ⟨rfl, (?_ : jX G jP 162 42 lv [] μ Q)⟩))
      refine jX.lrn l0 (by rfl) (by rfl) (?_ : jX G jP 162 43 lv [.ref (spl 33 0 0)] μ Q)
      refine jX.lrn l1 (by rfl) (by rfl) (?_ : jX G jP 162 44 lv [.ref (spl 54 v1.1 v1.2), .ref (spl 33 0 0)] μ Q)
      refine jX.lin l3 (by rfl) (by rfl) (?_ : jX G jP 162 45 lv [.int (S.1 37 0 0 v2.toNatClampNeg), .ref (spl 54 v1.1 v1.2), .ref (spl 33 0 0)] μ Q)
      obtain ⟨q5, e5, h⟩ := sbd h
      refine jX.cv (by rfl) (by rfl) (by rfl) (by rfl) (by rfl) (by rfl) (by rfl) (R.rec (by rfl) (by rfl)) (Nat.le_of_ble_eq_true rfl) (Nat.le_of_ble_eq_true rfl) (F_161_ok R e5 (fun μ R => ⟨rfl, (?_ : jX G jP 162 48 lv [] μ Q)⟩))
      exact jX.ret (by rfl) (by rfl) (by rfl) (by rfl) (sretv (f := srV) h K R)
    · refine jX.b2f hc (by rfl) (by rfl) (by rfl) (?_ : jX G jP 162 26 lv [] μ Q)
      refine jX.lrn l0 (by rfl) (by rfl) (?_ : jX G jP 162 27 lv [.ref (spl 33 0 0)] μ Q)
      refine jX.lrn l1 (by rfl) (by rfl) (?_ : jX G jP 162 28 lv [.ref (spl 54 v1.1 v1.2), .ref (spl 33 0 0)] μ Q)
      refine jX.go (by rfl) (by rfl) (by rfl) (?_ : jX G jP 162 31 lv [.long (-3), .ref (spl 54 v1.1 v1.2), .ref (spl 33 0 0)] μ Q)
      obtain ⟨q6, e6, h⟩ := sbd h
      refine jX.cv (by rfl) (by rfl) (by rfl) (by rfl) (by rfl) (by rfl) (by rfl) (R.rec (by rfl) (by rfl)) (Nat.le_of_ble_eq_true rfl) (Nat.le_of_ble_eq_true rfl) (F_155_ok R e6 (fun μ R => ⟨rfl, (?_ : jX G jP 162 34 lv [] μ Q)⟩))
      exact jX.ret (by rfl) (by rfl) (by rfl) (by rfl) (sretv (f := srV) h K R)
  · refine jX.b1f hc (by rfl) (by rfl) (by rfl) (?_ : jX G jP 162 16 lv [] μ Q)
    exact jX.ret (by rfl) (by rfl) (by rfl) (by rfl) (sretv (f := srV) h K R)
/-! 163 StrandRuntimeModel.ready(I)V -/
def F_163 (G : jG) (t : Nat) (v1 : Int32) (S : sS) : Option (Unit × sS) := jif (jin v1 16) (jif (sex S.2.2.2.1 54 v1.toNatClampNeg 0) (jif (jin ((siI S 54 v1.toNatClampNeg 0 0 (nI 1)).1 33 0 0 15) 17) (some ((), (siI (siI (siI S 54 v1.toNatClampNeg 0 0 (nI 1)) 45 0 0 ((siI S 54 v1.toNatClampNeg 0 0 (nI 1)).1 33 0 0 15).toNatClampNeg v1) 33 0 0 15 (((siI (siI S 54 v1.toNatClampNeg 0 0 (nI 1)) 45 0 0 ((siI S 54 v1.toNatClampNeg 0 0 (nI 1)).1 33 0 0 15).toNatClampNeg v1).1 33 0 0 15) + (nI 1)))))))
theorem F_163_ok {G : jG} {t : Nat} {v1 : Int32} {S : sS} {r : Unit} {S' : sS} {μ : jS} {Q : Option Value ⊕ Nat → jS → Prop} (R : sR S μ) (h : F_163 G t v1 S = some (r, S')) (K : ∀ μ', sR S' μ' → Q (srV r) μ') : jX G jP 163 0 (lv_args 0 [.ref (spl 33 0 0), .int v1]) [] μ Q := by
  unfold F_163 at h
  have l0 : jld (lv_args 0 [.ref (spl 33 0 0), .int v1]) 0 = some (.ref (spl 33 0 0)) := by rfl
  have l1 : jld (lv_args 0 [.ref (spl 33 0 0), .int v1]) 1 = some (.int v1) := by rfl
  generalize lv_args 0 [.ref (spl 33 0 0), .int v1] = lv at *
  refine jX.lrn l0 (by rfl) (by rfl) (?_ : jX G jP 163 1 lv [.ref (spl 33 0 0)] μ Q)
  refine jX.sg R (by rfl) (by rfl) (by rfl) (by rfl) (by rfl) (by rfl) (?_ : jX G jP 163 4 lv [.ref (spl 35 0 0)] μ Q)
  refine jX.lin l1 (by rfl) (by rfl) (?_ : jX G jP 163 5 lv [.int v1, .ref (spl 35 0 0)] μ Q)
  obtain ⟨g1, h⟩ := jif_some h
  refine jX.sar (f := fun q => bif Nat.blt q 16 then some (spl 54 q 0) else none) R (by rfl) (by rfl) (by rfl) (by rfl) g1 (srf_in g1) (?_ : jX G jP 163 6 lv [.ref (spl 54 v1.toNatClampNeg 0)] μ Q)
  refine jX.ic (v := nI 1) (n := 1) (by rfl) (by rfl) (by decide) (?_ : jX G jP 163 7 lv [.int (nI 1), .ref (spl 54 v1.toNatClampNeg 0)] μ Q)
  obtain ⟨g2, h⟩ := jif_some h
  refine jX.spI R g2 (by rfl) (by rfl) (by rfl) (by rfl) (by rfl) (by rfl) (by rfl) (by rfl) (fun μ R => (?_ : jX G jP 163 10 lv [] μ Q))
  refine jX.lrn l0 (by rfl) (by rfl) (?_ : jX G jP 163 11 lv [.ref (spl 33 0 0)] μ Q)
  refine jX.sg R (by rfl) (by rfl) (by rfl) (by rfl) (by rfl) (by rfl) (?_ : jX G jP 163 14 lv [.ref (spl 45 0 0)] μ Q)
  refine jX.lrn l0 (by rfl) (by rfl) (?_ : jX G jP 163 15 lv [.ref (spl 33 0 0), .ref (spl 45 0 0)] μ Q)
  refine jX.sg R (by rfl) (by rfl) (by rfl) (by rfl) (by rfl) (by rfl) (?_ : jX G jP 163 18 lv [.int ((siI S 54 v1.toNatClampNeg 0 0 (nI 1)).1 33 0 0 15), .ref (spl 45 0 0)] μ Q)
  refine jX.lin l1 (by rfl) (by rfl) (?_ : jX G jP 163 19 lv [.int v1, .int ((siI S 54 v1.toNatClampNeg 0 0 (nI 1)).1 33 0 0 15), .ref (spl 45 0 0)] μ Q)
  obtain ⟨g3, h⟩ := jif_some h
  refine jX.sti R (by rfl) (by rfl) (by rfl) (fun _ => by rfl) g3 (fun μ R => (?_ : jX G jP 163 20 lv [] μ Q))
  refine jX.lrn l0 (by rfl) (by rfl) (?_ : jX G jP 163 21 lv [.ref (spl 33 0 0)] μ Q)
  refine jX.go (by rfl) (by rfl) (by rfl) (?_ : jX G jP 163 22 lv [.ref (spl 33 0 0), .ref (spl 33 0 0)] μ Q)
  refine jX.sg R (by rfl) (by rfl) (by rfl) (by rfl) (by rfl) (by rfl) (?_ : jX G jP 163 25 lv [.int ((siI (siI S 54 v1.toNatClampNeg 0 0 (nI 1)) 45 0 0 ((siI S 54 v1.toNatClampNeg 0 0 (nI 1)).1 33 0 0 15).toNatClampNeg v1).1 33 0 0 15), .ref (spl 33 0 0)] μ Q)
  refine jX.ic (v := nI 1) (n := 1) (by rfl) (by rfl) (by decide) (?_ : jX G jP 163 26 lv [.int (nI 1), .int ((siI (siI S 54 v1.toNatClampNeg 0 0 (nI 1)) 45 0 0 ((siI S 54 v1.toNatClampNeg 0 0 (nI 1)).1 33 0 0 15).toNatClampNeg v1).1 33 0 0 15), .ref (spl 33 0 0)] μ Q)
  refine jX.go (by rfl) (by rfl) (by rfl) (?_ : jX G jP 163 27 lv [.int (((siI (siI S 54 v1.toNatClampNeg 0 0 (nI 1)) 45 0 0 ((siI S 54 v1.toNatClampNeg 0 0 (nI 1)).1 33 0 0 15).toNatClampNeg v1).1 33 0 0 15) + (nI 1)), .ref (spl 33 0 0)] μ Q)
  refine jX.spI R (by rfl) (by rfl) (by rfl) (by rfl) (by rfl) (by rfl) (by rfl) (by rfl) (by rfl) (fun μ R => (?_ : jX G jP 163 30 lv [] μ Q))
  exact jX.ret (by rfl) (by rfl) (by rfl) (by rfl) (sretv (f := srV) h K R)
/-! 164 StrandRuntimeModel.strand(LStrandRuntimeModel$Strand;I)V -/
def F_164_60 (G : jG) (t : Nat) (v1 : (Nat × Nat)) (v2 : Int32) (v3 : Int32) (v4 : Int32) (S : sS) : Option (Unit × sS) := bif jcmp .ne v4 (nI 16) then (jif (jin v4 16) (jif (sex S.2.2.2.1 54 v4.toNatClampNeg 0) (jif (jin v4 16) (jif (jin v4 16) ((F_142 G t (v4.toNatClampNeg, 0) v2 (nI 0) (siI (siI S 54 v4.toNatClampNeg 0 1 (nI 0)) 54 v4.toNatClampNeg 0 2 (nI 0))).bind (fun q5 => jif (jin v4 16) ((F_161 G t (v4.toNatClampNeg, 0) v3 q5.2).bind (fun q7 => (F_163 G t v4 (siI q7.2 33 0 0 22 ((q7.2.1 33 0 0 22) + (nI 1)))).bind (fun q8 => some ((), q8.2)))))))))) else ((F_155 G t v1 (-3) S).bind (fun q9 => some ((), q9.2)))
theorem F_164_60_ok {G : jG} {t : Nat} {r : Unit} {S' : sS} {Q : Option Value ⊕ Nat → jS → Prop} (K : ∀ μ', sR S' μ' → Q (srV r) μ') : ∀ (v1 : (Nat × Nat)) (v2 : Int32) (v3 : Int32) (v4 : Int32) (S : sS) (lv : jL) (μ : jS), jld lv 0 = some (.ref (spl 33 0 0)) → jld lv 1 = some (.ref (spl 54 v1.1 v1.2)) → jld lv 2 = some (.int v2) → jld lv 3 = some (.int v3) → jld lv 4 = some (.int v4) → sR S μ → F_164_60 G t v1 v2 v3 v4 S = some (r, S') → jX G jP 164 60 lv [] μ Q := by
  intro v1 v2 v3 v4 S lv μ l0 l1 l2 l3 l4 R h
  unfold F_164_60 at h
  refine jX.li l4 (by rfl) (by rfl) (?_ : jX G jP 164 62 lv [.int v4] μ Q)
  refine jX.ic (v := nI 16) (n := 2) (by rfl) (by rfl) (by decide) (?_ : jX G jP 164 64 lv [.int (nI 16), .int v4] μ Q)
  rcases bif_or h with ⟨hc, h⟩ | ⟨hc, h⟩
  · refine jX.b2t hc (by rfl) (by rfl) (by rfl) (?_ : jX G jP 164 76 lv [] μ Q)
    refine jX.lrn l0 (by rfl) (by rfl) (?_ : jX G jP 164 77 lv [.ref (spl 33 0 0)] μ Q)
    refine jX.sg R (by rfl) (by rfl) (by rfl) (by rfl) (by rfl) (by rfl) (?_ : jX G jP 164 80 lv [.ref (spl 35 0 0)] μ Q)
    refine jX.li l4 (by rfl) (by rfl) (?_ : jX G jP 164 82 lv [.int v4, .ref (spl 35 0 0)] μ Q)
    obtain ⟨g1, h⟩ := jif_some h
    refine jX.sar (f := fun q => bif Nat.blt q 16 then some (spl 54 q 0) else none) R (by rfl) (by rfl) (by rfl) (by rfl) g1 (srf_in g1) (?_ : jX G jP 164 83 lv [.ref (spl 54 v4.toNatClampNeg 0)] μ Q)
    refine jX.ic (v := nI 0) (n := 1) (by rfl) (by rfl) (by decide) (?_ : jX G jP 164 84 lv [.int (nI 0), .ref (spl 54 v4.toNatClampNeg 0)] μ Q)
    obtain ⟨g2, h⟩ := jif_some h
    refine jX.spI R g2 (by rfl) (by rfl) (by rfl) (by rfl) (by rfl) (by rfl) (by rfl) (by rfl) (fun μ R => (?_ : jX G jP 164 87 lv [] μ Q))
    refine jX.lrn l0 (by rfl) (by rfl) (?_ : jX G jP 164 88 lv [.ref (spl 33 0 0)] μ Q)
    refine jX.sg R (by rfl) (by rfl) (by rfl) (by rfl) (by rfl) (by rfl) (?_ : jX G jP 164 91 lv [.ref (spl 35 0 0)] μ Q)
    refine jX.li l4 (by rfl) (by rfl) (?_ : jX G jP 164 93 lv [.int v4, .ref (spl 35 0 0)] μ Q)
    obtain ⟨g3, h⟩ := jif_some h
    refine jX.sar (f := fun q => bif Nat.blt q 16 then some (spl 54 q 0) else none) R (by rfl) (by rfl) (by rfl) (by rfl) g3 (srf_in g3) (?_ : jX G jP 164 94 lv [.ref (spl 54 v4.toNatClampNeg 0)] μ Q)
    refine jX.ic (v := nI 0) (n := 1) (by rfl) (by rfl) (by decide) (?_ : jX G jP 164 95 lv [.int (nI 0), .ref (spl 54 v4.toNatClampNeg 0)] μ Q)
    refine jX.spI R g2 (by rfl) (by rfl) (by rfl) (by rfl) (by rfl) (by rfl) (by rfl) (by rfl) (fun μ R => (?_ : jX G jP 164 98 lv [] μ Q))
    refine jX.lrn l0 (by rfl) (by rfl) (?_ : jX G jP 164 99 lv [.ref (spl 33 0 0)] μ Q)
    refine jX.lrn l0 (by rfl) (by rfl) (?_ : jX G jP 164 100 lv [.ref (spl 33 0 0), .ref (spl 33 0 0)] μ Q)
    refine jX.sg R (by rfl) (by rfl) (by rfl) (by rfl) (by rfl) (by rfl) (?_ : jX G jP 164 103 lv [.ref (spl 35 0 0), .ref (spl 33 0 0)] μ Q)
    refine jX.li l4 (by rfl) (by rfl) (?_ : jX G jP 164 105 lv [.int v4, .ref (spl 35 0 0), .ref (spl 33 0 0)] μ Q)
    obtain ⟨g4, h⟩ := jif_some h
    refine jX.sar (f := fun q => bif Nat.blt q 16 then some (spl 54 q 0) else none) R (by rfl) (by rfl) (by rfl) (by rfl) g4 (srf_in g4) (?_ : jX G jP 164 106 lv [.ref (spl 54 v4.toNatClampNeg 0), .ref (spl 33 0 0)] μ Q)
    refine jX.lin l2 (by rfl) (by rfl) (?_ : jX G jP 164 107 lv [.int v2, .ref (spl 54 v4.toNatClampNeg 0), .ref (spl 33 0 0)] μ Q)
    refine jX.ic (v := nI 0) (n := 1) (by rfl) (by rfl) (by decide) (?_ : jX G jP 164 108 lv [.int (nI 0), .int v2, .ref (spl 54 v4.toNatClampNeg 0), .ref (spl 33 0 0)] μ Q)
    obtain ⟨q5, e5, h⟩ := sbd h
    refine jX.cv (by rfl) (by rfl) (by rfl) (by rfl) (by rfl) (by rfl) (by rfl) (R.rec (by rfl) (by rfl)) (Nat.le_of_ble_eq_true rfl) (Nat.le_of_ble_eq_true rfl) (F_142_ok R e5 (fun μ R => ⟨rfl, (?_ : jX G jP 164 111 lv [] μ Q)⟩))
    refine jX.lrn l0 (by rfl) (by rfl) (?_ : jX G jP 164 112 lv [.ref (spl 33 0 0)] μ Q)
    refine jX.lrn l0 (by rfl) (by rfl) (?_ : jX G jP 164 113 lv [.ref (spl 33 0 0), .ref (spl 33 0 0)] μ Q)
    refine jX.sg R (by rfl) (by rfl) (by rfl) (by rfl) (by rfl) (by rfl) (?_ : jX G jP 164 116 lv [.ref (spl 35 0 0), .ref (spl 33 0 0)] μ Q)
    refine jX.li l4 (by rfl) (by rfl) (?_ : jX G jP 164 118 lv [.int v4, .ref (spl 35 0 0), .ref (spl 33 0 0)] μ Q)
    obtain ⟨g6, h⟩ := jif_some h
    refine jX.sar (f := fun q => bif Nat.blt q 16 then some (spl 54 q 0) else none) R (by rfl) (by rfl) (by rfl) (by rfl) g6 (srf_in g6) (?_ : jX G jP 164 119 lv [.ref (spl 54 v4.toNatClampNeg 0), .ref (spl 33 0 0)] μ Q)
    refine jX.lin l3 (by rfl) (by rfl) (?_ : jX G jP 164 120 lv [.int v3, .ref (spl 54 v4.toNatClampNeg 0), .ref (spl 33 0 0)] μ Q)
    obtain ⟨q7, e7, h⟩ := sbd h
    refine jX.cv (by rfl) (by rfl) (by rfl) (by rfl) (by rfl) (by rfl) (by rfl) (R.rec (by rfl) (by rfl)) (Nat.le_of_ble_eq_true rfl) (Nat.le_of_ble_eq_true rfl) (F_161_ok R e7 (fun μ R => ⟨rfl, (?_ : jX G jP 164 123 lv [] μ Q)⟩))
    refine jX.lrn l0 (by rfl) (by rfl) (?_ : jX G jP 164 124 lv [.ref (spl 33 0 0)] μ Q)
    refine jX.go (by rfl) (by rfl) (by rfl) (?_ : jX G jP 164 125 lv [.ref (spl 33 0 0), .ref (spl 33 0 0)] μ Q)
    refine jX.sg R (by rfl) (by rfl) (by rfl) (by rfl) (by rfl) (by rfl) (?_ : jX G jP 164 128 lv [.int (q7.2.1 33 0 0 22), .ref (spl 33 0 0)] μ Q)
    refine jX.ic (v := nI 1) (n := 1) (by rfl) (by rfl) (by decide) (?_ : jX G jP 164 129 lv [.int (nI 1), .int (q7.2.1 33 0 0 22), .ref (spl 33 0 0)] μ Q)
    refine jX.go (by rfl) (by rfl) (by rfl) (?_ : jX G jP 164 130 lv [.int ((q7.2.1 33 0 0 22) + (nI 1)), .ref (spl 33 0 0)] μ Q)
    refine jX.spI R (by rfl) (by rfl) (by rfl) (by rfl) (by rfl) (by rfl) (by rfl) (by rfl) (by rfl) (fun μ R => (?_ : jX G jP 164 133 lv [] μ Q))
    refine jX.lrn l0 (by rfl) (by rfl) (?_ : jX G jP 164 134 lv [.ref (spl 33 0 0)] μ Q)
    refine jX.li l4 (by rfl) (by rfl) (?_ : jX G jP 164 136 lv [.int v4, .ref (spl 33 0 0)] μ Q)
    obtain ⟨q8, e8, h⟩ := sbd h
    refine jX.cv (by rfl) (by rfl) (by rfl) (by rfl) (by rfl) (by rfl) (by rfl) (R.rec (by rfl) (by rfl)) (Nat.le_of_ble_eq_true rfl) (Nat.le_of_ble_eq_true rfl) (F_163_ok R e8 (fun μ R => ⟨rfl, (?_ : jX G jP 164 139 lv [] μ Q)⟩))
    exact jX.ret (by rfl) (by rfl) (by rfl) (by rfl) (sretv (f := srV) h K R)
  · refine jX.b2f hc (by rfl) (by rfl) (by rfl) (?_ : jX G jP 164 67 lv [] μ Q)
    refine jX.lrn l0 (by rfl) (by rfl) (?_ : jX G jP 164 68 lv [.ref (spl 33 0 0)] μ Q)
    refine jX.lrn l1 (by rfl) (by rfl) (?_ : jX G jP 164 69 lv [.ref (spl 54 v1.1 v1.2), .ref (spl 33 0 0)] μ Q)
    refine jX.go (by rfl) (by rfl) (by rfl) (?_ : jX G jP 164 72 lv [.long (-3), .ref (spl 54 v1.1 v1.2), .ref (spl 33 0 0)] μ Q)
    obtain ⟨q9, e9, h⟩ := sbd h
    refine jX.cv (by rfl) (by rfl) (by rfl) (by rfl) (by rfl) (by rfl) (by rfl) (R.rec (by rfl) (by rfl)) (Nat.le_of_ble_eq_true rfl) (Nat.le_of_ble_eq_true rfl) (F_155_ok R e9 (fun μ R => ⟨rfl, (?_ : jX G jP 164 75 lv [] μ Q)⟩))
    exact jX.ret (by rfl) (by rfl) (by rfl) (by rfl) (sretv (f := srV) h K R)
def F_164_20 (G : jG) (t : Nat) : Nat → (Nat × Nat) → Int32 → Int32 → Int32 → sS → Option (Unit × sS)
  | 0 => fun _ _ _ _ _ => none
  | tt + 1 => fun v1 v2 v3 v4 S => bif jcmp .ge v4 (nI 16) then (F_164_60 G t v1 v2 v3 v4 S) else (jif (jin v4 16) (jif (sex S.2.2.2.1 54 v4.toNatClampNeg 0) (bif jcmp .le (S.1 54 v4.toNatClampNeg 0 0) 0 then (F_164_60 G t v1 v2 v3 v4 S) else (jif (jin v4 16) (bif jcmp .ge (S.1 54 v4.toNatClampNeg 0 0) (nI 5) then (F_164_60 G t v1 v2 v3 v4 S) else (F_164_20 G t tt v1 v2 v3 (v4 + Int32.ofInt 1) S))))))
theorem F_164_20_ok {G : jG} {t : Nat} {r : Unit} {S' : sS} {Q : Option Value ⊕ Nat → jS → Prop} (K : ∀ μ', sR S' μ' → Q (srV r) μ') : ∀ tt : Nat, ∀ (v1 : (Nat × Nat)) (v2 : Int32) (v3 : Int32) (v4 : Int32) (S : sS) (lv : jL) (μ : jS), jld lv 0 = some (.ref (spl 33 0 0)) → jld lv 1 = some (.ref (spl 54 v1.1 v1.2)) → jld lv 2 = some (.int v2) → jld lv 3 = some (.int v3) → jld lv 4 = some (.int v4) → sR S μ → F_164_20 G t tt v1 v2 v3 v4 S = some (r, S') → jX G jP 164 20 lv [] μ Q := by
  intro tt
  induction tt with
  | zero =>
    intro v1 v2 v3 v4 S lv μ l0 l1 l2 l3 l4 R h
    rw [F_164_20] at h
    cases h
  | succ tt ih =>
    intro v1 v2 v3 v4 S lv μ l0 l1 l2 l3 l4 R h
    rw [F_164_20] at h
    refine jX.li l4 (by rfl) (by rfl) (?_ : jX G jP 164 22 lv [.int v4] μ Q)
    refine jX.ic (v := nI 16) (n := 2) (by rfl) (by rfl) (by decide) (?_ : jX G jP 164 24 lv [.int (nI 16), .int v4] μ Q)
    rcases bif_or h with ⟨hc, h⟩ | ⟨hc, h⟩
    · refine jX.b2t hc (by rfl) (by rfl) (by rfl) (?_ : jX G jP 164 60 lv [] μ Q)
      exact F_164_60_ok  K v1 v2 v3 v4 _ _ _ l0 l1 l2 l3 l4 R h
    · refine jX.b2f hc (by rfl) (by rfl) (by rfl) (?_ : jX G jP 164 27 lv [] μ Q)
      refine jX.lrn l0 (by rfl) (by rfl) (?_ : jX G jP 164 28 lv [.ref (spl 33 0 0)] μ Q)
      refine jX.sg R (by rfl) (by rfl) (by rfl) (by rfl) (by rfl) (by rfl) (?_ : jX G jP 164 31 lv [.ref (spl 35 0 0)] μ Q)
      refine jX.li l4 (by rfl) (by rfl) (?_ : jX G jP 164 33 lv [.int v4, .ref (spl 35 0 0)] μ Q)
      obtain ⟨g1, h⟩ := jif_some h
      refine jX.sar (f := fun q => bif Nat.blt q 16 then some (spl 54 q 0) else none) R (by rfl) (by rfl) (by rfl) (by rfl) g1 (srf_in g1) (?_ : jX G jP 164 34 lv [.ref (spl 54 v4.toNatClampNeg 0)] μ Q)
      obtain ⟨g2, h⟩ := jif_some h
      refine jX.sg R g2 (by rfl) (by rfl) (by rfl) (by rfl) (by rfl) (?_ : jX G jP 164 37 lv [.int (S.1 54 v4.toNatClampNeg 0 0)] μ Q)
      rcases bif_or h with ⟨hc, h⟩ | ⟨hc, h⟩
      · refine jX.b1t hc (by rfl) (by rfl) (by rfl) (?_ : jX G jP 164 60 lv [] μ Q)
        exact F_164_60_ok  K v1 v2 v3 v4 _ _ _ l0 l1 l2 l3 l4 R h
      · refine jX.b1f hc (by rfl) (by rfl) (by rfl) (?_ : jX G jP 164 40 lv [] μ Q)
        refine jX.lrn l0 (by rfl) (by rfl) (?_ : jX G jP 164 41 lv [.ref (spl 33 0 0)] μ Q)
        refine jX.sg R (by rfl) (by rfl) (by rfl) (by rfl) (by rfl) (by rfl) (?_ : jX G jP 164 44 lv [.ref (spl 35 0 0)] μ Q)
        refine jX.li l4 (by rfl) (by rfl) (?_ : jX G jP 164 46 lv [.int v4, .ref (spl 35 0 0)] μ Q)
        obtain ⟨g3, h⟩ := jif_some h
        refine jX.sar (f := fun q => bif Nat.blt q 16 then some (spl 54 q 0) else none) R (by rfl) (by rfl) (by rfl) (by rfl) g3 (srf_in g3) (?_ : jX G jP 164 47 lv [.ref (spl 54 v4.toNatClampNeg 0)] μ Q)
        refine jX.sg R g2 (by rfl) (by rfl) (by rfl) (by rfl) (by rfl) (?_ : jX G jP 164 50 lv [.int (S.1 54 v4.toNatClampNeg 0 0)] μ Q)
        refine jX.ic (v := nI 5) (n := 1) (by rfl) (by rfl) (by decide) (?_ : jX G jP 164 51 lv [.int (nI 5), .int (S.1 54 v4.toNatClampNeg 0 0)] μ Q)
        rcases bif_or h with ⟨hc, h⟩ | ⟨hc, h⟩
        · refine jX.b2t hc (by rfl) (by rfl) (by rfl) (?_ : jX G jP 164 60 lv [] μ Q)
          exact F_164_60_ok  K v1 v2 v3 v4 _ _ _ l0 l1 l2 l3 l4 R h
        · refine jX.b2f hc (by rfl) (by rfl) (by rfl) (?_ : jX G jP 164 54 lv [] μ Q)
          refine jX.inc l4 (by rfl) (by rfl) (by rfl) (fun lv l4 kp => (?_ : jX G jP 164 57 lv [] μ Q))
          replace l0 := kp 0 _ l0 (by rfl) (by first | rfl | simp [soR_cat])
          replace l1 := kp 1 _ l1 (by rfl) (by first | rfl | simp [soR_cat])
          replace l2 := kp 2 _ l2 (by rfl) (by first | rfl | simp [soR_cat])
          replace l3 := kp 3 _ l3 (by rfl) (by first | rfl | simp [soR_cat])
          refine jX.go (by rfl) (by rfl) (by rfl) (?_ : jX G jP 164 20 lv [] μ Q)
          exact ih v1 v2 v3 (v4 + Int32.ofInt 1) _ _ _ l0 l1 l2 l3 l4 R h
def F_164 (G : jG) (t : Nat) (v1 : (Nat × Nat)) (v2 : Int32) (S : sS) : Option (Unit × sS) := jif (jin v2 32) ((F_156 G t v1 (S.1 37 0 0 v2.toNatClampNeg) S).bind (fun q2 => bif jcmp .ne q2.1 0 then (F_164_20 G t t v1 v2 (S.1 37 0 0 v2.toNatClampNeg) (nI 0) q2.2) else (some ((), q2.2))))
theorem F_164_ok {G : jG} {t : Nat} {v1 : (Nat × Nat)} {v2 : Int32} {S : sS} {r : Unit} {S' : sS} {μ : jS} {Q : Option Value ⊕ Nat → jS → Prop} (R : sR S μ) (h : F_164 G t v1 v2 S = some (r, S')) (K : ∀ μ', sR S' μ' → Q (srV r) μ') : jX G jP 164 0 (lv_args 0 [.ref (spl 33 0 0), .ref (spl 54 v1.1 v1.2), .int v2]) [] μ Q := by
  unfold F_164 at h
  have l0 : jld (lv_args 0 [.ref (spl 33 0 0), .ref (spl 54 v1.1 v1.2), .int v2]) 0 = some (.ref (spl 33 0 0)) := by rfl
  have l1 : jld (lv_args 0 [.ref (spl 33 0 0), .ref (spl 54 v1.1 v1.2), .int v2]) 1 = some (.ref (spl 54 v1.1 v1.2)) := by rfl
  have l2 : jld (lv_args 0 [.ref (spl 33 0 0), .ref (spl 54 v1.1 v1.2), .int v2]) 2 = some (.int v2) := by rfl
  generalize lv_args 0 [.ref (spl 33 0 0), .ref (spl 54 v1.1 v1.2), .int v2] = lv at *
  refine jX.lrn l0 (by rfl) (by rfl) (?_ : jX G jP 164 1 lv [.ref (spl 33 0 0)] μ Q)
  refine jX.sg R (by rfl) (by rfl) (by rfl) (by rfl) (by rfl) (by rfl) (?_ : jX G jP 164 4 lv [.ref (spl 37 0 0)] μ Q)
  refine jX.lin l2 (by rfl) (by rfl) (?_ : jX G jP 164 5 lv [.int v2, .ref (spl 37 0 0)] μ Q)
  obtain ⟨g1, h⟩ := jif_some h
  refine jX.sai R (by rfl) (by rfl) (by rfl) (by rfl) g1 (?_ : jX G jP 164 6 lv [.int (S.1 37 0 0 v2.toNatClampNeg)] μ Q)
  refine jX.s1 (k := 3) (pc' := 7) (by rfl) (by rfl) (by rfl) (fun lv l3 kp => (?_ : jX G jP 164 7 lv [] μ Q))
  replace l0 := kp 0 _ l0 (by rfl) (by first | rfl | simp [soR_cat])
  replace l1 := kp 1 _ l1 (by rfl) (by first | rfl | simp [soR_cat])
  replace l2 := kp 2 _ l2 (by rfl) (by first | rfl | simp [soR_cat])
  refine jX.ic (v := nI 0) (n := 1) (by rfl) (by rfl) (by decide) (?_ : jX G jP 164 8 lv [.int (nI 0)] μ Q)
  refine jX.s1 (k := 4) (pc' := 10) (by rfl) (by rfl) (by rfl) (fun lv l4 kp => (?_ : jX G jP 164 10 lv [] μ Q))
  replace l0 := kp 0 _ l0 (by rfl) (by first | rfl | simp [soR_cat])
  replace l1 := kp 1 _ l1 (by rfl) (by first | rfl | simp [soR_cat])
  replace l2 := kp 2 _ l2 (by rfl) (by first | rfl | simp [soR_cat])
  replace l3 := kp 3 _ l3 (by rfl) (by first | rfl | simp [soR_cat])
  refine jX.lrn l0 (by rfl) (by rfl) (?_ : jX G jP 164 11 lv [.ref (spl 33 0 0)] μ Q)
  refine jX.lrn l1 (by rfl) (by rfl) (?_ : jX G jP 164 12 lv [.ref (spl 54 v1.1 v1.2), .ref (spl 33 0 0)] μ Q)
  refine jX.lin l3 (by rfl) (by rfl) (?_ : jX G jP 164 13 lv [.int (S.1 37 0 0 v2.toNatClampNeg), .ref (spl 54 v1.1 v1.2), .ref (spl 33 0 0)] μ Q)
  obtain ⟨q2, e2, h⟩ := sbd h
  refine jX.c1 (v := .int q2.1) (by rfl) (by rfl) (by rfl) (by rfl) (by rfl) (by rfl) (by rfl) (R.rec (by rfl) (by rfl)) (Nat.le_of_ble_eq_true rfl) (Nat.le_of_ble_eq_true rfl) (F_156_ok R e2 (fun μ R => ⟨rfl, (?_ : jX G jP 164 16 lv [.int q2.1] μ Q)⟩))
  rcases bif_or h with ⟨hc, h⟩ | ⟨hc, h⟩
  · refine jX.b1t hc (by rfl) (by rfl) (by rfl) (?_ : jX G jP 164 20 lv [] μ Q)
    exact F_164_20_ok  K _ v1 v2 (S.1 37 0 0 v2.toNatClampNeg) (nI 0) _ _ _ l0 l1 l2 l3 l4 R h
  · refine jX.b1f hc (by rfl) (by rfl) (by rfl) (?_ : jX G jP 164 19 lv [] μ Q)
    exact jX.ret (by rfl) (by rfl) (by rfl) (by rfl) (sretv (f := srV) h K R)
/-! 165 StrandRuntimeModel$Thing.cells()I -/
def F_165 (G : jG) (t : Nat) (v0 : (Nat × Nat)) (S : sS) : Option (Int32 × sS) := jif (sex S.2.2.2.1 51 v0.1 v0.2) (bif jcmp .ne (S.1 51 v0.1 v0.2 0) (nI 2) then (some (((nI 3) + (S.1 51 v0.1 v0.2 1)), S)) else (some (((nI 2) + (S.1 51 v0.1 v0.2 1)), S)))
theorem F_165_ok {G : jG} {t : Nat} {v0 : (Nat × Nat)} {S : sS} {r : Int32} {S' : sS} {μ : jS} {Q : Option Value ⊕ Nat → jS → Prop} (R : sR S μ) (h : F_165 G t v0 S = some (r, S')) (K : ∀ μ', sR S' μ' → Q (srI r) μ') : jX G jP 165 0 (lv_args 0 [.ref (spl 51 v0.1 v0.2)]) [] μ Q := by
  unfold F_165 at h
  have l0 : jld (lv_args 0 [.ref (spl 51 v0.1 v0.2)]) 0 = some (.ref (spl 51 v0.1 v0.2)) := by rfl
  generalize lv_args 0 [.ref (spl 51 v0.1 v0.2)] = lv at *
  refine jX.lrn l0 (by rfl) (by rfl) (?_ : jX G jP 165 1 lv [.ref (spl 51 v0.1 v0.2)] μ Q)
  obtain ⟨g1, h⟩ := jif_some h
  refine jX.sg R g1 (by rfl) (by rfl) (by rfl) (by rfl) (by rfl) (?_ : jX G jP 165 4 lv [.int (S.1 51 v0.1 v0.2 0)] μ Q)
  refine jX.ic (v := nI 2) (n := 1) (by rfl) (by rfl) (by decide) (?_ : jX G jP 165 5 lv [.int (nI 2), .int (S.1 51 v0.1 v0.2 0)] μ Q)
  rcases bif_or h with ⟨hc, h⟩ | ⟨hc, h⟩
  · refine jX.b2t hc (by rfl) (by rfl) (by rfl) (?_ : jX G jP 165 17 lv [] μ Q)
    refine jX.ic (v := nI 3) (n := 1) (by rfl) (by rfl) (by decide) (?_ : jX G jP 165 18 lv [.int (nI 3)] μ Q)
    refine jX.lrn l0 (by rfl) (by rfl) (?_ : jX G jP 165 19 lv [.ref (spl 51 v0.1 v0.2), .int (nI 3)] μ Q)
    refine jX.sg R g1 (by rfl) (by rfl) (by rfl) (by rfl) (by rfl) (?_ : jX G jP 165 22 lv [.int (S.1 51 v0.1 v0.2 1), .int (nI 3)] μ Q)
    refine jX.go (by rfl) (by rfl) (by rfl) (?_ : jX G jP 165 23 lv [.int ((nI 3) + (S.1 51 v0.1 v0.2 1))] μ Q)
    exact jX.ret (by rfl) (by rfl) (by rfl) (by rfl) (sretv (f := srI) h K R)
  · refine jX.b2f hc (by rfl) (by rfl) (by rfl) (?_ : jX G jP 165 8 lv [] μ Q)
    refine jX.ic (v := nI 2) (n := 1) (by rfl) (by rfl) (by decide) (?_ : jX G jP 165 9 lv [.int (nI 2)] μ Q)
    refine jX.lrn l0 (by rfl) (by rfl) (?_ : jX G jP 165 10 lv [.ref (spl 51 v0.1 v0.2), .int (nI 2)] μ Q)
    refine jX.sg R g1 (by rfl) (by rfl) (by rfl) (by rfl) (by rfl) (?_ : jX G jP 165 13 lv [.int (S.1 51 v0.1 v0.2 1), .int (nI 2)] μ Q)
    refine jX.go (by rfl) (by rfl) (by rfl) (?_ : jX G jP 165 14 lv [.int ((nI 2) + (S.1 51 v0.1 v0.2 1))] μ Q)
    refine jX.go (by rfl) (by rfl) (by rfl) (?_ : jX G jP 165 23 lv [.int ((nI 2) + (S.1 51 v0.1 v0.2 1))] μ Q)
    exact jX.ret (by rfl) (by rfl) (by rfl) (by rfl) (sretv (f := srI) h K R)
/-! 166 StrandRuntimeModel.reach(IJ)V -/
def F_166 (G : jG) (t : Nat) (v1 : Int32) (v2 : Int64) (S : sS) : Option (Unit × sS) := bif jcmp .eq v1 (nI 2) then (jif (jin v2.toInt32 1300) (jif (sex S.2.2.2.1 51 v2.toInt32.toNatClampNeg 0) (bif jcmp .eq (S.1 51 v2.toInt32.toNatClampNeg 0 5) 0 then ((F_165 G t (v2.toInt32.toNatClampNeg, 0) (siI (siI S 51 v2.toInt32.toNatClampNeg 0 5 (nI 1)) 33 0 0 27 (((siI S 51 v2.toInt32.toNatClampNeg 0 5 (nI 1)).1 33 0 0 27) + (nI 1)))).bind (fun q3 => jif (jin ((siI q3.2 33 0 0 26 (((siI (siI S 51 v2.toInt32.toNatClampNeg 0 5 (nI 1)) 33 0 0 27 (((siI S 51 v2.toInt32.toNatClampNeg 0 5 (nI 1)).1 33 0 0 27) + (nI 1))).1 33 0 0 26) + q3.1)).1 33 0 0 30) 1300) (some ((), (siI (siI (siI q3.2 33 0 0 26 (((siI (siI S 51 v2.toInt32.toNatClampNeg 0 5 (nI 1)) 33 0 0 27 (((siI S 51 v2.toInt32.toNatClampNeg 0 5 (nI 1)).1 33 0 0 27) + (nI 1))).1 33 0 0 26) + q3.1)) 46 0 0 ((siI q3.2 33 0 0 26 (((siI (siI S 51 v2.toInt32.toNatClampNeg 0 5 (nI 1)) 33 0 0 27 (((siI S 51 v2.toInt32.toNatClampNeg 0 5 (nI 1)).1 33 0 0 27) + (nI 1))).1 33 0 0 26) + q3.1)).1 33 0 0 30).toNatClampNeg v2.toInt32) 33 0 0 30 (((siI (siI q3.2 33 0 0 26 (((siI (siI S 51 v2.toInt32.toNatClampNeg 0 5 (nI 1)) 33 0 0 27 (((siI S 51 v2.toInt32.toNatClampNeg 0 5 (nI 1)).1 33 0 0 27) + (nI 1))).1 33 0 0 26) + q3.1)) 46 0 0 ((siI q3.2 33 0 0 26 (((siI (siI S 51 v2.toInt32.toNatClampNeg 0 5 (nI 1)) 33 0 0 27 (((siI S 51 v2.toInt32.toNatClampNeg 0 5 (nI 1)).1 33 0 0 27) + (nI 1))).1 33 0 0 26) + q3.1)).1 33 0 0 30).toNatClampNeg v2.toInt32).1 33 0 0 30) + (nI 1))))))) else (some ((), S))))) else (some ((), S))
theorem F_166_ok {G : jG} {t : Nat} {v1 : Int32} {v2 : Int64} {S : sS} {r : Unit} {S' : sS} {μ : jS} {Q : Option Value ⊕ Nat → jS → Prop} (R : sR S μ) (h : F_166 G t v1 v2 S = some (r, S')) (K : ∀ μ', sR S' μ' → Q (srV r) μ') : jX G jP 166 0 (lv_args 0 [.ref (spl 33 0 0), .int v1, .long v2]) [] μ Q := by
  unfold F_166 at h
  have l0 : jld (lv_args 0 [.ref (spl 33 0 0), .int v1, .long v2]) 0 = some (.ref (spl 33 0 0)) := by rfl
  have l1 : jld (lv_args 0 [.ref (spl 33 0 0), .int v1, .long v2]) 1 = some (.int v1) := by rfl
  have l2 : jld (lv_args 0 [.ref (spl 33 0 0), .int v1, .long v2]) 2 = some (.long v2) := by rfl
  generalize lv_args 0 [.ref (spl 33 0 0), .int v1, .long v2] = lv at *
  refine jX.lin l1 (by rfl) (by rfl) (?_ : jX G jP 166 1 lv [.int v1] μ Q)
  refine jX.ic (v := nI 2) (n := 1) (by rfl) (by rfl) (by decide) (?_ : jX G jP 166 2 lv [.int (nI 2), .int v1] μ Q)
  rcases bif_or h with ⟨hc, h⟩ | ⟨hc, h⟩
  · refine jX.b2t hc (by rfl) (by rfl) (by rfl) (?_ : jX G jP 166 6 lv [] μ Q)
    refine jX.lrn l0 (by rfl) (by rfl) (?_ : jX G jP 166 7 lv [.ref (spl 33 0 0)] μ Q)
    refine jX.sg R (by rfl) (by rfl) (by rfl) (by rfl) (by rfl) (by rfl) (?_ : jX G jP 166 10 lv [.ref (spl 34 0 0)] μ Q)
    refine jX.lln l2 (by rfl) (by rfl) (?_ : jX G jP 166 11 lv [.long v2, .ref (spl 34 0 0)] μ Q)
    refine jX.go (by rfl) (by rfl) (by rfl) (?_ : jX G jP 166 12 lv [.int v2.toInt32, .ref (spl 34 0 0)] μ Q)
    obtain ⟨g1, h⟩ := jif_some h
    refine jX.sar (f := fun q => bif Nat.blt q 1300 then some (spl 51 q 0) else none) R (by rfl) (by rfl) (by rfl) (by rfl) g1 (srf_in g1) (?_ : jX G jP 166 13 lv [.ref (spl 51 v2.toInt32.toNatClampNeg 0)] μ Q)
    refine jX.s1 (k := 4) (pc' := 15) (by rfl) (by rfl) (by rfl) (fun lv l4 kp => (?_ : jX G jP 166 15 lv [] μ Q))
    replace l0 := kp 0 _ l0 (by rfl) (by first | rfl | simp [soR_cat])
    replace l2 := kp 2 _ l2 (by rfl) (by first | rfl | simp [soR_cat])
    refine jX.lr l4 (by rfl) (by rfl) (?_ : jX G jP 166 17 lv [.ref (spl 51 v2.toInt32.toNatClampNeg 0)] μ Q)
    obtain ⟨g2, h⟩ := jif_some h
    refine jX.sg R g2 (by rfl) (by rfl) (by rfl) (by rfl) (by rfl) (?_ : jX G jP 166 20 lv [.int (S.1 51 v2.toInt32.toNatClampNeg 0 5)] μ Q)
    rcases bif_or h with ⟨hc, h⟩ | ⟨hc, h⟩
    · refine jX.b1t hc (by rfl) (by rfl) (by rfl) (?_ : jX G jP 166 24 lv [] μ Q)
      refine jX.lr l4 (by rfl) (by rfl) (?_ : jX G jP 166 26 lv [.ref (spl 51 v2.toInt32.toNatClampNeg 0)] μ Q)
      refine jX.ic (v := nI 1) (n := 1) (by rfl) (by rfl) (by decide) (?_ : jX G jP 166 27 lv [.int (nI 1), .ref (spl 51 v2.toInt32.toNatClampNeg 0)] μ Q)
      refine jX.spI R g2 (by rfl) (by rfl) (by rfl) (by rfl) (by rfl) (by rfl) (by rfl) (by rfl) (fun μ R => (?_ : jX G jP 166 30 lv [] μ Q))
      refine jX.lrn l0 (by rfl) (by rfl) (?_ : jX G jP 166 31 lv [.ref (spl 33 0 0)] μ Q)
      refine jX.go (by rfl) (by rfl) (by rfl) (?_ : jX G jP 166 32 lv [.ref (spl 33 0 0), .ref (spl 33 0 0)] μ Q)
      refine jX.sg R (by rfl) (by rfl) (by rfl) (by rfl) (by rfl) (by rfl) (?_ : jX G jP 166 35 lv [.int ((siI S 51 v2.toInt32.toNatClampNeg 0 5 (nI 1)).1 33 0 0 27), .ref (spl 33 0 0)] μ Q)
      refine jX.ic (v := nI 1) (n := 1) (by rfl) (by rfl) (by decide) (?_ : jX G jP 166 36 lv [.int (nI 1), .int ((siI S 51 v2.toInt32.toNatClampNeg 0 5 (nI 1)).1 33 0 0 27), .ref (spl 33 0 0)] μ Q)
      refine jX.go (by rfl) (by rfl) (by rfl) (?_ : jX G jP 166 37 lv [.int (((siI S 51 v2.toInt32.toNatClampNeg 0 5 (nI 1)).1 33 0 0 27) + (nI 1)), .ref (spl 33 0 0)] μ Q)
      refine jX.spI R (by rfl) (by rfl) (by rfl) (by rfl) (by rfl) (by rfl) (by rfl) (by rfl) (by rfl) (fun μ R => (?_ : jX G jP 166 40 lv [] μ Q))
      refine jX.lrn l0 (by rfl) (by rfl) (?_ : jX G jP 166 41 lv [.ref (spl 33 0 0)] μ Q)
      refine jX.go (by rfl) (by rfl) (by rfl) (?_ : jX G jP 166 42 lv [.ref (spl 33 0 0), .ref (spl 33 0 0)] μ Q)
      refine jX.sg R (by rfl) (by rfl) (by rfl) (by rfl) (by rfl) (by rfl) (?_ : jX G jP 166 45 lv [.int ((siI (siI S 51 v2.toInt32.toNatClampNeg 0 5 (nI 1)) 33 0 0 27 (((siI S 51 v2.toInt32.toNatClampNeg 0 5 (nI 1)).1 33 0 0 27) + (nI 1))).1 33 0 0 26), .ref (spl 33 0 0)] μ Q)
      refine jX.lr l4 (by rfl) (by rfl) (?_ : jX G jP 166 47 lv [.ref (spl 51 v2.toInt32.toNatClampNeg 0), .int ((siI (siI S 51 v2.toInt32.toNatClampNeg 0 5 (nI 1)) 33 0 0 27 (((siI S 51 v2.toInt32.toNatClampNeg 0 5 (nI 1)).1 33 0 0 27) + (nI 1))).1 33 0 0 26), .ref (spl 33 0 0)] μ Q)
      obtain ⟨q3, e3, h⟩ := sbd h
      refine jX.c1 (v := .int q3.1) (by rfl) (by rfl) (by rfl) (by rfl) (by rfl) (by rfl) (by rfl) (R.rec g2 (by rfl)) (Nat.le_of_ble_eq_true rfl) (Nat.le_of_ble_eq_true rfl) (F_165_ok R e3 (fun μ R => ⟨rfl, (?_ : jX G jP 166 50 lv [.int q3.1, .int ((siI (siI S 51 v2.toInt32.toNatClampNeg 0 5 (nI 1)) 33 0 0 27 (((siI S 51 v2.toInt32.toNatClampNeg 0 5 (nI 1)).1 33 0 0 27) + (nI 1))).1 33 0 0 26), .ref (spl 33 0 0)] μ Q)⟩))
      refine jX.go (by rfl) (by rfl) (by rfl) (?_ : jX G jP 166 51 lv [.int (((siI (siI S 51 v2.toInt32.toNatClampNeg 0 5 (nI 1)) 33 0 0 27 (((siI S 51 v2.toInt32.toNatClampNeg 0 5 (nI 1)).1 33 0 0 27) + (nI 1))).1 33 0 0 26) + q3.1), .ref (spl 33 0 0)] μ Q)
      refine jX.spI R (by rfl) (by rfl) (by rfl) (by rfl) (by rfl) (by rfl) (by rfl) (by rfl) (by rfl) (fun μ R => (?_ : jX G jP 166 54 lv [] μ Q))
      refine jX.lrn l0 (by rfl) (by rfl) (?_ : jX G jP 166 55 lv [.ref (spl 33 0 0)] μ Q)
      refine jX.sg R (by rfl) (by rfl) (by rfl) (by rfl) (by rfl) (by rfl) (?_ : jX G jP 166 58 lv [.ref (spl 46 0 0)] μ Q)
      refine jX.lrn l0 (by rfl) (by rfl) (?_ : jX G jP 166 59 lv [.ref (spl 33 0 0), .ref (spl 46 0 0)] μ Q)
      refine jX.sg R (by rfl) (by rfl) (by rfl) (by rfl) (by rfl) (by rfl) (?_ : jX G jP 166 62 lv [.int ((siI q3.2 33 0 0 26 (((siI (siI S 51 v2.toInt32.toNatClampNeg 0 5 (nI 1)) 33 0 0 27 (((siI S 51 v2.toInt32.toNatClampNeg 0 5 (nI 1)).1 33 0 0 27) + (nI 1))).1 33 0 0 26) + q3.1)).1 33 0 0 30), .ref (spl 46 0 0)] μ Q)
      refine jX.lln l2 (by rfl) (by rfl) (?_ : jX G jP 166 63 lv [.long v2, .int ((siI q3.2 33 0 0 26 (((siI (siI S 51 v2.toInt32.toNatClampNeg 0 5 (nI 1)) 33 0 0 27 (((siI S 51 v2.toInt32.toNatClampNeg 0 5 (nI 1)).1 33 0 0 27) + (nI 1))).1 33 0 0 26) + q3.1)).1 33 0 0 30), .ref (spl 46 0 0)] μ Q)
      refine jX.go (by rfl) (by rfl) (by rfl) (?_ : jX G jP 166 64 lv [.int v2.toInt32, .int ((siI q3.2 33 0 0 26 (((siI (siI S 51 v2.toInt32.toNatClampNeg 0 5 (nI 1)) 33 0 0 27 (((siI S 51 v2.toInt32.toNatClampNeg 0 5 (nI 1)).1 33 0 0 27) + (nI 1))).1 33 0 0 26) + q3.1)).1 33 0 0 30), .ref (spl 46 0 0)] μ Q)
      obtain ⟨g4, h⟩ := jif_some h
      refine jX.sti R (by rfl) (by rfl) (by rfl) (fun _ => by rfl) g4 (fun μ R => (?_ : jX G jP 166 65 lv [] μ Q))
      refine jX.lrn l0 (by rfl) (by rfl) (?_ : jX G jP 166 66 lv [.ref (spl 33 0 0)] μ Q)
      refine jX.go (by rfl) (by rfl) (by rfl) (?_ : jX G jP 166 67 lv [.ref (spl 33 0 0), .ref (spl 33 0 0)] μ Q)
      refine jX.sg R (by rfl) (by rfl) (by rfl) (by rfl) (by rfl) (by rfl) (?_ : jX G jP 166 70 lv [.int ((siI (siI q3.2 33 0 0 26 (((siI (siI S 51 v2.toInt32.toNatClampNeg 0 5 (nI 1)) 33 0 0 27 (((siI S 51 v2.toInt32.toNatClampNeg 0 5 (nI 1)).1 33 0 0 27) + (nI 1))).1 33 0 0 26) + q3.1)) 46 0 0 ((siI q3.2 33 0 0 26 (((siI (siI S 51 v2.toInt32.toNatClampNeg 0 5 (nI 1)) 33 0 0 27 (((siI S 51 v2.toInt32.toNatClampNeg 0 5 (nI 1)).1 33 0 0 27) + (nI 1))).1 33 0 0 26) + q3.1)).1 33 0 0 30).toNatClampNeg v2.toInt32).1 33 0 0 30), .ref (spl 33 0 0)] μ Q)
      refine jX.ic (v := nI 1) (n := 1) (by rfl) (by rfl) (by decide) (?_ : jX G jP 166 71 lv [.int (nI 1), .int ((siI (siI q3.2 33 0 0 26 (((siI (siI S 51 v2.toInt32.toNatClampNeg 0 5 (nI 1)) 33 0 0 27 (((siI S 51 v2.toInt32.toNatClampNeg 0 5 (nI 1)).1 33 0 0 27) + (nI 1))).1 33 0 0 26) + q3.1)) 46 0 0 ((siI q3.2 33 0 0 26 (((siI (siI S 51 v2.toInt32.toNatClampNeg 0 5 (nI 1)) 33 0 0 27 (((siI S 51 v2.toInt32.toNatClampNeg 0 5 (nI 1)).1 33 0 0 27) + (nI 1))).1 33 0 0 26) + q3.1)).1 33 0 0 30).toNatClampNeg v2.toInt32).1 33 0 0 30), .ref (spl 33 0 0)] μ Q)
      refine jX.go (by rfl) (by rfl) (by rfl) (?_ : jX G jP 166 72 lv [.int (((siI (siI q3.2 33 0 0 26 (((siI (siI S 51 v2.toInt32.toNatClampNeg 0 5 (nI 1)) 33 0 0 27 (((siI S 51 v2.toInt32.toNatClampNeg 0 5 (nI 1)).1 33 0 0 27) + (nI 1))).1 33 0 0 26) + q3.1)) 46 0 0 ((siI q3.2 33 0 0 26 (((siI (siI S 51 v2.toInt32.toNatClampNeg 0 5 (nI 1)) 33 0 0 27 (((siI S 51 v2.toInt32.toNatClampNeg 0 5 (nI 1)).1 33 0 0 27) + (nI 1))).1 33 0 0 26) + q3.1)).1 33 0 0 30).toNatClampNeg v2.toInt32).1 33 0 0 30) + (nI 1)), .ref (spl 33 0 0)] μ Q)
      refine jX.spI R (by rfl) (by rfl) (by rfl) (by rfl) (by rfl) (by rfl) (by rfl) (by rfl) (by rfl) (fun μ R => (?_ : jX G jP 166 75 lv [] μ Q))
      exact jX.ret (by rfl) (by rfl) (by rfl) (by rfl) (sretv (f := srV) h K R)
    · refine jX.b1f hc (by rfl) (by rfl) (by rfl) (?_ : jX G jP 166 23 lv [] μ Q)
      exact jX.ret (by rfl) (by rfl) (by rfl) (by rfl) (sretv (f := srV) h K R)
  · refine jX.b2f hc (by rfl) (by rfl) (by rfl) (?_ : jX G jP 166 5 lv [] μ Q)
    exact jX.ret (by rfl) (by rfl) (by rfl) (by rfl) (sretv (f := srV) h K R)
/-! 167 StrandRuntimeModel.reachAll()V -/
def F_167_238 (G : jG) (t : Nat) (k72 : Int32 → sS → Option (Unit × sS)) (k80 : Int32 → Int32 → sS → Option (Unit × sS)) (v1 : Int32) (v2 : Int32) (S : sS) : Option (Unit × sS) := k80 v1 (v2 + Int32.ofInt 1) S
theorem F_167_238_ok {G : jG} {t : Nat} {k72 : Int32 → sS → Option (Unit × sS)} {k80 : Int32 → Int32 → sS → Option (Unit × sS)} {r : Unit} {S' : sS} {Q : Option Value ⊕ Nat → jS → Prop} (hk72 : ∀ (v1 : Int32) (S : sS) (lv : jL) (μ : jS), jld lv 0 = some (.ref (spl 33 0 0)) → jld lv 1 = some (.int v1) → sR S μ → k72 v1 S = some (r, S') → jX G jP 167 72 lv [] μ Q) (hk80 : ∀ (v1 : Int32) (v2 : Int32) (S : sS) (lv : jL) (μ : jS), jld lv 0 = some (.ref (spl 33 0 0)) → jld lv 1 = some (.int v1) → jld lv 2 = some (.int v2) → sR S μ → k80 v1 v2 S = some (r, S') → jX G jP 167 80 lv [] μ Q) (K : ∀ μ', sR S' μ' → Q (srV r) μ') : ∀ (v1 : Int32) (v2 : Int32) (S : sS) (lv : jL) (μ : jS), jld lv 0 = some (.ref (spl 33 0 0)) → jld lv 1 = some (.int v1) → jld lv 2 = some (.int v2) → sR S μ → F_167_238 G t k72 k80 v1 v2 S = some (r, S') → jX G jP 167 238 lv [] μ Q := by
  intro v1 v2 S lv μ l0 l1 l2 R h
  unfold F_167_238 at h
  refine jX.inc l2 (by rfl) (by rfl) (by rfl) (fun lv l2 kp => (?_ : jX G jP 167 241 lv [] μ Q))
  replace l0 := kp 0 _ l0 (by rfl) (by first | rfl | simp [soR_cat])
  replace l1 := kp 1 _ l1 (by rfl) (by first | rfl | simp [soR_cat])
  refine jX.go (by rfl) (by rfl) (by rfl) (?_ : jX G jP 167 80 lv [] μ Q)
  exact hk80 v1 (v2 + Int32.ofInt 1) _ _ _ l0 l1 l2 R h
def F_167_185 (G : jG) (t : Nat) (k72 : Int32 → sS → Option (Unit × sS)) (k80 : Int32 → Int32 → sS → Option (Unit × sS)) : Nat → Int32 → Int32 → (Nat × Nat) → Int32 → sS → Option (Unit × sS)
  | 0 => fun _ _ _ _ _ => none
  | tt + 1 => fun v1 v2 v3 v4 S => jif (sex S.2.2.2.1 56 v3.1 v3.2) (bif jcmp .ge v4 (S.1 56 v3.1 v3.2 3) then (bif jcmp .ne (S.1 56 v3.1 v3.2 4) (nI 1) then (F_167_238 G t k72 k80 v1 v2 S) else ((F_166 G t (S.1 56 v3.1 v3.2 7) (S.2.1 56 v3.1 v3.2 8) S).bind (fun q2 => F_167_238 G t k72 k80 v1 v2 q2.2))) else (jif (sex S.2.2.2.1 59 v3.1 v3.2) (jif (jin v4 6) (jif (sex S.2.2.2.1 63 v3.1 v3.2) (jif (jin v4 6) ((F_166 G t (S.1 59 v3.1 v3.2 v4.toNatClampNeg) (S.2.1 63 v3.1 v3.2 v4.toNatClampNeg) S).bind (fun q7 => F_167_185 G t k72 k80 tt v1 v2 v3 (v4 + Int32.ofInt 1) q7.2)))))))
theorem F_167_185_ok {G : jG} {t : Nat} {k72 : Int32 → sS → Option (Unit × sS)} {k80 : Int32 → Int32 → sS → Option (Unit × sS)} {r : Unit} {S' : sS} {Q : Option Value ⊕ Nat → jS → Prop} (hk72 : ∀ (v1 : Int32) (S : sS) (lv : jL) (μ : jS), jld lv 0 = some (.ref (spl 33 0 0)) → jld lv 1 = some (.int v1) → sR S μ → k72 v1 S = some (r, S') → jX G jP 167 72 lv [] μ Q) (hk80 : ∀ (v1 : Int32) (v2 : Int32) (S : sS) (lv : jL) (μ : jS), jld lv 0 = some (.ref (spl 33 0 0)) → jld lv 1 = some (.int v1) → jld lv 2 = some (.int v2) → sR S μ → k80 v1 v2 S = some (r, S') → jX G jP 167 80 lv [] μ Q) (K : ∀ μ', sR S' μ' → Q (srV r) μ') : ∀ tt : Nat, ∀ (v1 : Int32) (v2 : Int32) (v3 : (Nat × Nat)) (v4 : Int32) (S : sS) (lv : jL) (μ : jS), jld lv 0 = some (.ref (spl 33 0 0)) → jld lv 1 = some (.int v1) → jld lv 2 = some (.int v2) → jld lv 3 = some (.ref (spl 56 v3.1 v3.2)) → jld lv 4 = some (.int v4) → sR S μ → F_167_185 G t k72 k80 tt v1 v2 v3 v4 S = some (r, S') → jX G jP 167 185 lv [] μ Q := by
  intro tt
  induction tt with
  | zero =>
    intro v1 v2 v3 v4 S lv μ l0 l1 l2 l3 l4 R h
    rw [F_167_185] at h
    cases h
  | succ tt ih =>
    intro v1 v2 v3 v4 S lv μ l0 l1 l2 l3 l4 R h
    rw [F_167_185] at h
    refine jX.li l4 (by rfl) (by rfl) (?_ : jX G jP 167 187 lv [.int v4] μ Q)
    refine jX.lrn l3 (by rfl) (by rfl) (?_ : jX G jP 167 188 lv [.ref (spl 56 v3.1 v3.2), .int v4] μ Q)
    obtain ⟨g1, h⟩ := jif_some h
    refine jX.sg R g1 (by rfl) (by rfl) (by rfl) (by rfl) (by rfl) (?_ : jX G jP 167 191 lv [.int (S.1 56 v3.1 v3.2 3), .int v4] μ Q)
    rcases bif_or h with ⟨hc, h⟩ | ⟨hc, h⟩
    · refine jX.b2t hc (by rfl) (by rfl) (by rfl) (?_ : jX G jP 167 218 lv [] μ Q)
      refine jX.lrn l3 (by rfl) (by rfl) (?_ : jX G jP 167 219 lv [.ref (spl 56 v3.1 v3.2)] μ Q)
      refine jX.sg R g1 (by rfl) (by rfl) (by rfl) (by rfl) (by rfl) (?_ : jX G jP 167 222 lv [.int (S.1 56 v3.1 v3.2 4)] μ Q)
      refine jX.ic (v := nI 1) (n := 1) (by rfl) (by rfl) (by decide) (?_ : jX G jP 167 223 lv [.int (nI 1), .int (S.1 56 v3.1 v3.2 4)] μ Q)
      rcases bif_or h with ⟨hc, h⟩ | ⟨hc, h⟩
      · refine jX.b2t hc (by rfl) (by rfl) (by rfl) (?_ : jX G jP 167 238 lv [] μ Q)
        exact F_167_238_ok hk72 hk80 K v1 v2 _ _ _ l0 l1 l2 R h
      · refine jX.b2f hc (by rfl) (by rfl) (by rfl) (?_ : jX G jP 167 226 lv [] μ Q)
        refine jX.lrn l0 (by rfl) (by rfl) (?_ : jX G jP 167 227 lv [.ref (spl 33 0 0)] μ Q)
        refine jX.lrn l3 (by rfl) (by rfl) (?_ : jX G jP 167 228 lv [.ref (spl 56 v3.1 v3.2), .ref (spl 33 0 0)] μ Q)
        refine jX.sg R g1 (by rfl) (by rfl) (by rfl) (by rfl) (by rfl) (?_ : jX G jP 167 231 lv [.int (S.1 56 v3.1 v3.2 7), .ref (spl 33 0 0)] μ Q)
        refine jX.lrn l3 (by rfl) (by rfl) (?_ : jX G jP 167 232 lv [.ref (spl 56 v3.1 v3.2), .int (S.1 56 v3.1 v3.2 7), .ref (spl 33 0 0)] μ Q)
        refine jX.sg R g1 (by rfl) (by rfl) (by rfl) (by rfl) (by rfl) (?_ : jX G jP 167 235 lv [.long (S.2.1 56 v3.1 v3.2 8), .int (S.1 56 v3.1 v3.2 7), .ref (spl 33 0 0)] μ Q)
        obtain ⟨q2, e2, h⟩ := sbd h
        refine jX.cv (by rfl) (by rfl) (by rfl) (by rfl) (by rfl) (by rfl) (by rfl) (R.rec (by rfl) (by rfl)) (Nat.le_of_ble_eq_true rfl) (Nat.le_of_ble_eq_true rfl) (F_166_ok R e2 (fun μ R => ⟨rfl, (?_ : jX G jP 167 238 lv [] μ Q)⟩))
        exact F_167_238_ok hk72 hk80 K v1 v2 _ _ _ l0 l1 l2 R h
    · refine jX.b2f hc (by rfl) (by rfl) (by rfl) (?_ : jX G jP 167 194 lv [] μ Q)
      refine jX.lrn l0 (by rfl) (by rfl) (?_ : jX G jP 167 195 lv [.ref (spl 33 0 0)] μ Q)
      refine jX.lrn l3 (by rfl) (by rfl) (?_ : jX G jP 167 196 lv [.ref (spl 56 v3.1 v3.2), .ref (spl 33 0 0)] μ Q)
      refine jX.sg R g1 (by rfl) (by rfl) (by rfl) (by rfl) (by rfl) (?_ : jX G jP 167 199 lv [.ref (spl 59 v3.1 v3.2), .ref (spl 33 0 0)] μ Q)
      refine jX.li l4 (by rfl) (by rfl) (?_ : jX G jP 167 201 lv [.int v4, .ref (spl 59 v3.1 v3.2), .ref (spl 33 0 0)] μ Q)
      obtain ⟨g3, h⟩ := jif_some h
      obtain ⟨g4, h⟩ := jif_some h
      refine jX.sai R g3 (by rfl) (by rfl) (by rfl) g4 (?_ : jX G jP 167 202 lv [.int (S.1 59 v3.1 v3.2 v4.toNatClampNeg), .ref (spl 33 0 0)] μ Q)
      refine jX.lrn l3 (by rfl) (by rfl) (?_ : jX G jP 167 203 lv [.ref (spl 56 v3.1 v3.2), .int (S.1 59 v3.1 v3.2 v4.toNatClampNeg), .ref (spl 33 0 0)] μ Q)
      refine jX.sg R g1 (by rfl) (by rfl) (by rfl) (by rfl) (by rfl) (?_ : jX G jP 167 206 lv [.ref (spl 63 v3.1 v3.2), .int (S.1 59 v3.1 v3.2 v4.toNatClampNeg), .ref (spl 33 0 0)] μ Q)
      refine jX.li l4 (by rfl) (by rfl) (?_ : jX G jP 167 208 lv [.int v4, .ref (spl 63 v3.1 v3.2), .int (S.1 59 v3.1 v3.2 v4.toNatClampNeg), .ref (spl 33 0 0)] μ Q)
      obtain ⟨g5, h⟩ := jif_some h
      obtain ⟨g6, h⟩ := jif_some h
      refine jX.sal R g5 (by rfl) (by rfl) (by rfl) g6 (?_ : jX G jP 167 209 lv [.long (S.2.1 63 v3.1 v3.2 v4.toNatClampNeg), .int (S.1 59 v3.1 v3.2 v4.toNatClampNeg), .ref (spl 33 0 0)] μ Q)
      obtain ⟨q7, e7, h⟩ := sbd h
      refine jX.cv (by rfl) (by rfl) (by rfl) (by rfl) (by rfl) (by rfl) (by rfl) (R.rec (by rfl) (by rfl)) (Nat.le_of_ble_eq_true rfl) (Nat.le_of_ble_eq_true rfl) (F_166_ok R e7 (fun μ R => ⟨rfl, (?_ : jX G jP 167 212 lv [] μ Q)⟩))
      refine jX.inc l4 (by rfl) (by rfl) (by rfl) (fun lv l4 kp => (?_ : jX G jP 167 215 lv [] μ Q))
      replace l0 := kp 0 _ l0 (by rfl) (by first | rfl | simp [soR_cat])
      replace l1 := kp 1 _ l1 (by rfl) (by first | rfl | simp [soR_cat])
      replace l2 := kp 2 _ l2 (by rfl) (by first | rfl | simp [soR_cat])
      replace l3 := kp 3 _ l3 (by rfl) (by first | rfl | simp [soR_cat])
      refine jX.go (by rfl) (by rfl) (by rfl) (?_ : jX G jP 167 185 lv [] μ Q)
      exact ih v1 v2 v3 (v4 + Int32.ofInt 1) _ _ _ l0 l1 l2 l3 l4 R h
def F_167_149 (G : jG) (t : Nat) (k72 : Int32 → sS → Option (Unit × sS)) (k80 : Int32 → Int32 → sS → Option (Unit × sS)) : Nat → Int32 → Int32 → (Nat × Nat) → Int32 → sS → Option (Unit × sS)
  | 0 => fun _ _ _ _ _ => none
  | tt + 1 => fun v1 v2 v3 v4 S => jif (sex S.2.2.2.1 56 v3.1 v3.2) (bif jcmp .ge v4 (S.1 56 v3.1 v3.2 2) then (F_167_185 G t k72 k80 t v1 v2 v3 (nI 0) S) else (jif (sex S.2.2.2.1 58 v3.1 v3.2) (jif (jin v4 16) (jif (sex S.2.2.2.1 62 v3.1 v3.2) (jif (jin v4 16) ((F_166 G t (S.1 58 v3.1 v3.2 v4.toNatClampNeg) (S.2.1 62 v3.1 v3.2 v4.toNatClampNeg) S).bind (fun q6 => F_167_149 G t k72 k80 tt v1 v2 v3 (v4 + Int32.ofInt 1) q6.2)))))))
theorem F_167_149_ok {G : jG} {t : Nat} {k72 : Int32 → sS → Option (Unit × sS)} {k80 : Int32 → Int32 → sS → Option (Unit × sS)} {r : Unit} {S' : sS} {Q : Option Value ⊕ Nat → jS → Prop} (hk72 : ∀ (v1 : Int32) (S : sS) (lv : jL) (μ : jS), jld lv 0 = some (.ref (spl 33 0 0)) → jld lv 1 = some (.int v1) → sR S μ → k72 v1 S = some (r, S') → jX G jP 167 72 lv [] μ Q) (hk80 : ∀ (v1 : Int32) (v2 : Int32) (S : sS) (lv : jL) (μ : jS), jld lv 0 = some (.ref (spl 33 0 0)) → jld lv 1 = some (.int v1) → jld lv 2 = some (.int v2) → sR S μ → k80 v1 v2 S = some (r, S') → jX G jP 167 80 lv [] μ Q) (K : ∀ μ', sR S' μ' → Q (srV r) μ') : ∀ tt : Nat, ∀ (v1 : Int32) (v2 : Int32) (v3 : (Nat × Nat)) (v4 : Int32) (S : sS) (lv : jL) (μ : jS), jld lv 0 = some (.ref (spl 33 0 0)) → jld lv 1 = some (.int v1) → jld lv 2 = some (.int v2) → jld lv 3 = some (.ref (spl 56 v3.1 v3.2)) → jld lv 4 = some (.int v4) → sR S μ → F_167_149 G t k72 k80 tt v1 v2 v3 v4 S = some (r, S') → jX G jP 167 149 lv [] μ Q := by
  intro tt
  induction tt with
  | zero =>
    intro v1 v2 v3 v4 S lv μ l0 l1 l2 l3 l4 R h
    rw [F_167_149] at h
    cases h
  | succ tt ih =>
    intro v1 v2 v3 v4 S lv μ l0 l1 l2 l3 l4 R h
    rw [F_167_149] at h
    refine jX.li l4 (by rfl) (by rfl) (?_ : jX G jP 167 151 lv [.int v4] μ Q)
    refine jX.lrn l3 (by rfl) (by rfl) (?_ : jX G jP 167 152 lv [.ref (spl 56 v3.1 v3.2), .int v4] μ Q)
    obtain ⟨g1, h⟩ := jif_some h
    refine jX.sg R g1 (by rfl) (by rfl) (by rfl) (by rfl) (by rfl) (?_ : jX G jP 167 155 lv [.int (S.1 56 v3.1 v3.2 2), .int v4] μ Q)
    rcases bif_or h with ⟨hc, h⟩ | ⟨hc, h⟩
    · refine jX.b2t hc (by rfl) (by rfl) (by rfl) (?_ : jX G jP 167 182 lv [] μ Q)
      refine jX.ic (v := nI 0) (n := 1) (by rfl) (by rfl) (by decide) (?_ : jX G jP 167 183 lv [.int (nI 0)] μ Q)
      refine jX.s1 (k := 4) (pc' := 185) (by rfl) (by rfl) (by rfl) (fun lv l4 kp => (?_ : jX G jP 167 185 lv [] μ Q))
      replace l0 := kp 0 _ l0 (by rfl) (by first | rfl | simp [soR_cat])
      replace l1 := kp 1 _ l1 (by rfl) (by first | rfl | simp [soR_cat])
      replace l2 := kp 2 _ l2 (by rfl) (by first | rfl | simp [soR_cat])
      replace l3 := kp 3 _ l3 (by rfl) (by first | rfl | simp [soR_cat])
      exact F_167_185_ok hk72 hk80 K _ v1 v2 v3 (nI 0) _ _ _ l0 l1 l2 l3 l4 R h
    · refine jX.b2f hc (by rfl) (by rfl) (by rfl) (?_ : jX G jP 167 158 lv [] μ Q)
      refine jX.lrn l0 (by rfl) (by rfl) (?_ : jX G jP 167 159 lv [.ref (spl 33 0 0)] μ Q)
      refine jX.lrn l3 (by rfl) (by rfl) (?_ : jX G jP 167 160 lv [.ref (spl 56 v3.1 v3.2), .ref (spl 33 0 0)] μ Q)
      refine jX.sg R g1 (by rfl) (by rfl) (by rfl) (by rfl) (by rfl) (?_ : jX G jP 167 163 lv [.ref (spl 58 v3.1 v3.2), .ref (spl 33 0 0)] μ Q)
      refine jX.li l4 (by rfl) (by rfl) (?_ : jX G jP 167 165 lv [.int v4, .ref (spl 58 v3.1 v3.2), .ref (spl 33 0 0)] μ Q)
      obtain ⟨g2, h⟩ := jif_some h
      obtain ⟨g3, h⟩ := jif_some h
      refine jX.sai R g2 (by rfl) (by rfl) (by rfl) g3 (?_ : jX G jP 167 166 lv [.int (S.1 58 v3.1 v3.2 v4.toNatClampNeg), .ref (spl 33 0 0)] μ Q)
      refine jX.lrn l3 (by rfl) (by rfl) (?_ : jX G jP 167 167 lv [.ref (spl 56 v3.1 v3.2), .int (S.1 58 v3.1 v3.2 v4.toNatClampNeg), .ref (spl 33 0 0)] μ Q)
      refine jX.sg R g1 (by rfl) (by rfl) (by rfl) (by rfl) (by rfl) (?_ : jX G jP 167 170 lv [.ref (spl 62 v3.1 v3.2), .int (S.1 58 v3.1 v3.2 v4.toNatClampNeg), .ref (spl 33 0 0)] μ Q)
      refine jX.li l4 (by rfl) (by rfl) (?_ : jX G jP 167 172 lv [.int v4, .ref (spl 62 v3.1 v3.2), .int (S.1 58 v3.1 v3.2 v4.toNatClampNeg), .ref (spl 33 0 0)] μ Q)
      obtain ⟨g4, h⟩ := jif_some h
      obtain ⟨g5, h⟩ := jif_some h
      refine jX.sal R g4 (by rfl) (by rfl) (by rfl) g5 (?_ : jX G jP 167 173 lv [.long (S.2.1 62 v3.1 v3.2 v4.toNatClampNeg), .int (S.1 58 v3.1 v3.2 v4.toNatClampNeg), .ref (spl 33 0 0)] μ Q)
      obtain ⟨q6, e6, h⟩ := sbd h
      refine jX.cv (by rfl) (by rfl) (by rfl) (by rfl) (by rfl) (by rfl) (by rfl) (R.rec (by rfl) (by rfl)) (Nat.le_of_ble_eq_true rfl) (Nat.le_of_ble_eq_true rfl) (F_166_ok R e6 (fun μ R => ⟨rfl, (?_ : jX G jP 167 176 lv [] μ Q)⟩))
      refine jX.inc l4 (by rfl) (by rfl) (by rfl) (fun lv l4 kp => (?_ : jX G jP 167 179 lv [] μ Q))
      replace l0 := kp 0 _ l0 (by rfl) (by first | rfl | simp [soR_cat])
      replace l1 := kp 1 _ l1 (by rfl) (by first | rfl | simp [soR_cat])
      replace l2 := kp 2 _ l2 (by rfl) (by first | rfl | simp [soR_cat])
      replace l3 := kp 3 _ l3 (by rfl) (by first | rfl | simp [soR_cat])
      refine jX.go (by rfl) (by rfl) (by rfl) (?_ : jX G jP 167 149 lv [] μ Q)
      exact ih v1 v2 v3 (v4 + Int32.ofInt 1) _ _ _ l0 l1 l2 l3 l4 R h
def F_167_108 (G : jG) (t : Nat) (k72 : Int32 → sS → Option (Unit × sS)) (k80 : Int32 → Int32 → sS → Option (Unit × sS)) : Nat → Int32 → Int32 → (Nat × Nat) → Int32 → sS → Option (Unit × sS)
  | 0 => fun _ _ _ _ _ => none
  | tt + 1 => fun v1 v2 v3 v4 S => jif (sex S.2.2.2.1 56 v3.1 v3.2) (jif (jin (S.1 56 v3.1 v3.2 0) 32) (bif jcmp .ge v4 (S.1 38 0 0 (S.1 56 v3.1 v3.2 0).toNatClampNeg) then (F_167_149 G t k72 k80 t v1 v2 v3 (nI 0) S) else (jif (sex S.2.2.2.1 57 v3.1 v3.2) (jif (jin v4 12) (jif (sex S.2.2.2.1 61 v3.1 v3.2) (jif (jin v4 12) ((F_166 G t (S.1 57 v3.1 v3.2 v4.toNatClampNeg) (S.2.1 61 v3.1 v3.2 v4.toNatClampNeg) S).bind (fun q7 => F_167_108 G t k72 k80 tt v1 v2 v3 (v4 + Int32.ofInt 1) q7.2))))))))
theorem F_167_108_ok {G : jG} {t : Nat} {k72 : Int32 → sS → Option (Unit × sS)} {k80 : Int32 → Int32 → sS → Option (Unit × sS)} {r : Unit} {S' : sS} {Q : Option Value ⊕ Nat → jS → Prop} (hk72 : ∀ (v1 : Int32) (S : sS) (lv : jL) (μ : jS), jld lv 0 = some (.ref (spl 33 0 0)) → jld lv 1 = some (.int v1) → sR S μ → k72 v1 S = some (r, S') → jX G jP 167 72 lv [] μ Q) (hk80 : ∀ (v1 : Int32) (v2 : Int32) (S : sS) (lv : jL) (μ : jS), jld lv 0 = some (.ref (spl 33 0 0)) → jld lv 1 = some (.int v1) → jld lv 2 = some (.int v2) → sR S μ → k80 v1 v2 S = some (r, S') → jX G jP 167 80 lv [] μ Q) (K : ∀ μ', sR S' μ' → Q (srV r) μ') : ∀ tt : Nat, ∀ (v1 : Int32) (v2 : Int32) (v3 : (Nat × Nat)) (v4 : Int32) (S : sS) (lv : jL) (μ : jS), jld lv 0 = some (.ref (spl 33 0 0)) → jld lv 1 = some (.int v1) → jld lv 2 = some (.int v2) → jld lv 3 = some (.ref (spl 56 v3.1 v3.2)) → jld lv 4 = some (.int v4) → sR S μ → F_167_108 G t k72 k80 tt v1 v2 v3 v4 S = some (r, S') → jX G jP 167 108 lv [] μ Q := by
  intro tt
  induction tt with
  | zero =>
    intro v1 v2 v3 v4 S lv μ l0 l1 l2 l3 l4 R h
    rw [F_167_108] at h
    cases h
  | succ tt ih =>
    intro v1 v2 v3 v4 S lv μ l0 l1 l2 l3 l4 R h
    rw [F_167_108] at h
    refine jX.li l4 (by rfl) (by rfl) (?_ : jX G jP 167 110 lv [.int v4] μ Q)
    refine jX.lrn l0 (by rfl) (by rfl) (?_ : jX G jP 167 111 lv [.ref (spl 33 0 0), .int v4] μ Q)
    refine jX.sg R (by rfl) (by rfl) (by rfl) (by rfl) (by rfl) (by rfl) (?_ : jX G jP 167 114 lv [.ref (spl 38 0 0), .int v4] μ Q)
    refine jX.lrn l3 (by rfl) (by rfl) (?_ : jX G jP 167 115 lv [.ref (spl 56 v3.1 v3.2), .ref (spl 38 0 0), .int v4] μ Q)
    obtain ⟨g1, h⟩ := jif_some h
    refine jX.sg R g1 (by rfl) (by rfl) (by rfl) (by rfl) (by rfl) (?_ : jX G jP 167 118 lv [.int (S.1 56 v3.1 v3.2 0), .ref (spl 38 0 0), .int v4] μ Q)
    obtain ⟨g2, h⟩ := jif_some h
    refine jX.sai R (by rfl) (by rfl) (by rfl) (by rfl) g2 (?_ : jX G jP 167 119 lv [.int (S.1 38 0 0 (S.1 56 v3.1 v3.2 0).toNatClampNeg), .int v4] μ Q)
    rcases bif_or h with ⟨hc, h⟩ | ⟨hc, h⟩
    · refine jX.b2t hc (by rfl) (by rfl) (by rfl) (?_ : jX G jP 167 146 lv [] μ Q)
      refine jX.ic (v := nI 0) (n := 1) (by rfl) (by rfl) (by decide) (?_ : jX G jP 167 147 lv [.int (nI 0)] μ Q)
      refine jX.s1 (k := 4) (pc' := 149) (by rfl) (by rfl) (by rfl) (fun lv l4 kp => (?_ : jX G jP 167 149 lv [] μ Q))
      replace l0 := kp 0 _ l0 (by rfl) (by first | rfl | simp [soR_cat])
      replace l1 := kp 1 _ l1 (by rfl) (by first | rfl | simp [soR_cat])
      replace l2 := kp 2 _ l2 (by rfl) (by first | rfl | simp [soR_cat])
      replace l3 := kp 3 _ l3 (by rfl) (by first | rfl | simp [soR_cat])
      exact F_167_149_ok hk72 hk80 K _ v1 v2 v3 (nI 0) _ _ _ l0 l1 l2 l3 l4 R h
    · refine jX.b2f hc (by rfl) (by rfl) (by rfl) (?_ : jX G jP 167 122 lv [] μ Q)
      refine jX.lrn l0 (by rfl) (by rfl) (?_ : jX G jP 167 123 lv [.ref (spl 33 0 0)] μ Q)
      refine jX.lrn l3 (by rfl) (by rfl) (?_ : jX G jP 167 124 lv [.ref (spl 56 v3.1 v3.2), .ref (spl 33 0 0)] μ Q)
      refine jX.sg R g1 (by rfl) (by rfl) (by rfl) (by rfl) (by rfl) (?_ : jX G jP 167 127 lv [.ref (spl 57 v3.1 v3.2), .ref (spl 33 0 0)] μ Q)
      refine jX.li l4 (by rfl) (by rfl) (?_ : jX G jP 167 129 lv [.int v4, .ref (spl 57 v3.1 v3.2), .ref (spl 33 0 0)] μ Q)
      obtain ⟨g3, h⟩ := jif_some h
      obtain ⟨g4, h⟩ := jif_some h
      refine jX.sai R g3 (by rfl) (by rfl) (by rfl) g4 (?_ : jX G jP 167 130 lv [.int (S.1 57 v3.1 v3.2 v4.toNatClampNeg), .ref (spl 33 0 0)] μ Q)
      refine jX.lrn l3 (by rfl) (by rfl) (?_ : jX G jP 167 131 lv [.ref (spl 56 v3.1 v3.2), .int (S.1 57 v3.1 v3.2 v4.toNatClampNeg), .ref (spl 33 0 0)] μ Q)
      refine jX.sg R g1 (by rfl) (by rfl) (by rfl) (by rfl) (by rfl) (?_ : jX G jP 167 134 lv [.ref (spl 61 v3.1 v3.2), .int (S.1 57 v3.1 v3.2 v4.toNatClampNeg), .ref (spl 33 0 0)] μ Q)
      refine jX.li l4 (by rfl) (by rfl) (?_ : jX G jP 167 136 lv [.int v4, .ref (spl 61 v3.1 v3.2), .int (S.1 57 v3.1 v3.2 v4.toNatClampNeg), .ref (spl 33 0 0)] μ Q)
      obtain ⟨g5, h⟩ := jif_some h
      obtain ⟨g6, h⟩ := jif_some h
      refine jX.sal R g5 (by rfl) (by rfl) (by rfl) g6 (?_ : jX G jP 167 137 lv [.long (S.2.1 61 v3.1 v3.2 v4.toNatClampNeg), .int (S.1 57 v3.1 v3.2 v4.toNatClampNeg), .ref (spl 33 0 0)] μ Q)
      obtain ⟨q7, e7, h⟩ := sbd h
      refine jX.cv (by rfl) (by rfl) (by rfl) (by rfl) (by rfl) (by rfl) (by rfl) (R.rec (by rfl) (by rfl)) (Nat.le_of_ble_eq_true rfl) (Nat.le_of_ble_eq_true rfl) (F_166_ok R e7 (fun μ R => ⟨rfl, (?_ : jX G jP 167 140 lv [] μ Q)⟩))
      refine jX.inc l4 (by rfl) (by rfl) (by rfl) (fun lv l4 kp => (?_ : jX G jP 167 143 lv [] μ Q))
      replace l0 := kp 0 _ l0 (by rfl) (by first | rfl | simp [soR_cat])
      replace l1 := kp 1 _ l1 (by rfl) (by first | rfl | simp [soR_cat])
      replace l2 := kp 2 _ l2 (by rfl) (by first | rfl | simp [soR_cat])
      replace l3 := kp 3 _ l3 (by rfl) (by first | rfl | simp [soR_cat])
      refine jX.go (by rfl) (by rfl) (by rfl) (?_ : jX G jP 167 108 lv [] μ Q)
      exact ih v1 v2 v3 (v4 + Int32.ofInt 1) _ _ _ l0 l1 l2 l3 l4 R h
def F_167_80 (G : jG) (t : Nat) (k72 : Int32 → sS → Option (Unit × sS)) : Nat → Int32 → Int32 → sS → Option (Unit × sS)
  | 0 => fun _ _ _ => none
  | tt + 1 => fun v1 v2 S => jif (jin v1 16) (jif (sex S.2.2.2.1 54 v1.toNatClampNeg 0) (bif jcmp .ge v2 (S.1 54 v1.toNatClampNeg 0 1) then (k72 (v1 + Int32.ofInt 1) S) else (jif (jin v1 16) (jif (sex S.2.2.2.1 55 v1.toNatClampNeg 0) (jif (jin v2 30) (F_167_108 G t k72 (F_167_80 G t k72 tt) t v1 v2 (v1.toNatClampNeg, v2.toNatClampNeg) (nI 0) S))))))
theorem F_167_80_ok {G : jG} {t : Nat} {k72 : Int32 → sS → Option (Unit × sS)} {r : Unit} {S' : sS} {Q : Option Value ⊕ Nat → jS → Prop} (hk72 : ∀ (v1 : Int32) (S : sS) (lv : jL) (μ : jS), jld lv 0 = some (.ref (spl 33 0 0)) → jld lv 1 = some (.int v1) → sR S μ → k72 v1 S = some (r, S') → jX G jP 167 72 lv [] μ Q) (K : ∀ μ', sR S' μ' → Q (srV r) μ') : ∀ tt : Nat, ∀ (v1 : Int32) (v2 : Int32) (S : sS) (lv : jL) (μ : jS), jld lv 0 = some (.ref (spl 33 0 0)) → jld lv 1 = some (.int v1) → jld lv 2 = some (.int v2) → sR S μ → F_167_80 G t k72 tt v1 v2 S = some (r, S') → jX G jP 167 80 lv [] μ Q := by
  intro tt
  induction tt with
  | zero =>
    intro v1 v2 S lv μ l0 l1 l2 R h
    rw [F_167_80] at h
    cases h
  | succ tt ih =>
    intro v1 v2 S lv μ l0 l1 l2 R h
    rw [F_167_80] at h
    refine jX.lin l2 (by rfl) (by rfl) (?_ : jX G jP 167 81 lv [.int v2] μ Q)
    refine jX.lrn l0 (by rfl) (by rfl) (?_ : jX G jP 167 82 lv [.ref (spl 33 0 0), .int v2] μ Q)
    refine jX.sg R (by rfl) (by rfl) (by rfl) (by rfl) (by rfl) (by rfl) (?_ : jX G jP 167 85 lv [.ref (spl 35 0 0), .int v2] μ Q)
    refine jX.lin l1 (by rfl) (by rfl) (?_ : jX G jP 167 86 lv [.int v1, .ref (spl 35 0 0), .int v2] μ Q)
    obtain ⟨g1, h⟩ := jif_some h
    refine jX.sar (f := fun q => bif Nat.blt q 16 then some (spl 54 q 0) else none) R (by rfl) (by rfl) (by rfl) (by rfl) g1 (srf_in g1) (?_ : jX G jP 167 87 lv [.ref (spl 54 v1.toNatClampNeg 0), .int v2] μ Q)
    obtain ⟨g2, h⟩ := jif_some h
    refine jX.sg R g2 (by rfl) (by rfl) (by rfl) (by rfl) (by rfl) (?_ : jX G jP 167 90 lv [.int (S.1 54 v1.toNatClampNeg 0 1), .int v2] μ Q)
    rcases bif_or h with ⟨hc, h⟩ | ⟨hc, h⟩
    · refine jX.b2t hc (by rfl) (by rfl) (by rfl) (?_ : jX G jP 167 244 lv [] μ Q)
      refine jX.inc l1 (by rfl) (by rfl) (by rfl) (fun lv l1 kp => (?_ : jX G jP 167 247 lv [] μ Q))
      replace l0 := kp 0 _ l0 (by rfl) (by first | rfl | simp [soR_cat])
      refine jX.go (by rfl) (by rfl) (by rfl) (?_ : jX G jP 167 72 lv [] μ Q)
      exact hk72 (v1 + Int32.ofInt 1) _ _ _ l0 l1 R h
    · refine jX.b2f hc (by rfl) (by rfl) (by rfl) (?_ : jX G jP 167 93 lv [] μ Q)
      refine jX.lrn l0 (by rfl) (by rfl) (?_ : jX G jP 167 94 lv [.ref (spl 33 0 0)] μ Q)
      refine jX.sg R (by rfl) (by rfl) (by rfl) (by rfl) (by rfl) (by rfl) (?_ : jX G jP 167 97 lv [.ref (spl 35 0 0)] μ Q)
      refine jX.lin l1 (by rfl) (by rfl) (?_ : jX G jP 167 98 lv [.int v1, .ref (spl 35 0 0)] μ Q)
      obtain ⟨g3, h⟩ := jif_some h
      refine jX.sar (f := fun q => bif Nat.blt q 16 then some (spl 54 q 0) else none) R (by rfl) (by rfl) (by rfl) (by rfl) g3 (srf_in g3) (?_ : jX G jP 167 99 lv [.ref (spl 54 v1.toNatClampNeg 0)] μ Q)
      refine jX.sg R g2 (by rfl) (by rfl) (by rfl) (by rfl) (by rfl) (?_ : jX G jP 167 102 lv [.ref (spl 55 v1.toNatClampNeg 0)] μ Q)
      refine jX.lin l2 (by rfl) (by rfl) (?_ : jX G jP 167 103 lv [.int v2, .ref (spl 55 v1.toNatClampNeg 0)] μ Q)
      obtain ⟨g4, h⟩ := jif_some h
      obtain ⟨g5, h⟩ := jif_some h
      refine jX.sar (f := fun q => bif Nat.blt q 30 then some (spl 56 v1.toNatClampNeg q) else none) R g4 (by rfl) (by rfl) (by rfl) g5 (srf_in g5) (?_ : jX G jP 167 104 lv [.ref (spl 56 v1.toNatClampNeg v2.toNatClampNeg)] μ Q)
      refine jX.s1 (k := 3) (pc' := 105) (by rfl) (by rfl) (by rfl) (fun lv l3 kp => (?_ : jX G jP 167 105 lv [] μ Q))
      replace l0 := kp 0 _ l0 (by rfl) (by first | rfl | simp [soR_cat])
      replace l1 := kp 1 _ l1 (by rfl) (by first | rfl | simp [soR_cat])
      replace l2 := kp 2 _ l2 (by rfl) (by first | rfl | simp [soR_cat])
      refine jX.ic (v := nI 0) (n := 1) (by rfl) (by rfl) (by decide) (?_ : jX G jP 167 106 lv [.int (nI 0)] μ Q)
      refine jX.s1 (k := 4) (pc' := 108) (by rfl) (by rfl) (by rfl) (fun lv l4 kp => (?_ : jX G jP 167 108 lv [] μ Q))
      replace l0 := kp 0 _ l0 (by rfl) (by first | rfl | simp [soR_cat])
      replace l1 := kp 1 _ l1 (by rfl) (by first | rfl | simp [soR_cat])
      replace l2 := kp 2 _ l2 (by rfl) (by first | rfl | simp [soR_cat])
      replace l3 := kp 3 _ l3 (by rfl) (by first | rfl | simp [soR_cat])
      exact F_167_108_ok hk72 ih K _ v1 v2 (v1.toNatClampNeg, v2.toNatClampNeg) (nI 0) _ _ _ l0 l1 l2 l3 l4 R h
def F_167_295 (G : jG) (t : Nat) (k252 : Int32 → sS → Option (Unit × sS)) : Nat → Int32 → (Nat × Nat) → Int32 → Int32 → sS → Option (Unit × sS)
  | 0 => fun _ _ _ _ _ => none
  | tt + 1 => fun v1 v2 v3 v4 S => bif jcmp .ge v4 v3 then (k252 (v1 + Int32.ofInt 1) S) else (jif (sex S.2.2.2.1 51 v2.1 v2.2) (jif (sex S.2.2.2.1 52 v2.1 0) (jif (jin v4 16) (jif (sex S.2.2.2.1 53 v2.1 0) (jif (jin v4 16) ((F_166 G t (S.1 52 v2.1 0 v4.toNatClampNeg) (S.2.1 53 v2.1 0 v4.toNatClampNeg) S).bind (fun q6 => F_167_295 G t k252 tt v1 v2 v3 (v4 + Int32.ofInt 1) q6.2)))))))
theorem F_167_295_ok {G : jG} {t : Nat} {k252 : Int32 → sS → Option (Unit × sS)} {r : Unit} {S' : sS} {Q : Option Value ⊕ Nat → jS → Prop} (hk252 : ∀ (v1 : Int32) (S : sS) (lv : jL) (μ : jS), jld lv 0 = some (.ref (spl 33 0 0)) → jld lv 1 = some (.int v1) → sR S μ → k252 v1 S = some (r, S') → jX G jP 167 252 lv [] μ Q) (K : ∀ μ', sR S' μ' → Q (srV r) μ') : ∀ tt : Nat, ∀ (v1 : Int32) (v2 : (Nat × Nat)) (v3 : Int32) (v4 : Int32) (S : sS) (lv : jL) (μ : jS), jld lv 0 = some (.ref (spl 33 0 0)) → jld lv 1 = some (.int v1) → jld lv 2 = some (.ref (spl 51 v2.1 v2.2)) → jld lv 3 = some (.int v3) → jld lv 4 = some (.int v4) → sR S μ → F_167_295 G t k252 tt v1 v2 v3 v4 S = some (r, S') → jX G jP 167 295 lv [] μ Q := by
  intro tt
  induction tt with
  | zero =>
    intro v1 v2 v3 v4 S lv μ l0 l1 l2 l3 l4 R h
    rw [F_167_295] at h
    cases h
  | succ tt ih =>
    intro v1 v2 v3 v4 S lv μ l0 l1 l2 l3 l4 R h
    rw [F_167_295] at h
    refine jX.li l4 (by rfl) (by rfl) (?_ : jX G jP 167 297 lv [.int v4] μ Q)
    refine jX.lin l3 (by rfl) (by rfl) (?_ : jX G jP 167 298 lv [.int v3, .int v4] μ Q)
    rcases bif_or h with ⟨hc, h⟩ | ⟨hc, h⟩
    · refine jX.b2t hc (by rfl) (by rfl) (by rfl) (?_ : jX G jP 167 325 lv [] μ Q)
      refine jX.inc l1 (by rfl) (by rfl) (by rfl) (fun lv l1 kp => (?_ : jX G jP 167 328 lv [] μ Q))
      replace l0 := kp 0 _ l0 (by rfl) (by first | rfl | simp [soR_cat])
      refine jX.go (by rfl) (by rfl) (by rfl) (?_ : jX G jP 167 252 lv [] μ Q)
      exact hk252 (v1 + Int32.ofInt 1) _ _ _ l0 l1 R h
    · refine jX.b2f hc (by rfl) (by rfl) (by rfl) (?_ : jX G jP 167 301 lv [] μ Q)
      refine jX.lrn l0 (by rfl) (by rfl) (?_ : jX G jP 167 302 lv [.ref (spl 33 0 0)] μ Q)
      refine jX.lrn l2 (by rfl) (by rfl) (?_ : jX G jP 167 303 lv [.ref (spl 51 v2.1 v2.2), .ref (spl 33 0 0)] μ Q)
      obtain ⟨g1, h⟩ := jif_some h
      refine jX.sg R g1 (by rfl) (by rfl) (by rfl) (by rfl) (by rfl) (?_ : jX G jP 167 306 lv [.ref (spl 52 v2.1 0), .ref (spl 33 0 0)] μ Q)
      refine jX.li l4 (by rfl) (by rfl) (?_ : jX G jP 167 308 lv [.int v4, .ref (spl 52 v2.1 0), .ref (spl 33 0 0)] μ Q)
      obtain ⟨g2, h⟩ := jif_some h
      obtain ⟨g3, h⟩ := jif_some h
      refine jX.sai R g2 (by rfl) (by rfl) (by rfl) g3 (?_ : jX G jP 167 309 lv [.int (S.1 52 v2.1 0 v4.toNatClampNeg), .ref (spl 33 0 0)] μ Q)
      refine jX.lrn l2 (by rfl) (by rfl) (?_ : jX G jP 167 310 lv [.ref (spl 51 v2.1 v2.2), .int (S.1 52 v2.1 0 v4.toNatClampNeg), .ref (spl 33 0 0)] μ Q)
      refine jX.sg R g1 (by rfl) (by rfl) (by rfl) (by rfl) (by rfl) (?_ : jX G jP 167 313 lv [.ref (spl 53 v2.1 0), .int (S.1 52 v2.1 0 v4.toNatClampNeg), .ref (spl 33 0 0)] μ Q)
      refine jX.li l4 (by rfl) (by rfl) (?_ : jX G jP 167 315 lv [.int v4, .ref (spl 53 v2.1 0), .int (S.1 52 v2.1 0 v4.toNatClampNeg), .ref (spl 33 0 0)] μ Q)
      obtain ⟨g4, h⟩ := jif_some h
      obtain ⟨g5, h⟩ := jif_some h
      refine jX.sal R g4 (by rfl) (by rfl) (by rfl) g5 (?_ : jX G jP 167 316 lv [.long (S.2.1 53 v2.1 0 v4.toNatClampNeg), .int (S.1 52 v2.1 0 v4.toNatClampNeg), .ref (spl 33 0 0)] μ Q)
      obtain ⟨q6, e6, h⟩ := sbd h
      refine jX.cv (by rfl) (by rfl) (by rfl) (by rfl) (by rfl) (by rfl) (by rfl) (R.rec (by rfl) (by rfl)) (Nat.le_of_ble_eq_true rfl) (Nat.le_of_ble_eq_true rfl) (F_166_ok R e6 (fun μ R => ⟨rfl, (?_ : jX G jP 167 319 lv [] μ Q)⟩))
      refine jX.inc l4 (by rfl) (by rfl) (by rfl) (fun lv l4 kp => (?_ : jX G jP 167 322 lv [] μ Q))
      replace l0 := kp 0 _ l0 (by rfl) (by first | rfl | simp [soR_cat])
      replace l1 := kp 1 _ l1 (by rfl) (by first | rfl | simp [soR_cat])
      replace l2 := kp 2 _ l2 (by rfl) (by first | rfl | simp [soR_cat])
      replace l3 := kp 3 _ l3 (by rfl) (by first | rfl | simp [soR_cat])
      refine jX.go (by rfl) (by rfl) (by rfl) (?_ : jX G jP 167 295 lv [] μ Q)
      exact ih v1 v2 v3 (v4 + Int32.ofInt 1) _ _ _ l0 l1 l2 l3 l4 R h
def F_167_291 (G : jG) (t : Nat) (k252 : Int32 → sS → Option (Unit × sS)) (v1 : Int32) (v2 : (Nat × Nat)) (w0 : Int32) (S : sS) : Option (Unit × sS) := F_167_295 G t k252 t v1 v2 w0 (nI 0) S
theorem F_167_291_ok {G : jG} {t : Nat} {k252 : Int32 → sS → Option (Unit × sS)} {r : Unit} {S' : sS} {Q : Option Value ⊕ Nat → jS → Prop} (hk252 : ∀ (v1 : Int32) (S : sS) (lv : jL) (μ : jS), jld lv 0 = some (.ref (spl 33 0 0)) → jld lv 1 = some (.int v1) → sR S μ → k252 v1 S = some (r, S') → jX G jP 167 252 lv [] μ Q) (K : ∀ μ', sR S' μ' → Q (srV r) μ') : ∀ (v1 : Int32) (v2 : (Nat × Nat)) (w0 : Int32) (S : sS) (lv : jL) (μ : jS), jld lv 0 = some (.ref (spl 33 0 0)) → jld lv 1 = some (.int v1) → jld lv 2 = some (.ref (spl 51 v2.1 v2.2)) → sR S μ → F_167_291 G t k252 v1 v2 w0 S = some (r, S') → jX G jP 167 291 lv [.int w0] μ Q := by
  intro v1 v2 w0 S lv μ l0 l1 l2 R h
  unfold F_167_291 at h
  refine jX.s1 (k := 3) (pc' := 292) (by rfl) (by rfl) (by rfl) (fun lv l3 kp => (?_ : jX G jP 167 292 lv [] μ Q))
  replace l0 := kp 0 _ l0 (by rfl) (by first | rfl | simp [soR_cat])
  replace l1 := kp 1 _ l1 (by rfl) (by first | rfl | simp [soR_cat])
  replace l2 := kp 2 _ l2 (by rfl) (by first | rfl | simp [soR_cat])
  refine jX.ic (v := nI 0) (n := 1) (by rfl) (by rfl) (by decide) (?_ : jX G jP 167 293 lv [.int (nI 0)] μ Q)
  refine jX.s1 (k := 4) (pc' := 295) (by rfl) (by rfl) (by rfl) (fun lv l4 kp => (?_ : jX G jP 167 295 lv [] μ Q))
  replace l0 := kp 0 _ l0 (by rfl) (by first | rfl | simp [soR_cat])
  replace l1 := kp 1 _ l1 (by rfl) (by first | rfl | simp [soR_cat])
  replace l2 := kp 2 _ l2 (by rfl) (by first | rfl | simp [soR_cat])
  replace l3 := kp 3 _ l3 (by rfl) (by first | rfl | simp [soR_cat])
  exact F_167_295_ok hk252 K _ v1 v2 w0 (nI 0) _ _ _ l0 l1 l2 l3 l4 R h
def F_167_252 (G : jG) (t : Nat) : Nat → Int32 → sS → Option (Unit × sS)
  | 0 => fun _ _ => none
  | tt + 1 => fun v1 S => bif jcmp .ge v1 (S.1 33 0 0 30) then (some ((), S)) else (jif (jin v1 1300) (jif (jin (S.1 46 0 0 v1.toNatClampNeg) 1300) (jif (sex S.2.2.2.1 51 ((S.1 46 0 0 v1.toNatClampNeg).toNatClampNeg) 0) (bif jcmp .ne (S.1 51 ((S.1 46 0 0 v1.toNatClampNeg).toNatClampNeg) 0 0) (nI 2) then (F_167_291 G t (F_167_252 G t tt) v1 ((S.1 46 0 0 v1.toNatClampNeg).toNatClampNeg, 0) (S.1 51 ((S.1 46 0 0 v1.toNatClampNeg).toNatClampNeg) 0 2) S) else (F_167_291 G t (F_167_252 G t tt) v1 ((S.1 46 0 0 v1.toNatClampNeg).toNatClampNeg, 0) (S.1 51 ((S.1 46 0 0 v1.toNatClampNeg).toNatClampNeg) 0 1) S)))))
theorem F_167_252_ok {G : jG} {t : Nat} {r : Unit} {S' : sS} {Q : Option Value ⊕ Nat → jS → Prop} (K : ∀ μ', sR S' μ' → Q (srV r) μ') : ∀ tt : Nat, ∀ (v1 : Int32) (S : sS) (lv : jL) (μ : jS), jld lv 0 = some (.ref (spl 33 0 0)) → jld lv 1 = some (.int v1) → sR S μ → F_167_252 G t tt v1 S = some (r, S') → jX G jP 167 252 lv [] μ Q := by
  intro tt
  induction tt with
  | zero =>
    intro v1 S lv μ l0 l1 R h
    rw [F_167_252] at h
    cases h
  | succ tt ih =>
    intro v1 S lv μ l0 l1 R h
    rw [F_167_252] at h
    refine jX.lin l1 (by rfl) (by rfl) (?_ : jX G jP 167 253 lv [.int v1] μ Q)
    refine jX.lrn l0 (by rfl) (by rfl) (?_ : jX G jP 167 254 lv [.ref (spl 33 0 0), .int v1] μ Q)
    refine jX.sg R (by rfl) (by rfl) (by rfl) (by rfl) (by rfl) (by rfl) (?_ : jX G jP 167 257 lv [.int (S.1 33 0 0 30), .int v1] μ Q)
    rcases bif_or h with ⟨hc, h⟩ | ⟨hc, h⟩
    · refine jX.b2t hc (by rfl) (by rfl) (by rfl) (?_ : jX G jP 167 331 lv [] μ Q)
      exact jX.ret (by rfl) (by rfl) (by rfl) (by rfl) (sretv (f := srV) h K R)
    · refine jX.b2f hc (by rfl) (by rfl) (by rfl) (?_ : jX G jP 167 260 lv [] μ Q)
      refine jX.lrn l0 (by rfl) (by rfl) (?_ : jX G jP 167 261 lv [.ref (spl 33 0 0)] μ Q)
      refine jX.sg R (by rfl) (by rfl) (by rfl) (by rfl) (by rfl) (by rfl) (?_ : jX G jP 167 264 lv [.ref (spl 34 0 0)] μ Q)
      refine jX.lrn l0 (by rfl) (by rfl) (?_ : jX G jP 167 265 lv [.ref (spl 33 0 0), .ref (spl 34 0 0)] μ Q)
      refine jX.sg R (by rfl) (by rfl) (by rfl) (by rfl) (by rfl) (by rfl) (?_ : jX G jP 167 268 lv [.ref (spl 46 0 0), .ref (spl 34 0 0)] μ Q)
      refine jX.lin l1 (by rfl) (by rfl) (?_ : jX G jP 167 269 lv [.int v1, .ref (spl 46 0 0), .ref (spl 34 0 0)] μ Q)
      obtain ⟨g1, h⟩ := jif_some h
      refine jX.sai R (by rfl) (by rfl) (by rfl) (by rfl) g1 (?_ : jX G jP 167 270 lv [.int (S.1 46 0 0 v1.toNatClampNeg), .ref (spl 34 0 0)] μ Q)
      obtain ⟨g2, h⟩ := jif_some h
      refine jX.sar (f := fun q => bif Nat.blt q 1300 then some (spl 51 q 0) else none) R (by rfl) (by rfl) (by rfl) (by rfl) g2 (srf_in g2) (?_ : jX G jP 167 271 lv [.ref (spl 51 ((S.1 46 0 0 v1.toNatClampNeg).toNatClampNeg) 0)] μ Q)
      refine jX.s1 (k := 2) (pc' := 272) (by rfl) (by rfl) (by rfl) (fun lv l2 kp => (?_ : jX G jP 167 272 lv [] μ Q))
      replace l0 := kp 0 _ l0 (by rfl) (by first | rfl | simp [soR_cat])
      replace l1 := kp 1 _ l1 (by rfl) (by first | rfl | simp [soR_cat])
      refine jX.lrn l2 (by rfl) (by rfl) (?_ : jX G jP 167 273 lv [.ref (spl 51 ((S.1 46 0 0 v1.toNatClampNeg).toNatClampNeg) 0)] μ Q)
      obtain ⟨g3, h⟩ := jif_some h
      refine jX.sg R g3 (by rfl) (by rfl) (by rfl) (by rfl) (by rfl) (?_ : jX G jP 167 276 lv [.int (S.1 51 ((S.1 46 0 0 v1.toNatClampNeg).toNatClampNeg) 0 0)] μ Q)
      refine jX.ic (v := nI 2) (n := 1) (by rfl) (by rfl) (by decide) (?_ : jX G jP 167 277 lv [.int (nI 2), .int (S.1 51 ((S.1 46 0 0 v1.toNatClampNeg).toNatClampNeg) 0 0)] μ Q)
      rcases bif_or h with ⟨hc, h⟩ | ⟨hc, h⟩
      · refine jX.b2t hc (by rfl) (by rfl) (by rfl) (?_ : jX G jP 167 287 lv [] μ Q)
        refine jX.lrn l2 (by rfl) (by rfl) (?_ : jX G jP 167 288 lv [.ref (spl 51 ((S.1 46 0 0 v1.toNatClampNeg).toNatClampNeg) 0)] μ Q)
        refine jX.sg R g3 (by rfl) (by rfl) (by rfl) (by rfl) (by rfl) (?_ : jX G jP 167 291 lv [.int (S.1 51 ((S.1 46 0 0 v1.toNatClampNeg).toNatClampNeg) 0 2)] μ Q)
        exact F_167_291_ok ih K v1 ((S.1 46 0 0 v1.toNatClampNeg).toNatClampNeg, 0) (S.1 51 ((S.1 46 0 0 v1.toNatClampNeg).toNatClampNeg) 0 2) _ _ _ l0 l1 l2 R h
      · refine jX.b2f hc (by rfl) (by rfl) (by rfl) (?_ : jX G jP 167 280 lv [] μ Q)
        refine jX.lrn l2 (by rfl) (by rfl) (?_ : jX G jP 167 281 lv [.ref (spl 51 ((S.1 46 0 0 v1.toNatClampNeg).toNatClampNeg) 0)] μ Q)
        refine jX.sg R g3 (by rfl) (by rfl) (by rfl) (by rfl) (by rfl) (?_ : jX G jP 167 284 lv [.int (S.1 51 ((S.1 46 0 0 v1.toNatClampNeg).toNatClampNeg) 0 1)] μ Q)
        refine jX.go (by rfl) (by rfl) (by rfl) (?_ : jX G jP 167 291 lv [.int (S.1 51 ((S.1 46 0 0 v1.toNatClampNeg).toNatClampNeg) 0 1)] μ Q)
        exact F_167_291_ok ih K v1 ((S.1 46 0 0 v1.toNatClampNeg).toNatClampNeg, 0) (S.1 51 ((S.1 46 0 0 v1.toNatClampNeg).toNatClampNeg) 0 1) _ _ _ l0 l1 l2 R h
def F_167_72 (G : jG) (t : Nat) : Nat → Int32 → sS → Option (Unit × sS)
  | 0 => fun _ _ => none
  | tt + 1 => fun v1 S => bif jcmp .ge v1 (nI 16) then (F_167_252 G t t (nI 0) S) else (F_167_80 G t (F_167_72 G t tt) t v1 (nI 0) S)
theorem F_167_72_ok {G : jG} {t : Nat} {r : Unit} {S' : sS} {Q : Option Value ⊕ Nat → jS → Prop} (K : ∀ μ', sR S' μ' → Q (srV r) μ') : ∀ tt : Nat, ∀ (v1 : Int32) (S : sS) (lv : jL) (μ : jS), jld lv 0 = some (.ref (spl 33 0 0)) → jld lv 1 = some (.int v1) → sR S μ → F_167_72 G t tt v1 S = some (r, S') → jX G jP 167 72 lv [] μ Q := by
  intro tt
  induction tt with
  | zero =>
    intro v1 S lv μ l0 l1 R h
    rw [F_167_72] at h
    cases h
  | succ tt ih =>
    intro v1 S lv μ l0 l1 R h
    rw [F_167_72] at h
    refine jX.lin l1 (by rfl) (by rfl) (?_ : jX G jP 167 73 lv [.int v1] μ Q)
    refine jX.ic (v := nI 16) (n := 2) (by rfl) (by rfl) (by decide) (?_ : jX G jP 167 75 lv [.int (nI 16), .int v1] μ Q)
    rcases bif_or h with ⟨hc, h⟩ | ⟨hc, h⟩
    · refine jX.b2t hc (by rfl) (by rfl) (by rfl) (?_ : jX G jP 167 250 lv [] μ Q)
      refine jX.ic (v := nI 0) (n := 1) (by rfl) (by rfl) (by decide) (?_ : jX G jP 167 251 lv [.int (nI 0)] μ Q)
      refine jX.s1 (k := 1) (pc' := 252) (by rfl) (by rfl) (by rfl) (fun lv l1 kp => (?_ : jX G jP 167 252 lv [] μ Q))
      replace l0 := kp 0 _ l0 (by rfl) (by first | rfl | simp [soR_cat])
      exact F_167_252_ok  K _ (nI 0) _ _ _ l0 l1 R h
    · refine jX.b2f hc (by rfl) (by rfl) (by rfl) (?_ : jX G jP 167 78 lv [] μ Q)
      refine jX.ic (v := nI 0) (n := 1) (by rfl) (by rfl) (by decide) (?_ : jX G jP 167 79 lv [.int (nI 0)] μ Q)
      refine jX.s1 (k := 2) (pc' := 80) (by rfl) (by rfl) (by rfl) (fun lv l2 kp => (?_ : jX G jP 167 80 lv [] μ Q))
      replace l0 := kp 0 _ l0 (by rfl) (by first | rfl | simp [soR_cat])
      replace l1 := kp 1 _ l1 (by rfl) (by first | rfl | simp [soR_cat])
      exact F_167_80_ok ih K _ v1 (nI 0) _ _ _ l0 l1 l2 R h
def F_167_42 (G : jG) (t : Nat) : Nat → Int32 → sS → Option (Unit × sS)
  | 0 => fun _ _ => none
  | tt + 1 => fun v1 S => bif jcmp .ge v1 (nI 16) then (F_167_72 G t t (nI 0) S) else (jif (jin v1 16) (jif (jin v1 16) ((F_166 G t (S.1 36 0 0 v1.toNatClampNeg) (S.2.1 43 0 0 v1.toNatClampNeg) S).bind (fun q3 => F_167_42 G t tt (v1 + Int32.ofInt 1) q3.2))))
theorem F_167_42_ok {G : jG} {t : Nat} {r : Unit} {S' : sS} {Q : Option Value ⊕ Nat → jS → Prop} (K : ∀ μ', sR S' μ' → Q (srV r) μ') : ∀ tt : Nat, ∀ (v1 : Int32) (S : sS) (lv : jL) (μ : jS), jld lv 0 = some (.ref (spl 33 0 0)) → jld lv 1 = some (.int v1) → sR S μ → F_167_42 G t tt v1 S = some (r, S') → jX G jP 167 42 lv [] μ Q := by
  intro tt
  induction tt with
  | zero =>
    intro v1 S lv μ l0 l1 R h
    rw [F_167_42] at h
    cases h
  | succ tt ih =>
    intro v1 S lv μ l0 l1 R h
    rw [F_167_42] at h
    refine jX.lin l1 (by rfl) (by rfl) (?_ : jX G jP 167 43 lv [.int v1] μ Q)
    refine jX.ic (v := nI 16) (n := 2) (by rfl) (by rfl) (by decide) (?_ : jX G jP 167 45 lv [.int (nI 16), .int v1] μ Q)
    rcases bif_or h with ⟨hc, h⟩ | ⟨hc, h⟩
    · refine jX.b2t hc (by rfl) (by rfl) (by rfl) (?_ : jX G jP 167 70 lv [] μ Q)
      refine jX.ic (v := nI 0) (n := 1) (by rfl) (by rfl) (by decide) (?_ : jX G jP 167 71 lv [.int (nI 0)] μ Q)
      refine jX.s1 (k := 1) (pc' := 72) (by rfl) (by rfl) (by rfl) (fun lv l1 kp => (?_ : jX G jP 167 72 lv [] μ Q))
      replace l0 := kp 0 _ l0 (by rfl) (by first | rfl | simp [soR_cat])
      exact F_167_72_ok  K _ (nI 0) _ _ _ l0 l1 R h
    · refine jX.b2f hc (by rfl) (by rfl) (by rfl) (?_ : jX G jP 167 48 lv [] μ Q)
      refine jX.lrn l0 (by rfl) (by rfl) (?_ : jX G jP 167 49 lv [.ref (spl 33 0 0)] μ Q)
      refine jX.lrn l0 (by rfl) (by rfl) (?_ : jX G jP 167 50 lv [.ref (spl 33 0 0), .ref (spl 33 0 0)] μ Q)
      refine jX.sg R (by rfl) (by rfl) (by rfl) (by rfl) (by rfl) (by rfl) (?_ : jX G jP 167 53 lv [.ref (spl 36 0 0), .ref (spl 33 0 0)] μ Q)
      refine jX.lin l1 (by rfl) (by rfl) (?_ : jX G jP 167 54 lv [.int v1, .ref (spl 36 0 0), .ref (spl 33 0 0)] μ Q)
      obtain ⟨g1, h⟩ := jif_some h
      refine jX.sai R (by rfl) (by rfl) (by rfl) (by rfl) g1 (?_ : jX G jP 167 55 lv [.int (S.1 36 0 0 v1.toNatClampNeg), .ref (spl 33 0 0)] μ Q)
      refine jX.lrn l0 (by rfl) (by rfl) (?_ : jX G jP 167 56 lv [.ref (spl 33 0 0), .int (S.1 36 0 0 v1.toNatClampNeg), .ref (spl 33 0 0)] μ Q)
      refine jX.sg R (by rfl) (by rfl) (by rfl) (by rfl) (by rfl) (by rfl) (?_ : jX G jP 167 59 lv [.ref (spl 43 0 0), .int (S.1 36 0 0 v1.toNatClampNeg), .ref (spl 33 0 0)] μ Q)
      refine jX.lin l1 (by rfl) (by rfl) (?_ : jX G jP 167 60 lv [.int v1, .ref (spl 43 0 0), .int (S.1 36 0 0 v1.toNatClampNeg), .ref (spl 33 0 0)] μ Q)
      obtain ⟨g2, h⟩ := jif_some h
      refine jX.sal R (by rfl) (by rfl) (by rfl) (by rfl) g2 (?_ : jX G jP 167 61 lv [.long (S.2.1 43 0 0 v1.toNatClampNeg), .int (S.1 36 0 0 v1.toNatClampNeg), .ref (spl 33 0 0)] μ Q)
      obtain ⟨q3, e3, h⟩ := sbd h
      refine jX.cv (by rfl) (by rfl) (by rfl) (by rfl) (by rfl) (by rfl) (by rfl) (R.rec (by rfl) (by rfl)) (Nat.le_of_ble_eq_true rfl) (Nat.le_of_ble_eq_true rfl) (F_166_ok R e3 (fun μ R => ⟨rfl, (?_ : jX G jP 167 64 lv [] μ Q)⟩))
      refine jX.inc l1 (by rfl) (by rfl) (by rfl) (fun lv l1 kp => (?_ : jX G jP 167 67 lv [] μ Q))
      replace l0 := kp 0 _ l0 (by rfl) (by first | rfl | simp [soR_cat])
      refine jX.go (by rfl) (by rfl) (by rfl) (?_ : jX G jP 167 42 lv [] μ Q)
      exact ih (v1 + Int32.ofInt 1) _ _ _ l0 l1 R h
def F_167_2 (G : jG) (t : Nat) : Nat → Int32 → sS → Option (Unit × sS)
  | 0 => fun _ _ => none
  | tt + 1 => fun v1 S => bif jcmp .ge v1 (nI 1300) then (F_167_42 G t t (nI 0) (siI (siI (siI S 33 0 0 30 (nI 0)) 33 0 0 27 (nI 0)) 33 0 0 26 (nI 0))) else (jif (jin v1 1300) (jif (sex S.2.2.2.1 51 v1.toNatClampNeg 0) (F_167_2 G t tt (v1 + Int32.ofInt 1) (siI S 51 v1.toNatClampNeg 0 5 (nI 0)))))
theorem F_167_2_ok {G : jG} {t : Nat} {r : Unit} {S' : sS} {Q : Option Value ⊕ Nat → jS → Prop} (K : ∀ μ', sR S' μ' → Q (srV r) μ') : ∀ tt : Nat, ∀ (v1 : Int32) (S : sS) (lv : jL) (μ : jS), jld lv 0 = some (.ref (spl 33 0 0)) → jld lv 1 = some (.int v1) → sR S μ → F_167_2 G t tt v1 S = some (r, S') → jX G jP 167 2 lv [] μ Q := by
  intro tt
  induction tt with
  | zero =>
    intro v1 S lv μ l0 l1 R h
    rw [F_167_2] at h
    cases h
  | succ tt ih =>
    intro v1 S lv μ l0 l1 R h
    rw [F_167_2] at h
    refine jX.lin l1 (by rfl) (by rfl) (?_ : jX G jP 167 3 lv [.int v1] μ Q)
    refine jX.ic (v := nI 1300) (n := 3) (by rfl) (by rfl) (by decide) (?_ : jX G jP 167 6 lv [.int (nI 1300), .int v1] μ Q)
    rcases bif_or h with ⟨hc, h⟩ | ⟨hc, h⟩
    · refine jX.b2t hc (by rfl) (by rfl) (by rfl) (?_ : jX G jP 167 25 lv [] μ Q)
      refine jX.lrn l0 (by rfl) (by rfl) (?_ : jX G jP 167 26 lv [.ref (spl 33 0 0)] μ Q)
      refine jX.ic (v := nI 0) (n := 1) (by rfl) (by rfl) (by decide) (?_ : jX G jP 167 27 lv [.int (nI 0), .ref (spl 33 0 0)] μ Q)
      refine jX.spI R (by rfl) (by rfl) (by rfl) (by rfl) (by rfl) (by rfl) (by rfl) (by rfl) (by rfl) (fun μ R => (?_ : jX G jP 167 30 lv [] μ Q))
      refine jX.lrn l0 (by rfl) (by rfl) (?_ : jX G jP 167 31 lv [.ref (spl 33 0 0)] μ Q)
      refine jX.ic (v := nI 0) (n := 1) (by rfl) (by rfl) (by decide) (?_ : jX G jP 167 32 lv [.int (nI 0), .ref (spl 33 0 0)] μ Q)
      refine jX.spI R (by rfl) (by rfl) (by rfl) (by rfl) (by rfl) (by rfl) (by rfl) (by rfl) (by rfl) (fun μ R => (?_ : jX G jP 167 35 lv [] μ Q))
      refine jX.lrn l0 (by rfl) (by rfl) (?_ : jX G jP 167 36 lv [.ref (spl 33 0 0)] μ Q)
      refine jX.ic (v := nI 0) (n := 1) (by rfl) (by rfl) (by decide) (?_ : jX G jP 167 37 lv [.int (nI 0), .ref (spl 33 0 0)] μ Q)
      refine jX.spI R (by rfl) (by rfl) (by rfl) (by rfl) (by rfl) (by rfl) (by rfl) (by rfl) (by rfl) (fun μ R => (?_ : jX G jP 167 40 lv [] μ Q))
      refine jX.ic (v := nI 0) (n := 1) (by rfl) (by rfl) (by decide) (?_ : jX G jP 167 41 lv [.int (nI 0)] μ Q)
      refine jX.s1 (k := 1) (pc' := 42) (by rfl) (by rfl) (by rfl) (fun lv l1 kp => (?_ : jX G jP 167 42 lv [] μ Q))
      replace l0 := kp 0 _ l0 (by rfl) (by first | rfl | simp [soR_cat])
      exact F_167_42_ok  K _ (nI 0) _ _ _ l0 l1 R h
    · refine jX.b2f hc (by rfl) (by rfl) (by rfl) (?_ : jX G jP 167 9 lv [] μ Q)
      refine jX.lrn l0 (by rfl) (by rfl) (?_ : jX G jP 167 10 lv [.ref (spl 33 0 0)] μ Q)
      refine jX.sg R (by rfl) (by rfl) (by rfl) (by rfl) (by rfl) (by rfl) (?_ : jX G jP 167 13 lv [.ref (spl 34 0 0)] μ Q)
      refine jX.lin l1 (by rfl) (by rfl) (?_ : jX G jP 167 14 lv [.int v1, .ref (spl 34 0 0)] μ Q)
      obtain ⟨g1, h⟩ := jif_some h
      refine jX.sar (f := fun q => bif Nat.blt q 1300 then some (spl 51 q 0) else none) R (by rfl) (by rfl) (by rfl) (by rfl) g1 (srf_in g1) (?_ : jX G jP 167 15 lv [.ref (spl 51 v1.toNatClampNeg 0)] μ Q)
      refine jX.ic (v := nI 0) (n := 1) (by rfl) (by rfl) (by decide) (?_ : jX G jP 167 16 lv [.int (nI 0), .ref (spl 51 v1.toNatClampNeg 0)] μ Q)
      obtain ⟨g2, h⟩ := jif_some h
      refine jX.spI R g2 (by rfl) (by rfl) (by rfl) (by rfl) (by rfl) (by rfl) (by rfl) (by rfl) (fun μ R => (?_ : jX G jP 167 19 lv [] μ Q))
      refine jX.inc l1 (by rfl) (by rfl) (by rfl) (fun lv l1 kp => (?_ : jX G jP 167 22 lv [] μ Q))
      replace l0 := kp 0 _ l0 (by rfl) (by first | rfl | simp [soR_cat])
      refine jX.go (by rfl) (by rfl) (by rfl) (?_ : jX G jP 167 2 lv [] μ Q)
      exact ih (v1 + Int32.ofInt 1) _ _ _ l0 l1 R h
def F_167 (G : jG) (t : Nat) (S : sS) : Option (Unit × sS) := F_167_2 G t t (nI 0) S
theorem F_167_ok {G : jG} {t : Nat} {S : sS} {r : Unit} {S' : sS} {μ : jS} {Q : Option Value ⊕ Nat → jS → Prop} (R : sR S μ) (h : F_167 G t S = some (r, S')) (K : ∀ μ', sR S' μ' → Q (srV r) μ') : jX G jP 167 0 (lv_args 0 [.ref (spl 33 0 0)]) [] μ Q := by
  unfold F_167 at h
  have l0 : jld (lv_args 0 [.ref (spl 33 0 0)]) 0 = some (.ref (spl 33 0 0)) := by rfl
  generalize lv_args 0 [.ref (spl 33 0 0)] = lv at *
  refine jX.ic (v := nI 0) (n := 1) (by rfl) (by rfl) (by decide) (?_ : jX G jP 167 1 lv [.int (nI 0)] μ Q)
  refine jX.s1 (k := 1) (pc' := 2) (by rfl) (by rfl) (by rfl) (fun lv l1 kp => (?_ : jX G jP 167 2 lv [] μ Q))
  replace l0 := kp 0 _ l0 (by rfl) (by first | rfl | simp [soR_cat])
  exact F_167_2_ok  K _ (nI 0) _ _ _ l0 l1 R h
/-! 168 StrandRuntimeModel.object(II)I -/
def F_168_84 (G : jG) (t : Nat) : Nat → Int32 → (Nat × Nat) → Int32 → sS → Option (Int32 × sS)
  | 0 => fun _ _ _ _ => none
  | tt + 1 => fun v3 v4 v5 S => bif jcmp .ge v5 (nI 16) then (some (v3, (siI S 33 0 0 23 ((S.1 33 0 0 23) + (nI 1))))) else (jif (sex S.2.2.2.1 51 v4.1 v4.2) (jif (sex S.2.2.2.1 52 v4.1 0) (jif (jin v5 16) (jif (sex (siI S 52 v4.1 0 v5.toNatClampNeg (nI 0)).2.2.2.1 53 v4.1 0) (jif (jin v5 16) (F_168_84 G t tt v3 v4 (v5 + Int32.ofInt 1) (siL (siI S 52 v4.1 0 v5.toNatClampNeg (nI 0)) 53 v4.1 0 v5.toNatClampNeg 0)))))))
theorem F_168_84_ok {G : jG} {t : Nat} {r : Int32} {S' : sS} {Q : Option Value ⊕ Nat → jS → Prop} (K : ∀ μ', sR S' μ' → Q (srI r) μ') : ∀ tt : Nat, ∀ (v3 : Int32) (v4 : (Nat × Nat)) (v5 : Int32) (S : sS) (lv : jL) (μ : jS), jld lv 0 = some (.ref (spl 33 0 0)) → jld lv 3 = some (.int v3) → jld lv 4 = some (.ref (spl 51 v4.1 v4.2)) → jld lv 5 = some (.int v5) → sR S μ → F_168_84 G t tt v3 v4 v5 S = some (r, S') → jX G jP 168 84 lv [] μ Q := by
  intro tt
  induction tt with
  | zero =>
    intro v3 v4 v5 S lv μ l0 l3 l4 l5 R h
    rw [F_168_84] at h
    cases h
  | succ tt ih =>
    intro v3 v4 v5 S lv μ l0 l3 l4 l5 R h
    rw [F_168_84] at h
    refine jX.li l5 (by rfl) (by rfl) (?_ : jX G jP 168 86 lv [.int v5] μ Q)
    refine jX.ic (v := nI 16) (n := 2) (by rfl) (by rfl) (by decide) (?_ : jX G jP 168 88 lv [.int (nI 16), .int v5] μ Q)
    rcases bif_or h with ⟨hc, h⟩ | ⟨hc, h⟩
    · refine jX.b2t hc (by rfl) (by rfl) (by rfl) (?_ : jX G jP 168 115 lv [] μ Q)
      refine jX.lrn l0 (by rfl) (by rfl) (?_ : jX G jP 168 116 lv [.ref (spl 33 0 0)] μ Q)
      refine jX.go (by rfl) (by rfl) (by rfl) (?_ : jX G jP 168 117 lv [.ref (spl 33 0 0), .ref (spl 33 0 0)] μ Q)
      refine jX.sg R (by rfl) (by rfl) (by rfl) (by rfl) (by rfl) (by rfl) (?_ : jX G jP 168 120 lv [.int (S.1 33 0 0 23), .ref (spl 33 0 0)] μ Q)
      refine jX.ic (v := nI 1) (n := 1) (by rfl) (by rfl) (by decide) (?_ : jX G jP 168 121 lv [.int (nI 1), .int (S.1 33 0 0 23), .ref (spl 33 0 0)] μ Q)
      refine jX.go (by rfl) (by rfl) (by rfl) (?_ : jX G jP 168 122 lv [.int ((S.1 33 0 0 23) + (nI 1)), .ref (spl 33 0 0)] μ Q)
      refine jX.spI R (by rfl) (by rfl) (by rfl) (by rfl) (by rfl) (by rfl) (by rfl) (by rfl) (by rfl) (fun μ R => (?_ : jX G jP 168 125 lv [] μ Q))
      refine jX.lin l3 (by rfl) (by rfl) (?_ : jX G jP 168 126 lv [.int v3] μ Q)
      exact jX.ret (by rfl) (by rfl) (by rfl) (by rfl) (sretv (f := srI) h K R)
    · refine jX.b2f hc (by rfl) (by rfl) (by rfl) (?_ : jX G jP 168 91 lv [] μ Q)
      refine jX.lr l4 (by rfl) (by rfl) (?_ : jX G jP 168 93 lv [.ref (spl 51 v4.1 v4.2)] μ Q)
      obtain ⟨g1, h⟩ := jif_some h
      refine jX.sg R g1 (by rfl) (by rfl) (by rfl) (by rfl) (by rfl) (?_ : jX G jP 168 96 lv [.ref (spl 52 v4.1 0)] μ Q)
      refine jX.li l5 (by rfl) (by rfl) (?_ : jX G jP 168 98 lv [.int v5, .ref (spl 52 v4.1 0)] μ Q)
      refine jX.ic (v := nI 0) (n := 1) (by rfl) (by rfl) (by decide) (?_ : jX G jP 168 99 lv [.int (nI 0), .int v5, .ref (spl 52 v4.1 0)] μ Q)
      obtain ⟨g2, h⟩ := jif_some h
      obtain ⟨g3, h⟩ := jif_some h
      refine jX.sti R g2 (by rfl) (by rfl) (fun _ => by rfl) g3 (fun μ R => (?_ : jX G jP 168 100 lv [] μ Q))
      refine jX.lr l4 (by rfl) (by rfl) (?_ : jX G jP 168 102 lv [.ref (spl 51 v4.1 v4.2)] μ Q)
      refine jX.sg R g1 (by rfl) (by rfl) (by rfl) (by rfl) (by rfl) (?_ : jX G jP 168 105 lv [.ref (spl 53 v4.1 0)] μ Q)
      refine jX.li l5 (by rfl) (by rfl) (?_ : jX G jP 168 107 lv [.int v5, .ref (spl 53 v4.1 0)] μ Q)
      refine jX.go (by rfl) (by rfl) (by rfl) (?_ : jX G jP 168 108 lv [.long 0, .int v5, .ref (spl 53 v4.1 0)] μ Q)
      obtain ⟨g4, h⟩ := jif_some h
      obtain ⟨g5, h⟩ := jif_some h
      refine jX.stl R g4 (by rfl) (by rfl) (fun _ => by rfl) g5 (fun μ R => (?_ : jX G jP 168 109 lv [] μ Q))
      refine jX.inc l5 (by rfl) (by rfl) (by rfl) (fun lv l5 kp => (?_ : jX G jP 168 112 lv [] μ Q))
      replace l0 := kp 0 _ l0 (by rfl) (by first | rfl | simp [soR_cat])
      replace l3 := kp 3 _ l3 (by rfl) (by first | rfl | simp [soR_cat])
      replace l4 := kp 4 _ l4 (by rfl) (by first | rfl | simp [soR_cat])
      refine jX.go (by rfl) (by rfl) (by rfl) (?_ : jX G jP 168 84 lv [] μ Q)
      exact ih v3 v4 (v5 + Int32.ofInt 1) _ _ _ l0 l3 l4 l5 R h
def F_168_31 (G : jG) (t : Nat) : Nat → Int32 → Int32 → Int32 → sS → Option (Int32 × sS)
  | 0 => fun _ _ _ _ => none
  | tt + 1 => fun v1 v2 v3 S => jif (jin v3 1300) (jif (sex S.2.2.2.1 51 v3.toNatClampNeg 0) (bif jcmp .eq (S.1 51 v3.toNatClampNeg 0 5) 0 then (jif (jin v3 1300) (F_168_84 G t t v3 (v3.toNatClampNeg, 0) (nI 0) (siI (siI (siI (siI S 51 v3.toNatClampNeg 0 0 v1) 51 v3.toNatClampNeg 0 1 v2) 51 v3.toNatClampNeg 0 2 (nI 0)) 51 v3.toNatClampNeg 0 4 (nI 0)))) else (F_168_31 G t tt v1 v2 (v3 + Int32.ofInt 1) S)))
theorem F_168_31_ok {G : jG} {t : Nat} {r : Int32} {S' : sS} {Q : Option Value ⊕ Nat → jS → Prop} (K : ∀ μ', sR S' μ' → Q (srI r) μ') : ∀ tt : Nat, ∀ (v1 : Int32) (v2 : Int32) (v3 : Int32) (S : sS) (lv : jL) (μ : jS), jld lv 0 = some (.ref (spl 33 0 0)) → jld lv 1 = some (.int v1) → jld lv 2 = some (.int v2) → jld lv 3 = some (.int v3) → sR S μ → F_168_31 G t tt v1 v2 v3 S = some (r, S') → jX G jP 168 31 lv [] μ Q := by
  intro tt
  induction tt with
  | zero =>
    intro v1 v2 v3 S lv μ l0 l1 l2 l3 R h
    rw [F_168_31] at h
    cases h
  | succ tt ih =>
    intro v1 v2 v3 S lv μ l0 l1 l2 l3 R h
    rw [F_168_31] at h
    refine jX.lrn l0 (by rfl) (by rfl) (?_ : jX G jP 168 32 lv [.ref (spl 33 0 0)] μ Q)
    refine jX.sg R (by rfl) (by rfl) (by rfl) (by rfl) (by rfl) (by rfl) (?_ : jX G jP 168 35 lv [.ref (spl 34 0 0)] μ Q)
    refine jX.lin l3 (by rfl) (by rfl) (?_ : jX G jP 168 36 lv [.int v3, .ref (spl 34 0 0)] μ Q)
    obtain ⟨g1, h⟩ := jif_some h
    refine jX.sar (f := fun q => bif Nat.blt q 1300 then some (spl 51 q 0) else none) R (by rfl) (by rfl) (by rfl) (by rfl) g1 (srf_in g1) (?_ : jX G jP 168 37 lv [.ref (spl 51 v3.toNatClampNeg 0)] μ Q)
    obtain ⟨g2, h⟩ := jif_some h
    refine jX.sg R g2 (by rfl) (by rfl) (by rfl) (by rfl) (by rfl) (?_ : jX G jP 168 40 lv [.int (S.1 51 v3.toNatClampNeg 0 5)] μ Q)
    rcases bif_or h with ⟨hc, h⟩ | ⟨hc, h⟩
    · refine jX.b1t hc (by rfl) (by rfl) (by rfl) (?_ : jX G jP 168 49 lv [] μ Q)
      refine jX.lrn l0 (by rfl) (by rfl) (?_ : jX G jP 168 50 lv [.ref (spl 33 0 0)] μ Q)
      refine jX.sg R (by rfl) (by rfl) (by rfl) (by rfl) (by rfl) (by rfl) (?_ : jX G jP 168 53 lv [.ref (spl 34 0 0)] μ Q)
      refine jX.lin l3 (by rfl) (by rfl) (?_ : jX G jP 168 54 lv [.int v3, .ref (spl 34 0 0)] μ Q)
      obtain ⟨g3, h⟩ := jif_some h
      refine jX.sar (f := fun q => bif Nat.blt q 1300 then some (spl 51 q 0) else none) R (by rfl) (by rfl) (by rfl) (by rfl) g3 (srf_in g3) (?_ : jX G jP 168 55 lv [.ref (spl 51 v3.toNatClampNeg 0)] μ Q)
      refine jX.s1 (k := 4) (pc' := 57) (by rfl) (by rfl) (by rfl) (fun lv l4 kp => (?_ : jX G jP 168 57 lv [] μ Q))
      replace l0 := kp 0 _ l0 (by rfl) (by first | rfl | simp [soR_cat])
      replace l1 := kp 1 _ l1 (by rfl) (by first | rfl | simp [soR_cat])
      replace l2 := kp 2 _ l2 (by rfl) (by first | rfl | simp [soR_cat])
      replace l3 := kp 3 _ l3 (by rfl) (by first | rfl | simp [soR_cat])
      refine jX.lr l4 (by rfl) (by rfl) (?_ : jX G jP 168 59 lv [.ref (spl 51 v3.toNatClampNeg 0)] μ Q)
      refine jX.lin l1 (by rfl) (by rfl) (?_ : jX G jP 168 60 lv [.int v1, .ref (spl 51 v3.toNatClampNeg 0)] μ Q)
      refine jX.spI R g2 (by rfl) (by rfl) (by rfl) (by rfl) (by rfl) (by rfl) (by rfl) (by rfl) (fun μ R => (?_ : jX G jP 168 63 lv [] μ Q))
      refine jX.lr l4 (by rfl) (by rfl) (?_ : jX G jP 168 65 lv [.ref (spl 51 v3.toNatClampNeg 0)] μ Q)
      refine jX.lin l2 (by rfl) (by rfl) (?_ : jX G jP 168 66 lv [.int v2, .ref (spl 51 v3.toNatClampNeg 0)] μ Q)
      refine jX.spI R g2 (by rfl) (by rfl) (by rfl) (by rfl) (by rfl) (by rfl) (by rfl) (by rfl) (fun μ R => (?_ : jX G jP 168 69 lv [] μ Q))
      refine jX.lr l4 (by rfl) (by rfl) (?_ : jX G jP 168 71 lv [.ref (spl 51 v3.toNatClampNeg 0)] μ Q)
      refine jX.ic (v := nI 0) (n := 1) (by rfl) (by rfl) (by decide) (?_ : jX G jP 168 72 lv [.int (nI 0), .ref (spl 51 v3.toNatClampNeg 0)] μ Q)
      refine jX.spI R g2 (by rfl) (by rfl) (by rfl) (by rfl) (by rfl) (by rfl) (by rfl) (by rfl) (fun μ R => (?_ : jX G jP 168 75 lv [] μ Q))
      refine jX.lr l4 (by rfl) (by rfl) (?_ : jX G jP 168 77 lv [.ref (spl 51 v3.toNatClampNeg 0)] μ Q)
      refine jX.ic (v := nI 0) (n := 1) (by rfl) (by rfl) (by decide) (?_ : jX G jP 168 78 lv [.int (nI 0), .ref (spl 51 v3.toNatClampNeg 0)] μ Q)
      refine jX.spI R g2 (by rfl) (by rfl) (by rfl) (by rfl) (by rfl) (by rfl) (by rfl) (by rfl) (fun μ R => (?_ : jX G jP 168 81 lv [] μ Q))
      refine jX.ic (v := nI 0) (n := 1) (by rfl) (by rfl) (by decide) (?_ : jX G jP 168 82 lv [.int (nI 0)] μ Q)
      refine jX.s1 (k := 5) (pc' := 84) (by rfl) (by rfl) (by rfl) (fun lv l5 kp => (?_ : jX G jP 168 84 lv [] μ Q))
      replace l0 := kp 0 _ l0 (by rfl) (by first | rfl | simp [soR_cat])
      replace l3 := kp 3 _ l3 (by rfl) (by first | rfl | simp [soR_cat])
      replace l4 := kp 4 _ l4 (by rfl) (by first | rfl | simp [soR_cat])
      exact F_168_84_ok  K _ v3 (v3.toNatClampNeg, 0) (nI 0) _ _ _ l0 l3 l4 l5 R h
    · refine jX.b1f hc (by rfl) (by rfl) (by rfl) (?_ : jX G jP 168 43 lv [] μ Q)
      refine jX.inc l3 (by rfl) (by rfl) (by rfl) (fun lv l3 kp => (?_ : jX G jP 168 46 lv [] μ Q))
      replace l0 := kp 0 _ l0 (by rfl) (by first | rfl | simp [soR_cat])
      replace l1 := kp 1 _ l1 (by rfl) (by first | rfl | simp [soR_cat])
      replace l2 := kp 2 _ l2 (by rfl) (by first | rfl | simp [soR_cat])
      refine jX.go (by rfl) (by rfl) (by rfl) (?_ : jX G jP 168 31 lv [] μ Q)
      exact ih v1 v2 (v3 + Int32.ofInt 1) _ _ _ l0 l1 l2 l3 R h
def F_168_18 (G : jG) (t : Nat) (v1 : Int32) (v2 : Int32) (w0 : Int32) (w1 : Int32) (S : sS) : Option (Int32 × sS) := bif jcmp .le ((w1 + w0) + v2) (nI 1200) then (F_168_31 G t t v1 v2 (nI 0) S) else (some ((-1), S))
theorem F_168_18_ok {G : jG} {t : Nat} {r : Int32} {S' : sS} {Q : Option Value ⊕ Nat → jS → Prop} (K : ∀ μ', sR S' μ' → Q (srI r) μ') : ∀ (v1 : Int32) (v2 : Int32) (w0 : Int32) (w1 : Int32) (S : sS) (lv : jL) (μ : jS), jld lv 0 = some (.ref (spl 33 0 0)) → jld lv 1 = some (.int v1) → jld lv 2 = some (.int v2) → sR S μ → F_168_18 G t v1 v2 w0 w1 S = some (r, S') → jX G jP 168 18 lv [.int w0, .int w1] μ Q := by
  intro v1 v2 w0 w1 S lv μ l0 l1 l2 R h
  unfold F_168_18 at h
  refine jX.go (by rfl) (by rfl) (by rfl) (?_ : jX G jP 168 19 lv [.int (w1 + w0)] μ Q)
  refine jX.lin l2 (by rfl) (by rfl) (?_ : jX G jP 168 20 lv [.int v2, .int (w1 + w0)] μ Q)
  refine jX.go (by rfl) (by rfl) (by rfl) (?_ : jX G jP 168 21 lv [.int ((w1 + w0) + v2)] μ Q)
  refine jX.ic (v := nI 1200) (n := 3) (by rfl) (by rfl) (by decide) (?_ : jX G jP 168 24 lv [.int (nI 1200), .int ((w1 + w0) + v2)] μ Q)
  rcases bif_or h with ⟨hc, h⟩ | ⟨hc, h⟩
  · refine jX.b2t hc (by rfl) (by rfl) (by rfl) (?_ : jX G jP 168 29 lv [] μ Q)
    refine jX.ic (v := nI 0) (n := 1) (by rfl) (by rfl) (by decide) (?_ : jX G jP 168 30 lv [.int (nI 0)] μ Q)
    refine jX.s1 (k := 3) (pc' := 31) (by rfl) (by rfl) (by rfl) (fun lv l3 kp => (?_ : jX G jP 168 31 lv [] μ Q))
    replace l0 := kp 0 _ l0 (by rfl) (by first | rfl | simp [soR_cat])
    replace l1 := kp 1 _ l1 (by rfl) (by first | rfl | simp [soR_cat])
    replace l2 := kp 2 _ l2 (by rfl) (by first | rfl | simp [soR_cat])
    exact F_168_31_ok  K _ v1 v2 (nI 0) _ _ _ l0 l1 l2 l3 R h
  · refine jX.b2f hc (by rfl) (by rfl) (by rfl) (?_ : jX G jP 168 27 lv [] μ Q)
    refine jX.ic (v := (-1)) (n := 1) (by rfl) (by rfl) (by decide) (?_ : jX G jP 168 28 lv [.int (-1)] μ Q)
    exact jX.ret (by rfl) (by rfl) (by rfl) (by rfl) (sretv (f := srI) h K R)
def F_168 (G : jG) (t : Nat) (v1 : Int32) (v2 : Int32) (S : sS) : Option (Int32 × sS) := (F_167 G t S).bind (fun q1 => bif jcmp .ne v1 (nI 2) then (F_168_18 G t v1 v2 (nI 3) (q1.2.1 33 0 0 26) q1.2) else (F_168_18 G t v1 v2 (nI 2) (q1.2.1 33 0 0 26) q1.2))
theorem F_168_ok {G : jG} {t : Nat} {v1 : Int32} {v2 : Int32} {S : sS} {r : Int32} {S' : sS} {μ : jS} {Q : Option Value ⊕ Nat → jS → Prop} (R : sR S μ) (h : F_168 G t v1 v2 S = some (r, S')) (K : ∀ μ', sR S' μ' → Q (srI r) μ') : jX G jP 168 0 (lv_args 0 [.ref (spl 33 0 0), .int v1, .int v2]) [] μ Q := by
  unfold F_168 at h
  have l0 : jld (lv_args 0 [.ref (spl 33 0 0), .int v1, .int v2]) 0 = some (.ref (spl 33 0 0)) := by rfl
  have l1 : jld (lv_args 0 [.ref (spl 33 0 0), .int v1, .int v2]) 1 = some (.int v1) := by rfl
  have l2 : jld (lv_args 0 [.ref (spl 33 0 0), .int v1, .int v2]) 2 = some (.int v2) := by rfl
  generalize lv_args 0 [.ref (spl 33 0 0), .int v1, .int v2] = lv at *
  refine jX.lrn l0 (by rfl) (by rfl) (?_ : jX G jP 168 1 lv [.ref (spl 33 0 0)] μ Q)
  obtain ⟨q1, e1, h⟩ := sbd h
  refine jX.cv (by rfl) (by rfl) (by rfl) (by rfl) (by rfl) (by rfl) (by rfl) (R.rec (by rfl) (by rfl)) (Nat.le_of_ble_eq_true rfl) (Nat.le_of_ble_eq_true rfl) (F_167_ok R e1 (fun μ R => ⟨rfl, (?_ : jX G jP 168 4 lv [] μ Q)⟩))
  refine jX.lrn l0 (by rfl) (by rfl) (?_ : jX G jP 168 5 lv [.ref (spl 33 0 0)] μ Q)
  refine jX.sg R (by rfl) (by rfl) (by rfl) (by rfl) (by rfl) (by rfl) (?_ : jX G jP 168 8 lv [.int (q1.2.1 33 0 0 26)] μ Q)
  refine jX.lin l1 (by rfl) (by rfl) (?_ : jX G jP 168 9 lv [.int v1, .int (q1.2.1 33 0 0 26)] μ Q)
  refine jX.ic (v := nI 2) (n := 1) (by rfl) (by rfl) (by decide) (?_ : jX G jP 168 10 lv [.int (nI 2), .int v1, .int (q1.2.1 33 0 0 26)] μ Q)
  rcases bif_or h with ⟨hc, h⟩ | ⟨hc, h⟩
  · refine jX.b2t hc (by rfl) (by rfl) (by rfl) (?_ : jX G jP 168 17 lv [.int (q1.2.1 33 0 0 26)] μ Q)
    refine jX.ic (v := nI 3) (n := 1) (by rfl) (by rfl) (by decide) (?_ : jX G jP 168 18 lv [.int (nI 3), .int (q1.2.1 33 0 0 26)] μ Q)
    exact F_168_18_ok  K v1 v2 (nI 3) (q1.2.1 33 0 0 26) _ _ _ l0 l1 l2 R h
  · refine jX.b2f hc (by rfl) (by rfl) (by rfl) (?_ : jX G jP 168 13 lv [.int (q1.2.1 33 0 0 26)] μ Q)
    refine jX.ic (v := nI 2) (n := 1) (by rfl) (by rfl) (by decide) (?_ : jX G jP 168 14 lv [.int (nI 2), .int (q1.2.1 33 0 0 26)] μ Q)
    refine jX.go (by rfl) (by rfl) (by rfl) (?_ : jX G jP 168 18 lv [.int (nI 2), .int (q1.2.1 33 0 0 26)] μ Q)
    exact F_168_18_ok  K v1 v2 (nI 2) (q1.2.1 33 0 0 26) _ _ _ l0 l1 l2 R h
/-! 169 StrandRuntimeModel.fresh(LStrandRuntimeModel$Strand;II)V -/
def F_169 (G : jG) (t : Nat) (v1 : (Nat × Nat)) (v2 : Int32) (v3 : Int32) (S : sS) : Option (Unit × sS) := (F_168 G t v2 v3 S).bind (fun q1 => bif jcmp .ge q1.1 0 then ((F_157 G t v1 (nI 2) q1.1.toInt64 q1.2).bind (fun q2 => some ((), q2.2))) else ((F_155 G t v1 (-5) q1.2).bind (fun q3 => some ((), q3.2))))
theorem F_169_ok {G : jG} {t : Nat} {v1 : (Nat × Nat)} {v2 : Int32} {v3 : Int32} {S : sS} {r : Unit} {S' : sS} {μ : jS} {Q : Option Value ⊕ Nat → jS → Prop} (R : sR S μ) (h : F_169 G t v1 v2 v3 S = some (r, S')) (K : ∀ μ', sR S' μ' → Q (srV r) μ') : jX G jP 169 0 (lv_args 0 [.ref (spl 33 0 0), .ref (spl 54 v1.1 v1.2), .int v2, .int v3]) [] μ Q := by
  unfold F_169 at h
  have l0 : jld (lv_args 0 [.ref (spl 33 0 0), .ref (spl 54 v1.1 v1.2), .int v2, .int v3]) 0 = some (.ref (spl 33 0 0)) := by rfl
  have l1 : jld (lv_args 0 [.ref (spl 33 0 0), .ref (spl 54 v1.1 v1.2), .int v2, .int v3]) 1 = some (.ref (spl 54 v1.1 v1.2)) := by rfl
  have l2 : jld (lv_args 0 [.ref (spl 33 0 0), .ref (spl 54 v1.1 v1.2), .int v2, .int v3]) 2 = some (.int v2) := by rfl
  have l3 : jld (lv_args 0 [.ref (spl 33 0 0), .ref (spl 54 v1.1 v1.2), .int v2, .int v3]) 3 = some (.int v3) := by rfl
  generalize lv_args 0 [.ref (spl 33 0 0), .ref (spl 54 v1.1 v1.2), .int v2, .int v3] = lv at *
  refine jX.lrn l0 (by rfl) (by rfl) (?_ : jX G jP 169 1 lv [.ref (spl 33 0 0)] μ Q)
  refine jX.lin l2 (by rfl) (by rfl) (?_ : jX G jP 169 2 lv [.int v2, .ref (spl 33 0 0)] μ Q)
  refine jX.lin l3 (by rfl) (by rfl) (?_ : jX G jP 169 3 lv [.int v3, .int v2, .ref (spl 33 0 0)] μ Q)
  obtain ⟨q1, e1, h⟩ := sbd h
  refine jX.c1 (v := .int q1.1) (by rfl) (by rfl) (by rfl) (by rfl) (by rfl) (by rfl) (by rfl) (R.rec (by rfl) (by rfl)) (Nat.le_of_ble_eq_true rfl) (Nat.le_of_ble_eq_true rfl) (F_168_ok R e1 (fun μ R => ⟨rfl, (?_ : jX G jP 169 6 lv [.int q1.1] μ Q)⟩))
  refine jX.s1 (k := 4) (pc' := 8) (by rfl) (by rfl) (by rfl) (fun lv l4 kp => (?_ : jX G jP 169 8 lv [] μ Q))
  replace l0 := kp 0 _ l0 (by rfl) (by first | rfl | simp [soR_cat])
  replace l1 := kp 1 _ l1 (by rfl) (by first | rfl | simp [soR_cat])
  refine jX.li l4 (by rfl) (by rfl) (?_ : jX G jP 169 10 lv [.int q1.1] μ Q)
  rcases bif_or h with ⟨hc, h⟩ | ⟨hc, h⟩
  · refine jX.b1t hc (by rfl) (by rfl) (by rfl) (?_ : jX G jP 169 24 lv [] μ Q)
    refine jX.lrn l0 (by rfl) (by rfl) (?_ : jX G jP 169 25 lv [.ref (spl 33 0 0)] μ Q)
    refine jX.lrn l1 (by rfl) (by rfl) (?_ : jX G jP 169 26 lv [.ref (spl 54 v1.1 v1.2), .ref (spl 33 0 0)] μ Q)
    refine jX.ic (v := nI 2) (n := 1) (by rfl) (by rfl) (by decide) (?_ : jX G jP 169 27 lv [.int (nI 2), .ref (spl 54 v1.1 v1.2), .ref (spl 33 0 0)] μ Q)
    refine jX.li l4 (by rfl) (by rfl) (?_ : jX G jP 169 29 lv [.int q1.1, .int (nI 2), .ref (spl 54 v1.1 v1.2), .ref (spl 33 0 0)] μ Q)
    refine jX.go (by rfl) (by rfl) (by rfl) (?_ : jX G jP 169 30 lv [.long q1.1.toInt64, .int (nI 2), .ref (spl 54 v1.1 v1.2), .ref (spl 33 0 0)] μ Q)
    obtain ⟨q2, e2, h⟩ := sbd h
    refine jX.c1 (v := .int q2.1) (by rfl) (by rfl) (by rfl) (by rfl) (by rfl) (by rfl) (by rfl) (R.rec (by rfl) (by rfl)) (Nat.le_of_ble_eq_true rfl) (Nat.le_of_ble_eq_true rfl) (F_157_ok R e2 (fun μ R => ⟨rfl, (?_ : jX G jP 169 33 lv [.int q2.1] μ Q)⟩))
    refine jX.go (by rfl) (by rfl) (by rfl) (?_ : jX G jP 169 34 lv [] μ Q)
    exact jX.ret (by rfl) (by rfl) (by rfl) (by rfl) (sretv (f := srV) h K R)
  · refine jX.b1f hc (by rfl) (by rfl) (by rfl) (?_ : jX G jP 169 13 lv [] μ Q)
    refine jX.lrn l0 (by rfl) (by rfl) (?_ : jX G jP 169 14 lv [.ref (spl 33 0 0)] μ Q)
    refine jX.lrn l1 (by rfl) (by rfl) (?_ : jX G jP 169 15 lv [.ref (spl 54 v1.1 v1.2), .ref (spl 33 0 0)] μ Q)
    refine jX.go (by rfl) (by rfl) (by rfl) (?_ : jX G jP 169 18 lv [.long (-5), .ref (spl 54 v1.1 v1.2), .ref (spl 33 0 0)] μ Q)
    obtain ⟨q3, e3, h⟩ := sbd h
    refine jX.cv (by rfl) (by rfl) (by rfl) (by rfl) (by rfl) (by rfl) (by rfl) (R.rec (by rfl) (by rfl)) (Nat.le_of_ble_eq_true rfl) (Nat.le_of_ble_eq_true rfl) (F_155_ok R e3 (fun μ R => ⟨rfl, (?_ : jX G jP 169 21 lv [] μ Q)⟩))
    refine jX.go (by rfl) (by rfl) (by rfl) (?_ : jX G jP 169 34 lv [] μ Q)
    exact jX.ret (by rfl) (by rfl) (by rfl) (by rfl) (sretv (f := srV) h K R)
/-! 170 StrandRuntimeModel.isThing(IJI)Z -/
def F_170 (G : jG) (t : Nat) (v1 : Int32) (v2 : Int64) (v4 : Int32) (S : sS) : Option (Int32 × sS) := bif jcmp .ne v1 (nI 2) then (some ((nI 0), S)) else (jif (jin v2.toInt32 1300) (jif (sex S.2.2.2.1 51 v2.toInt32.toNatClampNeg 0) (bif jcmp .ne (S.1 51 v2.toInt32.toNatClampNeg 0 0) v4 then (some ((nI 0), S)) else (some ((nI 1), S)))))
theorem F_170_ok {G : jG} {t : Nat} {v1 : Int32} {v2 : Int64} {v4 : Int32} {S : sS} {r : Int32} {S' : sS} {μ : jS} {Q : Option Value ⊕ Nat → jS → Prop} (R : sR S μ) (h : F_170 G t v1 v2 v4 S = some (r, S')) (K : ∀ μ', sR S' μ' → Q (srI r) μ') : jX G jP 170 0 (lv_args 0 [.ref (spl 33 0 0), .int v1, .long v2, .int v4]) [] μ Q := by
  unfold F_170 at h
  have l0 : jld (lv_args 0 [.ref (spl 33 0 0), .int v1, .long v2, .int v4]) 0 = some (.ref (spl 33 0 0)) := by rfl
  have l1 : jld (lv_args 0 [.ref (spl 33 0 0), .int v1, .long v2, .int v4]) 1 = some (.int v1) := by rfl
  have l2 : jld (lv_args 0 [.ref (spl 33 0 0), .int v1, .long v2, .int v4]) 2 = some (.long v2) := by rfl
  have l4 : jld (lv_args 0 [.ref (spl 33 0 0), .int v1, .long v2, .int v4]) 4 = some (.int v4) := by rfl
  generalize lv_args 0 [.ref (spl 33 0 0), .int v1, .long v2, .int v4] = lv at *
  refine jX.lin l1 (by rfl) (by rfl) (?_ : jX G jP 170 1 lv [.int v1] μ Q)
  refine jX.ic (v := nI 2) (n := 1) (by rfl) (by rfl) (by decide) (?_ : jX G jP 170 2 lv [.int (nI 2), .int v1] μ Q)
  rcases bif_or h with ⟨hc, h⟩ | ⟨hc, h⟩
  · refine jX.b2t hc (by rfl) (by rfl) (by rfl) (?_ : jX G jP 170 24 lv [] μ Q)
    refine jX.ic (v := nI 0) (n := 1) (by rfl) (by rfl) (by decide) (?_ : jX G jP 170 25 lv [.int (nI 0)] μ Q)
    exact jX.ret (by rfl) (by rfl) (by rfl) (by rfl) (sretv (f := srI) h K R)
  · refine jX.b2f hc (by rfl) (by rfl) (by rfl) (?_ : jX G jP 170 5 lv [] μ Q)
    refine jX.lrn l0 (by rfl) (by rfl) (?_ : jX G jP 170 6 lv [.ref (spl 33 0 0)] μ Q)
    refine jX.sg R (by rfl) (by rfl) (by rfl) (by rfl) (by rfl) (by rfl) (?_ : jX G jP 170 9 lv [.ref (spl 34 0 0)] μ Q)
    refine jX.lln l2 (by rfl) (by rfl) (?_ : jX G jP 170 10 lv [.long v2, .ref (spl 34 0 0)] μ Q)
    refine jX.go (by rfl) (by rfl) (by rfl) (?_ : jX G jP 170 11 lv [.int v2.toInt32, .ref (spl 34 0 0)] μ Q)
    obtain ⟨g1, h⟩ := jif_some h
    refine jX.sar (f := fun q => bif Nat.blt q 1300 then some (spl 51 q 0) else none) R (by rfl) (by rfl) (by rfl) (by rfl) g1 (srf_in g1) (?_ : jX G jP 170 12 lv [.ref (spl 51 v2.toInt32.toNatClampNeg 0)] μ Q)
    obtain ⟨g2, h⟩ := jif_some h
    refine jX.sg R g2 (by rfl) (by rfl) (by rfl) (by rfl) (by rfl) (?_ : jX G jP 170 15 lv [.int (S.1 51 v2.toInt32.toNatClampNeg 0 0)] μ Q)
    refine jX.li l4 (by rfl) (by rfl) (?_ : jX G jP 170 17 lv [.int v4, .int (S.1 51 v2.toInt32.toNatClampNeg 0 0)] μ Q)
    rcases bif_or h with ⟨hc, h⟩ | ⟨hc, h⟩
    · refine jX.b2t hc (by rfl) (by rfl) (by rfl) (?_ : jX G jP 170 24 lv [] μ Q)
      refine jX.ic (v := nI 0) (n := 1) (by rfl) (by rfl) (by decide) (?_ : jX G jP 170 25 lv [.int (nI 0)] μ Q)
      exact jX.ret (by rfl) (by rfl) (by rfl) (by rfl) (sretv (f := srI) h K R)
    · refine jX.b2f hc (by rfl) (by rfl) (by rfl) (?_ : jX G jP 170 20 lv [] μ Q)
      refine jX.ic (v := nI 1) (n := 1) (by rfl) (by rfl) (by decide) (?_ : jX G jP 170 21 lv [.int (nI 1)] μ Q)
      refine jX.go (by rfl) (by rfl) (by rfl) (?_ : jX G jP 170 25 lv [.int (nI 1)] μ Q)
      exact jX.ret (by rfl) (by rfl) (by rfl) (by rfl) (sretv (f := srI) h K R)
/-! 171 StrandRuntimeModel.value(LStrandRuntimeModel$Strand;IJ)V -/
def F_171_54 (G : jG) (t : Nat) (v1 : (Nat × Nat)) (v2 : Int32) (v3 : Int64) (w0 : Int32) (w1 : (Nat × Nat)) (S : sS) : Option (Unit × sS) := (F_158 G t w1 w0 S).bind (fun q1 => bif jcmp .ne q1.1 0 then (jif (jin v2 16) (jif (jin ((q1.2.2.1 48 0 0 v2.toNatClampNeg).toInt32) 1300) (jif (sex q1.2.2.2.2.1 51 (((q1.2.2.1 48 0 0 v2.toNatClampNeg).toInt32).toNatClampNeg) 0) (jif (sex q1.2.2.2.2.1 52 (((q1.2.2.1 48 0 0 v2.toNatClampNeg).toInt32).toNatClampNeg) 0) (jif (jin v3.toInt32 16) (jif (sex q1.2.2.2.2.1 53 (((q1.2.2.1 48 0 0 v2.toNatClampNeg).toInt32).toNatClampNeg) 0) (jif (jin v3.toInt32 16) ((F_157 G t v1 (q1.2.1 52 (((q1.2.2.1 48 0 0 v2.toNatClampNeg).toInt32).toNatClampNeg) 0 v3.toInt32.toNatClampNeg) (q1.2.2.1 53 (((q1.2.2.1 48 0 0 v2.toNatClampNeg).toInt32).toNatClampNeg) 0 v3.toInt32.toNatClampNeg) q1.2).bind (fun q9 => some ((), q9.2)))))))))) else (some ((), q1.2)))
theorem F_171_54_ok {G : jG} {t : Nat} {r : Unit} {S' : sS} {Q : Option Value ⊕ Nat → jS → Prop} (K : ∀ μ', sR S' μ' → Q (srV r) μ') : ∀ (v1 : (Nat × Nat)) (v2 : Int32) (v3 : Int64) (w0 : Int32) (w1 : (Nat × Nat)) (S : sS) (lv : jL) (μ : jS), jld lv 0 = some (.ref (spl 33 0 0)) → jld lv 1 = some (.ref (spl 54 v1.1 v1.2)) → jld lv 2 = some (.int v2) → jld lv 3 = some (.long v3) → sR S μ → F_171_54 G t v1 v2 v3 w0 w1 S = some (r, S') → jX G jP 171 54 lv [.int w0, .ref (spl 54 w1.1 w1.2), .ref (spl 33 0 0)] μ Q := by
  intro v1 v2 v3 w0 w1 S lv μ l0 l1 l2 l3 R h
  unfold F_171_54 at h
  obtain ⟨q1, e1, h⟩ := sbd h
  refine jX.c1 (v := .int q1.1) (by rfl) (by rfl) (by rfl) (by rfl) (by rfl) (by rfl) (by rfl) (R.rec (by rfl) (by rfl)) (Nat.le_of_ble_eq_true rfl) (Nat.le_of_ble_eq_true rfl) (F_158_ok R e1 (fun μ R => ⟨rfl, (?_ : jX G jP 171 57 lv [.int q1.1] μ Q)⟩))
  rcases bif_or h with ⟨hc, h⟩ | ⟨hc, h⟩
  · refine jX.b1t hc (by rfl) (by rfl) (by rfl) (?_ : jX G jP 171 61 lv [] μ Q)
    refine jX.lrn l0 (by rfl) (by rfl) (?_ : jX G jP 171 62 lv [.ref (spl 33 0 0)] μ Q)
    refine jX.sg R (by rfl) (by rfl) (by rfl) (by rfl) (by rfl) (by rfl) (?_ : jX G jP 171 65 lv [.ref (spl 34 0 0)] μ Q)
    refine jX.lrn l0 (by rfl) (by rfl) (?_ : jX G jP 171 66 lv [.ref (spl 33 0 0), .ref (spl 34 0 0)] μ Q)
    refine jX.sg R (by rfl) (by rfl) (by rfl) (by rfl) (by rfl) (by rfl) (?_ : jX G jP 171 69 lv [.ref (spl 48 0 0), .ref (spl 34 0 0)] μ Q)
    refine jX.lin l2 (by rfl) (by rfl) (?_ : jX G jP 171 70 lv [.int v2, .ref (spl 48 0 0), .ref (spl 34 0 0)] μ Q)
    obtain ⟨g2, h⟩ := jif_some h
    refine jX.sal R (by rfl) (by rfl) (by rfl) (by rfl) g2 (?_ : jX G jP 171 71 lv [.long (q1.2.2.1 48 0 0 v2.toNatClampNeg), .ref (spl 34 0 0)] μ Q)
    refine jX.go (by rfl) (by rfl) (by rfl) (?_ : jX G jP 171 72 lv [.int ((q1.2.2.1 48 0 0 v2.toNatClampNeg).toInt32), .ref (spl 34 0 0)] μ Q)
    obtain ⟨g3, h⟩ := jif_some h
    refine jX.sar (f := fun q => bif Nat.blt q 1300 then some (spl 51 q 0) else none) R (by rfl) (by rfl) (by rfl) (by rfl) g3 (srf_in g3) (?_ : jX G jP 171 73 lv [.ref (spl 51 (((q1.2.2.1 48 0 0 v2.toNatClampNeg).toInt32).toNatClampNeg) 0)] μ Q)
    refine jX.s1 (k := 5) (pc' := 75) (by rfl) (by rfl) (by rfl) (fun lv l5 kp => (?_ : jX G jP 171 75 lv [] μ Q))
    replace l0 := kp 0 _ l0 (by rfl) (by first | rfl | simp [soR_cat])
    replace l1 := kp 1 _ l1 (by rfl) (by first | rfl | simp [soR_cat])
    replace l3 := kp 3 _ l3 (by rfl) (by first | rfl | simp [soR_cat])
    refine jX.lrn l0 (by rfl) (by rfl) (?_ : jX G jP 171 76 lv [.ref (spl 33 0 0)] μ Q)
    refine jX.lrn l1 (by rfl) (by rfl) (?_ : jX G jP 171 77 lv [.ref (spl 54 v1.1 v1.2), .ref (spl 33 0 0)] μ Q)
    refine jX.lr l5 (by rfl) (by rfl) (?_ : jX G jP 171 79 lv [.ref (spl 51 (((q1.2.2.1 48 0 0 v2.toNatClampNeg).toInt32).toNatClampNeg) 0), .ref (spl 54 v1.1 v1.2), .ref (spl 33 0 0)] μ Q)
    obtain ⟨g4, h⟩ := jif_some h
    refine jX.sg R g4 (by rfl) (by rfl) (by rfl) (by rfl) (by rfl) (?_ : jX G jP 171 82 lv [.ref (spl 52 (((q1.2.2.1 48 0 0 v2.toNatClampNeg).toInt32).toNatClampNeg) 0), .ref (spl 54 v1.1 v1.2), .ref (spl 33 0 0)] μ Q)
    refine jX.lln l3 (by rfl) (by rfl) (?_ : jX G jP 171 83 lv [.long v3, .ref (spl 52 (((q1.2.2.1 48 0 0 v2.toNatClampNeg).toInt32).toNatClampNeg) 0), .ref (spl 54 v1.1 v1.2), .ref (spl 33 0 0)] μ Q)
    refine jX.go (by rfl) (by rfl) (by rfl) (?_ : jX G jP 171 84 lv [.int v3.toInt32, .ref (spl 52 (((q1.2.2.1 48 0 0 v2.toNatClampNeg).toInt32).toNatClampNeg) 0), .ref (spl 54 v1.1 v1.2), .ref (spl 33 0 0)] μ Q)
    obtain ⟨g5, h⟩ := jif_some h
    obtain ⟨g6, h⟩ := jif_some h
    refine jX.sai R g5 (by rfl) (by rfl) (by rfl) g6 (?_ : jX G jP 171 85 lv [.int (q1.2.1 52 (((q1.2.2.1 48 0 0 v2.toNatClampNeg).toInt32).toNatClampNeg) 0 v3.toInt32.toNatClampNeg), .ref (spl 54 v1.1 v1.2), .ref (spl 33 0 0)] μ Q)
    refine jX.lr l5 (by rfl) (by rfl) (?_ : jX G jP 171 87 lv [.ref (spl 51 (((q1.2.2.1 48 0 0 v2.toNatClampNeg).toInt32).toNatClampNeg) 0), .int (q1.2.1 52 (((q1.2.2.1 48 0 0 v2.toNatClampNeg).toInt32).toNatClampNeg) 0 v3.toInt32.toNatClampNeg), .ref (spl 54 v1.1 v1.2), .ref (spl 33 0 0)] μ Q)
    refine jX.sg R g4 (by rfl) (by rfl) (by rfl) (by rfl) (by rfl) (?_ : jX G jP 171 90 lv [.ref (spl 53 (((q1.2.2.1 48 0 0 v2.toNatClampNeg).toInt32).toNatClampNeg) 0), .int (q1.2.1 52 (((q1.2.2.1 48 0 0 v2.toNatClampNeg).toInt32).toNatClampNeg) 0 v3.toInt32.toNatClampNeg), .ref (spl 54 v1.1 v1.2), .ref (spl 33 0 0)] μ Q)
    refine jX.lln l3 (by rfl) (by rfl) (?_ : jX G jP 171 91 lv [.long v3, .ref (spl 53 (((q1.2.2.1 48 0 0 v2.toNatClampNeg).toInt32).toNatClampNeg) 0), .int (q1.2.1 52 (((q1.2.2.1 48 0 0 v2.toNatClampNeg).toInt32).toNatClampNeg) 0 v3.toInt32.toNatClampNeg), .ref (spl 54 v1.1 v1.2), .ref (spl 33 0 0)] μ Q)
    refine jX.go (by rfl) (by rfl) (by rfl) (?_ : jX G jP 171 92 lv [.int v3.toInt32, .ref (spl 53 (((q1.2.2.1 48 0 0 v2.toNatClampNeg).toInt32).toNatClampNeg) 0), .int (q1.2.1 52 (((q1.2.2.1 48 0 0 v2.toNatClampNeg).toInt32).toNatClampNeg) 0 v3.toInt32.toNatClampNeg), .ref (spl 54 v1.1 v1.2), .ref (spl 33 0 0)] μ Q)
    obtain ⟨g7, h⟩ := jif_some h
    obtain ⟨g8, h⟩ := jif_some h
    refine jX.sal R g7 (by rfl) (by rfl) (by rfl) g8 (?_ : jX G jP 171 93 lv [.long (q1.2.2.1 53 (((q1.2.2.1 48 0 0 v2.toNatClampNeg).toInt32).toNatClampNeg) 0 v3.toInt32.toNatClampNeg), .int (q1.2.1 52 (((q1.2.2.1 48 0 0 v2.toNatClampNeg).toInt32).toNatClampNeg) 0 v3.toInt32.toNatClampNeg), .ref (spl 54 v1.1 v1.2), .ref (spl 33 0 0)] μ Q)
    obtain ⟨q9, e9, h⟩ := sbd h
    refine jX.c1 (v := .int q9.1) (by rfl) (by rfl) (by rfl) (by rfl) (by rfl) (by rfl) (by rfl) (R.rec (by rfl) (by rfl)) (Nat.le_of_ble_eq_true rfl) (Nat.le_of_ble_eq_true rfl) (F_157_ok R e9 (fun μ R => ⟨rfl, (?_ : jX G jP 171 96 lv [.int q9.1] μ Q)⟩))
    refine jX.go (by rfl) (by rfl) (by rfl) (?_ : jX G jP 171 97 lv [] μ Q)
    exact jX.ret (by rfl) (by rfl) (by rfl) (by rfl) (sretv (f := srV) h K R)
  · refine jX.b1f hc (by rfl) (by rfl) (by rfl) (?_ : jX G jP 171 60 lv [] μ Q)
    exact jX.ret (by rfl) (by rfl) (by rfl) (by rfl) (sretv (f := srV) h K R)
def F_171_53 (G : jG) (t : Nat) (v1 : (Nat × Nat)) (v2 : Int32) (v3 : Int64) (w0 : (Nat × Nat)) (S : sS) : Option (Unit × sS) := F_171_54 G t v1 v2 v3 (nI 0) w0 S
theorem F_171_53_ok {G : jG} {t : Nat} {r : Unit} {S' : sS} {Q : Option Value ⊕ Nat → jS → Prop} (K : ∀ μ', sR S' μ' → Q (srV r) μ') : ∀ (v1 : (Nat × Nat)) (v2 : Int32) (v3 : Int64) (w0 : (Nat × Nat)) (S : sS) (lv : jL) (μ : jS), jld lv 0 = some (.ref (spl 33 0 0)) → jld lv 1 = some (.ref (spl 54 v1.1 v1.2)) → jld lv 2 = some (.int v2) → jld lv 3 = some (.long v3) → sR S μ → F_171_53 G t v1 v2 v3 w0 S = some (r, S') → jX G jP 171 53 lv [.ref (spl 54 w0.1 w0.2), .ref (spl 33 0 0)] μ Q := by
  intro v1 v2 v3 w0 S lv μ l0 l1 l2 l3 R h
  unfold F_171_53 at h
  refine jX.ic (v := nI 0) (n := 1) (by rfl) (by rfl) (by decide) (?_ : jX G jP 171 54 lv [.int (nI 0), .ref (spl 54 w0.1 w0.2), .ref (spl 33 0 0)] μ Q)
  exact F_171_54_ok  K v1 v2 v3 (nI 0) w0 _ _ _ l0 l1 l2 l3 R h
def F_171 (G : jG) (t : Nat) (v1 : (Nat × Nat)) (v2 : Int32) (v3 : Int64) (S : sS) : Option (Unit × sS) := jif (jin v2 16) (jif (jin v2 16) ((F_170 G t (S.1 47 0 0 v2.toNatClampNeg) (S.2.1 48 0 0 v2.toNatClampNeg) (nI 2) S).bind (fun q3 => bif jcmp .eq q3.1 0 then (F_171_53 G t v1 v2 v3 v1 q3.2) else (bif jcmp .lt (lg_cmp v3 0) 0 then (F_171_53 G t v1 v2 v3 v1 q3.2) else (jif (jin v2 16) (jif (jin ((q3.2.2.1 48 0 0 v2.toNatClampNeg).toInt32) 1300) (jif (sex q3.2.2.2.2.1 51 (((q3.2.2.1 48 0 0 v2.toNatClampNeg).toInt32).toNatClampNeg) 0) (bif jcmp .ge (lg_cmp v3 ((q3.2.1 51 (((q3.2.2.1 48 0 0 v2.toNatClampNeg).toInt32).toNatClampNeg) 0 1).toInt64)) 0 then (F_171_53 G t v1 v2 v3 v1 q3.2) else (F_171_54 G t v1 v2 v3 (nI 1) v1 q3.2)))))))))
theorem F_171_ok {G : jG} {t : Nat} {v1 : (Nat × Nat)} {v2 : Int32} {v3 : Int64} {S : sS} {r : Unit} {S' : sS} {μ : jS} {Q : Option Value ⊕ Nat → jS → Prop} (R : sR S μ) (h : F_171 G t v1 v2 v3 S = some (r, S')) (K : ∀ μ', sR S' μ' → Q (srV r) μ') : jX G jP 171 0 (lv_args 0 [.ref (spl 33 0 0), .ref (spl 54 v1.1 v1.2), .int v2, .long v3]) [] μ Q := by
  unfold F_171 at h
  have l0 : jld (lv_args 0 [.ref (spl 33 0 0), .ref (spl 54 v1.1 v1.2), .int v2, .long v3]) 0 = some (.ref (spl 33 0 0)) := by rfl
  have l1 : jld (lv_args 0 [.ref (spl 33 0 0), .ref (spl 54 v1.1 v1.2), .int v2, .long v3]) 1 = some (.ref (spl 54 v1.1 v1.2)) := by rfl
  have l2 : jld (lv_args 0 [.ref (spl 33 0 0), .ref (spl 54 v1.1 v1.2), .int v2, .long v3]) 2 = some (.int v2) := by rfl
  have l3 : jld (lv_args 0 [.ref (spl 33 0 0), .ref (spl 54 v1.1 v1.2), .int v2, .long v3]) 3 = some (.long v3) := by rfl
  generalize lv_args 0 [.ref (spl 33 0 0), .ref (spl 54 v1.1 v1.2), .int v2, .long v3] = lv at *
  refine jX.lrn l0 (by rfl) (by rfl) (?_ : jX G jP 171 1 lv [.ref (spl 33 0 0)] μ Q)
  refine jX.lrn l1 (by rfl) (by rfl) (?_ : jX G jP 171 2 lv [.ref (spl 54 v1.1 v1.2), .ref (spl 33 0 0)] μ Q)
  refine jX.lrn l0 (by rfl) (by rfl) (?_ : jX G jP 171 3 lv [.ref (spl 33 0 0), .ref (spl 54 v1.1 v1.2), .ref (spl 33 0 0)] μ Q)
  refine jX.lrn l0 (by rfl) (by rfl) (?_ : jX G jP 171 4 lv [.ref (spl 33 0 0), .ref (spl 33 0 0), .ref (spl 54 v1.1 v1.2), .ref (spl 33 0 0)] μ Q)
  refine jX.sg R (by rfl) (by rfl) (by rfl) (by rfl) (by rfl) (by rfl) (?_ : jX G jP 171 7 lv [.ref (spl 47 0 0), .ref (spl 33 0 0), .ref (spl 54 v1.1 v1.2), .ref (spl 33 0 0)] μ Q)
  refine jX.lin l2 (by rfl) (by rfl) (?_ : jX G jP 171 8 lv [.int v2, .ref (spl 47 0 0), .ref (spl 33 0 0), .ref (spl 54 v1.1 v1.2), .ref (spl 33 0 0)] μ Q)
  obtain ⟨g1, h⟩ := jif_some h
  refine jX.sai R (by rfl) (by rfl) (by rfl) (by rfl) g1 (?_ : jX G jP 171 9 lv [.int (S.1 47 0 0 v2.toNatClampNeg), .ref (spl 33 0 0), .ref (spl 54 v1.1 v1.2), .ref (spl 33 0 0)] μ Q)
  refine jX.lrn l0 (by rfl) (by rfl) (?_ : jX G jP 171 10 lv [.ref (spl 33 0 0), .int (S.1 47 0 0 v2.toNatClampNeg), .ref (spl 33 0 0), .ref (spl 54 v1.1 v1.2), .ref (spl 33 0 0)] μ Q)
  refine jX.sg R (by rfl) (by rfl) (by rfl) (by rfl) (by rfl) (by rfl) (?_ : jX G jP 171 13 lv [.ref (spl 48 0 0), .int (S.1 47 0 0 v2.toNatClampNeg), .ref (spl 33 0 0), .ref (spl 54 v1.1 v1.2), .ref (spl 33 0 0)] μ Q)
  refine jX.lin l2 (by rfl) (by rfl) (?_ : jX G jP 171 14 lv [.int v2, .ref (spl 48 0 0), .int (S.1 47 0 0 v2.toNatClampNeg), .ref (spl 33 0 0), .ref (spl 54 v1.1 v1.2), .ref (spl 33 0 0)] μ Q)
  obtain ⟨g2, h⟩ := jif_some h
  refine jX.sal R (by rfl) (by rfl) (by rfl) (by rfl) g2 (?_ : jX G jP 171 15 lv [.long (S.2.1 48 0 0 v2.toNatClampNeg), .int (S.1 47 0 0 v2.toNatClampNeg), .ref (spl 33 0 0), .ref (spl 54 v1.1 v1.2), .ref (spl 33 0 0)] μ Q)
  refine jX.ic (v := nI 2) (n := 1) (by rfl) (by rfl) (by decide) (?_ : jX G jP 171 16 lv [.int (nI 2), .long (S.2.1 48 0 0 v2.toNatClampNeg), .int (S.1 47 0 0 v2.toNatClampNeg), .ref (spl 33 0 0), .ref (spl 54 v1.1 v1.2), .ref (spl 33 0 0)] μ Q)
  obtain ⟨q3, e3, h⟩ := sbd h
  refine jX.c1 (v := .int q3.1) (by rfl) (by rfl) (by rfl) (by rfl) (by rfl) (by rfl) (by rfl) (R.rec (by rfl) (by rfl)) (Nat.le_of_ble_eq_true rfl) (Nat.le_of_ble_eq_true rfl) (F_170_ok R e3 (fun μ R => ⟨rfl, (?_ : jX G jP 171 19 lv [.int q3.1, .ref (spl 54 v1.1 v1.2), .ref (spl 33 0 0)] μ Q)⟩))
  rcases bif_or h with ⟨hc, h⟩ | ⟨hc, h⟩
  · refine jX.b1t hc (by rfl) (by rfl) (by rfl) (?_ : jX G jP 171 53 lv [.ref (spl 54 v1.1 v1.2), .ref (spl 33 0 0)] μ Q)
    exact F_171_53_ok  K v1 v2 v3 v1 _ _ _ l0 l1 l2 l3 R h
  · refine jX.b1f hc (by rfl) (by rfl) (by rfl) (?_ : jX G jP 171 22 lv [.ref (spl 54 v1.1 v1.2), .ref (spl 33 0 0)] μ Q)
    refine jX.lln l3 (by rfl) (by rfl) (?_ : jX G jP 171 23 lv [.long v3, .ref (spl 54 v1.1 v1.2), .ref (spl 33 0 0)] μ Q)
    refine jX.go (by rfl) (by rfl) (by rfl) (?_ : jX G jP 171 24 lv [.long 0, .long v3, .ref (spl 54 v1.1 v1.2), .ref (spl 33 0 0)] μ Q)
    refine jX.go (by rfl) (by rfl) (by rfl) (?_ : jX G jP 171 25 lv [.int (lg_cmp v3 0), .ref (spl 54 v1.1 v1.2), .ref (spl 33 0 0)] μ Q)
    rcases bif_or h with ⟨hc, h⟩ | ⟨hc, h⟩
    · refine jX.b1t hc (by rfl) (by rfl) (by rfl) (?_ : jX G jP 171 53 lv [.ref (spl 54 v1.1 v1.2), .ref (spl 33 0 0)] μ Q)
      exact F_171_53_ok  K v1 v2 v3 v1 _ _ _ l0 l1 l2 l3 R h
    · refine jX.b1f hc (by rfl) (by rfl) (by rfl) (?_ : jX G jP 171 28 lv [.ref (spl 54 v1.1 v1.2), .ref (spl 33 0 0)] μ Q)
      refine jX.lln l3 (by rfl) (by rfl) (?_ : jX G jP 171 29 lv [.long v3, .ref (spl 54 v1.1 v1.2), .ref (spl 33 0 0)] μ Q)
      refine jX.lrn l0 (by rfl) (by rfl) (?_ : jX G jP 171 30 lv [.ref (spl 33 0 0), .long v3, .ref (spl 54 v1.1 v1.2), .ref (spl 33 0 0)] μ Q)
      refine jX.sg R (by rfl) (by rfl) (by rfl) (by rfl) (by rfl) (by rfl) (?_ : jX G jP 171 33 lv [.ref (spl 34 0 0), .long v3, .ref (spl 54 v1.1 v1.2), .ref (spl 33 0 0)] μ Q)
      refine jX.lrn l0 (by rfl) (by rfl) (?_ : jX G jP 171 34 lv [.ref (spl 33 0 0), .ref (spl 34 0 0), .long v3, .ref (spl 54 v1.1 v1.2), .ref (spl 33 0 0)] μ Q)
      refine jX.sg R (by rfl) (by rfl) (by rfl) (by rfl) (by rfl) (by rfl) (?_ : jX G jP 171 37 lv [.ref (spl 48 0 0), .ref (spl 34 0 0), .long v3, .ref (spl 54 v1.1 v1.2), .ref (spl 33 0 0)] μ Q)
      refine jX.lin l2 (by rfl) (by rfl) (?_ : jX G jP 171 38 lv [.int v2, .ref (spl 48 0 0), .ref (spl 34 0 0), .long v3, .ref (spl 54 v1.1 v1.2), .ref (spl 33 0 0)] μ Q)
      obtain ⟨g4, h⟩ := jif_some h
      refine jX.sal R (by rfl) (by rfl) (by rfl) (by rfl) g4 (?_ : jX G jP 171 39 lv [.long (q3.2.2.1 48 0 0 v2.toNatClampNeg), .ref (spl 34 0 0), .long v3, .ref (spl 54 v1.1 v1.2), .ref (spl 33 0 0)] μ Q)
      refine jX.go (by rfl) (by rfl) (by rfl) (?_ : jX G jP 171 40 lv [.int ((q3.2.2.1 48 0 0 v2.toNatClampNeg).toInt32), .ref (spl 34 0 0), .long v3, .ref (spl 54 v1.1 v1.2), .ref (spl 33 0 0)] μ Q)
      obtain ⟨g5, h⟩ := jif_some h
      refine jX.sar (f := fun q => bif Nat.blt q 1300 then some (spl 51 q 0) else none) R (by rfl) (by rfl) (by rfl) (by rfl) g5 (srf_in g5) (?_ : jX G jP 171 41 lv [.ref (spl 51 (((q3.2.2.1 48 0 0 v2.toNatClampNeg).toInt32).toNatClampNeg) 0), .long v3, .ref (spl 54 v1.1 v1.2), .ref (spl 33 0 0)] μ Q)
      obtain ⟨g6, h⟩ := jif_some h
      refine jX.sg R g6 (by rfl) (by rfl) (by rfl) (by rfl) (by rfl) (?_ : jX G jP 171 44 lv [.int (q3.2.1 51 (((q3.2.2.1 48 0 0 v2.toNatClampNeg).toInt32).toNatClampNeg) 0 1), .long v3, .ref (spl 54 v1.1 v1.2), .ref (spl 33 0 0)] μ Q)
      refine jX.go (by rfl) (by rfl) (by rfl) (?_ : jX G jP 171 45 lv [.long ((q3.2.1 51 (((q3.2.2.1 48 0 0 v2.toNatClampNeg).toInt32).toNatClampNeg) 0 1).toInt64), .long v3, .ref (spl 54 v1.1 v1.2), .ref (spl 33 0 0)] μ Q)
      refine jX.go (by rfl) (by rfl) (by rfl) (?_ : jX G jP 171 46 lv [.int (lg_cmp v3 ((q3.2.1 51 (((q3.2.2.1 48 0 0 v2.toNatClampNeg).toInt32).toNatClampNeg) 0 1).toInt64)), .ref (spl 54 v1.1 v1.2), .ref (spl 33 0 0)] μ Q)
      rcases bif_or h with ⟨hc, h⟩ | ⟨hc, h⟩
      · refine jX.b1t hc (by rfl) (by rfl) (by rfl) (?_ : jX G jP 171 53 lv [.ref (spl 54 v1.1 v1.2), .ref (spl 33 0 0)] μ Q)
        exact F_171_53_ok  K v1 v2 v3 v1 _ _ _ l0 l1 l2 l3 R h
      · refine jX.b1f hc (by rfl) (by rfl) (by rfl) (?_ : jX G jP 171 49 lv [.ref (spl 54 v1.1 v1.2), .ref (spl 33 0 0)] μ Q)
        refine jX.ic (v := nI 1) (n := 1) (by rfl) (by rfl) (by decide) (?_ : jX G jP 171 50 lv [.int (nI 1), .ref (spl 54 v1.1 v1.2), .ref (spl 33 0 0)] μ Q)
        refine jX.go (by rfl) (by rfl) (by rfl) (?_ : jX G jP 171 54 lv [.int (nI 1), .ref (spl 54 v1.1 v1.2), .ref (spl 33 0 0)] μ Q)
        exact F_171_54_ok  K v1 v2 v3 (nI 1) v1 _ _ _ l0 l1 l2 l3 R h
/-! 172 StrandRuntimeModel.become(LStrandRuntimeModel$Strand;IJ)V -/
def F_172_54 (G : jG) (t : Nat) (v2 : Int32) (v3 : Int64) (w0 : Int32) (w1 : (Nat × Nat)) (S : sS) : Option (Unit × sS) := (F_158 G t w1 w0 S).bind (fun q1 => bif jcmp .ne q1.1 0 then (jif (jin v2 16) (jif (jin ((q1.2.2.1 48 0 0 v2.toNatClampNeg).toInt32) 1300) (jif (sex q1.2.2.2.2.1 51 (((q1.2.2.1 48 0 0 v2.toNatClampNeg).toInt32).toNatClampNeg) 0) (jif (jin (nI 0) 16) (jif (sex q1.2.2.2.2.1 52 (((q1.2.2.1 48 0 0 v2.toNatClampNeg).toInt32).toNatClampNeg) 0) (jif (jin v3.toInt32 16) (jif (jin (nI 0) 16) (jif (sex (siI q1.2 52 (((q1.2.2.1 48 0 0 v2.toNatClampNeg).toInt32).toNatClampNeg) 0 v3.toInt32.toNatClampNeg (q1.2.1 47 0 0 (nI 0).toNatClampNeg)).2.2.2.1 53 (((q1.2.2.1 48 0 0 v2.toNatClampNeg).toInt32).toNatClampNeg) 0) (jif (jin v3.toInt32 16) (some ((), (siL (siI q1.2 52 (((q1.2.2.1 48 0 0 v2.toNatClampNeg).toInt32).toNatClampNeg) 0 v3.toInt32.toNatClampNeg (q1.2.1 47 0 0 (nI 0).toNatClampNeg)) 53 (((q1.2.2.1 48 0 0 v2.toNatClampNeg).toInt32).toNatClampNeg) 0 v3.toInt32.toNatClampNeg ((siI q1.2 52 (((q1.2.2.1 48 0 0 v2.toNatClampNeg).toInt32).toNatClampNeg) 0 v3.toInt32.toNatClampNeg (q1.2.1 47 0 0 (nI 0).toNatClampNeg)).2.1 48 0 0 (nI 0).toNatClampNeg))))))))))))) else (some ((), q1.2)))
theorem F_172_54_ok {G : jG} {t : Nat} {r : Unit} {S' : sS} {Q : Option Value ⊕ Nat → jS → Prop} (K : ∀ μ', sR S' μ' → Q (srV r) μ') : ∀ (v2 : Int32) (v3 : Int64) (w0 : Int32) (w1 : (Nat × Nat)) (S : sS) (lv : jL) (μ : jS), jld lv 0 = some (.ref (spl 33 0 0)) → jld lv 2 = some (.int v2) → jld lv 3 = some (.long v3) → sR S μ → F_172_54 G t v2 v3 w0 w1 S = some (r, S') → jX G jP 172 54 lv [.int w0, .ref (spl 54 w1.1 w1.2), .ref (spl 33 0 0)] μ Q := by
  intro v2 v3 w0 w1 S lv μ l0 l2 l3 R h
  unfold F_172_54 at h
  obtain ⟨q1, e1, h⟩ := sbd h
  refine jX.c1 (v := .int q1.1) (by rfl) (by rfl) (by rfl) (by rfl) (by rfl) (by rfl) (by rfl) (R.rec (by rfl) (by rfl)) (Nat.le_of_ble_eq_true rfl) (Nat.le_of_ble_eq_true rfl) (F_158_ok R e1 (fun μ R => ⟨rfl, (?_ : jX G jP 172 57 lv [.int q1.1] μ Q)⟩))
  rcases bif_or h with ⟨hc, h⟩ | ⟨hc, h⟩
  · refine jX.b1t hc (by rfl) (by rfl) (by rfl) (?_ : jX G jP 172 61 lv [] μ Q)
    refine jX.lrn l0 (by rfl) (by rfl) (?_ : jX G jP 172 62 lv [.ref (spl 33 0 0)] μ Q)
    refine jX.sg R (by rfl) (by rfl) (by rfl) (by rfl) (by rfl) (by rfl) (?_ : jX G jP 172 65 lv [.ref (spl 34 0 0)] μ Q)
    refine jX.lrn l0 (by rfl) (by rfl) (?_ : jX G jP 172 66 lv [.ref (spl 33 0 0), .ref (spl 34 0 0)] μ Q)
    refine jX.sg R (by rfl) (by rfl) (by rfl) (by rfl) (by rfl) (by rfl) (?_ : jX G jP 172 69 lv [.ref (spl 48 0 0), .ref (spl 34 0 0)] μ Q)
    refine jX.lin l2 (by rfl) (by rfl) (?_ : jX G jP 172 70 lv [.int v2, .ref (spl 48 0 0), .ref (spl 34 0 0)] μ Q)
    obtain ⟨g2, h⟩ := jif_some h
    refine jX.sal R (by rfl) (by rfl) (by rfl) (by rfl) g2 (?_ : jX G jP 172 71 lv [.long (q1.2.2.1 48 0 0 v2.toNatClampNeg), .ref (spl 34 0 0)] μ Q)
    refine jX.go (by rfl) (by rfl) (by rfl) (?_ : jX G jP 172 72 lv [.int ((q1.2.2.1 48 0 0 v2.toNatClampNeg).toInt32), .ref (spl 34 0 0)] μ Q)
    obtain ⟨g3, h⟩ := jif_some h
    refine jX.sar (f := fun q => bif Nat.blt q 1300 then some (spl 51 q 0) else none) R (by rfl) (by rfl) (by rfl) (by rfl) g3 (srf_in g3) (?_ : jX G jP 172 73 lv [.ref (spl 51 (((q1.2.2.1 48 0 0 v2.toNatClampNeg).toInt32).toNatClampNeg) 0)] μ Q)
    refine jX.s1 (k := 5) (pc' := 75) (by rfl) (by rfl) (by rfl) (fun lv l5 kp => (?_ : jX G jP 172 75 lv [] μ Q))
    replace l0 := kp 0 _ l0 (by rfl) (by first | rfl | simp [soR_cat])
    replace l3 := kp 3 _ l3 (by rfl) (by first | rfl | simp [soR_cat])
    refine jX.lr l5 (by rfl) (by rfl) (?_ : jX G jP 172 77 lv [.ref (spl 51 (((q1.2.2.1 48 0 0 v2.toNatClampNeg).toInt32).toNatClampNeg) 0)] μ Q)
    obtain ⟨g4, h⟩ := jif_some h
    refine jX.sg R g4 (by rfl) (by rfl) (by rfl) (by rfl) (by rfl) (?_ : jX G jP 172 80 lv [.ref (spl 52 (((q1.2.2.1 48 0 0 v2.toNatClampNeg).toInt32).toNatClampNeg) 0)] μ Q)
    refine jX.lln l3 (by rfl) (by rfl) (?_ : jX G jP 172 81 lv [.long v3, .ref (spl 52 (((q1.2.2.1 48 0 0 v2.toNatClampNeg).toInt32).toNatClampNeg) 0)] μ Q)
    refine jX.go (by rfl) (by rfl) (by rfl) (?_ : jX G jP 172 82 lv [.int v3.toInt32, .ref (spl 52 (((q1.2.2.1 48 0 0 v2.toNatClampNeg).toInt32).toNatClampNeg) 0)] μ Q)
    refine jX.lrn l0 (by rfl) (by rfl) (?_ : jX G jP 172 83 lv [.ref (spl 33 0 0), .int v3.toInt32, .ref (spl 52 (((q1.2.2.1 48 0 0 v2.toNatClampNeg).toInt32).toNatClampNeg) 0)] μ Q)
    refine jX.sg R (by rfl) (by rfl) (by rfl) (by rfl) (by rfl) (by rfl) (?_ : jX G jP 172 86 lv [.ref (spl 47 0 0), .int v3.toInt32, .ref (spl 52 (((q1.2.2.1 48 0 0 v2.toNatClampNeg).toInt32).toNatClampNeg) 0)] μ Q)
    refine jX.ic (v := nI 0) (n := 1) (by rfl) (by rfl) (by decide) (?_ : jX G jP 172 87 lv [.int (nI 0), .ref (spl 47 0 0), .int v3.toInt32, .ref (spl 52 (((q1.2.2.1 48 0 0 v2.toNatClampNeg).toInt32).toNatClampNeg) 0)] μ Q)
    obtain ⟨g5, h⟩ := jif_some h
    refine jX.sai R (by rfl) (by rfl) (by rfl) (by rfl) g5 (?_ : jX G jP 172 88 lv [.int (q1.2.1 47 0 0 (nI 0).toNatClampNeg), .int v3.toInt32, .ref (spl 52 (((q1.2.2.1 48 0 0 v2.toNatClampNeg).toInt32).toNatClampNeg) 0)] μ Q)
    obtain ⟨g6, h⟩ := jif_some h
    obtain ⟨g7, h⟩ := jif_some h
    refine jX.sti R g6 (by rfl) (by rfl) (fun _ => by rfl) g7 (fun μ R => (?_ : jX G jP 172 89 lv [] μ Q))
    refine jX.lr l5 (by rfl) (by rfl) (?_ : jX G jP 172 91 lv [.ref (spl 51 (((q1.2.2.1 48 0 0 v2.toNatClampNeg).toInt32).toNatClampNeg) 0)] μ Q)
    refine jX.sg R g4 (by rfl) (by rfl) (by rfl) (by rfl) (by rfl) (?_ : jX G jP 172 94 lv [.ref (spl 53 (((q1.2.2.1 48 0 0 v2.toNatClampNeg).toInt32).toNatClampNeg) 0)] μ Q)
    refine jX.lln l3 (by rfl) (by rfl) (?_ : jX G jP 172 95 lv [.long v3, .ref (spl 53 (((q1.2.2.1 48 0 0 v2.toNatClampNeg).toInt32).toNatClampNeg) 0)] μ Q)
    refine jX.go (by rfl) (by rfl) (by rfl) (?_ : jX G jP 172 96 lv [.int v3.toInt32, .ref (spl 53 (((q1.2.2.1 48 0 0 v2.toNatClampNeg).toInt32).toNatClampNeg) 0)] μ Q)
    refine jX.lrn l0 (by rfl) (by rfl) (?_ : jX G jP 172 97 lv [.ref (spl 33 0 0), .int v3.toInt32, .ref (spl 53 (((q1.2.2.1 48 0 0 v2.toNatClampNeg).toInt32).toNatClampNeg) 0)] μ Q)
    refine jX.sg R (by rfl) (by rfl) (by rfl) (by rfl) (by rfl) (by rfl) (?_ : jX G jP 172 100 lv [.ref (spl 48 0 0), .int v3.toInt32, .ref (spl 53 (((q1.2.2.1 48 0 0 v2.toNatClampNeg).toInt32).toNatClampNeg) 0)] μ Q)
    refine jX.ic (v := nI 0) (n := 1) (by rfl) (by rfl) (by decide) (?_ : jX G jP 172 101 lv [.int (nI 0), .ref (spl 48 0 0), .int v3.toInt32, .ref (spl 53 (((q1.2.2.1 48 0 0 v2.toNatClampNeg).toInt32).toNatClampNeg) 0)] μ Q)
    obtain ⟨g8, h⟩ := jif_some h
    refine jX.sal R (by rfl) (by rfl) (by rfl) (by rfl) g8 (?_ : jX G jP 172 102 lv [.long ((siI q1.2 52 (((q1.2.2.1 48 0 0 v2.toNatClampNeg).toInt32).toNatClampNeg) 0 v3.toInt32.toNatClampNeg (q1.2.1 47 0 0 (nI 0).toNatClampNeg)).2.1 48 0 0 (nI 0).toNatClampNeg), .int v3.toInt32, .ref (spl 53 (((q1.2.2.1 48 0 0 v2.toNatClampNeg).toInt32).toNatClampNeg) 0)] μ Q)
    obtain ⟨g9, h⟩ := jif_some h
    obtain ⟨g10, h⟩ := jif_some h
    refine jX.stl R g9 (by rfl) (by rfl) (fun _ => by rfl) g10 (fun μ R => (?_ : jX G jP 172 103 lv [] μ Q))
    exact jX.ret (by rfl) (by rfl) (by rfl) (by rfl) (sretv (f := srV) h K R)
  · refine jX.b1f hc (by rfl) (by rfl) (by rfl) (?_ : jX G jP 172 60 lv [] μ Q)
    exact jX.ret (by rfl) (by rfl) (by rfl) (by rfl) (sretv (f := srV) h K R)
def F_172_53 (G : jG) (t : Nat) (v2 : Int32) (v3 : Int64) (w0 : (Nat × Nat)) (S : sS) : Option (Unit × sS) := F_172_54 G t v2 v3 (nI 0) w0 S
theorem F_172_53_ok {G : jG} {t : Nat} {r : Unit} {S' : sS} {Q : Option Value ⊕ Nat → jS → Prop} (K : ∀ μ', sR S' μ' → Q (srV r) μ') : ∀ (v2 : Int32) (v3 : Int64) (w0 : (Nat × Nat)) (S : sS) (lv : jL) (μ : jS), jld lv 0 = some (.ref (spl 33 0 0)) → jld lv 2 = some (.int v2) → jld lv 3 = some (.long v3) → sR S μ → F_172_53 G t v2 v3 w0 S = some (r, S') → jX G jP 172 53 lv [.ref (spl 54 w0.1 w0.2), .ref (spl 33 0 0)] μ Q := by
  intro v2 v3 w0 S lv μ l0 l2 l3 R h
  unfold F_172_53 at h
  refine jX.ic (v := nI 0) (n := 1) (by rfl) (by rfl) (by decide) (?_ : jX G jP 172 54 lv [.int (nI 0), .ref (spl 54 w0.1 w0.2), .ref (spl 33 0 0)] μ Q)
  exact F_172_54_ok  K v2 v3 (nI 0) w0 _ _ _ l0 l2 l3 R h
def F_172 (G : jG) (t : Nat) (v1 : (Nat × Nat)) (v2 : Int32) (v3 : Int64) (S : sS) : Option (Unit × sS) := jif (jin v2 16) (jif (jin v2 16) ((F_170 G t (S.1 47 0 0 v2.toNatClampNeg) (S.2.1 48 0 0 v2.toNatClampNeg) (nI 2) S).bind (fun q3 => bif jcmp .eq q3.1 0 then (F_172_53 G t v2 v3 v1 q3.2) else (bif jcmp .lt (lg_cmp v3 0) 0 then (F_172_53 G t v2 v3 v1 q3.2) else (jif (jin v2 16) (jif (jin ((q3.2.2.1 48 0 0 v2.toNatClampNeg).toInt32) 1300) (jif (sex q3.2.2.2.2.1 51 (((q3.2.2.1 48 0 0 v2.toNatClampNeg).toInt32).toNatClampNeg) 0) (bif jcmp .ge (lg_cmp v3 ((q3.2.1 51 (((q3.2.2.1 48 0 0 v2.toNatClampNeg).toInt32).toNatClampNeg) 0 1).toInt64)) 0 then (F_172_53 G t v2 v3 v1 q3.2) else (F_172_54 G t v2 v3 (nI 1) v1 q3.2)))))))))
theorem F_172_ok {G : jG} {t : Nat} {v1 : (Nat × Nat)} {v2 : Int32} {v3 : Int64} {S : sS} {r : Unit} {S' : sS} {μ : jS} {Q : Option Value ⊕ Nat → jS → Prop} (R : sR S μ) (h : F_172 G t v1 v2 v3 S = some (r, S')) (K : ∀ μ', sR S' μ' → Q (srV r) μ') : jX G jP 172 0 (lv_args 0 [.ref (spl 33 0 0), .ref (spl 54 v1.1 v1.2), .int v2, .long v3]) [] μ Q := by
  unfold F_172 at h
  have l0 : jld (lv_args 0 [.ref (spl 33 0 0), .ref (spl 54 v1.1 v1.2), .int v2, .long v3]) 0 = some (.ref (spl 33 0 0)) := by rfl
  have l1 : jld (lv_args 0 [.ref (spl 33 0 0), .ref (spl 54 v1.1 v1.2), .int v2, .long v3]) 1 = some (.ref (spl 54 v1.1 v1.2)) := by rfl
  have l2 : jld (lv_args 0 [.ref (spl 33 0 0), .ref (spl 54 v1.1 v1.2), .int v2, .long v3]) 2 = some (.int v2) := by rfl
  have l3 : jld (lv_args 0 [.ref (spl 33 0 0), .ref (spl 54 v1.1 v1.2), .int v2, .long v3]) 3 = some (.long v3) := by rfl
  generalize lv_args 0 [.ref (spl 33 0 0), .ref (spl 54 v1.1 v1.2), .int v2, .long v3] = lv at *
  refine jX.lrn l0 (by rfl) (by rfl) (?_ : jX G jP 172 1 lv [.ref (spl 33 0 0)] μ Q)
  refine jX.lrn l1 (by rfl) (by rfl) (?_ : jX G jP 172 2 lv [.ref (spl 54 v1.1 v1.2), .ref (spl 33 0 0)] μ Q)
  refine jX.lrn l0 (by rfl) (by rfl) (?_ : jX G jP 172 3 lv [.ref (spl 33 0 0), .ref (spl 54 v1.1 v1.2), .ref (spl 33 0 0)] μ Q)
  refine jX.lrn l0 (by rfl) (by rfl) (?_ : jX G jP 172 4 lv [.ref (spl 33 0 0), .ref (spl 33 0 0), .ref (spl 54 v1.1 v1.2), .ref (spl 33 0 0)] μ Q)
  refine jX.sg R (by rfl) (by rfl) (by rfl) (by rfl) (by rfl) (by rfl) (?_ : jX G jP 172 7 lv [.ref (spl 47 0 0), .ref (spl 33 0 0), .ref (spl 54 v1.1 v1.2), .ref (spl 33 0 0)] μ Q)
  refine jX.lin l2 (by rfl) (by rfl) (?_ : jX G jP 172 8 lv [.int v2, .ref (spl 47 0 0), .ref (spl 33 0 0), .ref (spl 54 v1.1 v1.2), .ref (spl 33 0 0)] μ Q)
  obtain ⟨g1, h⟩ := jif_some h
  refine jX.sai R (by rfl) (by rfl) (by rfl) (by rfl) g1 (?_ : jX G jP 172 9 lv [.int (S.1 47 0 0 v2.toNatClampNeg), .ref (spl 33 0 0), .ref (spl 54 v1.1 v1.2), .ref (spl 33 0 0)] μ Q)
  refine jX.lrn l0 (by rfl) (by rfl) (?_ : jX G jP 172 10 lv [.ref (spl 33 0 0), .int (S.1 47 0 0 v2.toNatClampNeg), .ref (spl 33 0 0), .ref (spl 54 v1.1 v1.2), .ref (spl 33 0 0)] μ Q)
  refine jX.sg R (by rfl) (by rfl) (by rfl) (by rfl) (by rfl) (by rfl) (?_ : jX G jP 172 13 lv [.ref (spl 48 0 0), .int (S.1 47 0 0 v2.toNatClampNeg), .ref (spl 33 0 0), .ref (spl 54 v1.1 v1.2), .ref (spl 33 0 0)] μ Q)
  refine jX.lin l2 (by rfl) (by rfl) (?_ : jX G jP 172 14 lv [.int v2, .ref (spl 48 0 0), .int (S.1 47 0 0 v2.toNatClampNeg), .ref (spl 33 0 0), .ref (spl 54 v1.1 v1.2), .ref (spl 33 0 0)] μ Q)
  obtain ⟨g2, h⟩ := jif_some h
  refine jX.sal R (by rfl) (by rfl) (by rfl) (by rfl) g2 (?_ : jX G jP 172 15 lv [.long (S.2.1 48 0 0 v2.toNatClampNeg), .int (S.1 47 0 0 v2.toNatClampNeg), .ref (spl 33 0 0), .ref (spl 54 v1.1 v1.2), .ref (spl 33 0 0)] μ Q)
  refine jX.ic (v := nI 2) (n := 1) (by rfl) (by rfl) (by decide) (?_ : jX G jP 172 16 lv [.int (nI 2), .long (S.2.1 48 0 0 v2.toNatClampNeg), .int (S.1 47 0 0 v2.toNatClampNeg), .ref (spl 33 0 0), .ref (spl 54 v1.1 v1.2), .ref (spl 33 0 0)] μ Q)
  obtain ⟨q3, e3, h⟩ := sbd h
  refine jX.c1 (v := .int q3.1) (by rfl) (by rfl) (by rfl) (by rfl) (by rfl) (by rfl) (by rfl) (R.rec (by rfl) (by rfl)) (Nat.le_of_ble_eq_true rfl) (Nat.le_of_ble_eq_true rfl) (F_170_ok R e3 (fun μ R => ⟨rfl, (?_ : jX G jP 172 19 lv [.int q3.1, .ref (spl 54 v1.1 v1.2), .ref (spl 33 0 0)] μ Q)⟩))
  rcases bif_or h with ⟨hc, h⟩ | ⟨hc, h⟩
  · refine jX.b1t hc (by rfl) (by rfl) (by rfl) (?_ : jX G jP 172 53 lv [.ref (spl 54 v1.1 v1.2), .ref (spl 33 0 0)] μ Q)
    exact F_172_53_ok  K v2 v3 v1 _ _ _ l0 l2 l3 R h
  · refine jX.b1f hc (by rfl) (by rfl) (by rfl) (?_ : jX G jP 172 22 lv [.ref (spl 54 v1.1 v1.2), .ref (spl 33 0 0)] μ Q)
    refine jX.lln l3 (by rfl) (by rfl) (?_ : jX G jP 172 23 lv [.long v3, .ref (spl 54 v1.1 v1.2), .ref (spl 33 0 0)] μ Q)
    refine jX.go (by rfl) (by rfl) (by rfl) (?_ : jX G jP 172 24 lv [.long 0, .long v3, .ref (spl 54 v1.1 v1.2), .ref (spl 33 0 0)] μ Q)
    refine jX.go (by rfl) (by rfl) (by rfl) (?_ : jX G jP 172 25 lv [.int (lg_cmp v3 0), .ref (spl 54 v1.1 v1.2), .ref (spl 33 0 0)] μ Q)
    rcases bif_or h with ⟨hc, h⟩ | ⟨hc, h⟩
    · refine jX.b1t hc (by rfl) (by rfl) (by rfl) (?_ : jX G jP 172 53 lv [.ref (spl 54 v1.1 v1.2), .ref (spl 33 0 0)] μ Q)
      exact F_172_53_ok  K v2 v3 v1 _ _ _ l0 l2 l3 R h
    · refine jX.b1f hc (by rfl) (by rfl) (by rfl) (?_ : jX G jP 172 28 lv [.ref (spl 54 v1.1 v1.2), .ref (spl 33 0 0)] μ Q)
      refine jX.lln l3 (by rfl) (by rfl) (?_ : jX G jP 172 29 lv [.long v3, .ref (spl 54 v1.1 v1.2), .ref (spl 33 0 0)] μ Q)
      refine jX.lrn l0 (by rfl) (by rfl) (?_ : jX G jP 172 30 lv [.ref (spl 33 0 0), .long v3, .ref (spl 54 v1.1 v1.2), .ref (spl 33 0 0)] μ Q)
      refine jX.sg R (by rfl) (by rfl) (by rfl) (by rfl) (by rfl) (by rfl) (?_ : jX G jP 172 33 lv [.ref (spl 34 0 0), .long v3, .ref (spl 54 v1.1 v1.2), .ref (spl 33 0 0)] μ Q)
      refine jX.lrn l0 (by rfl) (by rfl) (?_ : jX G jP 172 34 lv [.ref (spl 33 0 0), .ref (spl 34 0 0), .long v3, .ref (spl 54 v1.1 v1.2), .ref (spl 33 0 0)] μ Q)
      refine jX.sg R (by rfl) (by rfl) (by rfl) (by rfl) (by rfl) (by rfl) (?_ : jX G jP 172 37 lv [.ref (spl 48 0 0), .ref (spl 34 0 0), .long v3, .ref (spl 54 v1.1 v1.2), .ref (spl 33 0 0)] μ Q)
      refine jX.lin l2 (by rfl) (by rfl) (?_ : jX G jP 172 38 lv [.int v2, .ref (spl 48 0 0), .ref (spl 34 0 0), .long v3, .ref (spl 54 v1.1 v1.2), .ref (spl 33 0 0)] μ Q)
      obtain ⟨g4, h⟩ := jif_some h
      refine jX.sal R (by rfl) (by rfl) (by rfl) (by rfl) g4 (?_ : jX G jP 172 39 lv [.long (q3.2.2.1 48 0 0 v2.toNatClampNeg), .ref (spl 34 0 0), .long v3, .ref (spl 54 v1.1 v1.2), .ref (spl 33 0 0)] μ Q)
      refine jX.go (by rfl) (by rfl) (by rfl) (?_ : jX G jP 172 40 lv [.int ((q3.2.2.1 48 0 0 v2.toNatClampNeg).toInt32), .ref (spl 34 0 0), .long v3, .ref (spl 54 v1.1 v1.2), .ref (spl 33 0 0)] μ Q)
      obtain ⟨g5, h⟩ := jif_some h
      refine jX.sar (f := fun q => bif Nat.blt q 1300 then some (spl 51 q 0) else none) R (by rfl) (by rfl) (by rfl) (by rfl) g5 (srf_in g5) (?_ : jX G jP 172 41 lv [.ref (spl 51 (((q3.2.2.1 48 0 0 v2.toNatClampNeg).toInt32).toNatClampNeg) 0), .long v3, .ref (spl 54 v1.1 v1.2), .ref (spl 33 0 0)] μ Q)
      obtain ⟨g6, h⟩ := jif_some h
      refine jX.sg R g6 (by rfl) (by rfl) (by rfl) (by rfl) (by rfl) (?_ : jX G jP 172 44 lv [.int (q3.2.1 51 (((q3.2.2.1 48 0 0 v2.toNatClampNeg).toInt32).toNatClampNeg) 0 1), .long v3, .ref (spl 54 v1.1 v1.2), .ref (spl 33 0 0)] μ Q)
      refine jX.go (by rfl) (by rfl) (by rfl) (?_ : jX G jP 172 45 lv [.long ((q3.2.1 51 (((q3.2.2.1 48 0 0 v2.toNatClampNeg).toInt32).toNatClampNeg) 0 1).toInt64), .long v3, .ref (spl 54 v1.1 v1.2), .ref (spl 33 0 0)] μ Q)
      refine jX.go (by rfl) (by rfl) (by rfl) (?_ : jX G jP 172 46 lv [.int (lg_cmp v3 ((q3.2.1 51 (((q3.2.2.1 48 0 0 v2.toNatClampNeg).toInt32).toNatClampNeg) 0 1).toInt64)), .ref (spl 54 v1.1 v1.2), .ref (spl 33 0 0)] μ Q)
      rcases bif_or h with ⟨hc, h⟩ | ⟨hc, h⟩
      · refine jX.b1t hc (by rfl) (by rfl) (by rfl) (?_ : jX G jP 172 53 lv [.ref (spl 54 v1.1 v1.2), .ref (spl 33 0 0)] μ Q)
        exact F_172_53_ok  K v2 v3 v1 _ _ _ l0 l2 l3 R h
      · refine jX.b1f hc (by rfl) (by rfl) (by rfl) (?_ : jX G jP 172 49 lv [.ref (spl 54 v1.1 v1.2), .ref (spl 33 0 0)] μ Q)
        refine jX.ic (v := nI 1) (n := 1) (by rfl) (by rfl) (by decide) (?_ : jX G jP 172 50 lv [.int (nI 1), .ref (spl 54 v1.1 v1.2), .ref (spl 33 0 0)] μ Q)
        refine jX.go (by rfl) (by rfl) (by rfl) (?_ : jX G jP 172 54 lv [.int (nI 1), .ref (spl 54 v1.1 v1.2), .ref (spl 33 0 0)] μ Q)
        exact F_172_54_ok  K v2 v3 (nI 1) v1 _ _ _ l0 l2 l3 R h
/-! 173 StrandRuntimeModel.caseOf(LStrandRuntimeModel$Strand;IZ)I -/
def F_173_124 (G : jG) (t : Nat) (k37 : Int32 → Int32 → (Nat × Nat) → Int32 → Int32 → sS → Option (Int32 × sS)) (v2 : Int32) (v3 : Int32) (v4 : (Nat × Nat)) (v5 : Int32) (v6 : Int32) (S : sS) : Option (Int32 × sS) := k37 v2 v3 v4 v5 (v6 + Int32.ofInt 1) S
theorem F_173_124_ok {G : jG} {t : Nat} {k37 : Int32 → Int32 → (Nat × Nat) → Int32 → Int32 → sS → Option (Int32 × sS)} {r : Int32} {S' : sS} {Q : Option Value ⊕ Nat → jS → Prop} (hk37 : ∀ (v2 : Int32) (v3 : Int32) (v4 : (Nat × Nat)) (v5 : Int32) (v6 : Int32) (S : sS) (lv : jL) (μ : jS), jld lv 0 = some (.ref (spl 33 0 0)) → jld lv 2 = some (.int v2) → jld lv 3 = some (.int v3) → jld lv 4 = some (.ref (spl 56 v4.1 v4.2)) → jld lv 5 = some (.int v5) → jld lv 6 = some (.int v6) → sR S μ → k37 v2 v3 v4 v5 v6 S = some (r, S') → jX G jP 173 37 lv [] μ Q) (K : ∀ μ', sR S' μ' → Q (srI r) μ') : ∀ (v2 : Int32) (v3 : Int32) (v4 : (Nat × Nat)) (v5 : Int32) (v6 : Int32) (S : sS) (lv : jL) (μ : jS), jld lv 0 = some (.ref (spl 33 0 0)) → jld lv 2 = some (.int v2) → jld lv 3 = some (.int v3) → jld lv 4 = some (.ref (spl 56 v4.1 v4.2)) → jld lv 5 = some (.int v5) → jld lv 6 = some (.int v6) → sR S μ → F_173_124 G t k37 v2 v3 v4 v5 v6 S = some (r, S') → jX G jP 173 124 lv [] μ Q := by
  intro v2 v3 v4 v5 v6 S lv μ l0 l2 l3 l4 l5 l6 R h
  unfold F_173_124 at h
  refine jX.inc l6 (by rfl) (by rfl) (by rfl) (fun lv l6 kp => (?_ : jX G jP 173 127 lv [] μ Q))
  replace l0 := kp 0 _ l0 (by rfl) (by first | rfl | simp [soR_cat])
  replace l2 := kp 2 _ l2 (by rfl) (by first | rfl | simp [soR_cat])
  replace l3 := kp 3 _ l3 (by rfl) (by first | rfl | simp [soR_cat])
  replace l4 := kp 4 _ l4 (by rfl) (by first | rfl | simp [soR_cat])
  replace l5 := kp 5 _ l5 (by rfl) (by first | rfl | simp [soR_cat])
  refine jX.go (by rfl) (by rfl) (by rfl) (?_ : jX G jP 173 37 lv [] μ Q)
  exact hk37 v2 v3 v4 v5 (v6 + Int32.ofInt 1) _ _ _ l0 l2 l3 l4 l5 l6 R h
def F_173_117 (G : jG) (t : Nat) (k37 : Int32 → Int32 → (Nat × Nat) → Int32 → Int32 → sS → Option (Int32 × sS)) (v2 : Int32) (v3 : Int32) (v4 : (Nat × Nat)) (v5 : Int32) (v6 : Int32) (w0 : Int32) (S : sS) : Option (Int32 × sS) := bif jcmp .ne w0 v3 then (F_173_124 G t k37 v2 v3 v4 v5 v6 S) else (some (v6, S))
theorem F_173_117_ok {G : jG} {t : Nat} {k37 : Int32 → Int32 → (Nat × Nat) → Int32 → Int32 → sS → Option (Int32 × sS)} {r : Int32} {S' : sS} {Q : Option Value ⊕ Nat → jS → Prop} (hk37 : ∀ (v2 : Int32) (v3 : Int32) (v4 : (Nat × Nat)) (v5 : Int32) (v6 : Int32) (S : sS) (lv : jL) (μ : jS), jld lv 0 = some (.ref (spl 33 0 0)) → jld lv 2 = some (.int v2) → jld lv 3 = some (.int v3) → jld lv 4 = some (.ref (spl 56 v4.1 v4.2)) → jld lv 5 = some (.int v5) → jld lv 6 = some (.int v6) → sR S μ → k37 v2 v3 v4 v5 v6 S = some (r, S') → jX G jP 173 37 lv [] μ Q) (K : ∀ μ', sR S' μ' → Q (srI r) μ') : ∀ (v2 : Int32) (v3 : Int32) (v4 : (Nat × Nat)) (v5 : Int32) (v6 : Int32) (w0 : Int32) (S : sS) (lv : jL) (μ : jS), jld lv 0 = some (.ref (spl 33 0 0)) → jld lv 2 = some (.int v2) → jld lv 3 = some (.int v3) → jld lv 4 = some (.ref (spl 56 v4.1 v4.2)) → jld lv 5 = some (.int v5) → jld lv 6 = some (.int v6) → sR S μ → F_173_117 G t k37 v2 v3 v4 v5 v6 w0 S = some (r, S') → jX G jP 173 117 lv [.int w0] μ Q := by
  intro v2 v3 v4 v5 v6 w0 S lv μ l0 l2 l3 l4 l5 l6 R h
  unfold F_173_117 at h
  refine jX.lin l3 (by rfl) (by rfl) (?_ : jX G jP 173 118 lv [.int v3, .int w0] μ Q)
  rcases bif_or h with ⟨hc, h⟩ | ⟨hc, h⟩
  · refine jX.b2t hc (by rfl) (by rfl) (by rfl) (?_ : jX G jP 173 124 lv [] μ Q)
    exact F_173_124_ok hk37 K v2 v3 v4 v5 v6 _ _ _ l0 l2 l3 l4 l5 l6 R h
  · refine jX.b2f hc (by rfl) (by rfl) (by rfl) (?_ : jX G jP 173 121 lv [] μ Q)
    refine jX.li l6 (by rfl) (by rfl) (?_ : jX G jP 173 123 lv [.int v6] μ Q)
    exact jX.ret (by rfl) (by rfl) (by rfl) (by rfl) (sretv (f := srI) h K R)
def F_173_37 (G : jG) (t : Nat) : Nat → Int32 → Int32 → (Nat × Nat) → Int32 → Int32 → sS → Option (Int32 × sS)
  | 0 => fun _ _ _ _ _ _ => none
  | tt + 1 => fun v2 v3 v4 v5 v6 S => bif jcmp .ge v6 v5 then (some ((-1), S)) else (jif (sex S.2.2.2.1 56 v4.1 v4.2) (jif (sex S.2.2.2.1 58 v4.1 v4.2) (jif (jin ((S.1 56 v4.1 v4.2 2) - ((nI 3) * (v5 - v6))) 16) (jif (sex S.2.2.2.1 62 v4.1 v4.2) (jif (jin ((S.1 56 v4.1 v4.2 2) - ((nI 3) * (v5 - v6))) 16) ((F_170 G t (S.1 58 v4.1 v4.2 ((S.1 56 v4.1 v4.2 2) - ((nI 3) * (v5 - v6))).toNatClampNeg) (S.2.1 62 v4.1 v4.2 ((S.1 56 v4.1 v4.2 2) - ((nI 3) * (v5 - v6))).toNatClampNeg) (nI 3) S).bind (fun q6 => bif jcmp .eq q6.1 0 then (F_173_124 G t (F_173_37 G t tt) v2 v3 v4 v5 v6 q6.2) else (jif (sex q6.2.2.2.2.1 56 v4.1 v4.2) (jif (sex q6.2.2.2.2.1 62 v4.1 v4.2) (jif (jin ((S.1 56 v4.1 v4.2 2) - ((nI 3) * (v5 - v6))) 16) (bif jcmp .ne (lg_cmp (q6.2.2.1 62 v4.1 v4.2 ((S.1 56 v4.1 v4.2 2) - ((nI 3) * (v5 - v6))).toNatClampNeg) v2.toInt64) 0 then (F_173_124 G t (F_173_37 G t tt) v2 v3 v4 v5 v6 q6.2) else (jif (jin (((S.1 56 v4.1 v4.2 2) - ((nI 3) * (v5 - v6))) + (nI 1)) 16) (bif jcmp .eq (lg_cmp (q6.2.2.1 62 v4.1 v4.2 (((S.1 56 v4.1 v4.2 2) - ((nI 3) * (v5 - v6))) + (nI 1)).toNatClampNeg) 0) 0 then (F_173_117 G t (F_173_37 G t tt) v2 v3 v4 v5 v6 (nI 0) q6.2) else (F_173_117 G t (F_173_37 G t tt) v2 v3 v4 v5 v6 (nI 1) q6.2))))))))))))))
theorem F_173_37_ok {G : jG} {t : Nat} {r : Int32} {S' : sS} {Q : Option Value ⊕ Nat → jS → Prop} (K : ∀ μ', sR S' μ' → Q (srI r) μ') : ∀ tt : Nat, ∀ (v2 : Int32) (v3 : Int32) (v4 : (Nat × Nat)) (v5 : Int32) (v6 : Int32) (S : sS) (lv : jL) (μ : jS), jld lv 0 = some (.ref (spl 33 0 0)) → jld lv 2 = some (.int v2) → jld lv 3 = some (.int v3) → jld lv 4 = some (.ref (spl 56 v4.1 v4.2)) → jld lv 5 = some (.int v5) → jld lv 6 = some (.int v6) → sR S μ → F_173_37 G t tt v2 v3 v4 v5 v6 S = some (r, S') → jX G jP 173 37 lv [] μ Q := by
  intro tt
  induction tt with
  | zero =>
    intro v2 v3 v4 v5 v6 S lv μ l0 l2 l3 l4 l5 l6 R h
    rw [F_173_37] at h
    cases h
  | succ tt ih =>
    intro v2 v3 v4 v5 v6 S lv μ l0 l2 l3 l4 l5 l6 R h
    rw [F_173_37] at h
    refine jX.li l6 (by rfl) (by rfl) (?_ : jX G jP 173 39 lv [.int v6] μ Q)
    refine jX.li l5 (by rfl) (by rfl) (?_ : jX G jP 173 41 lv [.int v5, .int v6] μ Q)
    rcases bif_or h with ⟨hc, h⟩ | ⟨hc, h⟩
    · refine jX.b2t hc (by rfl) (by rfl) (by rfl) (?_ : jX G jP 173 130 lv [] μ Q)
      refine jX.ic (v := (-1)) (n := 1) (by rfl) (by rfl) (by decide) (?_ : jX G jP 173 131 lv [.int (-1)] μ Q)
      exact jX.ret (by rfl) (by rfl) (by rfl) (by rfl) (sretv (f := srI) h K R)
    · refine jX.b2f hc (by rfl) (by rfl) (by rfl) (?_ : jX G jP 173 44 lv [] μ Q)
      refine jX.lr l4 (by rfl) (by rfl) (?_ : jX G jP 173 46 lv [.ref (spl 56 v4.1 v4.2)] μ Q)
      obtain ⟨g1, h⟩ := jif_some h
      refine jX.sg R g1 (by rfl) (by rfl) (by rfl) (by rfl) (by rfl) (?_ : jX G jP 173 49 lv [.int (S.1 56 v4.1 v4.2 2)] μ Q)
      refine jX.ic (v := nI 3) (n := 1) (by rfl) (by rfl) (by decide) (?_ : jX G jP 173 50 lv [.int (nI 3), .int (S.1 56 v4.1 v4.2 2)] μ Q)
      refine jX.li l5 (by rfl) (by rfl) (?_ : jX G jP 173 52 lv [.int v5, .int (nI 3), .int (S.1 56 v4.1 v4.2 2)] μ Q)
      refine jX.li l6 (by rfl) (by rfl) (?_ : jX G jP 173 54 lv [.int v6, .int v5, .int (nI 3), .int (S.1 56 v4.1 v4.2 2)] μ Q)
      refine jX.go (by rfl) (by rfl) (by rfl) (?_ : jX G jP 173 55 lv [.int (v5 - v6), .int (nI 3), .int (S.1 56 v4.1 v4.2 2)] μ Q)
      refine jX.go (by rfl) (by rfl) (by rfl) (?_ : jX G jP 173 56 lv [.int ((nI 3) * (v5 - v6)), .int (S.1 56 v4.1 v4.2 2)] μ Q)
      refine jX.go (by rfl) (by rfl) (by rfl) (?_ : jX G jP 173 57 lv [.int ((S.1 56 v4.1 v4.2 2) - ((nI 3) * (v5 - v6)))] μ Q)
      refine jX.s1 (k := 7) (pc' := 59) (by rfl) (by rfl) (by rfl) (fun lv l7 kp => (?_ : jX G jP 173 59 lv [] μ Q))
      replace l0 := kp 0 _ l0 (by rfl) (by first | rfl | simp [soR_cat])
      replace l2 := kp 2 _ l2 (by rfl) (by first | rfl | simp [soR_cat])
      replace l3 := kp 3 _ l3 (by rfl) (by first | rfl | simp [soR_cat])
      replace l4 := kp 4 _ l4 (by rfl) (by first | rfl | simp [soR_cat])
      replace l5 := kp 5 _ l5 (by rfl) (by first | rfl | simp [soR_cat])
      replace l6 := kp 6 _ l6 (by rfl) (by first | rfl | simp [soR_cat])
      refine jX.lrn l0 (by rfl) (by rfl) (?_ : jX G jP 173 60 lv [.ref (spl 33 0 0)] μ Q)
      refine jX.lr l4 (by rfl) (by rfl) (?_ : jX G jP 173 62 lv [.ref (spl 56 v4.1 v4.2), .ref (spl 33 0 0)] μ Q)
      refine jX.sg R g1 (by rfl) (by rfl) (by rfl) (by rfl) (by rfl) (?_ : jX G jP 173 65 lv [.ref (spl 58 v4.1 v4.2), .ref (spl 33 0 0)] μ Q)
      refine jX.li l7 (by rfl) (by rfl) (?_ : jX G jP 173 67 lv [.int ((S.1 56 v4.1 v4.2 2) - ((nI 3) * (v5 - v6))), .ref (spl 58 v4.1 v4.2), .ref (spl 33 0 0)] μ Q)
      obtain ⟨g2, h⟩ := jif_some h
      obtain ⟨g3, h⟩ := jif_some h
      refine jX.sai R g2 (by rfl) (by rfl) (by rfl) g3 (?_ : jX G jP 173 68 lv [.int (S.1 58 v4.1 v4.2 ((S.1 56 v4.1 v4.2 2) - ((nI 3) * (v5 - v6))).toNatClampNeg), .ref (spl 33 0 0)] μ Q)
      refine jX.lr l4 (by rfl) (by rfl) (?_ : jX G jP 173 70 lv [.ref (spl 56 v4.1 v4.2), .int (S.1 58 v4.1 v4.2 ((S.1 56 v4.1 v4.2 2) - ((nI 3) * (v5 - v6))).toNatClampNeg), .ref (spl 33 0 0)] μ Q)
      refine jX.sg R g1 (by rfl) (by rfl) (by rfl) (by rfl) (by rfl) (?_ : jX G jP 173 73 lv [.ref (spl 62 v4.1 v4.2), .int (S.1 58 v4.1 v4.2 ((S.1 56 v4.1 v4.2 2) - ((nI 3) * (v5 - v6))).toNatClampNeg), .ref (spl 33 0 0)] μ Q)
      refine jX.li l7 (by rfl) (by rfl) (?_ : jX G jP 173 75 lv [.int ((S.1 56 v4.1 v4.2 2) - ((nI 3) * (v5 - v6))), .ref (spl 62 v4.1 v4.2), .int (S.1 58 v4.1 v4.2 ((S.1 56 v4.1 v4.2 2) - ((nI 3) * (v5 - v6))).toNatClampNeg), .ref (spl 33 0 0)] μ Q)
      obtain ⟨g4, h⟩ := jif_some h
      obtain ⟨g5, h⟩ := jif_some h
      refine jX.sal R g4 (by rfl) (by rfl) (by rfl) g5 (?_ : jX G jP 173 76 lv [.long (S.2.1 62 v4.1 v4.2 ((S.1 56 v4.1 v4.2 2) - ((nI 3) * (v5 - v6))).toNatClampNeg), .int (S.1 58 v4.1 v4.2 ((S.1 56 v4.1 v4.2 2) - ((nI 3) * (v5 - v6))).toNatClampNeg), .ref (spl 33 0 0)] μ Q)
      refine jX.ic (v := nI 3) (n := 1) (by rfl) (by rfl) (by decide) (?_ : jX G jP 173 77 lv [.int (nI 3), .long (S.2.1 62 v4.1 v4.2 ((S.1 56 v4.1 v4.2 2) - ((nI 3) * (v5 - v6))).toNatClampNeg), .int (S.1 58 v4.1 v4.2 ((S.1 56 v4.1 v4.2 2) - ((nI 3) * (v5 - v6))).toNatClampNeg), .ref (spl 33 0 0)] μ Q)
      obtain ⟨q6, e6, h⟩ := sbd h
      refine jX.c1 (v := .int q6.1) (by rfl) (by rfl) (by rfl) (by rfl) (by rfl) (by rfl) (by rfl) (R.rec (by rfl) (by rfl)) (Nat.le_of_ble_eq_true rfl) (Nat.le_of_ble_eq_true rfl) (F_170_ok R e6 (fun μ R => ⟨rfl, (?_ : jX G jP 173 80 lv [.int q6.1] μ Q)⟩))
      rcases bif_or h with ⟨hc, h⟩ | ⟨hc, h⟩
      · refine jX.b1t hc (by rfl) (by rfl) (by rfl) (?_ : jX G jP 173 124 lv [] μ Q)
        exact F_173_124_ok ih K v2 v3 v4 v5 v6 _ _ _ l0 l2 l3 l4 l5 l6 R h
      · refine jX.b1f hc (by rfl) (by rfl) (by rfl) (?_ : jX G jP 173 83 lv [] μ Q)
        refine jX.lr l4 (by rfl) (by rfl) (?_ : jX G jP 173 85 lv [.ref (spl 56 v4.1 v4.2)] μ Q)
        obtain ⟨g7, h⟩ := jif_some h
        refine jX.sg R g7 (by rfl) (by rfl) (by rfl) (by rfl) (by rfl) (?_ : jX G jP 173 88 lv [.ref (spl 62 v4.1 v4.2)] μ Q)
        refine jX.li l7 (by rfl) (by rfl) (?_ : jX G jP 173 90 lv [.int ((S.1 56 v4.1 v4.2 2) - ((nI 3) * (v5 - v6))), .ref (spl 62 v4.1 v4.2)] μ Q)
        obtain ⟨g8, h⟩ := jif_some h
        obtain ⟨g9, h⟩ := jif_some h
        refine jX.sal R g8 (by rfl) (by rfl) (by rfl) g9 (?_ : jX G jP 173 91 lv [.long (q6.2.2.1 62 v4.1 v4.2 ((S.1 56 v4.1 v4.2 2) - ((nI 3) * (v5 - v6))).toNatClampNeg)] μ Q)
        refine jX.lin l2 (by rfl) (by rfl) (?_ : jX G jP 173 92 lv [.int v2, .long (q6.2.2.1 62 v4.1 v4.2 ((S.1 56 v4.1 v4.2 2) - ((nI 3) * (v5 - v6))).toNatClampNeg)] μ Q)
        refine jX.go (by rfl) (by rfl) (by rfl) (?_ : jX G jP 173 93 lv [.long v2.toInt64, .long (q6.2.2.1 62 v4.1 v4.2 ((S.1 56 v4.1 v4.2 2) - ((nI 3) * (v5 - v6))).toNatClampNeg)] μ Q)
        refine jX.go (by rfl) (by rfl) (by rfl) (?_ : jX G jP 173 94 lv [.int (lg_cmp (q6.2.2.1 62 v4.1 v4.2 ((S.1 56 v4.1 v4.2 2) - ((nI 3) * (v5 - v6))).toNatClampNeg) v2.toInt64)] μ Q)
        rcases bif_or h with ⟨hc, h⟩ | ⟨hc, h⟩
        · refine jX.b1t hc (by rfl) (by rfl) (by rfl) (?_ : jX G jP 173 124 lv [] μ Q)
          exact F_173_124_ok ih K v2 v3 v4 v5 v6 _ _ _ l0 l2 l3 l4 l5 l6 R h
        · refine jX.b1f hc (by rfl) (by rfl) (by rfl) (?_ : jX G jP 173 97 lv [] μ Q)
          refine jX.lr l4 (by rfl) (by rfl) (?_ : jX G jP 173 99 lv [.ref (spl 56 v4.1 v4.2)] μ Q)
          refine jX.sg R g7 (by rfl) (by rfl) (by rfl) (by rfl) (by rfl) (?_ : jX G jP 173 102 lv [.ref (spl 62 v4.1 v4.2)] μ Q)
          refine jX.li l7 (by rfl) (by rfl) (?_ : jX G jP 173 104 lv [.int ((S.1 56 v4.1 v4.2 2) - ((nI 3) * (v5 - v6))), .ref (spl 62 v4.1 v4.2)] μ Q)
          refine jX.ic (v := nI 1) (n := 1) (by rfl) (by rfl) (by decide) (?_ : jX G jP 173 105 lv [.int (nI 1), .int ((S.1 56 v4.1 v4.2 2) - ((nI 3) * (v5 - v6))), .ref (spl 62 v4.1 v4.2)] μ Q)
          refine jX.go (by rfl) (by rfl) (by rfl) (?_ : jX G jP 173 106 lv [.int (((S.1 56 v4.1 v4.2 2) - ((nI 3) * (v5 - v6))) + (nI 1)), .ref (spl 62 v4.1 v4.2)] μ Q)
          obtain ⟨g10, h⟩ := jif_some h
          refine jX.sal R g8 (by rfl) (by rfl) (by rfl) g10 (?_ : jX G jP 173 107 lv [.long (q6.2.2.1 62 v4.1 v4.2 (((S.1 56 v4.1 v4.2 2) - ((nI 3) * (v5 - v6))) + (nI 1)).toNatClampNeg)] μ Q)
          refine jX.go (by rfl) (by rfl) (by rfl) (?_ : jX G jP 173 108 lv [.long 0, .long (q6.2.2.1 62 v4.1 v4.2 (((S.1 56 v4.1 v4.2 2) - ((nI 3) * (v5 - v6))) + (nI 1)).toNatClampNeg)] μ Q)
          refine jX.go (by rfl) (by rfl) (by rfl) (?_ : jX G jP 173 109 lv [.int (lg_cmp (q6.2.2.1 62 v4.1 v4.2 (((S.1 56 v4.1 v4.2 2) - ((nI 3) * (v5 - v6))) + (nI 1)).toNatClampNeg) 0)] μ Q)
          rcases bif_or h with ⟨hc, h⟩ | ⟨hc, h⟩
          · refine jX.b1t hc (by rfl) (by rfl) (by rfl) (?_ : jX G jP 173 116 lv [] μ Q)
            refine jX.ic (v := nI 0) (n := 1) (by rfl) (by rfl) (by decide) (?_ : jX G jP 173 117 lv [.int (nI 0)] μ Q)
            exact F_173_117_ok ih K v2 v3 v4 v5 v6 (nI 0) _ _ _ l0 l2 l3 l4 l5 l6 R h
          · refine jX.b1f hc (by rfl) (by rfl) (by rfl) (?_ : jX G jP 173 112 lv [] μ Q)
            refine jX.ic (v := nI 1) (n := 1) (by rfl) (by rfl) (by decide) (?_ : jX G jP 173 113 lv [.int (nI 1)] μ Q)
            refine jX.go (by rfl) (by rfl) (by rfl) (?_ : jX G jP 173 117 lv [.int (nI 1)] μ Q)
            exact F_173_117_ok ih K v2 v3 v4 v5 v6 (nI 1) _ _ _ l0 l2 l3 l4 l5 l6 R h
def F_173 (G : jG) (t : Nat) (v1 : (Nat × Nat)) (v2 : Int32) (v3 : Int32) (S : sS) : Option (Int32 × sS) := (F_151 G t v1 S).bind (fun q1 => (q1.1).bind (fun a2 => jif (sex q1.2.2.2.2.1 56 a2.1 a2.2) (jif (jin (q1.2.1 56 a2.1 a2.2 0) 32) (jif (jin (((q1.2.1 39 0 0 (q1.2.1 56 a2.1 a2.2 0).toNatClampNeg) + (q1.2.1 56 a2.1 a2.2 1)) - (nI 1)) 1500) (F_173_37 G t t v2 v3 a2 ((q1.2.1 42 0 0 (((q1.2.1 39 0 0 (q1.2.1 56 a2.1 a2.2 0).toNatClampNeg) + (q1.2.1 56 a2.1 a2.2 1)) - (nI 1)).toNatClampNeg) &&& (nI 7)) (nI 0) q1.2)))))
theorem F_173_ok {G : jG} {t : Nat} {v1 : (Nat × Nat)} {v2 : Int32} {v3 : Int32} {S : sS} {r : Int32} {S' : sS} {μ : jS} {Q : Option Value ⊕ Nat → jS → Prop} (R : sR S μ) (h : F_173 G t v1 v2 v3 S = some (r, S')) (K : ∀ μ', sR S' μ' → Q (srI r) μ') : jX G jP 173 0 (lv_args 0 [.ref (spl 33 0 0), .ref (spl 54 v1.1 v1.2), .int v2, .int v3]) [] μ Q := by
  unfold F_173 at h
  have l0 : jld (lv_args 0 [.ref (spl 33 0 0), .ref (spl 54 v1.1 v1.2), .int v2, .int v3]) 0 = some (.ref (spl 33 0 0)) := by rfl
  have l1 : jld (lv_args 0 [.ref (spl 33 0 0), .ref (spl 54 v1.1 v1.2), .int v2, .int v3]) 1 = some (.ref (spl 54 v1.1 v1.2)) := by rfl
  have l2 : jld (lv_args 0 [.ref (spl 33 0 0), .ref (spl 54 v1.1 v1.2), .int v2, .int v3]) 2 = some (.int v2) := by rfl
  have l3 : jld (lv_args 0 [.ref (spl 33 0 0), .ref (spl 54 v1.1 v1.2), .int v2, .int v3]) 3 = some (.int v3) := by rfl
  generalize lv_args 0 [.ref (spl 33 0 0), .ref (spl 54 v1.1 v1.2), .int v2, .int v3] = lv at *
  refine jX.lrn l1 (by rfl) (by rfl) (?_ : jX G jP 173 1 lv [.ref (spl 54 v1.1 v1.2)] μ Q)
  obtain ⟨q1, e1, h⟩ := sbd h
  refine jX.c1 (v := soR 56 q1.1) (by rfl) (by rfl) (by rfl) (by rfl) (by rfl) (by rfl) (by rfl) (by rfl) (Nat.le_of_ble_eq_true rfl) (Nat.le_of_ble_eq_true rfl) (F_151_ok R e1 (fun μ R => ⟨rfl, (?_ : jX G jP 173 4 lv [soR 56 q1.1] μ Q)⟩))
  refine jX.so (k := 4) (pc' := 6) (by rfl) (by rfl) (fun _ => by rfl) (by rfl) (fun lv l4 kp => (?_ : jX G jP 173 6 lv [] μ Q))
  replace l0 := kp 0 _ l0 (by rfl) (by first | rfl | simp [soR_cat])
  replace l2 := kp 2 _ l2 (by rfl) (by first | rfl | simp [soR_cat])
  replace l3 := kp 3 _ l3 (by rfl) (by first | rfl | simp [soR_cat])
  refine jX.lrn l0 (by rfl) (by rfl) (?_ : jX G jP 173 7 lv [.ref (spl 33 0 0)] μ Q)
  refine jX.sg R (by rfl) (by rfl) (by rfl) (by rfl) (by rfl) (by rfl) (?_ : jX G jP 173 10 lv [.ref (spl 42 0 0)] μ Q)
  refine jX.lrn l0 (by rfl) (by rfl) (?_ : jX G jP 173 11 lv [.ref (spl 33 0 0), .ref (spl 42 0 0)] μ Q)
  refine jX.sg R (by rfl) (by rfl) (by rfl) (by rfl) (by rfl) (by rfl) (?_ : jX G jP 173 14 lv [.ref (spl 39 0 0), .ref (spl 42 0 0)] μ Q)
  refine jX.lo l4 (by rfl) (by rfl) (?_ : jX G jP 173 16 lv [soR 56 q1.1, .ref (spl 39 0 0), .ref (spl 42 0 0)] μ Q)
  obtain ⟨a2, e2, h⟩ := sbd h
  rw [soR_some (t := 56) e2]
  rw [soR_some (t := 56) e2] at l4
  obtain ⟨g3, h⟩ := jif_some h
  refine jX.sg R g3 (by rfl) (by rfl) (by rfl) (by rfl) (by rfl) (?_ : jX G jP 173 19 lv [.int (q1.2.1 56 a2.1 a2.2 0), .ref (spl 39 0 0), .ref (spl 42 0 0)] μ Q)
  obtain ⟨g4, h⟩ := jif_some h
  refine jX.sai R (by rfl) (by rfl) (by rfl) (by rfl) g4 (?_ : jX G jP 173 20 lv [.int (q1.2.1 39 0 0 (q1.2.1 56 a2.1 a2.2 0).toNatClampNeg), .ref (spl 42 0 0)] μ Q)
  refine jX.lr l4 (by rfl) (by rfl) (?_ : jX G jP 173 22 lv [.ref (spl 56 a2.1 a2.2), .int (q1.2.1 39 0 0 (q1.2.1 56 a2.1 a2.2 0).toNatClampNeg), .ref (spl 42 0 0)] μ Q)
  refine jX.sg R g3 (by rfl) (by rfl) (by rfl) (by rfl) (by rfl) (?_ : jX G jP 173 25 lv [.int (q1.2.1 56 a2.1 a2.2 1), .int (q1.2.1 39 0 0 (q1.2.1 56 a2.1 a2.2 0).toNatClampNeg), .ref (spl 42 0 0)] μ Q)
  refine jX.go (by rfl) (by rfl) (by rfl) (?_ : jX G jP 173 26 lv [.int ((q1.2.1 39 0 0 (q1.2.1 56 a2.1 a2.2 0).toNatClampNeg) + (q1.2.1 56 a2.1 a2.2 1)), .ref (spl 42 0 0)] μ Q)
  refine jX.ic (v := nI 1) (n := 1) (by rfl) (by rfl) (by decide) (?_ : jX G jP 173 27 lv [.int (nI 1), .int ((q1.2.1 39 0 0 (q1.2.1 56 a2.1 a2.2 0).toNatClampNeg) + (q1.2.1 56 a2.1 a2.2 1)), .ref (spl 42 0 0)] μ Q)
  refine jX.go (by rfl) (by rfl) (by rfl) (?_ : jX G jP 173 28 lv [.int (((q1.2.1 39 0 0 (q1.2.1 56 a2.1 a2.2 0).toNatClampNeg) + (q1.2.1 56 a2.1 a2.2 1)) - (nI 1)), .ref (spl 42 0 0)] μ Q)
  obtain ⟨g5, h⟩ := jif_some h
  refine jX.sai R (by rfl) (by rfl) (by rfl) (by rfl) g5 (?_ : jX G jP 173 29 lv [.int (q1.2.1 42 0 0 (((q1.2.1 39 0 0 (q1.2.1 56 a2.1 a2.2 0).toNatClampNeg) + (q1.2.1 56 a2.1 a2.2 1)) - (nI 1)).toNatClampNeg)] μ Q)
  refine jX.ic (v := nI 7) (n := 2) (by rfl) (by rfl) (by decide) (?_ : jX G jP 173 31 lv [.int (nI 7), .int (q1.2.1 42 0 0 (((q1.2.1 39 0 0 (q1.2.1 56 a2.1 a2.2 0).toNatClampNeg) + (q1.2.1 56 a2.1 a2.2 1)) - (nI 1)).toNatClampNeg)] μ Q)
  refine jX.go (by rfl) (by rfl) (by rfl) (?_ : jX G jP 173 32 lv [.int ((q1.2.1 42 0 0 (((q1.2.1 39 0 0 (q1.2.1 56 a2.1 a2.2 0).toNatClampNeg) + (q1.2.1 56 a2.1 a2.2 1)) - (nI 1)).toNatClampNeg) &&& (nI 7))] μ Q)
  refine jX.s1 (k := 5) (pc' := 34) (by rfl) (by rfl) (by rfl) (fun lv l5 kp => (?_ : jX G jP 173 34 lv [] μ Q))
  replace l0 := kp 0 _ l0 (by rfl) (by first | rfl | simp [soR_cat])
  replace l2 := kp 2 _ l2 (by rfl) (by first | rfl | simp [soR_cat])
  replace l3 := kp 3 _ l3 (by rfl) (by first | rfl | simp [soR_cat])
  replace l4 := kp 4 _ l4 (by rfl) (by first | rfl | simp [soR_cat])
  refine jX.ic (v := nI 0) (n := 1) (by rfl) (by rfl) (by decide) (?_ : jX G jP 173 35 lv [.int (nI 0)] μ Q)
  refine jX.s1 (k := 6) (pc' := 37) (by rfl) (by rfl) (by rfl) (fun lv l6 kp => (?_ : jX G jP 173 37 lv [] μ Q))
  replace l0 := kp 0 _ l0 (by rfl) (by first | rfl | simp [soR_cat])
  replace l2 := kp 2 _ l2 (by rfl) (by first | rfl | simp [soR_cat])
  replace l3 := kp 3 _ l3 (by rfl) (by first | rfl | simp [soR_cat])
  replace l4 := kp 4 _ l4 (by rfl) (by first | rfl | simp [soR_cat])
  replace l5 := kp 5 _ l5 (by rfl) (by first | rfl | simp [soR_cat])
  exact F_173_37_ok  K _ v2 v3 a2 ((q1.2.1 42 0 0 (((q1.2.1 39 0 0 (q1.2.1 56 a2.1 a2.2 0).toNatClampNeg) + (q1.2.1 56 a2.1 a2.2 1)) - (nI 1)).toNatClampNeg) &&& (nI 7)) (nI 0) _ _ _ l0 l2 l3 l4 l5 l6 R h
/-! 174 StrandRuntimeModel.waits(IIZ)Z -/
def F_174_74 (G : jG) (t : Nat) (v2 : Int32) (v5 : (Nat × Nat)) (w0 : Int32) (w1 : Int32) (S : sS) : Option (Int32 × sS) := jif (sex S.2.2.2.1 56 v5.1 v5.2) (jif (sex S.2.2.2.1 58 v5.1 v5.2) (jif (jin (w1 - w0) 16) (bif jcmp .ne (S.1 58 v5.1 v5.2 (w1 - w0).toNatClampNeg) (nI 2) then (some ((nI 0), S)) else (jif (sex S.2.2.2.1 62 v5.1 v5.2) (jif (jin (w1 - w0) 16) (bif jcmp .ne (lg_cmp (S.2.1 62 v5.1 v5.2 (w1 - w0).toNatClampNeg) v2.toInt64) 0 then (some ((nI 0), S)) else (some ((nI 1), S))))))))
theorem F_174_74_ok {G : jG} {t : Nat} {r : Int32} {S' : sS} {Q : Option Value ⊕ Nat → jS → Prop} (K : ∀ μ', sR S' μ' → Q (srI r) μ') : ∀ (v2 : Int32) (v5 : (Nat × Nat)) (w0 : Int32) (w1 : Int32) (S : sS) (lv : jL) (μ : jS), jld lv 2 = some (.int v2) → jld lv 5 = some (.ref (spl 56 v5.1 v5.2)) → sR S μ → F_174_74 G t v2 v5 w0 w1 S = some (r, S') → jX G jP 174 74 lv [.int w0, .int w1] μ Q := by
  intro v2 v5 w0 w1 S lv μ l2 l5 R h
  unfold F_174_74 at h
  refine jX.go (by rfl) (by rfl) (by rfl) (?_ : jX G jP 174 75 lv [.int (w1 - w0)] μ Q)
  refine jX.s1 (k := 6) (pc' := 77) (by rfl) (by rfl) (by rfl) (fun lv l6 kp => (?_ : jX G jP 174 77 lv [] μ Q))
  replace l2 := kp 2 _ l2 (by rfl) (by first | rfl | simp [soR_cat])
  replace l5 := kp 5 _ l5 (by rfl) (by first | rfl | simp [soR_cat])
  refine jX.lr l5 (by rfl) (by rfl) (?_ : jX G jP 174 79 lv [.ref (spl 56 v5.1 v5.2)] μ Q)
  obtain ⟨g1, h⟩ := jif_some h
  refine jX.sg R g1 (by rfl) (by rfl) (by rfl) (by rfl) (by rfl) (?_ : jX G jP 174 82 lv [.ref (spl 58 v5.1 v5.2)] μ Q)
  refine jX.li l6 (by rfl) (by rfl) (?_ : jX G jP 174 84 lv [.int (w1 - w0), .ref (spl 58 v5.1 v5.2)] μ Q)
  obtain ⟨g2, h⟩ := jif_some h
  obtain ⟨g3, h⟩ := jif_some h
  refine jX.sai R g2 (by rfl) (by rfl) (by rfl) g3 (?_ : jX G jP 174 85 lv [.int (S.1 58 v5.1 v5.2 (w1 - w0).toNatClampNeg)] μ Q)
  refine jX.ic (v := nI 2) (n := 1) (by rfl) (by rfl) (by decide) (?_ : jX G jP 174 86 lv [.int (nI 2), .int (S.1 58 v5.1 v5.2 (w1 - w0).toNatClampNeg)] μ Q)
  rcases bif_or h with ⟨hc, h⟩ | ⟨hc, h⟩
  · refine jX.b2t hc (by rfl) (by rfl) (by rfl) (?_ : jX G jP 174 107 lv [] μ Q)
    refine jX.ic (v := nI 0) (n := 1) (by rfl) (by rfl) (by decide) (?_ : jX G jP 174 108 lv [.int (nI 0)] μ Q)
    exact jX.ret (by rfl) (by rfl) (by rfl) (by rfl) (sretv (f := srI) h K R)
  · refine jX.b2f hc (by rfl) (by rfl) (by rfl) (?_ : jX G jP 174 89 lv [] μ Q)
    refine jX.lr l5 (by rfl) (by rfl) (?_ : jX G jP 174 91 lv [.ref (spl 56 v5.1 v5.2)] μ Q)
    refine jX.sg R g1 (by rfl) (by rfl) (by rfl) (by rfl) (by rfl) (?_ : jX G jP 174 94 lv [.ref (spl 62 v5.1 v5.2)] μ Q)
    refine jX.li l6 (by rfl) (by rfl) (?_ : jX G jP 174 96 lv [.int (w1 - w0), .ref (spl 62 v5.1 v5.2)] μ Q)
    obtain ⟨g4, h⟩ := jif_some h
    obtain ⟨g5, h⟩ := jif_some h
    refine jX.sal R g4 (by rfl) (by rfl) (by rfl) g5 (?_ : jX G jP 174 97 lv [.long (S.2.1 62 v5.1 v5.2 (w1 - w0).toNatClampNeg)] μ Q)
    refine jX.lin l2 (by rfl) (by rfl) (?_ : jX G jP 174 98 lv [.int v2, .long (S.2.1 62 v5.1 v5.2 (w1 - w0).toNatClampNeg)] μ Q)
    refine jX.go (by rfl) (by rfl) (by rfl) (?_ : jX G jP 174 99 lv [.long v2.toInt64, .long (S.2.1 62 v5.1 v5.2 (w1 - w0).toNatClampNeg)] μ Q)
    refine jX.go (by rfl) (by rfl) (by rfl) (?_ : jX G jP 174 100 lv [.int (lg_cmp (S.2.1 62 v5.1 v5.2 (w1 - w0).toNatClampNeg) v2.toInt64)] μ Q)
    rcases bif_or h with ⟨hc, h⟩ | ⟨hc, h⟩
    · refine jX.b1t hc (by rfl) (by rfl) (by rfl) (?_ : jX G jP 174 107 lv [] μ Q)
      refine jX.ic (v := nI 0) (n := 1) (by rfl) (by rfl) (by decide) (?_ : jX G jP 174 108 lv [.int (nI 0)] μ Q)
      exact jX.ret (by rfl) (by rfl) (by rfl) (by rfl) (sretv (f := srI) h K R)
    · refine jX.b1f hc (by rfl) (by rfl) (by rfl) (?_ : jX G jP 174 103 lv [] μ Q)
      refine jX.ic (v := nI 1) (n := 1) (by rfl) (by rfl) (by decide) (?_ : jX G jP 174 104 lv [.int (nI 1)] μ Q)
      refine jX.go (by rfl) (by rfl) (by rfl) (?_ : jX G jP 174 108 lv [.int (nI 1)] μ Q)
      exact jX.ret (by rfl) (by rfl) (by rfl) (by rfl) (sretv (f := srI) h K R)
def F_174_48 (G : jG) (t : Nat) (v2 : Int32) (v3 : Int32) (v4 : (Nat × Nat)) (w0 : Int32) (w1 : Int32) (S : sS) : Option (Int32 × sS) := bif jcmp .eq w1 w0 then ((F_151 G t v4 S).bind (fun q1 => (q1.1).bind (fun a2 => jif (sex q1.2.2.2.2.1 56 a2.1 a2.2) (bif jcmp .eq v3 0 then (F_174_74 G t v2 a2 (nI 1) (q1.2.1 56 a2.1 a2.2 2) q1.2) else (F_174_74 G t v2 a2 (nI 2) (q1.2.1 56 a2.1 a2.2 2) q1.2))))) else (some ((nI 0), S))
theorem F_174_48_ok {G : jG} {t : Nat} {r : Int32} {S' : sS} {Q : Option Value ⊕ Nat → jS → Prop} (K : ∀ μ', sR S' μ' → Q (srI r) μ') : ∀ (v2 : Int32) (v3 : Int32) (v4 : (Nat × Nat)) (w0 : Int32) (w1 : Int32) (S : sS) (lv : jL) (μ : jS), jld lv 2 = some (.int v2) → jld lv 3 = some (.int v3) → jld lv 4 = some (.ref (spl 54 v4.1 v4.2)) → sR S μ → F_174_48 G t v2 v3 v4 w0 w1 S = some (r, S') → jX G jP 174 48 lv [.int w0, .int w1] μ Q := by
  intro v2 v3 v4 w0 w1 S lv μ l2 l3 l4 R h
  unfold F_174_48 at h
  rcases bif_or h with ⟨hc, h⟩ | ⟨hc, h⟩
  · refine jX.b2t hc (by rfl) (by rfl) (by rfl) (?_ : jX G jP 174 53 lv [] μ Q)
    refine jX.lr l4 (by rfl) (by rfl) (?_ : jX G jP 174 55 lv [.ref (spl 54 v4.1 v4.2)] μ Q)
    obtain ⟨q1, e1, h⟩ := sbd h
    refine jX.c1 (v := soR 56 q1.1) (by rfl) (by rfl) (by rfl) (by rfl) (by rfl) (by rfl) (by rfl) (by rfl) (Nat.le_of_ble_eq_true rfl) (Nat.le_of_ble_eq_true rfl) (F_151_ok R e1 (fun μ R => ⟨rfl, (?_ : jX G jP 174 58 lv [soR 56 q1.1] μ Q)⟩))
    refine jX.so (k := 5) (pc' := 60) (by rfl) (by rfl) (fun _ => by rfl) (by rfl) (fun lv l5 kp => (?_ : jX G jP 174 60 lv [] μ Q))
    replace l2 := kp 2 _ l2 (by rfl) (by first | rfl | simp [soR_cat])
    replace l3 := kp 3 _ l3 (by rfl) (by first | rfl | simp [soR_cat])
    refine jX.lo l5 (by rfl) (by rfl) (?_ : jX G jP 174 62 lv [soR 56 q1.1] μ Q)
    obtain ⟨a2, e2, h⟩ := sbd h
    rw [soR_some (t := 56) e2]
    rw [soR_some (t := 56) e2] at l5
    obtain ⟨g3, h⟩ := jif_some h
    refine jX.sg R g3 (by rfl) (by rfl) (by rfl) (by rfl) (by rfl) (?_ : jX G jP 174 65 lv [.int (q1.2.1 56 a2.1 a2.2 2)] μ Q)
    refine jX.lin l3 (by rfl) (by rfl) (?_ : jX G jP 174 66 lv [.int v3, .int (q1.2.1 56 a2.1 a2.2 2)] μ Q)
    rcases bif_or h with ⟨hc, h⟩ | ⟨hc, h⟩
    · refine jX.b1t hc (by rfl) (by rfl) (by rfl) (?_ : jX G jP 174 73 lv [.int (q1.2.1 56 a2.1 a2.2 2)] μ Q)
      refine jX.ic (v := nI 1) (n := 1) (by rfl) (by rfl) (by decide) (?_ : jX G jP 174 74 lv [.int (nI 1), .int (q1.2.1 56 a2.1 a2.2 2)] μ Q)
      exact F_174_74_ok  K v2 a2 (nI 1) (q1.2.1 56 a2.1 a2.2 2) _ _ _ l2 l5 R h
    · refine jX.b1f hc (by rfl) (by rfl) (by rfl) (?_ : jX G jP 174 69 lv [.int (q1.2.1 56 a2.1 a2.2 2)] μ Q)
      refine jX.ic (v := nI 2) (n := 1) (by rfl) (by rfl) (by decide) (?_ : jX G jP 174 70 lv [.int (nI 2), .int (q1.2.1 56 a2.1 a2.2 2)] μ Q)
      refine jX.go (by rfl) (by rfl) (by rfl) (?_ : jX G jP 174 74 lv [.int (nI 2), .int (q1.2.1 56 a2.1 a2.2 2)] μ Q)
      exact F_174_74_ok  K v2 a2 (nI 2) (q1.2.1 56 a2.1 a2.2 2) _ _ _ l2 l5 R h
  · refine jX.b2f hc (by rfl) (by rfl) (by rfl) (?_ : jX G jP 174 51 lv [] μ Q)
    refine jX.ic (v := nI 0) (n := 1) (by rfl) (by rfl) (by decide) (?_ : jX G jP 174 52 lv [.int (nI 0)] μ Q)
    exact jX.ret (by rfl) (by rfl) (by rfl) (by rfl) (sretv (f := srI) h K R)
def F_174 (G : jG) (t : Nat) (v1 : Int32) (v2 : Int32) (v3 : Int32) (S : sS) : Option (Int32 × sS) := jif (jin v1 16) (jif (sex S.2.2.2.1 54 v1.toNatClampNeg 0) (bif jcmp .ne (S.1 54 v1.toNatClampNeg 0 0) (nI 4) then (bif jcmp .eq v3 0 then (F_174_48 G t v2 v3 (v1.toNatClampNeg, 0) (nI 3) (S.1 54 v1.toNatClampNeg 0 0) S) else (F_174_48 G t v2 v3 (v1.toNatClampNeg, 0) (nI 2) (S.1 54 v1.toNatClampNeg 0 0) S)) else ((F_173 G t (v1.toNatClampNeg, 0) v2 v3 S).bind (fun q3 => bif jcmp .lt q3.1 0 then (some ((nI 0), q3.2)) else (some ((nI 1), q3.2))))))
theorem F_174_ok {G : jG} {t : Nat} {v1 : Int32} {v2 : Int32} {v3 : Int32} {S : sS} {r : Int32} {S' : sS} {μ : jS} {Q : Option Value ⊕ Nat → jS → Prop} (R : sR S μ) (h : F_174 G t v1 v2 v3 S = some (r, S')) (K : ∀ μ', sR S' μ' → Q (srI r) μ') : jX G jP 174 0 (lv_args 0 [.ref (spl 33 0 0), .int v1, .int v2, .int v3]) [] μ Q := by
  unfold F_174 at h
  have l0 : jld (lv_args 0 [.ref (spl 33 0 0), .int v1, .int v2, .int v3]) 0 = some (.ref (spl 33 0 0)) := by rfl
  have l1 : jld (lv_args 0 [.ref (spl 33 0 0), .int v1, .int v2, .int v3]) 1 = some (.int v1) := by rfl
  have l2 : jld (lv_args 0 [.ref (spl 33 0 0), .int v1, .int v2, .int v3]) 2 = some (.int v2) := by rfl
  have l3 : jld (lv_args 0 [.ref (spl 33 0 0), .int v1, .int v2, .int v3]) 3 = some (.int v3) := by rfl
  generalize lv_args 0 [.ref (spl 33 0 0), .int v1, .int v2, .int v3] = lv at *
  refine jX.lrn l0 (by rfl) (by rfl) (?_ : jX G jP 174 1 lv [.ref (spl 33 0 0)] μ Q)
  refine jX.sg R (by rfl) (by rfl) (by rfl) (by rfl) (by rfl) (by rfl) (?_ : jX G jP 174 4 lv [.ref (spl 35 0 0)] μ Q)
  refine jX.lin l1 (by rfl) (by rfl) (?_ : jX G jP 174 5 lv [.int v1, .ref (spl 35 0 0)] μ Q)
  obtain ⟨g1, h⟩ := jif_some h
  refine jX.sar (f := fun q => bif Nat.blt q 16 then some (spl 54 q 0) else none) R (by rfl) (by rfl) (by rfl) (by rfl) g1 (srf_in g1) (?_ : jX G jP 174 6 lv [.ref (spl 54 v1.toNatClampNeg 0)] μ Q)
  refine jX.s1 (k := 4) (pc' := 8) (by rfl) (by rfl) (by rfl) (fun lv l4 kp => (?_ : jX G jP 174 8 lv [] μ Q))
  replace l0 := kp 0 _ l0 (by rfl) (by first | rfl | simp [soR_cat])
  replace l2 := kp 2 _ l2 (by rfl) (by first | rfl | simp [soR_cat])
  replace l3 := kp 3 _ l3 (by rfl) (by first | rfl | simp [soR_cat])
  refine jX.lr l4 (by rfl) (by rfl) (?_ : jX G jP 174 10 lv [.ref (spl 54 v1.toNatClampNeg 0)] μ Q)
  obtain ⟨g2, h⟩ := jif_some h
  refine jX.sg R g2 (by rfl) (by rfl) (by rfl) (by rfl) (by rfl) (?_ : jX G jP 174 13 lv [.int (S.1 54 v1.toNatClampNeg 0 0)] μ Q)
  refine jX.ic (v := nI 4) (n := 1) (by rfl) (by rfl) (by decide) (?_ : jX G jP 174 14 lv [.int (nI 4), .int (S.1 54 v1.toNatClampNeg 0 0)] μ Q)
  rcases bif_or h with ⟨hc, h⟩ | ⟨hc, h⟩
  · refine jX.b2t hc (by rfl) (by rfl) (by rfl) (?_ : jX G jP 174 34 lv [] μ Q)
    refine jX.lr l4 (by rfl) (by rfl) (?_ : jX G jP 174 36 lv [.ref (spl 54 v1.toNatClampNeg 0)] μ Q)
    refine jX.sg R g2 (by rfl) (by rfl) (by rfl) (by rfl) (by rfl) (?_ : jX G jP 174 39 lv [.int (S.1 54 v1.toNatClampNeg 0 0)] μ Q)
    refine jX.lin l3 (by rfl) (by rfl) (?_ : jX G jP 174 40 lv [.int v3, .int (S.1 54 v1.toNatClampNeg 0 0)] μ Q)
    rcases bif_or h with ⟨hc, h⟩ | ⟨hc, h⟩
    · refine jX.b1t hc (by rfl) (by rfl) (by rfl) (?_ : jX G jP 174 47 lv [.int (S.1 54 v1.toNatClampNeg 0 0)] μ Q)
      refine jX.ic (v := nI 3) (n := 1) (by rfl) (by rfl) (by decide) (?_ : jX G jP 174 48 lv [.int (nI 3), .int (S.1 54 v1.toNatClampNeg 0 0)] μ Q)
      exact F_174_48_ok  K v2 v3 (v1.toNatClampNeg, 0) (nI 3) (S.1 54 v1.toNatClampNeg 0 0) _ _ _ l2 l3 l4 R h
    · refine jX.b1f hc (by rfl) (by rfl) (by rfl) (?_ : jX G jP 174 43 lv [.int (S.1 54 v1.toNatClampNeg 0 0)] μ Q)
      refine jX.ic (v := nI 2) (n := 1) (by rfl) (by rfl) (by decide) (?_ : jX G jP 174 44 lv [.int (nI 2), .int (S.1 54 v1.toNatClampNeg 0 0)] μ Q)
      refine jX.go (by rfl) (by rfl) (by rfl) (?_ : jX G jP 174 48 lv [.int (nI 2), .int (S.1 54 v1.toNatClampNeg 0 0)] μ Q)
      exact F_174_48_ok  K v2 v3 (v1.toNatClampNeg, 0) (nI 2) (S.1 54 v1.toNatClampNeg 0 0) _ _ _ l2 l3 l4 R h
  · refine jX.b2f hc (by rfl) (by rfl) (by rfl) (?_ : jX G jP 174 17 lv [] μ Q)
    refine jX.lrn l0 (by rfl) (by rfl) (?_ : jX G jP 174 18 lv [.ref (spl 33 0 0)] μ Q)
    refine jX.lr l4 (by rfl) (by rfl) (?_ : jX G jP 174 20 lv [.ref (spl 54 v1.toNatClampNeg 0), .ref (spl 33 0 0)] μ Q)
    refine jX.lin l2 (by rfl) (by rfl) (?_ : jX G jP 174 21 lv [.int v2, .ref (spl 54 v1.toNatClampNeg 0), .ref (spl 33 0 0)] μ Q)
    refine jX.lin l3 (by rfl) (by rfl) (?_ : jX G jP 174 22 lv [.int v3, .int v2, .ref (spl 54 v1.toNatClampNeg 0), .ref (spl 33 0 0)] μ Q)
    obtain ⟨q3, e3, h⟩ := sbd h
    refine jX.c1 (v := .int q3.1) (by rfl) (by rfl) (by rfl) (by rfl) (by rfl) (by rfl) (by rfl) (R.rec (by rfl) (by rfl)) (Nat.le_of_ble_eq_true rfl) (Nat.le_of_ble_eq_true rfl) (F_173_ok R e3 (fun μ R => ⟨rfl, (?_ : jX G jP 174 25 lv [.int q3.1] μ Q)⟩))
    rcases bif_or h with ⟨hc, h⟩ | ⟨hc, h⟩
    · refine jX.b1t hc (by rfl) (by rfl) (by rfl) (?_ : jX G jP 174 32 lv [] μ Q)
      refine jX.ic (v := nI 0) (n := 1) (by rfl) (by rfl) (by decide) (?_ : jX G jP 174 33 lv [.int (nI 0)] μ Q)
      exact jX.ret (by rfl) (by rfl) (by rfl) (by rfl) (sretv (f := srI) h K R)
    · refine jX.b1f hc (by rfl) (by rfl) (by rfl) (?_ : jX G jP 174 28 lv [] μ Q)
      refine jX.ic (v := nI 1) (n := 1) (by rfl) (by rfl) (by decide) (?_ : jX G jP 174 29 lv [.int (nI 1)] μ Q)
      refine jX.go (by rfl) (by rfl) (by rfl) (?_ : jX G jP 174 33 lv [.int (nI 1)] μ Q)
      exact jX.ret (by rfl) (by rfl) (by rfl) (by rfl) (sretv (f := srI) h K R)
/-! 175 StrandRuntimeModel.waiting(IZ)I -/
def F_175_81 (G : jG) (t : Nat) (k5 : Int32 → Int32 → Int32 → Int32 → sS → Option (Int32 × sS)) (v1 : Int32) (v2 : Int32) (v3 : Int32) (v4 : Int32) (S : sS) : Option (Int32 × sS) := k5 v1 v2 v3 (v4 + Int32.ofInt 1) S
theorem F_175_81_ok {G : jG} {t : Nat} {k5 : Int32 → Int32 → Int32 → Int32 → sS → Option (Int32 × sS)} {r : Int32} {S' : sS} {Q : Option Value ⊕ Nat → jS → Prop} (hk5 : ∀ (v1 : Int32) (v2 : Int32) (v3 : Int32) (v4 : Int32) (S : sS) (lv : jL) (μ : jS), jld lv 0 = some (.ref (spl 33 0 0)) → jld lv 1 = some (.int v1) → jld lv 2 = some (.int v2) → jld lv 3 = some (.int v3) → jld lv 4 = some (.int v4) → sR S μ → k5 v1 v2 v3 v4 S = some (r, S') → jX G jP 175 5 lv [] μ Q) (K : ∀ μ', sR S' μ' → Q (srI r) μ') : ∀ (v1 : Int32) (v2 : Int32) (v3 : Int32) (v4 : Int32) (S : sS) (lv : jL) (μ : jS), jld lv 0 = some (.ref (spl 33 0 0)) → jld lv 1 = some (.int v1) → jld lv 2 = some (.int v2) → jld lv 3 = some (.int v3) → jld lv 4 = some (.int v4) → sR S μ → F_175_81 G t k5 v1 v2 v3 v4 S = some (r, S') → jX G jP 175 81 lv [] μ Q := by
  intro v1 v2 v3 v4 S lv μ l0 l1 l2 l3 l4 R h
  unfold F_175_81 at h
  refine jX.inc l4 (by rfl) (by rfl) (by rfl) (fun lv l4 kp => (?_ : jX G jP 175 84 lv [] μ Q))
  replace l0 := kp 0 _ l0 (by rfl) (by first | rfl | simp [soR_cat])
  replace l1 := kp 1 _ l1 (by rfl) (by first | rfl | simp [soR_cat])
  replace l2 := kp 2 _ l2 (by rfl) (by first | rfl | simp [soR_cat])
  replace l3 := kp 3 _ l3 (by rfl) (by first | rfl | simp [soR_cat])
  refine jX.go (by rfl) (by rfl) (by rfl) (?_ : jX G jP 175 5 lv [] μ Q)
  exact hk5 v1 v2 v3 (v4 + Int32.ofInt 1) _ _ _ l0 l1 l2 l3 l4 R h
def F_175_78 (G : jG) (t : Nat) (k5 : Int32 → Int32 → Int32 → Int32 → sS → Option (Int32 × sS)) (v1 : Int32) (v2 : Int32) (v4 : Int32) (S : sS) : Option (Int32 × sS) := F_175_81 G t k5 v1 v2 v4 v4 S
theorem F_175_78_ok {G : jG} {t : Nat} {k5 : Int32 → Int32 → Int32 → Int32 → sS → Option (Int32 × sS)} {r : Int32} {S' : sS} {Q : Option Value ⊕ Nat → jS → Prop} (hk5 : ∀ (v1 : Int32) (v2 : Int32) (v3 : Int32) (v4 : Int32) (S : sS) (lv : jL) (μ : jS), jld lv 0 = some (.ref (spl 33 0 0)) → jld lv 1 = some (.int v1) → jld lv 2 = some (.int v2) → jld lv 3 = some (.int v3) → jld lv 4 = some (.int v4) → sR S μ → k5 v1 v2 v3 v4 S = some (r, S') → jX G jP 175 5 lv [] μ Q) (K : ∀ μ', sR S' μ' → Q (srI r) μ') : ∀ (v1 : Int32) (v2 : Int32) (v4 : Int32) (S : sS) (lv : jL) (μ : jS), jld lv 0 = some (.ref (spl 33 0 0)) → jld lv 1 = some (.int v1) → jld lv 2 = some (.int v2) → jld lv 4 = some (.int v4) → sR S μ → F_175_78 G t k5 v1 v2 v4 S = some (r, S') → jX G jP 175 78 lv [] μ Q := by
  intro v1 v2 v4 S lv μ l0 l1 l2 l4 R h
  unfold F_175_78 at h
  refine jX.li l4 (by rfl) (by rfl) (?_ : jX G jP 175 80 lv [.int v4] μ Q)
  refine jX.s1 (k := 3) (pc' := 81) (by rfl) (by rfl) (by rfl) (fun lv l3 kp => (?_ : jX G jP 175 81 lv [] μ Q))
  replace l0 := kp 0 _ l0 (by rfl) (by first | rfl | simp [soR_cat])
  replace l1 := kp 1 _ l1 (by rfl) (by first | rfl | simp [soR_cat])
  replace l2 := kp 2 _ l2 (by rfl) (by first | rfl | simp [soR_cat])
  replace l4 := kp 4 _ l4 (by rfl) (by first | rfl | simp [soR_cat])
  exact F_175_81_ok hk5 K v1 v2 v4 v4 _ _ _ l0 l1 l2 l3 l4 R h
def F_175_5 (G : jG) (t : Nat) : Nat → Int32 → Int32 → Int32 → Int32 → sS → Option (Int32 × sS)
  | 0 => fun _ _ _ _ _ => none
  | tt + 1 => fun v1 v2 v3 v4 S => bif jcmp .ge v4 (nI 16) then (some (v3, S)) else (jif (jin v4 16) (jif (sex S.2.2.2.1 54 v4.toNatClampNeg 0) (bif jcmp .lt (S.1 54 v4.toNatClampNeg 0 0) (nI 2) then (F_175_81 G t (F_175_5 G t tt) v1 v2 v3 v4 S) else (jif (jin v4 16) (bif jcmp .gt (S.1 54 v4.toNatClampNeg 0 0) (nI 4) then (F_175_81 G t (F_175_5 G t tt) v1 v2 v3 v4 S) else ((F_174 G t v4 v1 v2 S).bind (fun q4 => bif jcmp .eq q4.1 0 then (F_175_81 G t (F_175_5 G t tt) v1 v2 v3 v4 q4.2) else (bif jcmp .lt v3 0 then (F_175_78 G t (F_175_5 G t tt) v1 v2 v4 q4.2) else (jif (jin v4 16) (jif (sex q4.2.2.2.2.1 54 v4.toNatClampNeg 0) (jif (jin v3 16) (jif (sex q4.2.2.2.2.1 54 v3.toNatClampNeg 0) (bif jcmp .ge (lg_cmp (q4.2.2.1 54 v4.toNatClampNeg 0 3) (q4.2.2.1 54 v3.toNatClampNeg 0 3)) 0 then (F_175_81 G t (F_175_5 G t tt) v1 v2 v3 v4 q4.2) else (F_175_78 G t (F_175_5 G t tt) v1 v2 v4 q4.2))))))))))))))
theorem F_175_5_ok {G : jG} {t : Nat} {r : Int32} {S' : sS} {Q : Option Value ⊕ Nat → jS → Prop} (K : ∀ μ', sR S' μ' → Q (srI r) μ') : ∀ tt : Nat, ∀ (v1 : Int32) (v2 : Int32) (v3 : Int32) (v4 : Int32) (S : sS) (lv : jL) (μ : jS), jld lv 0 = some (.ref (spl 33 0 0)) → jld lv 1 = some (.int v1) → jld lv 2 = some (.int v2) → jld lv 3 = some (.int v3) → jld lv 4 = some (.int v4) → sR S μ → F_175_5 G t tt v1 v2 v3 v4 S = some (r, S') → jX G jP 175 5 lv [] μ Q := by
  intro tt
  induction tt with
  | zero =>
    intro v1 v2 v3 v4 S lv μ l0 l1 l2 l3 l4 R h
    rw [F_175_5] at h
    cases h
  | succ tt ih =>
    intro v1 v2 v3 v4 S lv μ l0 l1 l2 l3 l4 R h
    rw [F_175_5] at h
    refine jX.li l4 (by rfl) (by rfl) (?_ : jX G jP 175 7 lv [.int v4] μ Q)
    refine jX.ic (v := nI 16) (n := 2) (by rfl) (by rfl) (by decide) (?_ : jX G jP 175 9 lv [.int (nI 16), .int v4] μ Q)
    rcases bif_or h with ⟨hc, h⟩ | ⟨hc, h⟩
    · refine jX.b2t hc (by rfl) (by rfl) (by rfl) (?_ : jX G jP 175 87 lv [] μ Q)
      refine jX.lin l3 (by rfl) (by rfl) (?_ : jX G jP 175 88 lv [.int v3] μ Q)
      exact jX.ret (by rfl) (by rfl) (by rfl) (by rfl) (sretv (f := srI) h K R)
    · refine jX.b2f hc (by rfl) (by rfl) (by rfl) (?_ : jX G jP 175 12 lv [] μ Q)
      refine jX.lrn l0 (by rfl) (by rfl) (?_ : jX G jP 175 13 lv [.ref (spl 33 0 0)] μ Q)
      refine jX.sg R (by rfl) (by rfl) (by rfl) (by rfl) (by rfl) (by rfl) (?_ : jX G jP 175 16 lv [.ref (spl 35 0 0)] μ Q)
      refine jX.li l4 (by rfl) (by rfl) (?_ : jX G jP 175 18 lv [.int v4, .ref (spl 35 0 0)] μ Q)
      obtain ⟨g1, h⟩ := jif_some h
      refine jX.sar (f := fun q => bif Nat.blt q 16 then some (spl 54 q 0) else none) R (by rfl) (by rfl) (by rfl) (by rfl) g1 (srf_in g1) (?_ : jX G jP 175 19 lv [.ref (spl 54 v4.toNatClampNeg 0)] μ Q)
      obtain ⟨g2, h⟩ := jif_some h
      refine jX.sg R g2 (by rfl) (by rfl) (by rfl) (by rfl) (by rfl) (?_ : jX G jP 175 22 lv [.int (S.1 54 v4.toNatClampNeg 0 0)] μ Q)
      refine jX.ic (v := nI 2) (n := 1) (by rfl) (by rfl) (by decide) (?_ : jX G jP 175 23 lv [.int (nI 2), .int (S.1 54 v4.toNatClampNeg 0 0)] μ Q)
      rcases bif_or h with ⟨hc, h⟩ | ⟨hc, h⟩
      · refine jX.b2t hc (by rfl) (by rfl) (by rfl) (?_ : jX G jP 175 81 lv [] μ Q)
        exact F_175_81_ok ih K v1 v2 v3 v4 _ _ _ l0 l1 l2 l3 l4 R h
      · refine jX.b2f hc (by rfl) (by rfl) (by rfl) (?_ : jX G jP 175 26 lv [] μ Q)
        refine jX.lrn l0 (by rfl) (by rfl) (?_ : jX G jP 175 27 lv [.ref (spl 33 0 0)] μ Q)
        refine jX.sg R (by rfl) (by rfl) (by rfl) (by rfl) (by rfl) (by rfl) (?_ : jX G jP 175 30 lv [.ref (spl 35 0 0)] μ Q)
        refine jX.li l4 (by rfl) (by rfl) (?_ : jX G jP 175 32 lv [.int v4, .ref (spl 35 0 0)] μ Q)
        obtain ⟨g3, h⟩ := jif_some h
        refine jX.sar (f := fun q => bif Nat.blt q 16 then some (spl 54 q 0) else none) R (by rfl) (by rfl) (by rfl) (by rfl) g3 (srf_in g3) (?_ : jX G jP 175 33 lv [.ref (spl 54 v4.toNatClampNeg 0)] μ Q)
        refine jX.sg R g2 (by rfl) (by rfl) (by rfl) (by rfl) (by rfl) (?_ : jX G jP 175 36 lv [.int (S.1 54 v4.toNatClampNeg 0 0)] μ Q)
        refine jX.ic (v := nI 4) (n := 1) (by rfl) (by rfl) (by decide) (?_ : jX G jP 175 37 lv [.int (nI 4), .int (S.1 54 v4.toNatClampNeg 0 0)] μ Q)
        rcases bif_or h with ⟨hc, h⟩ | ⟨hc, h⟩
        · refine jX.b2t hc (by rfl) (by rfl) (by rfl) (?_ : jX G jP 175 81 lv [] μ Q)
          exact F_175_81_ok ih K v1 v2 v3 v4 _ _ _ l0 l1 l2 l3 l4 R h
        · refine jX.b2f hc (by rfl) (by rfl) (by rfl) (?_ : jX G jP 175 40 lv [] μ Q)
          refine jX.lrn l0 (by rfl) (by rfl) (?_ : jX G jP 175 41 lv [.ref (spl 33 0 0)] μ Q)
          refine jX.li l4 (by rfl) (by rfl) (?_ : jX G jP 175 43 lv [.int v4, .ref (spl 33 0 0)] μ Q)
          refine jX.lin l1 (by rfl) (by rfl) (?_ : jX G jP 175 44 lv [.int v1, .int v4, .ref (spl 33 0 0)] μ Q)
          refine jX.lin l2 (by rfl) (by rfl) (?_ : jX G jP 175 45 lv [.int v2, .int v1, .int v4, .ref (spl 33 0 0)] μ Q)
          obtain ⟨q4, e4, h⟩ := sbd h
          refine jX.c1 (v := .int q4.1) (by rfl) (by rfl) (by rfl) (by rfl) (by rfl) (by rfl) (by rfl) (R.rec (by rfl) (by rfl)) (Nat.le_of_ble_eq_true rfl) (Nat.le_of_ble_eq_true rfl) (F_174_ok R e4 (fun μ R => ⟨rfl, (?_ : jX G jP 175 48 lv [.int q4.1] μ Q)⟩))
          rcases bif_or h with ⟨hc, h⟩ | ⟨hc, h⟩
          · refine jX.b1t hc (by rfl) (by rfl) (by rfl) (?_ : jX G jP 175 81 lv [] μ Q)
            exact F_175_81_ok ih K v1 v2 v3 v4 _ _ _ l0 l1 l2 l3 l4 R h
          · refine jX.b1f hc (by rfl) (by rfl) (by rfl) (?_ : jX G jP 175 51 lv [] μ Q)
            refine jX.lin l3 (by rfl) (by rfl) (?_ : jX G jP 175 52 lv [.int v3] μ Q)
            rcases bif_or h with ⟨hc, h⟩ | ⟨hc, h⟩
            · refine jX.b1t hc (by rfl) (by rfl) (by rfl) (?_ : jX G jP 175 78 lv [] μ Q)
              exact F_175_78_ok ih K v1 v2 v4 _ _ _ l0 l1 l2 l4 R h
            · refine jX.b1f hc (by rfl) (by rfl) (by rfl) (?_ : jX G jP 175 55 lv [] μ Q)
              refine jX.lrn l0 (by rfl) (by rfl) (?_ : jX G jP 175 56 lv [.ref (spl 33 0 0)] μ Q)
              refine jX.sg R (by rfl) (by rfl) (by rfl) (by rfl) (by rfl) (by rfl) (?_ : jX G jP 175 59 lv [.ref (spl 35 0 0)] μ Q)
              refine jX.li l4 (by rfl) (by rfl) (?_ : jX G jP 175 61 lv [.int v4, .ref (spl 35 0 0)] μ Q)
              obtain ⟨g5, h⟩ := jif_some h
              refine jX.sar (f := fun q => bif Nat.blt q 16 then some (spl 54 q 0) else none) R (by rfl) (by rfl) (by rfl) (by rfl) g5 (srf_in g5) (?_ : jX G jP 175 62 lv [.ref (spl 54 v4.toNatClampNeg 0)] μ Q)
              obtain ⟨g6, h⟩ := jif_some h
              refine jX.sg R g6 (by rfl) (by rfl) (by rfl) (by rfl) (by rfl) (?_ : jX G jP 175 65 lv [.long (q4.2.2.1 54 v4.toNatClampNeg 0 3)] μ Q)
              refine jX.lrn l0 (by rfl) (by rfl) (?_ : jX G jP 175 66 lv [.ref (spl 33 0 0), .long (q4.2.2.1 54 v4.toNatClampNeg 0 3)] μ Q)
              refine jX.sg R (by rfl) (by rfl) (by rfl) (by rfl) (by rfl) (by rfl) (?_ : jX G jP 175 69 lv [.ref (spl 35 0 0), .long (q4.2.2.1 54 v4.toNatClampNeg 0 3)] μ Q)
              refine jX.lin l3 (by rfl) (by rfl) (?_ : jX G jP 175 70 lv [.int v3, .ref (spl 35 0 0), .long (q4.2.2.1 54 v4.toNatClampNeg 0 3)] μ Q)
              obtain ⟨g7, h⟩ := jif_some h
              refine jX.sar (f := fun q => bif Nat.blt q 16 then some (spl 54 q 0) else none) R (by rfl) (by rfl) (by rfl) (by rfl) g7 (srf_in g7) (?_ : jX G jP 175 71 lv [.ref (spl 54 v3.toNatClampNeg 0), .long (q4.2.2.1 54 v4.toNatClampNeg 0 3)] μ Q)
              obtain ⟨g8, h⟩ := jif_some h
              refine jX.sg R g8 (by rfl) (by rfl) (by rfl) (by rfl) (by rfl) (?_ : jX G jP 175 74 lv [.long (q4.2.2.1 54 v3.toNatClampNeg 0 3), .long (q4.2.2.1 54 v4.toNatClampNeg 0 3)] μ Q)
              refine jX.go (by rfl) (by rfl) (by rfl) (?_ : jX G jP 175 75 lv [.int (lg_cmp (q4.2.2.1 54 v4.toNatClampNeg 0 3) (q4.2.2.1 54 v3.toNatClampNeg 0 3))] μ Q)
              rcases bif_or h with ⟨hc, h⟩ | ⟨hc, h⟩
              · refine jX.b1t hc (by rfl) (by rfl) (by rfl) (?_ : jX G jP 175 81 lv [] μ Q)
                exact F_175_81_ok ih K v1 v2 v3 v4 _ _ _ l0 l1 l2 l3 l4 R h
              · refine jX.b1f hc (by rfl) (by rfl) (by rfl) (?_ : jX G jP 175 78 lv [] μ Q)
                exact F_175_78_ok ih K v1 v2 v4 _ _ _ l0 l1 l2 l4 R h
def F_175 (G : jG) (t : Nat) (v1 : Int32) (v2 : Int32) (S : sS) : Option (Int32 × sS) := F_175_5 G t t v1 v2 (-1) (nI 0) S
theorem F_175_ok {G : jG} {t : Nat} {v1 : Int32} {v2 : Int32} {S : sS} {r : Int32} {S' : sS} {μ : jS} {Q : Option Value ⊕ Nat → jS → Prop} (R : sR S μ) (h : F_175 G t v1 v2 S = some (r, S')) (K : ∀ μ', sR S' μ' → Q (srI r) μ') : jX G jP 175 0 (lv_args 0 [.ref (spl 33 0 0), .int v1, .int v2]) [] μ Q := by
  unfold F_175 at h
  have l0 : jld (lv_args 0 [.ref (spl 33 0 0), .int v1, .int v2]) 0 = some (.ref (spl 33 0 0)) := by rfl
  have l1 : jld (lv_args 0 [.ref (spl 33 0 0), .int v1, .int v2]) 1 = some (.int v1) := by rfl
  have l2 : jld (lv_args 0 [.ref (spl 33 0 0), .int v1, .int v2]) 2 = some (.int v2) := by rfl
  generalize lv_args 0 [.ref (spl 33 0 0), .int v1, .int v2] = lv at *
  refine jX.ic (v := (-1)) (n := 1) (by rfl) (by rfl) (by decide) (?_ : jX G jP 175 1 lv [.int (-1)] μ Q)
  refine jX.s1 (k := 3) (pc' := 2) (by rfl) (by rfl) (by rfl) (fun lv l3 kp => (?_ : jX G jP 175 2 lv [] μ Q))
  replace l0 := kp 0 _ l0 (by rfl) (by first | rfl | simp [soR_cat])
  replace l1 := kp 1 _ l1 (by rfl) (by first | rfl | simp [soR_cat])
  replace l2 := kp 2 _ l2 (by rfl) (by first | rfl | simp [soR_cat])
  refine jX.ic (v := nI 0) (n := 1) (by rfl) (by rfl) (by decide) (?_ : jX G jP 175 3 lv [.int (nI 0)] μ Q)
  refine jX.s1 (k := 4) (pc' := 5) (by rfl) (by rfl) (by rfl) (fun lv l4 kp => (?_ : jX G jP 175 5 lv [] μ Q))
  replace l0 := kp 0 _ l0 (by rfl) (by first | rfl | simp [soR_cat])
  replace l1 := kp 1 _ l1 (by rfl) (by first | rfl | simp [soR_cat])
  replace l2 := kp 2 _ l2 (by rfl) (by first | rfl | simp [soR_cat])
  replace l3 := kp 3 _ l3 (by rfl) (by first | rfl | simp [soR_cat])
  exact F_175_5_ok  K _ v1 v2 (-1) (nI 0) _ _ _ l0 l1 l2 l3 l4 R h
/-! 176 StrandRuntimeModel.may(IZ)Z -/
def F_176_40 (G : jG) (t : Nat) (S : sS) : Option (Int32 × sS) := some ((nI 1), S)
theorem F_176_40_ok {G : jG} {t : Nat} {r : Int32} {S' : sS} {Q : Option Value ⊕ Nat → jS → Prop} (K : ∀ μ', sR S' μ' → Q (srI r) μ') : ∀ (S : sS) (lv : jL) (μ : jS), sR S μ → F_176_40 G t S = some (r, S') → jX G jP 176 40 lv [] μ Q := by
  intro S lv μ R h
  unfold F_176_40 at h
  refine jX.ic (v := nI 1) (n := 1) (by rfl) (by rfl) (by decide) (?_ : jX G jP 176 41 lv [.int (nI 1)] μ Q)
  refine jX.go (by rfl) (by rfl) (by rfl) (?_ : jX G jP 176 69 lv [.int (nI 1)] μ Q)
  exact jX.ret (by rfl) (by rfl) (by rfl) (by rfl) (sretv (f := srI) h K R)
def F_176_64 (G : jG) (t : Nat) (S : sS) : Option (Int32 × sS) := some ((nI 1), S)
theorem F_176_64_ok {G : jG} {t : Nat} {r : Int32} {S' : sS} {Q : Option Value ⊕ Nat → jS → Prop} (K : ∀ μ', sR S' μ' → Q (srI r) μ') : ∀ (S : sS) (lv : jL) (μ : jS), sR S μ → F_176_64 G t S = some (r, S') → jX G jP 176 64 lv [] μ Q := by
  intro S lv μ R h
  unfold F_176_64 at h
  refine jX.ic (v := nI 1) (n := 1) (by rfl) (by rfl) (by decide) (?_ : jX G jP 176 65 lv [.int (nI 1)] μ Q)
  refine jX.go (by rfl) (by rfl) (by rfl) (?_ : jX G jP 176 69 lv [.int (nI 1)] μ Q)
  exact jX.ret (by rfl) (by rfl) (by rfl) (by rfl) (sretv (f := srI) h K R)
def F_176 (G : jG) (t : Nat) (v1 : Int32) (v2 : Int32) (S : sS) : Option (Int32 × sS) := jif (jin v1 1300) (jif (sex S.2.2.2.1 51 v1.toNatClampNeg 0) (bif jcmp .eq (S.1 51 v1.toNatClampNeg 0 4) 0 then (bif jcmp .eq v2 0 then (bif jcmp .gt (S.1 51 v1.toNatClampNeg 0 2) 0 then (F_176_64 G t S) else ((F_175 G t v1 (nI 1) S).bind (fun q3 => bif jcmp .lt q3.1 0 then (some ((nI 0), q3.2)) else (F_176_64 G t q3.2)))) else ((F_175 G t v1 (nI 0) S).bind (fun q4 => bif jcmp .ge q4.1 0 then (F_176_40 G t q4.2) else (jif (sex q4.2.2.2.2.1 51 v1.toNatClampNeg 0) (bif jcmp .ge (q4.2.1 51 v1.toNatClampNeg 0 2) (q4.2.1 51 v1.toNatClampNeg 0 1) then (some ((nI 0), q4.2)) else (F_176_40 G t q4.2)))))) else (some ((nI 1), S))))
theorem F_176_ok {G : jG} {t : Nat} {v1 : Int32} {v2 : Int32} {S : sS} {r : Int32} {S' : sS} {μ : jS} {Q : Option Value ⊕ Nat → jS → Prop} (R : sR S μ) (h : F_176 G t v1 v2 S = some (r, S')) (K : ∀ μ', sR S' μ' → Q (srI r) μ') : jX G jP 176 0 (lv_args 0 [.ref (spl 33 0 0), .int v1, .int v2]) [] μ Q := by
  unfold F_176 at h
  have l0 : jld (lv_args 0 [.ref (spl 33 0 0), .int v1, .int v2]) 0 = some (.ref (spl 33 0 0)) := by rfl
  have l1 : jld (lv_args 0 [.ref (spl 33 0 0), .int v1, .int v2]) 1 = some (.int v1) := by rfl
  have l2 : jld (lv_args 0 [.ref (spl 33 0 0), .int v1, .int v2]) 2 = some (.int v2) := by rfl
  generalize lv_args 0 [.ref (spl 33 0 0), .int v1, .int v2] = lv at *
  refine jX.lrn l0 (by rfl) (by rfl) (?_ : jX G jP 176 1 lv [.ref (spl 33 0 0)] μ Q)
  refine jX.sg R (by rfl) (by rfl) (by rfl) (by rfl) (by rfl) (by rfl) (?_ : jX G jP 176 4 lv [.ref (spl 34 0 0)] μ Q)
  refine jX.lin l1 (by rfl) (by rfl) (?_ : jX G jP 176 5 lv [.int v1, .ref (spl 34 0 0)] μ Q)
  obtain ⟨g1, h⟩ := jif_some h
  refine jX.sar (f := fun q => bif Nat.blt q 1300 then some (spl 51 q 0) else none) R (by rfl) (by rfl) (by rfl) (by rfl) g1 (srf_in g1) (?_ : jX G jP 176 6 lv [.ref (spl 51 v1.toNatClampNeg 0)] μ Q)
  refine jX.s1 (k := 3) (pc' := 7) (by rfl) (by rfl) (by rfl) (fun lv l3 kp => (?_ : jX G jP 176 7 lv [] μ Q))
  replace l0 := kp 0 _ l0 (by rfl) (by first | rfl | simp [soR_cat])
  replace l1 := kp 1 _ l1 (by rfl) (by first | rfl | simp [soR_cat])
  replace l2 := kp 2 _ l2 (by rfl) (by first | rfl | simp [soR_cat])
  refine jX.lrn l3 (by rfl) (by rfl) (?_ : jX G jP 176 8 lv [.ref (spl 51 v1.toNatClampNeg 0)] μ Q)
  obtain ⟨g2, h⟩ := jif_some h
  refine jX.sg R g2 (by rfl) (by rfl) (by rfl) (by rfl) (by rfl) (?_ : jX G jP 176 11 lv [.int (S.1 51 v1.toNatClampNeg 0 4)] μ Q)
  rcases bif_or h with ⟨hc, h⟩ | ⟨hc, h⟩
  · refine jX.b1t hc (by rfl) (by rfl) (by rfl) (?_ : jX G jP 176 16 lv [] μ Q)
    refine jX.lin l2 (by rfl) (by rfl) (?_ : jX G jP 176 17 lv [.int v2] μ Q)
    rcases bif_or h with ⟨hc, h⟩ | ⟨hc, h⟩
    · refine jX.b1t hc (by rfl) (by rfl) (by rfl) (?_ : jX G jP 176 48 lv [] μ Q)
      refine jX.lrn l3 (by rfl) (by rfl) (?_ : jX G jP 176 49 lv [.ref (spl 51 v1.toNatClampNeg 0)] μ Q)
      refine jX.sg R g2 (by rfl) (by rfl) (by rfl) (by rfl) (by rfl) (?_ : jX G jP 176 52 lv [.int (S.1 51 v1.toNatClampNeg 0 2)] μ Q)
      rcases bif_or h with ⟨hc, h⟩ | ⟨hc, h⟩
      · refine jX.b1t hc (by rfl) (by rfl) (by rfl) (?_ : jX G jP 176 64 lv [] μ Q)
        exact F_176_64_ok  K  _ _ _  R h
      · refine jX.b1f hc (by rfl) (by rfl) (by rfl) (?_ : jX G jP 176 55 lv [] μ Q)
        refine jX.lrn l0 (by rfl) (by rfl) (?_ : jX G jP 176 56 lv [.ref (spl 33 0 0)] μ Q)
        refine jX.lin l1 (by rfl) (by rfl) (?_ : jX G jP 176 57 lv [.int v1, .ref (spl 33 0 0)] μ Q)
        refine jX.ic (v := nI 1) (n := 1) (by rfl) (by rfl) (by decide) (?_ : jX G jP 176 58 lv [.int (nI 1), .int v1, .ref (spl 33 0 0)] μ Q)
        obtain ⟨q3, e3, h⟩ := sbd h
        refine jX.c1 (v := .int q3.1) (by rfl) (by rfl) (by rfl) (by rfl) (by rfl) (by rfl) (by rfl) (R.rec (by rfl) (by rfl)) (Nat.le_of_ble_eq_true rfl) (Nat.le_of_ble_eq_true rfl) (F_175_ok R e3 (fun μ R => ⟨rfl, (?_ : jX G jP 176 61 lv [.int q3.1] μ Q)⟩))
        rcases bif_or h with ⟨hc, h⟩ | ⟨hc, h⟩
        · refine jX.b1t hc (by rfl) (by rfl) (by rfl) (?_ : jX G jP 176 68 lv [] μ Q)
          refine jX.ic (v := nI 0) (n := 1) (by rfl) (by rfl) (by decide) (?_ : jX G jP 176 69 lv [.int (nI 0)] μ Q)
          exact jX.ret (by rfl) (by rfl) (by rfl) (by rfl) (sretv (f := srI) h K R)
        · refine jX.b1f hc (by rfl) (by rfl) (by rfl) (?_ : jX G jP 176 64 lv [] μ Q)
          exact F_176_64_ok  K  _ _ _  R h
    · refine jX.b1f hc (by rfl) (by rfl) (by rfl) (?_ : jX G jP 176 20 lv [] μ Q)
      refine jX.lrn l0 (by rfl) (by rfl) (?_ : jX G jP 176 21 lv [.ref (spl 33 0 0)] μ Q)
      refine jX.lin l1 (by rfl) (by rfl) (?_ : jX G jP 176 22 lv [.int v1, .ref (spl 33 0 0)] μ Q)
      refine jX.ic (v := nI 0) (n := 1) (by rfl) (by rfl) (by decide) (?_ : jX G jP 176 23 lv [.int (nI 0), .int v1, .ref (spl 33 0 0)] μ Q)
      obtain ⟨q4, e4, h⟩ := sbd h
      refine jX.c1 (v := .int q4.1) (by rfl) (by rfl) (by rfl) (by rfl) (by rfl) (by rfl) (by rfl) (R.rec (by rfl) (by rfl)) (Nat.le_of_ble_eq_true rfl) (Nat.le_of_ble_eq_true rfl) (F_175_ok R e4 (fun μ R => ⟨rfl, (?_ : jX G jP 176 26 lv [.int q4.1] μ Q)⟩))
      rcases bif_or h with ⟨hc, h⟩ | ⟨hc, h⟩
      · refine jX.b1t hc (by rfl) (by rfl) (by rfl) (?_ : jX G jP 176 40 lv [] μ Q)
        exact F_176_40_ok  K  _ _ _  R h
      · refine jX.b1f hc (by rfl) (by rfl) (by rfl) (?_ : jX G jP 176 29 lv [] μ Q)
        refine jX.lrn l3 (by rfl) (by rfl) (?_ : jX G jP 176 30 lv [.ref (spl 51 v1.toNatClampNeg 0)] μ Q)
        obtain ⟨g5, h⟩ := jif_some h
        refine jX.sg R g5 (by rfl) (by rfl) (by rfl) (by rfl) (by rfl) (?_ : jX G jP 176 33 lv [.int (q4.2.1 51 v1.toNatClampNeg 0 2)] μ Q)
        refine jX.lrn l3 (by rfl) (by rfl) (?_ : jX G jP 176 34 lv [.ref (spl 51 v1.toNatClampNeg 0), .int (q4.2.1 51 v1.toNatClampNeg 0 2)] μ Q)
        refine jX.sg R g5 (by rfl) (by rfl) (by rfl) (by rfl) (by rfl) (?_ : jX G jP 176 37 lv [.int (q4.2.1 51 v1.toNatClampNeg 0 1), .int (q4.2.1 51 v1.toNatClampNeg 0 2)] μ Q)
        rcases bif_or h with ⟨hc, h⟩ | ⟨hc, h⟩
        · refine jX.b2t hc (by rfl) (by rfl) (by rfl) (?_ : jX G jP 176 44 lv [] μ Q)
          refine jX.ic (v := nI 0) (n := 1) (by rfl) (by rfl) (by decide) (?_ : jX G jP 176 45 lv [.int (nI 0)] μ Q)
          refine jX.go (by rfl) (by rfl) (by rfl) (?_ : jX G jP 176 69 lv [.int (nI 0)] μ Q)
          exact jX.ret (by rfl) (by rfl) (by rfl) (by rfl) (sretv (f := srI) h K R)
        · refine jX.b2f hc (by rfl) (by rfl) (by rfl) (?_ : jX G jP 176 40 lv [] μ Q)
          exact F_176_40_ok  K  _ _ _  R h
  · refine jX.b1f hc (by rfl) (by rfl) (by rfl) (?_ : jX G jP 176 14 lv [] μ Q)
    refine jX.ic (v := nI 1) (n := 1) (by rfl) (by rfl) (by decide) (?_ : jX G jP 176 15 lv [.int (nI 1)] μ Q)
    exact jX.ret (by rfl) (by rfl) (by rfl) (by rfl) (sretv (f := srI) h K R)
/-! 177 StrandRuntimeModel.waitAs(LStrandRuntimeModel$Strand;I)V -/
def F_177 (G : jG) (t : Nat) (v1 : (Nat × Nat)) (v2 : Int32) (S : sS) : Option (Unit × sS) := jif (sex S.2.2.2.1 54 v1.1 v1.2) (some ((), (siL (siL (siI S 54 v1.1 v1.2 0 v2) 54 v1.1 v1.2 3 ((siI S 54 v1.1 v1.2 0 v2).2.1 33 0 0 28)) 33 0 0 28 (((siL (siI S 54 v1.1 v1.2 0 v2) 54 v1.1 v1.2 3 ((siI S 54 v1.1 v1.2 0 v2).2.1 33 0 0 28)).2.1 33 0 0 28) + 1))))
theorem F_177_ok {G : jG} {t : Nat} {v1 : (Nat × Nat)} {v2 : Int32} {S : sS} {r : Unit} {S' : sS} {μ : jS} {Q : Option Value ⊕ Nat → jS → Prop} (R : sR S μ) (h : F_177 G t v1 v2 S = some (r, S')) (K : ∀ μ', sR S' μ' → Q (srV r) μ') : jX G jP 177 0 (lv_args 0 [.ref (spl 33 0 0), .ref (spl 54 v1.1 v1.2), .int v2]) [] μ Q := by
  unfold F_177 at h
  have l0 : jld (lv_args 0 [.ref (spl 33 0 0), .ref (spl 54 v1.1 v1.2), .int v2]) 0 = some (.ref (spl 33 0 0)) := by rfl
  have l1 : jld (lv_args 0 [.ref (spl 33 0 0), .ref (spl 54 v1.1 v1.2), .int v2]) 1 = some (.ref (spl 54 v1.1 v1.2)) := by rfl
  have l2 : jld (lv_args 0 [.ref (spl 33 0 0), .ref (spl 54 v1.1 v1.2), .int v2]) 2 = some (.int v2) := by rfl
  generalize lv_args 0 [.ref (spl 33 0 0), .ref (spl 54 v1.1 v1.2), .int v2] = lv at *
  refine jX.lrn l1 (by rfl) (by rfl) (?_ : jX G jP 177 1 lv [.ref (spl 54 v1.1 v1.2)] μ Q)
  refine jX.lin l2 (by rfl) (by rfl) (?_ : jX G jP 177 2 lv [.int v2, .ref (spl 54 v1.1 v1.2)] μ Q)
  obtain ⟨g1, h⟩ := jif_some h
  refine jX.spI R g1 (by rfl) (by rfl) (by rfl) (by rfl) (by rfl) (by rfl) (by rfl) (by rfl) (fun μ R => (?_ : jX G jP 177 5 lv [] μ Q))
  refine jX.lrn l1 (by rfl) (by rfl) (?_ : jX G jP 177 6 lv [.ref (spl 54 v1.1 v1.2)] μ Q)
  refine jX.lrn l0 (by rfl) (by rfl) (?_ : jX G jP 177 7 lv [.ref (spl 33 0 0), .ref (spl 54 v1.1 v1.2)] μ Q)
  refine jX.sg R (by rfl) (by rfl) (by rfl) (by rfl) (by rfl) (by rfl) (?_ : jX G jP 177 10 lv [.long ((siI S 54 v1.1 v1.2 0 v2).2.1 33 0 0 28), .ref (spl 54 v1.1 v1.2)] μ Q)
  refine jX.spL R g1 (by rfl) (by rfl) (by rfl) (by rfl) (by rfl) (by rfl) (by rfl) (by rfl) (fun μ R => (?_ : jX G jP 177 13 lv [] μ Q))
  refine jX.lrn l0 (by rfl) (by rfl) (?_ : jX G jP 177 14 lv [.ref (spl 33 0 0)] μ Q)
  refine jX.go (by rfl) (by rfl) (by rfl) (?_ : jX G jP 177 15 lv [.ref (spl 33 0 0), .ref (spl 33 0 0)] μ Q)
  refine jX.sg R (by rfl) (by rfl) (by rfl) (by rfl) (by rfl) (by rfl) (?_ : jX G jP 177 18 lv [.long ((siL (siI S 54 v1.1 v1.2 0 v2) 54 v1.1 v1.2 3 ((siI S 54 v1.1 v1.2 0 v2).2.1 33 0 0 28)).2.1 33 0 0 28), .ref (spl 33 0 0)] μ Q)
  refine jX.go (by rfl) (by rfl) (by rfl) (?_ : jX G jP 177 19 lv [.long 1, .long ((siL (siI S 54 v1.1 v1.2 0 v2) 54 v1.1 v1.2 3 ((siI S 54 v1.1 v1.2 0 v2).2.1 33 0 0 28)).2.1 33 0 0 28), .ref (spl 33 0 0)] μ Q)
  refine jX.go (by rfl) (by rfl) (by rfl) (?_ : jX G jP 177 20 lv [.long (((siL (siI S 54 v1.1 v1.2 0 v2) 54 v1.1 v1.2 3 ((siI S 54 v1.1 v1.2 0 v2).2.1 33 0 0 28)).2.1 33 0 0 28) + 1), .ref (spl 33 0 0)] μ Q)
  refine jX.spL R (by rfl) (by rfl) (by rfl) (by rfl) (by rfl) (by rfl) (by rfl) (by rfl) (by rfl) (fun μ R => (?_ : jX G jP 177 23 lv [] μ Q))
  exact jX.ret (by rfl) (by rfl) (by rfl) (by rfl) (sretv (f := srV) h K R)
/-! 178 StrandRuntimeModel.ends(I)V -/
def F_178_51 (G : jG) (t : Nat) (k18 : Int32 → Int32 → Int32 → sS → Option (Unit × sS)) (v1 : Int32) (v2 : Int32) (v3 : Int32) (S : sS) : Option (Unit × sS) := k18 v1 v2 (v3 + Int32.ofInt 1) S
theorem F_178_51_ok {G : jG} {t : Nat} {k18 : Int32 → Int32 → Int32 → sS → Option (Unit × sS)} {r : Unit} {S' : sS} {Q : Option Value ⊕ Nat → jS → Prop} (hk18 : ∀ (v1 : Int32) (v2 : Int32) (v3 : Int32) (S : sS) (lv : jL) (μ : jS), jld lv 0 = some (.ref (spl 33 0 0)) → jld lv 1 = some (.int v1) → jld lv 2 = some (.int v2) → jld lv 3 = some (.int v3) → sR S μ → k18 v1 v2 v3 S = some (r, S') → jX G jP 178 18 lv [] μ Q) (K : ∀ μ', sR S' μ' → Q (srV r) μ') : ∀ (v1 : Int32) (v2 : Int32) (v3 : Int32) (S : sS) (lv : jL) (μ : jS), jld lv 0 = some (.ref (spl 33 0 0)) → jld lv 1 = some (.int v1) → jld lv 2 = some (.int v2) → jld lv 3 = some (.int v3) → sR S μ → F_178_51 G t k18 v1 v2 v3 S = some (r, S') → jX G jP 178 51 lv [] μ Q := by
  intro v1 v2 v3 S lv μ l0 l1 l2 l3 R h
  unfold F_178_51 at h
  refine jX.inc l3 (by rfl) (by rfl) (by rfl) (fun lv l3 kp => (?_ : jX G jP 178 54 lv [] μ Q))
  replace l0 := kp 0 _ l0 (by rfl) (by first | rfl | simp [soR_cat])
  replace l1 := kp 1 _ l1 (by rfl) (by first | rfl | simp [soR_cat])
  replace l2 := kp 2 _ l2 (by rfl) (by first | rfl | simp [soR_cat])
  refine jX.go (by rfl) (by rfl) (by rfl) (?_ : jX G jP 178 18 lv [] μ Q)
  exact hk18 v1 v2 (v3 + Int32.ofInt 1) _ _ _ l0 l1 l2 l3 R h
def F_178_18 (G : jG) (t : Nat) : Nat → Int32 → Int32 → Int32 → sS → Option (Unit × sS)
  | 0 => fun _ _ _ _ => none
  | tt + 1 => fun v1 v2 v3 S => bif jcmp .ge v3 (S.1 33 0 0 15) then (some ((), (siI S 33 0 0 15 v2))) else (jif (jin v3 17) (bif jcmp .eq (S.1 45 0 0 v3.toNatClampNeg) v1 then (F_178_51 G t (F_178_18 G t tt) v1 v2 v3 S) else (jif (jin v3 17) (jif (jin v2 17) (F_178_51 G t (F_178_18 G t tt) v1 (v2 + Int32.ofInt 1) v3 (siI S 45 0 0 v2.toNatClampNeg (S.1 45 0 0 v3.toNatClampNeg)))))))
theorem F_178_18_ok {G : jG} {t : Nat} {r : Unit} {S' : sS} {Q : Option Value ⊕ Nat → jS → Prop} (K : ∀ μ', sR S' μ' → Q (srV r) μ') : ∀ tt : Nat, ∀ (v1 : Int32) (v2 : Int32) (v3 : Int32) (S : sS) (lv : jL) (μ : jS), jld lv 0 = some (.ref (spl 33 0 0)) → jld lv 1 = some (.int v1) → jld lv 2 = some (.int v2) → jld lv 3 = some (.int v3) → sR S μ → F_178_18 G t tt v1 v2 v3 S = some (r, S') → jX G jP 178 18 lv [] μ Q := by
  intro tt
  induction tt with
  | zero =>
    intro v1 v2 v3 S lv μ l0 l1 l2 l3 R h
    rw [F_178_18] at h
    cases h
  | succ tt ih =>
    intro v1 v2 v3 S lv μ l0 l1 l2 l3 R h
    rw [F_178_18] at h
    refine jX.lin l3 (by rfl) (by rfl) (?_ : jX G jP 178 19 lv [.int v3] μ Q)
    refine jX.lrn l0 (by rfl) (by rfl) (?_ : jX G jP 178 20 lv [.ref (spl 33 0 0), .int v3] μ Q)
    refine jX.sg R (by rfl) (by rfl) (by rfl) (by rfl) (by rfl) (by rfl) (?_ : jX G jP 178 23 lv [.int (S.1 33 0 0 15), .int v3] μ Q)
    rcases bif_or h with ⟨hc, h⟩ | ⟨hc, h⟩
    · refine jX.b2t hc (by rfl) (by rfl) (by rfl) (?_ : jX G jP 178 57 lv [] μ Q)
      refine jX.lrn l0 (by rfl) (by rfl) (?_ : jX G jP 178 58 lv [.ref (spl 33 0 0)] μ Q)
      refine jX.lin l2 (by rfl) (by rfl) (?_ : jX G jP 178 59 lv [.int v2, .ref (spl 33 0 0)] μ Q)
      refine jX.spI R (by rfl) (by rfl) (by rfl) (by rfl) (by rfl) (by rfl) (by rfl) (by rfl) (by rfl) (fun μ R => (?_ : jX G jP 178 62 lv [] μ Q))
      exact jX.ret (by rfl) (by rfl) (by rfl) (by rfl) (sretv (f := srV) h K R)
    · refine jX.b2f hc (by rfl) (by rfl) (by rfl) (?_ : jX G jP 178 26 lv [] μ Q)
      refine jX.lrn l0 (by rfl) (by rfl) (?_ : jX G jP 178 27 lv [.ref (spl 33 0 0)] μ Q)
      refine jX.sg R (by rfl) (by rfl) (by rfl) (by rfl) (by rfl) (by rfl) (?_ : jX G jP 178 30 lv [.ref (spl 45 0 0)] μ Q)
      refine jX.lin l3 (by rfl) (by rfl) (?_ : jX G jP 178 31 lv [.int v3, .ref (spl 45 0 0)] μ Q)
      obtain ⟨g1, h⟩ := jif_some h
      refine jX.sai R (by rfl) (by rfl) (by rfl) (by rfl) g1 (?_ : jX G jP 178 32 lv [.int (S.1 45 0 0 v3.toNatClampNeg)] μ Q)
      refine jX.lin l1 (by rfl) (by rfl) (?_ : jX G jP 178 33 lv [.int v1, .int (S.1 45 0 0 v3.toNatClampNeg)] μ Q)
      rcases bif_or h with ⟨hc, h⟩ | ⟨hc, h⟩
      · refine jX.b2t hc (by rfl) (by rfl) (by rfl) (?_ : jX G jP 178 51 lv [] μ Q)
        exact F_178_51_ok ih K v1 v2 v3 _ _ _ l0 l1 l2 l3 R h
      · refine jX.b2f hc (by rfl) (by rfl) (by rfl) (?_ : jX G jP 178 36 lv [] μ Q)
        refine jX.lrn l0 (by rfl) (by rfl) (?_ : jX G jP 178 37 lv [.ref (spl 33 0 0)] μ Q)
        refine jX.sg R (by rfl) (by rfl) (by rfl) (by rfl) (by rfl) (by rfl) (?_ : jX G jP 178 40 lv [.ref (spl 45 0 0)] μ Q)
        refine jX.lin l2 (by rfl) (by rfl) (?_ : jX G jP 178 41 lv [.int v2, .ref (spl 45 0 0)] μ Q)
        refine jX.inc l2 (by rfl) (by rfl) (by rfl) (fun lv l2 kp => (?_ : jX G jP 178 44 lv [.int v2, .ref (spl 45 0 0)] μ Q))
        replace l0 := kp 0 _ l0 (by rfl) (by first | rfl | simp [soR_cat])
        replace l1 := kp 1 _ l1 (by rfl) (by first | rfl | simp [soR_cat])
        replace l3 := kp 3 _ l3 (by rfl) (by first | rfl | simp [soR_cat])
        refine jX.lrn l0 (by rfl) (by rfl) (?_ : jX G jP 178 45 lv [.ref (spl 33 0 0), .int v2, .ref (spl 45 0 0)] μ Q)
        refine jX.sg R (by rfl) (by rfl) (by rfl) (by rfl) (by rfl) (by rfl) (?_ : jX G jP 178 48 lv [.ref (spl 45 0 0), .int v2, .ref (spl 45 0 0)] μ Q)
        refine jX.lin l3 (by rfl) (by rfl) (?_ : jX G jP 178 49 lv [.int v3, .ref (spl 45 0 0), .int v2, .ref (spl 45 0 0)] μ Q)
        obtain ⟨g2, h⟩ := jif_some h
        refine jX.sai R (by rfl) (by rfl) (by rfl) (by rfl) g2 (?_ : jX G jP 178 50 lv [.int (S.1 45 0 0 v3.toNatClampNeg), .int v2, .ref (spl 45 0 0)] μ Q)
        obtain ⟨g3, h⟩ := jif_some h
        refine jX.sti R (by rfl) (by rfl) (by rfl) (fun _ => by rfl) g3 (fun μ R => (?_ : jX G jP 178 51 lv [] μ Q))
        exact F_178_51_ok ih K v1 (v2 + Int32.ofInt 1) v3 _ _ _ l0 l1 l2 l3 R h
def F_178 (G : jG) (t : Nat) (v1 : Int32) (S : sS) : Option (Unit × sS) := jif (jin v1 16) (jif (sex S.2.2.2.1 54 v1.toNatClampNeg 0) (bif jcmp .ge (S.1 54 v1.toNatClampNeg 0 0) (nI 5) then (F_178_18 G t t v1 (nI 0) (nI 0) S) else (some ((), S))))
theorem F_178_ok {G : jG} {t : Nat} {v1 : Int32} {S : sS} {r : Unit} {S' : sS} {μ : jS} {Q : Option Value ⊕ Nat → jS → Prop} (R : sR S μ) (h : F_178 G t v1 S = some (r, S')) (K : ∀ μ', sR S' μ' → Q (srV r) μ') : jX G jP 178 0 (lv_args 0 [.ref (spl 33 0 0), .int v1]) [] μ Q := by
  unfold F_178 at h
  have l0 : jld (lv_args 0 [.ref (spl 33 0 0), .int v1]) 0 = some (.ref (spl 33 0 0)) := by rfl
  have l1 : jld (lv_args 0 [.ref (spl 33 0 0), .int v1]) 1 = some (.int v1) := by rfl
  generalize lv_args 0 [.ref (spl 33 0 0), .int v1] = lv at *
  refine jX.lrn l0 (by rfl) (by rfl) (?_ : jX G jP 178 1 lv [.ref (spl 33 0 0)] μ Q)
  refine jX.sg R (by rfl) (by rfl) (by rfl) (by rfl) (by rfl) (by rfl) (?_ : jX G jP 178 4 lv [.ref (spl 35 0 0)] μ Q)
  refine jX.lin l1 (by rfl) (by rfl) (?_ : jX G jP 178 5 lv [.int v1, .ref (spl 35 0 0)] μ Q)
  obtain ⟨g1, h⟩ := jif_some h
  refine jX.sar (f := fun q => bif Nat.blt q 16 then some (spl 54 q 0) else none) R (by rfl) (by rfl) (by rfl) (by rfl) g1 (srf_in g1) (?_ : jX G jP 178 6 lv [.ref (spl 54 v1.toNatClampNeg 0)] μ Q)
  obtain ⟨g2, h⟩ := jif_some h
  refine jX.sg R g2 (by rfl) (by rfl) (by rfl) (by rfl) (by rfl) (?_ : jX G jP 178 9 lv [.int (S.1 54 v1.toNatClampNeg 0 0)] μ Q)
  refine jX.ic (v := nI 5) (n := 1) (by rfl) (by rfl) (by decide) (?_ : jX G jP 178 10 lv [.int (nI 5), .int (S.1 54 v1.toNatClampNeg 0 0)] μ Q)
  rcases bif_or h with ⟨hc, h⟩ | ⟨hc, h⟩
  · refine jX.b2t hc (by rfl) (by rfl) (by rfl) (?_ : jX G jP 178 14 lv [] μ Q)
    refine jX.ic (v := nI 0) (n := 1) (by rfl) (by rfl) (by decide) (?_ : jX G jP 178 15 lv [.int (nI 0)] μ Q)
    refine jX.s1 (k := 2) (pc' := 16) (by rfl) (by rfl) (by rfl) (fun lv l2 kp => (?_ : jX G jP 178 16 lv [] μ Q))
    replace l0 := kp 0 _ l0 (by rfl) (by first | rfl | simp [soR_cat])
    replace l1 := kp 1 _ l1 (by rfl) (by first | rfl | simp [soR_cat])
    refine jX.ic (v := nI 0) (n := 1) (by rfl) (by rfl) (by decide) (?_ : jX G jP 178 17 lv [.int (nI 0)] μ Q)
    refine jX.s1 (k := 3) (pc' := 18) (by rfl) (by rfl) (by rfl) (fun lv l3 kp => (?_ : jX G jP 178 18 lv [] μ Q))
    replace l0 := kp 0 _ l0 (by rfl) (by first | rfl | simp [soR_cat])
    replace l1 := kp 1 _ l1 (by rfl) (by first | rfl | simp [soR_cat])
    replace l2 := kp 2 _ l2 (by rfl) (by first | rfl | simp [soR_cat])
    exact F_178_18_ok  K _ v1 (nI 0) (nI 0) _ _ _ l0 l1 l2 l3 R h
  · refine jX.b2f hc (by rfl) (by rfl) (by rfl) (?_ : jX G jP 178 13 lv [] μ Q)
    exact jX.ret (by rfl) (by rfl) (by rfl) (by rfl) (sretv (f := srV) h K R)
/-! 179 StrandRuntimeModel.goesOn(IIZIJI)V -/
def F_179_183 (G : jG) (t : Nat) (v1 : Int32) (S : sS) : Option (Unit × sS) := (F_178 G t v1 S).bind (fun q1 => some ((), q1.2))
theorem F_179_183_ok {G : jG} {t : Nat} {r : Unit} {S' : sS} {Q : Option Value ⊕ Nat → jS → Prop} (K : ∀ μ', sR S' μ' → Q (srV r) μ') : ∀ (v1 : Int32) (S : sS) (lv : jL) (μ : jS), jld lv 0 = some (.ref (spl 33 0 0)) → jld lv 1 = some (.int v1) → sR S μ → F_179_183 G t v1 S = some (r, S') → jX G jP 179 183 lv [] μ Q := by
  intro v1 S lv μ l0 l1 R h
  unfold F_179_183 at h
  refine jX.lrn l0 (by rfl) (by rfl) (?_ : jX G jP 179 184 lv [.ref (spl 33 0 0)] μ Q)
  refine jX.lin l1 (by rfl) (by rfl) (?_ : jX G jP 179 185 lv [.int v1, .ref (spl 33 0 0)] μ Q)
  obtain ⟨q1, e1, h⟩ := sbd h
  refine jX.cv (by rfl) (by rfl) (by rfl) (by rfl) (by rfl) (by rfl) (by rfl) (R.rec (by rfl) (by rfl)) (Nat.le_of_ble_eq_true rfl) (Nat.le_of_ble_eq_true rfl) (F_178_ok R e1 (fun μ R => ⟨rfl, (?_ : jX G jP 179 188 lv [] μ Q)⟩))
  exact jX.ret (by rfl) (by rfl) (by rfl) (by rfl) (sretv (f := srV) h K R)
def F_179_125 (G : jG) (t : Nat) (v1 : Int32) (S : sS) : Option (Unit × sS) := F_179_183 G t v1 S
theorem F_179_125_ok {G : jG} {t : Nat} {r : Unit} {S' : sS} {Q : Option Value ⊕ Nat → jS → Prop} (K : ∀ μ', sR S' μ' → Q (srV r) μ') : ∀ (v1 : Int32) (S : sS) (lv : jL) (μ : jS), jld lv 0 = some (.ref (spl 33 0 0)) → jld lv 1 = some (.int v1) → sR S μ → F_179_125 G t v1 S = some (r, S') → jX G jP 179 125 lv [] μ Q := by
  intro v1 S lv μ l0 l1 R h
  unfold F_179_125 at h
  refine jX.go (by rfl) (by rfl) (by rfl) (?_ : jX G jP 179 183 lv [] μ Q)
  exact F_179_183_ok  K v1 _ _ _ l0 l1 R h
def F_179_108 (G : jG) (t : Nat) (v1 : Int32) (v8 : (Nat × Nat)) (v11 : Int32) (w0 : Int64) (w1 : Int32) (w2 : (Nat × Nat)) (S : sS) : Option (Unit × sS) := (F_157 G t w2 w1 w0 S).bind (fun q1 => bif jcmp .eq q1.1 0 then (F_179_125 G t v1 q1.2) else ((F_157 G t v8 (nI 0) v11.toInt64 q1.2).bind (fun q2 => F_179_125 G t v1 q2.2)))
theorem F_179_108_ok {G : jG} {t : Nat} {r : Unit} {S' : sS} {Q : Option Value ⊕ Nat → jS → Prop} (K : ∀ μ', sR S' μ' → Q (srV r) μ') : ∀ (v1 : Int32) (v8 : (Nat × Nat)) (v11 : Int32) (w0 : Int64) (w1 : Int32) (w2 : (Nat × Nat)) (S : sS) (lv : jL) (μ : jS), jld lv 0 = some (.ref (spl 33 0 0)) → jld lv 1 = some (.int v1) → jld lv 8 = some (.ref (spl 54 v8.1 v8.2)) → jld lv 11 = some (.int v11) → sR S μ → F_179_108 G t v1 v8 v11 w0 w1 w2 S = some (r, S') → jX G jP 179 108 lv [.long w0, .int w1, .ref (spl 54 w2.1 w2.2), .ref (spl 33 0 0)] μ Q := by
  intro v1 v8 v11 w0 w1 w2 S lv μ l0 l1 l8 l11 R h
  unfold F_179_108 at h
  obtain ⟨q1, e1, h⟩ := sbd h
  refine jX.c1 (v := .int q1.1) (by rfl) (by rfl) (by rfl) (by rfl) (by rfl) (by rfl) (by rfl) (R.rec (by rfl) (by rfl)) (Nat.le_of_ble_eq_true rfl) (Nat.le_of_ble_eq_true rfl) (F_157_ok R e1 (fun μ R => ⟨rfl, (?_ : jX G jP 179 111 lv [.int q1.1] μ Q)⟩))
  rcases bif_or h with ⟨hc, h⟩ | ⟨hc, h⟩
  · refine jX.b1t hc (by rfl) (by rfl) (by rfl) (?_ : jX G jP 179 125 lv [] μ Q)
    exact F_179_125_ok  K v1 _ _ _ l0 l1 R h
  · refine jX.b1f hc (by rfl) (by rfl) (by rfl) (?_ : jX G jP 179 114 lv [] μ Q)
    refine jX.lrn l0 (by rfl) (by rfl) (?_ : jX G jP 179 115 lv [.ref (spl 33 0 0)] μ Q)
    refine jX.lr l8 (by rfl) (by rfl) (?_ : jX G jP 179 117 lv [.ref (spl 54 v8.1 v8.2), .ref (spl 33 0 0)] μ Q)
    refine jX.ic (v := nI 0) (n := 1) (by rfl) (by rfl) (by decide) (?_ : jX G jP 179 118 lv [.int (nI 0), .ref (spl 54 v8.1 v8.2), .ref (spl 33 0 0)] μ Q)
    refine jX.li l11 (by rfl) (by rfl) (?_ : jX G jP 179 120 lv [.int v11, .int (nI 0), .ref (spl 54 v8.1 v8.2), .ref (spl 33 0 0)] μ Q)
    refine jX.go (by rfl) (by rfl) (by rfl) (?_ : jX G jP 179 121 lv [.long v11.toInt64, .int (nI 0), .ref (spl 54 v8.1 v8.2), .ref (spl 33 0 0)] μ Q)
    obtain ⟨q2, e2, h⟩ := sbd h
    refine jX.c1 (v := .int q2.1) (by rfl) (by rfl) (by rfl) (by rfl) (by rfl) (by rfl) (by rfl) (R.rec (by rfl) (by rfl)) (Nat.le_of_ble_eq_true rfl) (Nat.le_of_ble_eq_true rfl) (F_157_ok R e2 (fun μ R => ⟨rfl, (?_ : jX G jP 179 124 lv [.int q2.1] μ Q)⟩))
    refine jX.go (by rfl) (by rfl) (by rfl) (?_ : jX G jP 179 125 lv [] μ Q)
    exact F_179_125_ok  K v1 _ _ _ l0 l1 R h
def F_179_98 (G : jG) (t : Nat) (v1 : Int32) (v3 : Int32) (v5 : Int64) (v8 : (Nat × Nat)) (v11 : Int32) (w0 : Int32) (w1 : (Nat × Nat)) (S : sS) : Option (Unit × sS) := bif jcmp .eq v3 0 then (F_179_108 G t v1 v8 v11 v5 w0 w1 S) else (F_179_108 G t v1 v8 v11 0 w0 w1 S)
theorem F_179_98_ok {G : jG} {t : Nat} {r : Unit} {S' : sS} {Q : Option Value ⊕ Nat → jS → Prop} (K : ∀ μ', sR S' μ' → Q (srV r) μ') : ∀ (v1 : Int32) (v3 : Int32) (v5 : Int64) (v8 : (Nat × Nat)) (v11 : Int32) (w0 : Int32) (w1 : (Nat × Nat)) (S : sS) (lv : jL) (μ : jS), jld lv 0 = some (.ref (spl 33 0 0)) → jld lv 1 = some (.int v1) → jld lv 3 = some (.int v3) → jld lv 5 = some (.long v5) → jld lv 8 = some (.ref (spl 54 v8.1 v8.2)) → jld lv 11 = some (.int v11) → sR S μ → F_179_98 G t v1 v3 v5 v8 v11 w0 w1 S = some (r, S') → jX G jP 179 98 lv [.int w0, .ref (spl 54 w1.1 w1.2), .ref (spl 33 0 0)] μ Q := by
  intro v1 v3 v5 v8 v11 w0 w1 S lv μ l0 l1 l3 l5 l8 l11 R h
  unfold F_179_98 at h
  refine jX.lin l3 (by rfl) (by rfl) (?_ : jX G jP 179 99 lv [.int v3, .int w0, .ref (spl 54 w1.1 w1.2), .ref (spl 33 0 0)] μ Q)
  rcases bif_or h with ⟨hc, h⟩ | ⟨hc, h⟩
  · refine jX.b1t hc (by rfl) (by rfl) (by rfl) (?_ : jX G jP 179 106 lv [.int w0, .ref (spl 54 w1.1 w1.2), .ref (spl 33 0 0)] μ Q)
    refine jX.ll l5 (by rfl) (by rfl) (?_ : jX G jP 179 108 lv [.long v5, .int w0, .ref (spl 54 w1.1 w1.2), .ref (spl 33 0 0)] μ Q)
    exact F_179_108_ok  K v1 v8 v11 v5 w0 w1 _ _ _ l0 l1 l8 l11 R h
  · refine jX.b1f hc (by rfl) (by rfl) (by rfl) (?_ : jX G jP 179 102 lv [.int w0, .ref (spl 54 w1.1 w1.2), .ref (spl 33 0 0)] μ Q)
    refine jX.go (by rfl) (by rfl) (by rfl) (?_ : jX G jP 179 103 lv [.long 0, .int w0, .ref (spl 54 w1.1 w1.2), .ref (spl 33 0 0)] μ Q)
    refine jX.go (by rfl) (by rfl) (by rfl) (?_ : jX G jP 179 108 lv [.long 0, .int w0, .ref (spl 54 w1.1 w1.2), .ref (spl 33 0 0)] μ Q)
    exact F_179_108_ok  K v1 v8 v11 0 w0 w1 _ _ _ l0 l1 l8 l11 R h
def F_179 (G : jG) (t : Nat) (v1 : Int32) (v2 : Int32) (v3 : Int32) (v4 : Int32) (v5 : Int64) (v7 : Int32) (S : sS) : Option (Unit × sS) := jif (jin v1 16) ((F_151 G t (v1.toNatClampNeg, 0) S).bind (fun q2 => jif (sex q2.2.2.2.2.1 54 v1.toNatClampNeg 0) ((F_163 G t v1 q2.2).bind (fun q4 => bif jcmp .ne (q2.2.1 54 v1.toNatClampNeg 0 0) (nI 4) then (bif jcmp .ne (q2.2.1 54 v1.toNatClampNeg 0 0) (nI 3) then ((q2.1).bind (fun a5 => jif (sex q4.2.2.2.2.1 56 a5.1 a5.2) (F_179_183 G t v1 (siI q4.2 56 a5.1 a5.2 2 ((q4.2.1 56 a5.1 a5.2 2) - (nI 2)))))) else ((q2.1).bind (fun a7 => jif (sex q4.2.2.2.2.1 56 a7.1 a7.2) ((F_157 G t (v1.toNatClampNeg, 0) v4 v5 (siI q4.2 56 a7.1 a7.2 2 ((q4.2.1 56 a7.1 a7.2 2) - (nI 1)))).bind (fun q9 => bif jcmp .eq q9.1 0 then (F_179_183 G t v1 q9.2) else ((F_157 G t (v1.toNatClampNeg, 0) (nI 0) v7.toInt64 q9.2).bind (fun q10 => F_179_183 G t v1 q10.2))))))) else ((F_173 G t (v1.toNatClampNeg, 0) v2 v3 q4.2).bind (fun q11 => (q2.1).bind (fun a12 => jif (sex q11.2.2.2.2.1 56 a12.1 a12.2) (jif (jin (q11.2.1 56 a12.1 a12.2 0) 32) (jif (jin (((q11.2.1 39 0 0 (q11.2.1 56 a12.1 a12.2 0).toNatClampNeg) + (q11.2.1 56 a12.1 a12.2 1)) - (nI 1)) 1500) (bif jcmp .eq v3 0 then (F_179_98 G t v1 v3 v5 (v1.toNatClampNeg, 0) q11.1 v4 (v1.toNatClampNeg, 0) (siI q11.2 56 a12.1 a12.2 2 ((q11.2.1 56 a12.1 a12.2 2) - ((nI 3) * ((q11.2.1 42 0 0 (((q11.2.1 39 0 0 (q11.2.1 56 a12.1 a12.2 0).toNatClampNeg) + (q11.2.1 56 a12.1 a12.2 1)) - (nI 1)).toNatClampNeg) &&& (nI 7)))))) else (F_179_98 G t v1 v3 v5 (v1.toNatClampNeg, 0) q11.1 (nI 0) (v1.toNatClampNeg, 0) (siI q11.2 56 a12.1 a12.2 2 ((q11.2.1 56 a12.1 a12.2 2) - ((nI 3) * ((q11.2.1 42 0 0 (((q11.2.1 39 0 0 (q11.2.1 56 a12.1 a12.2 0).toNatClampNeg) + (q11.2.1 56 a12.1 a12.2 1)) - (nI 1)).toNatClampNeg) &&& (nI 7))))))))))))))))
theorem F_179_ok {G : jG} {t : Nat} {v1 : Int32} {v2 : Int32} {v3 : Int32} {v4 : Int32} {v5 : Int64} {v7 : Int32} {S : sS} {r : Unit} {S' : sS} {μ : jS} {Q : Option Value ⊕ Nat → jS → Prop} (R : sR S μ) (h : F_179 G t v1 v2 v3 v4 v5 v7 S = some (r, S')) (K : ∀ μ', sR S' μ' → Q (srV r) μ') : jX G jP 179 0 (lv_args 0 [.ref (spl 33 0 0), .int v1, .int v2, .int v3, .int v4, .long v5, .int v7]) [] μ Q := by
  unfold F_179 at h
  have l0 : jld (lv_args 0 [.ref (spl 33 0 0), .int v1, .int v2, .int v3, .int v4, .long v5, .int v7]) 0 = some (.ref (spl 33 0 0)) := by rfl
  have l1 : jld (lv_args 0 [.ref (spl 33 0 0), .int v1, .int v2, .int v3, .int v4, .long v5, .int v7]) 1 = some (.int v1) := by rfl
  have l2 : jld (lv_args 0 [.ref (spl 33 0 0), .int v1, .int v2, .int v3, .int v4, .long v5, .int v7]) 2 = some (.int v2) := by rfl
  have l3 : jld (lv_args 0 [.ref (spl 33 0 0), .int v1, .int v2, .int v3, .int v4, .long v5, .int v7]) 3 = some (.int v3) := by rfl
  have l4 : jld (lv_args 0 [.ref (spl 33 0 0), .int v1, .int v2, .int v3, .int v4, .long v5, .int v7]) 4 = some (.int v4) := by rfl
  have l5 : jld (lv_args 0 [.ref (spl 33 0 0), .int v1, .int v2, .int v3, .int v4, .long v5, .int v7]) 5 = some (.long v5) := by rfl
  have l7 : jld (lv_args 0 [.ref (spl 33 0 0), .int v1, .int v2, .int v3, .int v4, .long v5, .int v7]) 7 = some (.int v7) := by rfl
  generalize lv_args 0 [.ref (spl 33 0 0), .int v1, .int v2, .int v3, .int v4, .long v5, .int v7] = lv at *
  refine jX.lrn l0 (by rfl) (by rfl) (?_ : jX G jP 179 1 lv [.ref (spl 33 0 0)] μ Q)
  refine jX.sg R (by rfl) (by rfl) (by rfl) (by rfl) (by rfl) (by rfl) (?_ : jX G jP 179 4 lv [.ref (spl 35 0 0)] μ Q)
  refine jX.lin l1 (by rfl) (by rfl) (?_ : jX G jP 179 5 lv [.int v1, .ref (spl 35 0 0)] μ Q)
  obtain ⟨g1, h⟩ := jif_some h
  refine jX.sar (f := fun q => bif Nat.blt q 16 then some (spl 54 q 0) else none) R (by rfl) (by rfl) (by rfl) (by rfl) g1 (srf_in g1) (?_ : jX G jP 179 6 lv [.ref (spl 54 v1.toNatClampNeg 0)] μ Q)
  refine jX.s1 (k := 8) (pc' := 8) (by rfl) (by rfl) (by rfl) (fun lv l8 kp => (?_ : jX G jP 179 8 lv [] μ Q))
  replace l0 := kp 0 _ l0 (by rfl) (by first | rfl | simp [soR_cat])
  replace l1 := kp 1 _ l1 (by rfl) (by first | rfl | simp [soR_cat])
  replace l2 := kp 2 _ l2 (by rfl) (by first | rfl | simp [soR_cat])
  replace l3 := kp 3 _ l3 (by rfl) (by first | rfl | simp [soR_cat])
  replace l4 := kp 4 _ l4 (by rfl) (by first | rfl | simp [soR_cat])
  replace l5 := kp 5 _ l5 (by rfl) (by first | rfl | simp [soR_cat])
  replace l7 := kp 7 _ l7 (by rfl) (by first | rfl | simp [soR_cat])
  refine jX.lr l8 (by rfl) (by rfl) (?_ : jX G jP 179 10 lv [.ref (spl 54 v1.toNatClampNeg 0)] μ Q)
  obtain ⟨q2, e2, h⟩ := sbd h
  refine jX.c1 (v := soR 56 q2.1) (by rfl) (by rfl) (by rfl) (by rfl) (by rfl) (by rfl) (by rfl) (by rfl) (Nat.le_of_ble_eq_true rfl) (Nat.le_of_ble_eq_true rfl) (F_151_ok R e2 (fun μ R => ⟨rfl, (?_ : jX G jP 179 13 lv [soR 56 q2.1] μ Q)⟩))
  refine jX.so (k := 9) (pc' := 15) (by rfl) (by rfl) (fun _ => by rfl) (by rfl) (fun lv l9 kp => (?_ : jX G jP 179 15 lv [] μ Q))
  replace l0 := kp 0 _ l0 (by rfl) (by first | rfl | simp [soR_cat])
  replace l1 := kp 1 _ l1 (by rfl) (by first | rfl | simp [soR_cat])
  replace l2 := kp 2 _ l2 (by rfl) (by first | rfl | simp [soR_cat])
  replace l3 := kp 3 _ l3 (by rfl) (by first | rfl | simp [soR_cat])
  replace l4 := kp 4 _ l4 (by rfl) (by first | rfl | simp [soR_cat])
  replace l5 := kp 5 _ l5 (by rfl) (by first | rfl | simp [soR_cat])
  replace l7 := kp 7 _ l7 (by rfl) (by first | rfl | simp [soR_cat])
  replace l8 := kp 8 _ l8 (by rfl) (by first | rfl | simp [soR_cat])
  refine jX.lr l8 (by rfl) (by rfl) (?_ : jX G jP 179 17 lv [.ref (spl 54 v1.toNatClampNeg 0)] μ Q)
  obtain ⟨g3, h⟩ := jif_some h
  refine jX.sg R g3 (by rfl) (by rfl) (by rfl) (by rfl) (by rfl) (?_ : jX G jP 179 20 lv [.int (q2.2.1 54 v1.toNatClampNeg 0 0)] μ Q)
  refine jX.s1 (k := 10) (pc' := 22) (by rfl) (by rfl) (by rfl) (fun lv l10 kp => (?_ : jX G jP 179 22 lv [] μ Q))
  replace l0 := kp 0 _ l0 (by rfl) (by first | rfl | simp [soR_cat])
  replace l1 := kp 1 _ l1 (by rfl) (by first | rfl | simp [soR_cat])
  replace l2 := kp 2 _ l2 (by rfl) (by first | rfl | simp [soR_cat])
  replace l3 := kp 3 _ l3 (by rfl) (by first | rfl | simp [soR_cat])
  replace l4 := kp 4 _ l4 (by rfl) (by first | rfl | simp [soR_cat])
  replace l5 := kp 5 _ l5 (by rfl) (by first | rfl | simp [soR_cat])
  replace l7 := kp 7 _ l7 (by rfl) (by first | rfl | simp [soR_cat])
  replace l8 := kp 8 _ l8 (by rfl) (by first | rfl | simp [soR_cat])
  replace l9 := kp 9 _ l9 (by rfl) (by first | rfl | simp [soR_cat])
  refine jX.lrn l0 (by rfl) (by rfl) (?_ : jX G jP 179 23 lv [.ref (spl 33 0 0)] μ Q)
  refine jX.lin l1 (by rfl) (by rfl) (?_ : jX G jP 179 24 lv [.int v1, .ref (spl 33 0 0)] μ Q)
  obtain ⟨q4, e4, h⟩ := sbd h
  refine jX.cv (by rfl) (by rfl) (by rfl) (by rfl) (by rfl) (by rfl) (by rfl) (R.rec (by rfl) (by rfl)) (Nat.le_of_ble_eq_true rfl) (Nat.le_of_ble_eq_true rfl) (F_163_ok R e4 (fun μ R => ⟨rfl, (?_ : jX G jP 179 27 lv [] μ Q)⟩))
  refine jX.li l10 (by rfl) (by rfl) (?_ : jX G jP 179 29 lv [.int (q2.2.1 54 v1.toNatClampNeg 0 0)] μ Q)
  refine jX.ic (v := nI 4) (n := 1) (by rfl) (by rfl) (by decide) (?_ : jX G jP 179 30 lv [.int (nI 4), .int (q2.2.1 54 v1.toNatClampNeg 0 0)] μ Q)
  rcases bif_or h with ⟨hc, h⟩ | ⟨hc, h⟩
  · refine jX.b2t hc (by rfl) (by rfl) (by rfl) (?_ : jX G jP 179 128 lv [] μ Q)
    refine jX.li l10 (by rfl) (by rfl) (?_ : jX G jP 179 130 lv [.int (q2.2.1 54 v1.toNatClampNeg 0 0)] μ Q)
    refine jX.ic (v := nI 3) (n := 1) (by rfl) (by rfl) (by decide) (?_ : jX G jP 179 131 lv [.int (nI 3), .int (q2.2.1 54 v1.toNatClampNeg 0 0)] μ Q)
    rcases bif_or h with ⟨hc, h⟩ | ⟨hc, h⟩
    · refine jX.b2t hc (by rfl) (by rfl) (by rfl) (?_ : jX G jP 179 172 lv [] μ Q)
      refine jX.lo l9 (by rfl) (by rfl) (?_ : jX G jP 179 174 lv [soR 56 q2.1] μ Q)
      obtain ⟨a5, e5, h⟩ := sbd h
      rw [soR_some (t := 56) e5]
      rw [soR_some (t := 56) e5] at l9
      refine jX.go (by rfl) (by rfl) (by rfl) (?_ : jX G jP 179 175 lv [.ref (spl 56 a5.1 a5.2), .ref (spl 56 a5.1 a5.2)] μ Q)
      obtain ⟨g6, h⟩ := jif_some h
      refine jX.sg R g6 (by rfl) (by rfl) (by rfl) (by rfl) (by rfl) (?_ : jX G jP 179 178 lv [.int (q4.2.1 56 a5.1 a5.2 2), .ref (spl 56 a5.1 a5.2)] μ Q)
      refine jX.ic (v := nI 2) (n := 1) (by rfl) (by rfl) (by decide) (?_ : jX G jP 179 179 lv [.int (nI 2), .int (q4.2.1 56 a5.1 a5.2 2), .ref (spl 56 a5.1 a5.2)] μ Q)
      refine jX.go (by rfl) (by rfl) (by rfl) (?_ : jX G jP 179 180 lv [.int ((q4.2.1 56 a5.1 a5.2 2) - (nI 2)), .ref (spl 56 a5.1 a5.2)] μ Q)
      refine jX.spI R g6 (by rfl) (by rfl) (by rfl) (by rfl) (by rfl) (by rfl) (by rfl) (by rfl) (fun μ R => (?_ : jX G jP 179 183 lv [] μ Q))
      exact F_179_183_ok  K v1 _ _ _ l0 l1 R h
    · refine jX.b2f hc (by rfl) (by rfl) (by rfl) (?_ : jX G jP 179 134 lv [] μ Q)
      refine jX.lo l9 (by rfl) (by rfl) (?_ : jX G jP 179 136 lv [soR 56 q2.1] μ Q)
      obtain ⟨a7, e7, h⟩ := sbd h
      rw [soR_some (t := 56) e7]
      rw [soR_some (t := 56) e7] at l9
      refine jX.go (by rfl) (by rfl) (by rfl) (?_ : jX G jP 179 137 lv [.ref (spl 56 a7.1 a7.2), .ref (spl 56 a7.1 a7.2)] μ Q)
      obtain ⟨g8, h⟩ := jif_some h
      refine jX.sg R g8 (by rfl) (by rfl) (by rfl) (by rfl) (by rfl) (?_ : jX G jP 179 140 lv [.int (q4.2.1 56 a7.1 a7.2 2), .ref (spl 56 a7.1 a7.2)] μ Q)
      refine jX.ic (v := nI 1) (n := 1) (by rfl) (by rfl) (by decide) (?_ : jX G jP 179 141 lv [.int (nI 1), .int (q4.2.1 56 a7.1 a7.2 2), .ref (spl 56 a7.1 a7.2)] μ Q)
      refine jX.go (by rfl) (by rfl) (by rfl) (?_ : jX G jP 179 142 lv [.int ((q4.2.1 56 a7.1 a7.2 2) - (nI 1)), .ref (spl 56 a7.1 a7.2)] μ Q)
      refine jX.spI R g8 (by rfl) (by rfl) (by rfl) (by rfl) (by rfl) (by rfl) (by rfl) (by rfl) (fun μ R => (?_ : jX G jP 179 145 lv [] μ Q))
      refine jX.lrn l0 (by rfl) (by rfl) (?_ : jX G jP 179 146 lv [.ref (spl 33 0 0)] μ Q)
      refine jX.lr l8 (by rfl) (by rfl) (?_ : jX G jP 179 148 lv [.ref (spl 54 v1.toNatClampNeg 0), .ref (spl 33 0 0)] μ Q)
      refine jX.li l4 (by rfl) (by rfl) (?_ : jX G jP 179 150 lv [.int v4, .ref (spl 54 v1.toNatClampNeg 0), .ref (spl 33 0 0)] μ Q)
      refine jX.ll l5 (by rfl) (by rfl) (?_ : jX G jP 179 152 lv [.long v5, .int v4, .ref (spl 54 v1.toNatClampNeg 0), .ref (spl 33 0 0)] μ Q)
      obtain ⟨q9, e9, h⟩ := sbd h
      refine jX.c1 (v := .int q9.1) (by rfl) (by rfl) (by rfl) (by rfl) (by rfl) (by rfl) (by rfl) (R.rec (by rfl) (by rfl)) (Nat.le_of_ble_eq_true rfl) (Nat.le_of_ble_eq_true rfl) (F_157_ok R e9 (fun μ R => ⟨rfl, (?_ : jX G jP 179 155 lv [.int q9.1] μ Q)⟩))
      rcases bif_or h with ⟨hc, h⟩ | ⟨hc, h⟩
      · refine jX.b1t hc (by rfl) (by rfl) (by rfl) (?_ : jX G jP 179 183 lv [] μ Q)
        exact F_179_183_ok  K v1 _ _ _ l0 l1 R h
      · refine jX.b1f hc (by rfl) (by rfl) (by rfl) (?_ : jX G jP 179 158 lv [] μ Q)
        refine jX.lrn l0 (by rfl) (by rfl) (?_ : jX G jP 179 159 lv [.ref (spl 33 0 0)] μ Q)
        refine jX.lr l8 (by rfl) (by rfl) (?_ : jX G jP 179 161 lv [.ref (spl 54 v1.toNatClampNeg 0), .ref (spl 33 0 0)] μ Q)
        refine jX.ic (v := nI 0) (n := 1) (by rfl) (by rfl) (by decide) (?_ : jX G jP 179 162 lv [.int (nI 0), .ref (spl 54 v1.toNatClampNeg 0), .ref (spl 33 0 0)] μ Q)
        refine jX.li l7 (by rfl) (by rfl) (?_ : jX G jP 179 164 lv [.int v7, .int (nI 0), .ref (spl 54 v1.toNatClampNeg 0), .ref (spl 33 0 0)] μ Q)
        refine jX.go (by rfl) (by rfl) (by rfl) (?_ : jX G jP 179 165 lv [.long v7.toInt64, .int (nI 0), .ref (spl 54 v1.toNatClampNeg 0), .ref (spl 33 0 0)] μ Q)
        obtain ⟨q10, e10, h⟩ := sbd h
        refine jX.c1 (v := .int q10.1) (by rfl) (by rfl) (by rfl) (by rfl) (by rfl) (by rfl) (by rfl) (R.rec (by rfl) (by rfl)) (Nat.le_of_ble_eq_true rfl) (Nat.le_of_ble_eq_true rfl) (F_157_ok R e10 (fun μ R => ⟨rfl, (?_ : jX G jP 179 168 lv [.int q10.1] μ Q)⟩))
        refine jX.go (by rfl) (by rfl) (by rfl) (?_ : jX G jP 179 169 lv [] μ Q)
        refine jX.go (by rfl) (by rfl) (by rfl) (?_ : jX G jP 179 183 lv [] μ Q)
        exact F_179_183_ok  K v1 _ _ _ l0 l1 R h
  · refine jX.b2f hc (by rfl) (by rfl) (by rfl) (?_ : jX G jP 179 33 lv [] μ Q)
    refine jX.lrn l0 (by rfl) (by rfl) (?_ : jX G jP 179 34 lv [.ref (spl 33 0 0)] μ Q)
    refine jX.lr l8 (by rfl) (by rfl) (?_ : jX G jP 179 36 lv [.ref (spl 54 v1.toNatClampNeg 0), .ref (spl 33 0 0)] μ Q)
    refine jX.lin l2 (by rfl) (by rfl) (?_ : jX G jP 179 37 lv [.int v2, .ref (spl 54 v1.toNatClampNeg 0), .ref (spl 33 0 0)] μ Q)
    refine jX.lin l3 (by rfl) (by rfl) (?_ : jX G jP 179 38 lv [.int v3, .int v2, .ref (spl 54 v1.toNatClampNeg 0), .ref (spl 33 0 0)] μ Q)
    obtain ⟨q11, e11, h⟩ := sbd h
    refine jX.c1 (v := .int q11.1) (by rfl) (by rfl) (by rfl) (by rfl) (by rfl) (by rfl) (by rfl) (R.rec (by rfl) (by rfl)) (Nat.le_of_ble_eq_true rfl) (Nat.le_of_ble_eq_true rfl) (F_173_ok R e11 (fun μ R => ⟨rfl, (?_ : jX G jP 179 41 lv [.int q11.1] μ Q)⟩))
    refine jX.s1 (k := 11) (pc' := 43) (by rfl) (by rfl) (by rfl) (fun lv l11 kp => (?_ : jX G jP 179 43 lv [] μ Q))
    replace l0 := kp 0 _ l0 (by rfl) (by first | rfl | simp [soR_cat])
    replace l1 := kp 1 _ l1 (by rfl) (by first | rfl | simp [soR_cat])
    replace l3 := kp 3 _ l3 (by rfl) (by first | rfl | simp [soR_cat])
    replace l4 := kp 4 _ l4 (by rfl) (by first | rfl | simp [soR_cat])
    replace l5 := kp 5 _ l5 (by rfl) (by first | rfl | simp [soR_cat])
    replace l8 := kp 8 _ l8 (by rfl) (by first | rfl | simp [soR_cat])
    replace l9 := kp 9 _ l9 (by rfl) (by first | rfl | simp [soR_cat])
    refine jX.lrn l0 (by rfl) (by rfl) (?_ : jX G jP 179 44 lv [.ref (spl 33 0 0)] μ Q)
    refine jX.sg R (by rfl) (by rfl) (by rfl) (by rfl) (by rfl) (by rfl) (?_ : jX G jP 179 47 lv [.ref (spl 42 0 0)] μ Q)
    refine jX.lrn l0 (by rfl) (by rfl) (?_ : jX G jP 179 48 lv [.ref (spl 33 0 0), .ref (spl 42 0 0)] μ Q)
    refine jX.sg R (by rfl) (by rfl) (by rfl) (by rfl) (by rfl) (by rfl) (?_ : jX G jP 179 51 lv [.ref (spl 39 0 0), .ref (spl 42 0 0)] μ Q)
    refine jX.lo l9 (by rfl) (by rfl) (?_ : jX G jP 179 53 lv [soR 56 q2.1, .ref (spl 39 0 0), .ref (spl 42 0 0)] μ Q)
    obtain ⟨a12, e12, h⟩ := sbd h
    rw [soR_some (t := 56) e12]
    rw [soR_some (t := 56) e12] at l9
    obtain ⟨g13, h⟩ := jif_some h
    refine jX.sg R g13 (by rfl) (by rfl) (by rfl) (by rfl) (by rfl) (?_ : jX G jP 179 56 lv [.int (q11.2.1 56 a12.1 a12.2 0), .ref (spl 39 0 0), .ref (spl 42 0 0)] μ Q)
    obtain ⟨g14, h⟩ := jif_some h
    refine jX.sai R (by rfl) (by rfl) (by rfl) (by rfl) g14 (?_ : jX G jP 179 57 lv [.int (q11.2.1 39 0 0 (q11.2.1 56 a12.1 a12.2 0).toNatClampNeg), .ref (spl 42 0 0)] μ Q)
    refine jX.lr l9 (by rfl) (by rfl) (?_ : jX G jP 179 59 lv [.ref (spl 56 a12.1 a12.2), .int (q11.2.1 39 0 0 (q11.2.1 56 a12.1 a12.2 0).toNatClampNeg), .ref (spl 42 0 0)] μ Q)
    refine jX.sg R g13 (by rfl) (by rfl) (by rfl) (by rfl) (by rfl) (?_ : jX G jP 179 62 lv [.int (q11.2.1 56 a12.1 a12.2 1), .int (q11.2.1 39 0 0 (q11.2.1 56 a12.1 a12.2 0).toNatClampNeg), .ref (spl 42 0 0)] μ Q)
    refine jX.go (by rfl) (by rfl) (by rfl) (?_ : jX G jP 179 63 lv [.int ((q11.2.1 39 0 0 (q11.2.1 56 a12.1 a12.2 0).toNatClampNeg) + (q11.2.1 56 a12.1 a12.2 1)), .ref (spl 42 0 0)] μ Q)
    refine jX.ic (v := nI 1) (n := 1) (by rfl) (by rfl) (by decide) (?_ : jX G jP 179 64 lv [.int (nI 1), .int ((q11.2.1 39 0 0 (q11.2.1 56 a12.1 a12.2 0).toNatClampNeg) + (q11.2.1 56 a12.1 a12.2 1)), .ref (spl 42 0 0)] μ Q)
    refine jX.go (by rfl) (by rfl) (by rfl) (?_ : jX G jP 179 65 lv [.int (((q11.2.1 39 0 0 (q11.2.1 56 a12.1 a12.2 0).toNatClampNeg) + (q11.2.1 56 a12.1 a12.2 1)) - (nI 1)), .ref (spl 42 0 0)] μ Q)
    obtain ⟨g15, h⟩ := jif_some h
    refine jX.sai R (by rfl) (by rfl) (by rfl) (by rfl) g15 (?_ : jX G jP 179 66 lv [.int (q11.2.1 42 0 0 (((q11.2.1 39 0 0 (q11.2.1 56 a12.1 a12.2 0).toNatClampNeg) + (q11.2.1 56 a12.1 a12.2 1)) - (nI 1)).toNatClampNeg)] μ Q)
    refine jX.ic (v := nI 7) (n := 2) (by rfl) (by rfl) (by decide) (?_ : jX G jP 179 68 lv [.int (nI 7), .int (q11.2.1 42 0 0 (((q11.2.1 39 0 0 (q11.2.1 56 a12.1 a12.2 0).toNatClampNeg) + (q11.2.1 56 a12.1 a12.2 1)) - (nI 1)).toNatClampNeg)] μ Q)
    refine jX.go (by rfl) (by rfl) (by rfl) (?_ : jX G jP 179 69 lv [.int ((q11.2.1 42 0 0 (((q11.2.1 39 0 0 (q11.2.1 56 a12.1 a12.2 0).toNatClampNeg) + (q11.2.1 56 a12.1 a12.2 1)) - (nI 1)).toNatClampNeg) &&& (nI 7))] μ Q)
    refine jX.s1 (k := 12) (pc' := 71) (by rfl) (by rfl) (by rfl) (fun lv l12 kp => (?_ : jX G jP 179 71 lv [] μ Q))
    replace l0 := kp 0 _ l0 (by rfl) (by first | rfl | simp [soR_cat])
    replace l1 := kp 1 _ l1 (by rfl) (by first | rfl | simp [soR_cat])
    replace l3 := kp 3 _ l3 (by rfl) (by first | rfl | simp [soR_cat])
    replace l4 := kp 4 _ l4 (by rfl) (by first | rfl | simp [soR_cat])
    replace l5 := kp 5 _ l5 (by rfl) (by first | rfl | simp [soR_cat])
    replace l8 := kp 8 _ l8 (by rfl) (by first | rfl | simp [soR_cat])
    replace l9 := kp 9 _ l9 (by rfl) (by first | rfl | simp [soR_cat])
    replace l11 := kp 11 _ l11 (by rfl) (by first | rfl | simp [soR_cat])
    refine jX.lr l9 (by rfl) (by rfl) (?_ : jX G jP 179 73 lv [.ref (spl 56 a12.1 a12.2)] μ Q)
    refine jX.go (by rfl) (by rfl) (by rfl) (?_ : jX G jP 179 74 lv [.ref (spl 56 a12.1 a12.2), .ref (spl 56 a12.1 a12.2)] μ Q)
    refine jX.sg R g13 (by rfl) (by rfl) (by rfl) (by rfl) (by rfl) (?_ : jX G jP 179 77 lv [.int (q11.2.1 56 a12.1 a12.2 2), .ref (spl 56 a12.1 a12.2)] μ Q)
    refine jX.ic (v := nI 3) (n := 1) (by rfl) (by rfl) (by decide) (?_ : jX G jP 179 78 lv [.int (nI 3), .int (q11.2.1 56 a12.1 a12.2 2), .ref (spl 56 a12.1 a12.2)] μ Q)
    refine jX.li l12 (by rfl) (by rfl) (?_ : jX G jP 179 80 lv [.int ((q11.2.1 42 0 0 (((q11.2.1 39 0 0 (q11.2.1 56 a12.1 a12.2 0).toNatClampNeg) + (q11.2.1 56 a12.1 a12.2 1)) - (nI 1)).toNatClampNeg) &&& (nI 7)), .int (nI 3), .int (q11.2.1 56 a12.1 a12.2 2), .ref (spl 56 a12.1 a12.2)] μ Q)
    refine jX.go (by rfl) (by rfl) (by rfl) (?_ : jX G jP 179 81 lv [.int ((nI 3) * ((q11.2.1 42 0 0 (((q11.2.1 39 0 0 (q11.2.1 56 a12.1 a12.2 0).toNatClampNeg) + (q11.2.1 56 a12.1 a12.2 1)) - (nI 1)).toNatClampNeg) &&& (nI 7))), .int (q11.2.1 56 a12.1 a12.2 2), .ref (spl 56 a12.1 a12.2)] μ Q)
    refine jX.go (by rfl) (by rfl) (by rfl) (?_ : jX G jP 179 82 lv [.int ((q11.2.1 56 a12.1 a12.2 2) - ((nI 3) * ((q11.2.1 42 0 0 (((q11.2.1 39 0 0 (q11.2.1 56 a12.1 a12.2 0).toNatClampNeg) + (q11.2.1 56 a12.1 a12.2 1)) - (nI 1)).toNatClampNeg) &&& (nI 7)))), .ref (spl 56 a12.1 a12.2)] μ Q)
    refine jX.spI R g13 (by rfl) (by rfl) (by rfl) (by rfl) (by rfl) (by rfl) (by rfl) (by rfl) (fun μ R => (?_ : jX G jP 179 85 lv [] μ Q))
    refine jX.lrn l0 (by rfl) (by rfl) (?_ : jX G jP 179 86 lv [.ref (spl 33 0 0)] μ Q)
    refine jX.lr l8 (by rfl) (by rfl) (?_ : jX G jP 179 88 lv [.ref (spl 54 v1.toNatClampNeg 0), .ref (spl 33 0 0)] μ Q)
    refine jX.lin l3 (by rfl) (by rfl) (?_ : jX G jP 179 89 lv [.int v3, .ref (spl 54 v1.toNatClampNeg 0), .ref (spl 33 0 0)] μ Q)
    rcases bif_or h with ⟨hc, h⟩ | ⟨hc, h⟩
    · refine jX.b1t hc (by rfl) (by rfl) (by rfl) (?_ : jX G jP 179 96 lv [.ref (spl 54 v1.toNatClampNeg 0), .ref (spl 33 0 0)] μ Q)
      refine jX.li l4 (by rfl) (by rfl) (?_ : jX G jP 179 98 lv [.int v4, .ref (spl 54 v1.toNatClampNeg 0), .ref (spl 33 0 0)] μ Q)
      exact F_179_98_ok  K v1 v3 v5 (v1.toNatClampNeg, 0) q11.1 v4 (v1.toNatClampNeg, 0) _ _ _ l0 l1 l3 l5 l8 l11 R h
    · refine jX.b1f hc (by rfl) (by rfl) (by rfl) (?_ : jX G jP 179 92 lv [.ref (spl 54 v1.toNatClampNeg 0), .ref (spl 33 0 0)] μ Q)
      refine jX.ic (v := nI 0) (n := 1) (by rfl) (by rfl) (by decide) (?_ : jX G jP 179 93 lv [.int (nI 0), .ref (spl 54 v1.toNatClampNeg 0), .ref (spl 33 0 0)] μ Q)
      refine jX.go (by rfl) (by rfl) (by rfl) (?_ : jX G jP 179 98 lv [.int (nI 0), .ref (spl 54 v1.toNatClampNeg 0), .ref (spl 33 0 0)] μ Q)
      exact F_179_98_ok  K v1 v3 v5 (v1.toNatClampNeg, 0) q11.1 (nI 0) (v1.toNatClampNeg, 0) _ _ _ l0 l1 l3 l5 l8 l11 R h
/-! 180 StrandRuntimeModel.sent(IIJ)V -/
def F_180 (G : jG) (t : Nat) (v1 : Int32) (v2 : Int32) (v3 : Int64) (S : sS) : Option (Unit × sS) := jif (jin v1 1300) ((F_175 G t v1 (nI 0) S).bind (fun q2 => bif jcmp .lt q2.1 0 then (jif (sex q2.2.2.2.2.1 51 v1.toNatClampNeg 0) (jif (sex q2.2.2.2.2.1 52 v1.toNatClampNeg 0) (jif (jin (q2.2.1 51 v1.toNatClampNeg 0 2) 16) (jif (sex (siI q2.2 52 v1.toNatClampNeg 0 (q2.2.1 51 v1.toNatClampNeg 0 2).toNatClampNeg v2).2.2.2.1 53 v1.toNatClampNeg 0) (jif (jin ((siI q2.2 52 v1.toNatClampNeg 0 (q2.2.1 51 v1.toNatClampNeg 0 2).toNatClampNeg v2).1 51 v1.toNatClampNeg 0 2) 16) (some ((), (siI (siL (siI q2.2 52 v1.toNatClampNeg 0 (q2.2.1 51 v1.toNatClampNeg 0 2).toNatClampNeg v2) 53 v1.toNatClampNeg 0 ((siI q2.2 52 v1.toNatClampNeg 0 (q2.2.1 51 v1.toNatClampNeg 0 2).toNatClampNeg v2).1 51 v1.toNatClampNeg 0 2).toNatClampNeg v3) 51 v1.toNatClampNeg 0 2 (((siL (siI q2.2 52 v1.toNatClampNeg 0 (q2.2.1 51 v1.toNatClampNeg 0 2).toNatClampNeg v2) 53 v1.toNatClampNeg 0 ((siI q2.2 52 v1.toNatClampNeg 0 (q2.2.1 51 v1.toNatClampNeg 0 2).toNatClampNeg v2).1 51 v1.toNatClampNeg 0 2).toNatClampNeg v3).1 51 v1.toNatClampNeg 0 2) + (nI 1)))))))))) else ((F_179 G t q2.1 v1 (nI 0) v2 v3 (nI 1) q2.2).bind (fun q8 => some ((), q8.2)))))
theorem F_180_ok {G : jG} {t : Nat} {v1 : Int32} {v2 : Int32} {v3 : Int64} {S : sS} {r : Unit} {S' : sS} {μ : jS} {Q : Option Value ⊕ Nat → jS → Prop} (R : sR S μ) (h : F_180 G t v1 v2 v3 S = some (r, S')) (K : ∀ μ', sR S' μ' → Q (srV r) μ') : jX G jP 180 0 (lv_args 0 [.ref (spl 33 0 0), .int v1, .int v2, .long v3]) [] μ Q := by
  unfold F_180 at h
  have l0 : jld (lv_args 0 [.ref (spl 33 0 0), .int v1, .int v2, .long v3]) 0 = some (.ref (spl 33 0 0)) := by rfl
  have l1 : jld (lv_args 0 [.ref (spl 33 0 0), .int v1, .int v2, .long v3]) 1 = some (.int v1) := by rfl
  have l2 : jld (lv_args 0 [.ref (spl 33 0 0), .int v1, .int v2, .long v3]) 2 = some (.int v2) := by rfl
  have l3 : jld (lv_args 0 [.ref (spl 33 0 0), .int v1, .int v2, .long v3]) 3 = some (.long v3) := by rfl
  generalize lv_args 0 [.ref (spl 33 0 0), .int v1, .int v2, .long v3] = lv at *
  refine jX.lrn l0 (by rfl) (by rfl) (?_ : jX G jP 180 1 lv [.ref (spl 33 0 0)] μ Q)
  refine jX.sg R (by rfl) (by rfl) (by rfl) (by rfl) (by rfl) (by rfl) (?_ : jX G jP 180 4 lv [.ref (spl 34 0 0)] μ Q)
  refine jX.lin l1 (by rfl) (by rfl) (?_ : jX G jP 180 5 lv [.int v1, .ref (spl 34 0 0)] μ Q)
  obtain ⟨g1, h⟩ := jif_some h
  refine jX.sar (f := fun q => bif Nat.blt q 1300 then some (spl 51 q 0) else none) R (by rfl) (by rfl) (by rfl) (by rfl) g1 (srf_in g1) (?_ : jX G jP 180 6 lv [.ref (spl 51 v1.toNatClampNeg 0)] μ Q)
  refine jX.s1 (k := 5) (pc' := 8) (by rfl) (by rfl) (by rfl) (fun lv l5 kp => (?_ : jX G jP 180 8 lv [] μ Q))
  replace l0 := kp 0 _ l0 (by rfl) (by first | rfl | simp [soR_cat])
  replace l1 := kp 1 _ l1 (by rfl) (by first | rfl | simp [soR_cat])
  replace l2 := kp 2 _ l2 (by rfl) (by first | rfl | simp [soR_cat])
  replace l3 := kp 3 _ l3 (by rfl) (by first | rfl | simp [soR_cat])
  refine jX.lrn l0 (by rfl) (by rfl) (?_ : jX G jP 180 9 lv [.ref (spl 33 0 0)] μ Q)
  refine jX.lin l1 (by rfl) (by rfl) (?_ : jX G jP 180 10 lv [.int v1, .ref (spl 33 0 0)] μ Q)
  refine jX.ic (v := nI 0) (n := 1) (by rfl) (by rfl) (by decide) (?_ : jX G jP 180 11 lv [.int (nI 0), .int v1, .ref (spl 33 0 0)] μ Q)
  obtain ⟨q2, e2, h⟩ := sbd h
  refine jX.c1 (v := .int q2.1) (by rfl) (by rfl) (by rfl) (by rfl) (by rfl) (by rfl) (by rfl) (R.rec (by rfl) (by rfl)) (Nat.le_of_ble_eq_true rfl) (Nat.le_of_ble_eq_true rfl) (F_175_ok R e2 (fun μ R => ⟨rfl, (?_ : jX G jP 180 14 lv [.int q2.1] μ Q)⟩))
  refine jX.s1 (k := 6) (pc' := 16) (by rfl) (by rfl) (by rfl) (fun lv l6 kp => (?_ : jX G jP 180 16 lv [] μ Q))
  replace l0 := kp 0 _ l0 (by rfl) (by first | rfl | simp [soR_cat])
  replace l1 := kp 1 _ l1 (by rfl) (by first | rfl | simp [soR_cat])
  replace l2 := kp 2 _ l2 (by rfl) (by first | rfl | simp [soR_cat])
  replace l3 := kp 3 _ l3 (by rfl) (by first | rfl | simp [soR_cat])
  replace l5 := kp 5 _ l5 (by rfl) (by first | rfl | simp [soR_cat])
  refine jX.li l6 (by rfl) (by rfl) (?_ : jX G jP 180 18 lv [.int q2.1] μ Q)
  rcases bif_or h with ⟨hc, h⟩ | ⟨hc, h⟩
  · refine jX.b1t hc (by rfl) (by rfl) (by rfl) (?_ : jX G jP 180 33 lv [] μ Q)
    refine jX.lr l5 (by rfl) (by rfl) (?_ : jX G jP 180 35 lv [.ref (spl 51 v1.toNatClampNeg 0)] μ Q)
    obtain ⟨g3, h⟩ := jif_some h
    refine jX.sg R g3 (by rfl) (by rfl) (by rfl) (by rfl) (by rfl) (?_ : jX G jP 180 38 lv [.ref (spl 52 v1.toNatClampNeg 0)] μ Q)
    refine jX.lr l5 (by rfl) (by rfl) (?_ : jX G jP 180 40 lv [.ref (spl 51 v1.toNatClampNeg 0), .ref (spl 52 v1.toNatClampNeg 0)] μ Q)
    refine jX.sg R g3 (by rfl) (by rfl) (by rfl) (by rfl) (by rfl) (?_ : jX G jP 180 43 lv [.int (q2.2.1 51 v1.toNatClampNeg 0 2), .ref (spl 52 v1.toNatClampNeg 0)] μ Q)
    refine jX.lin l2 (by rfl) (by rfl) (?_ : jX G jP 180 44 lv [.int v2, .int (q2.2.1 51 v1.toNatClampNeg 0 2), .ref (spl 52 v1.toNatClampNeg 0)] μ Q)
    obtain ⟨g4, h⟩ := jif_some h
    obtain ⟨g5, h⟩ := jif_some h
    refine jX.sti R g4 (by rfl) (by rfl) (fun _ => by rfl) g5 (fun μ R => (?_ : jX G jP 180 45 lv [] μ Q))
    refine jX.lr l5 (by rfl) (by rfl) (?_ : jX G jP 180 47 lv [.ref (spl 51 v1.toNatClampNeg 0)] μ Q)
    refine jX.sg R g3 (by rfl) (by rfl) (by rfl) (by rfl) (by rfl) (?_ : jX G jP 180 50 lv [.ref (spl 53 v1.toNatClampNeg 0)] μ Q)
    refine jX.lr l5 (by rfl) (by rfl) (?_ : jX G jP 180 52 lv [.ref (spl 51 v1.toNatClampNeg 0), .ref (spl 53 v1.toNatClampNeg 0)] μ Q)
    refine jX.sg R g3 (by rfl) (by rfl) (by rfl) (by rfl) (by rfl) (?_ : jX G jP 180 55 lv [.int ((siI q2.2 52 v1.toNatClampNeg 0 (q2.2.1 51 v1.toNatClampNeg 0 2).toNatClampNeg v2).1 51 v1.toNatClampNeg 0 2), .ref (spl 53 v1.toNatClampNeg 0)] μ Q)
    refine jX.lln l3 (by rfl) (by rfl) (?_ : jX G jP 180 56 lv [.long v3, .int ((siI q2.2 52 v1.toNatClampNeg 0 (q2.2.1 51 v1.toNatClampNeg 0 2).toNatClampNeg v2).1 51 v1.toNatClampNeg 0 2), .ref (spl 53 v1.toNatClampNeg 0)] μ Q)
    obtain ⟨g6, h⟩ := jif_some h
    obtain ⟨g7, h⟩ := jif_some h
    refine jX.stl R g6 (by rfl) (by rfl) (fun _ => by rfl) g7 (fun μ R => (?_ : jX G jP 180 57 lv [] μ Q))
    refine jX.lr l5 (by rfl) (by rfl) (?_ : jX G jP 180 59 lv [.ref (spl 51 v1.toNatClampNeg 0)] μ Q)
    refine jX.go (by rfl) (by rfl) (by rfl) (?_ : jX G jP 180 60 lv [.ref (spl 51 v1.toNatClampNeg 0), .ref (spl 51 v1.toNatClampNeg 0)] μ Q)
    refine jX.sg R g3 (by rfl) (by rfl) (by rfl) (by rfl) (by rfl) (?_ : jX G jP 180 63 lv [.int ((siL (siI q2.2 52 v1.toNatClampNeg 0 (q2.2.1 51 v1.toNatClampNeg 0 2).toNatClampNeg v2) 53 v1.toNatClampNeg 0 ((siI q2.2 52 v1.toNatClampNeg 0 (q2.2.1 51 v1.toNatClampNeg 0 2).toNatClampNeg v2).1 51 v1.toNatClampNeg 0 2).toNatClampNeg v3).1 51 v1.toNatClampNeg 0 2), .ref (spl 51 v1.toNatClampNeg 0)] μ Q)
    refine jX.ic (v := nI 1) (n := 1) (by rfl) (by rfl) (by decide) (?_ : jX G jP 180 64 lv [.int (nI 1), .int ((siL (siI q2.2 52 v1.toNatClampNeg 0 (q2.2.1 51 v1.toNatClampNeg 0 2).toNatClampNeg v2) 53 v1.toNatClampNeg 0 ((siI q2.2 52 v1.toNatClampNeg 0 (q2.2.1 51 v1.toNatClampNeg 0 2).toNatClampNeg v2).1 51 v1.toNatClampNeg 0 2).toNatClampNeg v3).1 51 v1.toNatClampNeg 0 2), .ref (spl 51 v1.toNatClampNeg 0)] μ Q)
    refine jX.go (by rfl) (by rfl) (by rfl) (?_ : jX G jP 180 65 lv [.int (((siL (siI q2.2 52 v1.toNatClampNeg 0 (q2.2.1 51 v1.toNatClampNeg 0 2).toNatClampNeg v2) 53 v1.toNatClampNeg 0 ((siI q2.2 52 v1.toNatClampNeg 0 (q2.2.1 51 v1.toNatClampNeg 0 2).toNatClampNeg v2).1 51 v1.toNatClampNeg 0 2).toNatClampNeg v3).1 51 v1.toNatClampNeg 0 2) + (nI 1)), .ref (spl 51 v1.toNatClampNeg 0)] μ Q)
    refine jX.spI R g3 (by rfl) (by rfl) (by rfl) (by rfl) (by rfl) (by rfl) (by rfl) (by rfl) (fun μ R => (?_ : jX G jP 180 68 lv [] μ Q))
    exact jX.ret (by rfl) (by rfl) (by rfl) (by rfl) (sretv (f := srV) h K R)
  · refine jX.b1f hc (by rfl) (by rfl) (by rfl) (?_ : jX G jP 180 21 lv [] μ Q)
    refine jX.lrn l0 (by rfl) (by rfl) (?_ : jX G jP 180 22 lv [.ref (spl 33 0 0)] μ Q)
    refine jX.li l6 (by rfl) (by rfl) (?_ : jX G jP 180 24 lv [.int q2.1, .ref (spl 33 0 0)] μ Q)
    refine jX.lin l1 (by rfl) (by rfl) (?_ : jX G jP 180 25 lv [.int v1, .int q2.1, .ref (spl 33 0 0)] μ Q)
    refine jX.ic (v := nI 0) (n := 1) (by rfl) (by rfl) (by decide) (?_ : jX G jP 180 26 lv [.int (nI 0), .int v1, .int q2.1, .ref (spl 33 0 0)] μ Q)
    refine jX.lin l2 (by rfl) (by rfl) (?_ : jX G jP 180 27 lv [.int v2, .int (nI 0), .int v1, .int q2.1, .ref (spl 33 0 0)] μ Q)
    refine jX.lln l3 (by rfl) (by rfl) (?_ : jX G jP 180 28 lv [.long v3, .int v2, .int (nI 0), .int v1, .int q2.1, .ref (spl 33 0 0)] μ Q)
    refine jX.ic (v := nI 1) (n := 1) (by rfl) (by rfl) (by decide) (?_ : jX G jP 180 29 lv [.int (nI 1), .long v3, .int v2, .int (nI 0), .int v1, .int q2.1, .ref (spl 33 0 0)] μ Q)
    obtain ⟨q8, e8, h⟩ := sbd h
    refine jX.cv (by rfl) (by rfl) (by rfl) (by rfl) (by rfl) (by rfl) (by rfl) (R.rec (by rfl) (by rfl)) (Nat.le_of_ble_eq_true rfl) (Nat.le_of_ble_eq_true rfl) (F_179_ok R e8 (fun μ R => ⟨rfl, (?_ : jX G jP 180 32 lv [] μ Q)⟩))
    exact jX.ret (by rfl) (by rfl) (by rfl) (by rfl) (sretv (f := srV) h K R)
/-! 181 StrandRuntimeModel.send(LStrandRuntimeModel$Strand;)V -/
def F_181_81 (G : jG) (t : Nat) (v1 : (Nat × Nat)) (S : sS) : Option (Unit × sS) := (F_177 G t v1 (nI 2) S).bind (fun q1 => some ((), q1.2))
theorem F_181_81_ok {G : jG} {t : Nat} {r : Unit} {S' : sS} {Q : Option Value ⊕ Nat → jS → Prop} (K : ∀ μ', sR S' μ' → Q (srV r) μ') : ∀ (v1 : (Nat × Nat)) (S : sS) (lv : jL) (μ : jS), jld lv 0 = some (.ref (spl 33 0 0)) → jld lv 1 = some (.ref (spl 54 v1.1 v1.2)) → sR S μ → F_181_81 G t v1 S = some (r, S') → jX G jP 181 81 lv [] μ Q := by
  intro v1 S lv μ l0 l1 R h
  unfold F_181_81 at h
  refine jX.lrn l0 (by rfl) (by rfl) (?_ : jX G jP 181 82 lv [.ref (spl 33 0 0)] μ Q)
  refine jX.lrn l1 (by rfl) (by rfl) (?_ : jX G jP 181 83 lv [.ref (spl 54 v1.1 v1.2), .ref (spl 33 0 0)] μ Q)
  refine jX.ic (v := nI 2) (n := 1) (by rfl) (by rfl) (by decide) (?_ : jX G jP 181 84 lv [.int (nI 2), .ref (spl 54 v1.1 v1.2), .ref (spl 33 0 0)] μ Q)
  obtain ⟨q1, e1, h⟩ := sbd h
  refine jX.cv (by rfl) (by rfl) (by rfl) (by rfl) (by rfl) (by rfl) (by rfl) (R.rec (by rfl) (by rfl)) (Nat.le_of_ble_eq_true rfl) (Nat.le_of_ble_eq_true rfl) (F_177_ok R e1 (fun μ R => ⟨rfl, (?_ : jX G jP 181 87 lv [] μ Q)⟩))
  refine jX.go (by rfl) (by rfl) (by rfl) (?_ : jX G jP 181 139 lv [] μ Q)
  exact jX.ret (by rfl) (by rfl) (by rfl) (by rfl) (sretv (f := srV) h K R)
def F_181_66 (G : jG) (t : Nat) (v1 : (Nat × Nat)) (v3 : Int32) (v4 : Int32) (S : sS) : Option (Unit × sS) := bif jcmp .eq v3 (nI 1) then (F_181_81 G t v1 S) else ((F_176 G t v4 (nI 1) S).bind (fun q1 => bif jcmp .ne q1.1 0 then ((F_156 G t v1 (nI 2) q1.2).bind (fun q2 => jif (jin v4 1300) (jif (sex q2.2.2.2.2.1 51 v4.toNatClampNeg 0) (bif jcmp .eq (q2.2.1 51 v4.toNatClampNeg 0 4) 0 then (jif (jin (nI 0) 16) (jif (jin (nI 0) 16) ((F_180 G t v4 (q2.2.1 47 0 0 (nI 0).toNatClampNeg) (q2.2.2.1 48 0 0 (nI 0).toNatClampNeg) q2.2).bind (fun q7 => some ((), q7.2))))) else ((F_155 G t v1 (-4) q2.2).bind (fun q8 => some ((), q8.2))))))) else (F_181_81 G t v1 q1.2)))
theorem F_181_66_ok {G : jG} {t : Nat} {r : Unit} {S' : sS} {Q : Option Value ⊕ Nat → jS → Prop} (K : ∀ μ', sR S' μ' → Q (srV r) μ') : ∀ (v1 : (Nat × Nat)) (v3 : Int32) (v4 : Int32) (S : sS) (lv : jL) (μ : jS), jld lv 0 = some (.ref (spl 33 0 0)) → jld lv 1 = some (.ref (spl 54 v1.1 v1.2)) → jld lv 3 = some (.int v3) → jld lv 4 = some (.int v4) → sR S μ → F_181_66 G t v1 v3 v4 S = some (r, S') → jX G jP 181 66 lv [] μ Q := by
  intro v1 v3 v4 S lv μ l0 l1 l3 l4 R h
  unfold F_181_66 at h
  refine jX.lin l3 (by rfl) (by rfl) (?_ : jX G jP 181 67 lv [.int v3] μ Q)
  refine jX.ic (v := nI 1) (n := 1) (by rfl) (by rfl) (by decide) (?_ : jX G jP 181 68 lv [.int (nI 1), .int v3] μ Q)
  rcases bif_or h with ⟨hc, h⟩ | ⟨hc, h⟩
  · refine jX.b2t hc (by rfl) (by rfl) (by rfl) (?_ : jX G jP 181 81 lv [] μ Q)
    exact F_181_81_ok  K v1 _ _ _ l0 l1 R h
  · refine jX.b2f hc (by rfl) (by rfl) (by rfl) (?_ : jX G jP 181 71 lv [] μ Q)
    refine jX.lrn l0 (by rfl) (by rfl) (?_ : jX G jP 181 72 lv [.ref (spl 33 0 0)] μ Q)
    refine jX.li l4 (by rfl) (by rfl) (?_ : jX G jP 181 74 lv [.int v4, .ref (spl 33 0 0)] μ Q)
    refine jX.ic (v := nI 1) (n := 1) (by rfl) (by rfl) (by decide) (?_ : jX G jP 181 75 lv [.int (nI 1), .int v4, .ref (spl 33 0 0)] μ Q)
    obtain ⟨q1, e1, h⟩ := sbd h
    refine jX.c1 (v := .int q1.1) (by rfl) (by rfl) (by rfl) (by rfl) (by rfl) (by rfl) (by rfl) (R.rec (by rfl) (by rfl)) (Nat.le_of_ble_eq_true rfl) (Nat.le_of_ble_eq_true rfl) (F_176_ok R e1 (fun μ R => ⟨rfl, (?_ : jX G jP 181 78 lv [.int q1.1] μ Q)⟩))
    rcases bif_or h with ⟨hc, h⟩ | ⟨hc, h⟩
    · refine jX.b1t hc (by rfl) (by rfl) (by rfl) (?_ : jX G jP 181 90 lv [] μ Q)
      refine jX.lrn l0 (by rfl) (by rfl) (?_ : jX G jP 181 91 lv [.ref (spl 33 0 0)] μ Q)
      refine jX.lrn l1 (by rfl) (by rfl) (?_ : jX G jP 181 92 lv [.ref (spl 54 v1.1 v1.2), .ref (spl 33 0 0)] μ Q)
      refine jX.ic (v := nI 2) (n := 1) (by rfl) (by rfl) (by decide) (?_ : jX G jP 181 93 lv [.int (nI 2), .ref (spl 54 v1.1 v1.2), .ref (spl 33 0 0)] μ Q)
      obtain ⟨q2, e2, h⟩ := sbd h
      refine jX.c1 (v := .int q2.1) (by rfl) (by rfl) (by rfl) (by rfl) (by rfl) (by rfl) (by rfl) (R.rec (by rfl) (by rfl)) (Nat.le_of_ble_eq_true rfl) (Nat.le_of_ble_eq_true rfl) (F_156_ok R e2 (fun μ R => ⟨rfl, (?_ : jX G jP 181 96 lv [.int q2.1] μ Q)⟩))
      refine jX.go (by rfl) (by rfl) (by rfl) (?_ : jX G jP 181 97 lv [] μ Q)
      refine jX.lrn l0 (by rfl) (by rfl) (?_ : jX G jP 181 98 lv [.ref (spl 33 0 0)] μ Q)
      refine jX.sg R (by rfl) (by rfl) (by rfl) (by rfl) (by rfl) (by rfl) (?_ : jX G jP 181 101 lv [.ref (spl 34 0 0)] μ Q)
      refine jX.li l4 (by rfl) (by rfl) (?_ : jX G jP 181 103 lv [.int v4, .ref (spl 34 0 0)] μ Q)
      obtain ⟨g3, h⟩ := jif_some h
      refine jX.sar (f := fun q => bif Nat.blt q 1300 then some (spl 51 q 0) else none) R (by rfl) (by rfl) (by rfl) (by rfl) g3 (srf_in g3) (?_ : jX G jP 181 104 lv [.ref (spl 51 v4.toNatClampNeg 0)] μ Q)
      obtain ⟨g4, h⟩ := jif_some h
      refine jX.sg R g4 (by rfl) (by rfl) (by rfl) (by rfl) (by rfl) (?_ : jX G jP 181 107 lv [.int (q2.2.1 51 v4.toNatClampNeg 0 4)] μ Q)
      rcases bif_or h with ⟨hc, h⟩ | ⟨hc, h⟩
      · refine jX.b1t hc (by rfl) (by rfl) (by rfl) (?_ : jX G jP 181 121 lv [] μ Q)
        refine jX.lrn l0 (by rfl) (by rfl) (?_ : jX G jP 181 122 lv [.ref (spl 33 0 0)] μ Q)
        refine jX.li l4 (by rfl) (by rfl) (?_ : jX G jP 181 124 lv [.int v4, .ref (spl 33 0 0)] μ Q)
        refine jX.lrn l0 (by rfl) (by rfl) (?_ : jX G jP 181 125 lv [.ref (spl 33 0 0), .int v4, .ref (spl 33 0 0)] μ Q)
        refine jX.sg R (by rfl) (by rfl) (by rfl) (by rfl) (by rfl) (by rfl) (?_ : jX G jP 181 128 lv [.ref (spl 47 0 0), .int v4, .ref (spl 33 0 0)] μ Q)
        refine jX.ic (v := nI 0) (n := 1) (by rfl) (by rfl) (by decide) (?_ : jX G jP 181 129 lv [.int (nI 0), .ref (spl 47 0 0), .int v4, .ref (spl 33 0 0)] μ Q)
        obtain ⟨g5, h⟩ := jif_some h
        refine jX.sai R (by rfl) (by rfl) (by rfl) (by rfl) g5 (?_ : jX G jP 181 130 lv [.int (q2.2.1 47 0 0 (nI 0).toNatClampNeg), .int v4, .ref (spl 33 0 0)] μ Q)
        refine jX.lrn l0 (by rfl) (by rfl) (?_ : jX G jP 181 131 lv [.ref (spl 33 0 0), .int (q2.2.1 47 0 0 (nI 0).toNatClampNeg), .int v4, .ref (spl 33 0 0)] μ Q)
        refine jX.sg R (by rfl) (by rfl) (by rfl) (by rfl) (by rfl) (by rfl) (?_ : jX G jP 181 134 lv [.ref (spl 48 0 0), .int (q2.2.1 47 0 0 (nI 0).toNatClampNeg), .int v4, .ref (spl 33 0 0)] μ Q)
        refine jX.ic (v := nI 0) (n := 1) (by rfl) (by rfl) (by decide) (?_ : jX G jP 181 135 lv [.int (nI 0), .ref (spl 48 0 0), .int (q2.2.1 47 0 0 (nI 0).toNatClampNeg), .int v4, .ref (spl 33 0 0)] μ Q)
        obtain ⟨g6, h⟩ := jif_some h
        refine jX.sal R (by rfl) (by rfl) (by rfl) (by rfl) g6 (?_ : jX G jP 181 136 lv [.long (q2.2.2.1 48 0 0 (nI 0).toNatClampNeg), .int (q2.2.1 47 0 0 (nI 0).toNatClampNeg), .int v4, .ref (spl 33 0 0)] μ Q)
        obtain ⟨q7, e7, h⟩ := sbd h
        refine jX.cv (by rfl) (by rfl) (by rfl) (by rfl) (by rfl) (by rfl) (by rfl) (R.rec (by rfl) (by rfl)) (Nat.le_of_ble_eq_true rfl) (Nat.le_of_ble_eq_true rfl) (F_180_ok R e7 (fun μ R => ⟨rfl, (?_ : jX G jP 181 139 lv [] μ Q)⟩))
        exact jX.ret (by rfl) (by rfl) (by rfl) (by rfl) (sretv (f := srV) h K R)
      · refine jX.b1f hc (by rfl) (by rfl) (by rfl) (?_ : jX G jP 181 110 lv [] μ Q)
        refine jX.lrn l0 (by rfl) (by rfl) (?_ : jX G jP 181 111 lv [.ref (spl 33 0 0)] μ Q)
        refine jX.lrn l1 (by rfl) (by rfl) (?_ : jX G jP 181 112 lv [.ref (spl 54 v1.1 v1.2), .ref (spl 33 0 0)] μ Q)
        refine jX.go (by rfl) (by rfl) (by rfl) (?_ : jX G jP 181 115 lv [.long (-4), .ref (spl 54 v1.1 v1.2), .ref (spl 33 0 0)] μ Q)
        obtain ⟨q8, e8, h⟩ := sbd h
        refine jX.cv (by rfl) (by rfl) (by rfl) (by rfl) (by rfl) (by rfl) (by rfl) (R.rec (by rfl) (by rfl)) (Nat.le_of_ble_eq_true rfl) (Nat.le_of_ble_eq_true rfl) (F_155_ok R e8 (fun μ R => ⟨rfl, (?_ : jX G jP 181 118 lv [] μ Q)⟩))
        refine jX.go (by rfl) (by rfl) (by rfl) (?_ : jX G jP 181 139 lv [] μ Q)
        exact jX.ret (by rfl) (by rfl) (by rfl) (by rfl) (sretv (f := srV) h K R)
    · refine jX.b1f hc (by rfl) (by rfl) (by rfl) (?_ : jX G jP 181 81 lv [] μ Q)
      exact F_181_81_ok  K v1 _ _ _ l0 l1 R h
def F_181 (G : jG) (t : Nat) (v1 : (Nat × Nat)) (S : sS) : Option (Unit × sS) := (F_151 G t v1 S).bind (fun q1 => (q1.1).bind (fun a2 => jif (sex q1.2.2.2.2.1 56 a2.1 a2.2) (jif (sex q1.2.2.2.2.1 58 a2.1 a2.2) (jif (jin ((q1.2.1 56 a2.1 a2.2 2) - (nI 2)) 16) (jif (sex q1.2.2.2.2.1 62 a2.1 a2.2) (jif (jin ((q1.2.1 56 a2.1 a2.2 2) - (nI 2)) 16) (bif jcmp .eq (q1.2.1 58 a2.1 a2.2 ((q1.2.1 56 a2.1 a2.2 2) - (nI 2)).toNatClampNeg) (nI 1) then (F_181_66 G t v1 (q1.2.1 58 a2.1 a2.2 ((q1.2.1 56 a2.1 a2.2 2) - (nI 2)).toNatClampNeg) ((q1.2.2.1 62 a2.1 a2.2 ((q1.2.1 56 a2.1 a2.2 2) - (nI 2)).toNatClampNeg).toInt32) q1.2) else ((F_170 G t (q1.2.1 58 a2.1 a2.2 ((q1.2.1 56 a2.1 a2.2 2) - (nI 2)).toNatClampNeg) (((q1.2.2.1 62 a2.1 a2.2 ((q1.2.1 56 a2.1 a2.2 2) - (nI 2)).toNatClampNeg).toInt32).toInt64) (nI 3) q1.2).bind (fun q8 => bif jcmp .ne q8.1 0 then (F_181_66 G t v1 (q1.2.1 58 a2.1 a2.2 ((q1.2.1 56 a2.1 a2.2 2) - (nI 2)).toNatClampNeg) ((q1.2.2.1 62 a2.1 a2.2 ((q1.2.1 56 a2.1 a2.2 2) - (nI 2)).toNatClampNeg).toInt32) q8.2) else ((F_156 G t v1 (nI 2) q8.2).bind (fun q9 => (F_155 G t v1 (-2) q9.2).bind (fun q10 => some ((), q10.2)))))))))))))
theorem F_181_ok {G : jG} {t : Nat} {v1 : (Nat × Nat)} {S : sS} {r : Unit} {S' : sS} {μ : jS} {Q : Option Value ⊕ Nat → jS → Prop} (R : sR S μ) (h : F_181 G t v1 S = some (r, S')) (K : ∀ μ', sR S' μ' → Q (srV r) μ') : jX G jP 181 0 (lv_args 0 [.ref (spl 33 0 0), .ref (spl 54 v1.1 v1.2)]) [] μ Q := by
  unfold F_181 at h
  have l0 : jld (lv_args 0 [.ref (spl 33 0 0), .ref (spl 54 v1.1 v1.2)]) 0 = some (.ref (spl 33 0 0)) := by rfl
  have l1 : jld (lv_args 0 [.ref (spl 33 0 0), .ref (spl 54 v1.1 v1.2)]) 1 = some (.ref (spl 54 v1.1 v1.2)) := by rfl
  generalize lv_args 0 [.ref (spl 33 0 0), .ref (spl 54 v1.1 v1.2)] = lv at *
  refine jX.lrn l1 (by rfl) (by rfl) (?_ : jX G jP 181 1 lv [.ref (spl 54 v1.1 v1.2)] μ Q)
  obtain ⟨q1, e1, h⟩ := sbd h
  refine jX.c1 (v := soR 56 q1.1) (by rfl) (by rfl) (by rfl) (by rfl) (by rfl) (by rfl) (by rfl) (by rfl) (Nat.le_of_ble_eq_true rfl) (Nat.le_of_ble_eq_true rfl) (F_151_ok R e1 (fun μ R => ⟨rfl, (?_ : jX G jP 181 4 lv [soR 56 q1.1] μ Q)⟩))
  refine jX.so (k := 2) (pc' := 5) (by rfl) (by rfl) (fun _ => by rfl) (by rfl) (fun lv l2 kp => (?_ : jX G jP 181 5 lv [] μ Q))
  replace l0 := kp 0 _ l0 (by rfl) (by first | rfl | simp [soR_cat])
  replace l1 := kp 1 _ l1 (by rfl) (by first | rfl | simp [soR_cat])
  refine jX.lon l2 (by rfl) (by rfl) (?_ : jX G jP 181 6 lv [soR 56 q1.1] μ Q)
  obtain ⟨a2, e2, h⟩ := sbd h
  rw [soR_some (t := 56) e2]
  rw [soR_some (t := 56) e2] at l2
  obtain ⟨g3, h⟩ := jif_some h
  refine jX.sg R g3 (by rfl) (by rfl) (by rfl) (by rfl) (by rfl) (?_ : jX G jP 181 9 lv [.ref (spl 58 a2.1 a2.2)] μ Q)
  refine jX.lrn l2 (by rfl) (by rfl) (?_ : jX G jP 181 10 lv [.ref (spl 56 a2.1 a2.2), .ref (spl 58 a2.1 a2.2)] μ Q)
  refine jX.sg R g3 (by rfl) (by rfl) (by rfl) (by rfl) (by rfl) (?_ : jX G jP 181 13 lv [.int (q1.2.1 56 a2.1 a2.2 2), .ref (spl 58 a2.1 a2.2)] μ Q)
  refine jX.ic (v := nI 2) (n := 1) (by rfl) (by rfl) (by decide) (?_ : jX G jP 181 14 lv [.int (nI 2), .int (q1.2.1 56 a2.1 a2.2 2), .ref (spl 58 a2.1 a2.2)] μ Q)
  refine jX.go (by rfl) (by rfl) (by rfl) (?_ : jX G jP 181 15 lv [.int ((q1.2.1 56 a2.1 a2.2 2) - (nI 2)), .ref (spl 58 a2.1 a2.2)] μ Q)
  obtain ⟨g4, h⟩ := jif_some h
  obtain ⟨g5, h⟩ := jif_some h
  refine jX.sai R g4 (by rfl) (by rfl) (by rfl) g5 (?_ : jX G jP 181 16 lv [.int (q1.2.1 58 a2.1 a2.2 ((q1.2.1 56 a2.1 a2.2 2) - (nI 2)).toNatClampNeg)] μ Q)
  refine jX.s1 (k := 3) (pc' := 17) (by rfl) (by rfl) (by rfl) (fun lv l3 kp => (?_ : jX G jP 181 17 lv [] μ Q))
  replace l0 := kp 0 _ l0 (by rfl) (by first | rfl | simp [soR_cat])
  replace l1 := kp 1 _ l1 (by rfl) (by first | rfl | simp [soR_cat])
  replace l2 := kp 2 _ l2 (by rfl) (by first | rfl | simp [soR_cat])
  refine jX.lrn l2 (by rfl) (by rfl) (?_ : jX G jP 181 18 lv [.ref (spl 56 a2.1 a2.2)] μ Q)
  refine jX.sg R g3 (by rfl) (by rfl) (by rfl) (by rfl) (by rfl) (?_ : jX G jP 181 21 lv [.ref (spl 62 a2.1 a2.2)] μ Q)
  refine jX.lrn l2 (by rfl) (by rfl) (?_ : jX G jP 181 22 lv [.ref (spl 56 a2.1 a2.2), .ref (spl 62 a2.1 a2.2)] μ Q)
  refine jX.sg R g3 (by rfl) (by rfl) (by rfl) (by rfl) (by rfl) (?_ : jX G jP 181 25 lv [.int (q1.2.1 56 a2.1 a2.2 2), .ref (spl 62 a2.1 a2.2)] μ Q)
  refine jX.ic (v := nI 2) (n := 1) (by rfl) (by rfl) (by decide) (?_ : jX G jP 181 26 lv [.int (nI 2), .int (q1.2.1 56 a2.1 a2.2 2), .ref (spl 62 a2.1 a2.2)] μ Q)
  refine jX.go (by rfl) (by rfl) (by rfl) (?_ : jX G jP 181 27 lv [.int ((q1.2.1 56 a2.1 a2.2 2) - (nI 2)), .ref (spl 62 a2.1 a2.2)] μ Q)
  obtain ⟨g6, h⟩ := jif_some h
  obtain ⟨g7, h⟩ := jif_some h
  refine jX.sal R g6 (by rfl) (by rfl) (by rfl) g7 (?_ : jX G jP 181 28 lv [.long (q1.2.2.1 62 a2.1 a2.2 ((q1.2.1 56 a2.1 a2.2 2) - (nI 2)).toNatClampNeg)] μ Q)
  refine jX.go (by rfl) (by rfl) (by rfl) (?_ : jX G jP 181 29 lv [.int ((q1.2.2.1 62 a2.1 a2.2 ((q1.2.1 56 a2.1 a2.2 2) - (nI 2)).toNatClampNeg).toInt32)] μ Q)
  refine jX.s1 (k := 4) (pc' := 31) (by rfl) (by rfl) (by rfl) (fun lv l4 kp => (?_ : jX G jP 181 31 lv [] μ Q))
  replace l0 := kp 0 _ l0 (by rfl) (by first | rfl | simp [soR_cat])
  replace l1 := kp 1 _ l1 (by rfl) (by first | rfl | simp [soR_cat])
  replace l3 := kp 3 _ l3 (by rfl) (by first | rfl | simp [soR_cat])
  refine jX.lin l3 (by rfl) (by rfl) (?_ : jX G jP 181 32 lv [.int (q1.2.1 58 a2.1 a2.2 ((q1.2.1 56 a2.1 a2.2 2) - (nI 2)).toNatClampNeg)] μ Q)
  refine jX.ic (v := nI 1) (n := 1) (by rfl) (by rfl) (by decide) (?_ : jX G jP 181 33 lv [.int (nI 1), .int (q1.2.1 58 a2.1 a2.2 ((q1.2.1 56 a2.1 a2.2 2) - (nI 2)).toNatClampNeg)] μ Q)
  rcases bif_or h with ⟨hc, h⟩ | ⟨hc, h⟩
  · refine jX.b2t hc (by rfl) (by rfl) (by rfl) (?_ : jX G jP 181 66 lv [] μ Q)
    exact F_181_66_ok  K v1 (q1.2.1 58 a2.1 a2.2 ((q1.2.1 56 a2.1 a2.2 2) - (nI 2)).toNatClampNeg) ((q1.2.2.1 62 a2.1 a2.2 ((q1.2.1 56 a2.1 a2.2 2) - (nI 2)).toNatClampNeg).toInt32) _ _ _ l0 l1 l3 l4 R h
  · refine jX.b2f hc (by rfl) (by rfl) (by rfl) (?_ : jX G jP 181 36 lv [] μ Q)
    refine jX.lrn l0 (by rfl) (by rfl) (?_ : jX G jP 181 37 lv [.ref (spl 33 0 0)] μ Q)
    refine jX.lin l3 (by rfl) (by rfl) (?_ : jX G jP 181 38 lv [.int (q1.2.1 58 a2.1 a2.2 ((q1.2.1 56 a2.1 a2.2 2) - (nI 2)).toNatClampNeg), .ref (spl 33 0 0)] μ Q)
    refine jX.li l4 (by rfl) (by rfl) (?_ : jX G jP 181 40 lv [.int ((q1.2.2.1 62 a2.1 a2.2 ((q1.2.1 56 a2.1 a2.2 2) - (nI 2)).toNatClampNeg).toInt32), .int (q1.2.1 58 a2.1 a2.2 ((q1.2.1 56 a2.1 a2.2 2) - (nI 2)).toNatClampNeg), .ref (spl 33 0 0)] μ Q)
    refine jX.go (by rfl) (by rfl) (by rfl) (?_ : jX G jP 181 41 lv [.long (((q1.2.2.1 62 a2.1 a2.2 ((q1.2.1 56 a2.1 a2.2 2) - (nI 2)).toNatClampNeg).toInt32).toInt64), .int (q1.2.1 58 a2.1 a2.2 ((q1.2.1 56 a2.1 a2.2 2) - (nI 2)).toNatClampNeg), .ref (spl 33 0 0)] μ Q)
    refine jX.ic (v := nI 3) (n := 1) (by rfl) (by rfl) (by decide) (?_ : jX G jP 181 42 lv [.int (nI 3), .long (((q1.2.2.1 62 a2.1 a2.2 ((q1.2.1 56 a2.1 a2.2 2) - (nI 2)).toNatClampNeg).toInt32).toInt64), .int (q1.2.1 58 a2.1 a2.2 ((q1.2.1 56 a2.1 a2.2 2) - (nI 2)).toNatClampNeg), .ref (spl 33 0 0)] μ Q)
    obtain ⟨q8, e8, h⟩ := sbd h
    refine jX.c1 (v := .int q8.1) (by rfl) (by rfl) (by rfl) (by rfl) (by rfl) (by rfl) (by rfl) (R.rec (by rfl) (by rfl)) (Nat.le_of_ble_eq_true rfl) (Nat.le_of_ble_eq_true rfl) (F_170_ok R e8 (fun μ R => ⟨rfl, (?_ : jX G jP 181 45 lv [.int q8.1] μ Q)⟩))
    rcases bif_or h with ⟨hc, h⟩ | ⟨hc, h⟩
    · refine jX.b1t hc (by rfl) (by rfl) (by rfl) (?_ : jX G jP 181 66 lv [] μ Q)
      exact F_181_66_ok  K v1 (q1.2.1 58 a2.1 a2.2 ((q1.2.1 56 a2.1 a2.2 2) - (nI 2)).toNatClampNeg) ((q1.2.2.1 62 a2.1 a2.2 ((q1.2.1 56 a2.1 a2.2 2) - (nI 2)).toNatClampNeg).toInt32) _ _ _ l0 l1 l3 l4 R h
    · refine jX.b1f hc (by rfl) (by rfl) (by rfl) (?_ : jX G jP 181 48 lv [] μ Q)
      refine jX.lrn l0 (by rfl) (by rfl) (?_ : jX G jP 181 49 lv [.ref (spl 33 0 0)] μ Q)
      refine jX.lrn l1 (by rfl) (by rfl) (?_ : jX G jP 181 50 lv [.ref (spl 54 v1.1 v1.2), .ref (spl 33 0 0)] μ Q)
      refine jX.ic (v := nI 2) (n := 1) (by rfl) (by rfl) (by decide) (?_ : jX G jP 181 51 lv [.int (nI 2), .ref (spl 54 v1.1 v1.2), .ref (spl 33 0 0)] μ Q)
      obtain ⟨q9, e9, h⟩ := sbd h
      refine jX.c1 (v := .int q9.1) (by rfl) (by rfl) (by rfl) (by rfl) (by rfl) (by rfl) (by rfl) (R.rec (by rfl) (by rfl)) (Nat.le_of_ble_eq_true rfl) (Nat.le_of_ble_eq_true rfl) (F_156_ok R e9 (fun μ R => ⟨rfl, (?_ : jX G jP 181 54 lv [.int q9.1] μ Q)⟩))
      refine jX.go (by rfl) (by rfl) (by rfl) (?_ : jX G jP 181 55 lv [] μ Q)
      refine jX.lrn l0 (by rfl) (by rfl) (?_ : jX G jP 181 56 lv [.ref (spl 33 0 0)] μ Q)
      refine jX.lrn l1 (by rfl) (by rfl) (?_ : jX G jP 181 57 lv [.ref (spl 54 v1.1 v1.2), .ref (spl 33 0 0)] μ Q)
      refine jX.go (by rfl) (by rfl) (by rfl) (?_ : jX G jP 181 60 lv [.long (-2), .ref (spl 54 v1.1 v1.2), .ref (spl 33 0 0)] μ Q)
      obtain ⟨q10, e10, h⟩ := sbd h
      refine jX.cv (by rfl) (by rfl) (by rfl) (by rfl) (by rfl) (by rfl) (by rfl) (R.rec (by rfl) (by rfl)) (Nat.le_of_ble_eq_true rfl) (Nat.le_of_ble_eq_true rfl) (F_155_ok R e10 (fun μ R => ⟨rfl, (?_ : jX G jP 181 63 lv [] μ Q)⟩))
      refine jX.go (by rfl) (by rfl) (by rfl) (?_ : jX G jP 181 139 lv [] μ Q)
      exact jX.ret (by rfl) (by rfl) (by rfl) (by rfl) (sretv (f := srV) h K R)
