/-! printed by dec.py: what methods 98 to 119 do to the store -/
/-! 98 StrandRuntime$Channels.unload(LStrandRuntime$Strand;ILStrandRuntime$Row;)V -/
def F_98_118 (G : jG) (t : Nat) (v1 : (Nat × Nat)) (S : sS) : Option (Unit × sS) := (F_30 G t v1 S).bind (fun q1 => some ((), q1.2))
theorem F_98_118_ok {G : jG} {t : Nat} {r : Unit} {S' : sS} {Q : Option Value ⊕ Nat → jS → Prop} (K : ∀ μ', sR S' μ' → Q (srV r) μ') : ∀ (v1 : (Nat × Nat)) (S : sS) (lv : jL) (μ : jS), jld lv 0 = some (.ref (spl 22 0 0)) → jld lv 1 = some (.ref (spl 25 v1.1 v1.2)) → sR S μ → F_98_118 G t v1 S = some (r, S') → jX G jP 98 118 lv [] μ Q := by
  intro v1 S lv μ l0 l1 R h
  unfold F_98_118 at h
  refine jX.lrn l0 (by rfl) (by rfl) (?_ : jX G jP 98 119 lv [.ref (spl 22 0 0)] μ Q)
  refine jX.sg R (by rfl) (by rfl) (by rfl) (by rfl) (by rfl) (by rfl) (?_ : jX G jP 98 122 lv [.ref (spl 8 0 0)] μ Q)
  refine jX.lrn l1 (by rfl) (by rfl) (?_ : jX G jP 98 123 lv [.ref (spl 25 v1.1 v1.2), .ref (spl 8 0 0)] μ Q)
  obtain ⟨q1, e1, h⟩ := sbd h
  refine jX.cv (by rfl) (by rfl) (by rfl) (by rfl) (by rfl) (by rfl) (by rfl) (R.rec (by rfl) (by rfl)) (Nat.le_of_ble_eq_true rfl) (Nat.le_of_ble_eq_true rfl) (F_30_ok R e1 (fun μ R => ⟨rfl, (?_ : jX G jP 98 126 lv [] μ Q)⟩))
  exact jX.ret (by rfl) (by rfl) (by rfl) (by rfl) (sretv (f := srV) h K R)
def F_98_70 (G : jG) (t : Nat) (v1 : (Nat × Nat)) (v3 : (Nat × Nat)) (v5 : (Nat × Nat)) (v6 : Int32) (v7 : Int32) (w0 : Int32) (S : sS) : Option (Unit × sS) := jif (sex S.2.2.2.1 29 v5.1 v5.2) ((F_26 G t v5 w0 S).bind (fun q2 => jif (sex q2.2.2.2.2.1 29 v5.1 v5.2) ((F_27 G t v5 w0 q2.2).bind (fun q4 => jif (sex q4.2.2.2.2.1 29 v3.1 v3.2) ((F_78 G t v3 q2.1 q4.1 q4.2).bind (fun q6 => (F_91 G t v1 v5 q6.2).bind (fun q7 => bif jcmp .eq v7 0 then (F_98_118 G t v1 q7.2) else (jif (sex q7.2.2.2.2.1 29 v5.1 v5.2) ((F_78 G t v5 0 (nI 0) q7.2).bind (fun q9 => jif (sex q9.2.2.2.2.1 29 v5.1 v5.2) ((F_78 G t v5 v6.toInt64 (nI 0) q9.2).bind (fun q11 => F_98_118 G t v1 q11.2))))))))))))
theorem F_98_70_ok {G : jG} {t : Nat} {r : Unit} {S' : sS} {Q : Option Value ⊕ Nat → jS → Prop} (K : ∀ μ', sR S' μ' → Q (srV r) μ') : ∀ (v1 : (Nat × Nat)) (v3 : (Nat × Nat)) (v5 : (Nat × Nat)) (v6 : Int32) (v7 : Int32) (w0 : Int32) (S : sS) (lv : jL) (μ : jS), jld lv 0 = some (.ref (spl 22 0 0)) → jld lv 1 = some (.ref (spl 25 v1.1 v1.2)) → jld lv 3 = some (.ref (spl 29 v3.1 v3.2)) → jld lv 5 = some (.ref (spl 29 v5.1 v5.2)) → jld lv 6 = some (.int v6) → jld lv 7 = some (.int v7) → sR S μ → F_98_70 G t v1 v3 v5 v6 v7 w0 S = some (r, S') → jX G jP 98 70 lv [.int w0] μ Q := by
  intro v1 v3 v5 v6 v7 w0 S lv μ l0 l1 l3 l5 l6 l7 R h
  unfold F_98_70 at h
  refine jX.s1 (k := 8) (pc' := 72) (by rfl) (by rfl) (by rfl) (fun lv l8 kp => (?_ : jX G jP 98 72 lv [] μ Q))
  replace l0 := kp 0 _ l0 (by rfl) (by first | rfl | simp [soR_cat])
  replace l1 := kp 1 _ l1 (by rfl) (by first | rfl | simp [soR_cat])
  replace l3 := kp 3 _ l3 (by rfl) (by first | rfl | simp [soR_cat])
  replace l5 := kp 5 _ l5 (by rfl) (by first | rfl | simp [soR_cat])
  replace l6 := kp 6 _ l6 (by rfl) (by first | rfl | simp [soR_cat])
  replace l7 := kp 7 _ l7 (by rfl) (by first | rfl | simp [soR_cat])
  refine jX.lrn l3 (by rfl) (by rfl) (?_ : jX G jP 98 73 lv [.ref (spl 29 v3.1 v3.2)] μ Q)
  refine jX.lr l5 (by rfl) (by rfl) (?_ : jX G jP 98 75 lv [.ref (spl 29 v5.1 v5.2), .ref (spl 29 v3.1 v3.2)] μ Q)
  refine jX.li l8 (by rfl) (by rfl) (?_ : jX G jP 98 77 lv [.int w0, .ref (spl 29 v5.1 v5.2), .ref (spl 29 v3.1 v3.2)] μ Q)
  obtain ⟨g1, h⟩ := jif_some h
  obtain ⟨q2, e2, h⟩ := sbd h
  refine jX.c1 (v := .long q2.1) (by rfl) (by rfl) (by rfl) (by rfl) (by rfl) (by rfl) (by rfl) (R.rec g1 (by rfl)) (Nat.le_of_ble_eq_true rfl) (Nat.le_of_ble_eq_true rfl) (F_26_ok R e2 (fun μ R => ⟨rfl, (?_ : jX G jP 98 80 lv [.long q2.1, .ref (spl 29 v3.1 v3.2)] μ Q)⟩))
  refine jX.lr l5 (by rfl) (by rfl) (?_ : jX G jP 98 82 lv [.ref (spl 29 v5.1 v5.2), .long q2.1, .ref (spl 29 v3.1 v3.2)] μ Q)
  refine jX.li l8 (by rfl) (by rfl) (?_ : jX G jP 98 84 lv [.int w0, .ref (spl 29 v5.1 v5.2), .long q2.1, .ref (spl 29 v3.1 v3.2)] μ Q)
  obtain ⟨g3, h⟩ := jif_some h
  obtain ⟨q4, e4, h⟩ := sbd h
  refine jX.c1 (v := .int q4.1) (by rfl) (by rfl) (by rfl) (by rfl) (by rfl) (by rfl) (by rfl) (R.rec g3 (by rfl)) (Nat.le_of_ble_eq_true rfl) (Nat.le_of_ble_eq_true rfl) (F_27_ok R e4 (fun μ R => ⟨rfl, (?_ : jX G jP 98 87 lv [.int q4.1, .long q2.1, .ref (spl 29 v3.1 v3.2)] μ Q)⟩))
  obtain ⟨g5, h⟩ := jif_some h
  obtain ⟨q6, e6, h⟩ := sbd h
  refine jX.cv (by rfl) (by rfl) (by rfl) (by rfl) (by rfl) (by rfl) (by rfl) (R.rec g5 (by rfl)) (Nat.le_of_ble_eq_true rfl) (Nat.le_of_ble_eq_true rfl) (F_78_ok R e6 (fun μ R => ⟨rfl, (?_ : jX G jP 98 90 lv [] μ Q)⟩))
  refine jX.lrn l0 (by rfl) (by rfl) (?_ : jX G jP 98 91 lv [.ref (spl 22 0 0)] μ Q)
  refine jX.lrn l1 (by rfl) (by rfl) (?_ : jX G jP 98 92 lv [.ref (spl 25 v1.1 v1.2), .ref (spl 22 0 0)] μ Q)
  refine jX.lr l5 (by rfl) (by rfl) (?_ : jX G jP 98 94 lv [.ref (spl 29 v5.1 v5.2), .ref (spl 25 v1.1 v1.2), .ref (spl 22 0 0)] μ Q)
  obtain ⟨q7, e7, h⟩ := sbd h
  refine jX.cv (by rfl) (by rfl) (by rfl) (by rfl) (by rfl) (by rfl) (by rfl) (R.rec (by rfl) (by rfl)) (Nat.le_of_ble_eq_true rfl) (Nat.le_of_ble_eq_true rfl) (F_91_ok R e7 (fun μ R => ⟨rfl, (?_ : jX G jP 98 97 lv [] μ Q)⟩))
  refine jX.li l7 (by rfl) (by rfl) (?_ : jX G jP 98 99 lv [.int v7] μ Q)
  rcases bif_or h with ⟨hc, h⟩ | ⟨hc, h⟩
  · refine jX.b1t hc (by rfl) (by rfl) (by rfl) (?_ : jX G jP 98 118 lv [] μ Q)
    exact F_98_118_ok  K v1 _ _ _ l0 l1 R h
  · refine jX.b1f hc (by rfl) (by rfl) (by rfl) (?_ : jX G jP 98 102 lv [] μ Q)
    refine jX.lr l5 (by rfl) (by rfl) (?_ : jX G jP 98 104 lv [.ref (spl 29 v5.1 v5.2)] μ Q)
    refine jX.go (by rfl) (by rfl) (by rfl) (?_ : jX G jP 98 105 lv [.long 0, .ref (spl 29 v5.1 v5.2)] μ Q)
    refine jX.ic (v := nI 0) (n := 1) (by rfl) (by rfl) (by decide) (?_ : jX G jP 98 106 lv [.int (nI 0), .long 0, .ref (spl 29 v5.1 v5.2)] μ Q)
    obtain ⟨g8, h⟩ := jif_some h
    obtain ⟨q9, e9, h⟩ := sbd h
    refine jX.cv (by rfl) (by rfl) (by rfl) (by rfl) (by rfl) (by rfl) (by rfl) (R.rec g8 (by rfl)) (Nat.le_of_ble_eq_true rfl) (Nat.le_of_ble_eq_true rfl) (F_78_ok R e9 (fun μ R => ⟨rfl, (?_ : jX G jP 98 109 lv [] μ Q)⟩))
    refine jX.lr l5 (by rfl) (by rfl) (?_ : jX G jP 98 111 lv [.ref (spl 29 v5.1 v5.2)] μ Q)
    refine jX.li l6 (by rfl) (by rfl) (?_ : jX G jP 98 113 lv [.int v6, .ref (spl 29 v5.1 v5.2)] μ Q)
    refine jX.go (by rfl) (by rfl) (by rfl) (?_ : jX G jP 98 114 lv [.long v6.toInt64, .ref (spl 29 v5.1 v5.2)] μ Q)
    refine jX.ic (v := nI 0) (n := 1) (by rfl) (by rfl) (by decide) (?_ : jX G jP 98 115 lv [.int (nI 0), .long v6.toInt64, .ref (spl 29 v5.1 v5.2)] μ Q)
    obtain ⟨g10, h⟩ := jif_some h
    obtain ⟨q11, e11, h⟩ := sbd h
    refine jX.cv (by rfl) (by rfl) (by rfl) (by rfl) (by rfl) (by rfl) (by rfl) (R.rec g10 (by rfl)) (Nat.le_of_ble_eq_true rfl) (Nat.le_of_ble_eq_true rfl) (F_78_ok R e11 (fun μ R => ⟨rfl, (?_ : jX G jP 98 118 lv [] μ Q)⟩))
    exact F_98_118_ok  K v1 _ _ _ l0 l1 R h
def F_98_42 (G : jG) (t : Nat) (v1 : (Nat × Nat)) (v3 : (Nat × Nat)) (v5 : (Nat × Nat)) (v6 : Int32) (w0 : Int32) (S : sS) : Option (Unit × sS) := bif jcmp .eq w0 0 then (jif (sex S.2.2.2.1 29 v5.1 v5.2) (F_98_70 G t v1 v3 v5 v6 w0 ((S.1 29 v5.1 v5.2 2) - (nI 1)) S)) else ((F_88 G t v1 v5 v6 S).bind (fun q2 => F_98_70 G t v1 v3 v5 v6 w0 (q2.1 + (nI 2)) q2.2))
theorem F_98_42_ok {G : jG} {t : Nat} {r : Unit} {S' : sS} {Q : Option Value ⊕ Nat → jS → Prop} (K : ∀ μ', sR S' μ' → Q (srV r) μ') : ∀ (v1 : (Nat × Nat)) (v3 : (Nat × Nat)) (v5 : (Nat × Nat)) (v6 : Int32) (w0 : Int32) (S : sS) (lv : jL) (μ : jS), jld lv 0 = some (.ref (spl 22 0 0)) → jld lv 1 = some (.ref (spl 25 v1.1 v1.2)) → jld lv 3 = some (.ref (spl 29 v3.1 v3.2)) → jld lv 5 = some (.ref (spl 29 v5.1 v5.2)) → jld lv 6 = some (.int v6) → sR S μ → F_98_42 G t v1 v3 v5 v6 w0 S = some (r, S') → jX G jP 98 42 lv [.int w0] μ Q := by
  intro v1 v3 v5 v6 w0 S lv μ l0 l1 l3 l5 l6 R h
  unfold F_98_42 at h
  refine jX.s1 (k := 7) (pc' := 44) (by rfl) (by rfl) (by rfl) (fun lv l7 kp => (?_ : jX G jP 98 44 lv [] μ Q))
  replace l0 := kp 0 _ l0 (by rfl) (by first | rfl | simp [soR_cat])
  replace l1 := kp 1 _ l1 (by rfl) (by first | rfl | simp [soR_cat])
  replace l3 := kp 3 _ l3 (by rfl) (by first | rfl | simp [soR_cat])
  replace l5 := kp 5 _ l5 (by rfl) (by first | rfl | simp [soR_cat])
  replace l6 := kp 6 _ l6 (by rfl) (by first | rfl | simp [soR_cat])
  refine jX.li l7 (by rfl) (by rfl) (?_ : jX G jP 98 46 lv [.int w0] μ Q)
  rcases bif_or h with ⟨hc, h⟩ | ⟨hc, h⟩
  · refine jX.b1t hc (by rfl) (by rfl) (by rfl) (?_ : jX G jP 98 63 lv [] μ Q)
    refine jX.lr l5 (by rfl) (by rfl) (?_ : jX G jP 98 65 lv [.ref (spl 29 v5.1 v5.2)] μ Q)
    obtain ⟨g1, h⟩ := jif_some h
    refine jX.sg R g1 (by rfl) (by rfl) (by rfl) (by rfl) (by rfl) (?_ : jX G jP 98 68 lv [.int (S.1 29 v5.1 v5.2 2)] μ Q)
    refine jX.ic (v := nI 1) (n := 1) (by rfl) (by rfl) (by decide) (?_ : jX G jP 98 69 lv [.int (nI 1), .int (S.1 29 v5.1 v5.2 2)] μ Q)
    refine jX.go (by rfl) (by rfl) (by rfl) (?_ : jX G jP 98 70 lv [.int ((S.1 29 v5.1 v5.2 2) - (nI 1))] μ Q)
    exact F_98_70_ok  K v1 v3 v5 v6 w0 ((S.1 29 v5.1 v5.2 2) - (nI 1)) _ _ _ l0 l1 l3 l5 l6 l7 R h
  · refine jX.b1f hc (by rfl) (by rfl) (by rfl) (?_ : jX G jP 98 49 lv [] μ Q)
    refine jX.lrn l0 (by rfl) (by rfl) (?_ : jX G jP 98 50 lv [.ref (spl 22 0 0)] μ Q)
    refine jX.lrn l1 (by rfl) (by rfl) (?_ : jX G jP 98 51 lv [.ref (spl 25 v1.1 v1.2), .ref (spl 22 0 0)] μ Q)
    refine jX.lr l5 (by rfl) (by rfl) (?_ : jX G jP 98 53 lv [.ref (spl 29 v5.1 v5.2), .ref (spl 25 v1.1 v1.2), .ref (spl 22 0 0)] μ Q)
    refine jX.li l6 (by rfl) (by rfl) (?_ : jX G jP 98 55 lv [.int v6, .ref (spl 29 v5.1 v5.2), .ref (spl 25 v1.1 v1.2), .ref (spl 22 0 0)] μ Q)
    obtain ⟨q2, e2, h⟩ := sbd h
    refine jX.c1 (v := .int q2.1) (by rfl) (by rfl) (by rfl) (by rfl) (by rfl) (by rfl) (by rfl) (R.rec (by rfl) (by rfl)) (Nat.le_of_ble_eq_true rfl) (Nat.le_of_ble_eq_true rfl) (F_88_ok R e2 (fun μ R => ⟨rfl, (?_ : jX G jP 98 58 lv [.int q2.1] μ Q)⟩))
    refine jX.ic (v := nI 2) (n := 1) (by rfl) (by rfl) (by decide) (?_ : jX G jP 98 59 lv [.int (nI 2), .int q2.1] μ Q)
    refine jX.go (by rfl) (by rfl) (by rfl) (?_ : jX G jP 98 60 lv [.int (q2.1 + (nI 2))] μ Q)
    refine jX.go (by rfl) (by rfl) (by rfl) (?_ : jX G jP 98 70 lv [.int (q2.1 + (nI 2))] μ Q)
    exact F_98_70_ok  K v1 v3 v5 v6 w0 (q2.1 + (nI 2)) _ _ _ l0 l1 l3 l5 l6 l7 R h
def F_98 (G : jG) (t : Nat) (v1 : (Nat × Nat)) (v2 : Int32) (v3 : (Nat × Nat)) (S : sS) : Option (Unit × sS) := jif (sex S.2.2.2.1 25 v1.1 v1.2) ((F_66 G t v1 S).bind (fun q2 => sif q2.1 (some ((), q2.2)) (fun a3 => jif (sex q2.2.2.2.2.1 27 a3.1 a3.2) ((F_89 G t v1 v2 (nI 1) (nI 0) q2.2).bind (fun q5 => jif (sex q5.2.2.2.2.1 25 v1.1 v1.2) (bif jcmp .ne (q5.2.1 25 v1.1 v1.2 4) (nI 4) then (F_98_42 G t v1 v3 (a3.1, 1) q5.1 (nI 0) q5.2) else (F_98_42 G t v1 v3 (a3.1, 1) q5.1 (nI 1) q5.2)))))))
theorem F_98_ok {G : jG} {t : Nat} {v1 : (Nat × Nat)} {v2 : Int32} {v3 : (Nat × Nat)} {S : sS} {r : Unit} {S' : sS} {μ : jS} {Q : Option Value ⊕ Nat → jS → Prop} (R : sR S μ) (h : F_98 G t v1 v2 v3 S = some (r, S')) (K : ∀ μ', sR S' μ' → Q (srV r) μ') : jX G jP 98 0 (lv_args 0 [.ref (spl 22 0 0), .ref (spl 25 v1.1 v1.2), .int v2, .ref (spl 29 v3.1 v3.2)]) [] μ Q := by
  unfold F_98 at h
  have l0 : jld (lv_args 0 [.ref (spl 22 0 0), .ref (spl 25 v1.1 v1.2), .int v2, .ref (spl 29 v3.1 v3.2)]) 0 = some (.ref (spl 22 0 0)) := by rfl
  have l1 : jld (lv_args 0 [.ref (spl 22 0 0), .ref (spl 25 v1.1 v1.2), .int v2, .ref (spl 29 v3.1 v3.2)]) 1 = some (.ref (spl 25 v1.1 v1.2)) := by rfl
  have l2 : jld (lv_args 0 [.ref (spl 22 0 0), .ref (spl 25 v1.1 v1.2), .int v2, .ref (spl 29 v3.1 v3.2)]) 2 = some (.int v2) := by rfl
  have l3 : jld (lv_args 0 [.ref (spl 22 0 0), .ref (spl 25 v1.1 v1.2), .int v2, .ref (spl 29 v3.1 v3.2)]) 3 = some (.ref (spl 29 v3.1 v3.2)) := by rfl
  generalize lv_args 0 [.ref (spl 22 0 0), .ref (spl 25 v1.1 v1.2), .int v2, .ref (spl 29 v3.1 v3.2)] = lv at *
  refine jX.lrn l1 (by rfl) (by rfl) (?_ : jX G jP 98 1 lv [.ref (spl 25 v1.1 v1.2)] μ Q)
  obtain ⟨g1, h⟩ := jif_some h
  obtain ⟨q2, e2, h⟩ := sbd h
  refine jX.c1 (v := soR 27 q2.1) (by rfl) (by rfl) (by rfl) (by rfl) (by rfl) (by rfl) (by rfl) (R.rec g1 (by rfl)) (Nat.le_of_ble_eq_true rfl) (Nat.le_of_ble_eq_true rfl) (F_66_ok R e2 (fun μ R => ⟨rfl, (?_ : jX G jP 98 4 lv [soR 27 q2.1] μ Q)⟩))
  refine jX.so (k := 4) (pc' := 6) (by rfl) (by rfl) (fun _ => by rfl) (by rfl) (fun lv l4 kp => (?_ : jX G jP 98 6 lv [] μ Q))
  replace l0 := kp 0 _ l0 (by rfl) (by first | rfl | simp [soR_cat])
  replace l1 := kp 1 _ l1 (by rfl) (by first | rfl | simp [soR_cat])
  replace l2 := kp 2 _ l2 (by rfl) (by first | rfl | simp [soR_cat])
  replace l3 := kp 3 _ l3 (by rfl) (by first | rfl | simp [soR_cat])
  refine jX.lo l4 (by rfl) (by rfl) (?_ : jX G jP 98 8 lv [soR 27 q2.1] μ Q)
  rcases sif_or h with ⟨e3, h⟩ | ⟨a3, e3, h⟩
  · rw [soR_none (t := 27) e3]
    rw [soR_none (t := 27) e3] at l4
    refine jX.go (by rfl) (by rfl) (by rfl) (?_ : jX G jP 98 11 lv [] μ Q)
    exact jX.ret (by rfl) (by rfl) (by rfl) (by rfl) (sretv (f := srV) h K R)
  · rw [soR_some (t := 27) e3]
    rw [soR_some (t := 27) e3] at l4
    refine jX.go (by rfl) (by rfl) (by rfl) (?_ : jX G jP 98 12 lv [] μ Q)
    refine jX.lr l4 (by rfl) (by rfl) (?_ : jX G jP 98 14 lv [.ref (spl 27 a3.1 a3.2)] μ Q)
    obtain ⟨g4, h⟩ := jif_some h
    refine jX.sg R g4 (by rfl) (by rfl) (by rfl) (by rfl) (by rfl) (?_ : jX G jP 98 17 lv [.ref (spl 29 a3.1 1)] μ Q)
    refine jX.s1 (k := 5) (pc' := 19) (by rfl) (by rfl) (by rfl) (fun lv l5 kp => (?_ : jX G jP 98 19 lv [] μ Q))
    replace l0 := kp 0 _ l0 (by rfl) (by first | rfl | simp [soR_cat])
    replace l1 := kp 1 _ l1 (by rfl) (by first | rfl | simp [soR_cat])
    replace l2 := kp 2 _ l2 (by rfl) (by first | rfl | simp [soR_cat])
    replace l3 := kp 3 _ l3 (by rfl) (by first | rfl | simp [soR_cat])
    refine jX.lrn l0 (by rfl) (by rfl) (?_ : jX G jP 98 20 lv [.ref (spl 22 0 0)] μ Q)
    refine jX.lrn l1 (by rfl) (by rfl) (?_ : jX G jP 98 21 lv [.ref (spl 25 v1.1 v1.2), .ref (spl 22 0 0)] μ Q)
    refine jX.lin l2 (by rfl) (by rfl) (?_ : jX G jP 98 22 lv [.int v2, .ref (spl 25 v1.1 v1.2), .ref (spl 22 0 0)] μ Q)
    refine jX.ic (v := nI 1) (n := 1) (by rfl) (by rfl) (by decide) (?_ : jX G jP 98 23 lv [.int (nI 1), .int v2, .ref (spl 25 v1.1 v1.2), .ref (spl 22 0 0)] μ Q)
    refine jX.ic (v := nI 0) (n := 1) (by rfl) (by rfl) (by decide) (?_ : jX G jP 98 24 lv [.int (nI 0), .int (nI 1), .int v2, .ref (spl 25 v1.1 v1.2), .ref (spl 22 0 0)] μ Q)
    obtain ⟨q5, e5, h⟩ := sbd h
    refine jX.c1 (v := .int q5.1) (by rfl) (by rfl) (by rfl) (by rfl) (by rfl) (by rfl) (by rfl) (R.rec (by rfl) (by rfl)) (Nat.le_of_ble_eq_true rfl) (Nat.le_of_ble_eq_true rfl) (F_89_ok R e5 (fun μ R => ⟨rfl, (?_ : jX G jP 98 27 lv [.int q5.1] μ Q)⟩))
    refine jX.s1 (k := 6) (pc' := 29) (by rfl) (by rfl) (by rfl) (fun lv l6 kp => (?_ : jX G jP 98 29 lv [] μ Q))
    replace l0 := kp 0 _ l0 (by rfl) (by first | rfl | simp [soR_cat])
    replace l1 := kp 1 _ l1 (by rfl) (by first | rfl | simp [soR_cat])
    replace l3 := kp 3 _ l3 (by rfl) (by first | rfl | simp [soR_cat])
    replace l5 := kp 5 _ l5 (by rfl) (by first | rfl | simp [soR_cat])
    refine jX.lrn l1 (by rfl) (by rfl) (?_ : jX G jP 98 30 lv [.ref (spl 25 v1.1 v1.2)] μ Q)
    obtain ⟨g6, h⟩ := jif_some h
    refine jX.sg R g6 (by rfl) (by rfl) (by rfl) (by rfl) (by rfl) (?_ : jX G jP 98 33 lv [.int (q5.2.1 25 v1.1 v1.2 4)] μ Q)
    refine jX.ic (v := nI 4) (n := 1) (by rfl) (by rfl) (by decide) (?_ : jX G jP 98 34 lv [.int (nI 4), .int (q5.2.1 25 v1.1 v1.2 4)] μ Q)
    rcases bif_or h with ⟨hc, h⟩ | ⟨hc, h⟩
    · refine jX.b2t hc (by rfl) (by rfl) (by rfl) (?_ : jX G jP 98 41 lv [] μ Q)
      refine jX.ic (v := nI 0) (n := 1) (by rfl) (by rfl) (by decide) (?_ : jX G jP 98 42 lv [.int (nI 0)] μ Q)
      exact F_98_42_ok  K v1 v3 (a3.1, 1) q5.1 (nI 0) _ _ _ l0 l1 l3 l5 l6 R h
    · refine jX.b2f hc (by rfl) (by rfl) (by rfl) (?_ : jX G jP 98 37 lv [] μ Q)
      refine jX.ic (v := nI 1) (n := 1) (by rfl) (by rfl) (by decide) (?_ : jX G jP 98 38 lv [.int (nI 1)] μ Q)
      refine jX.go (by rfl) (by rfl) (by rfl) (?_ : jX G jP 98 42 lv [.int (nI 1)] μ Q)
      exact F_98_42_ok  K v1 v3 (a3.1, 1) q5.1 (nI 1) _ _ _ l0 l1 l3 l5 l6 R h
/-! 99 StrandRuntime$Channels.pull(LStrandRuntime$Thing;ILStrandRuntime$Row;)I -/
def F_99 (G : jG) (t : Nat) (v1 : (Nat × Nat)) (v2 : Int32) (v3 : (Nat × Nat)) (S : sS) : Option (Int32 × sS) := jif (sex S.2.2.2.1 32 v1.1 v1.2) ((F_90 G t v2 (nI 1) (nI 0) S).bind (fun q2 => jif (sex q2.2.2.2.2.1 29 v1.1 4) (bif jcmp .le (q2.2.1 29 v1.1 4 2) 0 then (sif q2.1 (jif (sex q2.2.2.2.2.1 29 v3.1 v3.2) ((F_78 G t v3 0 (nI 0) q2.2).bind (fun q6 => some ((nI 0), q6.2)))) (fun a4 => (F_98 G t a4 v2 v3 q2.2).bind (fun q7 => some ((nI 1), q7.2)))) else ((F_26 G t (v1.1, 4) (nI 0) q2.2).bind (fun q8 => jif (sex q8.2.2.2.2.1 29 v1.1 4) ((F_27 G t (v1.1, 4) (nI 0) q8.2).bind (fun q10 => jif (sex q10.2.2.2.2.1 29 v3.1 v3.2) ((F_78 G t v3 q8.1 q10.1 q10.2).bind (fun q12 => (F_96 G t (v1.1, 4) (nI 0) q12.2).bind (fun q13 => jif (sex q13.2.2.2.2.1 29 v1.1 4) ((F_97 G t (v1.1, 4) q13.2).bind (fun q15 => sif q2.1 (some ((nI 1), q15.2)) (fun a16 => (F_98 G t a16 v2 (v1.1, 4) q15.2).bind (fun q17 => some ((nI 1), q17.2)))))))))))))))
theorem F_99_ok {G : jG} {t : Nat} {v1 : (Nat × Nat)} {v2 : Int32} {v3 : (Nat × Nat)} {S : sS} {r : Int32} {S' : sS} {μ : jS} {Q : Option Value ⊕ Nat → jS → Prop} (R : sR S μ) (h : F_99 G t v1 v2 v3 S = some (r, S')) (K : ∀ μ', sR S' μ' → Q (srI r) μ') : jX G jP 99 0 (lv_args 0 [.ref (spl 22 0 0), .ref (spl 32 v1.1 v1.2), .int v2, .ref (spl 29 v3.1 v3.2)]) [] μ Q := by
  unfold F_99 at h
  have l0 : jld (lv_args 0 [.ref (spl 22 0 0), .ref (spl 32 v1.1 v1.2), .int v2, .ref (spl 29 v3.1 v3.2)]) 0 = some (.ref (spl 22 0 0)) := by rfl
  have l1 : jld (lv_args 0 [.ref (spl 22 0 0), .ref (spl 32 v1.1 v1.2), .int v2, .ref (spl 29 v3.1 v3.2)]) 1 = some (.ref (spl 32 v1.1 v1.2)) := by rfl
  have l2 : jld (lv_args 0 [.ref (spl 22 0 0), .ref (spl 32 v1.1 v1.2), .int v2, .ref (spl 29 v3.1 v3.2)]) 2 = some (.int v2) := by rfl
  have l3 : jld (lv_args 0 [.ref (spl 22 0 0), .ref (spl 32 v1.1 v1.2), .int v2, .ref (spl 29 v3.1 v3.2)]) 3 = some (.ref (spl 29 v3.1 v3.2)) := by rfl
  generalize lv_args 0 [.ref (spl 22 0 0), .ref (spl 32 v1.1 v1.2), .int v2, .ref (spl 29 v3.1 v3.2)] = lv at *
  refine jX.lrn l1 (by rfl) (by rfl) (?_ : jX G jP 99 1 lv [.ref (spl 32 v1.1 v1.2)] μ Q)
  obtain ⟨g1, h⟩ := jif_some h
  refine jX.sg R g1 (by rfl) (by rfl) (by rfl) (by rfl) (by rfl) (?_ : jX G jP 99 4 lv [.ref (spl 29 v1.1 4)] μ Q)
  refine jX.s1 (k := 4) (pc' := 6) (by rfl) (by rfl) (by rfl) (fun lv l4 kp => (?_ : jX G jP 99 6 lv [] μ Q))
  replace l0 := kp 0 _ l0 (by rfl) (by first | rfl | simp [soR_cat])
  replace l2 := kp 2 _ l2 (by rfl) (by first | rfl | simp [soR_cat])
  replace l3 := kp 3 _ l3 (by rfl) (by first | rfl | simp [soR_cat])
  refine jX.lrn l0 (by rfl) (by rfl) (?_ : jX G jP 99 7 lv [.ref (spl 22 0 0)] μ Q)
  refine jX.lin l2 (by rfl) (by rfl) (?_ : jX G jP 99 8 lv [.int v2, .ref (spl 22 0 0)] μ Q)
  refine jX.ic (v := nI 1) (n := 1) (by rfl) (by rfl) (by decide) (?_ : jX G jP 99 9 lv [.int (nI 1), .int v2, .ref (spl 22 0 0)] μ Q)
  refine jX.ic (v := nI 0) (n := 1) (by rfl) (by rfl) (by decide) (?_ : jX G jP 99 10 lv [.int (nI 0), .int (nI 1), .int v2, .ref (spl 22 0 0)] μ Q)
  obtain ⟨q2, e2, h⟩ := sbd h
  refine jX.c1 (v := soR 25 q2.1) (by rfl) (by rfl) (by rfl) (by rfl) (by rfl) (by rfl) (by rfl) (R.rec (by rfl) (by rfl)) (Nat.le_of_ble_eq_true rfl) (Nat.le_of_ble_eq_true rfl) (F_90_ok R e2 (fun μ R => ⟨rfl, (?_ : jX G jP 99 13 lv [soR 25 q2.1] μ Q)⟩))
  refine jX.so (k := 5) (pc' := 15) (by rfl) (by rfl) (fun _ => by rfl) (by rfl) (fun lv l5 kp => (?_ : jX G jP 99 15 lv [] μ Q))
  replace l0 := kp 0 _ l0 (by rfl) (by first | rfl | simp [soR_cat])
  replace l2 := kp 2 _ l2 (by rfl) (by first | rfl | simp [soR_cat])
  replace l3 := kp 3 _ l3 (by rfl) (by first | rfl | simp [soR_cat])
  replace l4 := kp 4 _ l4 (by rfl) (by first | rfl | simp [soR_cat])
  refine jX.lr l4 (by rfl) (by rfl) (?_ : jX G jP 99 17 lv [.ref (spl 29 v1.1 4)] μ Q)
  obtain ⟨g3, h⟩ := jif_some h
  refine jX.sg R g3 (by rfl) (by rfl) (by rfl) (by rfl) (by rfl) (?_ : jX G jP 99 20 lv [.int (q2.2.1 29 v1.1 4 2)] μ Q)
  rcases bif_or h with ⟨hc, h⟩ | ⟨hc, h⟩
  · refine jX.b1t hc (by rfl) (by rfl) (by rfl) (?_ : jX G jP 99 70 lv [] μ Q)
    refine jX.lo l5 (by rfl) (by rfl) (?_ : jX G jP 99 72 lv [soR 25 q2.1] μ Q)
    rcases sif_or h with ⟨e4, h⟩ | ⟨a4, e4, h⟩
    · rw [soR_none (t := 25) e4]
      rw [soR_none (t := 25) e4] at l5
      refine jX.go (by rfl) (by rfl) (by rfl) (?_ : jX G jP 99 85 lv [] μ Q)
      refine jX.lrn l3 (by rfl) (by rfl) (?_ : jX G jP 99 86 lv [.ref (spl 29 v3.1 v3.2)] μ Q)
      refine jX.go (by rfl) (by rfl) (by rfl) (?_ : jX G jP 99 87 lv [.long 0, .ref (spl 29 v3.1 v3.2)] μ Q)
      refine jX.ic (v := nI 0) (n := 1) (by rfl) (by rfl) (by decide) (?_ : jX G jP 99 88 lv [.int (nI 0), .long 0, .ref (spl 29 v3.1 v3.2)] μ Q)
      obtain ⟨g5, h⟩ := jif_some h
      obtain ⟨q6, e6, h⟩ := sbd h
      refine jX.cv (by rfl) (by rfl) (by rfl) (by rfl) (by rfl) (by rfl) (by rfl) (R.rec g5 (by rfl)) (Nat.le_of_ble_eq_true rfl) (Nat.le_of_ble_eq_true rfl) (F_78_ok R e6 (fun μ R => ⟨rfl, (?_ : jX G jP 99 91 lv [] μ Q)⟩))
      refine jX.ic (v := nI 0) (n := 1) (by rfl) (by rfl) (by decide) (?_ : jX G jP 99 92 lv [.int (nI 0)] μ Q)
      exact jX.ret (by rfl) (by rfl) (by rfl) (by rfl) (sretv (f := srI) h K R)
    · rw [soR_some (t := 25) e4]
      rw [soR_some (t := 25) e4] at l5
      refine jX.go (by rfl) (by rfl) (by rfl) (?_ : jX G jP 99 75 lv [] μ Q)
      refine jX.lrn l0 (by rfl) (by rfl) (?_ : jX G jP 99 76 lv [.ref (spl 22 0 0)] μ Q)
      refine jX.lr l5 (by rfl) (by rfl) (?_ : jX G jP 99 78 lv [.ref (spl 25 a4.1 a4.2), .ref (spl 22 0 0)] μ Q)
      refine jX.lin l2 (by rfl) (by rfl) (?_ : jX G jP 99 79 lv [.int v2, .ref (spl 25 a4.1 a4.2), .ref (spl 22 0 0)] μ Q)
      refine jX.lrn l3 (by rfl) (by rfl) (?_ : jX G jP 99 80 lv [.ref (spl 29 v3.1 v3.2), .int v2, .ref (spl 25 a4.1 a4.2), .ref (spl 22 0 0)] μ Q)
      obtain ⟨q7, e7, h⟩ := sbd h
      refine jX.cv (by rfl) (by rfl) (by rfl) (by rfl) (by rfl) (by rfl) (by rfl) (R.rec (by rfl) (by rfl)) (Nat.le_of_ble_eq_true rfl) (Nat.le_of_ble_eq_true rfl) (F_98_ok R e7 (fun μ R => ⟨rfl, (?_ : jX G jP 99 83 lv [] μ Q)⟩))
      refine jX.ic (v := nI 1) (n := 1) (by rfl) (by rfl) (by decide) (?_ : jX G jP 99 84 lv [.int (nI 1)] μ Q)
      exact jX.ret (by rfl) (by rfl) (by rfl) (by rfl) (sretv (f := srI) h K R)
  · refine jX.b1f hc (by rfl) (by rfl) (by rfl) (?_ : jX G jP 99 23 lv [] μ Q)
    refine jX.lrn l3 (by rfl) (by rfl) (?_ : jX G jP 99 24 lv [.ref (spl 29 v3.1 v3.2)] μ Q)
    refine jX.lr l4 (by rfl) (by rfl) (?_ : jX G jP 99 26 lv [.ref (spl 29 v1.1 4), .ref (spl 29 v3.1 v3.2)] μ Q)
    refine jX.ic (v := nI 0) (n := 1) (by rfl) (by rfl) (by decide) (?_ : jX G jP 99 27 lv [.int (nI 0), .ref (spl 29 v1.1 4), .ref (spl 29 v3.1 v3.2)] μ Q)
    obtain ⟨q8, e8, h⟩ := sbd h
    refine jX.c1 (v := .long q8.1) (by rfl) (by rfl) (by rfl) (by rfl) (by rfl) (by rfl) (by rfl) (R.rec g3 (by rfl)) (Nat.le_of_ble_eq_true rfl) (Nat.le_of_ble_eq_true rfl) (F_26_ok R e8 (fun μ R => ⟨rfl, (?_ : jX G jP 99 30 lv [.long q8.1, .ref (spl 29 v3.1 v3.2)] μ Q)⟩))
    refine jX.lr l4 (by rfl) (by rfl) (?_ : jX G jP 99 32 lv [.ref (spl 29 v1.1 4), .long q8.1, .ref (spl 29 v3.1 v3.2)] μ Q)
    refine jX.ic (v := nI 0) (n := 1) (by rfl) (by rfl) (by decide) (?_ : jX G jP 99 33 lv [.int (nI 0), .ref (spl 29 v1.1 4), .long q8.1, .ref (spl 29 v3.1 v3.2)] μ Q)
    obtain ⟨g9, h⟩ := jif_some h
    obtain ⟨q10, e10, h⟩ := sbd h
    refine jX.c1 (v := .int q10.1) (by rfl) (by rfl) (by rfl) (by rfl) (by rfl) (by rfl) (by rfl) (R.rec g9 (by rfl)) (Nat.le_of_ble_eq_true rfl) (Nat.le_of_ble_eq_true rfl) (F_27_ok R e10 (fun μ R => ⟨rfl, (?_ : jX G jP 99 36 lv [.int q10.1, .long q8.1, .ref (spl 29 v3.1 v3.2)] μ Q)⟩))
    obtain ⟨g11, h⟩ := jif_some h
    obtain ⟨q12, e12, h⟩ := sbd h
    refine jX.cv (by rfl) (by rfl) (by rfl) (by rfl) (by rfl) (by rfl) (by rfl) (R.rec g11 (by rfl)) (Nat.le_of_ble_eq_true rfl) (Nat.le_of_ble_eq_true rfl) (F_78_ok R e12 (fun μ R => ⟨rfl, (?_ : jX G jP 99 39 lv [] μ Q)⟩))
    refine jX.lrn l0 (by rfl) (by rfl) (?_ : jX G jP 99 40 lv [.ref (spl 22 0 0)] μ Q)
    refine jX.sg R (by rfl) (by rfl) (by rfl) (by rfl) (by rfl) (by rfl) (?_ : jX G jP 99 43 lv [.ref (spl 11 0 0)] μ Q)
    refine jX.lr l4 (by rfl) (by rfl) (?_ : jX G jP 99 45 lv [.ref (spl 29 v1.1 4), .ref (spl 11 0 0)] μ Q)
    refine jX.ic (v := nI 0) (n := 1) (by rfl) (by rfl) (by decide) (?_ : jX G jP 99 46 lv [.int (nI 0), .ref (spl 29 v1.1 4), .ref (spl 11 0 0)] μ Q)
    obtain ⟨q13, e13, h⟩ := sbd h
    refine jX.cv (by rfl) (by rfl) (by rfl) (by rfl) (by rfl) (by rfl) (by rfl) (R.rec (by rfl) (by rfl)) (Nat.le_of_ble_eq_true rfl) (Nat.le_of_ble_eq_true rfl) (F_96_ok R e13 (fun μ R => ⟨rfl, (?_ : jX G jP 99 49 lv [] μ Q)⟩))
    refine jX.lr l4 (by rfl) (by rfl) (?_ : jX G jP 99 51 lv [.ref (spl 29 v1.1 4)] μ Q)
    obtain ⟨g14, h⟩ := jif_some h
    obtain ⟨q15, e15, h⟩ := sbd h
    refine jX.cv (by rfl) (by rfl) (by rfl) (by rfl) (by rfl) (by rfl) (by rfl) (R.rec g14 (by rfl)) (Nat.le_of_ble_eq_true rfl) (Nat.le_of_ble_eq_true rfl) (F_97_ok R e15 (fun μ R => ⟨rfl, (?_ : jX G jP 99 54 lv [] μ Q)⟩))
    refine jX.lo l5 (by rfl) (by rfl) (?_ : jX G jP 99 56 lv [soR 25 q2.1] μ Q)
    rcases sif_or h with ⟨e16, h⟩ | ⟨a16, e16, h⟩
    · rw [soR_none (t := 25) e16]
      rw [soR_none (t := 25) e16] at l5
      refine jX.go (by rfl) (by rfl) (by rfl) (?_ : jX G jP 99 68 lv [] μ Q)
      refine jX.ic (v := nI 1) (n := 1) (by rfl) (by rfl) (by decide) (?_ : jX G jP 99 69 lv [.int (nI 1)] μ Q)
      exact jX.ret (by rfl) (by rfl) (by rfl) (by rfl) (sretv (f := srI) h K R)
    · rw [soR_some (t := 25) e16]
      rw [soR_some (t := 25) e16] at l5
      refine jX.go (by rfl) (by rfl) (by rfl) (?_ : jX G jP 99 59 lv [] μ Q)
      refine jX.lrn l0 (by rfl) (by rfl) (?_ : jX G jP 99 60 lv [.ref (spl 22 0 0)] μ Q)
      refine jX.lr l5 (by rfl) (by rfl) (?_ : jX G jP 99 62 lv [.ref (spl 25 a16.1 a16.2), .ref (spl 22 0 0)] μ Q)
      refine jX.lin l2 (by rfl) (by rfl) (?_ : jX G jP 99 63 lv [.int v2, .ref (spl 25 a16.1 a16.2), .ref (spl 22 0 0)] μ Q)
      refine jX.lr l4 (by rfl) (by rfl) (?_ : jX G jP 99 65 lv [.ref (spl 29 v1.1 4), .int v2, .ref (spl 25 a16.1 a16.2), .ref (spl 22 0 0)] μ Q)
      obtain ⟨q17, e17, h⟩ := sbd h
      refine jX.cv (by rfl) (by rfl) (by rfl) (by rfl) (by rfl) (by rfl) (by rfl) (R.rec (by rfl) (by rfl)) (Nat.le_of_ble_eq_true rfl) (Nat.le_of_ble_eq_true rfl) (F_98_ok R e17 (fun μ R => ⟨rfl, (?_ : jX G jP 99 68 lv [] μ Q)⟩))
      refine jX.ic (v := nI 1) (n := 1) (by rfl) (by rfl) (by decide) (?_ : jX G jP 99 69 lv [.int (nI 1)] μ Q)
      exact jX.ret (by rfl) (by rfl) (by rfl) (by rfl) (sretv (f := srI) h K R)
/-! 100 StrandRuntime$Channels.receive(LStrandRuntime$Strand;LStrandRuntime$Row;)I -/
def F_100_72 (G : jG) (t : Nat) (v1 : (Nat × Nat)) (S : sS) : Option (Int32 × sS) := (F_93 G t v1 (nI 3) (nI 0) S).bind (fun q1 => some ((nI 0), q1.2))
theorem F_100_72_ok {G : jG} {t : Nat} {r : Int32} {S' : sS} {Q : Option Value ⊕ Nat → jS → Prop} (K : ∀ μ', sR S' μ' → Q (srI r) μ') : ∀ (v1 : (Nat × Nat)) (S : sS) (lv : jL) (μ : jS), jld lv 0 = some (.ref (spl 22 0 0)) → jld lv 1 = some (.ref (spl 25 v1.1 v1.2)) → sR S μ → F_100_72 G t v1 S = some (r, S') → jX G jP 100 72 lv [] μ Q := by
  intro v1 S lv μ l0 l1 R h
  unfold F_100_72 at h
  refine jX.lrn l0 (by rfl) (by rfl) (?_ : jX G jP 100 73 lv [.ref (spl 22 0 0)] μ Q)
  refine jX.sg R (by rfl) (by rfl) (by rfl) (by rfl) (by rfl) (by rfl) (?_ : jX G jP 100 76 lv [.ref (spl 8 0 0)] μ Q)
  refine jX.lrn l1 (by rfl) (by rfl) (?_ : jX G jP 100 77 lv [.ref (spl 25 v1.1 v1.2), .ref (spl 8 0 0)] μ Q)
  refine jX.ic (v := nI 3) (n := 1) (by rfl) (by rfl) (by decide) (?_ : jX G jP 100 78 lv [.int (nI 3), .ref (spl 25 v1.1 v1.2), .ref (spl 8 0 0)] μ Q)
  refine jX.ic (v := nI 0) (n := 1) (by rfl) (by rfl) (by decide) (?_ : jX G jP 100 79 lv [.int (nI 0), .int (nI 3), .ref (spl 25 v1.1 v1.2), .ref (spl 8 0 0)] μ Q)
  obtain ⟨q1, e1, h⟩ := sbd h
  refine jX.cv (by rfl) (by rfl) (by rfl) (by rfl) (by rfl) (by rfl) (by rfl) (R.rec (by rfl) (by rfl)) (Nat.le_of_ble_eq_true rfl) (Nat.le_of_ble_eq_true rfl) (F_93_ok R e1 (fun μ R => ⟨rfl, (?_ : jX G jP 100 82 lv [] μ Q)⟩))
  refine jX.ic (v := nI 0) (n := 1) (by rfl) (by rfl) (by decide) (?_ : jX G jP 100 83 lv [.int (nI 0)] μ Q)
  exact jX.ret (by rfl) (by rfl) (by rfl) (by rfl) (sretv (f := srI) h K R)
def F_100_35 (G : jG) (t : Nat) (v1 : (Nat × Nat)) (v2 : (Nat × Nat)) (v3 : Int32) (v4 : (Option (Nat × Nat))) (S : sS) : Option (Int32 × sS) := sif v4 (F_100_72 G t v1 S) (fun a1 => (F_95 G t a1 v3 S).bind (fun q2 => bif jcmp .eq q2.1 0 then (F_100_72 G t v1 q2.2) else (jif (sex q2.2.2.2.2.1 29 v2.1 v2.2) ((F_76 G t v2 (nI 1) q2.2).bind (fun q4 => (F_99 G t a1 v3 v2 q4.2).bind (fun q5 => jif (sex q5.2.2.2.2.1 29 v2.1 v2.2) ((F_78 G t v2 q5.1.toInt64 (nI 0) q5.2).bind (fun q7 => some ((nI 0), q7.2)))))))))
theorem F_100_35_ok {G : jG} {t : Nat} {r : Int32} {S' : sS} {Q : Option Value ⊕ Nat → jS → Prop} (K : ∀ μ', sR S' μ' → Q (srI r) μ') : ∀ (v1 : (Nat × Nat)) (v2 : (Nat × Nat)) (v3 : Int32) (v4 : (Option (Nat × Nat))) (S : sS) (lv : jL) (μ : jS), jld lv 0 = some (.ref (spl 22 0 0)) → jld lv 1 = some (.ref (spl 25 v1.1 v1.2)) → jld lv 2 = some (.ref (spl 29 v2.1 v2.2)) → jld lv 3 = some (.int v3) → jld lv 4 = some (soR 32 v4) → sR S μ → F_100_35 G t v1 v2 v3 v4 S = some (r, S') → jX G jP 100 35 lv [] μ Q := by
  intro v1 v2 v3 v4 S lv μ l0 l1 l2 l3 l4 R h
  unfold F_100_35 at h
  refine jX.lo l4 (by rfl) (by rfl) (?_ : jX G jP 100 37 lv [soR 32 v4] μ Q)
  rcases sif_or h with ⟨e1, h⟩ | ⟨a1, e1, h⟩
  · rw [soR_none (t := 32) e1]
    rw [soR_none (t := 32) e1] at l4
    refine jX.go (by rfl) (by rfl) (by rfl) (?_ : jX G jP 100 72 lv [] μ Q)
    exact F_100_72_ok  K v1 _ _ _ l0 l1 R h
  · rw [soR_some (t := 32) e1]
    rw [soR_some (t := 32) e1] at l4
    refine jX.go (by rfl) (by rfl) (by rfl) (?_ : jX G jP 100 40 lv [] μ Q)
    refine jX.lrn l0 (by rfl) (by rfl) (?_ : jX G jP 100 41 lv [.ref (spl 22 0 0)] μ Q)
    refine jX.lr l4 (by rfl) (by rfl) (?_ : jX G jP 100 43 lv [.ref (spl 32 a1.1 a1.2), .ref (spl 22 0 0)] μ Q)
    refine jX.lin l3 (by rfl) (by rfl) (?_ : jX G jP 100 44 lv [.int v3, .ref (spl 32 a1.1 a1.2), .ref (spl 22 0 0)] μ Q)
    obtain ⟨q2, e2, h⟩ := sbd h
    refine jX.c1 (v := .int q2.1) (by rfl) (by rfl) (by rfl) (by rfl) (by rfl) (by rfl) (by rfl) (R.rec (by rfl) (by rfl)) (Nat.le_of_ble_eq_true rfl) (Nat.le_of_ble_eq_true rfl) (F_95_ok R e2 (fun μ R => ⟨rfl, (?_ : jX G jP 100 47 lv [.int q2.1] μ Q)⟩))
    rcases bif_or h with ⟨hc, h⟩ | ⟨hc, h⟩
    · refine jX.b1t hc (by rfl) (by rfl) (by rfl) (?_ : jX G jP 100 72 lv [] μ Q)
      exact F_100_72_ok  K v1 _ _ _ l0 l1 R h
    · refine jX.b1f hc (by rfl) (by rfl) (by rfl) (?_ : jX G jP 100 50 lv [] μ Q)
      refine jX.lrn l2 (by rfl) (by rfl) (?_ : jX G jP 100 51 lv [.ref (spl 29 v2.1 v2.2)] μ Q)
      refine jX.ic (v := nI 1) (n := 1) (by rfl) (by rfl) (by decide) (?_ : jX G jP 100 52 lv [.int (nI 1), .ref (spl 29 v2.1 v2.2)] μ Q)
      obtain ⟨g3, h⟩ := jif_some h
      obtain ⟨q4, e4, h⟩ := sbd h
      refine jX.cv (by rfl) (by rfl) (by rfl) (by rfl) (by rfl) (by rfl) (by rfl) (R.rec g3 (by rfl)) (Nat.le_of_ble_eq_true rfl) (Nat.le_of_ble_eq_true rfl) (F_76_ok R e4 (fun μ R => ⟨rfl, (?_ : jX G jP 100 55 lv [] μ Q)⟩))
      refine jX.lrn l2 (by rfl) (by rfl) (?_ : jX G jP 100 56 lv [.ref (spl 29 v2.1 v2.2)] μ Q)
      refine jX.lrn l0 (by rfl) (by rfl) (?_ : jX G jP 100 57 lv [.ref (spl 22 0 0), .ref (spl 29 v2.1 v2.2)] μ Q)
      refine jX.lr l4 (by rfl) (by rfl) (?_ : jX G jP 100 59 lv [.ref (spl 32 a1.1 a1.2), .ref (spl 22 0 0), .ref (spl 29 v2.1 v2.2)] μ Q)
      refine jX.lin l3 (by rfl) (by rfl) (?_ : jX G jP 100 60 lv [.int v3, .ref (spl 32 a1.1 a1.2), .ref (spl 22 0 0), .ref (spl 29 v2.1 v2.2)] μ Q)
      refine jX.lrn l2 (by rfl) (by rfl) (?_ : jX G jP 100 61 lv [.ref (spl 29 v2.1 v2.2), .int v3, .ref (spl 32 a1.1 a1.2), .ref (spl 22 0 0), .ref (spl 29 v2.1 v2.2)] μ Q)
      obtain ⟨q5, e5, h⟩ := sbd h
      refine jX.c1 (v := .int q5.1) (by rfl) (by rfl) (by rfl) (by rfl) (by rfl) (by rfl) (by rfl) (R.rec (by rfl) (by rfl)) (Nat.le_of_ble_eq_true rfl) (Nat.le_of_ble_eq_true rfl) (F_99_ok R e5 (fun μ R => ⟨rfl, (?_ : jX G jP 100 64 lv [.int q5.1, .ref (spl 29 v2.1 v2.2)] μ Q)⟩))
      refine jX.go (by rfl) (by rfl) (by rfl) (?_ : jX G jP 100 65 lv [.long q5.1.toInt64, .ref (spl 29 v2.1 v2.2)] μ Q)
      refine jX.ic (v := nI 0) (n := 1) (by rfl) (by rfl) (by decide) (?_ : jX G jP 100 66 lv [.int (nI 0), .long q5.1.toInt64, .ref (spl 29 v2.1 v2.2)] μ Q)
      obtain ⟨g6, h⟩ := jif_some h
      obtain ⟨q7, e7, h⟩ := sbd h
      refine jX.cv (by rfl) (by rfl) (by rfl) (by rfl) (by rfl) (by rfl) (by rfl) (R.rec g6 (by rfl)) (Nat.le_of_ble_eq_true rfl) (Nat.le_of_ble_eq_true rfl) (F_78_ok R e7 (fun μ R => ⟨rfl, (?_ : jX G jP 100 69 lv [] μ Q)⟩))
      refine jX.go (by rfl) (by rfl) (by rfl) (?_ : jX G jP 100 82 lv [] μ Q)
      refine jX.ic (v := nI 0) (n := 1) (by rfl) (by rfl) (by decide) (?_ : jX G jP 100 83 lv [.int (nI 0)] μ Q)
      exact jX.ret (by rfl) (by rfl) (by rfl) (by rfl) (sretv (f := srI) h K R)
def F_100 (G : jG) (t : Nat) (v1 : (Nat × Nat)) (v2 : (Nat × Nat)) (S : sS) : Option (Int32 × sS) := jif (sex S.2.2.2.1 29 v2.1 v2.2) ((F_27 G t v2 ((S.1 29 v2.1 v2.2 2) - (nI 1)) S).bind (fun q2 => (F_87 G t q2.1 (nI 3) q2.2).bind (fun q3 => sif q3.1 (bif jcmp .eq q2.1 (nI 1) then (F_100_35 G t v1 v2 q2.1 none q3.2) else (some ((-2), q3.2))) (fun a4 => F_100_35 G t v1 v2 q2.1 (some (a4.1, a4.2)) q3.2))))
theorem F_100_ok {G : jG} {t : Nat} {v1 : (Nat × Nat)} {v2 : (Nat × Nat)} {S : sS} {r : Int32} {S' : sS} {μ : jS} {Q : Option Value ⊕ Nat → jS → Prop} (R : sR S μ) (h : F_100 G t v1 v2 S = some (r, S')) (K : ∀ μ', sR S' μ' → Q (srI r) μ') : jX G jP 100 0 (lv_args 0 [.ref (spl 22 0 0), .ref (spl 25 v1.1 v1.2), .ref (spl 29 v2.1 v2.2)]) [] μ Q := by
  unfold F_100 at h
  have l0 : jld (lv_args 0 [.ref (spl 22 0 0), .ref (spl 25 v1.1 v1.2), .ref (spl 29 v2.1 v2.2)]) 0 = some (.ref (spl 22 0 0)) := by rfl
  have l1 : jld (lv_args 0 [.ref (spl 22 0 0), .ref (spl 25 v1.1 v1.2), .ref (spl 29 v2.1 v2.2)]) 1 = some (.ref (spl 25 v1.1 v1.2)) := by rfl
  have l2 : jld (lv_args 0 [.ref (spl 22 0 0), .ref (spl 25 v1.1 v1.2), .ref (spl 29 v2.1 v2.2)]) 2 = some (.ref (spl 29 v2.1 v2.2)) := by rfl
  generalize lv_args 0 [.ref (spl 22 0 0), .ref (spl 25 v1.1 v1.2), .ref (spl 29 v2.1 v2.2)] = lv at *
  refine jX.lrn l2 (by rfl) (by rfl) (?_ : jX G jP 100 1 lv [.ref (spl 29 v2.1 v2.2)] μ Q)
  refine jX.lrn l2 (by rfl) (by rfl) (?_ : jX G jP 100 2 lv [.ref (spl 29 v2.1 v2.2), .ref (spl 29 v2.1 v2.2)] μ Q)
  obtain ⟨g1, h⟩ := jif_some h
  refine jX.sg R g1 (by rfl) (by rfl) (by rfl) (by rfl) (by rfl) (?_ : jX G jP 100 5 lv [.int (S.1 29 v2.1 v2.2 2), .ref (spl 29 v2.1 v2.2)] μ Q)
  refine jX.ic (v := nI 1) (n := 1) (by rfl) (by rfl) (by decide) (?_ : jX G jP 100 6 lv [.int (nI 1), .int (S.1 29 v2.1 v2.2 2), .ref (spl 29 v2.1 v2.2)] μ Q)
  refine jX.go (by rfl) (by rfl) (by rfl) (?_ : jX G jP 100 7 lv [.int ((S.1 29 v2.1 v2.2 2) - (nI 1)), .ref (spl 29 v2.1 v2.2)] μ Q)
  obtain ⟨q2, e2, h⟩ := sbd h
  refine jX.c1 (v := .int q2.1) (by rfl) (by rfl) (by rfl) (by rfl) (by rfl) (by rfl) (by rfl) (R.rec g1 (by rfl)) (Nat.le_of_ble_eq_true rfl) (Nat.le_of_ble_eq_true rfl) (F_27_ok R e2 (fun μ R => ⟨rfl, (?_ : jX G jP 100 10 lv [.int q2.1] μ Q)⟩))
  refine jX.s1 (k := 3) (pc' := 11) (by rfl) (by rfl) (by rfl) (fun lv l3 kp => (?_ : jX G jP 100 11 lv [] μ Q))
  replace l0 := kp 0 _ l0 (by rfl) (by first | rfl | simp [soR_cat])
  replace l1 := kp 1 _ l1 (by rfl) (by first | rfl | simp [soR_cat])
  replace l2 := kp 2 _ l2 (by rfl) (by first | rfl | simp [soR_cat])
  refine jX.lrn l0 (by rfl) (by rfl) (?_ : jX G jP 100 12 lv [.ref (spl 22 0 0)] μ Q)
  refine jX.sg R (by rfl) (by rfl) (by rfl) (by rfl) (by rfl) (by rfl) (?_ : jX G jP 100 15 lv [.ref (spl 11 0 0)] μ Q)
  refine jX.lin l3 (by rfl) (by rfl) (?_ : jX G jP 100 16 lv [.int q2.1, .ref (spl 11 0 0)] μ Q)
  refine jX.ic (v := nI 3) (n := 1) (by rfl) (by rfl) (by decide) (?_ : jX G jP 100 17 lv [.int (nI 3), .int q2.1, .ref (spl 11 0 0)] μ Q)
  obtain ⟨q3, e3, h⟩ := sbd h
  refine jX.c1 (v := soR 32 q3.1) (by rfl) (by rfl) (by rfl) (by rfl) (by rfl) (by rfl) (by rfl) (R.rec (by rfl) (by rfl)) (Nat.le_of_ble_eq_true rfl) (Nat.le_of_ble_eq_true rfl) (F_87_ok R e3 (fun μ R => ⟨rfl, (?_ : jX G jP 100 20 lv [soR 32 q3.1] μ Q)⟩))
  refine jX.so (k := 4) (pc' := 22) (by rfl) (by rfl) (fun _ => by rfl) (by rfl) (fun lv l4 kp => (?_ : jX G jP 100 22 lv [] μ Q))
  replace l0 := kp 0 _ l0 (by rfl) (by first | rfl | simp [soR_cat])
  replace l1 := kp 1 _ l1 (by rfl) (by first | rfl | simp [soR_cat])
  replace l2 := kp 2 _ l2 (by rfl) (by first | rfl | simp [soR_cat])
  replace l3 := kp 3 _ l3 (by rfl) (by first | rfl | simp [soR_cat])
  refine jX.lo l4 (by rfl) (by rfl) (?_ : jX G jP 100 24 lv [soR 32 q3.1] μ Q)
  rcases sif_or h with ⟨e4, h⟩ | ⟨a4, e4, h⟩
  · rw [soR_none (t := 32) e4]
    rw [soR_none (t := 32) e4] at l4
    refine jX.go (by rfl) (by rfl) (by rfl) (?_ : jX G jP 100 27 lv [] μ Q)
    refine jX.lin l3 (by rfl) (by rfl) (?_ : jX G jP 100 28 lv [.int q2.1] μ Q)
    refine jX.ic (v := nI 1) (n := 1) (by rfl) (by rfl) (by decide) (?_ : jX G jP 100 29 lv [.int (nI 1), .int q2.1] μ Q)
    rcases bif_or h with ⟨hc, h⟩ | ⟨hc, h⟩
    · refine jX.b2t hc (by rfl) (by rfl) (by rfl) (?_ : jX G jP 100 35 lv [] μ Q)
      exact F_100_35_ok  K v1 v2 q2.1 none _ _ _ l0 l1 l2 l3 l4 R h
    · refine jX.b2f hc (by rfl) (by rfl) (by rfl) (?_ : jX G jP 100 32 lv [] μ Q)
      refine jX.ic (v := (-2)) (n := 2) (by rfl) (by rfl) (by decide) (?_ : jX G jP 100 34 lv [.int (-2)] μ Q)
      exact jX.ret (by rfl) (by rfl) (by rfl) (by rfl) (sretv (f := srI) h K R)
  · rw [soR_some (t := 32) e4]
    rw [soR_some (t := 32) e4] at l4
    refine jX.go (by rfl) (by rfl) (by rfl) (?_ : jX G jP 100 35 lv [] μ Q)
    exact F_100_35_ok  K v1 v2 q2.1 (some (a4.1, a4.2)) _ _ _ l0 l1 l2 l3 l4 R h
/-! 101 StrandRuntime$Channels.endsWaitByPanic(LStrandRuntime$Strand;I)Z -/
def F_101_129 (G : jG) (t : Nat) (v7 : Int32) (w0 : Int64) (w1 : (Nat × Nat)) (S : sS) : Option (Int32 × sS) := jif (sex S.2.2.2.1 29 w1.1 w1.2) ((F_78 G t w1 w0 (nI 0) S).bind (fun q2 => jif (jfit 1 (.int v7)) (some (v7, q2.2))))
theorem F_101_129_ok {G : jG} {t : Nat} {r : Int32} {S' : sS} {Q : Option Value ⊕ Nat → jS → Prop} (K : ∀ μ', sR S' μ' → Q (srI r) μ') : ∀ (v7 : Int32) (w0 : Int64) (w1 : (Nat × Nat)) (S : sS) (lv : jL) (μ : jS), jld lv 7 = some (.int v7) → sR S μ → F_101_129 G t v7 w0 w1 S = some (r, S') → jX G jP 101 129 lv [.long w0, .ref (spl 29 w1.1 w1.2)] μ Q := by
  intro v7 w0 w1 S lv μ l7 R h
  unfold F_101_129 at h
  refine jX.ic (v := nI 0) (n := 1) (by rfl) (by rfl) (by decide) (?_ : jX G jP 101 130 lv [.int (nI 0), .long w0, .ref (spl 29 w1.1 w1.2)] μ Q)
  obtain ⟨g1, h⟩ := jif_some h
  obtain ⟨q2, e2, h⟩ := sbd h
  refine jX.cv (by rfl) (by rfl) (by rfl) (by rfl) (by rfl) (by rfl) (by rfl) (R.rec g1 (by rfl)) (Nat.le_of_ble_eq_true rfl) (Nat.le_of_ble_eq_true rfl) (F_78_ok R e2 (fun μ R => ⟨rfl, (?_ : jX G jP 101 133 lv [] μ Q)⟩))
  refine jX.li l7 (by rfl) (by rfl) (?_ : jX G jP 101 135 lv [.int v7] μ Q)
  obtain ⟨g3, h⟩ := jif_some h
  exact jX.ret (by rfl) (by rfl) (by rfl) (jret_b g3) (sretv (f := srI) h K R)
def F_101_89 (G : jG) (t : Nat) (v1 : (Nat × Nat)) (v4 : (Nat × Nat)) (v5 : Int32) (v6 : Int32) (w0 : Int32) (S : sS) : Option (Int32 × sS) := (F_91 G t v1 v4 S).bind (fun q1 => jif (sex q1.2.2.2.2.1 25 v1.1 v1.2) (bif jcmp .ne w0 0 then (jif (jfit 1 (.int w0)) (some (w0, (siI q1.2 25 v1.1 v1.2 4 (nI 1))))) else (jif (sex (siI q1.2 25 v1.1 v1.2 4 (nI 1)).2.2.2.1 29 v4.1 v4.2) ((F_78 G t v4 0 (nI 0) (siI q1.2 25 v1.1 v1.2 4 (nI 1))).bind (fun q5 => bif jcmp .eq v6 0 then (F_101_129 G t w0 0 v4 q5.2) else (F_101_129 G t w0 v5.toInt64 v4 q5.2))))))
theorem F_101_89_ok {G : jG} {t : Nat} {r : Int32} {S' : sS} {Q : Option Value ⊕ Nat → jS → Prop} (K : ∀ μ', sR S' μ' → Q (srI r) μ') : ∀ (v1 : (Nat × Nat)) (v4 : (Nat × Nat)) (v5 : Int32) (v6 : Int32) (w0 : Int32) (S : sS) (lv : jL) (μ : jS), jld lv 0 = some (.ref (spl 22 0 0)) → jld lv 1 = some (.ref (spl 25 v1.1 v1.2)) → jld lv 4 = some (.ref (spl 29 v4.1 v4.2)) → jld lv 5 = some (.int v5) → jld lv 6 = some (.int v6) → sR S μ → F_101_89 G t v1 v4 v5 v6 w0 S = some (r, S') → jX G jP 101 89 lv [.int w0] μ Q := by
  intro v1 v4 v5 v6 w0 S lv μ l0 l1 l4 l5 l6 R h
  unfold F_101_89 at h
  refine jX.s1 (k := 7) (pc' := 91) (by rfl) (by rfl) (by rfl) (fun lv l7 kp => (?_ : jX G jP 101 91 lv [] μ Q))
  replace l0 := kp 0 _ l0 (by rfl) (by first | rfl | simp [soR_cat])
  replace l1 := kp 1 _ l1 (by rfl) (by first | rfl | simp [soR_cat])
  replace l4 := kp 4 _ l4 (by rfl) (by first | rfl | simp [soR_cat])
  replace l5 := kp 5 _ l5 (by rfl) (by first | rfl | simp [soR_cat])
  replace l6 := kp 6 _ l6 (by rfl) (by first | rfl | simp [soR_cat])
  refine jX.lrn l0 (by rfl) (by rfl) (?_ : jX G jP 101 92 lv [.ref (spl 22 0 0)] μ Q)
  refine jX.lrn l1 (by rfl) (by rfl) (?_ : jX G jP 101 93 lv [.ref (spl 25 v1.1 v1.2), .ref (spl 22 0 0)] μ Q)
  refine jX.lr l4 (by rfl) (by rfl) (?_ : jX G jP 101 95 lv [.ref (spl 29 v4.1 v4.2), .ref (spl 25 v1.1 v1.2), .ref (spl 22 0 0)] μ Q)
  obtain ⟨q1, e1, h⟩ := sbd h
  refine jX.cv (by rfl) (by rfl) (by rfl) (by rfl) (by rfl) (by rfl) (by rfl) (R.rec (by rfl) (by rfl)) (Nat.le_of_ble_eq_true rfl) (Nat.le_of_ble_eq_true rfl) (F_91_ok R e1 (fun μ R => ⟨rfl, (?_ : jX G jP 101 98 lv [] μ Q)⟩))
  refine jX.lrn l1 (by rfl) (by rfl) (?_ : jX G jP 101 99 lv [.ref (spl 25 v1.1 v1.2)] μ Q)
  refine jX.ic (v := nI 1) (n := 1) (by rfl) (by rfl) (by decide) (?_ : jX G jP 101 100 lv [.int (nI 1), .ref (spl 25 v1.1 v1.2)] μ Q)
  obtain ⟨g2, h⟩ := jif_some h
  refine jX.spI R g2 (by rfl) (by rfl) (by rfl) (by rfl) (by rfl) (by rfl) (by rfl) (by rfl) (fun μ R => (?_ : jX G jP 101 103 lv [] μ Q))
  refine jX.li l7 (by rfl) (by rfl) (?_ : jX G jP 101 105 lv [.int w0] μ Q)
  rcases bif_or h with ⟨hc, h⟩ | ⟨hc, h⟩
  · refine jX.b1t hc (by rfl) (by rfl) (by rfl) (?_ : jX G jP 101 133 lv [] μ Q)
    refine jX.li l7 (by rfl) (by rfl) (?_ : jX G jP 101 135 lv [.int w0] μ Q)
    obtain ⟨g3, h⟩ := jif_some h
    exact jX.ret (by rfl) (by rfl) (by rfl) (jret_b g3) (sretv (f := srI) h K R)
  · refine jX.b1f hc (by rfl) (by rfl) (by rfl) (?_ : jX G jP 101 108 lv [] μ Q)
    refine jX.lr l4 (by rfl) (by rfl) (?_ : jX G jP 101 110 lv [.ref (spl 29 v4.1 v4.2)] μ Q)
    refine jX.go (by rfl) (by rfl) (by rfl) (?_ : jX G jP 101 111 lv [.long 0, .ref (spl 29 v4.1 v4.2)] μ Q)
    refine jX.ic (v := nI 0) (n := 1) (by rfl) (by rfl) (by decide) (?_ : jX G jP 101 112 lv [.int (nI 0), .long 0, .ref (spl 29 v4.1 v4.2)] μ Q)
    obtain ⟨g4, h⟩ := jif_some h
    obtain ⟨q5, e5, h⟩ := sbd h
    refine jX.cv (by rfl) (by rfl) (by rfl) (by rfl) (by rfl) (by rfl) (by rfl) (R.rec g4 (by rfl)) (Nat.le_of_ble_eq_true rfl) (Nat.le_of_ble_eq_true rfl) (F_78_ok R e5 (fun μ R => ⟨rfl, (?_ : jX G jP 101 115 lv [] μ Q)⟩))
    refine jX.lr l4 (by rfl) (by rfl) (?_ : jX G jP 101 117 lv [.ref (spl 29 v4.1 v4.2)] μ Q)
    refine jX.li l6 (by rfl) (by rfl) (?_ : jX G jP 101 119 lv [.int v6, .ref (spl 29 v4.1 v4.2)] μ Q)
    rcases bif_or h with ⟨hc, h⟩ | ⟨hc, h⟩
    · refine jX.b1t hc (by rfl) (by rfl) (by rfl) (?_ : jX G jP 101 128 lv [.ref (spl 29 v4.1 v4.2)] μ Q)
      refine jX.go (by rfl) (by rfl) (by rfl) (?_ : jX G jP 101 129 lv [.long 0, .ref (spl 29 v4.1 v4.2)] μ Q)
      exact F_101_129_ok  K w0 0 v4 _ _ _ l7 R h
    · refine jX.b1f hc (by rfl) (by rfl) (by rfl) (?_ : jX G jP 101 122 lv [.ref (spl 29 v4.1 v4.2)] μ Q)
      refine jX.li l5 (by rfl) (by rfl) (?_ : jX G jP 101 124 lv [.int v5, .ref (spl 29 v4.1 v4.2)] μ Q)
      refine jX.go (by rfl) (by rfl) (by rfl) (?_ : jX G jP 101 125 lv [.long v5.toInt64, .ref (spl 29 v4.1 v4.2)] μ Q)
      refine jX.go (by rfl) (by rfl) (by rfl) (?_ : jX G jP 101 129 lv [.long v5.toInt64, .ref (spl 29 v4.1 v4.2)] μ Q)
      exact F_101_129_ok  K w0 v5.toInt64 v4 _ _ _ l7 R h
def F_101_40 (G : jG) (t : Nat) (v1 : (Nat × Nat)) (v4 : (Nat × Nat)) (v5 : Int32) (w0 : Int32) (S : sS) : Option (Int32 × sS) := bif jcmp .eq w0 0 then (jif (sex S.2.2.2.1 25 v1.1 v1.2) (bif jcmp .ne (S.1 25 v1.1 v1.2 4) (nI 2) then (F_101_89 G t v1 v4 v5 w0 (nI 0) S) else (F_101_89 G t v1 v4 v5 w0 (nI 1) S))) else ((F_88 G t v1 v4 v5 S).bind (fun q2 => jif (sex q2.2.2.2.2.1 29 v4.1 v4.2) ((F_26 G t v4 (q2.1 + (nI 1)) q2.2).bind (fun q4 => bif jcmp .eq (lg_cmp q4.1 0) 0 then (F_101_89 G t v1 v4 v5 w0 (nI 0) q4.2) else (F_101_89 G t v1 v4 v5 w0 (nI 1) q4.2)))))
theorem F_101_40_ok {G : jG} {t : Nat} {r : Int32} {S' : sS} {Q : Option Value ⊕ Nat → jS → Prop} (K : ∀ μ', sR S' μ' → Q (srI r) μ') : ∀ (v1 : (Nat × Nat)) (v4 : (Nat × Nat)) (v5 : Int32) (w0 : Int32) (S : sS) (lv : jL) (μ : jS), jld lv 0 = some (.ref (spl 22 0 0)) → jld lv 1 = some (.ref (spl 25 v1.1 v1.2)) → jld lv 4 = some (.ref (spl 29 v4.1 v4.2)) → jld lv 5 = some (.int v5) → sR S μ → F_101_40 G t v1 v4 v5 w0 S = some (r, S') → jX G jP 101 40 lv [.int w0] μ Q := by
  intro v1 v4 v5 w0 S lv μ l0 l1 l4 l5 R h
  unfold F_101_40 at h
  refine jX.s1 (k := 6) (pc' := 42) (by rfl) (by rfl) (by rfl) (fun lv l6 kp => (?_ : jX G jP 101 42 lv [] μ Q))
  replace l0 := kp 0 _ l0 (by rfl) (by first | rfl | simp [soR_cat])
  replace l1 := kp 1 _ l1 (by rfl) (by first | rfl | simp [soR_cat])
  replace l4 := kp 4 _ l4 (by rfl) (by first | rfl | simp [soR_cat])
  replace l5 := kp 5 _ l5 (by rfl) (by first | rfl | simp [soR_cat])
  refine jX.li l6 (by rfl) (by rfl) (?_ : jX G jP 101 44 lv [.int w0] μ Q)
  rcases bif_or h with ⟨hc, h⟩ | ⟨hc, h⟩
  · refine jX.b1t hc (by rfl) (by rfl) (by rfl) (?_ : jX G jP 101 76 lv [] μ Q)
    refine jX.lrn l1 (by rfl) (by rfl) (?_ : jX G jP 101 77 lv [.ref (spl 25 v1.1 v1.2)] μ Q)
    obtain ⟨g1, h⟩ := jif_some h
    refine jX.sg R g1 (by rfl) (by rfl) (by rfl) (by rfl) (by rfl) (?_ : jX G jP 101 80 lv [.int (S.1 25 v1.1 v1.2 4)] μ Q)
    refine jX.ic (v := nI 2) (n := 1) (by rfl) (by rfl) (by decide) (?_ : jX G jP 101 81 lv [.int (nI 2), .int (S.1 25 v1.1 v1.2 4)] μ Q)
    rcases bif_or h with ⟨hc, h⟩ | ⟨hc, h⟩
    · refine jX.b2t hc (by rfl) (by rfl) (by rfl) (?_ : jX G jP 101 88 lv [] μ Q)
      refine jX.ic (v := nI 0) (n := 1) (by rfl) (by rfl) (by decide) (?_ : jX G jP 101 89 lv [.int (nI 0)] μ Q)
      exact F_101_89_ok  K v1 v4 v5 w0 (nI 0) _ _ _ l0 l1 l4 l5 l6 R h
    · refine jX.b2f hc (by rfl) (by rfl) (by rfl) (?_ : jX G jP 101 84 lv [] μ Q)
      refine jX.ic (v := nI 1) (n := 1) (by rfl) (by rfl) (by decide) (?_ : jX G jP 101 85 lv [.int (nI 1)] μ Q)
      refine jX.go (by rfl) (by rfl) (by rfl) (?_ : jX G jP 101 89 lv [.int (nI 1)] μ Q)
      exact F_101_89_ok  K v1 v4 v5 w0 (nI 1) _ _ _ l0 l1 l4 l5 l6 R h
  · refine jX.b1f hc (by rfl) (by rfl) (by rfl) (?_ : jX G jP 101 47 lv [] μ Q)
    refine jX.lr l4 (by rfl) (by rfl) (?_ : jX G jP 101 49 lv [.ref (spl 29 v4.1 v4.2)] μ Q)
    refine jX.lrn l0 (by rfl) (by rfl) (?_ : jX G jP 101 50 lv [.ref (spl 22 0 0), .ref (spl 29 v4.1 v4.2)] μ Q)
    refine jX.lrn l1 (by rfl) (by rfl) (?_ : jX G jP 101 51 lv [.ref (spl 25 v1.1 v1.2), .ref (spl 22 0 0), .ref (spl 29 v4.1 v4.2)] μ Q)
    refine jX.lr l4 (by rfl) (by rfl) (?_ : jX G jP 101 53 lv [.ref (spl 29 v4.1 v4.2), .ref (spl 25 v1.1 v1.2), .ref (spl 22 0 0), .ref (spl 29 v4.1 v4.2)] μ Q)
    refine jX.li l5 (by rfl) (by rfl) (?_ : jX G jP 101 55 lv [.int v5, .ref (spl 29 v4.1 v4.2), .ref (spl 25 v1.1 v1.2), .ref (spl 22 0 0), .ref (spl 29 v4.1 v4.2)] μ Q)
    obtain ⟨q2, e2, h⟩ := sbd h
    refine jX.c1 (v := .int q2.1) (by rfl) (by rfl) (by rfl) (by rfl) (by rfl) (by rfl) (by rfl) (R.rec (by rfl) (by rfl)) (Nat.le_of_ble_eq_true rfl) (Nat.le_of_ble_eq_true rfl) (F_88_ok R e2 (fun μ R => ⟨rfl, (?_ : jX G jP 101 58 lv [.int q2.1, .ref (spl 29 v4.1 v4.2)] μ Q)⟩))
    refine jX.ic (v := nI 1) (n := 1) (by rfl) (by rfl) (by decide) (?_ : jX G jP 101 59 lv [.int (nI 1), .int q2.1, .ref (spl 29 v4.1 v4.2)] μ Q)
    refine jX.go (by rfl) (by rfl) (by rfl) (?_ : jX G jP 101 60 lv [.int (q2.1 + (nI 1)), .ref (spl 29 v4.1 v4.2)] μ Q)
    obtain ⟨g3, h⟩ := jif_some h
    obtain ⟨q4, e4, h⟩ := sbd h
    refine jX.c1 (v := .long q4.1) (by rfl) (by rfl) (by rfl) (by rfl) (by rfl) (by rfl) (by rfl) (R.rec g3 (by rfl)) (Nat.le_of_ble_eq_true rfl) (Nat.le_of_ble_eq_true rfl) (F_26_ok R e4 (fun μ R => ⟨rfl, (?_ : jX G jP 101 63 lv [.long q4.1] μ Q)⟩))
    refine jX.go (by rfl) (by rfl) (by rfl) (?_ : jX G jP 101 64 lv [.long 0, .long q4.1] μ Q)
    refine jX.go (by rfl) (by rfl) (by rfl) (?_ : jX G jP 101 65 lv [.int (lg_cmp q4.1 0)] μ Q)
    rcases bif_or h with ⟨hc, h⟩ | ⟨hc, h⟩
    · refine jX.b1t hc (by rfl) (by rfl) (by rfl) (?_ : jX G jP 101 72 lv [] μ Q)
      refine jX.ic (v := nI 0) (n := 1) (by rfl) (by rfl) (by decide) (?_ : jX G jP 101 73 lv [.int (nI 0)] μ Q)
      refine jX.go (by rfl) (by rfl) (by rfl) (?_ : jX G jP 101 89 lv [.int (nI 0)] μ Q)
      exact F_101_89_ok  K v1 v4 v5 w0 (nI 0) _ _ _ l0 l1 l4 l5 l6 R h
    · refine jX.b1f hc (by rfl) (by rfl) (by rfl) (?_ : jX G jP 101 68 lv [] μ Q)
      refine jX.ic (v := nI 1) (n := 1) (by rfl) (by rfl) (by decide) (?_ : jX G jP 101 69 lv [.int (nI 1)] μ Q)
      refine jX.go (by rfl) (by rfl) (by rfl) (?_ : jX G jP 101 89 lv [.int (nI 1)] μ Q)
      exact F_101_89_ok  K v1 v4 v5 w0 (nI 1) _ _ _ l0 l1 l4 l5 l6 R h
def F_101 (G : jG) (t : Nat) (v1 : (Nat × Nat)) (v2 : Int32) (S : sS) : Option (Int32 × sS) := jif (sex S.2.2.2.1 25 v1.1 v1.2) ((F_66 G t v1 S).bind (fun q2 => sif q2.1 (some ((nI 0), q2.2)) (fun a3 => jif (sex q2.2.2.2.2.1 27 a3.1 a3.2) ((F_89 G t v1 v2 (nI 1) (nI 1) q2.2).bind (fun q5 => jif (sex q5.2.2.2.2.1 25 v1.1 v1.2) (bif jcmp .ne (q5.2.1 25 v1.1 v1.2 4) (nI 4) then (F_101_40 G t v1 (a3.1, 1) q5.1 (nI 0) q5.2) else (F_101_40 G t v1 (a3.1, 1) q5.1 (nI 1) q5.2)))))))
theorem F_101_ok {G : jG} {t : Nat} {v1 : (Nat × Nat)} {v2 : Int32} {S : sS} {r : Int32} {S' : sS} {μ : jS} {Q : Option Value ⊕ Nat → jS → Prop} (R : sR S μ) (h : F_101 G t v1 v2 S = some (r, S')) (K : ∀ μ', sR S' μ' → Q (srI r) μ') : jX G jP 101 0 (lv_args 0 [.ref (spl 22 0 0), .ref (spl 25 v1.1 v1.2), .int v2]) [] μ Q := by
  unfold F_101 at h
  have l0 : jld (lv_args 0 [.ref (spl 22 0 0), .ref (spl 25 v1.1 v1.2), .int v2]) 0 = some (.ref (spl 22 0 0)) := by rfl
  have l1 : jld (lv_args 0 [.ref (spl 22 0 0), .ref (spl 25 v1.1 v1.2), .int v2]) 1 = some (.ref (spl 25 v1.1 v1.2)) := by rfl
  have l2 : jld (lv_args 0 [.ref (spl 22 0 0), .ref (spl 25 v1.1 v1.2), .int v2]) 2 = some (.int v2) := by rfl
  generalize lv_args 0 [.ref (spl 22 0 0), .ref (spl 25 v1.1 v1.2), .int v2] = lv at *
  refine jX.lrn l1 (by rfl) (by rfl) (?_ : jX G jP 101 1 lv [.ref (spl 25 v1.1 v1.2)] μ Q)
  obtain ⟨g1, h⟩ := jif_some h
  obtain ⟨q2, e2, h⟩ := sbd h
  refine jX.c1 (v := soR 27 q2.1) (by rfl) (by rfl) (by rfl) (by rfl) (by rfl) (by rfl) (by rfl) (R.rec g1 (by rfl)) (Nat.le_of_ble_eq_true rfl) (Nat.le_of_ble_eq_true rfl) (F_66_ok R e2 (fun μ R => ⟨rfl, (?_ : jX G jP 101 4 lv [soR 27 q2.1] μ Q)⟩))
  refine jX.so (k := 3) (pc' := 5) (by rfl) (by rfl) (fun _ => by rfl) (by rfl) (fun lv l3 kp => (?_ : jX G jP 101 5 lv [] μ Q))
  replace l0 := kp 0 _ l0 (by rfl) (by first | rfl | simp [soR_cat])
  replace l1 := kp 1 _ l1 (by rfl) (by first | rfl | simp [soR_cat])
  replace l2 := kp 2 _ l2 (by rfl) (by first | rfl | simp [soR_cat])
  refine jX.lon l3 (by rfl) (by rfl) (?_ : jX G jP 101 6 lv [soR 27 q2.1] μ Q)
  rcases sif_or h with ⟨e3, h⟩ | ⟨a3, e3, h⟩
  · rw [soR_none (t := 27) e3]
    rw [soR_none (t := 27) e3] at l3
    refine jX.go (by rfl) (by rfl) (by rfl) (?_ : jX G jP 101 9 lv [] μ Q)
    refine jX.ic (v := nI 0) (n := 1) (by rfl) (by rfl) (by decide) (?_ : jX G jP 101 10 lv [.int (nI 0)] μ Q)
    exact jX.ret (by rfl) (by rfl) (by rfl) (by rfl) (sretv (f := srI) h K R)
  · rw [soR_some (t := 27) e3]
    rw [soR_some (t := 27) e3] at l3
    refine jX.go (by rfl) (by rfl) (by rfl) (?_ : jX G jP 101 11 lv [] μ Q)
    refine jX.lrn l3 (by rfl) (by rfl) (?_ : jX G jP 101 12 lv [.ref (spl 27 a3.1 a3.2)] μ Q)
    obtain ⟨g4, h⟩ := jif_some h
    refine jX.sg R g4 (by rfl) (by rfl) (by rfl) (by rfl) (by rfl) (?_ : jX G jP 101 15 lv [.ref (spl 29 a3.1 1)] μ Q)
    refine jX.s1 (k := 4) (pc' := 17) (by rfl) (by rfl) (by rfl) (fun lv l4 kp => (?_ : jX G jP 101 17 lv [] μ Q))
    replace l0 := kp 0 _ l0 (by rfl) (by first | rfl | simp [soR_cat])
    replace l1 := kp 1 _ l1 (by rfl) (by first | rfl | simp [soR_cat])
    replace l2 := kp 2 _ l2 (by rfl) (by first | rfl | simp [soR_cat])
    refine jX.lrn l0 (by rfl) (by rfl) (?_ : jX G jP 101 18 lv [.ref (spl 22 0 0)] μ Q)
    refine jX.lrn l1 (by rfl) (by rfl) (?_ : jX G jP 101 19 lv [.ref (spl 25 v1.1 v1.2), .ref (spl 22 0 0)] μ Q)
    refine jX.lin l2 (by rfl) (by rfl) (?_ : jX G jP 101 20 lv [.int v2, .ref (spl 25 v1.1 v1.2), .ref (spl 22 0 0)] μ Q)
    refine jX.ic (v := nI 1) (n := 1) (by rfl) (by rfl) (by decide) (?_ : jX G jP 101 21 lv [.int (nI 1), .int v2, .ref (spl 25 v1.1 v1.2), .ref (spl 22 0 0)] μ Q)
    refine jX.ic (v := nI 1) (n := 1) (by rfl) (by rfl) (by decide) (?_ : jX G jP 101 22 lv [.int (nI 1), .int (nI 1), .int v2, .ref (spl 25 v1.1 v1.2), .ref (spl 22 0 0)] μ Q)
    obtain ⟨q5, e5, h⟩ := sbd h
    refine jX.c1 (v := .int q5.1) (by rfl) (by rfl) (by rfl) (by rfl) (by rfl) (by rfl) (by rfl) (R.rec (by rfl) (by rfl)) (Nat.le_of_ble_eq_true rfl) (Nat.le_of_ble_eq_true rfl) (F_89_ok R e5 (fun μ R => ⟨rfl, (?_ : jX G jP 101 25 lv [.int q5.1] μ Q)⟩))
    refine jX.s1 (k := 5) (pc' := 27) (by rfl) (by rfl) (by rfl) (fun lv l5 kp => (?_ : jX G jP 101 27 lv [] μ Q))
    replace l0 := kp 0 _ l0 (by rfl) (by first | rfl | simp [soR_cat])
    replace l1 := kp 1 _ l1 (by rfl) (by first | rfl | simp [soR_cat])
    replace l4 := kp 4 _ l4 (by rfl) (by first | rfl | simp [soR_cat])
    refine jX.lrn l1 (by rfl) (by rfl) (?_ : jX G jP 101 28 lv [.ref (spl 25 v1.1 v1.2)] μ Q)
    obtain ⟨g6, h⟩ := jif_some h
    refine jX.sg R g6 (by rfl) (by rfl) (by rfl) (by rfl) (by rfl) (?_ : jX G jP 101 31 lv [.int (q5.2.1 25 v1.1 v1.2 4)] μ Q)
    refine jX.ic (v := nI 4) (n := 1) (by rfl) (by rfl) (by decide) (?_ : jX G jP 101 32 lv [.int (nI 4), .int (q5.2.1 25 v1.1 v1.2 4)] μ Q)
    rcases bif_or h with ⟨hc, h⟩ | ⟨hc, h⟩
    · refine jX.b2t hc (by rfl) (by rfl) (by rfl) (?_ : jX G jP 101 39 lv [] μ Q)
      refine jX.ic (v := nI 0) (n := 1) (by rfl) (by rfl) (by decide) (?_ : jX G jP 101 40 lv [.int (nI 0)] μ Q)
      exact F_101_40_ok  K v1 (a3.1, 1) q5.1 (nI 0) _ _ _ l0 l1 l4 l5 R h
    · refine jX.b2f hc (by rfl) (by rfl) (by rfl) (?_ : jX G jP 101 35 lv [] μ Q)
      refine jX.ic (v := nI 1) (n := 1) (by rfl) (by rfl) (by decide) (?_ : jX G jP 101 36 lv [.int (nI 1)] μ Q)
      refine jX.go (by rfl) (by rfl) (by rfl) (?_ : jX G jP 101 40 lv [.int (nI 1)] μ Q)
      exact F_101_40_ok  K v1 (a3.1, 1) q5.1 (nI 1) _ _ _ l0 l1 l4 l5 R h
/-! 102 StrandRuntime$Channels.close(LStrandRuntime$Row;)I -/
def F_102_121 (G : jG) (t : Nat) (k61 : Int32 → Int32 → sS → Option (Int32 × sS)) (v2 : Int32) (v4 : Int32) (S : sS) : Option (Int32 × sS) := k61 v2 (v4 + Int32.ofInt 1) S
theorem F_102_121_ok {G : jG} {t : Nat} {k61 : Int32 → Int32 → sS → Option (Int32 × sS)} {r : Int32} {S' : sS} {Q : Option Value ⊕ Nat → jS → Prop} (hk61 : ∀ (v2 : Int32) (v4 : Int32) (S : sS) (lv : jL) (μ : jS), jld lv 0 = some (.ref (spl 22 0 0)) → jld lv 2 = some (.int v2) → jld lv 4 = some (.int v4) → sR S μ → k61 v2 v4 S = some (r, S') → jX G jP 102 61 lv [] μ Q) (K : ∀ μ', sR S' μ' → Q (srI r) μ') : ∀ (v2 : Int32) (v4 : Int32) (S : sS) (lv : jL) (μ : jS), jld lv 0 = some (.ref (spl 22 0 0)) → jld lv 2 = some (.int v2) → jld lv 4 = some (.int v4) → sR S μ → F_102_121 G t k61 v2 v4 S = some (r, S') → jX G jP 102 121 lv [] μ Q := by
  intro v2 v4 S lv μ l0 l2 l4 R h
  unfold F_102_121 at h
  refine jX.inc l4 (by rfl) (by rfl) (by rfl) (fun lv l4 kp => (?_ : jX G jP 102 124 lv [] μ Q))
  replace l0 := kp 0 _ l0 (by rfl) (by first | rfl | simp [soR_cat])
  replace l2 := kp 2 _ l2 (by rfl) (by first | rfl | simp [soR_cat])
  refine jX.go (by rfl) (by rfl) (by rfl) (?_ : jX G jP 102 61 lv [] μ Q)
  exact hk61 v2 (v4 + Int32.ofInt 1) _ _ _ l0 l2 l4 R h
def F_102_104 (G : jG) (t : Nat) (k61 : Int32 → Int32 → sS → Option (Int32 × sS)) (v2 : Int32) (v4 : Int32) (v5 : (Nat × Nat)) (S : sS) : Option (Int32 × sS) := jif (sex S.2.2.2.1 25 v5.1 v5.2) ((F_22 G t v5 S).bind (fun q2 => bif jcmp .eq q2.1 0 then (F_102_121 G t k61 v2 v4 q2.2) else ((F_30 G t v5 q2.2).bind (fun q3 => F_102_121 G t k61 v2 v4 q3.2))))
theorem F_102_104_ok {G : jG} {t : Nat} {k61 : Int32 → Int32 → sS → Option (Int32 × sS)} {r : Int32} {S' : sS} {Q : Option Value ⊕ Nat → jS → Prop} (hk61 : ∀ (v2 : Int32) (v4 : Int32) (S : sS) (lv : jL) (μ : jS), jld lv 0 = some (.ref (spl 22 0 0)) → jld lv 2 = some (.int v2) → jld lv 4 = some (.int v4) → sR S μ → k61 v2 v4 S = some (r, S') → jX G jP 102 61 lv [] μ Q) (K : ∀ μ', sR S' μ' → Q (srI r) μ') : ∀ (v2 : Int32) (v4 : Int32) (v5 : (Nat × Nat)) (S : sS) (lv : jL) (μ : jS), jld lv 0 = some (.ref (spl 22 0 0)) → jld lv 2 = some (.int v2) → jld lv 4 = some (.int v4) → jld lv 5 = some (.ref (spl 25 v5.1 v5.2)) → sR S μ → F_102_104 G t k61 v2 v4 v5 S = some (r, S') → jX G jP 102 104 lv [] μ Q := by
  intro v2 v4 v5 S lv μ l0 l2 l4 l5 R h
  unfold F_102_104 at h
  refine jX.lr l5 (by rfl) (by rfl) (?_ : jX G jP 102 106 lv [.ref (spl 25 v5.1 v5.2)] μ Q)
  obtain ⟨g1, h⟩ := jif_some h
  obtain ⟨q2, e2, h⟩ := sbd h
  refine jX.c1 (v := .int q2.1) (by rfl) (by rfl) (by rfl) (by rfl) (by rfl) (by rfl) (by rfl) (R.rec g1 (by rfl)) (Nat.le_of_ble_eq_true rfl) (Nat.le_of_ble_eq_true rfl) (F_22_ok R e2 (fun μ R => ⟨rfl, (?_ : jX G jP 102 109 lv [.int q2.1] μ Q)⟩))
  rcases bif_or h with ⟨hc, h⟩ | ⟨hc, h⟩
  · refine jX.b1t hc (by rfl) (by rfl) (by rfl) (?_ : jX G jP 102 121 lv [] μ Q)
    exact F_102_121_ok hk61 K v2 v4 _ _ _ l0 l2 l4 R h
  · refine jX.b1f hc (by rfl) (by rfl) (by rfl) (?_ : jX G jP 102 112 lv [] μ Q)
    refine jX.lrn l0 (by rfl) (by rfl) (?_ : jX G jP 102 113 lv [.ref (spl 22 0 0)] μ Q)
    refine jX.sg R (by rfl) (by rfl) (by rfl) (by rfl) (by rfl) (by rfl) (?_ : jX G jP 102 116 lv [.ref (spl 8 0 0)] μ Q)
    refine jX.lr l5 (by rfl) (by rfl) (?_ : jX G jP 102 118 lv [.ref (spl 25 v5.1 v5.2), .ref (spl 8 0 0)] μ Q)
    obtain ⟨q3, e3, h⟩ := sbd h
    refine jX.cv (by rfl) (by rfl) (by rfl) (by rfl) (by rfl) (by rfl) (by rfl) (R.rec (by rfl) (by rfl)) (Nat.le_of_ble_eq_true rfl) (Nat.le_of_ble_eq_true rfl) (F_30_ok R e3 (fun μ R => ⟨rfl, (?_ : jX G jP 102 121 lv [] μ Q)⟩))
    exact F_102_121_ok hk61 K v2 v4 _ _ _ l0 l2 l4 R h
def F_102_61 (G : jG) (t : Nat) : Nat → Int32 → Int32 → sS → Option (Int32 × sS)
  | 0 => fun _ _ _ => none
  | tt + 1 => fun v2 v4 S => bif jcmp .ge v4 (nI 16) then (some ((nI 0), S)) else ((F_90 G t v2 (nI 1) (nI 1) S).bind (fun q1 => sif q1.1 (some ((nI 0), q1.2)) (fun a2 => (F_101 G t a2 v2 q1.2).bind (fun q3 => bif jcmp .eq q3.1 0 then (F_102_104 G t (F_102_61 G t tt) v2 v4 a2 q3.2) else (jif (sex q3.2.2.2.2.1 25 a2.1 a2.2) ((F_81 G t a2 (nI 2) (-4) (nI 0) q3.2).bind (fun q5 => F_102_104 G t (F_102_61 G t tt) v2 v4 a2 q5.2)))))))
theorem F_102_61_ok {G : jG} {t : Nat} {r : Int32} {S' : sS} {Q : Option Value ⊕ Nat → jS → Prop} (K : ∀ μ', sR S' μ' → Q (srI r) μ') : ∀ tt : Nat, ∀ (v2 : Int32) (v4 : Int32) (S : sS) (lv : jL) (μ : jS), jld lv 0 = some (.ref (spl 22 0 0)) → jld lv 2 = some (.int v2) → jld lv 4 = some (.int v4) → sR S μ → F_102_61 G t tt v2 v4 S = some (r, S') → jX G jP 102 61 lv [] μ Q := by
  intro tt
  induction tt with
  | zero =>
    intro v2 v4 S lv μ l0 l2 l4 R h
    rw [F_102_61] at h
    cases h
  | succ tt ih =>
    intro v2 v4 S lv μ l0 l2 l4 R h
    rw [F_102_61] at h
    refine jX.li l4 (by rfl) (by rfl) (?_ : jX G jP 102 63 lv [.int v4] μ Q)
    refine jX.ic (v := nI 16) (n := 2) (by rfl) (by rfl) (by decide) (?_ : jX G jP 102 65 lv [.int (nI 16), .int v4] μ Q)
    rcases bif_or h with ⟨hc, h⟩ | ⟨hc, h⟩
    · refine jX.b2t hc (by rfl) (by rfl) (by rfl) (?_ : jX G jP 102 127 lv [] μ Q)
      refine jX.ic (v := nI 0) (n := 1) (by rfl) (by rfl) (by decide) (?_ : jX G jP 102 128 lv [.int (nI 0)] μ Q)
      exact jX.ret (by rfl) (by rfl) (by rfl) (by rfl) (sretv (f := srI) h K R)
    · refine jX.b2f hc (by rfl) (by rfl) (by rfl) (?_ : jX G jP 102 68 lv [] μ Q)
      refine jX.lrn l0 (by rfl) (by rfl) (?_ : jX G jP 102 69 lv [.ref (spl 22 0 0)] μ Q)
      refine jX.lin l2 (by rfl) (by rfl) (?_ : jX G jP 102 70 lv [.int v2, .ref (spl 22 0 0)] μ Q)
      refine jX.ic (v := nI 1) (n := 1) (by rfl) (by rfl) (by decide) (?_ : jX G jP 102 71 lv [.int (nI 1), .int v2, .ref (spl 22 0 0)] μ Q)
      refine jX.ic (v := nI 1) (n := 1) (by rfl) (by rfl) (by decide) (?_ : jX G jP 102 72 lv [.int (nI 1), .int (nI 1), .int v2, .ref (spl 22 0 0)] μ Q)
      obtain ⟨q1, e1, h⟩ := sbd h
      refine jX.c1 (v := soR 25 q1.1) (by rfl) (by rfl) (by rfl) (by rfl) (by rfl) (by rfl) (by rfl) (R.rec (by rfl) (by rfl)) (Nat.le_of_ble_eq_true rfl) (Nat.le_of_ble_eq_true rfl) (F_90_ok R e1 (fun μ R => ⟨rfl, (?_ : jX G jP 102 75 lv [soR 25 q1.1] μ Q)⟩))
      refine jX.so (k := 5) (pc' := 77) (by rfl) (by rfl) (fun _ => by rfl) (by rfl) (fun lv l5 kp => (?_ : jX G jP 102 77 lv [] μ Q))
      replace l0 := kp 0 _ l0 (by rfl) (by first | rfl | simp [soR_cat])
      replace l2 := kp 2 _ l2 (by rfl) (by first | rfl | simp [soR_cat])
      replace l4 := kp 4 _ l4 (by rfl) (by first | rfl | simp [soR_cat])
      refine jX.lo l5 (by rfl) (by rfl) (?_ : jX G jP 102 79 lv [soR 25 q1.1] μ Q)
      rcases sif_or h with ⟨e2, h⟩ | ⟨a2, e2, h⟩
      · rw [soR_none (t := 25) e2]
        rw [soR_none (t := 25) e2] at l5
        refine jX.go (by rfl) (by rfl) (by rfl) (?_ : jX G jP 102 82 lv [] μ Q)
        refine jX.ic (v := nI 0) (n := 1) (by rfl) (by rfl) (by decide) (?_ : jX G jP 102 83 lv [.int (nI 0)] μ Q)
        exact jX.ret (by rfl) (by rfl) (by rfl) (by rfl) (sretv (f := srI) h K R)
      · rw [soR_some (t := 25) e2]
        rw [soR_some (t := 25) e2] at l5
        refine jX.go (by rfl) (by rfl) (by rfl) (?_ : jX G jP 102 84 lv [] μ Q)
        refine jX.lrn l0 (by rfl) (by rfl) (?_ : jX G jP 102 85 lv [.ref (spl 22 0 0)] μ Q)
        refine jX.lr l5 (by rfl) (by rfl) (?_ : jX G jP 102 87 lv [.ref (spl 25 a2.1 a2.2), .ref (spl 22 0 0)] μ Q)
        refine jX.lin l2 (by rfl) (by rfl) (?_ : jX G jP 102 88 lv [.int v2, .ref (spl 25 a2.1 a2.2), .ref (spl 22 0 0)] μ Q)
        obtain ⟨q3, e3, h⟩ := sbd h
        refine jX.c1 (v := .int q3.1) (by rfl) (by rfl) (by rfl) (by rfl) (by rfl) (by rfl) (by rfl) (R.rec (by rfl) (by rfl)) (Nat.le_of_ble_eq_true rfl) (Nat.le_of_ble_eq_true rfl) (F_101_ok R e3 (fun μ R => ⟨rfl, (?_ : jX G jP 102 91 lv [.int q3.1] μ Q)⟩))
        rcases bif_or h with ⟨hc, h⟩ | ⟨hc, h⟩
        · refine jX.b1t hc (by rfl) (by rfl) (by rfl) (?_ : jX G jP 102 104 lv [] μ Q)
          exact F_102_104_ok ih K v2 v4 a2 _ _ _ l0 l2 l4 l5 R h
        · refine jX.b1f hc (by rfl) (by rfl) (by rfl) (?_ : jX G jP 102 94 lv [] μ Q)
          refine jX.lr l5 (by rfl) (by rfl) (?_ : jX G jP 102 96 lv [.ref (spl 25 a2.1 a2.2)] μ Q)
          refine jX.ic (v := nI 2) (n := 1) (by rfl) (by rfl) (by decide) (?_ : jX G jP 102 97 lv [.int (nI 2), .ref (spl 25 a2.1 a2.2)] μ Q)
          refine jX.go (by rfl) (by rfl) (by rfl) (?_ : jX G jP 102 100 lv [.long (-4), .int (nI 2), .ref (spl 25 a2.1 a2.2)] μ Q)
          refine jX.ic (v := nI 0) (n := 1) (by rfl) (by rfl) (by decide) (?_ : jX G jP 102 101 lv [.int (nI 0), .long (-4), .int (nI 2), .ref (spl 25 a2.1 a2.2)] μ Q)
          obtain ⟨g4, h⟩ := jif_some h
          obtain ⟨q5, e5, h⟩ := sbd h
          refine jX.cv (by rfl) (by rfl) (by rfl) (by rfl) (by rfl) (by rfl) (by rfl) (R.rec g4 (by rfl)) (Nat.le_of_ble_eq_true rfl) (Nat.le_of_ble_eq_true rfl) (F_81_ok R e5 (fun μ R => ⟨rfl, (?_ : jX G jP 102 104 lv [] μ Q)⟩))
          exact F_102_104_ok ih K v2 v4 a2 _ _ _ l0 l2 l4 l5 R h
def F_102 (G : jG) (t : Nat) (v1 : (Nat × Nat)) (S : sS) : Option (Int32 × sS) := jif (sex S.2.2.2.1 29 v1.1 v1.2) ((F_27 G t v1 ((S.1 29 v1.1 v1.2 2) - (nI 1)) S).bind (fun q2 => (F_87 G t q2.1 (nI 3) q2.2).bind (fun q3 => sif q3.1 (bif jcmp .ne q2.1 (nI 1) then (some ((-2), q3.2)) else (some ((-4), q3.2))) (fun a4 => jif (sex q3.2.2.2.2.1 32 a4.1 a4.2) (bif jcmp .eq (q3.2.1 32 a4.1 a4.2 4) 0 then (jif (sex (siI q3.2 32 a4.1 a4.2 4 (nI 1)).2.2.2.1 29 v1.1 v1.2) ((F_76 G t v1 (nI 1) (siI q3.2 32 a4.1 a4.2 4 (nI 1))).bind (fun q7 => F_102_61 G t t q2.1 (nI 0) q7.2))) else (some ((-4), q3.2)))))))
theorem F_102_ok {G : jG} {t : Nat} {v1 : (Nat × Nat)} {S : sS} {r : Int32} {S' : sS} {μ : jS} {Q : Option Value ⊕ Nat → jS → Prop} (R : sR S μ) (h : F_102 G t v1 S = some (r, S')) (K : ∀ μ', sR S' μ' → Q (srI r) μ') : jX G jP 102 0 (lv_args 0 [.ref (spl 22 0 0), .ref (spl 29 v1.1 v1.2)]) [] μ Q := by
  unfold F_102 at h
  have l0 : jld (lv_args 0 [.ref (spl 22 0 0), .ref (spl 29 v1.1 v1.2)]) 0 = some (.ref (spl 22 0 0)) := by rfl
  have l1 : jld (lv_args 0 [.ref (spl 22 0 0), .ref (spl 29 v1.1 v1.2)]) 1 = some (.ref (spl 29 v1.1 v1.2)) := by rfl
  generalize lv_args 0 [.ref (spl 22 0 0), .ref (spl 29 v1.1 v1.2)] = lv at *
  refine jX.lrn l1 (by rfl) (by rfl) (?_ : jX G jP 102 1 lv [.ref (spl 29 v1.1 v1.2)] μ Q)
  refine jX.lrn l1 (by rfl) (by rfl) (?_ : jX G jP 102 2 lv [.ref (spl 29 v1.1 v1.2), .ref (spl 29 v1.1 v1.2)] μ Q)
  obtain ⟨g1, h⟩ := jif_some h
  refine jX.sg R g1 (by rfl) (by rfl) (by rfl) (by rfl) (by rfl) (?_ : jX G jP 102 5 lv [.int (S.1 29 v1.1 v1.2 2), .ref (spl 29 v1.1 v1.2)] μ Q)
  refine jX.ic (v := nI 1) (n := 1) (by rfl) (by rfl) (by decide) (?_ : jX G jP 102 6 lv [.int (nI 1), .int (S.1 29 v1.1 v1.2 2), .ref (spl 29 v1.1 v1.2)] μ Q)
  refine jX.go (by rfl) (by rfl) (by rfl) (?_ : jX G jP 102 7 lv [.int ((S.1 29 v1.1 v1.2 2) - (nI 1)), .ref (spl 29 v1.1 v1.2)] μ Q)
  obtain ⟨q2, e2, h⟩ := sbd h
  refine jX.c1 (v := .int q2.1) (by rfl) (by rfl) (by rfl) (by rfl) (by rfl) (by rfl) (by rfl) (R.rec g1 (by rfl)) (Nat.le_of_ble_eq_true rfl) (Nat.le_of_ble_eq_true rfl) (F_27_ok R e2 (fun μ R => ⟨rfl, (?_ : jX G jP 102 10 lv [.int q2.1] μ Q)⟩))
  refine jX.s1 (k := 2) (pc' := 11) (by rfl) (by rfl) (by rfl) (fun lv l2 kp => (?_ : jX G jP 102 11 lv [] μ Q))
  replace l0 := kp 0 _ l0 (by rfl) (by first | rfl | simp [soR_cat])
  replace l1 := kp 1 _ l1 (by rfl) (by first | rfl | simp [soR_cat])
  refine jX.lrn l0 (by rfl) (by rfl) (?_ : jX G jP 102 12 lv [.ref (spl 22 0 0)] μ Q)
  refine jX.sg R (by rfl) (by rfl) (by rfl) (by rfl) (by rfl) (by rfl) (?_ : jX G jP 102 15 lv [.ref (spl 11 0 0)] μ Q)
  refine jX.lin l2 (by rfl) (by rfl) (?_ : jX G jP 102 16 lv [.int q2.1, .ref (spl 11 0 0)] μ Q)
  refine jX.ic (v := nI 3) (n := 1) (by rfl) (by rfl) (by decide) (?_ : jX G jP 102 17 lv [.int (nI 3), .int q2.1, .ref (spl 11 0 0)] μ Q)
  obtain ⟨q3, e3, h⟩ := sbd h
  refine jX.c1 (v := soR 32 q3.1) (by rfl) (by rfl) (by rfl) (by rfl) (by rfl) (by rfl) (by rfl) (R.rec (by rfl) (by rfl)) (Nat.le_of_ble_eq_true rfl) (Nat.le_of_ble_eq_true rfl) (F_87_ok R e3 (fun μ R => ⟨rfl, (?_ : jX G jP 102 20 lv [soR 32 q3.1] μ Q)⟩))
  refine jX.so (k := 3) (pc' := 21) (by rfl) (by rfl) (fun _ => by rfl) (by rfl) (fun lv l3 kp => (?_ : jX G jP 102 21 lv [] μ Q))
  replace l0 := kp 0 _ l0 (by rfl) (by first | rfl | simp [soR_cat])
  replace l1 := kp 1 _ l1 (by rfl) (by first | rfl | simp [soR_cat])
  replace l2 := kp 2 _ l2 (by rfl) (by first | rfl | simp [soR_cat])
  refine jX.lon l3 (by rfl) (by rfl) (?_ : jX G jP 102 22 lv [soR 32 q3.1] μ Q)
  rcases sif_or h with ⟨e4, h⟩ | ⟨a4, e4, h⟩
  · rw [soR_none (t := 32) e4]
    rw [soR_none (t := 32) e4] at l3
    refine jX.go (by rfl) (by rfl) (by rfl) (?_ : jX G jP 102 25 lv [] μ Q)
    refine jX.lin l2 (by rfl) (by rfl) (?_ : jX G jP 102 26 lv [.int q2.1] μ Q)
    refine jX.ic (v := nI 1) (n := 1) (by rfl) (by rfl) (by decide) (?_ : jX G jP 102 27 lv [.int (nI 1), .int q2.1] μ Q)
    rcases bif_or h with ⟨hc, h⟩ | ⟨hc, h⟩
    · refine jX.b2t hc (by rfl) (by rfl) (by rfl) (?_ : jX G jP 102 35 lv [] μ Q)
      refine jX.ic (v := (-2)) (n := 2) (by rfl) (by rfl) (by decide) (?_ : jX G jP 102 37 lv [.int (-2)] μ Q)
      exact jX.ret (by rfl) (by rfl) (by rfl) (by rfl) (sretv (f := srI) h K R)
    · refine jX.b2f hc (by rfl) (by rfl) (by rfl) (?_ : jX G jP 102 30 lv [] μ Q)
      refine jX.ic (v := (-4)) (n := 2) (by rfl) (by rfl) (by decide) (?_ : jX G jP 102 32 lv [.int (-4)] μ Q)
      refine jX.go (by rfl) (by rfl) (by rfl) (?_ : jX G jP 102 37 lv [.int (-4)] μ Q)
      exact jX.ret (by rfl) (by rfl) (by rfl) (by rfl) (sretv (f := srI) h K R)
  · rw [soR_some (t := 32) e4]
    rw [soR_some (t := 32) e4] at l3
    refine jX.go (by rfl) (by rfl) (by rfl) (?_ : jX G jP 102 38 lv [] μ Q)
    refine jX.lrn l3 (by rfl) (by rfl) (?_ : jX G jP 102 39 lv [.ref (spl 32 a4.1 a4.2)] μ Q)
    obtain ⟨g5, h⟩ := jif_some h
    refine jX.sg R g5 (by rfl) (by rfl) (by rfl) (by rfl) (by rfl) (?_ : jX G jP 102 42 lv [.int (q3.2.1 32 a4.1 a4.2 4)] μ Q)
    rcases bif_or h with ⟨hc, h⟩ | ⟨hc, h⟩
    · refine jX.b1t hc (by rfl) (by rfl) (by rfl) (?_ : jX G jP 102 48 lv [] μ Q)
      refine jX.lrn l3 (by rfl) (by rfl) (?_ : jX G jP 102 49 lv [.ref (spl 32 a4.1 a4.2)] μ Q)
      refine jX.ic (v := nI 1) (n := 1) (by rfl) (by rfl) (by decide) (?_ : jX G jP 102 50 lv [.int (nI 1), .ref (spl 32 a4.1 a4.2)] μ Q)
      refine jX.spI R g5 (by rfl) (by rfl) (by rfl) (by rfl) (by rfl) (by rfl) (by rfl) (by rfl) (fun μ R => (?_ : jX G jP 102 53 lv [] μ Q))
      refine jX.lrn l1 (by rfl) (by rfl) (?_ : jX G jP 102 54 lv [.ref (spl 29 v1.1 v1.2)] μ Q)
      refine jX.ic (v := nI 1) (n := 1) (by rfl) (by rfl) (by decide) (?_ : jX G jP 102 55 lv [.int (nI 1), .ref (spl 29 v1.1 v1.2)] μ Q)
      obtain ⟨g6, h⟩ := jif_some h
      obtain ⟨q7, e7, h⟩ := sbd h
      refine jX.cv (by rfl) (by rfl) (by rfl) (by rfl) (by rfl) (by rfl) (by rfl) (R.rec g6 (by rfl)) (Nat.le_of_ble_eq_true rfl) (Nat.le_of_ble_eq_true rfl) (F_76_ok R e7 (fun μ R => ⟨rfl, (?_ : jX G jP 102 58 lv [] μ Q)⟩))
      refine jX.ic (v := nI 0) (n := 1) (by rfl) (by rfl) (by decide) (?_ : jX G jP 102 59 lv [.int (nI 0)] μ Q)
      refine jX.s1 (k := 4) (pc' := 61) (by rfl) (by rfl) (by rfl) (fun lv l4 kp => (?_ : jX G jP 102 61 lv [] μ Q))
      replace l0 := kp 0 _ l0 (by rfl) (by first | rfl | simp [soR_cat])
      replace l2 := kp 2 _ l2 (by rfl) (by first | rfl | simp [soR_cat])
      exact F_102_61_ok  K _ q2.1 (nI 0) _ _ _ l0 l2 l4 R h
    · refine jX.b1f hc (by rfl) (by rfl) (by rfl) (?_ : jX G jP 102 45 lv [] μ Q)
      refine jX.ic (v := (-4)) (n := 2) (by rfl) (by rfl) (by decide) (?_ : jX G jP 102 47 lv [.int (-4)] μ Q)
      exact jX.ret (by rfl) (by rfl) (by rfl) (by rfl) (sretv (f := srI) h K R)
/-! 103 StrandRuntime$Row.isNumber(I)Z -/
def F_103 (G : jG) (t : Nat) (v0 : (Nat × Nat)) (v1 : Int32) (S : sS) : Option (Int32 × sS) := bif jcmp .lt v1 0 then (some ((nI 0), S)) else (jif (sex S.2.2.2.1 29 v0.1 v0.2) (bif jcmp .ge v1 (S.1 29 v0.1 v0.2 2) then (some ((nI 0), S)) else (jif (sex S.2.2.2.1 31 v0.1 v0.2) (jif (jin v1 (srl v0.2)) (bif jcmp .ne (S.1 31 v0.1 v0.2 v1.toNatClampNeg) 0 then (some ((nI 0), S)) else (some ((nI 1), S)))))))
theorem F_103_ok {G : jG} {t : Nat} {v0 : (Nat × Nat)} {v1 : Int32} {S : sS} {r : Int32} {S' : sS} {μ : jS} {Q : Option Value ⊕ Nat → jS → Prop} (R : sR S μ) (h : F_103 G t v0 v1 S = some (r, S')) (K : ∀ μ', sR S' μ' → Q (srI r) μ') : jX G jP 103 0 (lv_args 0 [.ref (spl 29 v0.1 v0.2), .int v1]) [] μ Q := by
  unfold F_103 at h
  have l0 : jld (lv_args 0 [.ref (spl 29 v0.1 v0.2), .int v1]) 0 = some (.ref (spl 29 v0.1 v0.2)) := by rfl
  have l1 : jld (lv_args 0 [.ref (spl 29 v0.1 v0.2), .int v1]) 1 = some (.int v1) := by rfl
  generalize lv_args 0 [.ref (spl 29 v0.1 v0.2), .int v1] = lv at *
  refine jX.lin l1 (by rfl) (by rfl) (?_ : jX G jP 103 1 lv [.int v1] μ Q)
  rcases bif_or h with ⟨hc, h⟩ | ⟨hc, h⟩
  · refine jX.b1t hc (by rfl) (by rfl) (by rfl) (?_ : jX G jP 103 25 lv [] μ Q)
    refine jX.ic (v := nI 0) (n := 1) (by rfl) (by rfl) (by decide) (?_ : jX G jP 103 26 lv [.int (nI 0)] μ Q)
    exact jX.ret (by rfl) (by rfl) (by rfl) (by rfl) (sretv (f := srI) h K R)
  · refine jX.b1f hc (by rfl) (by rfl) (by rfl) (?_ : jX G jP 103 4 lv [] μ Q)
    refine jX.lin l1 (by rfl) (by rfl) (?_ : jX G jP 103 5 lv [.int v1] μ Q)
    refine jX.lrn l0 (by rfl) (by rfl) (?_ : jX G jP 103 6 lv [.ref (spl 29 v0.1 v0.2), .int v1] μ Q)
    obtain ⟨g1, h⟩ := jif_some h
    refine jX.sg R g1 (by rfl) (by rfl) (by rfl) (by rfl) (by rfl) (?_ : jX G jP 103 9 lv [.int (S.1 29 v0.1 v0.2 2), .int v1] μ Q)
    rcases bif_or h with ⟨hc, h⟩ | ⟨hc, h⟩
    · refine jX.b2t hc (by rfl) (by rfl) (by rfl) (?_ : jX G jP 103 25 lv [] μ Q)
      refine jX.ic (v := nI 0) (n := 1) (by rfl) (by rfl) (by decide) (?_ : jX G jP 103 26 lv [.int (nI 0)] μ Q)
      exact jX.ret (by rfl) (by rfl) (by rfl) (by rfl) (sretv (f := srI) h K R)
    · refine jX.b2f hc (by rfl) (by rfl) (by rfl) (?_ : jX G jP 103 12 lv [] μ Q)
      refine jX.lrn l0 (by rfl) (by rfl) (?_ : jX G jP 103 13 lv [.ref (spl 29 v0.1 v0.2)] μ Q)
      refine jX.sg R g1 (by rfl) (by rfl) (by rfl) (by rfl) (by rfl) (?_ : jX G jP 103 16 lv [.ref (spl 31 v0.1 v0.2)] μ Q)
      refine jX.lin l1 (by rfl) (by rfl) (?_ : jX G jP 103 17 lv [.int v1, .ref (spl 31 v0.1 v0.2)] μ Q)
      obtain ⟨g2, h⟩ := jif_some h
      obtain ⟨g3, h⟩ := jif_some h
      refine jX.sai R g2 (by rfl) (by rfl) (by rfl) g3 (?_ : jX G jP 103 18 lv [.int (S.1 31 v0.1 v0.2 v1.toNatClampNeg)] μ Q)
      rcases bif_or h with ⟨hc, h⟩ | ⟨hc, h⟩
      · refine jX.b1t hc (by rfl) (by rfl) (by rfl) (?_ : jX G jP 103 25 lv [] μ Q)
        refine jX.ic (v := nI 0) (n := 1) (by rfl) (by rfl) (by decide) (?_ : jX G jP 103 26 lv [.int (nI 0)] μ Q)
        exact jX.ret (by rfl) (by rfl) (by rfl) (by rfl) (sretv (f := srI) h K R)
      · refine jX.b1f hc (by rfl) (by rfl) (by rfl) (?_ : jX G jP 103 21 lv [] μ Q)
        refine jX.ic (v := nI 1) (n := 1) (by rfl) (by rfl) (by decide) (?_ : jX G jP 103 22 lv [.int (nI 1)] μ Q)
        refine jX.go (by rfl) (by rfl) (by rfl) (?_ : jX G jP 103 26 lv [.int (nI 1)] μ Q)
        exact jX.ret (by rfl) (by rfl) (by rfl) (by rfl) (sretv (f := srI) h K R)
/-! 104 StrandRuntime$Channels.areCases(LStrandRuntime$Row;II)Z -/
def F_104_44 (G : jG) (t : Nat) (k3 : (Nat × Nat) → Int32 → Int32 → Int32 → sS → Option (Int32 × sS)) (v1 : (Nat × Nat)) (v2 : Int32) (v3 : Int32) (v4 : Int32) (v5 : Int32) (S : sS) : Option (Int32 × sS) := jif (sex S.2.2.2.1 29 v1.1 v1.2) ((F_103 G t v1 (v5 + (nI 1)) S).bind (fun q2 => bif jcmp .ne q2.1 0 then (k3 v1 v2 v3 (v4 + Int32.ofInt 1) q2.2) else (some ((nI 0), q2.2))))
theorem F_104_44_ok {G : jG} {t : Nat} {k3 : (Nat × Nat) → Int32 → Int32 → Int32 → sS → Option (Int32 × sS)} {r : Int32} {S' : sS} {Q : Option Value ⊕ Nat → jS → Prop} (hk3 : ∀ (v1 : (Nat × Nat)) (v2 : Int32) (v3 : Int32) (v4 : Int32) (S : sS) (lv : jL) (μ : jS), jld lv 0 = some (.ref (spl 22 0 0)) → jld lv 1 = some (.ref (spl 29 v1.1 v1.2)) → jld lv 2 = some (.int v2) → jld lv 3 = some (.int v3) → jld lv 4 = some (.int v4) → sR S μ → k3 v1 v2 v3 v4 S = some (r, S') → jX G jP 104 3 lv [] μ Q) (K : ∀ μ', sR S' μ' → Q (srI r) μ') : ∀ (v1 : (Nat × Nat)) (v2 : Int32) (v3 : Int32) (v4 : Int32) (v5 : Int32) (S : sS) (lv : jL) (μ : jS), jld lv 0 = some (.ref (spl 22 0 0)) → jld lv 1 = some (.ref (spl 29 v1.1 v1.2)) → jld lv 2 = some (.int v2) → jld lv 3 = some (.int v3) → jld lv 4 = some (.int v4) → jld lv 5 = some (.int v5) → sR S μ → F_104_44 G t k3 v1 v2 v3 v4 v5 S = some (r, S') → jX G jP 104 44 lv [] μ Q := by
  intro v1 v2 v3 v4 v5 S lv μ l0 l1 l2 l3 l4 l5 R h
  unfold F_104_44 at h
  refine jX.lrn l1 (by rfl) (by rfl) (?_ : jX G jP 104 45 lv [.ref (spl 29 v1.1 v1.2)] μ Q)
  refine jX.li l5 (by rfl) (by rfl) (?_ : jX G jP 104 47 lv [.int v5, .ref (spl 29 v1.1 v1.2)] μ Q)
  refine jX.ic (v := nI 1) (n := 1) (by rfl) (by rfl) (by decide) (?_ : jX G jP 104 48 lv [.int (nI 1), .int v5, .ref (spl 29 v1.1 v1.2)] μ Q)
  refine jX.go (by rfl) (by rfl) (by rfl) (?_ : jX G jP 104 49 lv [.int (v5 + (nI 1)), .ref (spl 29 v1.1 v1.2)] μ Q)
  obtain ⟨g1, h⟩ := jif_some h
  obtain ⟨q2, e2, h⟩ := sbd h
  refine jX.c1 (v := .int q2.1) (by rfl) (by rfl) (by rfl) (by rfl) (by rfl) (by rfl) (by rfl) (R.rec g1 (by rfl)) (Nat.le_of_ble_eq_true rfl) (Nat.le_of_ble_eq_true rfl) (F_103_ok R e2 (fun μ R => ⟨rfl, (?_ : jX G jP 104 52 lv [.int q2.1] μ Q)⟩))
  rcases bif_or h with ⟨hc, h⟩ | ⟨hc, h⟩
  · refine jX.b1t hc (by rfl) (by rfl) (by rfl) (?_ : jX G jP 104 57 lv [] μ Q)
    refine jX.inc l4 (by rfl) (by rfl) (by rfl) (fun lv l4 kp => (?_ : jX G jP 104 60 lv [] μ Q))
    replace l0 := kp 0 _ l0 (by rfl) (by first | rfl | simp [soR_cat])
    replace l1 := kp 1 _ l1 (by rfl) (by first | rfl | simp [soR_cat])
    replace l2 := kp 2 _ l2 (by rfl) (by first | rfl | simp [soR_cat])
    replace l3 := kp 3 _ l3 (by rfl) (by first | rfl | simp [soR_cat])
    refine jX.go (by rfl) (by rfl) (by rfl) (?_ : jX G jP 104 3 lv [] μ Q)
    exact hk3 v1 v2 v3 (v4 + Int32.ofInt 1) _ _ _ l0 l1 l2 l3 l4 R h
  · refine jX.b1f hc (by rfl) (by rfl) (by rfl) (?_ : jX G jP 104 55 lv [] μ Q)
    refine jX.ic (v := nI 0) (n := 1) (by rfl) (by rfl) (by decide) (?_ : jX G jP 104 56 lv [.int (nI 0)] μ Q)
    exact jX.ret (by rfl) (by rfl) (by rfl) (by rfl) (sretv (f := srI) h K R)
def F_104_3 (G : jG) (t : Nat) : Nat → (Nat × Nat) → Int32 → Int32 → Int32 → sS → Option (Int32 × sS)
  | 0 => fun _ _ _ _ _ => none
  | tt + 1 => fun v1 v2 v3 v4 S => bif jcmp .ge v4 v3 then (some ((nI 1), S)) else (jif (sex S.2.2.2.1 29 v1.1 v1.2) ((F_27 G t v1 (v2 + ((nI 3) * v4)) S).bind (fun q2 => bif jcmp .eq q2.1 (nI 1) then (F_104_44 G t (F_104_3 G t tt) v1 v2 v3 v4 (v2 + ((nI 3) * v4)) q2.2) else ((F_87 G t q2.1 (nI 3) q2.2).bind (fun q3 => sif q3.1 (some ((nI 0), q3.2)) (fun a4 => F_104_44 G t (F_104_3 G t tt) v1 v2 v3 v4 (v2 + ((nI 3) * v4)) q3.2))))))
theorem F_104_3_ok {G : jG} {t : Nat} {r : Int32} {S' : sS} {Q : Option Value ⊕ Nat → jS → Prop} (K : ∀ μ', sR S' μ' → Q (srI r) μ') : ∀ tt : Nat, ∀ (v1 : (Nat × Nat)) (v2 : Int32) (v3 : Int32) (v4 : Int32) (S : sS) (lv : jL) (μ : jS), jld lv 0 = some (.ref (spl 22 0 0)) → jld lv 1 = some (.ref (spl 29 v1.1 v1.2)) → jld lv 2 = some (.int v2) → jld lv 3 = some (.int v3) → jld lv 4 = some (.int v4) → sR S μ → F_104_3 G t tt v1 v2 v3 v4 S = some (r, S') → jX G jP 104 3 lv [] μ Q := by
  intro tt
  induction tt with
  | zero =>
    intro v1 v2 v3 v4 S lv μ l0 l1 l2 l3 l4 R h
    rw [F_104_3] at h
    cases h
  | succ tt ih =>
    intro v1 v2 v3 v4 S lv μ l0 l1 l2 l3 l4 R h
    rw [F_104_3] at h
    refine jX.li l4 (by rfl) (by rfl) (?_ : jX G jP 104 5 lv [.int v4] μ Q)
    refine jX.lin l3 (by rfl) (by rfl) (?_ : jX G jP 104 6 lv [.int v3, .int v4] μ Q)
    rcases bif_or h with ⟨hc, h⟩ | ⟨hc, h⟩
    · refine jX.b2t hc (by rfl) (by rfl) (by rfl) (?_ : jX G jP 104 63 lv [] μ Q)
      refine jX.ic (v := nI 1) (n := 1) (by rfl) (by rfl) (by decide) (?_ : jX G jP 104 64 lv [.int (nI 1)] μ Q)
      exact jX.ret (by rfl) (by rfl) (by rfl) (by rfl) (sretv (f := srI) h K R)
    · refine jX.b2f hc (by rfl) (by rfl) (by rfl) (?_ : jX G jP 104 9 lv [] μ Q)
      refine jX.lin l2 (by rfl) (by rfl) (?_ : jX G jP 104 10 lv [.int v2] μ Q)
      refine jX.ic (v := nI 3) (n := 1) (by rfl) (by rfl) (by decide) (?_ : jX G jP 104 11 lv [.int (nI 3), .int v2] μ Q)
      refine jX.li l4 (by rfl) (by rfl) (?_ : jX G jP 104 13 lv [.int v4, .int (nI 3), .int v2] μ Q)
      refine jX.go (by rfl) (by rfl) (by rfl) (?_ : jX G jP 104 14 lv [.int ((nI 3) * v4), .int v2] μ Q)
      refine jX.go (by rfl) (by rfl) (by rfl) (?_ : jX G jP 104 15 lv [.int (v2 + ((nI 3) * v4))] μ Q)
      refine jX.s1 (k := 5) (pc' := 17) (by rfl) (by rfl) (by rfl) (fun lv l5 kp => (?_ : jX G jP 104 17 lv [] μ Q))
      replace l0 := kp 0 _ l0 (by rfl) (by first | rfl | simp [soR_cat])
      replace l1 := kp 1 _ l1 (by rfl) (by first | rfl | simp [soR_cat])
      replace l2 := kp 2 _ l2 (by rfl) (by first | rfl | simp [soR_cat])
      replace l3 := kp 3 _ l3 (by rfl) (by first | rfl | simp [soR_cat])
      replace l4 := kp 4 _ l4 (by rfl) (by first | rfl | simp [soR_cat])
      refine jX.lrn l1 (by rfl) (by rfl) (?_ : jX G jP 104 18 lv [.ref (spl 29 v1.1 v1.2)] μ Q)
      refine jX.li l5 (by rfl) (by rfl) (?_ : jX G jP 104 20 lv [.int (v2 + ((nI 3) * v4)), .ref (spl 29 v1.1 v1.2)] μ Q)
      obtain ⟨g1, h⟩ := jif_some h
      obtain ⟨q2, e2, h⟩ := sbd h
      refine jX.c1 (v := .int q2.1) (by rfl) (by rfl) (by rfl) (by rfl) (by rfl) (by rfl) (by rfl) (R.rec g1 (by rfl)) (Nat.le_of_ble_eq_true rfl) (Nat.le_of_ble_eq_true rfl) (F_27_ok R e2 (fun μ R => ⟨rfl, (?_ : jX G jP 104 23 lv [.int q2.1] μ Q)⟩))
      refine jX.s1 (k := 6) (pc' := 25) (by rfl) (by rfl) (by rfl) (fun lv l6 kp => (?_ : jX G jP 104 25 lv [] μ Q))
      replace l0 := kp 0 _ l0 (by rfl) (by first | rfl | simp [soR_cat])
      replace l1 := kp 1 _ l1 (by rfl) (by first | rfl | simp [soR_cat])
      replace l2 := kp 2 _ l2 (by rfl) (by first | rfl | simp [soR_cat])
      replace l3 := kp 3 _ l3 (by rfl) (by first | rfl | simp [soR_cat])
      replace l4 := kp 4 _ l4 (by rfl) (by first | rfl | simp [soR_cat])
      replace l5 := kp 5 _ l5 (by rfl) (by first | rfl | simp [soR_cat])
      refine jX.li l6 (by rfl) (by rfl) (?_ : jX G jP 104 27 lv [.int q2.1] μ Q)
      refine jX.ic (v := nI 1) (n := 1) (by rfl) (by rfl) (by decide) (?_ : jX G jP 104 28 lv [.int (nI 1), .int q2.1] μ Q)
      rcases bif_or h with ⟨hc, h⟩ | ⟨hc, h⟩
      · refine jX.b2t hc (by rfl) (by rfl) (by rfl) (?_ : jX G jP 104 44 lv [] μ Q)
        exact F_104_44_ok ih K v1 v2 v3 v4 (v2 + ((nI 3) * v4)) _ _ _ l0 l1 l2 l3 l4 l5 R h
      · refine jX.b2f hc (by rfl) (by rfl) (by rfl) (?_ : jX G jP 104 31 lv [] μ Q)
        refine jX.lrn l0 (by rfl) (by rfl) (?_ : jX G jP 104 32 lv [.ref (spl 22 0 0)] μ Q)
        refine jX.sg R (by rfl) (by rfl) (by rfl) (by rfl) (by rfl) (by rfl) (?_ : jX G jP 104 35 lv [.ref (spl 11 0 0)] μ Q)
        refine jX.li l6 (by rfl) (by rfl) (?_ : jX G jP 104 37 lv [.int q2.1, .ref (spl 11 0 0)] μ Q)
        refine jX.ic (v := nI 3) (n := 1) (by rfl) (by rfl) (by decide) (?_ : jX G jP 104 38 lv [.int (nI 3), .int q2.1, .ref (spl 11 0 0)] μ Q)
        obtain ⟨q3, e3, h⟩ := sbd h
        refine jX.c1 (v := soR 32 q3.1) (by rfl) (by rfl) (by rfl) (by rfl) (by rfl) (by rfl) (by rfl) (R.rec (by rfl) (by rfl)) (Nat.le_of_ble_eq_true rfl) (Nat.le_of_ble_eq_true rfl) (F_87_ok R e3 (fun μ R => ⟨rfl, (?_ : jX G jP 104 41 lv [soR 32 q3.1] μ Q)⟩))
        rcases sif_or h with ⟨e4, h⟩ | ⟨a4, e4, h⟩
        · rw [soR_none (t := 32) e4]
          refine jX.go (by rfl) (by rfl) (by rfl) (?_ : jX G jP 104 55 lv [] μ Q)
          refine jX.ic (v := nI 0) (n := 1) (by rfl) (by rfl) (by decide) (?_ : jX G jP 104 56 lv [.int (nI 0)] μ Q)
          exact jX.ret (by rfl) (by rfl) (by rfl) (by rfl) (sretv (f := srI) h K R)
        · rw [soR_some (t := 32) e4]
          refine jX.go (by rfl) (by rfl) (by rfl) (?_ : jX G jP 104 44 lv [] μ Q)
          exact F_104_44_ok ih K v1 v2 v3 v4 (v2 + ((nI 3) * v4)) _ _ _ l0 l1 l2 l3 l4 l5 R h
def F_104 (G : jG) (t : Nat) (v1 : (Nat × Nat)) (v2 : Int32) (v3 : Int32) (S : sS) : Option (Int32 × sS) := F_104_3 G t t v1 v2 v3 (nI 0) S
theorem F_104_ok {G : jG} {t : Nat} {v1 : (Nat × Nat)} {v2 : Int32} {v3 : Int32} {S : sS} {r : Int32} {S' : sS} {μ : jS} {Q : Option Value ⊕ Nat → jS → Prop} (R : sR S μ) (h : F_104 G t v1 v2 v3 S = some (r, S')) (K : ∀ μ', sR S' μ' → Q (srI r) μ') : jX G jP 104 0 (lv_args 0 [.ref (spl 22 0 0), .ref (spl 29 v1.1 v1.2), .int v2, .int v3]) [] μ Q := by
  unfold F_104 at h
  have l0 : jld (lv_args 0 [.ref (spl 22 0 0), .ref (spl 29 v1.1 v1.2), .int v2, .int v3]) 0 = some (.ref (spl 22 0 0)) := by rfl
  have l1 : jld (lv_args 0 [.ref (spl 22 0 0), .ref (spl 29 v1.1 v1.2), .int v2, .int v3]) 1 = some (.ref (spl 29 v1.1 v1.2)) := by rfl
  have l2 : jld (lv_args 0 [.ref (spl 22 0 0), .ref (spl 29 v1.1 v1.2), .int v2, .int v3]) 2 = some (.int v2) := by rfl
  have l3 : jld (lv_args 0 [.ref (spl 22 0 0), .ref (spl 29 v1.1 v1.2), .int v2, .int v3]) 3 = some (.int v3) := by rfl
  generalize lv_args 0 [.ref (spl 22 0 0), .ref (spl 29 v1.1 v1.2), .int v2, .int v3] = lv at *
  refine jX.ic (v := nI 0) (n := 1) (by rfl) (by rfl) (by decide) (?_ : jX G jP 104 1 lv [.int (nI 0)] μ Q)
  refine jX.s1 (k := 4) (pc' := 3) (by rfl) (by rfl) (by rfl) (fun lv l4 kp => (?_ : jX G jP 104 3 lv [] μ Q))
  replace l0 := kp 0 _ l0 (by rfl) (by first | rfl | simp [soR_cat])
  replace l1 := kp 1 _ l1 (by rfl) (by first | rfl | simp [soR_cat])
  replace l2 := kp 2 _ l2 (by rfl) (by first | rfl | simp [soR_cat])
  replace l3 := kp 3 _ l3 (by rfl) (by first | rfl | simp [soR_cat])
  exact F_104_3_ok  K _ v1 v2 v3 (nI 0) _ _ _ l0 l1 l2 l3 l4 R h
/-! 105 StrandRuntime$Channels.select(LStrandRuntime$Strand;LStrandRuntime$Row;I)I -/
def F_105_204 (G : jG) (t : Nat) (k35 : (Nat × Nat) → (Nat × Nat) → Int32 → Int32 → Int32 → Int32 → sS → Option (Int32 × sS)) (v1 : (Nat × Nat)) (v2 : (Nat × Nat)) (v3 : Int32) (v4 : Int32) (v5 : Int32) (v6 : Int32) (S : sS) : Option (Int32 × sS) := k35 v1 v2 v3 v4 v5 (v6 + Int32.ofInt 1) S
theorem F_105_204_ok {G : jG} {t : Nat} {k35 : (Nat × Nat) → (Nat × Nat) → Int32 → Int32 → Int32 → Int32 → sS → Option (Int32 × sS)} {r : Int32} {S' : sS} {Q : Option Value ⊕ Nat → jS → Prop} (hk35 : ∀ (v1 : (Nat × Nat)) (v2 : (Nat × Nat)) (v3 : Int32) (v4 : Int32) (v5 : Int32) (v6 : Int32) (S : sS) (lv : jL) (μ : jS), jld lv 0 = some (.ref (spl 22 0 0)) → jld lv 1 = some (.ref (spl 25 v1.1 v1.2)) → jld lv 2 = some (.ref (spl 29 v2.1 v2.2)) → jld lv 3 = some (.int v3) → jld lv 4 = some (.int v4) → jld lv 5 = some (.int v5) → jld lv 6 = some (.int v6) → sR S μ → k35 v1 v2 v3 v4 v5 v6 S = some (r, S') → jX G jP 105 35 lv [] μ Q) (K : ∀ μ', sR S' μ' → Q (srI r) μ') : ∀ (v1 : (Nat × Nat)) (v2 : (Nat × Nat)) (v3 : Int32) (v4 : Int32) (v5 : Int32) (v6 : Int32) (S : sS) (lv : jL) (μ : jS), jld lv 0 = some (.ref (spl 22 0 0)) → jld lv 1 = some (.ref (spl 25 v1.1 v1.2)) → jld lv 2 = some (.ref (spl 29 v2.1 v2.2)) → jld lv 3 = some (.int v3) → jld lv 4 = some (.int v4) → jld lv 5 = some (.int v5) → jld lv 6 = some (.int v6) → sR S μ → F_105_204 G t k35 v1 v2 v3 v4 v5 v6 S = some (r, S') → jX G jP 105 204 lv [] μ Q := by
  intro v1 v2 v3 v4 v5 v6 S lv μ l0 l1 l2 l3 l4 l5 l6 R h
  unfold F_105_204 at h
  refine jX.inc l6 (by rfl) (by rfl) (by rfl) (fun lv l6 kp => (?_ : jX G jP 105 207 lv [] μ Q))
  replace l0 := kp 0 _ l0 (by rfl) (by first | rfl | simp [soR_cat])
  replace l1 := kp 1 _ l1 (by rfl) (by first | rfl | simp [soR_cat])
  replace l2 := kp 2 _ l2 (by rfl) (by first | rfl | simp [soR_cat])
  replace l3 := kp 3 _ l3 (by rfl) (by first | rfl | simp [soR_cat])
  replace l4 := kp 4 _ l4 (by rfl) (by first | rfl | simp [soR_cat])
  replace l5 := kp 5 _ l5 (by rfl) (by first | rfl | simp [soR_cat])
  refine jX.go (by rfl) (by rfl) (by rfl) (?_ : jX G jP 105 35 lv [] μ Q)
  exact hk35 v1 v2 v3 v4 v5 (v6 + Int32.ofInt 1) _ _ _ l0 l1 l2 l3 l4 l5 l6 R h
def F_105_160 (G : jG) (t : Nat) (k35 : (Nat × Nat) → (Nat × Nat) → Int32 → Int32 → Int32 → Int32 → sS → Option (Int32 × sS)) (v1 : (Nat × Nat)) (v2 : (Nat × Nat)) (v3 : Int32) (v4 : Int32) (v5 : Int32) (v6 : Int32) (v8 : Int32) (v9 : (Nat × Nat)) (v10 : Int32) (S : sS) : Option (Int32 × sS) := bif jcmp .ne v10 0 then (F_105_204 G t k35 v1 v2 v3 v4 v5 v6 S) else ((F_95 G t v9 v8 S).bind (fun q1 => bif jcmp .eq q1.1 0 then (F_105_204 G t k35 v1 v2 v3 v4 v5 v6 q1.2) else (jif (sex q1.2.2.2.2.1 29 v2.1 v2.2) ((F_76 G t v2 ((nI 3) * v4) q1.2).bind (fun q3 => (F_99 G t v9 v8 v2 q3.2).bind (fun q4 => jif (sex q4.2.2.2.2.1 29 v2.1 v2.2) ((F_78 G t v2 v6.toInt64 (nI 0) q4.2).bind (fun q6 => some ((nI 0), q6.2)))))))))
theorem F_105_160_ok {G : jG} {t : Nat} {k35 : (Nat × Nat) → (Nat × Nat) → Int32 → Int32 → Int32 → Int32 → sS → Option (Int32 × sS)} {r : Int32} {S' : sS} {Q : Option Value ⊕ Nat → jS → Prop} (hk35 : ∀ (v1 : (Nat × Nat)) (v2 : (Nat × Nat)) (v3 : Int32) (v4 : Int32) (v5 : Int32) (v6 : Int32) (S : sS) (lv : jL) (μ : jS), jld lv 0 = some (.ref (spl 22 0 0)) → jld lv 1 = some (.ref (spl 25 v1.1 v1.2)) → jld lv 2 = some (.ref (spl 29 v2.1 v2.2)) → jld lv 3 = some (.int v3) → jld lv 4 = some (.int v4) → jld lv 5 = some (.int v5) → jld lv 6 = some (.int v6) → sR S μ → k35 v1 v2 v3 v4 v5 v6 S = some (r, S') → jX G jP 105 35 lv [] μ Q) (K : ∀ μ', sR S' μ' → Q (srI r) μ') : ∀ (v1 : (Nat × Nat)) (v2 : (Nat × Nat)) (v3 : Int32) (v4 : Int32) (v5 : Int32) (v6 : Int32) (v8 : Int32) (v9 : (Nat × Nat)) (v10 : Int32) (S : sS) (lv : jL) (μ : jS), jld lv 0 = some (.ref (spl 22 0 0)) → jld lv 1 = some (.ref (spl 25 v1.1 v1.2)) → jld lv 2 = some (.ref (spl 29 v2.1 v2.2)) → jld lv 3 = some (.int v3) → jld lv 4 = some (.int v4) → jld lv 5 = some (.int v5) → jld lv 6 = some (.int v6) → jld lv 8 = some (.int v8) → jld lv 9 = some (.ref (spl 32 v9.1 v9.2)) → jld lv 10 = some (.int v10) → sR S μ → F_105_160 G t k35 v1 v2 v3 v4 v5 v6 v8 v9 v10 S = some (r, S') → jX G jP 105 160 lv [] μ Q := by
  intro v1 v2 v3 v4 v5 v6 v8 v9 v10 S lv μ l0 l1 l2 l3 l4 l5 l6 l8 l9 l10 R h
  unfold F_105_160 at h
  refine jX.li l10 (by rfl) (by rfl) (?_ : jX G jP 105 162 lv [.int v10] μ Q)
  rcases bif_or h with ⟨hc, h⟩ | ⟨hc, h⟩
  · refine jX.b1t hc (by rfl) (by rfl) (by rfl) (?_ : jX G jP 105 204 lv [] μ Q)
    exact F_105_204_ok hk35 K v1 v2 v3 v4 v5 v6 _ _ _ l0 l1 l2 l3 l4 l5 l6 R h
  · refine jX.b1f hc (by rfl) (by rfl) (by rfl) (?_ : jX G jP 105 165 lv [] μ Q)
    refine jX.lrn l0 (by rfl) (by rfl) (?_ : jX G jP 105 166 lv [.ref (spl 22 0 0)] μ Q)
    refine jX.lr l9 (by rfl) (by rfl) (?_ : jX G jP 105 168 lv [.ref (spl 32 v9.1 v9.2), .ref (spl 22 0 0)] μ Q)
    refine jX.li l8 (by rfl) (by rfl) (?_ : jX G jP 105 170 lv [.int v8, .ref (spl 32 v9.1 v9.2), .ref (spl 22 0 0)] μ Q)
    obtain ⟨q1, e1, h⟩ := sbd h
    refine jX.c1 (v := .int q1.1) (by rfl) (by rfl) (by rfl) (by rfl) (by rfl) (by rfl) (by rfl) (R.rec (by rfl) (by rfl)) (Nat.le_of_ble_eq_true rfl) (Nat.le_of_ble_eq_true rfl) (F_95_ok R e1 (fun μ R => ⟨rfl, (?_ : jX G jP 105 173 lv [.int q1.1] μ Q)⟩))
    rcases bif_or h with ⟨hc, h⟩ | ⟨hc, h⟩
    · refine jX.b1t hc (by rfl) (by rfl) (by rfl) (?_ : jX G jP 105 204 lv [] μ Q)
      exact F_105_204_ok hk35 K v1 v2 v3 v4 v5 v6 _ _ _ l0 l1 l2 l3 l4 l5 l6 R h
    · refine jX.b1f hc (by rfl) (by rfl) (by rfl) (?_ : jX G jP 105 176 lv [] μ Q)
      refine jX.lrn l2 (by rfl) (by rfl) (?_ : jX G jP 105 177 lv [.ref (spl 29 v2.1 v2.2)] μ Q)
      refine jX.ic (v := nI 3) (n := 1) (by rfl) (by rfl) (by decide) (?_ : jX G jP 105 178 lv [.int (nI 3), .ref (spl 29 v2.1 v2.2)] μ Q)
      refine jX.li l4 (by rfl) (by rfl) (?_ : jX G jP 105 180 lv [.int v4, .int (nI 3), .ref (spl 29 v2.1 v2.2)] μ Q)
      refine jX.go (by rfl) (by rfl) (by rfl) (?_ : jX G jP 105 181 lv [.int ((nI 3) * v4), .ref (spl 29 v2.1 v2.2)] μ Q)
      obtain ⟨g2, h⟩ := jif_some h
      obtain ⟨q3, e3, h⟩ := sbd h
      refine jX.cv (by rfl) (by rfl) (by rfl) (by rfl) (by rfl) (by rfl) (by rfl) (R.rec g2 (by rfl)) (Nat.le_of_ble_eq_true rfl) (Nat.le_of_ble_eq_true rfl) (F_76_ok R e3 (fun μ R => ⟨rfl, (?_ : jX G jP 105 184 lv [] μ Q)⟩))
      refine jX.lrn l0 (by rfl) (by rfl) (?_ : jX G jP 105 185 lv [.ref (spl 22 0 0)] μ Q)
      refine jX.lr l9 (by rfl) (by rfl) (?_ : jX G jP 105 187 lv [.ref (spl 32 v9.1 v9.2), .ref (spl 22 0 0)] μ Q)
      refine jX.li l8 (by rfl) (by rfl) (?_ : jX G jP 105 189 lv [.int v8, .ref (spl 32 v9.1 v9.2), .ref (spl 22 0 0)] μ Q)
      refine jX.lrn l2 (by rfl) (by rfl) (?_ : jX G jP 105 190 lv [.ref (spl 29 v2.1 v2.2), .int v8, .ref (spl 32 v9.1 v9.2), .ref (spl 22 0 0)] μ Q)
      obtain ⟨q4, e4, h⟩ := sbd h
      refine jX.c1 (v := .int q4.1) (by rfl) (by rfl) (by rfl) (by rfl) (by rfl) (by rfl) (by rfl) (R.rec (by rfl) (by rfl)) (Nat.le_of_ble_eq_true rfl) (Nat.le_of_ble_eq_true rfl) (F_99_ok R e4 (fun μ R => ⟨rfl, (?_ : jX G jP 105 193 lv [.int q4.1] μ Q)⟩))
      refine jX.go (by rfl) (by rfl) (by rfl) (?_ : jX G jP 105 194 lv [] μ Q)
      refine jX.lrn l2 (by rfl) (by rfl) (?_ : jX G jP 105 195 lv [.ref (spl 29 v2.1 v2.2)] μ Q)
      refine jX.li l6 (by rfl) (by rfl) (?_ : jX G jP 105 197 lv [.int v6, .ref (spl 29 v2.1 v2.2)] μ Q)
      refine jX.go (by rfl) (by rfl) (by rfl) (?_ : jX G jP 105 198 lv [.long v6.toInt64, .ref (spl 29 v2.1 v2.2)] μ Q)
      refine jX.ic (v := nI 0) (n := 1) (by rfl) (by rfl) (by decide) (?_ : jX G jP 105 199 lv [.int (nI 0), .long v6.toInt64, .ref (spl 29 v2.1 v2.2)] μ Q)
      obtain ⟨g5, h⟩ := jif_some h
      obtain ⟨q6, e6, h⟩ := sbd h
      refine jX.cv (by rfl) (by rfl) (by rfl) (by rfl) (by rfl) (by rfl) (by rfl) (R.rec g5 (by rfl)) (Nat.le_of_ble_eq_true rfl) (Nat.le_of_ble_eq_true rfl) (F_78_ok R e6 (fun μ R => ⟨rfl, (?_ : jX G jP 105 202 lv [] μ Q)⟩))
      refine jX.ic (v := nI 0) (n := 1) (by rfl) (by rfl) (by decide) (?_ : jX G jP 105 203 lv [.int (nI 0)] μ Q)
      exact jX.ret (by rfl) (by rfl) (by rfl) (by rfl) (sretv (f := srI) h K R)
def F_105_115 (G : jG) (t : Nat) (k35 : (Nat × Nat) → (Nat × Nat) → Int32 → Int32 → Int32 → Int32 → sS → Option (Int32 × sS)) (v1 : (Nat × Nat)) (v2 : (Nat × Nat)) (v3 : Int32) (v4 : Int32) (v5 : Int32) (v6 : Int32) (v7 : Int32) (v8 : Int32) (v9 : (Nat × Nat)) (v10 : Int32) (S : sS) : Option (Int32 × sS) := bif jcmp .eq v10 0 then (F_105_160 G t k35 v1 v2 v3 v4 v5 v6 v8 v9 v10 S) else ((F_92 G t v9 v8 v2 (v7 + (nI 2)) S).bind (fun q1 => bif jcmp .eq q1.1 0 then (F_105_160 G t k35 v1 v2 v3 v4 v5 v6 v8 v9 v10 q1.2) else (jif (sex q1.2.2.2.2.1 29 v2.1 v2.2) ((F_76 G t v2 ((nI 3) * v4) q1.2).bind (fun q3 => jif (sex q3.2.2.2.2.1 29 v2.1 v2.2) ((F_78 G t v2 0 (nI 0) q3.2).bind (fun q5 => jif (sex q5.2.2.2.2.1 29 v2.1 v2.2) ((F_78 G t v2 v6.toInt64 (nI 0) q5.2).bind (fun q7 => some ((nI 0), q7.2))))))))))
theorem F_105_115_ok {G : jG} {t : Nat} {k35 : (Nat × Nat) → (Nat × Nat) → Int32 → Int32 → Int32 → Int32 → sS → Option (Int32 × sS)} {r : Int32} {S' : sS} {Q : Option Value ⊕ Nat → jS → Prop} (hk35 : ∀ (v1 : (Nat × Nat)) (v2 : (Nat × Nat)) (v3 : Int32) (v4 : Int32) (v5 : Int32) (v6 : Int32) (S : sS) (lv : jL) (μ : jS), jld lv 0 = some (.ref (spl 22 0 0)) → jld lv 1 = some (.ref (spl 25 v1.1 v1.2)) → jld lv 2 = some (.ref (spl 29 v2.1 v2.2)) → jld lv 3 = some (.int v3) → jld lv 4 = some (.int v4) → jld lv 5 = some (.int v5) → jld lv 6 = some (.int v6) → sR S μ → k35 v1 v2 v3 v4 v5 v6 S = some (r, S') → jX G jP 105 35 lv [] μ Q) (K : ∀ μ', sR S' μ' → Q (srI r) μ') : ∀ (v1 : (Nat × Nat)) (v2 : (Nat × Nat)) (v3 : Int32) (v4 : Int32) (v5 : Int32) (v6 : Int32) (v7 : Int32) (v8 : Int32) (v9 : (Nat × Nat)) (v10 : Int32) (S : sS) (lv : jL) (μ : jS), jld lv 0 = some (.ref (spl 22 0 0)) → jld lv 1 = some (.ref (spl 25 v1.1 v1.2)) → jld lv 2 = some (.ref (spl 29 v2.1 v2.2)) → jld lv 3 = some (.int v3) → jld lv 4 = some (.int v4) → jld lv 5 = some (.int v5) → jld lv 6 = some (.int v6) → jld lv 7 = some (.int v7) → jld lv 8 = some (.int v8) → jld lv 9 = some (.ref (spl 32 v9.1 v9.2)) → jld lv 10 = some (.int v10) → sR S μ → F_105_115 G t k35 v1 v2 v3 v4 v5 v6 v7 v8 v9 v10 S = some (r, S') → jX G jP 105 115 lv [] μ Q := by
  intro v1 v2 v3 v4 v5 v6 v7 v8 v9 v10 S lv μ l0 l1 l2 l3 l4 l5 l6 l7 l8 l9 l10 R h
  unfold F_105_115 at h
  refine jX.li l10 (by rfl) (by rfl) (?_ : jX G jP 105 117 lv [.int v10] μ Q)
  rcases bif_or h with ⟨hc, h⟩ | ⟨hc, h⟩
  · refine jX.b1t hc (by rfl) (by rfl) (by rfl) (?_ : jX G jP 105 160 lv [] μ Q)
    exact F_105_160_ok hk35 K v1 v2 v3 v4 v5 v6 v8 v9 v10 _ _ _ l0 l1 l2 l3 l4 l5 l6 l8 l9 l10 R h
  · refine jX.b1f hc (by rfl) (by rfl) (by rfl) (?_ : jX G jP 105 120 lv [] μ Q)
    refine jX.lrn l0 (by rfl) (by rfl) (?_ : jX G jP 105 121 lv [.ref (spl 22 0 0)] μ Q)
    refine jX.lr l9 (by rfl) (by rfl) (?_ : jX G jP 105 123 lv [.ref (spl 32 v9.1 v9.2), .ref (spl 22 0 0)] μ Q)
    refine jX.li l8 (by rfl) (by rfl) (?_ : jX G jP 105 125 lv [.int v8, .ref (spl 32 v9.1 v9.2), .ref (spl 22 0 0)] μ Q)
    refine jX.lrn l2 (by rfl) (by rfl) (?_ : jX G jP 105 126 lv [.ref (spl 29 v2.1 v2.2), .int v8, .ref (spl 32 v9.1 v9.2), .ref (spl 22 0 0)] μ Q)
    refine jX.li l7 (by rfl) (by rfl) (?_ : jX G jP 105 128 lv [.int v7, .ref (spl 29 v2.1 v2.2), .int v8, .ref (spl 32 v9.1 v9.2), .ref (spl 22 0 0)] μ Q)
    refine jX.ic (v := nI 2) (n := 1) (by rfl) (by rfl) (by decide) (?_ : jX G jP 105 129 lv [.int (nI 2), .int v7, .ref (spl 29 v2.1 v2.2), .int v8, .ref (spl 32 v9.1 v9.2), .ref (spl 22 0 0)] μ Q)
    refine jX.go (by rfl) (by rfl) (by rfl) (?_ : jX G jP 105 130 lv [.int (v7 + (nI 2)), .ref (spl 29 v2.1 v2.2), .int v8, .ref (spl 32 v9.1 v9.2), .ref (spl 22 0 0)] μ Q)
    obtain ⟨q1, e1, h⟩ := sbd h
    refine jX.c1 (v := .int q1.1) (by rfl) (by rfl) (by rfl) (by rfl) (by rfl) (by rfl) (by rfl) (R.rec (by rfl) (by rfl)) (Nat.le_of_ble_eq_true rfl) (Nat.le_of_ble_eq_true rfl) (F_92_ok R e1 (fun μ R => ⟨rfl, (?_ : jX G jP 105 133 lv [.int q1.1] μ Q)⟩))
    rcases bif_or h with ⟨hc, h⟩ | ⟨hc, h⟩
    · refine jX.b1t hc (by rfl) (by rfl) (by rfl) (?_ : jX G jP 105 160 lv [] μ Q)
      exact F_105_160_ok hk35 K v1 v2 v3 v4 v5 v6 v8 v9 v10 _ _ _ l0 l1 l2 l3 l4 l5 l6 l8 l9 l10 R h
    · refine jX.b1f hc (by rfl) (by rfl) (by rfl) (?_ : jX G jP 105 136 lv [] μ Q)
      refine jX.lrn l2 (by rfl) (by rfl) (?_ : jX G jP 105 137 lv [.ref (spl 29 v2.1 v2.2)] μ Q)
      refine jX.ic (v := nI 3) (n := 1) (by rfl) (by rfl) (by decide) (?_ : jX G jP 105 138 lv [.int (nI 3), .ref (spl 29 v2.1 v2.2)] μ Q)
      refine jX.li l4 (by rfl) (by rfl) (?_ : jX G jP 105 140 lv [.int v4, .int (nI 3), .ref (spl 29 v2.1 v2.2)] μ Q)
      refine jX.go (by rfl) (by rfl) (by rfl) (?_ : jX G jP 105 141 lv [.int ((nI 3) * v4), .ref (spl 29 v2.1 v2.2)] μ Q)
      obtain ⟨g2, h⟩ := jif_some h
      obtain ⟨q3, e3, h⟩ := sbd h
      refine jX.cv (by rfl) (by rfl) (by rfl) (by rfl) (by rfl) (by rfl) (by rfl) (R.rec g2 (by rfl)) (Nat.le_of_ble_eq_true rfl) (Nat.le_of_ble_eq_true rfl) (F_76_ok R e3 (fun μ R => ⟨rfl, (?_ : jX G jP 105 144 lv [] μ Q)⟩))
      refine jX.lrn l2 (by rfl) (by rfl) (?_ : jX G jP 105 145 lv [.ref (spl 29 v2.1 v2.2)] μ Q)
      refine jX.go (by rfl) (by rfl) (by rfl) (?_ : jX G jP 105 146 lv [.long 0, .ref (spl 29 v2.1 v2.2)] μ Q)
      refine jX.ic (v := nI 0) (n := 1) (by rfl) (by rfl) (by decide) (?_ : jX G jP 105 147 lv [.int (nI 0), .long 0, .ref (spl 29 v2.1 v2.2)] μ Q)
      obtain ⟨g4, h⟩ := jif_some h
      obtain ⟨q5, e5, h⟩ := sbd h
      refine jX.cv (by rfl) (by rfl) (by rfl) (by rfl) (by rfl) (by rfl) (by rfl) (R.rec g4 (by rfl)) (Nat.le_of_ble_eq_true rfl) (Nat.le_of_ble_eq_true rfl) (F_78_ok R e5 (fun μ R => ⟨rfl, (?_ : jX G jP 105 150 lv [] μ Q)⟩))
      refine jX.lrn l2 (by rfl) (by rfl) (?_ : jX G jP 105 151 lv [.ref (spl 29 v2.1 v2.2)] μ Q)
      refine jX.li l6 (by rfl) (by rfl) (?_ : jX G jP 105 153 lv [.int v6, .ref (spl 29 v2.1 v2.2)] μ Q)
      refine jX.go (by rfl) (by rfl) (by rfl) (?_ : jX G jP 105 154 lv [.long v6.toInt64, .ref (spl 29 v2.1 v2.2)] μ Q)
      refine jX.ic (v := nI 0) (n := 1) (by rfl) (by rfl) (by decide) (?_ : jX G jP 105 155 lv [.int (nI 0), .long v6.toInt64, .ref (spl 29 v2.1 v2.2)] μ Q)
      obtain ⟨g6, h⟩ := jif_some h
      obtain ⟨q7, e7, h⟩ := sbd h
      refine jX.cv (by rfl) (by rfl) (by rfl) (by rfl) (by rfl) (by rfl) (by rfl) (R.rec g6 (by rfl)) (Nat.le_of_ble_eq_true rfl) (Nat.le_of_ble_eq_true rfl) (F_78_ok R e7 (fun μ R => ⟨rfl, (?_ : jX G jP 105 158 lv [] μ Q)⟩))
      refine jX.ic (v := nI 0) (n := 1) (by rfl) (by rfl) (by decide) (?_ : jX G jP 105 159 lv [.int (nI 0)] μ Q)
      exact jX.ret (by rfl) (by rfl) (by rfl) (by rfl) (sretv (f := srI) h K R)
def F_105_97 (G : jG) (t : Nat) (k35 : (Nat × Nat) → (Nat × Nat) → Int32 → Int32 → Int32 → Int32 → sS → Option (Int32 × sS)) (v1 : (Nat × Nat)) (v2 : (Nat × Nat)) (v3 : Int32) (v4 : Int32) (v5 : Int32) (v6 : Int32) (v7 : Int32) (v8 : Int32) (v9 : (Nat × Nat)) (w0 : Int32) (S : sS) : Option (Int32 × sS) := bif jcmp .eq w0 0 then (F_105_115 G t k35 v1 v2 v3 v4 v5 v6 v7 v8 v9 w0 S) else (jif (sex S.2.2.2.1 32 v9.1 v9.2) (bif jcmp .eq (S.1 32 v9.1 v9.2 4) 0 then (F_105_115 G t k35 v1 v2 v3 v4 v5 v6 v7 v8 v9 w0 S) else (some ((-4), S))))
theorem F_105_97_ok {G : jG} {t : Nat} {k35 : (Nat × Nat) → (Nat × Nat) → Int32 → Int32 → Int32 → Int32 → sS → Option (Int32 × sS)} {r : Int32} {S' : sS} {Q : Option Value ⊕ Nat → jS → Prop} (hk35 : ∀ (v1 : (Nat × Nat)) (v2 : (Nat × Nat)) (v3 : Int32) (v4 : Int32) (v5 : Int32) (v6 : Int32) (S : sS) (lv : jL) (μ : jS), jld lv 0 = some (.ref (spl 22 0 0)) → jld lv 1 = some (.ref (spl 25 v1.1 v1.2)) → jld lv 2 = some (.ref (spl 29 v2.1 v2.2)) → jld lv 3 = some (.int v3) → jld lv 4 = some (.int v4) → jld lv 5 = some (.int v5) → jld lv 6 = some (.int v6) → sR S μ → k35 v1 v2 v3 v4 v5 v6 S = some (r, S') → jX G jP 105 35 lv [] μ Q) (K : ∀ μ', sR S' μ' → Q (srI r) μ') : ∀ (v1 : (Nat × Nat)) (v2 : (Nat × Nat)) (v3 : Int32) (v4 : Int32) (v5 : Int32) (v6 : Int32) (v7 : Int32) (v8 : Int32) (v9 : (Nat × Nat)) (w0 : Int32) (S : sS) (lv : jL) (μ : jS), jld lv 0 = some (.ref (spl 22 0 0)) → jld lv 1 = some (.ref (spl 25 v1.1 v1.2)) → jld lv 2 = some (.ref (spl 29 v2.1 v2.2)) → jld lv 3 = some (.int v3) → jld lv 4 = some (.int v4) → jld lv 5 = some (.int v5) → jld lv 6 = some (.int v6) → jld lv 7 = some (.int v7) → jld lv 8 = some (.int v8) → jld lv 9 = some (.ref (spl 32 v9.1 v9.2)) → sR S μ → F_105_97 G t k35 v1 v2 v3 v4 v5 v6 v7 v8 v9 w0 S = some (r, S') → jX G jP 105 97 lv [.int w0] μ Q := by
  intro v1 v2 v3 v4 v5 v6 v7 v8 v9 w0 S lv μ l0 l1 l2 l3 l4 l5 l6 l7 l8 l9 R h
  unfold F_105_97 at h
  refine jX.s1 (k := 10) (pc' := 99) (by rfl) (by rfl) (by rfl) (fun lv l10 kp => (?_ : jX G jP 105 99 lv [] μ Q))
  replace l0 := kp 0 _ l0 (by rfl) (by first | rfl | simp [soR_cat])
  replace l1 := kp 1 _ l1 (by rfl) (by first | rfl | simp [soR_cat])
  replace l2 := kp 2 _ l2 (by rfl) (by first | rfl | simp [soR_cat])
  replace l3 := kp 3 _ l3 (by rfl) (by first | rfl | simp [soR_cat])
  replace l4 := kp 4 _ l4 (by rfl) (by first | rfl | simp [soR_cat])
  replace l5 := kp 5 _ l5 (by rfl) (by first | rfl | simp [soR_cat])
  replace l6 := kp 6 _ l6 (by rfl) (by first | rfl | simp [soR_cat])
  replace l7 := kp 7 _ l7 (by rfl) (by first | rfl | simp [soR_cat])
  replace l8 := kp 8 _ l8 (by rfl) (by first | rfl | simp [soR_cat])
  replace l9 := kp 9 _ l9 (by rfl) (by first | rfl | simp [soR_cat])
  refine jX.li l10 (by rfl) (by rfl) (?_ : jX G jP 105 101 lv [.int w0] μ Q)
  rcases bif_or h with ⟨hc, h⟩ | ⟨hc, h⟩
  · refine jX.b1t hc (by rfl) (by rfl) (by rfl) (?_ : jX G jP 105 115 lv [] μ Q)
    exact F_105_115_ok hk35 K v1 v2 v3 v4 v5 v6 v7 v8 v9 w0 _ _ _ l0 l1 l2 l3 l4 l5 l6 l7 l8 l9 l10 R h
  · refine jX.b1f hc (by rfl) (by rfl) (by rfl) (?_ : jX G jP 105 104 lv [] μ Q)
    refine jX.lr l9 (by rfl) (by rfl) (?_ : jX G jP 105 106 lv [.ref (spl 32 v9.1 v9.2)] μ Q)
    obtain ⟨g1, h⟩ := jif_some h
    refine jX.sg R g1 (by rfl) (by rfl) (by rfl) (by rfl) (by rfl) (?_ : jX G jP 105 109 lv [.int (S.1 32 v9.1 v9.2 4)] μ Q)
    rcases bif_or h with ⟨hc, h⟩ | ⟨hc, h⟩
    · refine jX.b1t hc (by rfl) (by rfl) (by rfl) (?_ : jX G jP 105 115 lv [] μ Q)
      exact F_105_115_ok hk35 K v1 v2 v3 v4 v5 v6 v7 v8 v9 w0 _ _ _ l0 l1 l2 l3 l4 l5 l6 l7 l8 l9 l10 R h
    · refine jX.b1f hc (by rfl) (by rfl) (by rfl) (?_ : jX G jP 105 112 lv [] μ Q)
      refine jX.ic (v := (-4)) (n := 2) (by rfl) (by rfl) (by decide) (?_ : jX G jP 105 114 lv [.int (-4)] μ Q)
      exact jX.ret (by rfl) (by rfl) (by rfl) (by rfl) (sretv (f := srI) h K R)
def F_105_35 (G : jG) (t : Nat) : Nat → (Nat × Nat) → (Nat × Nat) → Int32 → Int32 → Int32 → Int32 → sS → Option (Int32 × sS)
  | 0 => fun _ _ _ _ _ _ _ => none
  | tt + 1 => fun v1 v2 v3 v4 v5 v6 S => bif jcmp .ge v6 v4 then (bif jcmp .lt v3 (nI 8) then ((F_93 G t v1 (nI 4) v4 S).bind (fun q1 => some ((nI 0), q1.2))) else (jif (sex S.2.2.2.1 29 v2.1 v2.2) ((F_76 G t v2 ((nI 3) * v4) S).bind (fun q3 => jif (sex q3.2.2.2.2.1 29 v2.1 v2.2) ((F_78 G t v2 0 (nI 0) q3.2).bind (fun q5 => jif (sex q5.2.2.2.2.1 29 v2.1 v2.2) ((F_78 G t v2 (-1) (nI 0) q5.2).bind (fun q7 => some ((nI 0), q7.2))))))))) else (jif (sex S.2.2.2.1 29 v2.1 v2.2) ((F_27 G t v2 (v5 + ((nI 3) * v6)) S).bind (fun q9 => (F_87 G t q9.1 (nI 3) q9.2).bind (fun q10 => sif q10.1 (F_105_204 G t (F_105_35 G t tt) v1 v2 v3 v4 v5 v6 q10.2) (fun a11 => jif (sex q10.2.2.2.2.1 29 v2.1 v2.2) ((F_26 G t v2 ((v5 + ((nI 3) * v6)) + (nI 1)) q10.2).bind (fun q13 => bif jcmp .eq (lg_cmp q13.1 0) 0 then (F_105_97 G t (F_105_35 G t tt) v1 v2 v3 v4 v5 v6 (v5 + ((nI 3) * v6)) q9.1 a11 (nI 0) q13.2) else (F_105_97 G t (F_105_35 G t tt) v1 v2 v3 v4 v5 v6 (v5 + ((nI 3) * v6)) q9.1 a11 (nI 1) q13.2))))))))
theorem F_105_35_ok {G : jG} {t : Nat} {r : Int32} {S' : sS} {Q : Option Value ⊕ Nat → jS → Prop} (K : ∀ μ', sR S' μ' → Q (srI r) μ') : ∀ tt : Nat, ∀ (v1 : (Nat × Nat)) (v2 : (Nat × Nat)) (v3 : Int32) (v4 : Int32) (v5 : Int32) (v6 : Int32) (S : sS) (lv : jL) (μ : jS), jld lv 0 = some (.ref (spl 22 0 0)) → jld lv 1 = some (.ref (spl 25 v1.1 v1.2)) → jld lv 2 = some (.ref (spl 29 v2.1 v2.2)) → jld lv 3 = some (.int v3) → jld lv 4 = some (.int v4) → jld lv 5 = some (.int v5) → jld lv 6 = some (.int v6) → sR S μ → F_105_35 G t tt v1 v2 v3 v4 v5 v6 S = some (r, S') → jX G jP 105 35 lv [] μ Q := by
  intro tt
  induction tt with
  | zero =>
    intro v1 v2 v3 v4 v5 v6 S lv μ l0 l1 l2 l3 l4 l5 l6 R h
    rw [F_105_35] at h
    cases h
  | succ tt ih =>
    intro v1 v2 v3 v4 v5 v6 S lv μ l0 l1 l2 l3 l4 l5 l6 R h
    rw [F_105_35] at h
    refine jX.li l6 (by rfl) (by rfl) (?_ : jX G jP 105 37 lv [.int v6] μ Q)
    refine jX.li l4 (by rfl) (by rfl) (?_ : jX G jP 105 39 lv [.int v4, .int v6] μ Q)
    rcases bif_or h with ⟨hc, h⟩ | ⟨hc, h⟩
    · refine jX.b2t hc (by rfl) (by rfl) (by rfl) (?_ : jX G jP 105 210 lv [] μ Q)
      refine jX.lin l3 (by rfl) (by rfl) (?_ : jX G jP 105 211 lv [.int v3] μ Q)
      refine jX.ic (v := nI 8) (n := 2) (by rfl) (by rfl) (by decide) (?_ : jX G jP 105 213 lv [.int (nI 8), .int v3] μ Q)
      rcases bif_or h with ⟨hc, h⟩ | ⟨hc, h⟩
      · refine jX.b2t hc (by rfl) (by rfl) (by rfl) (?_ : jX G jP 105 241 lv [] μ Q)
        refine jX.lrn l0 (by rfl) (by rfl) (?_ : jX G jP 105 242 lv [.ref (spl 22 0 0)] μ Q)
        refine jX.sg R (by rfl) (by rfl) (by rfl) (by rfl) (by rfl) (by rfl) (?_ : jX G jP 105 245 lv [.ref (spl 8 0 0)] μ Q)
        refine jX.lrn l1 (by rfl) (by rfl) (?_ : jX G jP 105 246 lv [.ref (spl 25 v1.1 v1.2), .ref (spl 8 0 0)] μ Q)
        refine jX.ic (v := nI 4) (n := 1) (by rfl) (by rfl) (by decide) (?_ : jX G jP 105 247 lv [.int (nI 4), .ref (spl 25 v1.1 v1.2), .ref (spl 8 0 0)] μ Q)
        refine jX.li l4 (by rfl) (by rfl) (?_ : jX G jP 105 249 lv [.int v4, .int (nI 4), .ref (spl 25 v1.1 v1.2), .ref (spl 8 0 0)] μ Q)
        obtain ⟨q1, e1, h⟩ := sbd h
        refine jX.cv (by rfl) (by rfl) (by rfl) (by rfl) (by rfl) (by rfl) (by rfl) (R.rec (by rfl) (by rfl)) (Nat.le_of_ble_eq_true rfl) (Nat.le_of_ble_eq_true rfl) (F_93_ok R e1 (fun μ R => ⟨rfl, (?_ : jX G jP 105 252 lv [] μ Q)⟩))
        refine jX.ic (v := nI 0) (n := 1) (by rfl) (by rfl) (by decide) (?_ : jX G jP 105 253 lv [.int (nI 0)] μ Q)
        exact jX.ret (by rfl) (by rfl) (by rfl) (by rfl) (sretv (f := srI) h K R)
      · refine jX.b2f hc (by rfl) (by rfl) (by rfl) (?_ : jX G jP 105 216 lv [] μ Q)
        refine jX.lrn l2 (by rfl) (by rfl) (?_ : jX G jP 105 217 lv [.ref (spl 29 v2.1 v2.2)] μ Q)
        refine jX.ic (v := nI 3) (n := 1) (by rfl) (by rfl) (by decide) (?_ : jX G jP 105 218 lv [.int (nI 3), .ref (spl 29 v2.1 v2.2)] μ Q)
        refine jX.li l4 (by rfl) (by rfl) (?_ : jX G jP 105 220 lv [.int v4, .int (nI 3), .ref (spl 29 v2.1 v2.2)] μ Q)
        refine jX.go (by rfl) (by rfl) (by rfl) (?_ : jX G jP 105 221 lv [.int ((nI 3) * v4), .ref (spl 29 v2.1 v2.2)] μ Q)
        obtain ⟨g2, h⟩ := jif_some h
        obtain ⟨q3, e3, h⟩ := sbd h
        refine jX.cv (by rfl) (by rfl) (by rfl) (by rfl) (by rfl) (by rfl) (by rfl) (R.rec g2 (by rfl)) (Nat.le_of_ble_eq_true rfl) (Nat.le_of_ble_eq_true rfl) (F_76_ok R e3 (fun μ R => ⟨rfl, (?_ : jX G jP 105 224 lv [] μ Q)⟩))
        refine jX.lrn l2 (by rfl) (by rfl) (?_ : jX G jP 105 225 lv [.ref (spl 29 v2.1 v2.2)] μ Q)
        refine jX.go (by rfl) (by rfl) (by rfl) (?_ : jX G jP 105 226 lv [.long 0, .ref (spl 29 v2.1 v2.2)] μ Q)
        refine jX.ic (v := nI 0) (n := 1) (by rfl) (by rfl) (by decide) (?_ : jX G jP 105 227 lv [.int (nI 0), .long 0, .ref (spl 29 v2.1 v2.2)] μ Q)
        obtain ⟨g4, h⟩ := jif_some h
        obtain ⟨q5, e5, h⟩ := sbd h
        refine jX.cv (by rfl) (by rfl) (by rfl) (by rfl) (by rfl) (by rfl) (by rfl) (R.rec g4 (by rfl)) (Nat.le_of_ble_eq_true rfl) (Nat.le_of_ble_eq_true rfl) (F_78_ok R e5 (fun μ R => ⟨rfl, (?_ : jX G jP 105 230 lv [] μ Q)⟩))
        refine jX.lrn l2 (by rfl) (by rfl) (?_ : jX G jP 105 231 lv [.ref (spl 29 v2.1 v2.2)] μ Q)
        refine jX.go (by rfl) (by rfl) (by rfl) (?_ : jX G jP 105 234 lv [.long (-1), .ref (spl 29 v2.1 v2.2)] μ Q)
        refine jX.ic (v := nI 0) (n := 1) (by rfl) (by rfl) (by decide) (?_ : jX G jP 105 235 lv [.int (nI 0), .long (-1), .ref (spl 29 v2.1 v2.2)] μ Q)
        obtain ⟨g6, h⟩ := jif_some h
        obtain ⟨q7, e7, h⟩ := sbd h
        refine jX.cv (by rfl) (by rfl) (by rfl) (by rfl) (by rfl) (by rfl) (by rfl) (R.rec g6 (by rfl)) (Nat.le_of_ble_eq_true rfl) (Nat.le_of_ble_eq_true rfl) (F_78_ok R e7 (fun μ R => ⟨rfl, (?_ : jX G jP 105 238 lv [] μ Q)⟩))
        refine jX.go (by rfl) (by rfl) (by rfl) (?_ : jX G jP 105 252 lv [] μ Q)
        refine jX.ic (v := nI 0) (n := 1) (by rfl) (by rfl) (by decide) (?_ : jX G jP 105 253 lv [.int (nI 0)] μ Q)
        exact jX.ret (by rfl) (by rfl) (by rfl) (by rfl) (sretv (f := srI) h K R)
    · refine jX.b2f hc (by rfl) (by rfl) (by rfl) (?_ : jX G jP 105 42 lv [] μ Q)
      refine jX.li l5 (by rfl) (by rfl) (?_ : jX G jP 105 44 lv [.int v5] μ Q)
      refine jX.ic (v := nI 3) (n := 1) (by rfl) (by rfl) (by decide) (?_ : jX G jP 105 45 lv [.int (nI 3), .int v5] μ Q)
      refine jX.li l6 (by rfl) (by rfl) (?_ : jX G jP 105 47 lv [.int v6, .int (nI 3), .int v5] μ Q)
      refine jX.go (by rfl) (by rfl) (by rfl) (?_ : jX G jP 105 48 lv [.int ((nI 3) * v6), .int v5] μ Q)
      refine jX.go (by rfl) (by rfl) (by rfl) (?_ : jX G jP 105 49 lv [.int (v5 + ((nI 3) * v6))] μ Q)
      refine jX.s1 (k := 7) (pc' := 51) (by rfl) (by rfl) (by rfl) (fun lv l7 kp => (?_ : jX G jP 105 51 lv [] μ Q))
      replace l0 := kp 0 _ l0 (by rfl) (by first | rfl | simp [soR_cat])
      replace l1 := kp 1 _ l1 (by rfl) (by first | rfl | simp [soR_cat])
      replace l2 := kp 2 _ l2 (by rfl) (by first | rfl | simp [soR_cat])
      replace l3 := kp 3 _ l3 (by rfl) (by first | rfl | simp [soR_cat])
      replace l4 := kp 4 _ l4 (by rfl) (by first | rfl | simp [soR_cat])
      replace l5 := kp 5 _ l5 (by rfl) (by first | rfl | simp [soR_cat])
      replace l6 := kp 6 _ l6 (by rfl) (by first | rfl | simp [soR_cat])
      refine jX.lrn l2 (by rfl) (by rfl) (?_ : jX G jP 105 52 lv [.ref (spl 29 v2.1 v2.2)] μ Q)
      refine jX.li l7 (by rfl) (by rfl) (?_ : jX G jP 105 54 lv [.int (v5 + ((nI 3) * v6)), .ref (spl 29 v2.1 v2.2)] μ Q)
      obtain ⟨g8, h⟩ := jif_some h
      obtain ⟨q9, e9, h⟩ := sbd h
      refine jX.c1 (v := .int q9.1) (by rfl) (by rfl) (by rfl) (by rfl) (by rfl) (by rfl) (by rfl) (R.rec g8 (by rfl)) (Nat.le_of_ble_eq_true rfl) (Nat.le_of_ble_eq_true rfl) (F_27_ok R e9 (fun μ R => ⟨rfl, (?_ : jX G jP 105 57 lv [.int q9.1] μ Q)⟩))
      refine jX.s1 (k := 8) (pc' := 59) (by rfl) (by rfl) (by rfl) (fun lv l8 kp => (?_ : jX G jP 105 59 lv [] μ Q))
      replace l0 := kp 0 _ l0 (by rfl) (by first | rfl | simp [soR_cat])
      replace l1 := kp 1 _ l1 (by rfl) (by first | rfl | simp [soR_cat])
      replace l2 := kp 2 _ l2 (by rfl) (by first | rfl | simp [soR_cat])
      replace l3 := kp 3 _ l3 (by rfl) (by first | rfl | simp [soR_cat])
      replace l4 := kp 4 _ l4 (by rfl) (by first | rfl | simp [soR_cat])
      replace l5 := kp 5 _ l5 (by rfl) (by first | rfl | simp [soR_cat])
      replace l6 := kp 6 _ l6 (by rfl) (by first | rfl | simp [soR_cat])
      replace l7 := kp 7 _ l7 (by rfl) (by first | rfl | simp [soR_cat])
      refine jX.lrn l0 (by rfl) (by rfl) (?_ : jX G jP 105 60 lv [.ref (spl 22 0 0)] μ Q)
      refine jX.sg R (by rfl) (by rfl) (by rfl) (by rfl) (by rfl) (by rfl) (?_ : jX G jP 105 63 lv [.ref (spl 11 0 0)] μ Q)
      refine jX.li l8 (by rfl) (by rfl) (?_ : jX G jP 105 65 lv [.int q9.1, .ref (spl 11 0 0)] μ Q)
      refine jX.ic (v := nI 3) (n := 1) (by rfl) (by rfl) (by decide) (?_ : jX G jP 105 66 lv [.int (nI 3), .int q9.1, .ref (spl 11 0 0)] μ Q)
      obtain ⟨q10, e10, h⟩ := sbd h
      refine jX.c1 (v := soR 32 q10.1) (by rfl) (by rfl) (by rfl) (by rfl) (by rfl) (by rfl) (by rfl) (R.rec (by rfl) (by rfl)) (Nat.le_of_ble_eq_true rfl) (Nat.le_of_ble_eq_true rfl) (F_87_ok R e10 (fun μ R => ⟨rfl, (?_ : jX G jP 105 69 lv [soR 32 q10.1] μ Q)⟩))
      refine jX.so (k := 9) (pc' := 71) (by rfl) (by rfl) (fun _ => by rfl) (by rfl) (fun lv l9 kp => (?_ : jX G jP 105 71 lv [] μ Q))
      replace l0 := kp 0 _ l0 (by rfl) (by first | rfl | simp [soR_cat])
      replace l1 := kp 1 _ l1 (by rfl) (by first | rfl | simp [soR_cat])
      replace l2 := kp 2 _ l2 (by rfl) (by first | rfl | simp [soR_cat])
      replace l3 := kp 3 _ l3 (by rfl) (by first | rfl | simp [soR_cat])
      replace l4 := kp 4 _ l4 (by rfl) (by first | rfl | simp [soR_cat])
      replace l5 := kp 5 _ l5 (by rfl) (by first | rfl | simp [soR_cat])
      replace l6 := kp 6 _ l6 (by rfl) (by first | rfl | simp [soR_cat])
      replace l7 := kp 7 _ l7 (by rfl) (by first | rfl | simp [soR_cat])
      replace l8 := kp 8 _ l8 (by rfl) (by first | rfl | simp [soR_cat])
      refine jX.lo l9 (by rfl) (by rfl) (?_ : jX G jP 105 73 lv [soR 32 q10.1] μ Q)
      rcases sif_or h with ⟨e11, h⟩ | ⟨a11, e11, h⟩
      · rw [soR_none (t := 32) e11]
        rw [soR_none (t := 32) e11] at l9
        refine jX.go (by rfl) (by rfl) (by rfl) (?_ : jX G jP 105 76 lv [] μ Q)
        refine jX.go (by rfl) (by rfl) (by rfl) (?_ : jX G jP 105 204 lv [] μ Q)
        exact F_105_204_ok ih K v1 v2 v3 v4 v5 v6 _ _ _ l0 l1 l2 l3 l4 l5 l6 R h
      · rw [soR_some (t := 32) e11]
        rw [soR_some (t := 32) e11] at l9
        refine jX.go (by rfl) (by rfl) (by rfl) (?_ : jX G jP 105 79 lv [] μ Q)
        refine jX.lrn l2 (by rfl) (by rfl) (?_ : jX G jP 105 80 lv [.ref (spl 29 v2.1 v2.2)] μ Q)
        refine jX.li l7 (by rfl) (by rfl) (?_ : jX G jP 105 82 lv [.int (v5 + ((nI 3) * v6)), .ref (spl 29 v2.1 v2.2)] μ Q)
        refine jX.ic (v := nI 1) (n := 1) (by rfl) (by rfl) (by decide) (?_ : jX G jP 105 83 lv [.int (nI 1), .int (v5 + ((nI 3) * v6)), .ref (spl 29 v2.1 v2.2)] μ Q)
        refine jX.go (by rfl) (by rfl) (by rfl) (?_ : jX G jP 105 84 lv [.int ((v5 + ((nI 3) * v6)) + (nI 1)), .ref (spl 29 v2.1 v2.2)] μ Q)
        obtain ⟨g12, h⟩ := jif_some h
        obtain ⟨q13, e13, h⟩ := sbd h
        refine jX.c1 (v := .long q13.1) (by rfl) (by rfl) (by rfl) (by rfl) (by rfl) (by rfl) (by rfl) (R.rec g12 (by rfl)) (Nat.le_of_ble_eq_true rfl) (Nat.le_of_ble_eq_true rfl) (F_26_ok R e13 (fun μ R => ⟨rfl, (?_ : jX G jP 105 87 lv [.long q13.1] μ Q)⟩))
        refine jX.go (by rfl) (by rfl) (by rfl) (?_ : jX G jP 105 88 lv [.long 0, .long q13.1] μ Q)
        refine jX.go (by rfl) (by rfl) (by rfl) (?_ : jX G jP 105 89 lv [.int (lg_cmp q13.1 0)] μ Q)
        rcases bif_or h with ⟨hc, h⟩ | ⟨hc, h⟩
        · refine jX.b1t hc (by rfl) (by rfl) (by rfl) (?_ : jX G jP 105 96 lv [] μ Q)
          refine jX.ic (v := nI 0) (n := 1) (by rfl) (by rfl) (by decide) (?_ : jX G jP 105 97 lv [.int (nI 0)] μ Q)
          exact F_105_97_ok ih K v1 v2 v3 v4 v5 v6 (v5 + ((nI 3) * v6)) q9.1 a11 (nI 0) _ _ _ l0 l1 l2 l3 l4 l5 l6 l7 l8 l9 R h
        · refine jX.b1f hc (by rfl) (by rfl) (by rfl) (?_ : jX G jP 105 92 lv [] μ Q)
          refine jX.ic (v := nI 1) (n := 1) (by rfl) (by rfl) (by decide) (?_ : jX G jP 105 93 lv [.int (nI 1)] μ Q)
          refine jX.go (by rfl) (by rfl) (by rfl) (?_ : jX G jP 105 97 lv [.int (nI 1)] μ Q)
          exact F_105_97_ok ih K v1 v2 v3 v4 v5 v6 (v5 + ((nI 3) * v6)) q9.1 a11 (nI 1) _ _ _ l0 l1 l2 l3 l4 l5 l6 l7 l8 l9 R h
def F_105 (G : jG) (t : Nat) (v1 : (Nat × Nat)) (v2 : (Nat × Nat)) (v3 : Int32) (S : sS) : Option (Int32 × sS) := jif (sex S.2.2.2.1 29 v2.1 v2.2) ((F_104 G t v2 ((S.1 29 v2.1 v2.2 2) - ((nI 3) * (v3 &&& (nI 7)))) (v3 &&& (nI 7)) S).bind (fun q2 => bif jcmp .ne q2.1 0 then (F_105_35 G t t v1 v2 v3 (v3 &&& (nI 7)) ((S.1 29 v2.1 v2.2 2) - ((nI 3) * (v3 &&& (nI 7)))) (nI 0) q2.2) else (some ((-2), q2.2))))
theorem F_105_ok {G : jG} {t : Nat} {v1 : (Nat × Nat)} {v2 : (Nat × Nat)} {v3 : Int32} {S : sS} {r : Int32} {S' : sS} {μ : jS} {Q : Option Value ⊕ Nat → jS → Prop} (R : sR S μ) (h : F_105 G t v1 v2 v3 S = some (r, S')) (K : ∀ μ', sR S' μ' → Q (srI r) μ') : jX G jP 105 0 (lv_args 0 [.ref (spl 22 0 0), .ref (spl 25 v1.1 v1.2), .ref (spl 29 v2.1 v2.2), .int v3]) [] μ Q := by
  unfold F_105 at h
  have l0 : jld (lv_args 0 [.ref (spl 22 0 0), .ref (spl 25 v1.1 v1.2), .ref (spl 29 v2.1 v2.2), .int v3]) 0 = some (.ref (spl 22 0 0)) := by rfl
  have l1 : jld (lv_args 0 [.ref (spl 22 0 0), .ref (spl 25 v1.1 v1.2), .ref (spl 29 v2.1 v2.2), .int v3]) 1 = some (.ref (spl 25 v1.1 v1.2)) := by rfl
  have l2 : jld (lv_args 0 [.ref (spl 22 0 0), .ref (spl 25 v1.1 v1.2), .ref (spl 29 v2.1 v2.2), .int v3]) 2 = some (.ref (spl 29 v2.1 v2.2)) := by rfl
  have l3 : jld (lv_args 0 [.ref (spl 22 0 0), .ref (spl 25 v1.1 v1.2), .ref (spl 29 v2.1 v2.2), .int v3]) 3 = some (.int v3) := by rfl
  generalize lv_args 0 [.ref (spl 22 0 0), .ref (spl 25 v1.1 v1.2), .ref (spl 29 v2.1 v2.2), .int v3] = lv at *
  refine jX.lin l3 (by rfl) (by rfl) (?_ : jX G jP 105 1 lv [.int v3] μ Q)
  refine jX.ic (v := nI 7) (n := 2) (by rfl) (by rfl) (by decide) (?_ : jX G jP 105 3 lv [.int (nI 7), .int v3] μ Q)
  refine jX.go (by rfl) (by rfl) (by rfl) (?_ : jX G jP 105 4 lv [.int (v3 &&& (nI 7))] μ Q)
  refine jX.s1 (k := 4) (pc' := 6) (by rfl) (by rfl) (by rfl) (fun lv l4 kp => (?_ : jX G jP 105 6 lv [] μ Q))
  replace l0 := kp 0 _ l0 (by rfl) (by first | rfl | simp [soR_cat])
  replace l1 := kp 1 _ l1 (by rfl) (by first | rfl | simp [soR_cat])
  replace l2 := kp 2 _ l2 (by rfl) (by first | rfl | simp [soR_cat])
  replace l3 := kp 3 _ l3 (by rfl) (by first | rfl | simp [soR_cat])
  refine jX.lrn l2 (by rfl) (by rfl) (?_ : jX G jP 105 7 lv [.ref (spl 29 v2.1 v2.2)] μ Q)
  obtain ⟨g1, h⟩ := jif_some h
  refine jX.sg R g1 (by rfl) (by rfl) (by rfl) (by rfl) (by rfl) (?_ : jX G jP 105 10 lv [.int (S.1 29 v2.1 v2.2 2)] μ Q)
  refine jX.ic (v := nI 3) (n := 1) (by rfl) (by rfl) (by decide) (?_ : jX G jP 105 11 lv [.int (nI 3), .int (S.1 29 v2.1 v2.2 2)] μ Q)
  refine jX.li l4 (by rfl) (by rfl) (?_ : jX G jP 105 13 lv [.int (v3 &&& (nI 7)), .int (nI 3), .int (S.1 29 v2.1 v2.2 2)] μ Q)
  refine jX.go (by rfl) (by rfl) (by rfl) (?_ : jX G jP 105 14 lv [.int ((nI 3) * (v3 &&& (nI 7))), .int (S.1 29 v2.1 v2.2 2)] μ Q)
  refine jX.go (by rfl) (by rfl) (by rfl) (?_ : jX G jP 105 15 lv [.int ((S.1 29 v2.1 v2.2 2) - ((nI 3) * (v3 &&& (nI 7))))] μ Q)
  refine jX.s1 (k := 5) (pc' := 17) (by rfl) (by rfl) (by rfl) (fun lv l5 kp => (?_ : jX G jP 105 17 lv [] μ Q))
  replace l0 := kp 0 _ l0 (by rfl) (by first | rfl | simp [soR_cat])
  replace l1 := kp 1 _ l1 (by rfl) (by first | rfl | simp [soR_cat])
  replace l2 := kp 2 _ l2 (by rfl) (by first | rfl | simp [soR_cat])
  replace l3 := kp 3 _ l3 (by rfl) (by first | rfl | simp [soR_cat])
  replace l4 := kp 4 _ l4 (by rfl) (by first | rfl | simp [soR_cat])
  refine jX.lrn l0 (by rfl) (by rfl) (?_ : jX G jP 105 18 lv [.ref (spl 22 0 0)] μ Q)
  refine jX.lrn l2 (by rfl) (by rfl) (?_ : jX G jP 105 19 lv [.ref (spl 29 v2.1 v2.2), .ref (spl 22 0 0)] μ Q)
  refine jX.li l5 (by rfl) (by rfl) (?_ : jX G jP 105 21 lv [.int ((S.1 29 v2.1 v2.2 2) - ((nI 3) * (v3 &&& (nI 7)))), .ref (spl 29 v2.1 v2.2), .ref (spl 22 0 0)] μ Q)
  refine jX.li l4 (by rfl) (by rfl) (?_ : jX G jP 105 23 lv [.int (v3 &&& (nI 7)), .int ((S.1 29 v2.1 v2.2 2) - ((nI 3) * (v3 &&& (nI 7)))), .ref (spl 29 v2.1 v2.2), .ref (spl 22 0 0)] μ Q)
  obtain ⟨q2, e2, h⟩ := sbd h
  refine jX.c1 (v := .int q2.1) (by rfl) (by rfl) (by rfl) (by rfl) (by rfl) (by rfl) (by rfl) (R.rec (by rfl) (by rfl)) (Nat.le_of_ble_eq_true rfl) (Nat.le_of_ble_eq_true rfl) (F_104_ok R e2 (fun μ R => ⟨rfl, (?_ : jX G jP 105 26 lv [.int q2.1] μ Q)⟩))
  rcases bif_or h with ⟨hc, h⟩ | ⟨hc, h⟩
  · refine jX.b1t hc (by rfl) (by rfl) (by rfl) (?_ : jX G jP 105 32 lv [] μ Q)
    refine jX.ic (v := nI 0) (n := 1) (by rfl) (by rfl) (by decide) (?_ : jX G jP 105 33 lv [.int (nI 0)] μ Q)
    refine jX.s1 (k := 6) (pc' := 35) (by rfl) (by rfl) (by rfl) (fun lv l6 kp => (?_ : jX G jP 105 35 lv [] μ Q))
    replace l0 := kp 0 _ l0 (by rfl) (by first | rfl | simp [soR_cat])
    replace l1 := kp 1 _ l1 (by rfl) (by first | rfl | simp [soR_cat])
    replace l2 := kp 2 _ l2 (by rfl) (by first | rfl | simp [soR_cat])
    replace l3 := kp 3 _ l3 (by rfl) (by first | rfl | simp [soR_cat])
    replace l4 := kp 4 _ l4 (by rfl) (by first | rfl | simp [soR_cat])
    replace l5 := kp 5 _ l5 (by rfl) (by first | rfl | simp [soR_cat])
    exact F_105_35_ok  K _ v1 v2 v3 (v3 &&& (nI 7)) ((S.1 29 v2.1 v2.2 2) - ((nI 3) * (v3 &&& (nI 7)))) (nI 0) _ _ _ l0 l1 l2 l3 l4 l5 l6 R h
  · refine jX.b1f hc (by rfl) (by rfl) (by rfl) (?_ : jX G jP 105 29 lv [] μ Q)
    refine jX.ic (v := (-2)) (n := 2) (by rfl) (by rfl) (by decide) (?_ : jX G jP 105 31 lv [.int (-2)] μ Q)
    exact jX.ret (by rfl) (by rfl) (by rfl) (by rfl) (sretv (f := srI) h K R)
/-! 106 StrandRuntime$Machine.write(J)V -/
def F_106 (G : jG) (t : Nat) (v1 : Int64) (S : sS) : Option (Unit × sS) := bif jcmp .ge (S.1 23 0 0 6) (nI 2000) then (some ((), S)) else (jif (decide (¬ (nI 2000) = 0)) (jif (jin (((S.1 23 0 0 5) + (S.1 23 0 0 6)) - ((S.1 23 0 0 5) + (S.1 23 0 0 6)) / (nI 2000) * (nI 2000)) 2000) (some ((), (siI (siL S 24 0 0 (((S.1 23 0 0 5) + (S.1 23 0 0 6)) - ((S.1 23 0 0 5) + (S.1 23 0 0 6)) / (nI 2000) * (nI 2000)).toNatClampNeg v1) 23 0 0 6 (((siL S 24 0 0 (((S.1 23 0 0 5) + (S.1 23 0 0 6)) - ((S.1 23 0 0 5) + (S.1 23 0 0 6)) / (nI 2000) * (nI 2000)).toNatClampNeg v1).1 23 0 0 6) + (nI 1)))))))
theorem F_106_ok {G : jG} {t : Nat} {v1 : Int64} {S : sS} {r : Unit} {S' : sS} {μ : jS} {Q : Option Value ⊕ Nat → jS → Prop} (R : sR S μ) (h : F_106 G t v1 S = some (r, S')) (K : ∀ μ', sR S' μ' → Q (srV r) μ') : jX G jP 106 0 (lv_args 0 [.ref (spl 23 0 0), .long v1]) [] μ Q := by
  unfold F_106 at h
  have l0 : jld (lv_args 0 [.ref (spl 23 0 0), .long v1]) 0 = some (.ref (spl 23 0 0)) := by rfl
  have l1 : jld (lv_args 0 [.ref (spl 23 0 0), .long v1]) 1 = some (.long v1) := by rfl
  generalize lv_args 0 [.ref (spl 23 0 0), .long v1] = lv at *
  refine jX.lrn l0 (by rfl) (by rfl) (?_ : jX G jP 106 1 lv [.ref (spl 23 0 0)] μ Q)
  refine jX.sg R (by rfl) (by rfl) (by rfl) (by rfl) (by rfl) (by rfl) (?_ : jX G jP 106 4 lv [.int (S.1 23 0 0 6)] μ Q)
  refine jX.ic (v := nI 2000) (n := 3) (by rfl) (by rfl) (by decide) (?_ : jX G jP 106 7 lv [.int (nI 2000), .int (S.1 23 0 0 6)] μ Q)
  rcases bif_or h with ⟨hc, h⟩ | ⟨hc, h⟩
  · refine jX.b2t hc (by rfl) (by rfl) (by rfl) (?_ : jX G jP 106 39 lv [] μ Q)
    exact jX.ret (by rfl) (by rfl) (by rfl) (by rfl) (sretv (f := srV) h K R)
  · refine jX.b2f hc (by rfl) (by rfl) (by rfl) (?_ : jX G jP 106 10 lv [] μ Q)
    refine jX.lrn l0 (by rfl) (by rfl) (?_ : jX G jP 106 11 lv [.ref (spl 23 0 0)] μ Q)
    refine jX.sg R (by rfl) (by rfl) (by rfl) (by rfl) (by rfl) (by rfl) (?_ : jX G jP 106 14 lv [.ref (spl 24 0 0)] μ Q)
    refine jX.lrn l0 (by rfl) (by rfl) (?_ : jX G jP 106 15 lv [.ref (spl 23 0 0), .ref (spl 24 0 0)] μ Q)
    refine jX.sg R (by rfl) (by rfl) (by rfl) (by rfl) (by rfl) (by rfl) (?_ : jX G jP 106 18 lv [.int (S.1 23 0 0 5), .ref (spl 24 0 0)] μ Q)
    refine jX.lrn l0 (by rfl) (by rfl) (?_ : jX G jP 106 19 lv [.ref (spl 23 0 0), .int (S.1 23 0 0 5), .ref (spl 24 0 0)] μ Q)
    refine jX.sg R (by rfl) (by rfl) (by rfl) (by rfl) (by rfl) (by rfl) (?_ : jX G jP 106 22 lv [.int (S.1 23 0 0 6), .int (S.1 23 0 0 5), .ref (spl 24 0 0)] μ Q)
    refine jX.go (by rfl) (by rfl) (by rfl) (?_ : jX G jP 106 23 lv [.int ((S.1 23 0 0 5) + (S.1 23 0 0 6)), .ref (spl 24 0 0)] μ Q)
    refine jX.ic (v := nI 2000) (n := 3) (by rfl) (by rfl) (by decide) (?_ : jX G jP 106 26 lv [.int (nI 2000), .int ((S.1 23 0 0 5) + (S.1 23 0 0 6)), .ref (spl 24 0 0)] μ Q)
    obtain ⟨g1, h⟩ := jif_some h
    refine jX.ir g1 (by rfl) (by rfl) (?_ : jX G jP 106 27 lv [.int (((S.1 23 0 0 5) + (S.1 23 0 0 6)) - ((S.1 23 0 0 5) + (S.1 23 0 0 6)) / (nI 2000) * (nI 2000)), .ref (spl 24 0 0)] μ Q)
    refine jX.lln l1 (by rfl) (by rfl) (?_ : jX G jP 106 28 lv [.long v1, .int (((S.1 23 0 0 5) + (S.1 23 0 0 6)) - ((S.1 23 0 0 5) + (S.1 23 0 0 6)) / (nI 2000) * (nI 2000)), .ref (spl 24 0 0)] μ Q)
    obtain ⟨g2, h⟩ := jif_some h
    refine jX.stl R (by rfl) (by rfl) (by rfl) (fun _ => by rfl) g2 (fun μ R => (?_ : jX G jP 106 29 lv [] μ Q))
    refine jX.lrn l0 (by rfl) (by rfl) (?_ : jX G jP 106 30 lv [.ref (spl 23 0 0)] μ Q)
    refine jX.go (by rfl) (by rfl) (by rfl) (?_ : jX G jP 106 31 lv [.ref (spl 23 0 0), .ref (spl 23 0 0)] μ Q)
    refine jX.sg R (by rfl) (by rfl) (by rfl) (by rfl) (by rfl) (by rfl) (?_ : jX G jP 106 34 lv [.int ((siL S 24 0 0 (((S.1 23 0 0 5) + (S.1 23 0 0 6)) - ((S.1 23 0 0 5) + (S.1 23 0 0 6)) / (nI 2000) * (nI 2000)).toNatClampNeg v1).1 23 0 0 6), .ref (spl 23 0 0)] μ Q)
    refine jX.ic (v := nI 1) (n := 1) (by rfl) (by rfl) (by decide) (?_ : jX G jP 106 35 lv [.int (nI 1), .int ((siL S 24 0 0 (((S.1 23 0 0 5) + (S.1 23 0 0 6)) - ((S.1 23 0 0 5) + (S.1 23 0 0 6)) / (nI 2000) * (nI 2000)).toNatClampNeg v1).1 23 0 0 6), .ref (spl 23 0 0)] μ Q)
    refine jX.go (by rfl) (by rfl) (by rfl) (?_ : jX G jP 106 36 lv [.int (((siL S 24 0 0 (((S.1 23 0 0 5) + (S.1 23 0 0 6)) - ((S.1 23 0 0 5) + (S.1 23 0 0 6)) / (nI 2000) * (nI 2000)).toNatClampNeg v1).1 23 0 0 6) + (nI 1)), .ref (spl 23 0 0)] μ Q)
    refine jX.spI R (by rfl) (by rfl) (by rfl) (by rfl) (by rfl) (by rfl) (by rfl) (by rfl) (by rfl) (fun μ R => (?_ : jX G jP 106 39 lv [] μ Q))
    exact jX.ret (by rfl) (by rfl) (by rfl) (by rfl) (sretv (f := srV) h K R)
/-! 107 StrandRuntime$Machine.useNumber(ILStrandRuntime$Strand;LStrandRuntime$Row;)I -/
def F_107 (G : jG) (t : Nat) (v1 : Int32) (v2 : (Nat × Nat)) (v3 : (Nat × Nat)) (S : sS) : Option (Int32 × sS) := jif (sex S.2.2.2.1 29 v3.1 v3.2) ((F_103 G t v3 ((S.1 29 v3.1 v3.2 2) - (nI 1)) S).bind (fun q2 => bif jcmp .ne q2.1 0 then (jif (sex q2.2.2.2.2.1 29 v3.1 v3.2) ((F_26 G t v3 ((S.1 29 v3.1 v3.2 2) - (nI 1)) q2.2).bind (fun q4 => jif (sex q4.2.2.2.2.1 29 v3.1 v3.2) ((F_76 G t v3 (nI 1) q4.2).bind (fun q6 => bif jcmp .ne v1 (nI 33) then (jif (sex q6.2.2.2.2.1 25 v2.1 v2.2) ((F_81 G t v2 (nI 2) q4.1 (nI 0) q6.2).bind (fun q8 => some ((nI 0), q8.2)))) else ((F_106 G t q4.1 q6.2).bind (fun q9 => some ((nI 0), q9.2)))))))) else (some ((-2), q2.2))))
theorem F_107_ok {G : jG} {t : Nat} {v1 : Int32} {v2 : (Nat × Nat)} {v3 : (Nat × Nat)} {S : sS} {r : Int32} {S' : sS} {μ : jS} {Q : Option Value ⊕ Nat → jS → Prop} (R : sR S μ) (h : F_107 G t v1 v2 v3 S = some (r, S')) (K : ∀ μ', sR S' μ' → Q (srI r) μ') : jX G jP 107 0 (lv_args 0 [.ref (spl 23 0 0), .int v1, .ref (spl 25 v2.1 v2.2), .ref (spl 29 v3.1 v3.2)]) [] μ Q := by
  unfold F_107 at h
  have l0 : jld (lv_args 0 [.ref (spl 23 0 0), .int v1, .ref (spl 25 v2.1 v2.2), .ref (spl 29 v3.1 v3.2)]) 0 = some (.ref (spl 23 0 0)) := by rfl
  have l1 : jld (lv_args 0 [.ref (spl 23 0 0), .int v1, .ref (spl 25 v2.1 v2.2), .ref (spl 29 v3.1 v3.2)]) 1 = some (.int v1) := by rfl
  have l2 : jld (lv_args 0 [.ref (spl 23 0 0), .int v1, .ref (spl 25 v2.1 v2.2), .ref (spl 29 v3.1 v3.2)]) 2 = some (.ref (spl 25 v2.1 v2.2)) := by rfl
  have l3 : jld (lv_args 0 [.ref (spl 23 0 0), .int v1, .ref (spl 25 v2.1 v2.2), .ref (spl 29 v3.1 v3.2)]) 3 = some (.ref (spl 29 v3.1 v3.2)) := by rfl
  generalize lv_args 0 [.ref (spl 23 0 0), .int v1, .ref (spl 25 v2.1 v2.2), .ref (spl 29 v3.1 v3.2)] = lv at *
  refine jX.lrn l3 (by rfl) (by rfl) (?_ : jX G jP 107 1 lv [.ref (spl 29 v3.1 v3.2)] μ Q)
  obtain ⟨g1, h⟩ := jif_some h
  refine jX.sg R g1 (by rfl) (by rfl) (by rfl) (by rfl) (by rfl) (?_ : jX G jP 107 4 lv [.int (S.1 29 v3.1 v3.2 2)] μ Q)
  refine jX.ic (v := nI 1) (n := 1) (by rfl) (by rfl) (by decide) (?_ : jX G jP 107 5 lv [.int (nI 1), .int (S.1 29 v3.1 v3.2 2)] μ Q)
  refine jX.go (by rfl) (by rfl) (by rfl) (?_ : jX G jP 107 6 lv [.int ((S.1 29 v3.1 v3.2 2) - (nI 1))] μ Q)
  refine jX.s1 (k := 4) (pc' := 8) (by rfl) (by rfl) (by rfl) (fun lv l4 kp => (?_ : jX G jP 107 8 lv [] μ Q))
  replace l0 := kp 0 _ l0 (by rfl) (by first | rfl | simp [soR_cat])
  replace l1 := kp 1 _ l1 (by rfl) (by first | rfl | simp [soR_cat])
  replace l2 := kp 2 _ l2 (by rfl) (by first | rfl | simp [soR_cat])
  replace l3 := kp 3 _ l3 (by rfl) (by first | rfl | simp [soR_cat])
  refine jX.lrn l3 (by rfl) (by rfl) (?_ : jX G jP 107 9 lv [.ref (spl 29 v3.1 v3.2)] μ Q)
  refine jX.li l4 (by rfl) (by rfl) (?_ : jX G jP 107 11 lv [.int ((S.1 29 v3.1 v3.2 2) - (nI 1)), .ref (spl 29 v3.1 v3.2)] μ Q)
  obtain ⟨q2, e2, h⟩ := sbd h
  refine jX.c1 (v := .int q2.1) (by rfl) (by rfl) (by rfl) (by rfl) (by rfl) (by rfl) (by rfl) (R.rec g1 (by rfl)) (Nat.le_of_ble_eq_true rfl) (Nat.le_of_ble_eq_true rfl) (F_103_ok R e2 (fun μ R => ⟨rfl, (?_ : jX G jP 107 14 lv [.int q2.1] μ Q)⟩))
  rcases bif_or h with ⟨hc, h⟩ | ⟨hc, h⟩
  · refine jX.b1t hc (by rfl) (by rfl) (by rfl) (?_ : jX G jP 107 20 lv [] μ Q)
    refine jX.lrn l3 (by rfl) (by rfl) (?_ : jX G jP 107 21 lv [.ref (spl 29 v3.1 v3.2)] μ Q)
    refine jX.li l4 (by rfl) (by rfl) (?_ : jX G jP 107 23 lv [.int ((S.1 29 v3.1 v3.2 2) - (nI 1)), .ref (spl 29 v3.1 v3.2)] μ Q)
    obtain ⟨g3, h⟩ := jif_some h
    obtain ⟨q4, e4, h⟩ := sbd h
    refine jX.c1 (v := .long q4.1) (by rfl) (by rfl) (by rfl) (by rfl) (by rfl) (by rfl) (by rfl) (R.rec g3 (by rfl)) (Nat.le_of_ble_eq_true rfl) (Nat.le_of_ble_eq_true rfl) (F_26_ok R e4 (fun μ R => ⟨rfl, (?_ : jX G jP 107 26 lv [.long q4.1] μ Q)⟩))
    refine jX.s2 (k := 5) (pc' := 28) (by rfl) (by rfl) (by rfl) (fun lv l5 kp => (?_ : jX G jP 107 28 lv [] μ Q))
    replace l0 := kp 0 _ l0 (by rfl) (by first | rfl | simp [soR_cat])
    replace l1 := kp 1 _ l1 (by rfl) (by first | rfl | simp [soR_cat])
    replace l2 := kp 2 _ l2 (by rfl) (by first | rfl | simp [soR_cat])
    replace l3 := kp 3 _ l3 (by rfl) (by first | rfl | simp [soR_cat])
    refine jX.lrn l3 (by rfl) (by rfl) (?_ : jX G jP 107 29 lv [.ref (spl 29 v3.1 v3.2)] μ Q)
    refine jX.ic (v := nI 1) (n := 1) (by rfl) (by rfl) (by decide) (?_ : jX G jP 107 30 lv [.int (nI 1), .ref (spl 29 v3.1 v3.2)] μ Q)
    obtain ⟨g5, h⟩ := jif_some h
    obtain ⟨q6, e6, h⟩ := sbd h
    refine jX.cv (by rfl) (by rfl) (by rfl) (by rfl) (by rfl) (by rfl) (by rfl) (R.rec g5 (by rfl)) (Nat.le_of_ble_eq_true rfl) (Nat.le_of_ble_eq_true rfl) (F_76_ok R e6 (fun μ R => ⟨rfl, (?_ : jX G jP 107 33 lv [] μ Q)⟩))
    refine jX.lin l1 (by rfl) (by rfl) (?_ : jX G jP 107 34 lv [.int v1] μ Q)
    refine jX.ic (v := nI 33) (n := 2) (by rfl) (by rfl) (by decide) (?_ : jX G jP 107 36 lv [.int (nI 33), .int v1] μ Q)
    rcases bif_or h with ⟨hc, h⟩ | ⟨hc, h⟩
    · refine jX.b2t hc (by rfl) (by rfl) (by rfl) (?_ : jX G jP 107 48 lv [] μ Q)
      refine jX.lrn l2 (by rfl) (by rfl) (?_ : jX G jP 107 49 lv [.ref (spl 25 v2.1 v2.2)] μ Q)
      refine jX.ic (v := nI 2) (n := 1) (by rfl) (by rfl) (by decide) (?_ : jX G jP 107 50 lv [.int (nI 2), .ref (spl 25 v2.1 v2.2)] μ Q)
      refine jX.ll l5 (by rfl) (by rfl) (?_ : jX G jP 107 52 lv [.long q4.1, .int (nI 2), .ref (spl 25 v2.1 v2.2)] μ Q)
      refine jX.ic (v := nI 0) (n := 1) (by rfl) (by rfl) (by decide) (?_ : jX G jP 107 53 lv [.int (nI 0), .long q4.1, .int (nI 2), .ref (spl 25 v2.1 v2.2)] μ Q)
      obtain ⟨g7, h⟩ := jif_some h
      obtain ⟨q8, e8, h⟩ := sbd h
      refine jX.cv (by rfl) (by rfl) (by rfl) (by rfl) (by rfl) (by rfl) (by rfl) (R.rec g7 (by rfl)) (Nat.le_of_ble_eq_true rfl) (Nat.le_of_ble_eq_true rfl) (F_81_ok R e8 (fun μ R => ⟨rfl, (?_ : jX G jP 107 56 lv [] μ Q)⟩))
      refine jX.ic (v := nI 0) (n := 1) (by rfl) (by rfl) (by decide) (?_ : jX G jP 107 57 lv [.int (nI 0)] μ Q)
      exact jX.ret (by rfl) (by rfl) (by rfl) (by rfl) (sretv (f := srI) h K R)
    · refine jX.b2f hc (by rfl) (by rfl) (by rfl) (?_ : jX G jP 107 39 lv [] μ Q)
      refine jX.lrn l0 (by rfl) (by rfl) (?_ : jX G jP 107 40 lv [.ref (spl 23 0 0)] μ Q)
      refine jX.ll l5 (by rfl) (by rfl) (?_ : jX G jP 107 42 lv [.long q4.1, .ref (spl 23 0 0)] μ Q)
      obtain ⟨q9, e9, h⟩ := sbd h
      refine jX.cv (by rfl) (by rfl) (by rfl) (by rfl) (by rfl) (by rfl) (by rfl) (R.rec (by rfl) (by rfl)) (Nat.le_of_ble_eq_true rfl) (Nat.le_of_ble_eq_true rfl) (F_106_ok R e9 (fun μ R => ⟨rfl, (?_ : jX G jP 107 45 lv [] μ Q)⟩))
      refine jX.go (by rfl) (by rfl) (by rfl) (?_ : jX G jP 107 56 lv [] μ Q)
      refine jX.ic (v := nI 0) (n := 1) (by rfl) (by rfl) (by decide) (?_ : jX G jP 107 57 lv [.int (nI 0)] μ Q)
      exact jX.ret (by rfl) (by rfl) (by rfl) (by rfl) (sretv (f := srI) h K R)
  · refine jX.b1f hc (by rfl) (by rfl) (by rfl) (?_ : jX G jP 107 17 lv [] μ Q)
    refine jX.ic (v := (-2)) (n := 2) (by rfl) (by rfl) (by decide) (?_ : jX G jP 107 19 lv [.int (-2)] μ Q)
    exact jX.ret (by rfl) (by rfl) (by rfl) (by rfl) (sretv (f := srI) h K R)
/-! 108 StrandRuntime$Frame.defer(I)Z -/
def F_108 (G : jG) (t : Nat) (v0 : (Nat × Nat)) (v1 : Int32) (S : sS) : Option (Int32 × sS) := jif (sex S.2.2.2.1 27 v0.1 v0.2) (jif (sex S.2.2.2.1 29 v0.1 2) (bif jcmp .lt (S.1 29 v0.1 2 2) (nI 6) then (jif (sex S.2.2.2.1 29 v0.1 1) (jif (sex S.2.2.2.1 28 v0.1 0) (jif (jin (S.1 29 v0.1 2 2) 6) ((F_26 G t (v0.1, 1) ((S.1 29 v0.1 1 2) - (nI 1)) (siI S 28 v0.1 0 (S.1 29 v0.1 2 2).toNatClampNeg v1)).bind (fun q6 => jif (sex q6.2.2.2.2.1 27 v0.1 v0.2) (jif (sex q6.2.2.2.2.1 29 v0.1 1) ((F_27 G t (v0.1, 1) ((S.1 29 v0.1 1 2) - (nI 1)) q6.2).bind (fun q9 => jif (sex q9.2.2.2.2.1 29 v0.1 2) ((F_78 G t (v0.1, 2) q6.1 q9.1 q9.2).bind (fun q11 => jif (sex q11.2.2.2.2.1 27 v0.1 v0.2) (jif (sex q11.2.2.2.2.1 29 v0.1 1) ((F_76 G t (v0.1, 1) (nI 1) q11.2).bind (fun q14 => some ((nI 1), q14.2)))))))))))))) else (some ((nI 0), S))))
theorem F_108_ok {G : jG} {t : Nat} {v0 : (Nat × Nat)} {v1 : Int32} {S : sS} {r : Int32} {S' : sS} {μ : jS} {Q : Option Value ⊕ Nat → jS → Prop} (R : sR S μ) (h : F_108 G t v0 v1 S = some (r, S')) (K : ∀ μ', sR S' μ' → Q (srI r) μ') : jX G jP 108 0 (lv_args 0 [.ref (spl 27 v0.1 v0.2), .int v1]) [] μ Q := by
  unfold F_108 at h
  have l0 : jld (lv_args 0 [.ref (spl 27 v0.1 v0.2), .int v1]) 0 = some (.ref (spl 27 v0.1 v0.2)) := by rfl
  have l1 : jld (lv_args 0 [.ref (spl 27 v0.1 v0.2), .int v1]) 1 = some (.int v1) := by rfl
  generalize lv_args 0 [.ref (spl 27 v0.1 v0.2), .int v1] = lv at *
  refine jX.lrn l0 (by rfl) (by rfl) (?_ : jX G jP 108 1 lv [.ref (spl 27 v0.1 v0.2)] μ Q)
  obtain ⟨g1, h⟩ := jif_some h
  refine jX.sg R g1 (by rfl) (by rfl) (by rfl) (by rfl) (by rfl) (?_ : jX G jP 108 4 lv [.ref (spl 29 v0.1 2)] μ Q)
  obtain ⟨g2, h⟩ := jif_some h
  refine jX.sg R g2 (by rfl) (by rfl) (by rfl) (by rfl) (by rfl) (?_ : jX G jP 108 7 lv [.int (S.1 29 v0.1 2 2)] μ Q)
  refine jX.s1 (k := 2) (pc' := 8) (by rfl) (by rfl) (by rfl) (fun lv l2 kp => (?_ : jX G jP 108 8 lv [] μ Q))
  replace l0 := kp 0 _ l0 (by rfl) (by first | rfl | simp [soR_cat])
  replace l1 := kp 1 _ l1 (by rfl) (by first | rfl | simp [soR_cat])
  refine jX.lin l2 (by rfl) (by rfl) (?_ : jX G jP 108 9 lv [.int (S.1 29 v0.1 2 2)] μ Q)
  refine jX.ic (v := nI 6) (n := 2) (by rfl) (by rfl) (by decide) (?_ : jX G jP 108 11 lv [.int (nI 6), .int (S.1 29 v0.1 2 2)] μ Q)
  rcases bif_or h with ⟨hc, h⟩ | ⟨hc, h⟩
  · refine jX.b2t hc (by rfl) (by rfl) (by rfl) (?_ : jX G jP 108 16 lv [] μ Q)
    refine jX.lrn l0 (by rfl) (by rfl) (?_ : jX G jP 108 17 lv [.ref (spl 27 v0.1 v0.2)] μ Q)
    refine jX.sg R g1 (by rfl) (by rfl) (by rfl) (by rfl) (by rfl) (?_ : jX G jP 108 20 lv [.ref (spl 29 v0.1 1)] μ Q)
    obtain ⟨g3, h⟩ := jif_some h
    refine jX.sg R g3 (by rfl) (by rfl) (by rfl) (by rfl) (by rfl) (?_ : jX G jP 108 23 lv [.int (S.1 29 v0.1 1 2)] μ Q)
    refine jX.ic (v := nI 1) (n := 1) (by rfl) (by rfl) (by decide) (?_ : jX G jP 108 24 lv [.int (nI 1), .int (S.1 29 v0.1 1 2)] μ Q)
    refine jX.go (by rfl) (by rfl) (by rfl) (?_ : jX G jP 108 25 lv [.int ((S.1 29 v0.1 1 2) - (nI 1))] μ Q)
    refine jX.s1 (k := 3) (pc' := 26) (by rfl) (by rfl) (by rfl) (fun lv l3 kp => (?_ : jX G jP 108 26 lv [] μ Q))
    replace l0 := kp 0 _ l0 (by rfl) (by first | rfl | simp [soR_cat])
    replace l1 := kp 1 _ l1 (by rfl) (by first | rfl | simp [soR_cat])
    replace l2 := kp 2 _ l2 (by rfl) (by first | rfl | simp [soR_cat])
    refine jX.lrn l0 (by rfl) (by rfl) (?_ : jX G jP 108 27 lv [.ref (spl 27 v0.1 v0.2)] μ Q)
    refine jX.sg R g1 (by rfl) (by rfl) (by rfl) (by rfl) (by rfl) (?_ : jX G jP 108 30 lv [.ref (spl 28 v0.1 0)] μ Q)
    refine jX.lin l2 (by rfl) (by rfl) (?_ : jX G jP 108 31 lv [.int (S.1 29 v0.1 2 2), .ref (spl 28 v0.1 0)] μ Q)
    refine jX.lin l1 (by rfl) (by rfl) (?_ : jX G jP 108 32 lv [.int v1, .int (S.1 29 v0.1 2 2), .ref (spl 28 v0.1 0)] μ Q)
    obtain ⟨g4, h⟩ := jif_some h
    obtain ⟨g5, h⟩ := jif_some h
    refine jX.sti R g4 (by rfl) (by rfl) (fun _ => by rfl) g5 (fun μ R => (?_ : jX G jP 108 33 lv [] μ Q))
    refine jX.lrn l0 (by rfl) (by rfl) (?_ : jX G jP 108 34 lv [.ref (spl 27 v0.1 v0.2)] μ Q)
    refine jX.sg R g1 (by rfl) (by rfl) (by rfl) (by rfl) (by rfl) (?_ : jX G jP 108 37 lv [.ref (spl 29 v0.1 2)] μ Q)
    refine jX.lrn l0 (by rfl) (by rfl) (?_ : jX G jP 108 38 lv [.ref (spl 27 v0.1 v0.2), .ref (spl 29 v0.1 2)] μ Q)
    refine jX.sg R g1 (by rfl) (by rfl) (by rfl) (by rfl) (by rfl) (?_ : jX G jP 108 41 lv [.ref (spl 29 v0.1 1), .ref (spl 29 v0.1 2)] μ Q)
    refine jX.lin l3 (by rfl) (by rfl) (?_ : jX G jP 108 42 lv [.int ((S.1 29 v0.1 1 2) - (nI 1)), .ref (spl 29 v0.1 1), .ref (spl 29 v0.1 2)] μ Q)
    obtain ⟨q6, e6, h⟩ := sbd h
    refine jX.c1 (v := .long q6.1) (by rfl) (by rfl) (by rfl) (by rfl) (by rfl) (by rfl) (by rfl) (R.rec g3 (by rfl)) (Nat.le_of_ble_eq_true rfl) (Nat.le_of_ble_eq_true rfl) (F_26_ok R e6 (fun μ R => ⟨rfl, (?_ : jX G jP 108 45 lv [.long q6.1, .ref (spl 29 v0.1 2)] μ Q)⟩))
    refine jX.lrn l0 (by rfl) (by rfl) (?_ : jX G jP 108 46 lv [.ref (spl 27 v0.1 v0.2), .long q6.1, .ref (spl 29 v0.1 2)] μ Q)
    obtain ⟨g7, h⟩ := jif_some h
    refine jX.sg R g7 (by rfl) (by rfl) (by rfl) (by rfl) (by rfl) (?_ : jX G jP 108 49 lv [.ref (spl 29 v0.1 1), .long q6.1, .ref (spl 29 v0.1 2)] μ Q)
    refine jX.lin l3 (by rfl) (by rfl) (?_ : jX G jP 108 50 lv [.int ((S.1 29 v0.1 1 2) - (nI 1)), .ref (spl 29 v0.1 1), .long q6.1, .ref (spl 29 v0.1 2)] μ Q)
    obtain ⟨g8, h⟩ := jif_some h
    obtain ⟨q9, e9, h⟩ := sbd h
    refine jX.c1 (v := .int q9.1) (by rfl) (by rfl) (by rfl) (by rfl) (by rfl) (by rfl) (by rfl) (R.rec g8 (by rfl)) (Nat.le_of_ble_eq_true rfl) (Nat.le_of_ble_eq_true rfl) (F_27_ok R e9 (fun μ R => ⟨rfl, (?_ : jX G jP 108 53 lv [.int q9.1, .long q6.1, .ref (spl 29 v0.1 2)] μ Q)⟩))
    obtain ⟨g10, h⟩ := jif_some h
    obtain ⟨q11, e11, h⟩ := sbd h
    refine jX.cv (by rfl) (by rfl) (by rfl) (by rfl) (by rfl) (by rfl) (by rfl) (R.rec g10 (by rfl)) (Nat.le_of_ble_eq_true rfl) (Nat.le_of_ble_eq_true rfl) (F_78_ok R e11 (fun μ R => ⟨rfl, (?_ : jX G jP 108 56 lv [] μ Q)⟩))
    refine jX.lrn l0 (by rfl) (by rfl) (?_ : jX G jP 108 57 lv [.ref (spl 27 v0.1 v0.2)] μ Q)
    obtain ⟨g12, h⟩ := jif_some h
    refine jX.sg R g12 (by rfl) (by rfl) (by rfl) (by rfl) (by rfl) (?_ : jX G jP 108 60 lv [.ref (spl 29 v0.1 1)] μ Q)
    refine jX.ic (v := nI 1) (n := 1) (by rfl) (by rfl) (by decide) (?_ : jX G jP 108 61 lv [.int (nI 1), .ref (spl 29 v0.1 1)] μ Q)
    obtain ⟨g13, h⟩ := jif_some h
    obtain ⟨q14, e14, h⟩ := sbd h
    refine jX.cv (by rfl) (by rfl) (by rfl) (by rfl) (by rfl) (by rfl) (by rfl) (R.rec g13 (by rfl)) (Nat.le_of_ble_eq_true rfl) (Nat.le_of_ble_eq_true rfl) (F_76_ok R e14 (fun μ R => ⟨rfl, (?_ : jX G jP 108 64 lv [] μ Q)⟩))
    refine jX.ic (v := nI 1) (n := 1) (by rfl) (by rfl) (by decide) (?_ : jX G jP 108 65 lv [.int (nI 1)] μ Q)
    exact jX.ret (by rfl) (by rfl) (by rfl) (by rfl) (sretv (f := srI) h K R)
  · refine jX.b2f hc (by rfl) (by rfl) (by rfl) (?_ : jX G jP 108 14 lv [] μ Q)
    refine jX.ic (v := nI 0) (n := 1) (by rfl) (by rfl) (by decide) (?_ : jX G jP 108 15 lv [.int (nI 0)] μ Q)
    exact jX.ret (by rfl) (by rfl) (by rfl) (by rfl) (sretv (f := srI) h K R)
/-! 109 StrandRuntime$Strand.recover()V -/
def F_109_72 (G : jG) (t : Nat) (v1 : (Nat × Nat)) (S : sS) : Option (Unit × sS) := jif (sex S.2.2.2.1 27 v1.1 v1.2) (jif (sex S.2.2.2.1 29 v1.1 1) ((F_78 G t (v1.1, 1) 0 (nI 1) S).bind (fun q3 => some ((), q3.2))))
theorem F_109_72_ok {G : jG} {t : Nat} {r : Unit} {S' : sS} {Q : Option Value ⊕ Nat → jS → Prop} (K : ∀ μ', sR S' μ' → Q (srV r) μ') : ∀ (v1 : (Nat × Nat)) (S : sS) (lv : jL) (μ : jS), jld lv 1 = some (.ref (spl 27 v1.1 v1.2)) → sR S μ → F_109_72 G t v1 S = some (r, S') → jX G jP 109 72 lv [] μ Q := by
  intro v1 S lv μ l1 R h
  unfold F_109_72 at h
  refine jX.lrn l1 (by rfl) (by rfl) (?_ : jX G jP 109 73 lv [.ref (spl 27 v1.1 v1.2)] μ Q)
  obtain ⟨g1, h⟩ := jif_some h
  refine jX.sg R g1 (by rfl) (by rfl) (by rfl) (by rfl) (by rfl) (?_ : jX G jP 109 76 lv [.ref (spl 29 v1.1 1)] μ Q)
  refine jX.go (by rfl) (by rfl) (by rfl) (?_ : jX G jP 109 77 lv [.long 0, .ref (spl 29 v1.1 1)] μ Q)
  refine jX.ic (v := nI 1) (n := 1) (by rfl) (by rfl) (by decide) (?_ : jX G jP 109 78 lv [.int (nI 1), .long 0, .ref (spl 29 v1.1 1)] μ Q)
  obtain ⟨g2, h⟩ := jif_some h
  obtain ⟨q3, e3, h⟩ := sbd h
  refine jX.cv (by rfl) (by rfl) (by rfl) (by rfl) (by rfl) (by rfl) (by rfl) (R.rec g2 (by rfl)) (Nat.le_of_ble_eq_true rfl) (Nat.le_of_ble_eq_true rfl) (F_78_ok R e3 (fun μ R => ⟨rfl, (?_ : jX G jP 109 81 lv [] μ Q)⟩))
  exact jX.ret (by rfl) (by rfl) (by rfl) (by rfl) (sretv (f := srV) h K R)
def F_109_33 (G : jG) (t : Nat) (v1 : (Nat × Nat)) (w0 : (Option (Nat × Nat))) (S : sS) : Option (Unit × sS) := sif w0 (F_109_72 G t v1 S) (fun a1 => jif (sex S.2.2.2.1 27 a1.1 a1.2) (bif jcmp .ne (S.1 27 a1.1 a1.2 7) (nI 2) then (F_109_72 G t v1 S) else (jif (sex S.2.2.2.1 27 v1.1 v1.2) (jif (sex S.2.2.2.1 29 a1.1 3) ((F_26 G t (a1.1, 3) (nI 0) S).bind (fun q5 => jif (sex q5.2.2.2.2.1 29 v1.1 1) ((F_78 G t (v1.1, 1) q5.1 (nI 0) q5.2).bind (fun q7 => jif (sex q7.2.2.2.2.1 27 a1.1 a1.2) ((F_79 G t a1 (nI 1) 0 (nI 0) q7.2).bind (fun q9 => some ((), q9.2)))))))))))
theorem F_109_33_ok {G : jG} {t : Nat} {r : Unit} {S' : sS} {Q : Option Value ⊕ Nat → jS → Prop} (K : ∀ μ', sR S' μ' → Q (srV r) μ') : ∀ (v1 : (Nat × Nat)) (w0 : (Option (Nat × Nat))) (S : sS) (lv : jL) (μ : jS), jld lv 1 = some (.ref (spl 27 v1.1 v1.2)) → sR S μ → F_109_33 G t v1 w0 S = some (r, S') → jX G jP 109 33 lv [soR 27 w0] μ Q := by
  intro v1 w0 S lv μ l1 R h
  unfold F_109_33 at h
  refine jX.so (k := 2) (pc' := 34) (by rfl) (by rfl) (fun _ => by rfl) (by rfl) (fun lv l2 kp => (?_ : jX G jP 109 34 lv [] μ Q))
  replace l1 := kp 1 _ l1 (by rfl) (by first | rfl | simp [soR_cat])
  refine jX.lon l2 (by rfl) (by rfl) (?_ : jX G jP 109 35 lv [soR 27 w0] μ Q)
  rcases sif_or h with ⟨e1, h⟩ | ⟨a1, e1, h⟩
  · rw [soR_none (t := 27) e1]
    rw [soR_none (t := 27) e1] at l2
    refine jX.go (by rfl) (by rfl) (by rfl) (?_ : jX G jP 109 72 lv [] μ Q)
    exact F_109_72_ok  K v1 _ _ _ l1 R h
  · rw [soR_some (t := 27) e1]
    rw [soR_some (t := 27) e1] at l2
    refine jX.go (by rfl) (by rfl) (by rfl) (?_ : jX G jP 109 38 lv [] μ Q)
    refine jX.lrn l2 (by rfl) (by rfl) (?_ : jX G jP 109 39 lv [.ref (spl 27 a1.1 a1.2)] μ Q)
    obtain ⟨g2, h⟩ := jif_some h
    refine jX.sg R g2 (by rfl) (by rfl) (by rfl) (by rfl) (by rfl) (?_ : jX G jP 109 42 lv [.int (S.1 27 a1.1 a1.2 7)] μ Q)
    refine jX.ic (v := nI 2) (n := 1) (by rfl) (by rfl) (by decide) (?_ : jX G jP 109 43 lv [.int (nI 2), .int (S.1 27 a1.1 a1.2 7)] μ Q)
    rcases bif_or h with ⟨hc, h⟩ | ⟨hc, h⟩
    · refine jX.b2t hc (by rfl) (by rfl) (by rfl) (?_ : jX G jP 109 72 lv [] μ Q)
      exact F_109_72_ok  K v1 _ _ _ l1 R h
    · refine jX.b2f hc (by rfl) (by rfl) (by rfl) (?_ : jX G jP 109 46 lv [] μ Q)
      refine jX.lrn l1 (by rfl) (by rfl) (?_ : jX G jP 109 47 lv [.ref (spl 27 v1.1 v1.2)] μ Q)
      obtain ⟨g3, h⟩ := jif_some h
      refine jX.sg R g3 (by rfl) (by rfl) (by rfl) (by rfl) (by rfl) (?_ : jX G jP 109 50 lv [.ref (spl 29 v1.1 1)] μ Q)
      refine jX.lrn l2 (by rfl) (by rfl) (?_ : jX G jP 109 51 lv [.ref (spl 27 a1.1 a1.2), .ref (spl 29 v1.1 1)] μ Q)
      refine jX.sg R g2 (by rfl) (by rfl) (by rfl) (by rfl) (by rfl) (?_ : jX G jP 109 54 lv [.ref (spl 29 a1.1 3), .ref (spl 29 v1.1 1)] μ Q)
      refine jX.ic (v := nI 0) (n := 1) (by rfl) (by rfl) (by decide) (?_ : jX G jP 109 55 lv [.int (nI 0), .ref (spl 29 a1.1 3), .ref (spl 29 v1.1 1)] μ Q)
      obtain ⟨g4, h⟩ := jif_some h
      obtain ⟨q5, e5, h⟩ := sbd h
      refine jX.c1 (v := .long q5.1) (by rfl) (by rfl) (by rfl) (by rfl) (by rfl) (by rfl) (by rfl) (R.rec g4 (by rfl)) (Nat.le_of_ble_eq_true rfl) (Nat.le_of_ble_eq_true rfl) (F_26_ok R e5 (fun μ R => ⟨rfl, (?_ : jX G jP 109 58 lv [.long q5.1, .ref (spl 29 v1.1 1)] μ Q)⟩))
      refine jX.ic (v := nI 0) (n := 1) (by rfl) (by rfl) (by decide) (?_ : jX G jP 109 59 lv [.int (nI 0), .long q5.1, .ref (spl 29 v1.1 1)] μ Q)
      obtain ⟨g6, h⟩ := jif_some h
      obtain ⟨q7, e7, h⟩ := sbd h
      refine jX.cv (by rfl) (by rfl) (by rfl) (by rfl) (by rfl) (by rfl) (by rfl) (R.rec g6 (by rfl)) (Nat.le_of_ble_eq_true rfl) (Nat.le_of_ble_eq_true rfl) (F_78_ok R e7 (fun μ R => ⟨rfl, (?_ : jX G jP 109 62 lv [] μ Q)⟩))
      refine jX.lrn l2 (by rfl) (by rfl) (?_ : jX G jP 109 63 lv [.ref (spl 27 a1.1 a1.2)] μ Q)
      refine jX.ic (v := nI 1) (n := 1) (by rfl) (by rfl) (by decide) (?_ : jX G jP 109 64 lv [.int (nI 1), .ref (spl 27 a1.1 a1.2)] μ Q)
      refine jX.go (by rfl) (by rfl) (by rfl) (?_ : jX G jP 109 65 lv [.long 0, .int (nI 1), .ref (spl 27 a1.1 a1.2)] μ Q)
      refine jX.ic (v := nI 0) (n := 1) (by rfl) (by rfl) (by decide) (?_ : jX G jP 109 66 lv [.int (nI 0), .long 0, .int (nI 1), .ref (spl 27 a1.1 a1.2)] μ Q)
      obtain ⟨g8, h⟩ := jif_some h
      obtain ⟨q9, e9, h⟩ := sbd h
      refine jX.cv (by rfl) (by rfl) (by rfl) (by rfl) (by rfl) (by rfl) (by rfl) (R.rec g8 (by rfl)) (Nat.le_of_ble_eq_true rfl) (Nat.le_of_ble_eq_true rfl) (F_79_ok R e9 (fun μ R => ⟨rfl, (?_ : jX G jP 109 69 lv [] μ Q)⟩))
      refine jX.go (by rfl) (by rfl) (by rfl) (?_ : jX G jP 109 81 lv [] μ Q)
      exact jX.ret (by rfl) (by rfl) (by rfl) (by rfl) (sretv (f := srV) h K R)
def F_109 (G : jG) (t : Nat) (v0 : (Nat × Nat)) (S : sS) : Option (Unit × sS) := jif (sex S.2.2.2.1 25 v0.1 v0.2) ((F_66 G t v0 S).bind (fun q2 => sif q2.1 (some ((), q2.2)) (fun a3 => jif (sex q2.2.2.2.2.1 25 v0.1 v0.2) (bif jcmp .le (q2.2.1 25 v0.1 v0.2 3) (nI 1) then (F_109_33 G t a3 none q2.2) else (jif (sex q2.2.2.2.2.1 26 v0.1 0) (jif (jin ((q2.2.1 25 v0.1 v0.2 3) - (nI 2)) 30) (F_109_33 G t a3 ((q2.2.2.2.1.1 v0.1 ((q2.2.1 25 v0.1 v0.2 3) - (nI 2)).toNatClampNeg).map fun p => (p, 0)) q2.2)))))))
theorem F_109_ok {G : jG} {t : Nat} {v0 : (Nat × Nat)} {S : sS} {r : Unit} {S' : sS} {μ : jS} {Q : Option Value ⊕ Nat → jS → Prop} (R : sR S μ) (h : F_109 G t v0 S = some (r, S')) (K : ∀ μ', sR S' μ' → Q (srV r) μ') : jX G jP 109 0 (lv_args 0 [.ref (spl 25 v0.1 v0.2)]) [] μ Q := by
  unfold F_109 at h
  have l0 : jld (lv_args 0 [.ref (spl 25 v0.1 v0.2)]) 0 = some (.ref (spl 25 v0.1 v0.2)) := by rfl
  generalize lv_args 0 [.ref (spl 25 v0.1 v0.2)] = lv at *
  refine jX.lrn l0 (by rfl) (by rfl) (?_ : jX G jP 109 1 lv [.ref (spl 25 v0.1 v0.2)] μ Q)
  obtain ⟨g1, h⟩ := jif_some h
  obtain ⟨q2, e2, h⟩ := sbd h
  refine jX.c1 (v := soR 27 q2.1) (by rfl) (by rfl) (by rfl) (by rfl) (by rfl) (by rfl) (by rfl) (R.rec g1 (by rfl)) (Nat.le_of_ble_eq_true rfl) (Nat.le_of_ble_eq_true rfl) (F_66_ok R e2 (fun μ R => ⟨rfl, (?_ : jX G jP 109 4 lv [soR 27 q2.1] μ Q)⟩))
  refine jX.so (k := 1) (pc' := 5) (by rfl) (by rfl) (fun _ => by rfl) (by rfl) (fun lv l1 kp => (?_ : jX G jP 109 5 lv [] μ Q))
  replace l0 := kp 0 _ l0 (by rfl) (by first | rfl | simp [soR_cat])
  refine jX.lon l1 (by rfl) (by rfl) (?_ : jX G jP 109 6 lv [soR 27 q2.1] μ Q)
  rcases sif_or h with ⟨e3, h⟩ | ⟨a3, e3, h⟩
  · rw [soR_none (t := 27) e3]
    rw [soR_none (t := 27) e3] at l1
    refine jX.go (by rfl) (by rfl) (by rfl) (?_ : jX G jP 109 9 lv [] μ Q)
    exact jX.ret (by rfl) (by rfl) (by rfl) (by rfl) (sretv (f := srV) h K R)
  · rw [soR_some (t := 27) e3]
    rw [soR_some (t := 27) e3] at l1
    refine jX.go (by rfl) (by rfl) (by rfl) (?_ : jX G jP 109 10 lv [] μ Q)
    refine jX.lrn l0 (by rfl) (by rfl) (?_ : jX G jP 109 11 lv [.ref (spl 25 v0.1 v0.2)] μ Q)
    obtain ⟨g4, h⟩ := jif_some h
    refine jX.sg R g4 (by rfl) (by rfl) (by rfl) (by rfl) (by rfl) (?_ : jX G jP 109 14 lv [.int (q2.2.1 25 v0.1 v0.2 3)] μ Q)
    refine jX.ic (v := nI 1) (n := 1) (by rfl) (by rfl) (by decide) (?_ : jX G jP 109 15 lv [.int (nI 1), .int (q2.2.1 25 v0.1 v0.2 3)] μ Q)
    rcases bif_or h with ⟨hc, h⟩ | ⟨hc, h⟩
    · refine jX.b2t hc (by rfl) (by rfl) (by rfl) (?_ : jX G jP 109 32 lv [] μ Q)
      refine jX.go (by rfl) (by rfl) (by rfl) (?_ : jX G jP 109 33 lv [.null] μ Q)
      exact F_109_33_ok  K a3 none _ _ _ l1 R h
    · refine jX.b2f hc (by rfl) (by rfl) (by rfl) (?_ : jX G jP 109 18 lv [] μ Q)
      refine jX.lrn l0 (by rfl) (by rfl) (?_ : jX G jP 109 19 lv [.ref (spl 25 v0.1 v0.2)] μ Q)
      refine jX.sg R g4 (by rfl) (by rfl) (by rfl) (by rfl) (by rfl) (?_ : jX G jP 109 22 lv [.ref (spl 26 v0.1 0)] μ Q)
      refine jX.lrn l0 (by rfl) (by rfl) (?_ : jX G jP 109 23 lv [.ref (spl 25 v0.1 v0.2), .ref (spl 26 v0.1 0)] μ Q)
      refine jX.sg R g4 (by rfl) (by rfl) (by rfl) (by rfl) (by rfl) (?_ : jX G jP 109 26 lv [.int (q2.2.1 25 v0.1 v0.2 3), .ref (spl 26 v0.1 0)] μ Q)
      refine jX.ic (v := nI 2) (n := 1) (by rfl) (by rfl) (by decide) (?_ : jX G jP 109 27 lv [.int (nI 2), .int (q2.2.1 25 v0.1 v0.2 3), .ref (spl 26 v0.1 0)] μ Q)
      refine jX.go (by rfl) (by rfl) (by rfl) (?_ : jX G jP 109 28 lv [.int ((q2.2.1 25 v0.1 v0.2 3) - (nI 2)), .ref (spl 26 v0.1 0)] μ Q)
      obtain ⟨g5, h⟩ := jif_some h
      obtain ⟨g6, h⟩ := jif_some h
      refine jX.sar R g5 (by rfl) (by rfl) (by rfl) g6 (srf_27 _) (?_ : jX G jP 109 29 lv [soR 27 ((q2.2.2.2.1.1 v0.1 ((q2.2.1 25 v0.1 v0.2 3) - (nI 2)).toNatClampNeg).map fun p => (p, 0))] μ Q)
      refine jX.go (by rfl) (by rfl) (by rfl) (?_ : jX G jP 109 33 lv [soR 27 ((q2.2.2.2.1.1 v0.1 ((q2.2.1 25 v0.1 v0.2 3) - (nI 2)).toNatClampNeg).map fun p => (p, 0))] μ Q)
      exact F_109_33_ok  K a3 ((q2.2.2.2.1.1 v0.1 ((q2.2.1 25 v0.1 v0.2 3) - (nI 2)).toNatClampNeg).map fun p => (p, 0)) _ _ _ l1 R h
/-! 110 StrandRuntime$Row.isZeroOrNil(I)Z -/
def F_110 (G : jG) (t : Nat) (v0 : (Nat × Nat)) (v1 : Int32) (S : sS) : Option (Int32 × sS) := bif jcmp .lt v1 0 then (some ((nI 0), S)) else (jif (sex S.2.2.2.1 29 v0.1 v0.2) (bif jcmp .ge v1 (S.1 29 v0.1 v0.2 2) then (some ((nI 0), S)) else (jif (sex S.2.2.2.1 30 v0.1 v0.2) (jif (jin v1 (srl v0.2)) (bif jcmp .ne (lg_cmp (S.2.1 30 v0.1 v0.2 v1.toNatClampNeg) 0) 0 then (some ((nI 0), S)) else (jif (sex S.2.2.2.1 31 v0.1 v0.2) (jif (jin v1 (srl v0.2)) (bif jcmp .ge (S.1 31 v0.1 v0.2 v1.toNatClampNeg) (nI 2) then (some ((nI 0), S)) else (some ((nI 1), S))))))))))
theorem F_110_ok {G : jG} {t : Nat} {v0 : (Nat × Nat)} {v1 : Int32} {S : sS} {r : Int32} {S' : sS} {μ : jS} {Q : Option Value ⊕ Nat → jS → Prop} (R : sR S μ) (h : F_110 G t v0 v1 S = some (r, S')) (K : ∀ μ', sR S' μ' → Q (srI r) μ') : jX G jP 110 0 (lv_args 0 [.ref (spl 29 v0.1 v0.2), .int v1]) [] μ Q := by
  unfold F_110 at h
  have l0 : jld (lv_args 0 [.ref (spl 29 v0.1 v0.2), .int v1]) 0 = some (.ref (spl 29 v0.1 v0.2)) := by rfl
  have l1 : jld (lv_args 0 [.ref (spl 29 v0.1 v0.2), .int v1]) 1 = some (.int v1) := by rfl
  generalize lv_args 0 [.ref (spl 29 v0.1 v0.2), .int v1] = lv at *
  refine jX.lin l1 (by rfl) (by rfl) (?_ : jX G jP 110 1 lv [.int v1] μ Q)
  rcases bif_or h with ⟨hc, h⟩ | ⟨hc, h⟩
  · refine jX.b1t hc (by rfl) (by rfl) (by rfl) (?_ : jX G jP 110 37 lv [] μ Q)
    refine jX.ic (v := nI 0) (n := 1) (by rfl) (by rfl) (by decide) (?_ : jX G jP 110 38 lv [.int (nI 0)] μ Q)
    exact jX.ret (by rfl) (by rfl) (by rfl) (by rfl) (sretv (f := srI) h K R)
  · refine jX.b1f hc (by rfl) (by rfl) (by rfl) (?_ : jX G jP 110 4 lv [] μ Q)
    refine jX.lin l1 (by rfl) (by rfl) (?_ : jX G jP 110 5 lv [.int v1] μ Q)
    refine jX.lrn l0 (by rfl) (by rfl) (?_ : jX G jP 110 6 lv [.ref (spl 29 v0.1 v0.2), .int v1] μ Q)
    obtain ⟨g1, h⟩ := jif_some h
    refine jX.sg R g1 (by rfl) (by rfl) (by rfl) (by rfl) (by rfl) (?_ : jX G jP 110 9 lv [.int (S.1 29 v0.1 v0.2 2), .int v1] μ Q)
    rcases bif_or h with ⟨hc, h⟩ | ⟨hc, h⟩
    · refine jX.b2t hc (by rfl) (by rfl) (by rfl) (?_ : jX G jP 110 37 lv [] μ Q)
      refine jX.ic (v := nI 0) (n := 1) (by rfl) (by rfl) (by decide) (?_ : jX G jP 110 38 lv [.int (nI 0)] μ Q)
      exact jX.ret (by rfl) (by rfl) (by rfl) (by rfl) (sretv (f := srI) h K R)
    · refine jX.b2f hc (by rfl) (by rfl) (by rfl) (?_ : jX G jP 110 12 lv [] μ Q)
      refine jX.lrn l0 (by rfl) (by rfl) (?_ : jX G jP 110 13 lv [.ref (spl 29 v0.1 v0.2)] μ Q)
      refine jX.sg R g1 (by rfl) (by rfl) (by rfl) (by rfl) (by rfl) (?_ : jX G jP 110 16 lv [.ref (spl 30 v0.1 v0.2)] μ Q)
      refine jX.lin l1 (by rfl) (by rfl) (?_ : jX G jP 110 17 lv [.int v1, .ref (spl 30 v0.1 v0.2)] μ Q)
      obtain ⟨g2, h⟩ := jif_some h
      obtain ⟨g3, h⟩ := jif_some h
      refine jX.sal R g2 (by rfl) (by rfl) (by rfl) g3 (?_ : jX G jP 110 18 lv [.long (S.2.1 30 v0.1 v0.2 v1.toNatClampNeg)] μ Q)
      refine jX.go (by rfl) (by rfl) (by rfl) (?_ : jX G jP 110 19 lv [.long 0, .long (S.2.1 30 v0.1 v0.2 v1.toNatClampNeg)] μ Q)
      refine jX.go (by rfl) (by rfl) (by rfl) (?_ : jX G jP 110 20 lv [.int (lg_cmp (S.2.1 30 v0.1 v0.2 v1.toNatClampNeg) 0)] μ Q)
      rcases bif_or h with ⟨hc, h⟩ | ⟨hc, h⟩
      · refine jX.b1t hc (by rfl) (by rfl) (by rfl) (?_ : jX G jP 110 37 lv [] μ Q)
        refine jX.ic (v := nI 0) (n := 1) (by rfl) (by rfl) (by decide) (?_ : jX G jP 110 38 lv [.int (nI 0)] μ Q)
        exact jX.ret (by rfl) (by rfl) (by rfl) (by rfl) (sretv (f := srI) h K R)
      · refine jX.b1f hc (by rfl) (by rfl) (by rfl) (?_ : jX G jP 110 23 lv [] μ Q)
        refine jX.lrn l0 (by rfl) (by rfl) (?_ : jX G jP 110 24 lv [.ref (spl 29 v0.1 v0.2)] μ Q)
        refine jX.sg R g1 (by rfl) (by rfl) (by rfl) (by rfl) (by rfl) (?_ : jX G jP 110 27 lv [.ref (spl 31 v0.1 v0.2)] μ Q)
        refine jX.lin l1 (by rfl) (by rfl) (?_ : jX G jP 110 28 lv [.int v1, .ref (spl 31 v0.1 v0.2)] μ Q)
        obtain ⟨g4, h⟩ := jif_some h
        obtain ⟨g5, h⟩ := jif_some h
        refine jX.sai R g4 (by rfl) (by rfl) (by rfl) g5 (?_ : jX G jP 110 29 lv [.int (S.1 31 v0.1 v0.2 v1.toNatClampNeg)] μ Q)
        refine jX.ic (v := nI 2) (n := 1) (by rfl) (by rfl) (by decide) (?_ : jX G jP 110 30 lv [.int (nI 2), .int (S.1 31 v0.1 v0.2 v1.toNatClampNeg)] μ Q)
        rcases bif_or h with ⟨hc, h⟩ | ⟨hc, h⟩
        · refine jX.b2t hc (by rfl) (by rfl) (by rfl) (?_ : jX G jP 110 37 lv [] μ Q)
          refine jX.ic (v := nI 0) (n := 1) (by rfl) (by rfl) (by decide) (?_ : jX G jP 110 38 lv [.int (nI 0)] μ Q)
          exact jX.ret (by rfl) (by rfl) (by rfl) (by rfl) (sretv (f := srI) h K R)
        · refine jX.b2f hc (by rfl) (by rfl) (by rfl) (?_ : jX G jP 110 33 lv [] μ Q)
          refine jX.ic (v := nI 1) (n := 1) (by rfl) (by rfl) (by decide) (?_ : jX G jP 110 34 lv [.int (nI 1)] μ Q)
          refine jX.go (by rfl) (by rfl) (by rfl) (?_ : jX G jP 110 38 lv [.int (nI 1)] μ Q)
          exact jX.ret (by rfl) (by rfl) (by rfl) (by rfl) (sretv (f := srI) h K R)
/-! 111 StrandRuntime$Machine.jump(IILStrandRuntime$Frame;)I -/
def F_111_32 (G : jG) (t : Nat) (v1 : Int32) (v4 : (Nat × Nat)) (S : sS) : Option (Int32 × sS) := jif (jin v1 (G 1).1) (jif (sex S.2.2.2.1 29 v4.1 v4.2) ((F_76 G t v4 ((G 1).2 v1.toNatClampNeg) S).bind (fun q3 => some ((nI 0), q3.2))))
theorem F_111_32_ok {G : jG} {t : Nat} {r : Int32} {S' : sS} {Q : Option Value ⊕ Nat → jS → Prop} (K : ∀ μ', sR S' μ' → Q (srI r) μ') : ∀ (v1 : Int32) (v4 : (Nat × Nat)) (S : sS) (lv : jL) (μ : jS), jld lv 1 = some (.int v1) → jld lv 4 = some (.ref (spl 29 v4.1 v4.2)) → sR S μ → F_111_32 G t v1 v4 S = some (r, S') → jX G jP 111 32 lv [] μ Q := by
  intro v1 v4 S lv μ l1 l4 R h
  unfold F_111_32 at h
  refine jX.lr l4 (by rfl) (by rfl) (?_ : jX G jP 111 34 lv [.ref (spl 29 v4.1 v4.2)] μ Q)
  refine jX.go (by rfl) (by rfl) (by rfl) (?_ : jX G jP 111 37 lv [.float 1, .ref (spl 29 v4.1 v4.2)] μ Q)
  refine jX.lin l1 (by rfl) (by rfl) (?_ : jX G jP 111 38 lv [.int v1, .float 1, .ref (spl 29 v4.1 v4.2)] μ Q)
  obtain ⟨g1, h⟩ := jif_some h
  refine jX.gi g1 (by rfl) (by rfl) (?_ : jX G jP 111 39 lv [.int ((G 1).2 v1.toNatClampNeg), .ref (spl 29 v4.1 v4.2)] μ Q)
  obtain ⟨g2, h⟩ := jif_some h
  obtain ⟨q3, e3, h⟩ := sbd h
  refine jX.cv (by rfl) (by rfl) (by rfl) (by rfl) (by rfl) (by rfl) (by rfl) (R.rec g2 (by rfl)) (Nat.le_of_ble_eq_true rfl) (Nat.le_of_ble_eq_true rfl) (F_76_ok R e3 (fun μ R => ⟨rfl, (?_ : jX G jP 111 42 lv [] μ Q)⟩))
  refine jX.ic (v := nI 0) (n := 1) (by rfl) (by rfl) (by decide) (?_ : jX G jP 111 43 lv [.int (nI 0)] μ Q)
  exact jX.ret (by rfl) (by rfl) (by rfl) (by rfl) (sretv (f := srI) h K R)
def F_111_27 (G : jG) (t : Nat) (v1 : Int32) (v2 : Int32) (v3 : (Nat × Nat)) (v4 : (Nat × Nat)) (S : sS) : Option (Int32 × sS) := jif (sex S.2.2.2.1 27 v3.1 v3.2) (F_111_32 G t v1 v4 (siI S 27 v3.1 v3.2 6 v2))
theorem F_111_27_ok {G : jG} {t : Nat} {r : Int32} {S' : sS} {Q : Option Value ⊕ Nat → jS → Prop} (K : ∀ μ', sR S' μ' → Q (srI r) μ') : ∀ (v1 : Int32) (v2 : Int32) (v3 : (Nat × Nat)) (v4 : (Nat × Nat)) (S : sS) (lv : jL) (μ : jS), jld lv 1 = some (.int v1) → jld lv 2 = some (.int v2) → jld lv 3 = some (.ref (spl 27 v3.1 v3.2)) → jld lv 4 = some (.ref (spl 29 v4.1 v4.2)) → sR S μ → F_111_27 G t v1 v2 v3 v4 S = some (r, S') → jX G jP 111 27 lv [] μ Q := by
  intro v1 v2 v3 v4 S lv μ l1 l2 l3 l4 R h
  unfold F_111_27 at h
  refine jX.lrn l3 (by rfl) (by rfl) (?_ : jX G jP 111 28 lv [.ref (spl 27 v3.1 v3.2)] μ Q)
  refine jX.lin l2 (by rfl) (by rfl) (?_ : jX G jP 111 29 lv [.int v2, .ref (spl 27 v3.1 v3.2)] μ Q)
  obtain ⟨g1, h⟩ := jif_some h
  refine jX.spI R g1 (by rfl) (by rfl) (by rfl) (by rfl) (by rfl) (by rfl) (by rfl) (by rfl) (fun μ R => (?_ : jX G jP 111 32 lv [] μ Q))
  exact F_111_32_ok  K v1 v4 _ _ _ l1 l4 R h
def F_111 (G : jG) (t : Nat) (v1 : Int32) (v2 : Int32) (v3 : (Nat × Nat)) (S : sS) : Option (Int32 × sS) := jif (sex S.2.2.2.1 27 v3.1 v3.2) (bif jcmp .eq v1 (nI 16) then (F_111_27 G t v1 v2 v3 (v3.1, 1) S) else (jif (sex S.2.2.2.1 29 v3.1 1) ((F_110 G t (v3.1, 1) ((S.1 29 v3.1 1 2) - (nI 1)) S).bind (fun q3 => bif jcmp .eq q3.1 0 then (F_111_32 G t v1 (v3.1, 1) q3.2) else (F_111_27 G t v1 v2 v3 (v3.1, 1) q3.2)))))
theorem F_111_ok {G : jG} {t : Nat} {v1 : Int32} {v2 : Int32} {v3 : (Nat × Nat)} {S : sS} {r : Int32} {S' : sS} {μ : jS} {Q : Option Value ⊕ Nat → jS → Prop} (R : sR S μ) (h : F_111 G t v1 v2 v3 S = some (r, S')) (K : ∀ μ', sR S' μ' → Q (srI r) μ') : jX G jP 111 0 (lv_args 0 [.ref (spl 23 0 0), .int v1, .int v2, .ref (spl 27 v3.1 v3.2)]) [] μ Q := by
  unfold F_111 at h
  have l1 : jld (lv_args 0 [.ref (spl 23 0 0), .int v1, .int v2, .ref (spl 27 v3.1 v3.2)]) 1 = some (.int v1) := by rfl
  have l2 : jld (lv_args 0 [.ref (spl 23 0 0), .int v1, .int v2, .ref (spl 27 v3.1 v3.2)]) 2 = some (.int v2) := by rfl
  have l3 : jld (lv_args 0 [.ref (spl 23 0 0), .int v1, .int v2, .ref (spl 27 v3.1 v3.2)]) 3 = some (.ref (spl 27 v3.1 v3.2)) := by rfl
  generalize lv_args 0 [.ref (spl 23 0 0), .int v1, .int v2, .ref (spl 27 v3.1 v3.2)] = lv at *
  refine jX.lrn l3 (by rfl) (by rfl) (?_ : jX G jP 111 1 lv [.ref (spl 27 v3.1 v3.2)] μ Q)
  obtain ⟨g1, h⟩ := jif_some h
  refine jX.sg R g1 (by rfl) (by rfl) (by rfl) (by rfl) (by rfl) (?_ : jX G jP 111 4 lv [.ref (spl 29 v3.1 1)] μ Q)
  refine jX.s1 (k := 4) (pc' := 6) (by rfl) (by rfl) (by rfl) (fun lv l4 kp => (?_ : jX G jP 111 6 lv [] μ Q))
  replace l1 := kp 1 _ l1 (by rfl) (by first | rfl | simp [soR_cat])
  replace l2 := kp 2 _ l2 (by rfl) (by first | rfl | simp [soR_cat])
  replace l3 := kp 3 _ l3 (by rfl) (by first | rfl | simp [soR_cat])
  refine jX.lin l1 (by rfl) (by rfl) (?_ : jX G jP 111 7 lv [.int v1] μ Q)
  refine jX.ic (v := nI 16) (n := 2) (by rfl) (by rfl) (by decide) (?_ : jX G jP 111 9 lv [.int (nI 16), .int v1] μ Q)
  rcases bif_or h with ⟨hc, h⟩ | ⟨hc, h⟩
  · refine jX.b2t hc (by rfl) (by rfl) (by rfl) (?_ : jX G jP 111 27 lv [] μ Q)
    exact F_111_27_ok  K v1 v2 v3 (v3.1, 1) _ _ _ l1 l2 l3 l4 R h
  · refine jX.b2f hc (by rfl) (by rfl) (by rfl) (?_ : jX G jP 111 12 lv [] μ Q)
    refine jX.lr l4 (by rfl) (by rfl) (?_ : jX G jP 111 14 lv [.ref (spl 29 v3.1 1)] μ Q)
    refine jX.lr l4 (by rfl) (by rfl) (?_ : jX G jP 111 16 lv [.ref (spl 29 v3.1 1), .ref (spl 29 v3.1 1)] μ Q)
    obtain ⟨g2, h⟩ := jif_some h
    refine jX.sg R g2 (by rfl) (by rfl) (by rfl) (by rfl) (by rfl) (?_ : jX G jP 111 19 lv [.int (S.1 29 v3.1 1 2), .ref (spl 29 v3.1 1)] μ Q)
    refine jX.ic (v := nI 1) (n := 1) (by rfl) (by rfl) (by decide) (?_ : jX G jP 111 20 lv [.int (nI 1), .int (S.1 29 v3.1 1 2), .ref (spl 29 v3.1 1)] μ Q)
    refine jX.go (by rfl) (by rfl) (by rfl) (?_ : jX G jP 111 21 lv [.int ((S.1 29 v3.1 1 2) - (nI 1)), .ref (spl 29 v3.1 1)] μ Q)
    obtain ⟨q3, e3, h⟩ := sbd h
    refine jX.c1 (v := .int q3.1) (by rfl) (by rfl) (by rfl) (by rfl) (by rfl) (by rfl) (by rfl) (R.rec g2 (by rfl)) (Nat.le_of_ble_eq_true rfl) (Nat.le_of_ble_eq_true rfl) (F_110_ok R e3 (fun μ R => ⟨rfl, (?_ : jX G jP 111 24 lv [.int q3.1] μ Q)⟩))
    rcases bif_or h with ⟨hc, h⟩ | ⟨hc, h⟩
    · refine jX.b1t hc (by rfl) (by rfl) (by rfl) (?_ : jX G jP 111 32 lv [] μ Q)
      exact F_111_32_ok  K v1 (v3.1, 1) _ _ _ l1 l4 R h
    · refine jX.b1f hc (by rfl) (by rfl) (by rfl) (?_ : jX G jP 111 27 lv [] μ Q)
      exact F_111_27_ok  K v1 v2 v3 (v3.1, 1) _ _ _ l1 l2 l3 l4 R h
/-! 112 StrandRuntime$Machine.move(IILStrandRuntime$Frame;)I -/
def F_112_133 (G : jG) (t : Nat) (v2 : Int32) (v4 : (Nat × Nat)) (v5 : (Nat × Nat)) (S : sS) : Option (Int32 × sS) := jif (sex S.2.2.2.1 29 v5.1 v5.2) ((F_26 G t v5 v2 S).bind (fun q2 => jif (sex q2.2.2.2.2.1 29 v5.1 v5.2) ((F_27 G t v5 v2 q2.2).bind (fun q4 => jif (sex q4.2.2.2.2.1 29 v4.1 v4.2) ((F_78 G t v4 q2.1 q4.1 q4.2).bind (fun q6 => some ((nI 0), q6.2)))))))
theorem F_112_133_ok {G : jG} {t : Nat} {r : Int32} {S' : sS} {Q : Option Value ⊕ Nat → jS → Prop} (K : ∀ μ', sR S' μ' → Q (srI r) μ') : ∀ (v2 : Int32) (v4 : (Nat × Nat)) (v5 : (Nat × Nat)) (S : sS) (lv : jL) (μ : jS), jld lv 2 = some (.int v2) → jld lv 4 = some (.ref (spl 29 v4.1 v4.2)) → jld lv 5 = some (.ref (spl 29 v5.1 v5.2)) → sR S μ → F_112_133 G t v2 v4 v5 S = some (r, S') → jX G jP 112 133 lv [] μ Q := by
  intro v2 v4 v5 S lv μ l2 l4 l5 R h
  unfold F_112_133 at h
  refine jX.lr l4 (by rfl) (by rfl) (?_ : jX G jP 112 135 lv [.ref (spl 29 v4.1 v4.2)] μ Q)
  refine jX.lr l5 (by rfl) (by rfl) (?_ : jX G jP 112 137 lv [.ref (spl 29 v5.1 v5.2), .ref (spl 29 v4.1 v4.2)] μ Q)
  refine jX.lin l2 (by rfl) (by rfl) (?_ : jX G jP 112 138 lv [.int v2, .ref (spl 29 v5.1 v5.2), .ref (spl 29 v4.1 v4.2)] μ Q)
  obtain ⟨g1, h⟩ := jif_some h
  obtain ⟨q2, e2, h⟩ := sbd h
  refine jX.c1 (v := .long q2.1) (by rfl) (by rfl) (by rfl) (by rfl) (by rfl) (by rfl) (by rfl) (R.rec g1 (by rfl)) (Nat.le_of_ble_eq_true rfl) (Nat.le_of_ble_eq_true rfl) (F_26_ok R e2 (fun μ R => ⟨rfl, (?_ : jX G jP 112 141 lv [.long q2.1, .ref (spl 29 v4.1 v4.2)] μ Q)⟩))
  refine jX.lr l5 (by rfl) (by rfl) (?_ : jX G jP 112 143 lv [.ref (spl 29 v5.1 v5.2), .long q2.1, .ref (spl 29 v4.1 v4.2)] μ Q)
  refine jX.lin l2 (by rfl) (by rfl) (?_ : jX G jP 112 144 lv [.int v2, .ref (spl 29 v5.1 v5.2), .long q2.1, .ref (spl 29 v4.1 v4.2)] μ Q)
  obtain ⟨g3, h⟩ := jif_some h
  obtain ⟨q4, e4, h⟩ := sbd h
  refine jX.c1 (v := .int q4.1) (by rfl) (by rfl) (by rfl) (by rfl) (by rfl) (by rfl) (by rfl) (R.rec g3 (by rfl)) (Nat.le_of_ble_eq_true rfl) (Nat.le_of_ble_eq_true rfl) (F_27_ok R e4 (fun μ R => ⟨rfl, (?_ : jX G jP 112 147 lv [.int q4.1, .long q2.1, .ref (spl 29 v4.1 v4.2)] μ Q)⟩))
  obtain ⟨g5, h⟩ := jif_some h
  obtain ⟨q6, e6, h⟩ := sbd h
  refine jX.cv (by rfl) (by rfl) (by rfl) (by rfl) (by rfl) (by rfl) (by rfl) (R.rec g5 (by rfl)) (Nat.le_of_ble_eq_true rfl) (Nat.le_of_ble_eq_true rfl) (F_78_ok R e6 (fun μ R => ⟨rfl, (?_ : jX G jP 112 150 lv [] μ Q)⟩))
  refine jX.go (by rfl) (by rfl) (by rfl) (?_ : jX G jP 112 234 lv [] μ Q)
  refine jX.ic (v := nI 0) (n := 1) (by rfl) (by rfl) (by decide) (?_ : jX G jP 112 235 lv [.int (nI 0)] μ Q)
  exact jX.ret (by rfl) (by rfl) (by rfl) (by rfl) (sretv (f := srI) h K R)
def F_112_153 (G : jG) (t : Nat) (v2 : Int32) (v4 : (Nat × Nat)) (v5 : (Nat × Nat)) (v7 : Int64) (v9 : Int32) (S : sS) : Option (Int32 × sS) := jif (sex S.2.2.2.1 29 v5.1 v5.2) ((F_28 G t v5 v2 v7 v9 S).bind (fun q2 => jif (sex q2.2.2.2.2.1 29 v4.1 v4.2) ((F_76 G t v4 (nI 1) q2.2).bind (fun q4 => some ((nI 0), q4.2)))))
theorem F_112_153_ok {G : jG} {t : Nat} {r : Int32} {S' : sS} {Q : Option Value ⊕ Nat → jS → Prop} (K : ∀ μ', sR S' μ' → Q (srI r) μ') : ∀ (v2 : Int32) (v4 : (Nat × Nat)) (v5 : (Nat × Nat)) (v7 : Int64) (v9 : Int32) (S : sS) (lv : jL) (μ : jS), jld lv 2 = some (.int v2) → jld lv 4 = some (.ref (spl 29 v4.1 v4.2)) → jld lv 5 = some (.ref (spl 29 v5.1 v5.2)) → jld lv 7 = some (.long v7) → jld lv 9 = some (.int v9) → sR S μ → F_112_153 G t v2 v4 v5 v7 v9 S = some (r, S') → jX G jP 112 153 lv [] μ Q := by
  intro v2 v4 v5 v7 v9 S lv μ l2 l4 l5 l7 l9 R h
  unfold F_112_153 at h
  refine jX.lr l5 (by rfl) (by rfl) (?_ : jX G jP 112 155 lv [.ref (spl 29 v5.1 v5.2)] μ Q)
  refine jX.lin l2 (by rfl) (by rfl) (?_ : jX G jP 112 156 lv [.int v2, .ref (spl 29 v5.1 v5.2)] μ Q)
  refine jX.ll l7 (by rfl) (by rfl) (?_ : jX G jP 112 158 lv [.long v7, .int v2, .ref (spl 29 v5.1 v5.2)] μ Q)
  refine jX.li l9 (by rfl) (by rfl) (?_ : jX G jP 112 160 lv [.int v9, .long v7, .int v2, .ref (spl 29 v5.1 v5.2)] μ Q)
  obtain ⟨g1, h⟩ := jif_some h
  obtain ⟨q2, e2, h⟩ := sbd h
  refine jX.cv (by rfl) (by rfl) (by rfl) (by rfl) (by rfl) (by rfl) (by rfl) (R.rec g1 (by rfl)) (Nat.le_of_ble_eq_true rfl) (Nat.le_of_ble_eq_true rfl) (F_28_ok R e2 (fun μ R => ⟨rfl, (?_ : jX G jP 112 163 lv [] μ Q)⟩))
  refine jX.lr l4 (by rfl) (by rfl) (?_ : jX G jP 112 165 lv [.ref (spl 29 v4.1 v4.2)] μ Q)
  refine jX.ic (v := nI 1) (n := 1) (by rfl) (by rfl) (by decide) (?_ : jX G jP 112 166 lv [.int (nI 1), .ref (spl 29 v4.1 v4.2)] μ Q)
  obtain ⟨g3, h⟩ := jif_some h
  obtain ⟨q4, e4, h⟩ := sbd h
  refine jX.cv (by rfl) (by rfl) (by rfl) (by rfl) (by rfl) (by rfl) (by rfl) (R.rec g3 (by rfl)) (Nat.le_of_ble_eq_true rfl) (Nat.le_of_ble_eq_true rfl) (F_76_ok R e4 (fun μ R => ⟨rfl, (?_ : jX G jP 112 169 lv [] μ Q)⟩))
  refine jX.go (by rfl) (by rfl) (by rfl) (?_ : jX G jP 112 234 lv [] μ Q)
  refine jX.ic (v := nI 0) (n := 1) (by rfl) (by rfl) (by decide) (?_ : jX G jP 112 235 lv [.int (nI 0)] μ Q)
  exact jX.ret (by rfl) (by rfl) (by rfl) (by rfl) (sretv (f := srI) h K R)
def F_112_30 (G : jG) (t : Nat) (v1 : Int32) (v2 : Int32) (v4 : (Nat × Nat)) (w0 : (Nat × Nat)) (S : sS) : Option (Int32 × sS) := jif (sex S.2.2.2.1 29 v4.1 v4.2) ((F_26 G t v4 ((S.1 29 v4.1 v4.2 2) - (nI 1)) S).bind (fun q2 => jif (sex q2.2.2.2.2.1 29 v4.1 v4.2) ((F_27 G t v4 ((S.1 29 v4.1 v4.2 2) - (nI 1)) q2.2).bind (fun q4 => bif decide (v1.toInt < 0 ∨ 8 < v1.toInt) then (some ((nI 0), q4.2)) else (bif decide (v1 = nI 0) then (jif (sex q4.2.2.2.2.1 29 v4.1 v4.2) ((F_78 G t v4 v2.toInt64 (nI 0) q4.2).bind (fun q6 => some ((nI 0), q6.2)))) else (bif decide (v1 = nI 1) then (jif (sex q4.2.2.2.2.1 29 v4.1 v4.2) ((F_78 G t v4 0 (nI 1) q4.2).bind (fun q8 => some ((nI 0), q8.2)))) else (bif decide (v1 = nI 2) then (F_112_133 G t v2 v4 w0 q4.2) else (bif decide (v1 = nI 3) then (F_112_153 G t v2 v4 w0 q2.1 q4.1 q4.2) else (bif decide (v1 = nI 4) then (F_112_133 G t v2 v4 w0 q4.2) else (bif decide (v1 = nI 5) then (F_112_153 G t v2 v4 w0 q2.1 q4.1 q4.2) else (bif decide (v1 = nI 6) then (jif (sex q4.2.2.2.2.1 29 v4.1 v4.2) ((F_78 G t v4 q2.1 q4.1 q4.2).bind (fun q10 => some ((nI 0), q10.2)))) else (bif decide (v1 = nI 7) then (jif (sex q4.2.2.2.2.1 29 v4.1 v4.2) ((F_76 G t v4 (nI 1) q4.2).bind (fun q12 => some ((nI 0), q12.2)))) else (bif decide (v1 = nI 8) then (jif (sex q4.2.2.2.2.1 29 v4.1 v4.2) ((F_26 G t v4 (((S.1 29 v4.1 v4.2 2) - (nI 1)) - (nI 1)) q4.2).bind (fun q14 => jif (sex q14.2.2.2.2.1 29 v4.1 v4.2) ((F_27 G t v4 (((S.1 29 v4.1 v4.2 2) - (nI 1)) - (nI 1)) q14.2).bind (fun q16 => jif (sex q16.2.2.2.2.1 29 v4.1 v4.2) ((F_28 G t v4 ((S.1 29 v4.1 v4.2 2) - (nI 1)) q14.1 q16.1 q16.2).bind (fun q18 => jif (sex q18.2.2.2.2.1 29 v4.1 v4.2) ((F_28 G t v4 (((S.1 29 v4.1 v4.2 2) - (nI 1)) - (nI 1)) q2.1 q4.1 q18.2).bind (fun q20 => some ((nI 0), q20.2)))))))))) else (none))))))))))))))
theorem F_112_30_ok {G : jG} {t : Nat} {r : Int32} {S' : sS} {Q : Option Value ⊕ Nat → jS → Prop} (K : ∀ μ', sR S' μ' → Q (srI r) μ') : ∀ (v1 : Int32) (v2 : Int32) (v4 : (Nat × Nat)) (w0 : (Nat × Nat)) (S : sS) (lv : jL) (μ : jS), jld lv 1 = some (.int v1) → jld lv 2 = some (.int v2) → jld lv 4 = some (.ref (spl 29 v4.1 v4.2)) → sR S μ → F_112_30 G t v1 v2 v4 w0 S = some (r, S') → jX G jP 112 30 lv [.ref (spl 29 w0.1 w0.2)] μ Q := by
  intro v1 v2 v4 w0 S lv μ l1 l2 l4 R h
  unfold F_112_30 at h
  refine jX.s1 (k := 5) (pc' := 32) (by rfl) (by rfl) (by rfl) (fun lv l5 kp => (?_ : jX G jP 112 32 lv [] μ Q))
  replace l1 := kp 1 _ l1 (by rfl) (by first | rfl | simp [soR_cat])
  replace l2 := kp 2 _ l2 (by rfl) (by first | rfl | simp [soR_cat])
  replace l4 := kp 4 _ l4 (by rfl) (by first | rfl | simp [soR_cat])
  refine jX.lr l4 (by rfl) (by rfl) (?_ : jX G jP 112 34 lv [.ref (spl 29 v4.1 v4.2)] μ Q)
  obtain ⟨g1, h⟩ := jif_some h
  refine jX.sg R g1 (by rfl) (by rfl) (by rfl) (by rfl) (by rfl) (?_ : jX G jP 112 37 lv [.int (S.1 29 v4.1 v4.2 2)] μ Q)
  refine jX.ic (v := nI 1) (n := 1) (by rfl) (by rfl) (by decide) (?_ : jX G jP 112 38 lv [.int (nI 1), .int (S.1 29 v4.1 v4.2 2)] μ Q)
  refine jX.go (by rfl) (by rfl) (by rfl) (?_ : jX G jP 112 39 lv [.int ((S.1 29 v4.1 v4.2 2) - (nI 1))] μ Q)
  refine jX.s1 (k := 6) (pc' := 41) (by rfl) (by rfl) (by rfl) (fun lv l6 kp => (?_ : jX G jP 112 41 lv [] μ Q))
  replace l1 := kp 1 _ l1 (by rfl) (by first | rfl | simp [soR_cat])
  replace l2 := kp 2 _ l2 (by rfl) (by first | rfl | simp [soR_cat])
  replace l4 := kp 4 _ l4 (by rfl) (by first | rfl | simp [soR_cat])
  replace l5 := kp 5 _ l5 (by rfl) (by first | rfl | simp [soR_cat])
  refine jX.lr l4 (by rfl) (by rfl) (?_ : jX G jP 112 43 lv [.ref (spl 29 v4.1 v4.2)] μ Q)
  refine jX.li l6 (by rfl) (by rfl) (?_ : jX G jP 112 45 lv [.int ((S.1 29 v4.1 v4.2 2) - (nI 1)), .ref (spl 29 v4.1 v4.2)] μ Q)
  obtain ⟨q2, e2, h⟩ := sbd h
  refine jX.c1 (v := .long q2.1) (by rfl) (by rfl) (by rfl) (by rfl) (by rfl) (by rfl) (by rfl) (R.rec g1 (by rfl)) (Nat.le_of_ble_eq_true rfl) (Nat.le_of_ble_eq_true rfl) (F_26_ok R e2 (fun μ R => ⟨rfl, (?_ : jX G jP 112 48 lv [.long q2.1] μ Q)⟩))
  refine jX.s2 (k := 7) (pc' := 50) (by rfl) (by rfl) (by rfl) (fun lv l7 kp => (?_ : jX G jP 112 50 lv [] μ Q))
  replace l1 := kp 1 _ l1 (by rfl) (by first | rfl | simp [soR_cat])
  replace l2 := kp 2 _ l2 (by rfl) (by first | rfl | simp [soR_cat])
  replace l4 := kp 4 _ l4 (by rfl) (by first | rfl | simp [soR_cat])
  replace l5 := kp 5 _ l5 (by rfl) (by first | rfl | simp [soR_cat])
  replace l6 := kp 6 _ l6 (by rfl) (by first | rfl | simp [soR_cat])
  refine jX.lr l4 (by rfl) (by rfl) (?_ : jX G jP 112 52 lv [.ref (spl 29 v4.1 v4.2)] μ Q)
  refine jX.li l6 (by rfl) (by rfl) (?_ : jX G jP 112 54 lv [.int ((S.1 29 v4.1 v4.2 2) - (nI 1)), .ref (spl 29 v4.1 v4.2)] μ Q)
  obtain ⟨g3, h⟩ := jif_some h
  obtain ⟨q4, e4, h⟩ := sbd h
  refine jX.c1 (v := .int q4.1) (by rfl) (by rfl) (by rfl) (by rfl) (by rfl) (by rfl) (by rfl) (R.rec g3 (by rfl)) (Nat.le_of_ble_eq_true rfl) (Nat.le_of_ble_eq_true rfl) (F_27_ok R e4 (fun μ R => ⟨rfl, (?_ : jX G jP 112 57 lv [.int q4.1] μ Q)⟩))
  refine jX.s1 (k := 9) (pc' := 59) (by rfl) (by rfl) (by rfl) (fun lv l9 kp => (?_ : jX G jP 112 59 lv [] μ Q))
  replace l1 := kp 1 _ l1 (by rfl) (by first | rfl | simp [soR_cat])
  replace l2 := kp 2 _ l2 (by rfl) (by first | rfl | simp [soR_cat])
  replace l4 := kp 4 _ l4 (by rfl) (by first | rfl | simp [soR_cat])
  replace l5 := kp 5 _ l5 (by rfl) (by first | rfl | simp [soR_cat])
  replace l6 := kp 6 _ l6 (by rfl) (by first | rfl | simp [soR_cat])
  replace l7 := kp 7 _ l7 (by rfl) (by first | rfl | simp [soR_cat])
  refine jX.lin l1 (by rfl) (by rfl) (?_ : jX G jP 112 60 lv [.int v1] μ Q)
  rcases bif_or h with ⟨hc, h⟩ | ⟨-, h⟩
  · refine jX.swd hc (by rfl) (by rfl) (by rfl) (?_ : jX G jP 112 234 lv [] μ Q)
    refine jX.ic (v := nI 0) (n := 1) (by rfl) (by rfl) (by decide) (?_ : jX G jP 112 235 lv [.int (nI 0)] μ Q)
    exact jX.ret (by rfl) (by rfl) (by rfl) (by rfl) (sretv (f := srI) h K R)
  rcases bif_or h with ⟨hc, h⟩ | ⟨-, h⟩
  · refine jX.swn hc (by rfl) (by rfl) (by rfl) (?_ : jX G jP 112 112 lv [] μ Q)
    refine jX.lr l4 (by rfl) (by rfl) (?_ : jX G jP 112 114 lv [.ref (spl 29 v4.1 v4.2)] μ Q)
    refine jX.lin l2 (by rfl) (by rfl) (?_ : jX G jP 112 115 lv [.int v2, .ref (spl 29 v4.1 v4.2)] μ Q)
    refine jX.go (by rfl) (by rfl) (by rfl) (?_ : jX G jP 112 116 lv [.long v2.toInt64, .ref (spl 29 v4.1 v4.2)] μ Q)
    refine jX.ic (v := nI 0) (n := 1) (by rfl) (by rfl) (by decide) (?_ : jX G jP 112 117 lv [.int (nI 0), .long v2.toInt64, .ref (spl 29 v4.1 v4.2)] μ Q)
    obtain ⟨g5, h⟩ := jif_some h
    obtain ⟨q6, e6, h⟩ := sbd h
    refine jX.cv (by rfl) (by rfl) (by rfl) (by rfl) (by rfl) (by rfl) (by rfl) (R.rec g5 (by rfl)) (Nat.le_of_ble_eq_true rfl) (Nat.le_of_ble_eq_true rfl) (F_78_ok R e6 (fun μ R => ⟨rfl, (?_ : jX G jP 112 120 lv [] μ Q)⟩))
    refine jX.go (by rfl) (by rfl) (by rfl) (?_ : jX G jP 112 234 lv [] μ Q)
    refine jX.ic (v := nI 0) (n := 1) (by rfl) (by rfl) (by decide) (?_ : jX G jP 112 235 lv [.int (nI 0)] μ Q)
    exact jX.ret (by rfl) (by rfl) (by rfl) (by rfl) (sretv (f := srI) h K R)
  rcases bif_or h with ⟨hc, h⟩ | ⟨-, h⟩
  · refine jX.swn hc (by rfl) (by rfl) (by rfl) (?_ : jX G jP 112 123 lv [] μ Q)
    refine jX.lr l4 (by rfl) (by rfl) (?_ : jX G jP 112 125 lv [.ref (spl 29 v4.1 v4.2)] μ Q)
    refine jX.go (by rfl) (by rfl) (by rfl) (?_ : jX G jP 112 126 lv [.long 0, .ref (spl 29 v4.1 v4.2)] μ Q)
    refine jX.ic (v := nI 1) (n := 1) (by rfl) (by rfl) (by decide) (?_ : jX G jP 112 127 lv [.int (nI 1), .long 0, .ref (spl 29 v4.1 v4.2)] μ Q)
    obtain ⟨g7, h⟩ := jif_some h
    obtain ⟨q8, e8, h⟩ := sbd h
    refine jX.cv (by rfl) (by rfl) (by rfl) (by rfl) (by rfl) (by rfl) (by rfl) (R.rec g7 (by rfl)) (Nat.le_of_ble_eq_true rfl) (Nat.le_of_ble_eq_true rfl) (F_78_ok R e8 (fun μ R => ⟨rfl, (?_ : jX G jP 112 130 lv [] μ Q)⟩))
    refine jX.go (by rfl) (by rfl) (by rfl) (?_ : jX G jP 112 234 lv [] μ Q)
    refine jX.ic (v := nI 0) (n := 1) (by rfl) (by rfl) (by decide) (?_ : jX G jP 112 235 lv [.int (nI 0)] μ Q)
    exact jX.ret (by rfl) (by rfl) (by rfl) (by rfl) (sretv (f := srI) h K R)
  rcases bif_or h with ⟨hc, h⟩ | ⟨-, h⟩
  · refine jX.swn hc (by rfl) (by rfl) (by rfl) (?_ : jX G jP 112 133 lv [] μ Q)
    exact F_112_133_ok  K v2 v4 w0 _ _ _ l2 l4 l5 R h
  rcases bif_or h with ⟨hc, h⟩ | ⟨-, h⟩
  · refine jX.swn hc (by rfl) (by rfl) (by rfl) (?_ : jX G jP 112 153 lv [] μ Q)
    exact F_112_153_ok  K v2 v4 w0 q2.1 q4.1 _ _ _ l2 l4 l5 l7 l9 R h
  rcases bif_or h with ⟨hc, h⟩ | ⟨-, h⟩
  · refine jX.swn hc (by rfl) (by rfl) (by rfl) (?_ : jX G jP 112 133 lv [] μ Q)
    exact F_112_133_ok  K v2 v4 w0 _ _ _ l2 l4 l5 R h
  rcases bif_or h with ⟨hc, h⟩ | ⟨-, h⟩
  · refine jX.swn hc (by rfl) (by rfl) (by rfl) (?_ : jX G jP 112 153 lv [] μ Q)
    exact F_112_153_ok  K v2 v4 w0 q2.1 q4.1 _ _ _ l2 l4 l5 l7 l9 R h
  rcases bif_or h with ⟨hc, h⟩ | ⟨-, h⟩
  · refine jX.swn hc (by rfl) (by rfl) (by rfl) (?_ : jX G jP 112 172 lv [] μ Q)
    refine jX.lr l4 (by rfl) (by rfl) (?_ : jX G jP 112 174 lv [.ref (spl 29 v4.1 v4.2)] μ Q)
    refine jX.ll l7 (by rfl) (by rfl) (?_ : jX G jP 112 176 lv [.long q2.1, .ref (spl 29 v4.1 v4.2)] μ Q)
    refine jX.li l9 (by rfl) (by rfl) (?_ : jX G jP 112 178 lv [.int q4.1, .long q2.1, .ref (spl 29 v4.1 v4.2)] μ Q)
    obtain ⟨g9, h⟩ := jif_some h
    obtain ⟨q10, e10, h⟩ := sbd h
    refine jX.cv (by rfl) (by rfl) (by rfl) (by rfl) (by rfl) (by rfl) (by rfl) (R.rec g9 (by rfl)) (Nat.le_of_ble_eq_true rfl) (Nat.le_of_ble_eq_true rfl) (F_78_ok R e10 (fun μ R => ⟨rfl, (?_ : jX G jP 112 181 lv [] μ Q)⟩))
    refine jX.go (by rfl) (by rfl) (by rfl) (?_ : jX G jP 112 234 lv [] μ Q)
    refine jX.ic (v := nI 0) (n := 1) (by rfl) (by rfl) (by decide) (?_ : jX G jP 112 235 lv [.int (nI 0)] μ Q)
    exact jX.ret (by rfl) (by rfl) (by rfl) (by rfl) (sretv (f := srI) h K R)
  rcases bif_or h with ⟨hc, h⟩ | ⟨-, h⟩
  · refine jX.swn hc (by rfl) (by rfl) (by rfl) (?_ : jX G jP 112 184 lv [] μ Q)
    refine jX.lr l4 (by rfl) (by rfl) (?_ : jX G jP 112 186 lv [.ref (spl 29 v4.1 v4.2)] μ Q)
    refine jX.ic (v := nI 1) (n := 1) (by rfl) (by rfl) (by decide) (?_ : jX G jP 112 187 lv [.int (nI 1), .ref (spl 29 v4.1 v4.2)] μ Q)
    obtain ⟨g11, h⟩ := jif_some h
    obtain ⟨q12, e12, h⟩ := sbd h
    refine jX.cv (by rfl) (by rfl) (by rfl) (by rfl) (by rfl) (by rfl) (by rfl) (R.rec g11 (by rfl)) (Nat.le_of_ble_eq_true rfl) (Nat.le_of_ble_eq_true rfl) (F_76_ok R e12 (fun μ R => ⟨rfl, (?_ : jX G jP 112 190 lv [] μ Q)⟩))
    refine jX.go (by rfl) (by rfl) (by rfl) (?_ : jX G jP 112 234 lv [] μ Q)
    refine jX.ic (v := nI 0) (n := 1) (by rfl) (by rfl) (by decide) (?_ : jX G jP 112 235 lv [.int (nI 0)] μ Q)
    exact jX.ret (by rfl) (by rfl) (by rfl) (by rfl) (sretv (f := srI) h K R)
  rcases bif_or h with ⟨hc, h⟩ | ⟨-, h⟩
  · refine jX.swn hc (by rfl) (by rfl) (by rfl) (?_ : jX G jP 112 193 lv [] μ Q)
    refine jX.lr l4 (by rfl) (by rfl) (?_ : jX G jP 112 195 lv [.ref (spl 29 v4.1 v4.2)] μ Q)
    refine jX.li l6 (by rfl) (by rfl) (?_ : jX G jP 112 197 lv [.int ((S.1 29 v4.1 v4.2 2) - (nI 1)), .ref (spl 29 v4.1 v4.2)] μ Q)
    refine jX.lr l4 (by rfl) (by rfl) (?_ : jX G jP 112 199 lv [.ref (spl 29 v4.1 v4.2), .int ((S.1 29 v4.1 v4.2 2) - (nI 1)), .ref (spl 29 v4.1 v4.2)] μ Q)
    refine jX.li l6 (by rfl) (by rfl) (?_ : jX G jP 112 201 lv [.int ((S.1 29 v4.1 v4.2 2) - (nI 1)), .ref (spl 29 v4.1 v4.2), .int ((S.1 29 v4.1 v4.2 2) - (nI 1)), .ref (spl 29 v4.1 v4.2)] μ Q)
    refine jX.ic (v := nI 1) (n := 1) (by rfl) (by rfl) (by decide) (?_ : jX G jP 112 202 lv [.int (nI 1), .int ((S.1 29 v4.1 v4.2 2) - (nI 1)), .ref (spl 29 v4.1 v4.2), .int ((S.1 29 v4.1 v4.2 2) - (nI 1)), .ref (spl 29 v4.1 v4.2)] μ Q)
    refine jX.go (by rfl) (by rfl) (by rfl) (?_ : jX G jP 112 203 lv [.int (((S.1 29 v4.1 v4.2 2) - (nI 1)) - (nI 1)), .ref (spl 29 v4.1 v4.2), .int ((S.1 29 v4.1 v4.2 2) - (nI 1)), .ref (spl 29 v4.1 v4.2)] μ Q)
    obtain ⟨g13, h⟩ := jif_some h
    obtain ⟨q14, e14, h⟩ := sbd h
    refine jX.c1 (v := .long q14.1) (by rfl) (by rfl) (by rfl) (by rfl) (by rfl) (by rfl) (by rfl) (R.rec g13 (by rfl)) (Nat.le_of_ble_eq_true rfl) (Nat.le_of_ble_eq_true rfl) (F_26_ok R e14 (fun μ R => ⟨rfl, (?_ : jX G jP 112 206 lv [.long q14.1, .int ((S.1 29 v4.1 v4.2 2) - (nI 1)), .ref (spl 29 v4.1 v4.2)] μ Q)⟩))
    refine jX.lr l4 (by rfl) (by rfl) (?_ : jX G jP 112 208 lv [.ref (spl 29 v4.1 v4.2), .long q14.1, .int ((S.1 29 v4.1 v4.2 2) - (nI 1)), .ref (spl 29 v4.1 v4.2)] μ Q)
    refine jX.li l6 (by rfl) (by rfl) (?_ : jX G jP 112 210 lv [.int ((S.1 29 v4.1 v4.2 2) - (nI 1)), .ref (spl 29 v4.1 v4.2), .long q14.1, .int ((S.1 29 v4.1 v4.2 2) - (nI 1)), .ref (spl 29 v4.1 v4.2)] μ Q)
    refine jX.ic (v := nI 1) (n := 1) (by rfl) (by rfl) (by decide) (?_ : jX G jP 112 211 lv [.int (nI 1), .int ((S.1 29 v4.1 v4.2 2) - (nI 1)), .ref (spl 29 v4.1 v4.2), .long q14.1, .int ((S.1 29 v4.1 v4.2 2) - (nI 1)), .ref (spl 29 v4.1 v4.2)] μ Q)
    refine jX.go (by rfl) (by rfl) (by rfl) (?_ : jX G jP 112 212 lv [.int (((S.1 29 v4.1 v4.2 2) - (nI 1)) - (nI 1)), .ref (spl 29 v4.1 v4.2), .long q14.1, .int ((S.1 29 v4.1 v4.2 2) - (nI 1)), .ref (spl 29 v4.1 v4.2)] μ Q)
    obtain ⟨g15, h⟩ := jif_some h
    obtain ⟨q16, e16, h⟩ := sbd h
    refine jX.c1 (v := .int q16.1) (by rfl) (by rfl) (by rfl) (by rfl) (by rfl) (by rfl) (by rfl) (R.rec g15 (by rfl)) (Nat.le_of_ble_eq_true rfl) (Nat.le_of_ble_eq_true rfl) (F_27_ok R e16 (fun μ R => ⟨rfl, (?_ : jX G jP 112 215 lv [.int q16.1, .long q14.1, .int ((S.1 29 v4.1 v4.2 2) - (nI 1)), .ref (spl 29 v4.1 v4.2)] μ Q)⟩))
    obtain ⟨g17, h⟩ := jif_some h
    obtain ⟨q18, e18, h⟩ := sbd h
    refine jX.cv (by rfl) (by rfl) (by rfl) (by rfl) (by rfl) (by rfl) (by rfl) (R.rec g17 (by rfl)) (Nat.le_of_ble_eq_true rfl) (Nat.le_of_ble_eq_true rfl) (F_28_ok R e18 (fun μ R => ⟨rfl, (?_ : jX G jP 112 218 lv [] μ Q)⟩))
    refine jX.lr l4 (by rfl) (by rfl) (?_ : jX G jP 112 220 lv [.ref (spl 29 v4.1 v4.2)] μ Q)
    refine jX.li l6 (by rfl) (by rfl) (?_ : jX G jP 112 222 lv [.int ((S.1 29 v4.1 v4.2 2) - (nI 1)), .ref (spl 29 v4.1 v4.2)] μ Q)
    refine jX.ic (v := nI 1) (n := 1) (by rfl) (by rfl) (by decide) (?_ : jX G jP 112 223 lv [.int (nI 1), .int ((S.1 29 v4.1 v4.2 2) - (nI 1)), .ref (spl 29 v4.1 v4.2)] μ Q)
    refine jX.go (by rfl) (by rfl) (by rfl) (?_ : jX G jP 112 224 lv [.int (((S.1 29 v4.1 v4.2 2) - (nI 1)) - (nI 1)), .ref (spl 29 v4.1 v4.2)] μ Q)
    refine jX.ll l7 (by rfl) (by rfl) (?_ : jX G jP 112 226 lv [.long q2.1, .int (((S.1 29 v4.1 v4.2 2) - (nI 1)) - (nI 1)), .ref (spl 29 v4.1 v4.2)] μ Q)
    refine jX.li l9 (by rfl) (by rfl) (?_ : jX G jP 112 228 lv [.int q4.1, .long q2.1, .int (((S.1 29 v4.1 v4.2 2) - (nI 1)) - (nI 1)), .ref (spl 29 v4.1 v4.2)] μ Q)
    obtain ⟨g19, h⟩ := jif_some h
    obtain ⟨q20, e20, h⟩ := sbd h
    refine jX.cv (by rfl) (by rfl) (by rfl) (by rfl) (by rfl) (by rfl) (by rfl) (R.rec g19 (by rfl)) (Nat.le_of_ble_eq_true rfl) (Nat.le_of_ble_eq_true rfl) (F_28_ok R e20 (fun μ R => ⟨rfl, (?_ : jX G jP 112 231 lv [] μ Q)⟩))
    refine jX.go (by rfl) (by rfl) (by rfl) (?_ : jX G jP 112 234 lv [] μ Q)
    refine jX.ic (v := nI 0) (n := 1) (by rfl) (by rfl) (by decide) (?_ : jX G jP 112 235 lv [.int (nI 0)] μ Q)
    exact jX.ret (by rfl) (by rfl) (by rfl) (by rfl) (sretv (f := srI) h K R)
  cases h
def F_112_16 (G : jG) (t : Nat) (v1 : Int32) (v2 : Int32) (v4 : (Nat × Nat)) (S : sS) : Option (Int32 × sS) := F_112_30 G t v1 v2 v4 (0, 5) S
theorem F_112_16_ok {G : jG} {t : Nat} {r : Int32} {S' : sS} {Q : Option Value ⊕ Nat → jS → Prop} (K : ∀ μ', sR S' μ' → Q (srI r) μ') : ∀ (v1 : Int32) (v2 : Int32) (v4 : (Nat × Nat)) (S : sS) (lv : jL) (μ : jS), jld lv 0 = some (.ref (spl 23 0 0)) → jld lv 1 = some (.int v1) → jld lv 2 = some (.int v2) → jld lv 4 = some (.ref (spl 29 v4.1 v4.2)) → sR S μ → F_112_16 G t v1 v2 v4 S = some (r, S') → jX G jP 112 16 lv [] μ Q := by
  intro v1 v2 v4 S lv μ l0 l1 l2 l4 R h
  unfold F_112_16 at h
  refine jX.lrn l0 (by rfl) (by rfl) (?_ : jX G jP 112 17 lv [.ref (spl 23 0 0)] μ Q)
  refine jX.sg R (by rfl) (by rfl) (by rfl) (by rfl) (by rfl) (by rfl) (?_ : jX G jP 112 20 lv [.ref (spl 8 0 0)] μ Q)
  refine jX.sg R (by rfl) (by rfl) (by rfl) (by rfl) (by rfl) (by rfl) (?_ : jX G jP 112 23 lv [.ref (spl 29 0 5)] μ Q)
  refine jX.go (by rfl) (by rfl) (by rfl) (?_ : jX G jP 112 30 lv [.ref (spl 29 0 5)] μ Q)
  exact F_112_30_ok  K v1 v2 v4 (0, 5) _ _ _ l1 l2 l4 R h
def F_112 (G : jG) (t : Nat) (v1 : Int32) (v2 : Int32) (v3 : (Nat × Nat)) (S : sS) : Option (Int32 × sS) := jif (sex S.2.2.2.1 27 v3.1 v3.2) (bif jcmp .eq v1 (nI 4) then (F_112_16 G t v1 v2 (v3.1, 1) S) else (bif jcmp .ne v1 (nI 5) then (F_112_30 G t v1 v2 (v3.1, 1) (v3.1, 0) S) else (F_112_16 G t v1 v2 (v3.1, 1) S)))
theorem F_112_ok {G : jG} {t : Nat} {v1 : Int32} {v2 : Int32} {v3 : (Nat × Nat)} {S : sS} {r : Int32} {S' : sS} {μ : jS} {Q : Option Value ⊕ Nat → jS → Prop} (R : sR S μ) (h : F_112 G t v1 v2 v3 S = some (r, S')) (K : ∀ μ', sR S' μ' → Q (srI r) μ') : jX G jP 112 0 (lv_args 0 [.ref (spl 23 0 0), .int v1, .int v2, .ref (spl 27 v3.1 v3.2)]) [] μ Q := by
  unfold F_112 at h
  have l0 : jld (lv_args 0 [.ref (spl 23 0 0), .int v1, .int v2, .ref (spl 27 v3.1 v3.2)]) 0 = some (.ref (spl 23 0 0)) := by rfl
  have l1 : jld (lv_args 0 [.ref (spl 23 0 0), .int v1, .int v2, .ref (spl 27 v3.1 v3.2)]) 1 = some (.int v1) := by rfl
  have l2 : jld (lv_args 0 [.ref (spl 23 0 0), .int v1, .int v2, .ref (spl 27 v3.1 v3.2)]) 2 = some (.int v2) := by rfl
  have l3 : jld (lv_args 0 [.ref (spl 23 0 0), .int v1, .int v2, .ref (spl 27 v3.1 v3.2)]) 3 = some (.ref (spl 27 v3.1 v3.2)) := by rfl
  generalize lv_args 0 [.ref (spl 23 0 0), .int v1, .int v2, .ref (spl 27 v3.1 v3.2)] = lv at *
  refine jX.lrn l3 (by rfl) (by rfl) (?_ : jX G jP 112 1 lv [.ref (spl 27 v3.1 v3.2)] μ Q)
  obtain ⟨g1, h⟩ := jif_some h
  refine jX.sg R g1 (by rfl) (by rfl) (by rfl) (by rfl) (by rfl) (?_ : jX G jP 112 4 lv [.ref (spl 29 v3.1 1)] μ Q)
  refine jX.s1 (k := 4) (pc' := 6) (by rfl) (by rfl) (by rfl) (fun lv l4 kp => (?_ : jX G jP 112 6 lv [] μ Q))
  replace l0 := kp 0 _ l0 (by rfl) (by first | rfl | simp [soR_cat])
  replace l1 := kp 1 _ l1 (by rfl) (by first | rfl | simp [soR_cat])
  replace l2 := kp 2 _ l2 (by rfl) (by first | rfl | simp [soR_cat])
  replace l3 := kp 3 _ l3 (by rfl) (by first | rfl | simp [soR_cat])
  refine jX.lin l1 (by rfl) (by rfl) (?_ : jX G jP 112 7 lv [.int v1] μ Q)
  refine jX.ic (v := nI 4) (n := 1) (by rfl) (by rfl) (by decide) (?_ : jX G jP 112 8 lv [.int (nI 4), .int v1] μ Q)
  rcases bif_or h with ⟨hc, h⟩ | ⟨hc, h⟩
  · refine jX.b2t hc (by rfl) (by rfl) (by rfl) (?_ : jX G jP 112 16 lv [] μ Q)
    exact F_112_16_ok  K v1 v2 (v3.1, 1) _ _ _ l0 l1 l2 l4 R h
  · refine jX.b2f hc (by rfl) (by rfl) (by rfl) (?_ : jX G jP 112 11 lv [] μ Q)
    refine jX.lin l1 (by rfl) (by rfl) (?_ : jX G jP 112 12 lv [.int v1] μ Q)
    refine jX.ic (v := nI 5) (n := 1) (by rfl) (by rfl) (by decide) (?_ : jX G jP 112 13 lv [.int (nI 5), .int v1] μ Q)
    rcases bif_or h with ⟨hc, h⟩ | ⟨hc, h⟩
    · refine jX.b2t hc (by rfl) (by rfl) (by rfl) (?_ : jX G jP 112 26 lv [] μ Q)
      refine jX.lrn l3 (by rfl) (by rfl) (?_ : jX G jP 112 27 lv [.ref (spl 27 v3.1 v3.2)] μ Q)
      refine jX.sg R g1 (by rfl) (by rfl) (by rfl) (by rfl) (by rfl) (?_ : jX G jP 112 30 lv [.ref (spl 29 v3.1 0)] μ Q)
      exact F_112_30_ok  K v1 v2 (v3.1, 1) (v3.1, 0) _ _ _ l1 l2 l4 R h
    · refine jX.b2f hc (by rfl) (by rfl) (by rfl) (?_ : jX G jP 112 16 lv [] μ Q)
      exact F_112_16_ok  K v1 v2 (v3.1, 1) _ _ _ l0 l1 l2 l4 R h
/-! 113 StrandRuntime$Machine.resultOf(IJJ)J -/
def F_113 (G : jG) (t : Nat) (v1 : Int32) (v2 : Int64) (v4 : Int64) (S : sS) : Option (Int64 × sS) := bif decide (v1.toInt < 9 ∨ 12 < v1.toInt) then (bif jcmp .ge (lg_cmp v2 v4) 0 then (some (0, S)) else (some (1, S))) else (bif decide (v1 = nI 9) then (some ((v2 + v4), S)) else (bif decide (v1 = nI 10) then (some ((v2 - v4), S)) else (bif decide (v1 = nI 11) then (some ((v2 * v4), S)) else (bif decide (v1 = nI 12) then (bif jcmp .ne (lg_cmp v4 0) 0 then (jif (decide (¬ v4 = 0)) (some ((v2 / v4), S))) else (some (0, S))) else (none)))))
theorem F_113_ok {G : jG} {t : Nat} {v1 : Int32} {v2 : Int64} {v4 : Int64} {S : sS} {r : Int64} {S' : sS} {μ : jS} {Q : Option Value ⊕ Nat → jS → Prop} (R : sR S μ) (h : F_113 G t v1 v2 v4 S = some (r, S')) (K : ∀ μ', sR S' μ' → Q (srL r) μ') : jX G jP 113 0 (lv_args 0 [.ref (spl 23 0 0), .int v1, .long v2, .long v4]) [] μ Q := by
  unfold F_113 at h
  have l1 : jld (lv_args 0 [.ref (spl 23 0 0), .int v1, .long v2, .long v4]) 1 = some (.int v1) := by rfl
  have l2 : jld (lv_args 0 [.ref (spl 23 0 0), .int v1, .long v2, .long v4]) 2 = some (.long v2) := by rfl
  have l4 : jld (lv_args 0 [.ref (spl 23 0 0), .int v1, .long v2, .long v4]) 4 = some (.long v4) := by rfl
  generalize lv_args 0 [.ref (spl 23 0 0), .int v1, .long v2, .long v4] = lv at *
  refine jX.lin l1 (by rfl) (by rfl) (?_ : jX G jP 113 1 lv [.int v1] μ Q)
  rcases bif_or h with ⟨hc, h⟩ | ⟨-, h⟩
  · refine jX.swd hc (by rfl) (by rfl) (by rfl) (?_ : jX G jP 113 63 lv [] μ Q)
    refine jX.lln l2 (by rfl) (by rfl) (?_ : jX G jP 113 64 lv [.long v2] μ Q)
    refine jX.ll l4 (by rfl) (by rfl) (?_ : jX G jP 113 66 lv [.long v4, .long v2] μ Q)
    refine jX.go (by rfl) (by rfl) (by rfl) (?_ : jX G jP 113 67 lv [.int (lg_cmp v2 v4)] μ Q)
    rcases bif_or h with ⟨hc, h⟩ | ⟨hc, h⟩
    · refine jX.b1t hc (by rfl) (by rfl) (by rfl) (?_ : jX G jP 113 74 lv [] μ Q)
      refine jX.go (by rfl) (by rfl) (by rfl) (?_ : jX G jP 113 75 lv [.long 0] μ Q)
      exact jX.ret (by rfl) (by rfl) (by rfl) (by rfl) (sretv (f := srL) h K R)
    · refine jX.b1f hc (by rfl) (by rfl) (by rfl) (?_ : jX G jP 113 70 lv [] μ Q)
      refine jX.go (by rfl) (by rfl) (by rfl) (?_ : jX G jP 113 71 lv [.long 1] μ Q)
      refine jX.go (by rfl) (by rfl) (by rfl) (?_ : jX G jP 113 75 lv [.long 1] μ Q)
      exact jX.ret (by rfl) (by rfl) (by rfl) (by rfl) (sretv (f := srL) h K R)
  rcases bif_or h with ⟨hc, h⟩ | ⟨-, h⟩
  · refine jX.swn hc (by rfl) (by rfl) (by rfl) (?_ : jX G jP 113 32 lv [] μ Q)
    refine jX.lln l2 (by rfl) (by rfl) (?_ : jX G jP 113 33 lv [.long v2] μ Q)
    refine jX.ll l4 (by rfl) (by rfl) (?_ : jX G jP 113 35 lv [.long v4, .long v2] μ Q)
    refine jX.go (by rfl) (by rfl) (by rfl) (?_ : jX G jP 113 36 lv [.long (v2 + v4)] μ Q)
    exact jX.ret (by rfl) (by rfl) (by rfl) (by rfl) (sretv (f := srL) h K R)
  rcases bif_or h with ⟨hc, h⟩ | ⟨-, h⟩
  · refine jX.swn hc (by rfl) (by rfl) (by rfl) (?_ : jX G jP 113 37 lv [] μ Q)
    refine jX.lln l2 (by rfl) (by rfl) (?_ : jX G jP 113 38 lv [.long v2] μ Q)
    refine jX.ll l4 (by rfl) (by rfl) (?_ : jX G jP 113 40 lv [.long v4, .long v2] μ Q)
    refine jX.go (by rfl) (by rfl) (by rfl) (?_ : jX G jP 113 41 lv [.long (v2 - v4)] μ Q)
    exact jX.ret (by rfl) (by rfl) (by rfl) (by rfl) (sretv (f := srL) h K R)
  rcases bif_or h with ⟨hc, h⟩ | ⟨-, h⟩
  · refine jX.swn hc (by rfl) (by rfl) (by rfl) (?_ : jX G jP 113 42 lv [] μ Q)
    refine jX.lln l2 (by rfl) (by rfl) (?_ : jX G jP 113 43 lv [.long v2] μ Q)
    refine jX.ll l4 (by rfl) (by rfl) (?_ : jX G jP 113 45 lv [.long v4, .long v2] μ Q)
    refine jX.go (by rfl) (by rfl) (by rfl) (?_ : jX G jP 113 46 lv [.long (v2 * v4)] μ Q)
    exact jX.ret (by rfl) (by rfl) (by rfl) (by rfl) (sretv (f := srL) h K R)
  rcases bif_or h with ⟨hc, h⟩ | ⟨-, h⟩
  · refine jX.swn hc (by rfl) (by rfl) (by rfl) (?_ : jX G jP 113 47 lv [] μ Q)
    refine jX.ll l4 (by rfl) (by rfl) (?_ : jX G jP 113 49 lv [.long v4] μ Q)
    refine jX.go (by rfl) (by rfl) (by rfl) (?_ : jX G jP 113 50 lv [.long 0, .long v4] μ Q)
    refine jX.go (by rfl) (by rfl) (by rfl) (?_ : jX G jP 113 51 lv [.int (lg_cmp v4 0)] μ Q)
    rcases bif_or h with ⟨hc, h⟩ | ⟨hc, h⟩
    · refine jX.b1t hc (by rfl) (by rfl) (by rfl) (?_ : jX G jP 113 58 lv [] μ Q)
      refine jX.lln l2 (by rfl) (by rfl) (?_ : jX G jP 113 59 lv [.long v2] μ Q)
      refine jX.ll l4 (by rfl) (by rfl) (?_ : jX G jP 113 61 lv [.long v4, .long v2] μ Q)
      obtain ⟨g1, h⟩ := jif_some h
      refine jX.ld g1 (by rfl) (by rfl) (?_ : jX G jP 113 62 lv [.long (v2 / v4)] μ Q)
      exact jX.ret (by rfl) (by rfl) (by rfl) (by rfl) (sretv (f := srL) h K R)
    · refine jX.b1f hc (by rfl) (by rfl) (by rfl) (?_ : jX G jP 113 54 lv [] μ Q)
      refine jX.go (by rfl) (by rfl) (by rfl) (?_ : jX G jP 113 55 lv [.long 0] μ Q)
      refine jX.go (by rfl) (by rfl) (by rfl) (?_ : jX G jP 113 62 lv [.long 0] μ Q)
      exact jX.ret (by rfl) (by rfl) (by rfl) (by rfl) (sretv (f := srL) h K R)
  cases h
/-! 114 StrandRuntime$Machine.reckon(ILStrandRuntime$Row;)I -/
def F_114_28 (G : jG) (t : Nat) (w0 : Int64) (w1 : Int32) (w2 : (Nat × Nat)) (S : sS) : Option (Int32 × sS) := jif (sex S.2.2.2.1 29 w2.1 w2.2) ((F_28 G t w2 w1 w0 (nI 0) S).bind (fun q2 => some ((nI 0), q2.2)))
theorem F_114_28_ok {G : jG} {t : Nat} {r : Int32} {S' : sS} {Q : Option Value ⊕ Nat → jS → Prop} (K : ∀ μ', sR S' μ' → Q (srI r) μ') : ∀ (w0 : Int64) (w1 : Int32) (w2 : (Nat × Nat)) (S : sS) (lv : jL) (μ : jS), sR S μ → F_114_28 G t w0 w1 w2 S = some (r, S') → jX G jP 114 28 lv [.long w0, .int w1, .ref (spl 29 w2.1 w2.2)] μ Q := by
  intro w0 w1 w2 S lv μ R h
  unfold F_114_28 at h
  refine jX.ic (v := nI 0) (n := 1) (by rfl) (by rfl) (by decide) (?_ : jX G jP 114 29 lv [.int (nI 0), .long w0, .int w1, .ref (spl 29 w2.1 w2.2)] μ Q)
  obtain ⟨g1, h⟩ := jif_some h
  obtain ⟨q2, e2, h⟩ := sbd h
  refine jX.cv (by rfl) (by rfl) (by rfl) (by rfl) (by rfl) (by rfl) (by rfl) (R.rec g1 (by rfl)) (Nat.le_of_ble_eq_true rfl) (Nat.le_of_ble_eq_true rfl) (F_28_ok R e2 (fun μ R => ⟨rfl, (?_ : jX G jP 114 32 lv [] μ Q)⟩))
  refine jX.ic (v := nI 0) (n := 1) (by rfl) (by rfl) (by decide) (?_ : jX G jP 114 33 lv [.int (nI 0)] μ Q)
  exact jX.ret (by rfl) (by rfl) (by rfl) (by rfl) (sretv (f := srI) h K R)
def F_114_169 (G : jG) (t : Nat) (w0 : Int64) (w1 : (Nat × Nat)) (S : sS) : Option (Int32 × sS) := jif (sex S.2.2.2.1 29 w1.1 w1.2) ((F_78 G t w1 w0 (nI 0) S).bind (fun q2 => some ((nI 0), q2.2)))
theorem F_114_169_ok {G : jG} {t : Nat} {r : Int32} {S' : sS} {Q : Option Value ⊕ Nat → jS → Prop} (K : ∀ μ', sR S' μ' → Q (srI r) μ') : ∀ (w0 : Int64) (w1 : (Nat × Nat)) (S : sS) (lv : jL) (μ : jS), sR S μ → F_114_169 G t w0 w1 S = some (r, S') → jX G jP 114 169 lv [.long w0, .ref (spl 29 w1.1 w1.2)] μ Q := by
  intro w0 w1 S lv μ R h
  unfold F_114_169 at h
  refine jX.ic (v := nI 0) (n := 1) (by rfl) (by rfl) (by decide) (?_ : jX G jP 114 170 lv [.int (nI 0), .long w0, .ref (spl 29 w1.1 w1.2)] μ Q)
  obtain ⟨g1, h⟩ := jif_some h
  obtain ⟨q2, e2, h⟩ := sbd h
  refine jX.cv (by rfl) (by rfl) (by rfl) (by rfl) (by rfl) (by rfl) (by rfl) (R.rec g1 (by rfl)) (Nat.le_of_ble_eq_true rfl) (Nat.le_of_ble_eq_true rfl) (F_78_ok R e2 (fun μ R => ⟨rfl, (?_ : jX G jP 114 173 lv [] μ Q)⟩))
  refine jX.ic (v := nI 0) (n := 1) (by rfl) (by rfl) (by decide) (?_ : jX G jP 114 174 lv [.int (nI 0)] μ Q)
  exact jX.ret (by rfl) (by rfl) (by rfl) (by rfl) (sretv (f := srI) h K R)
def F_114_156 (G : jG) (t : Nat) (w0 : Int32) (w1 : (Nat × Nat)) (S : sS) : Option (Int32 × sS) := F_114_169 G t w0.toInt64 w1 S
theorem F_114_156_ok {G : jG} {t : Nat} {r : Int32} {S' : sS} {Q : Option Value ⊕ Nat → jS → Prop} (K : ∀ μ', sR S' μ' → Q (srI r) μ') : ∀ (w0 : Int32) (w1 : (Nat × Nat)) (S : sS) (lv : jL) (μ : jS), sR S μ → F_114_156 G t w0 w1 S = some (r, S') → jX G jP 114 156 lv [.int w0, .ref (spl 29 w1.1 w1.2)] μ Q := by
  intro w0 w1 S lv μ R h
  unfold F_114_156 at h
  refine jX.go (by rfl) (by rfl) (by rfl) (?_ : jX G jP 114 157 lv [.long w0.toInt64, .ref (spl 29 w1.1 w1.2)] μ Q)
  refine jX.go (by rfl) (by rfl) (by rfl) (?_ : jX G jP 114 169 lv [.long w0.toInt64, .ref (spl 29 w1.1 w1.2)] μ Q)
  exact F_114_169_ok  K w0.toInt64 w1 _ _ _  R h
def F_114_132 (G : jG) (t : Nat) (v1 : Int32) (v2 : (Nat × Nat)) (v4 : Int64) (v6 : Int64) (w0 : Int32) (S : sS) : Option (Int32 × sS) := jif (sex S.2.2.2.1 29 v2.1 v2.2) ((F_76 G t v2 (nI 2) S).bind (fun q2 => bif jcmp .ne v1 (nI 14) then ((F_113 G t v1 v6 v4 q2.2).bind (fun q3 => F_114_169 G t q3.1 v2 q3.2)) else (bif jcmp .eq w0 0 then (F_114_156 G t (nI 0) v2 q2.2) else (F_114_156 G t (nI 1) v2 q2.2))))
theorem F_114_132_ok {G : jG} {t : Nat} {r : Int32} {S' : sS} {Q : Option Value ⊕ Nat → jS → Prop} (K : ∀ μ', sR S' μ' → Q (srI r) μ') : ∀ (v1 : Int32) (v2 : (Nat × Nat)) (v4 : Int64) (v6 : Int64) (w0 : Int32) (S : sS) (lv : jL) (μ : jS), jld lv 0 = some (.ref (spl 23 0 0)) → jld lv 1 = some (.int v1) → jld lv 2 = some (.ref (spl 29 v2.1 v2.2)) → jld lv 4 = some (.long v4) → jld lv 6 = some (.long v6) → sR S μ → F_114_132 G t v1 v2 v4 v6 w0 S = some (r, S') → jX G jP 114 132 lv [.int w0] μ Q := by
  intro v1 v2 v4 v6 w0 S lv μ l0 l1 l2 l4 l6 R h
  unfold F_114_132 at h
  refine jX.s1 (k := 9) (pc' := 134) (by rfl) (by rfl) (by rfl) (fun lv l9 kp => (?_ : jX G jP 114 134 lv [] μ Q))
  replace l0 := kp 0 _ l0 (by rfl) (by first | rfl | simp [soR_cat])
  replace l1 := kp 1 _ l1 (by rfl) (by first | rfl | simp [soR_cat])
  replace l2 := kp 2 _ l2 (by rfl) (by first | rfl | simp [soR_cat])
  replace l4 := kp 4 _ l4 (by rfl) (by first | rfl | simp [soR_cat])
  replace l6 := kp 6 _ l6 (by rfl) (by first | rfl | simp [soR_cat])
  refine jX.lrn l2 (by rfl) (by rfl) (?_ : jX G jP 114 135 lv [.ref (spl 29 v2.1 v2.2)] μ Q)
  refine jX.ic (v := nI 2) (n := 1) (by rfl) (by rfl) (by decide) (?_ : jX G jP 114 136 lv [.int (nI 2), .ref (spl 29 v2.1 v2.2)] μ Q)
  obtain ⟨g1, h⟩ := jif_some h
  obtain ⟨q2, e2, h⟩ := sbd h
  refine jX.cv (by rfl) (by rfl) (by rfl) (by rfl) (by rfl) (by rfl) (by rfl) (R.rec g1 (by rfl)) (Nat.le_of_ble_eq_true rfl) (Nat.le_of_ble_eq_true rfl) (F_76_ok R e2 (fun μ R => ⟨rfl, (?_ : jX G jP 114 139 lv [] μ Q)⟩))
  refine jX.lrn l2 (by rfl) (by rfl) (?_ : jX G jP 114 140 lv [.ref (spl 29 v2.1 v2.2)] μ Q)
  refine jX.lin l1 (by rfl) (by rfl) (?_ : jX G jP 114 141 lv [.int v1, .ref (spl 29 v2.1 v2.2)] μ Q)
  refine jX.ic (v := nI 14) (n := 2) (by rfl) (by rfl) (by decide) (?_ : jX G jP 114 143 lv [.int (nI 14), .int v1, .ref (spl 29 v2.1 v2.2)] μ Q)
  rcases bif_or h with ⟨hc, h⟩ | ⟨hc, h⟩
  · refine jX.b2t hc (by rfl) (by rfl) (by rfl) (?_ : jX G jP 114 160 lv [.ref (spl 29 v2.1 v2.2)] μ Q)
    refine jX.lrn l0 (by rfl) (by rfl) (?_ : jX G jP 114 161 lv [.ref (spl 23 0 0), .ref (spl 29 v2.1 v2.2)] μ Q)
    refine jX.lin l1 (by rfl) (by rfl) (?_ : jX G jP 114 162 lv [.int v1, .ref (spl 23 0 0), .ref (spl 29 v2.1 v2.2)] μ Q)
    refine jX.ll l6 (by rfl) (by rfl) (?_ : jX G jP 114 164 lv [.long v6, .int v1, .ref (spl 23 0 0), .ref (spl 29 v2.1 v2.2)] μ Q)
    refine jX.ll l4 (by rfl) (by rfl) (?_ : jX G jP 114 166 lv [.long v4, .long v6, .int v1, .ref (spl 23 0 0), .ref (spl 29 v2.1 v2.2)] μ Q)
    obtain ⟨q3, e3, h⟩ := sbd h
    refine jX.c1 (v := .long q3.1) (by rfl) (by rfl) (by rfl) (by rfl) (by rfl) (by rfl) (by rfl) (R.rec (by rfl) (by rfl)) (Nat.le_of_ble_eq_true rfl) (Nat.le_of_ble_eq_true rfl) (F_113_ok R e3 (fun μ R => ⟨rfl, (?_ : jX G jP 114 169 lv [.long q3.1, .ref (spl 29 v2.1 v2.2)] μ Q)⟩))
    exact F_114_169_ok  K q3.1 v2 _ _ _  R h
  · refine jX.b2f hc (by rfl) (by rfl) (by rfl) (?_ : jX G jP 114 146 lv [.ref (spl 29 v2.1 v2.2)] μ Q)
    refine jX.li l9 (by rfl) (by rfl) (?_ : jX G jP 114 148 lv [.int w0, .ref (spl 29 v2.1 v2.2)] μ Q)
    rcases bif_or h with ⟨hc, h⟩ | ⟨hc, h⟩
    · refine jX.b1t hc (by rfl) (by rfl) (by rfl) (?_ : jX G jP 114 155 lv [.ref (spl 29 v2.1 v2.2)] μ Q)
      refine jX.ic (v := nI 0) (n := 1) (by rfl) (by rfl) (by decide) (?_ : jX G jP 114 156 lv [.int (nI 0), .ref (spl 29 v2.1 v2.2)] μ Q)
      exact F_114_156_ok  K (nI 0) v2 _ _ _  R h
    · refine jX.b1f hc (by rfl) (by rfl) (by rfl) (?_ : jX G jP 114 151 lv [.ref (spl 29 v2.1 v2.2)] μ Q)
      refine jX.ic (v := nI 1) (n := 1) (by rfl) (by rfl) (by decide) (?_ : jX G jP 114 152 lv [.int (nI 1), .ref (spl 29 v2.1 v2.2)] μ Q)
      refine jX.go (by rfl) (by rfl) (by rfl) (?_ : jX G jP 114 156 lv [.int (nI 1), .ref (spl 29 v2.1 v2.2)] μ Q)
      exact F_114_156_ok  K (nI 1) v2 _ _ _  R h
def F_114_131 (G : jG) (t : Nat) (v1 : Int32) (v2 : (Nat × Nat)) (v4 : Int64) (v6 : Int64) (S : sS) : Option (Int32 × sS) := F_114_132 G t v1 v2 v4 v6 (nI 0) S
theorem F_114_131_ok {G : jG} {t : Nat} {r : Int32} {S' : sS} {Q : Option Value ⊕ Nat → jS → Prop} (K : ∀ μ', sR S' μ' → Q (srI r) μ') : ∀ (v1 : Int32) (v2 : (Nat × Nat)) (v4 : Int64) (v6 : Int64) (S : sS) (lv : jL) (μ : jS), jld lv 0 = some (.ref (spl 23 0 0)) → jld lv 1 = some (.int v1) → jld lv 2 = some (.ref (spl 29 v2.1 v2.2)) → jld lv 4 = some (.long v4) → jld lv 6 = some (.long v6) → sR S μ → F_114_131 G t v1 v2 v4 v6 S = some (r, S') → jX G jP 114 131 lv [] μ Q := by
  intro v1 v2 v4 v6 S lv μ l0 l1 l2 l4 l6 R h
  unfold F_114_131 at h
  refine jX.ic (v := nI 0) (n := 1) (by rfl) (by rfl) (by decide) (?_ : jX G jP 114 132 lv [.int (nI 0)] μ Q)
  exact F_114_132_ok  K v1 v2 v4 v6 (nI 0) _ _ _ l0 l1 l2 l4 l6 R h
def F_114_104 (G : jG) (t : Nat) (v1 : Int32) (v2 : (Nat × Nat)) (v3 : Int32) (v4 : Int64) (v6 : Int64) (S : sS) : Option (Int32 × sS) := bif jcmp .ne (lg_cmp v6 v4) 0 then (F_114_131 G t v1 v2 v4 v6 S) else (jif (sex S.2.2.2.1 29 v2.1 v2.2) ((F_27 G t v2 (v3 - (nI 1)) S).bind (fun q2 => jif (sex q2.2.2.2.2.1 29 v2.1 v2.2) ((F_27 G t v2 v3 q2.2).bind (fun q4 => bif jcmp .ne q2.1 q4.1 then (F_114_131 G t v1 v2 v4 v6 q4.2) else (F_114_132 G t v1 v2 v4 v6 (nI 1) q4.2))))))
theorem F_114_104_ok {G : jG} {t : Nat} {r : Int32} {S' : sS} {Q : Option Value ⊕ Nat → jS → Prop} (K : ∀ μ', sR S' μ' → Q (srI r) μ') : ∀ (v1 : Int32) (v2 : (Nat × Nat)) (v3 : Int32) (v4 : Int64) (v6 : Int64) (S : sS) (lv : jL) (μ : jS), jld lv 0 = some (.ref (spl 23 0 0)) → jld lv 1 = some (.int v1) → jld lv 2 = some (.ref (spl 29 v2.1 v2.2)) → jld lv 3 = some (.int v3) → jld lv 4 = some (.long v4) → jld lv 6 = some (.long v6) → sR S μ → F_114_104 G t v1 v2 v3 v4 v6 S = some (r, S') → jX G jP 114 104 lv [] μ Q := by
  intro v1 v2 v3 v4 v6 S lv μ l0 l1 l2 l3 l4 l6 R h
  unfold F_114_104 at h
  refine jX.ll l6 (by rfl) (by rfl) (?_ : jX G jP 114 106 lv [.long v6] μ Q)
  refine jX.ll l4 (by rfl) (by rfl) (?_ : jX G jP 114 108 lv [.long v4, .long v6] μ Q)
  refine jX.go (by rfl) (by rfl) (by rfl) (?_ : jX G jP 114 109 lv [.int (lg_cmp v6 v4)] μ Q)
  rcases bif_or h with ⟨hc, h⟩ | ⟨hc, h⟩
  · refine jX.b1t hc (by rfl) (by rfl) (by rfl) (?_ : jX G jP 114 131 lv [] μ Q)
    exact F_114_131_ok  K v1 v2 v4 v6 _ _ _ l0 l1 l2 l4 l6 R h
  · refine jX.b1f hc (by rfl) (by rfl) (by rfl) (?_ : jX G jP 114 112 lv [] μ Q)
    refine jX.lrn l2 (by rfl) (by rfl) (?_ : jX G jP 114 113 lv [.ref (spl 29 v2.1 v2.2)] μ Q)
    refine jX.lin l3 (by rfl) (by rfl) (?_ : jX G jP 114 114 lv [.int v3, .ref (spl 29 v2.1 v2.2)] μ Q)
    refine jX.ic (v := nI 1) (n := 1) (by rfl) (by rfl) (by decide) (?_ : jX G jP 114 115 lv [.int (nI 1), .int v3, .ref (spl 29 v2.1 v2.2)] μ Q)
    refine jX.go (by rfl) (by rfl) (by rfl) (?_ : jX G jP 114 116 lv [.int (v3 - (nI 1)), .ref (spl 29 v2.1 v2.2)] μ Q)
    obtain ⟨g1, h⟩ := jif_some h
    obtain ⟨q2, e2, h⟩ := sbd h
    refine jX.c1 (v := .int q2.1) (by rfl) (by rfl) (by rfl) (by rfl) (by rfl) (by rfl) (by rfl) (R.rec g1 (by rfl)) (Nat.le_of_ble_eq_true rfl) (Nat.le_of_ble_eq_true rfl) (F_27_ok R e2 (fun μ R => ⟨rfl, (?_ : jX G jP 114 119 lv [.int q2.1] μ Q)⟩))
    refine jX.lrn l2 (by rfl) (by rfl) (?_ : jX G jP 114 120 lv [.ref (spl 29 v2.1 v2.2), .int q2.1] μ Q)
    refine jX.lin l3 (by rfl) (by rfl) (?_ : jX G jP 114 121 lv [.int v3, .ref (spl 29 v2.1 v2.2), .int q2.1] μ Q)
    obtain ⟨g3, h⟩ := jif_some h
    obtain ⟨q4, e4, h⟩ := sbd h
    refine jX.c1 (v := .int q4.1) (by rfl) (by rfl) (by rfl) (by rfl) (by rfl) (by rfl) (by rfl) (R.rec g3 (by rfl)) (Nat.le_of_ble_eq_true rfl) (Nat.le_of_ble_eq_true rfl) (F_27_ok R e4 (fun μ R => ⟨rfl, (?_ : jX G jP 114 124 lv [.int q4.1, .int q2.1] μ Q)⟩))
    rcases bif_or h with ⟨hc, h⟩ | ⟨hc, h⟩
    · refine jX.b2t hc (by rfl) (by rfl) (by rfl) (?_ : jX G jP 114 131 lv [] μ Q)
      exact F_114_131_ok  K v1 v2 v4 v6 _ _ _ l0 l1 l2 l4 l6 R h
    · refine jX.b2f hc (by rfl) (by rfl) (by rfl) (?_ : jX G jP 114 127 lv [] μ Q)
      refine jX.ic (v := nI 1) (n := 1) (by rfl) (by rfl) (by decide) (?_ : jX G jP 114 128 lv [.int (nI 1)] μ Q)
      refine jX.go (by rfl) (by rfl) (by rfl) (?_ : jX G jP 114 132 lv [.int (nI 1)] μ Q)
      exact F_114_132_ok  K v1 v2 v4 v6 (nI 1) _ _ _ l0 l1 l2 l4 l6 R h
def F_114_89 (G : jG) (t : Nat) (v1 : Int32) (v2 : (Nat × Nat)) (v3 : Int32) (v4 : Int64) (v6 : Int64) (S : sS) : Option (Int32 × sS) := bif jcmp .ne v1 (nI 12) then (F_114_104 G t v1 v2 v3 v4 v6 S) else (bif jcmp .ne (lg_cmp v4 0) 0 then (F_114_104 G t v1 v2 v3 v4 v6 S) else (some ((-1), S)))
theorem F_114_89_ok {G : jG} {t : Nat} {r : Int32} {S' : sS} {Q : Option Value ⊕ Nat → jS → Prop} (K : ∀ μ', sR S' μ' → Q (srI r) μ') : ∀ (v1 : Int32) (v2 : (Nat × Nat)) (v3 : Int32) (v4 : Int64) (v6 : Int64) (S : sS) (lv : jL) (μ : jS), jld lv 0 = some (.ref (spl 23 0 0)) → jld lv 1 = some (.int v1) → jld lv 2 = some (.ref (spl 29 v2.1 v2.2)) → jld lv 3 = some (.int v3) → jld lv 4 = some (.long v4) → jld lv 6 = some (.long v6) → sR S μ → F_114_89 G t v1 v2 v3 v4 v6 S = some (r, S') → jX G jP 114 89 lv [] μ Q := by
  intro v1 v2 v3 v4 v6 S lv μ l0 l1 l2 l3 l4 l6 R h
  unfold F_114_89 at h
  refine jX.lin l1 (by rfl) (by rfl) (?_ : jX G jP 114 90 lv [.int v1] μ Q)
  refine jX.ic (v := nI 12) (n := 2) (by rfl) (by rfl) (by decide) (?_ : jX G jP 114 92 lv [.int (nI 12), .int v1] μ Q)
  rcases bif_or h with ⟨hc, h⟩ | ⟨hc, h⟩
  · refine jX.b2t hc (by rfl) (by rfl) (by rfl) (?_ : jX G jP 114 104 lv [] μ Q)
    exact F_114_104_ok  K v1 v2 v3 v4 v6 _ _ _ l0 l1 l2 l3 l4 l6 R h
  · refine jX.b2f hc (by rfl) (by rfl) (by rfl) (?_ : jX G jP 114 95 lv [] μ Q)
    refine jX.ll l4 (by rfl) (by rfl) (?_ : jX G jP 114 97 lv [.long v4] μ Q)
    refine jX.go (by rfl) (by rfl) (by rfl) (?_ : jX G jP 114 98 lv [.long 0, .long v4] μ Q)
    refine jX.go (by rfl) (by rfl) (by rfl) (?_ : jX G jP 114 99 lv [.int (lg_cmp v4 0)] μ Q)
    rcases bif_or h with ⟨hc, h⟩ | ⟨hc, h⟩
    · refine jX.b1t hc (by rfl) (by rfl) (by rfl) (?_ : jX G jP 114 104 lv [] μ Q)
      exact F_114_104_ok  K v1 v2 v3 v4 v6 _ _ _ l0 l1 l2 l3 l4 l6 R h
    · refine jX.b1f hc (by rfl) (by rfl) (by rfl) (?_ : jX G jP 114 102 lv [] μ Q)
      refine jX.ic (v := (-1)) (n := 1) (by rfl) (by rfl) (by decide) (?_ : jX G jP 114 103 lv [.int (-1)] μ Q)
      exact jX.ret (by rfl) (by rfl) (by rfl) (by rfl) (sretv (f := srI) h K R)
def F_114_73 (G : jG) (t : Nat) (v1 : Int32) (v2 : (Nat × Nat)) (v3 : Int32) (v4 : Int64) (v6 : Int64) (w0 : Int32) (S : sS) : Option (Int32 × sS) := bif jcmp .eq v1 (nI 14) then (F_114_89 G t v1 v2 v3 v4 v6 S) else (bif jcmp .ne w0 0 then (F_114_89 G t v1 v2 v3 v4 v6 S) else (some ((-2), S)))
theorem F_114_73_ok {G : jG} {t : Nat} {r : Int32} {S' : sS} {Q : Option Value ⊕ Nat → jS → Prop} (K : ∀ μ', sR S' μ' → Q (srI r) μ') : ∀ (v1 : Int32) (v2 : (Nat × Nat)) (v3 : Int32) (v4 : Int64) (v6 : Int64) (w0 : Int32) (S : sS) (lv : jL) (μ : jS), jld lv 0 = some (.ref (spl 23 0 0)) → jld lv 1 = some (.int v1) → jld lv 2 = some (.ref (spl 29 v2.1 v2.2)) → jld lv 3 = some (.int v3) → jld lv 4 = some (.long v4) → jld lv 6 = some (.long v6) → sR S μ → F_114_73 G t v1 v2 v3 v4 v6 w0 S = some (r, S') → jX G jP 114 73 lv [.int w0] μ Q := by
  intro v1 v2 v3 v4 v6 w0 S lv μ l0 l1 l2 l3 l4 l6 R h
  unfold F_114_73 at h
  refine jX.s1 (k := 8) (pc' := 75) (by rfl) (by rfl) (by rfl) (fun lv l8 kp => (?_ : jX G jP 114 75 lv [] μ Q))
  replace l0 := kp 0 _ l0 (by rfl) (by first | rfl | simp [soR_cat])
  replace l1 := kp 1 _ l1 (by rfl) (by first | rfl | simp [soR_cat])
  replace l2 := kp 2 _ l2 (by rfl) (by first | rfl | simp [soR_cat])
  replace l3 := kp 3 _ l3 (by rfl) (by first | rfl | simp [soR_cat])
  replace l4 := kp 4 _ l4 (by rfl) (by first | rfl | simp [soR_cat])
  replace l6 := kp 6 _ l6 (by rfl) (by first | rfl | simp [soR_cat])
  refine jX.lin l1 (by rfl) (by rfl) (?_ : jX G jP 114 76 lv [.int v1] μ Q)
  refine jX.ic (v := nI 14) (n := 2) (by rfl) (by rfl) (by decide) (?_ : jX G jP 114 78 lv [.int (nI 14), .int v1] μ Q)
  rcases bif_or h with ⟨hc, h⟩ | ⟨hc, h⟩
  · refine jX.b2t hc (by rfl) (by rfl) (by rfl) (?_ : jX G jP 114 89 lv [] μ Q)
    exact F_114_89_ok  K v1 v2 v3 v4 v6 _ _ _ l0 l1 l2 l3 l4 l6 R h
  · refine jX.b2f hc (by rfl) (by rfl) (by rfl) (?_ : jX G jP 114 81 lv [] μ Q)
    refine jX.li l8 (by rfl) (by rfl) (?_ : jX G jP 114 83 lv [.int w0] μ Q)
    rcases bif_or h with ⟨hc, h⟩ | ⟨hc, h⟩
    · refine jX.b1t hc (by rfl) (by rfl) (by rfl) (?_ : jX G jP 114 89 lv [] μ Q)
      exact F_114_89_ok  K v1 v2 v3 v4 v6 _ _ _ l0 l1 l2 l3 l4 l6 R h
    · refine jX.b1f hc (by rfl) (by rfl) (by rfl) (?_ : jX G jP 114 86 lv [] μ Q)
      refine jX.ic (v := (-2)) (n := 2) (by rfl) (by rfl) (by decide) (?_ : jX G jP 114 88 lv [.int (-2)] μ Q)
      exact jX.ret (by rfl) (by rfl) (by rfl) (by rfl) (sretv (f := srI) h K R)
def F_114_72 (G : jG) (t : Nat) (v1 : Int32) (v2 : (Nat × Nat)) (v3 : Int32) (v4 : Int64) (v6 : Int64) (S : sS) : Option (Int32 × sS) := F_114_73 G t v1 v2 v3 v4 v6 (nI 0) S
theorem F_114_72_ok {G : jG} {t : Nat} {r : Int32} {S' : sS} {Q : Option Value ⊕ Nat → jS → Prop} (K : ∀ μ', sR S' μ' → Q (srI r) μ') : ∀ (v1 : Int32) (v2 : (Nat × Nat)) (v3 : Int32) (v4 : Int64) (v6 : Int64) (S : sS) (lv : jL) (μ : jS), jld lv 0 = some (.ref (spl 23 0 0)) → jld lv 1 = some (.int v1) → jld lv 2 = some (.ref (spl 29 v2.1 v2.2)) → jld lv 3 = some (.int v3) → jld lv 4 = some (.long v4) → jld lv 6 = some (.long v6) → sR S μ → F_114_72 G t v1 v2 v3 v4 v6 S = some (r, S') → jX G jP 114 72 lv [] μ Q := by
  intro v1 v2 v3 v4 v6 S lv μ l0 l1 l2 l3 l4 l6 R h
  unfold F_114_72 at h
  refine jX.ic (v := nI 0) (n := 1) (by rfl) (by rfl) (by decide) (?_ : jX G jP 114 73 lv [.int (nI 0)] μ Q)
  exact F_114_73_ok  K v1 v2 v3 v4 v6 (nI 0) _ _ _ l0 l1 l2 l3 l4 l6 R h
def F_114 (G : jG) (t : Nat) (v1 : Int32) (v2 : (Nat × Nat)) (S : sS) : Option (Int32 × sS) := jif (sex S.2.2.2.1 29 v2.1 v2.2) (bif jcmp .ne v1 (nI 15) then ((F_26 G t v2 ((S.1 29 v2.1 v2.2 2) - (nI 1)) S).bind (fun q2 => jif (sex q2.2.2.2.2.1 29 v2.1 v2.2) ((F_26 G t v2 (((S.1 29 v2.1 v2.2 2) - (nI 1)) - (nI 1)) q2.2).bind (fun q4 => jif (sex q4.2.2.2.2.1 29 v2.1 v2.2) ((F_103 G t v2 ((S.1 29 v2.1 v2.2 2) - (nI 1)) q4.2).bind (fun q6 => bif jcmp .eq q6.1 0 then (F_114_72 G t v1 v2 ((S.1 29 v2.1 v2.2 2) - (nI 1)) q2.1 q4.1 q6.2) else (jif (sex q6.2.2.2.2.1 29 v2.1 v2.2) ((F_103 G t v2 (((S.1 29 v2.1 v2.2 2) - (nI 1)) - (nI 1)) q6.2).bind (fun q8 => bif jcmp .eq q8.1 0 then (F_114_72 G t v1 v2 ((S.1 29 v2.1 v2.2 2) - (nI 1)) q2.1 q4.1 q8.2) else (F_114_73 G t v1 v2 ((S.1 29 v2.1 v2.2 2) - (nI 1)) q2.1 q4.1 (nI 1) q8.2)))))))))) else ((F_110 G t v2 ((S.1 29 v2.1 v2.2 2) - (nI 1)) S).bind (fun q9 => bif jcmp .eq q9.1 0 then (F_114_28 G t 0 ((S.1 29 v2.1 v2.2 2) - (nI 1)) v2 q9.2) else (F_114_28 G t 1 ((S.1 29 v2.1 v2.2 2) - (nI 1)) v2 q9.2))))
theorem F_114_ok {G : jG} {t : Nat} {v1 : Int32} {v2 : (Nat × Nat)} {S : sS} {r : Int32} {S' : sS} {μ : jS} {Q : Option Value ⊕ Nat → jS → Prop} (R : sR S μ) (h : F_114 G t v1 v2 S = some (r, S')) (K : ∀ μ', sR S' μ' → Q (srI r) μ') : jX G jP 114 0 (lv_args 0 [.ref (spl 23 0 0), .int v1, .ref (spl 29 v2.1 v2.2)]) [] μ Q := by
  unfold F_114 at h
  have l0 : jld (lv_args 0 [.ref (spl 23 0 0), .int v1, .ref (spl 29 v2.1 v2.2)]) 0 = some (.ref (spl 23 0 0)) := by rfl
  have l1 : jld (lv_args 0 [.ref (spl 23 0 0), .int v1, .ref (spl 29 v2.1 v2.2)]) 1 = some (.int v1) := by rfl
  have l2 : jld (lv_args 0 [.ref (spl 23 0 0), .int v1, .ref (spl 29 v2.1 v2.2)]) 2 = some (.ref (spl 29 v2.1 v2.2)) := by rfl
  generalize lv_args 0 [.ref (spl 23 0 0), .int v1, .ref (spl 29 v2.1 v2.2)] = lv at *
  refine jX.lrn l2 (by rfl) (by rfl) (?_ : jX G jP 114 1 lv [.ref (spl 29 v2.1 v2.2)] μ Q)
  obtain ⟨g1, h⟩ := jif_some h
  refine jX.sg R g1 (by rfl) (by rfl) (by rfl) (by rfl) (by rfl) (?_ : jX G jP 114 4 lv [.int (S.1 29 v2.1 v2.2 2)] μ Q)
  refine jX.ic (v := nI 1) (n := 1) (by rfl) (by rfl) (by decide) (?_ : jX G jP 114 5 lv [.int (nI 1), .int (S.1 29 v2.1 v2.2 2)] μ Q)
  refine jX.go (by rfl) (by rfl) (by rfl) (?_ : jX G jP 114 6 lv [.int ((S.1 29 v2.1 v2.2 2) - (nI 1))] μ Q)
  refine jX.s1 (k := 3) (pc' := 7) (by rfl) (by rfl) (by rfl) (fun lv l3 kp => (?_ : jX G jP 114 7 lv [] μ Q))
  replace l0 := kp 0 _ l0 (by rfl) (by first | rfl | simp [soR_cat])
  replace l1 := kp 1 _ l1 (by rfl) (by first | rfl | simp [soR_cat])
  replace l2 := kp 2 _ l2 (by rfl) (by first | rfl | simp [soR_cat])
  refine jX.lin l1 (by rfl) (by rfl) (?_ : jX G jP 114 8 lv [.int v1] μ Q)
  refine jX.ic (v := nI 15) (n := 2) (by rfl) (by rfl) (by decide) (?_ : jX G jP 114 10 lv [.int (nI 15), .int v1] μ Q)
  rcases bif_or h with ⟨hc, h⟩ | ⟨hc, h⟩
  · refine jX.b2t hc (by rfl) (by rfl) (by rfl) (?_ : jX G jP 114 34 lv [] μ Q)
    refine jX.lrn l2 (by rfl) (by rfl) (?_ : jX G jP 114 35 lv [.ref (spl 29 v2.1 v2.2)] μ Q)
    refine jX.lin l3 (by rfl) (by rfl) (?_ : jX G jP 114 36 lv [.int ((S.1 29 v2.1 v2.2 2) - (nI 1)), .ref (spl 29 v2.1 v2.2)] μ Q)
    obtain ⟨q2, e2, h⟩ := sbd h
    refine jX.c1 (v := .long q2.1) (by rfl) (by rfl) (by rfl) (by rfl) (by rfl) (by rfl) (by rfl) (R.rec g1 (by rfl)) (Nat.le_of_ble_eq_true rfl) (Nat.le_of_ble_eq_true rfl) (F_26_ok R e2 (fun μ R => ⟨rfl, (?_ : jX G jP 114 39 lv [.long q2.1] μ Q)⟩))
    refine jX.s2 (k := 4) (pc' := 41) (by rfl) (by rfl) (by rfl) (fun lv l4 kp => (?_ : jX G jP 114 41 lv [] μ Q))
    replace l0 := kp 0 _ l0 (by rfl) (by first | rfl | simp [soR_cat])
    replace l1 := kp 1 _ l1 (by rfl) (by first | rfl | simp [soR_cat])
    replace l2 := kp 2 _ l2 (by rfl) (by first | rfl | simp [soR_cat])
    replace l3 := kp 3 _ l3 (by rfl) (by first | rfl | simp [soR_cat])
    refine jX.lrn l2 (by rfl) (by rfl) (?_ : jX G jP 114 42 lv [.ref (spl 29 v2.1 v2.2)] μ Q)
    refine jX.lin l3 (by rfl) (by rfl) (?_ : jX G jP 114 43 lv [.int ((S.1 29 v2.1 v2.2 2) - (nI 1)), .ref (spl 29 v2.1 v2.2)] μ Q)
    refine jX.ic (v := nI 1) (n := 1) (by rfl) (by rfl) (by decide) (?_ : jX G jP 114 44 lv [.int (nI 1), .int ((S.1 29 v2.1 v2.2 2) - (nI 1)), .ref (spl 29 v2.1 v2.2)] μ Q)
    refine jX.go (by rfl) (by rfl) (by rfl) (?_ : jX G jP 114 45 lv [.int (((S.1 29 v2.1 v2.2 2) - (nI 1)) - (nI 1)), .ref (spl 29 v2.1 v2.2)] μ Q)
    obtain ⟨g3, h⟩ := jif_some h
    obtain ⟨q4, e4, h⟩ := sbd h
    refine jX.c1 (v := .long q4.1) (by rfl) (by rfl) (by rfl) (by rfl) (by rfl) (by rfl) (by rfl) (R.rec g3 (by rfl)) (Nat.le_of_ble_eq_true rfl) (Nat.le_of_ble_eq_true rfl) (F_26_ok R e4 (fun μ R => ⟨rfl, (?_ : jX G jP 114 48 lv [.long q4.1] μ Q)⟩))
    refine jX.s2 (k := 6) (pc' := 50) (by rfl) (by rfl) (by rfl) (fun lv l6 kp => (?_ : jX G jP 114 50 lv [] μ Q))
    replace l0 := kp 0 _ l0 (by rfl) (by first | rfl | simp [soR_cat])
    replace l1 := kp 1 _ l1 (by rfl) (by first | rfl | simp [soR_cat])
    replace l2 := kp 2 _ l2 (by rfl) (by first | rfl | simp [soR_cat])
    replace l3 := kp 3 _ l3 (by rfl) (by first | rfl | simp [soR_cat])
    replace l4 := kp 4 _ l4 (by rfl) (by first | rfl | simp [soR_cat])
    refine jX.lrn l2 (by rfl) (by rfl) (?_ : jX G jP 114 51 lv [.ref (spl 29 v2.1 v2.2)] μ Q)
    refine jX.lin l3 (by rfl) (by rfl) (?_ : jX G jP 114 52 lv [.int ((S.1 29 v2.1 v2.2 2) - (nI 1)), .ref (spl 29 v2.1 v2.2)] μ Q)
    obtain ⟨g5, h⟩ := jif_some h
    obtain ⟨q6, e6, h⟩ := sbd h
    refine jX.c1 (v := .int q6.1) (by rfl) (by rfl) (by rfl) (by rfl) (by rfl) (by rfl) (by rfl) (R.rec g5 (by rfl)) (Nat.le_of_ble_eq_true rfl) (Nat.le_of_ble_eq_true rfl) (F_103_ok R e6 (fun μ R => ⟨rfl, (?_ : jX G jP 114 55 lv [.int q6.1] μ Q)⟩))
    rcases bif_or h with ⟨hc, h⟩ | ⟨hc, h⟩
    · refine jX.b1t hc (by rfl) (by rfl) (by rfl) (?_ : jX G jP 114 72 lv [] μ Q)
      exact F_114_72_ok  K v1 v2 ((S.1 29 v2.1 v2.2 2) - (nI 1)) q2.1 q4.1 _ _ _ l0 l1 l2 l3 l4 l6 R h
    · refine jX.b1f hc (by rfl) (by rfl) (by rfl) (?_ : jX G jP 114 58 lv [] μ Q)
      refine jX.lrn l2 (by rfl) (by rfl) (?_ : jX G jP 114 59 lv [.ref (spl 29 v2.1 v2.2)] μ Q)
      refine jX.lin l3 (by rfl) (by rfl) (?_ : jX G jP 114 60 lv [.int ((S.1 29 v2.1 v2.2 2) - (nI 1)), .ref (spl 29 v2.1 v2.2)] μ Q)
      refine jX.ic (v := nI 1) (n := 1) (by rfl) (by rfl) (by decide) (?_ : jX G jP 114 61 lv [.int (nI 1), .int ((S.1 29 v2.1 v2.2 2) - (nI 1)), .ref (spl 29 v2.1 v2.2)] μ Q)
      refine jX.go (by rfl) (by rfl) (by rfl) (?_ : jX G jP 114 62 lv [.int (((S.1 29 v2.1 v2.2 2) - (nI 1)) - (nI 1)), .ref (spl 29 v2.1 v2.2)] μ Q)
      obtain ⟨g7, h⟩ := jif_some h
      obtain ⟨q8, e8, h⟩ := sbd h
      refine jX.c1 (v := .int q8.1) (by rfl) (by rfl) (by rfl) (by rfl) (by rfl) (by rfl) (by rfl) (R.rec g7 (by rfl)) (Nat.le_of_ble_eq_true rfl) (Nat.le_of_ble_eq_true rfl) (F_103_ok R e8 (fun μ R => ⟨rfl, (?_ : jX G jP 114 65 lv [.int q8.1] μ Q)⟩))
      rcases bif_or h with ⟨hc, h⟩ | ⟨hc, h⟩
      · refine jX.b1t hc (by rfl) (by rfl) (by rfl) (?_ : jX G jP 114 72 lv [] μ Q)
        exact F_114_72_ok  K v1 v2 ((S.1 29 v2.1 v2.2 2) - (nI 1)) q2.1 q4.1 _ _ _ l0 l1 l2 l3 l4 l6 R h
      · refine jX.b1f hc (by rfl) (by rfl) (by rfl) (?_ : jX G jP 114 68 lv [] μ Q)
        refine jX.ic (v := nI 1) (n := 1) (by rfl) (by rfl) (by decide) (?_ : jX G jP 114 69 lv [.int (nI 1)] μ Q)
        refine jX.go (by rfl) (by rfl) (by rfl) (?_ : jX G jP 114 73 lv [.int (nI 1)] μ Q)
        exact F_114_73_ok  K v1 v2 ((S.1 29 v2.1 v2.2 2) - (nI 1)) q2.1 q4.1 (nI 1) _ _ _ l0 l1 l2 l3 l4 l6 R h
  · refine jX.b2f hc (by rfl) (by rfl) (by rfl) (?_ : jX G jP 114 13 lv [] μ Q)
    refine jX.lrn l2 (by rfl) (by rfl) (?_ : jX G jP 114 14 lv [.ref (spl 29 v2.1 v2.2)] μ Q)
    refine jX.lin l3 (by rfl) (by rfl) (?_ : jX G jP 114 15 lv [.int ((S.1 29 v2.1 v2.2 2) - (nI 1)), .ref (spl 29 v2.1 v2.2)] μ Q)
    refine jX.lrn l2 (by rfl) (by rfl) (?_ : jX G jP 114 16 lv [.ref (spl 29 v2.1 v2.2), .int ((S.1 29 v2.1 v2.2 2) - (nI 1)), .ref (spl 29 v2.1 v2.2)] μ Q)
    refine jX.lin l3 (by rfl) (by rfl) (?_ : jX G jP 114 17 lv [.int ((S.1 29 v2.1 v2.2 2) - (nI 1)), .ref (spl 29 v2.1 v2.2), .int ((S.1 29 v2.1 v2.2 2) - (nI 1)), .ref (spl 29 v2.1 v2.2)] μ Q)
    obtain ⟨q9, e9, h⟩ := sbd h
    refine jX.c1 (v := .int q9.1) (by rfl) (by rfl) (by rfl) (by rfl) (by rfl) (by rfl) (by rfl) (R.rec g1 (by rfl)) (Nat.le_of_ble_eq_true rfl) (Nat.le_of_ble_eq_true rfl) (F_110_ok R e9 (fun μ R => ⟨rfl, (?_ : jX G jP 114 20 lv [.int q9.1, .int ((S.1 29 v2.1 v2.2 2) - (nI 1)), .ref (spl 29 v2.1 v2.2)] μ Q)⟩))
    rcases bif_or h with ⟨hc, h⟩ | ⟨hc, h⟩
    · refine jX.b1t hc (by rfl) (by rfl) (by rfl) (?_ : jX G jP 114 27 lv [.int ((S.1 29 v2.1 v2.2 2) - (nI 1)), .ref (spl 29 v2.1 v2.2)] μ Q)
      refine jX.go (by rfl) (by rfl) (by rfl) (?_ : jX G jP 114 28 lv [.long 0, .int ((S.1 29 v2.1 v2.2 2) - (nI 1)), .ref (spl 29 v2.1 v2.2)] μ Q)
      exact F_114_28_ok  K 0 ((S.1 29 v2.1 v2.2 2) - (nI 1)) v2 _ _ _  R h
    · refine jX.b1f hc (by rfl) (by rfl) (by rfl) (?_ : jX G jP 114 23 lv [.int ((S.1 29 v2.1 v2.2 2) - (nI 1)), .ref (spl 29 v2.1 v2.2)] μ Q)
      refine jX.go (by rfl) (by rfl) (by rfl) (?_ : jX G jP 114 24 lv [.long 1, .int ((S.1 29 v2.1 v2.2 2) - (nI 1)), .ref (spl 29 v2.1 v2.2)] μ Q)
      refine jX.go (by rfl) (by rfl) (by rfl) (?_ : jX G jP 114 28 lv [.long 1, .int ((S.1 29 v2.1 v2.2 2) - (nI 1)), .ref (spl 29 v2.1 v2.2)] μ Q)
      exact F_114_28_ok  K 1 ((S.1 29 v2.1 v2.2 2) - (nI 1)) v2 _ _ _  R h
/-! 115 StrandRuntime$Machine.useObject(IILStrandRuntime$Row;)I -/
def F_115_58 (G : jG) (t : Nat) (v3 : (Nat × Nat)) (v4 : Int32) (w0 : (Option (Nat × Nat))) (S : sS) : Option (Int32 × sS) := sif w0 (some ((-2), S)) (fun a1 => jif (sex S.2.2.2.1 32 a1.1 a1.2) (jif (sex S.2.2.2.1 29 a1.1 4) (jif (sex S.2.2.2.1 29 v3.1 v3.2) ((F_28 G t v3 v4 ((S.1 29 a1.1 4 2).toInt64) (nI 0) S).bind (fun q5 => some ((nI 0), q5.2))))))
theorem F_115_58_ok {G : jG} {t : Nat} {r : Int32} {S' : sS} {Q : Option Value ⊕ Nat → jS → Prop} (K : ∀ μ', sR S' μ' → Q (srI r) μ') : ∀ (v3 : (Nat × Nat)) (v4 : Int32) (w0 : (Option (Nat × Nat))) (S : sS) (lv : jL) (μ : jS), jld lv 3 = some (.ref (spl 29 v3.1 v3.2)) → jld lv 4 = some (.int v4) → sR S μ → F_115_58 G t v3 v4 w0 S = some (r, S') → jX G jP 115 58 lv [soR 32 w0] μ Q := by
  intro v3 v4 w0 S lv μ l3 l4 R h
  unfold F_115_58 at h
  refine jX.so (k := 6) (pc' := 60) (by rfl) (by rfl) (fun _ => by rfl) (by rfl) (fun lv l6 kp => (?_ : jX G jP 115 60 lv [] μ Q))
  replace l3 := kp 3 _ l3 (by rfl) (by first | rfl | simp [soR_cat])
  replace l4 := kp 4 _ l4 (by rfl) (by first | rfl | simp [soR_cat])
  refine jX.lo l6 (by rfl) (by rfl) (?_ : jX G jP 115 62 lv [soR 32 w0] μ Q)
  rcases sif_or h with ⟨e1, h⟩ | ⟨a1, e1, h⟩
  · rw [soR_none (t := 32) e1]
    rw [soR_none (t := 32) e1] at l6
    refine jX.go (by rfl) (by rfl) (by rfl) (?_ : jX G jP 115 65 lv [] μ Q)
    refine jX.ic (v := (-2)) (n := 2) (by rfl) (by rfl) (by decide) (?_ : jX G jP 115 67 lv [.int (-2)] μ Q)
    exact jX.ret (by rfl) (by rfl) (by rfl) (by rfl) (sretv (f := srI) h K R)
  · rw [soR_some (t := 32) e1]
    rw [soR_some (t := 32) e1] at l6
    refine jX.go (by rfl) (by rfl) (by rfl) (?_ : jX G jP 115 68 lv [] μ Q)
    refine jX.lrn l3 (by rfl) (by rfl) (?_ : jX G jP 115 69 lv [.ref (spl 29 v3.1 v3.2)] μ Q)
    refine jX.li l4 (by rfl) (by rfl) (?_ : jX G jP 115 71 lv [.int v4, .ref (spl 29 v3.1 v3.2)] μ Q)
    refine jX.lr l6 (by rfl) (by rfl) (?_ : jX G jP 115 73 lv [.ref (spl 32 a1.1 a1.2), .int v4, .ref (spl 29 v3.1 v3.2)] μ Q)
    obtain ⟨g2, h⟩ := jif_some h
    refine jX.sg R g2 (by rfl) (by rfl) (by rfl) (by rfl) (by rfl) (?_ : jX G jP 115 76 lv [.ref (spl 29 a1.1 4), .int v4, .ref (spl 29 v3.1 v3.2)] μ Q)
    obtain ⟨g3, h⟩ := jif_some h
    refine jX.sg R g3 (by rfl) (by rfl) (by rfl) (by rfl) (by rfl) (?_ : jX G jP 115 79 lv [.int (S.1 29 a1.1 4 2), .int v4, .ref (spl 29 v3.1 v3.2)] μ Q)
    refine jX.go (by rfl) (by rfl) (by rfl) (?_ : jX G jP 115 80 lv [.long ((S.1 29 a1.1 4 2).toInt64), .int v4, .ref (spl 29 v3.1 v3.2)] μ Q)
    refine jX.ic (v := nI 0) (n := 1) (by rfl) (by rfl) (by decide) (?_ : jX G jP 115 81 lv [.int (nI 0), .long ((S.1 29 a1.1 4 2).toInt64), .int v4, .ref (spl 29 v3.1 v3.2)] μ Q)
    obtain ⟨g4, h⟩ := jif_some h
    obtain ⟨q5, e5, h⟩ := sbd h
    refine jX.cv (by rfl) (by rfl) (by rfl) (by rfl) (by rfl) (by rfl) (by rfl) (R.rec g4 (by rfl)) (Nat.le_of_ble_eq_true rfl) (Nat.le_of_ble_eq_true rfl) (F_28_ok R e5 (fun μ R => ⟨rfl, (?_ : jX G jP 115 84 lv [] μ Q)⟩))
    refine jX.ic (v := nI 0) (n := 1) (by rfl) (by rfl) (by decide) (?_ : jX G jP 115 85 lv [.int (nI 0)] μ Q)
    exact jX.ret (by rfl) (by rfl) (by rfl) (by rfl) (sretv (f := srI) h K R)
def F_115_188 (G : jG) (t : Nat) (v1 : Int32) (v3 : (Nat × Nat)) (v5 : (Nat × Nat)) (v9 : Int32) (S : sS) : Option (Int32 × sS) := jif (jin v1 (G 1).1) (jif (sex S.2.2.2.1 29 v3.1 v3.2) ((F_76 G t v3 ((G 1).2 v1.toNatClampNeg) S).bind (fun q3 => jif (sex q3.2.2.2.2.1 32 v5.1 v5.2) (jif (sex q3.2.2.2.2.1 29 v5.1 4) ((F_26 G t (v5.1, 4) v9 q3.2).bind (fun q6 => jif (sex q6.2.2.2.2.1 32 v5.1 v5.2) (jif (sex q6.2.2.2.2.1 29 v5.1 4) ((F_27 G t (v5.1, 4) v9 q6.2).bind (fun q9 => jif (sex q9.2.2.2.2.1 29 v3.1 v3.2) ((F_78 G t v3 q6.1 q9.1 q9.2).bind (fun q11 => some ((nI 0), q11.2))))))))))))
theorem F_115_188_ok {G : jG} {t : Nat} {r : Int32} {S' : sS} {Q : Option Value ⊕ Nat → jS → Prop} (K : ∀ μ', sR S' μ' → Q (srI r) μ') : ∀ (v1 : Int32) (v3 : (Nat × Nat)) (v5 : (Nat × Nat)) (v9 : Int32) (S : sS) (lv : jL) (μ : jS), jld lv 1 = some (.int v1) → jld lv 3 = some (.ref (spl 29 v3.1 v3.2)) → jld lv 5 = some (.ref (spl 32 v5.1 v5.2)) → jld lv 9 = some (.int v9) → sR S μ → F_115_188 G t v1 v3 v5 v9 S = some (r, S') → jX G jP 115 188 lv [] μ Q := by
  intro v1 v3 v5 v9 S lv μ l1 l3 l5 l9 R h
  unfold F_115_188 at h
  refine jX.lrn l3 (by rfl) (by rfl) (?_ : jX G jP 115 189 lv [.ref (spl 29 v3.1 v3.2)] μ Q)
  refine jX.go (by rfl) (by rfl) (by rfl) (?_ : jX G jP 115 192 lv [.float 1, .ref (spl 29 v3.1 v3.2)] μ Q)
  refine jX.lin l1 (by rfl) (by rfl) (?_ : jX G jP 115 193 lv [.int v1, .float 1, .ref (spl 29 v3.1 v3.2)] μ Q)
  obtain ⟨g1, h⟩ := jif_some h
  refine jX.gi g1 (by rfl) (by rfl) (?_ : jX G jP 115 194 lv [.int ((G 1).2 v1.toNatClampNeg), .ref (spl 29 v3.1 v3.2)] μ Q)
  obtain ⟨g2, h⟩ := jif_some h
  obtain ⟨q3, e3, h⟩ := sbd h
  refine jX.cv (by rfl) (by rfl) (by rfl) (by rfl) (by rfl) (by rfl) (by rfl) (R.rec g2 (by rfl)) (Nat.le_of_ble_eq_true rfl) (Nat.le_of_ble_eq_true rfl) (F_76_ok R e3 (fun μ R => ⟨rfl, (?_ : jX G jP 115 197 lv [] μ Q)⟩))
  refine jX.lrn l3 (by rfl) (by rfl) (?_ : jX G jP 115 198 lv [.ref (spl 29 v3.1 v3.2)] μ Q)
  refine jX.lr l5 (by rfl) (by rfl) (?_ : jX G jP 115 200 lv [.ref (spl 32 v5.1 v5.2), .ref (spl 29 v3.1 v3.2)] μ Q)
  obtain ⟨g4, h⟩ := jif_some h
  refine jX.sg R g4 (by rfl) (by rfl) (by rfl) (by rfl) (by rfl) (?_ : jX G jP 115 203 lv [.ref (spl 29 v5.1 4), .ref (spl 29 v3.1 v3.2)] μ Q)
  refine jX.li l9 (by rfl) (by rfl) (?_ : jX G jP 115 205 lv [.int v9, .ref (spl 29 v5.1 4), .ref (spl 29 v3.1 v3.2)] μ Q)
  obtain ⟨g5, h⟩ := jif_some h
  obtain ⟨q6, e6, h⟩ := sbd h
  refine jX.c1 (v := .long q6.1) (by rfl) (by rfl) (by rfl) (by rfl) (by rfl) (by rfl) (by rfl) (R.rec g5 (by rfl)) (Nat.le_of_ble_eq_true rfl) (Nat.le_of_ble_eq_true rfl) (F_26_ok R e6 (fun μ R => ⟨rfl, (?_ : jX G jP 115 208 lv [.long q6.1, .ref (spl 29 v3.1 v3.2)] μ Q)⟩))
  refine jX.lr l5 (by rfl) (by rfl) (?_ : jX G jP 115 210 lv [.ref (spl 32 v5.1 v5.2), .long q6.1, .ref (spl 29 v3.1 v3.2)] μ Q)
  obtain ⟨g7, h⟩ := jif_some h
  refine jX.sg R g7 (by rfl) (by rfl) (by rfl) (by rfl) (by rfl) (?_ : jX G jP 115 213 lv [.ref (spl 29 v5.1 4), .long q6.1, .ref (spl 29 v3.1 v3.2)] μ Q)
  refine jX.li l9 (by rfl) (by rfl) (?_ : jX G jP 115 215 lv [.int v9, .ref (spl 29 v5.1 4), .long q6.1, .ref (spl 29 v3.1 v3.2)] μ Q)
  obtain ⟨g8, h⟩ := jif_some h
  obtain ⟨q9, e9, h⟩ := sbd h
  refine jX.c1 (v := .int q9.1) (by rfl) (by rfl) (by rfl) (by rfl) (by rfl) (by rfl) (by rfl) (R.rec g8 (by rfl)) (Nat.le_of_ble_eq_true rfl) (Nat.le_of_ble_eq_true rfl) (F_27_ok R e9 (fun μ R => ⟨rfl, (?_ : jX G jP 115 218 lv [.int q9.1, .long q6.1, .ref (spl 29 v3.1 v3.2)] μ Q)⟩))
  obtain ⟨g10, h⟩ := jif_some h
  obtain ⟨q11, e11, h⟩ := sbd h
  refine jX.cv (by rfl) (by rfl) (by rfl) (by rfl) (by rfl) (by rfl) (by rfl) (R.rec g10 (by rfl)) (Nat.le_of_ble_eq_true rfl) (Nat.le_of_ble_eq_true rfl) (F_78_ok R e11 (fun μ R => ⟨rfl, (?_ : jX G jP 115 221 lv [] μ Q)⟩))
  refine jX.go (by rfl) (by rfl) (by rfl) (?_ : jX G jP 115 277 lv [] μ Q)
  refine jX.ic (v := nI 0) (n := 1) (by rfl) (by rfl) (by decide) (?_ : jX G jP 115 278 lv [.int (nI 0)] μ Q)
  exact jX.ret (by rfl) (by rfl) (by rfl) (by rfl) (sretv (f := srI) h K R)
def F_115_146 (G : jG) (t : Nat) (v1 : Int32) (v3 : (Nat × Nat)) (v5 : (Nat × Nat)) (v7 : Int64) (S : sS) : Option (Int32 × sS) := bif jcmp .lt (lg_cmp v7 0) 0 then (some ((-2), S)) else (jif (sex S.2.2.2.1 32 v5.1 v5.2) (jif (sex S.2.2.2.1 29 v5.1 4) (bif jcmp .lt (lg_cmp v7 ((S.1 29 v5.1 4 2).toInt64)) 0 then (bif jcmp .eq v1 (nI 22) then (F_115_188 G t v1 v3 v5 v7.toInt32 S) else (bif jcmp .ne v1 (nI 24) then (jif (sex S.2.2.2.1 29 v3.1 v3.2) ((F_96 G t (v5.1, 4) v7.toInt32 S).bind (fun q4 => jif (sex q4.2.2.2.2.1 32 v5.1 v5.2) (jif (sex q4.2.2.2.2.1 29 v3.1 v3.2) ((F_26 G t v3 ((S.1 29 v3.1 v3.2 2) - (nI 1)) q4.2).bind (fun q7 => jif (sex q7.2.2.2.2.1 29 v3.1 v3.2) ((F_27 G t v3 ((S.1 29 v3.1 v3.2 2) - (nI 1)) q7.2).bind (fun q9 => jif (sex q9.2.2.2.2.1 29 v5.1 4) ((F_28 G t (v5.1, 4) v7.toInt32 q7.1 q9.1 q9.2).bind (fun q11 => jif (jin v1 (G 1).1) (jif (sex q11.2.2.2.2.1 29 v3.1 v3.2) ((F_76 G t v3 ((G 1).2 v1.toNatClampNeg) q11.2).bind (fun q14 => some ((nI 0), q14.2)))))))))))))) else (F_115_188 G t v1 v3 v5 v7.toInt32 S))) else (some ((-2), S)))))
theorem F_115_146_ok {G : jG} {t : Nat} {r : Int32} {S' : sS} {Q : Option Value ⊕ Nat → jS → Prop} (K : ∀ μ', sR S' μ' → Q (srI r) μ') : ∀ (v1 : Int32) (v3 : (Nat × Nat)) (v5 : (Nat × Nat)) (v7 : Int64) (S : sS) (lv : jL) (μ : jS), jld lv 0 = some (.ref (spl 23 0 0)) → jld lv 1 = some (.int v1) → jld lv 3 = some (.ref (spl 29 v3.1 v3.2)) → jld lv 5 = some (.ref (spl 32 v5.1 v5.2)) → jld lv 7 = some (.long v7) → sR S μ → F_115_146 G t v1 v3 v5 v7 S = some (r, S') → jX G jP 115 146 lv [] μ Q := by
  intro v1 v3 v5 v7 S lv μ l0 l1 l3 l5 l7 R h
  unfold F_115_146 at h
  refine jX.ll l7 (by rfl) (by rfl) (?_ : jX G jP 115 148 lv [.long v7] μ Q)
  refine jX.go (by rfl) (by rfl) (by rfl) (?_ : jX G jP 115 149 lv [.long 0, .long v7] μ Q)
  refine jX.go (by rfl) (by rfl) (by rfl) (?_ : jX G jP 115 150 lv [.int (lg_cmp v7 0)] μ Q)
  rcases bif_or h with ⟨hc, h⟩ | ⟨hc, h⟩
  · refine jX.b1t hc (by rfl) (by rfl) (by rfl) (?_ : jX G jP 115 168 lv [] μ Q)
    refine jX.ic (v := (-2)) (n := 2) (by rfl) (by rfl) (by decide) (?_ : jX G jP 115 170 lv [.int (-2)] μ Q)
    exact jX.ret (by rfl) (by rfl) (by rfl) (by rfl) (sretv (f := srI) h K R)
  · refine jX.b1f hc (by rfl) (by rfl) (by rfl) (?_ : jX G jP 115 153 lv [] μ Q)
    refine jX.ll l7 (by rfl) (by rfl) (?_ : jX G jP 115 155 lv [.long v7] μ Q)
    refine jX.lr l5 (by rfl) (by rfl) (?_ : jX G jP 115 157 lv [.ref (spl 32 v5.1 v5.2), .long v7] μ Q)
    obtain ⟨g1, h⟩ := jif_some h
    refine jX.sg R g1 (by rfl) (by rfl) (by rfl) (by rfl) (by rfl) (?_ : jX G jP 115 160 lv [.ref (spl 29 v5.1 4), .long v7] μ Q)
    obtain ⟨g2, h⟩ := jif_some h
    refine jX.sg R g2 (by rfl) (by rfl) (by rfl) (by rfl) (by rfl) (?_ : jX G jP 115 163 lv [.int (S.1 29 v5.1 4 2), .long v7] μ Q)
    refine jX.go (by rfl) (by rfl) (by rfl) (?_ : jX G jP 115 164 lv [.long ((S.1 29 v5.1 4 2).toInt64), .long v7] μ Q)
    refine jX.go (by rfl) (by rfl) (by rfl) (?_ : jX G jP 115 165 lv [.int (lg_cmp v7 ((S.1 29 v5.1 4 2).toInt64))] μ Q)
    rcases bif_or h with ⟨hc, h⟩ | ⟨hc, h⟩
    · refine jX.b1t hc (by rfl) (by rfl) (by rfl) (?_ : jX G jP 115 171 lv [] μ Q)
      refine jX.ll l7 (by rfl) (by rfl) (?_ : jX G jP 115 173 lv [.long v7] μ Q)
      refine jX.go (by rfl) (by rfl) (by rfl) (?_ : jX G jP 115 174 lv [.int v7.toInt32] μ Q)
      refine jX.s1 (k := 9) (pc' := 176) (by rfl) (by rfl) (by rfl) (fun lv l9 kp => (?_ : jX G jP 115 176 lv [] μ Q))
      replace l0 := kp 0 _ l0 (by rfl) (by first | rfl | simp [soR_cat])
      replace l1 := kp 1 _ l1 (by rfl) (by first | rfl | simp [soR_cat])
      replace l3 := kp 3 _ l3 (by rfl) (by first | rfl | simp [soR_cat])
      replace l5 := kp 5 _ l5 (by rfl) (by first | rfl | simp [soR_cat])
      refine jX.lin l1 (by rfl) (by rfl) (?_ : jX G jP 115 177 lv [.int v1] μ Q)
      refine jX.ic (v := nI 22) (n := 2) (by rfl) (by rfl) (by decide) (?_ : jX G jP 115 179 lv [.int (nI 22), .int v1] μ Q)
      rcases bif_or h with ⟨hc, h⟩ | ⟨hc, h⟩
      · refine jX.b2t hc (by rfl) (by rfl) (by rfl) (?_ : jX G jP 115 188 lv [] μ Q)
        exact F_115_188_ok  K v1 v3 v5 v7.toInt32 _ _ _ l1 l3 l5 l9 R h
      · refine jX.b2f hc (by rfl) (by rfl) (by rfl) (?_ : jX G jP 115 182 lv [] μ Q)
        refine jX.lin l1 (by rfl) (by rfl) (?_ : jX G jP 115 183 lv [.int v1] μ Q)
        refine jX.ic (v := nI 24) (n := 2) (by rfl) (by rfl) (by decide) (?_ : jX G jP 115 185 lv [.int (nI 24), .int v1] μ Q)
        rcases bif_or h with ⟨hc, h⟩ | ⟨hc, h⟩
        · refine jX.b2t hc (by rfl) (by rfl) (by rfl) (?_ : jX G jP 115 224 lv [] μ Q)
          refine jX.lrn l3 (by rfl) (by rfl) (?_ : jX G jP 115 225 lv [.ref (spl 29 v3.1 v3.2)] μ Q)
          obtain ⟨g3, h⟩ := jif_some h
          refine jX.sg R g3 (by rfl) (by rfl) (by rfl) (by rfl) (by rfl) (?_ : jX G jP 115 228 lv [.int (S.1 29 v3.1 v3.2 2)] μ Q)
          refine jX.ic (v := nI 1) (n := 1) (by rfl) (by rfl) (by decide) (?_ : jX G jP 115 229 lv [.int (nI 1), .int (S.1 29 v3.1 v3.2 2)] μ Q)
          refine jX.go (by rfl) (by rfl) (by rfl) (?_ : jX G jP 115 230 lv [.int ((S.1 29 v3.1 v3.2 2) - (nI 1))] μ Q)
          refine jX.s1 (k := 10) (pc' := 232) (by rfl) (by rfl) (by rfl) (fun lv l10 kp => (?_ : jX G jP 115 232 lv [] μ Q))
          replace l0 := kp 0 _ l0 (by rfl) (by first | rfl | simp [soR_cat])
          replace l1 := kp 1 _ l1 (by rfl) (by first | rfl | simp [soR_cat])
          replace l3 := kp 3 _ l3 (by rfl) (by first | rfl | simp [soR_cat])
          replace l5 := kp 5 _ l5 (by rfl) (by first | rfl | simp [soR_cat])
          replace l9 := kp 9 _ l9 (by rfl) (by first | rfl | simp [soR_cat])
          refine jX.lrn l0 (by rfl) (by rfl) (?_ : jX G jP 115 233 lv [.ref (spl 23 0 0)] μ Q)
          refine jX.sg R (by rfl) (by rfl) (by rfl) (by rfl) (by rfl) (by rfl) (?_ : jX G jP 115 236 lv [.ref (spl 11 0 0)] μ Q)
          refine jX.lr l5 (by rfl) (by rfl) (?_ : jX G jP 115 238 lv [.ref (spl 32 v5.1 v5.2), .ref (spl 11 0 0)] μ Q)
          refine jX.sg R g1 (by rfl) (by rfl) (by rfl) (by rfl) (by rfl) (?_ : jX G jP 115 241 lv [.ref (spl 29 v5.1 4), .ref (spl 11 0 0)] μ Q)
          refine jX.li l9 (by rfl) (by rfl) (?_ : jX G jP 115 243 lv [.int v7.toInt32, .ref (spl 29 v5.1 4), .ref (spl 11 0 0)] μ Q)
          obtain ⟨q4, e4, h⟩ := sbd h
          refine jX.cv (by rfl) (by rfl) (by rfl) (by rfl) (by rfl) (by rfl) (by rfl) (R.rec (by rfl) (by rfl)) (Nat.le_of_ble_eq_true rfl) (Nat.le_of_ble_eq_true rfl) (F_96_ok R e4 (fun μ R => ⟨rfl, (?_ : jX G jP 115 246 lv [] μ Q)⟩))
          refine jX.lr l5 (by rfl) (by rfl) (?_ : jX G jP 115 248 lv [.ref (spl 32 v5.1 v5.2)] μ Q)
          obtain ⟨g5, h⟩ := jif_some h
          refine jX.sg R g5 (by rfl) (by rfl) (by rfl) (by rfl) (by rfl) (?_ : jX G jP 115 251 lv [.ref (spl 29 v5.1 4)] μ Q)
          refine jX.li l9 (by rfl) (by rfl) (?_ : jX G jP 115 253 lv [.int v7.toInt32, .ref (spl 29 v5.1 4)] μ Q)
          refine jX.lrn l3 (by rfl) (by rfl) (?_ : jX G jP 115 254 lv [.ref (spl 29 v3.1 v3.2), .int v7.toInt32, .ref (spl 29 v5.1 4)] μ Q)
          refine jX.li l10 (by rfl) (by rfl) (?_ : jX G jP 115 256 lv [.int ((S.1 29 v3.1 v3.2 2) - (nI 1)), .ref (spl 29 v3.1 v3.2), .int v7.toInt32, .ref (spl 29 v5.1 4)] μ Q)
          obtain ⟨g6, h⟩ := jif_some h
          obtain ⟨q7, e7, h⟩ := sbd h
          refine jX.c1 (v := .long q7.1) (by rfl) (by rfl) (by rfl) (by rfl) (by rfl) (by rfl) (by rfl) (R.rec g6 (by rfl)) (Nat.le_of_ble_eq_true rfl) (Nat.le_of_ble_eq_true rfl) (F_26_ok R e7 (fun μ R => ⟨rfl, (?_ : jX G jP 115 259 lv [.long q7.1, .int v7.toInt32, .ref (spl 29 v5.1 4)] μ Q)⟩))
          refine jX.lrn l3 (by rfl) (by rfl) (?_ : jX G jP 115 260 lv [.ref (spl 29 v3.1 v3.2), .long q7.1, .int v7.toInt32, .ref (spl 29 v5.1 4)] μ Q)
          refine jX.li l10 (by rfl) (by rfl) (?_ : jX G jP 115 262 lv [.int ((S.1 29 v3.1 v3.2 2) - (nI 1)), .ref (spl 29 v3.1 v3.2), .long q7.1, .int v7.toInt32, .ref (spl 29 v5.1 4)] μ Q)
          obtain ⟨g8, h⟩ := jif_some h
          obtain ⟨q9, e9, h⟩ := sbd h
          refine jX.c1 (v := .int q9.1) (by rfl) (by rfl) (by rfl) (by rfl) (by rfl) (by rfl) (by rfl) (R.rec g8 (by rfl)) (Nat.le_of_ble_eq_true rfl) (Nat.le_of_ble_eq_true rfl) (F_27_ok R e9 (fun μ R => ⟨rfl, (?_ : jX G jP 115 265 lv [.int q9.1, .long q7.1, .int v7.toInt32, .ref (spl 29 v5.1 4)] μ Q)⟩))
          obtain ⟨g10, h⟩ := jif_some h
          obtain ⟨q11, e11, h⟩ := sbd h
          refine jX.cv (by rfl) (by rfl) (by rfl) (by rfl) (by rfl) (by rfl) (by rfl) (R.rec g10 (by rfl)) (Nat.le_of_ble_eq_true rfl) (Nat.le_of_ble_eq_true rfl) (F_28_ok R e11 (fun μ R => ⟨rfl, (?_ : jX G jP 115 268 lv [] μ Q)⟩))
          refine jX.lrn l3 (by rfl) (by rfl) (?_ : jX G jP 115 269 lv [.ref (spl 29 v3.1 v3.2)] μ Q)
          refine jX.go (by rfl) (by rfl) (by rfl) (?_ : jX G jP 115 272 lv [.float 1, .ref (spl 29 v3.1 v3.2)] μ Q)
          refine jX.lin l1 (by rfl) (by rfl) (?_ : jX G jP 115 273 lv [.int v1, .float 1, .ref (spl 29 v3.1 v3.2)] μ Q)
          obtain ⟨g12, h⟩ := jif_some h
          refine jX.gi g12 (by rfl) (by rfl) (?_ : jX G jP 115 274 lv [.int ((G 1).2 v1.toNatClampNeg), .ref (spl 29 v3.1 v3.2)] μ Q)
          obtain ⟨g13, h⟩ := jif_some h
          obtain ⟨q14, e14, h⟩ := sbd h
          refine jX.cv (by rfl) (by rfl) (by rfl) (by rfl) (by rfl) (by rfl) (by rfl) (R.rec g13 (by rfl)) (Nat.le_of_ble_eq_true rfl) (Nat.le_of_ble_eq_true rfl) (F_76_ok R e14 (fun μ R => ⟨rfl, (?_ : jX G jP 115 277 lv [] μ Q)⟩))
          refine jX.ic (v := nI 0) (n := 1) (by rfl) (by rfl) (by decide) (?_ : jX G jP 115 278 lv [.int (nI 0)] μ Q)
          exact jX.ret (by rfl) (by rfl) (by rfl) (by rfl) (sretv (f := srI) h K R)
        · refine jX.b2f hc (by rfl) (by rfl) (by rfl) (?_ : jX G jP 115 188 lv [] μ Q)
          exact F_115_188_ok  K v1 v3 v5 v7.toInt32 _ _ _ l1 l3 l5 l9 R h
    · refine jX.b1f hc (by rfl) (by rfl) (by rfl) (?_ : jX G jP 115 168 lv [] μ Q)
      refine jX.ic (v := (-2)) (n := 2) (by rfl) (by rfl) (by decide) (?_ : jX G jP 115 170 lv [.int (-2)] μ Q)
      exact jX.ret (by rfl) (by rfl) (by rfl) (by rfl) (sretv (f := srI) h K R)
def F_115_123 (G : jG) (t : Nat) (v1 : Int32) (v3 : (Nat × Nat)) (v4 : Int32) (v5 : (Option (Nat × Nat))) (v6 : Int32) (w0 : Int64) (S : sS) : Option (Int32 × sS) := sif v5 (some ((-2), S)) (fun a1 => bif jcmp .eq v6 0 then (F_115_146 G t v1 v3 a1 w0 S) else (jif (sex S.2.2.2.1 29 v3.1 v3.2) ((F_103 G t v3 (v4 + (nI 1)) S).bind (fun q3 => bif jcmp .eq q3.1 0 then (some ((-2), q3.2)) else (F_115_146 G t v1 v3 a1 w0 q3.2)))))
theorem F_115_123_ok {G : jG} {t : Nat} {r : Int32} {S' : sS} {Q : Option Value ⊕ Nat → jS → Prop} (K : ∀ μ', sR S' μ' → Q (srI r) μ') : ∀ (v1 : Int32) (v3 : (Nat × Nat)) (v4 : Int32) (v5 : (Option (Nat × Nat))) (v6 : Int32) (w0 : Int64) (S : sS) (lv : jL) (μ : jS), jld lv 0 = some (.ref (spl 23 0 0)) → jld lv 1 = some (.int v1) → jld lv 3 = some (.ref (spl 29 v3.1 v3.2)) → jld lv 4 = some (.int v4) → jld lv 5 = some (soR 32 v5) → jld lv 6 = some (.int v6) → sR S μ → F_115_123 G t v1 v3 v4 v5 v6 w0 S = some (r, S') → jX G jP 115 123 lv [.long w0] μ Q := by
  intro v1 v3 v4 v5 v6 w0 S lv μ l0 l1 l3 l4 l5 l6 R h
  unfold F_115_123 at h
  refine jX.s2 (k := 7) (pc' := 125) (by rfl) (by rfl) (by rfl) (fun lv l7 kp => (?_ : jX G jP 115 125 lv [] μ Q))
  replace l0 := kp 0 _ l0 (by rfl) (by first | rfl | simp [soR_cat])
  replace l1 := kp 1 _ l1 (by rfl) (by first | rfl | simp [soR_cat])
  replace l3 := kp 3 _ l3 (by rfl) (by first | rfl | simp [soR_cat])
  replace l4 := kp 4 _ l4 (by rfl) (by first | rfl | simp [soR_cat])
  replace l5 := kp 5 _ l5 (by rfl) (by first | rfl | simp [soR_cat])
  replace l6 := kp 6 _ l6 (by rfl) (by first | rfl | simp [soR_cat])
  refine jX.lo l5 (by rfl) (by rfl) (?_ : jX G jP 115 127 lv [soR 32 v5] μ Q)
  rcases sif_or h with ⟨e1, h⟩ | ⟨a1, e1, h⟩
  · rw [soR_none (t := 32) e1]
    rw [soR_none (t := 32) e1] at l5
    refine jX.go (by rfl) (by rfl) (by rfl) (?_ : jX G jP 115 168 lv [] μ Q)
    refine jX.ic (v := (-2)) (n := 2) (by rfl) (by rfl) (by decide) (?_ : jX G jP 115 170 lv [.int (-2)] μ Q)
    exact jX.ret (by rfl) (by rfl) (by rfl) (by rfl) (sretv (f := srI) h K R)
  · rw [soR_some (t := 32) e1]
    rw [soR_some (t := 32) e1] at l5
    refine jX.go (by rfl) (by rfl) (by rfl) (?_ : jX G jP 115 130 lv [] μ Q)
    refine jX.li l6 (by rfl) (by rfl) (?_ : jX G jP 115 132 lv [.int v6] μ Q)
    rcases bif_or h with ⟨hc, h⟩ | ⟨hc, h⟩
    · refine jX.b1t hc (by rfl) (by rfl) (by rfl) (?_ : jX G jP 115 146 lv [] μ Q)
      exact F_115_146_ok  K v1 v3 a1 w0 _ _ _ l0 l1 l3 l5 l7 R h
    · refine jX.b1f hc (by rfl) (by rfl) (by rfl) (?_ : jX G jP 115 135 lv [] μ Q)
      refine jX.lrn l3 (by rfl) (by rfl) (?_ : jX G jP 115 136 lv [.ref (spl 29 v3.1 v3.2)] μ Q)
      refine jX.li l4 (by rfl) (by rfl) (?_ : jX G jP 115 138 lv [.int v4, .ref (spl 29 v3.1 v3.2)] μ Q)
      refine jX.ic (v := nI 1) (n := 1) (by rfl) (by rfl) (by decide) (?_ : jX G jP 115 139 lv [.int (nI 1), .int v4, .ref (spl 29 v3.1 v3.2)] μ Q)
      refine jX.go (by rfl) (by rfl) (by rfl) (?_ : jX G jP 115 140 lv [.int (v4 + (nI 1)), .ref (spl 29 v3.1 v3.2)] μ Q)
      obtain ⟨g2, h⟩ := jif_some h
      obtain ⟨q3, e3, h⟩ := sbd h
      refine jX.c1 (v := .int q3.1) (by rfl) (by rfl) (by rfl) (by rfl) (by rfl) (by rfl) (by rfl) (R.rec g2 (by rfl)) (Nat.le_of_ble_eq_true rfl) (Nat.le_of_ble_eq_true rfl) (F_103_ok R e3 (fun μ R => ⟨rfl, (?_ : jX G jP 115 143 lv [.int q3.1] μ Q)⟩))
      rcases bif_or h with ⟨hc, h⟩ | ⟨hc, h⟩
      · refine jX.b1t hc (by rfl) (by rfl) (by rfl) (?_ : jX G jP 115 168 lv [] μ Q)
        refine jX.ic (v := (-2)) (n := 2) (by rfl) (by rfl) (by decide) (?_ : jX G jP 115 170 lv [.int (-2)] μ Q)
        exact jX.ret (by rfl) (by rfl) (by rfl) (by rfl) (sretv (f := srI) h K R)
      · refine jX.b1f hc (by rfl) (by rfl) (by rfl) (?_ : jX G jP 115 146 lv [] μ Q)
        exact F_115_146_ok  K v1 v3 a1 w0 _ _ _ l0 l1 l3 l5 l7 R h
def F_115_103 (G : jG) (t : Nat) (v1 : Int32) (v2 : Int32) (v3 : (Nat × Nat)) (v4 : Int32) (v5 : (Option (Nat × Nat))) (w0 : Int32) (S : sS) : Option (Int32 × sS) := bif jcmp .eq w0 0 then (F_115_123 G t v1 v3 v4 v5 w0 v2.toInt64 S) else (jif (sex S.2.2.2.1 29 v3.1 v3.2) ((F_26 G t v3 (v4 + (nI 1)) S).bind (fun q2 => F_115_123 G t v1 v3 v4 v5 w0 q2.1 q2.2)))
theorem F_115_103_ok {G : jG} {t : Nat} {r : Int32} {S' : sS} {Q : Option Value ⊕ Nat → jS → Prop} (K : ∀ μ', sR S' μ' → Q (srI r) μ') : ∀ (v1 : Int32) (v2 : Int32) (v3 : (Nat × Nat)) (v4 : Int32) (v5 : (Option (Nat × Nat))) (w0 : Int32) (S : sS) (lv : jL) (μ : jS), jld lv 0 = some (.ref (spl 23 0 0)) → jld lv 1 = some (.int v1) → jld lv 2 = some (.int v2) → jld lv 3 = some (.ref (spl 29 v3.1 v3.2)) → jld lv 4 = some (.int v4) → jld lv 5 = some (soR 32 v5) → sR S μ → F_115_103 G t v1 v2 v3 v4 v5 w0 S = some (r, S') → jX G jP 115 103 lv [.int w0] μ Q := by
  intro v1 v2 v3 v4 v5 w0 S lv μ l0 l1 l2 l3 l4 l5 R h
  unfold F_115_103 at h
  refine jX.s1 (k := 6) (pc' := 105) (by rfl) (by rfl) (by rfl) (fun lv l6 kp => (?_ : jX G jP 115 105 lv [] μ Q))
  replace l0 := kp 0 _ l0 (by rfl) (by first | rfl | simp [soR_cat])
  replace l1 := kp 1 _ l1 (by rfl) (by first | rfl | simp [soR_cat])
  replace l2 := kp 2 _ l2 (by rfl) (by first | rfl | simp [soR_cat])
  replace l3 := kp 3 _ l3 (by rfl) (by first | rfl | simp [soR_cat])
  replace l4 := kp 4 _ l4 (by rfl) (by first | rfl | simp [soR_cat])
  replace l5 := kp 5 _ l5 (by rfl) (by first | rfl | simp [soR_cat])
  refine jX.li l6 (by rfl) (by rfl) (?_ : jX G jP 115 107 lv [.int w0] μ Q)
  rcases bif_or h with ⟨hc, h⟩ | ⟨hc, h⟩
  · refine jX.b1t hc (by rfl) (by rfl) (by rfl) (?_ : jX G jP 115 121 lv [] μ Q)
    refine jX.lin l2 (by rfl) (by rfl) (?_ : jX G jP 115 122 lv [.int v2] μ Q)
    refine jX.go (by rfl) (by rfl) (by rfl) (?_ : jX G jP 115 123 lv [.long v2.toInt64] μ Q)
    exact F_115_123_ok  K v1 v3 v4 v5 w0 v2.toInt64 _ _ _ l0 l1 l3 l4 l5 l6 R h
  · refine jX.b1f hc (by rfl) (by rfl) (by rfl) (?_ : jX G jP 115 110 lv [] μ Q)
    refine jX.lrn l3 (by rfl) (by rfl) (?_ : jX G jP 115 111 lv [.ref (spl 29 v3.1 v3.2)] μ Q)
    refine jX.li l4 (by rfl) (by rfl) (?_ : jX G jP 115 113 lv [.int v4, .ref (spl 29 v3.1 v3.2)] μ Q)
    refine jX.ic (v := nI 1) (n := 1) (by rfl) (by rfl) (by decide) (?_ : jX G jP 115 114 lv [.int (nI 1), .int v4, .ref (spl 29 v3.1 v3.2)] μ Q)
    refine jX.go (by rfl) (by rfl) (by rfl) (?_ : jX G jP 115 115 lv [.int (v4 + (nI 1)), .ref (spl 29 v3.1 v3.2)] μ Q)
    obtain ⟨g1, h⟩ := jif_some h
    obtain ⟨q2, e2, h⟩ := sbd h
    refine jX.c1 (v := .long q2.1) (by rfl) (by rfl) (by rfl) (by rfl) (by rfl) (by rfl) (by rfl) (R.rec g1 (by rfl)) (Nat.le_of_ble_eq_true rfl) (Nat.le_of_ble_eq_true rfl) (F_26_ok R e2 (fun μ R => ⟨rfl, (?_ : jX G jP 115 118 lv [.long q2.1] μ Q)⟩))
    refine jX.go (by rfl) (by rfl) (by rfl) (?_ : jX G jP 115 123 lv [.long q2.1] μ Q)
    exact F_115_123_ok  K v1 v3 v4 v5 w0 q2.1 _ _ _ l0 l1 l3 l4 l5 l6 R h
def F_115_98 (G : jG) (t : Nat) (v1 : Int32) (v2 : Int32) (v3 : (Nat × Nat)) (v4 : Int32) (v5 : (Option (Nat × Nat))) (S : sS) : Option (Int32 × sS) := F_115_103 G t v1 v2 v3 v4 v5 (nI 1) S
theorem F_115_98_ok {G : jG} {t : Nat} {r : Int32} {S' : sS} {Q : Option Value ⊕ Nat → jS → Prop} (K : ∀ μ', sR S' μ' → Q (srI r) μ') : ∀ (v1 : Int32) (v2 : Int32) (v3 : (Nat × Nat)) (v4 : Int32) (v5 : (Option (Nat × Nat))) (S : sS) (lv : jL) (μ : jS), jld lv 0 = some (.ref (spl 23 0 0)) → jld lv 1 = some (.int v1) → jld lv 2 = some (.int v2) → jld lv 3 = some (.ref (spl 29 v3.1 v3.2)) → jld lv 4 = some (.int v4) → jld lv 5 = some (soR 32 v5) → sR S μ → F_115_98 G t v1 v2 v3 v4 v5 S = some (r, S') → jX G jP 115 98 lv [] μ Q := by
  intro v1 v2 v3 v4 v5 S lv μ l0 l1 l2 l3 l4 l5 R h
  unfold F_115_98 at h
  refine jX.ic (v := nI 1) (n := 1) (by rfl) (by rfl) (by decide) (?_ : jX G jP 115 99 lv [.int (nI 1)] μ Q)
  refine jX.go (by rfl) (by rfl) (by rfl) (?_ : jX G jP 115 103 lv [.int (nI 1)] μ Q)
  exact F_115_103_ok  K v1 v2 v3 v4 v5 (nI 1) _ _ _ l0 l1 l2 l3 l4 l5 R h
def F_115 (G : jG) (t : Nat) (v1 : Int32) (v2 : Int32) (v3 : (Nat × Nat)) (S : sS) : Option (Int32 × sS) := jif (sex S.2.2.2.1 29 v3.1 v3.2) (jif (jin v1 (G 1).1) ((F_27 G t v3 ((S.1 29 v3.1 v3.2 2) - ((G 1).2 v1.toNatClampNeg)) S).bind (fun q3 => (F_87 G t q3.1 (nI 2) q3.2).bind (fun q4 => bif jcmp .ne v1 (nI 26) then (bif jcmp .eq v1 (nI 24) then (F_115_98 G t v1 v2 v3 ((S.1 29 v3.1 v3.2 2) - ((G 1).2 v1.toNatClampNeg)) q4.1 q4.2) else (bif jcmp .ne v1 (nI 25) then (F_115_103 G t v1 v2 v3 ((S.1 29 v3.1 v3.2 2) - ((G 1).2 v1.toNatClampNeg)) q4.1 (nI 0) q4.2) else (F_115_98 G t v1 v2 v3 ((S.1 29 v3.1 v3.2 2) - ((G 1).2 v1.toNatClampNeg)) q4.1 q4.2))) else (sif q4.1 (jif (sex q4.2.2.2.2.1 29 v3.1 v3.2) ((F_27 G t v3 ((S.1 29 v3.1 v3.2 2) - ((G 1).2 v1.toNatClampNeg)) q4.2).bind (fun q7 => (F_87 G t q7.1 (nI 3) q7.2).bind (fun q8 => F_115_58 G t v3 ((S.1 29 v3.1 v3.2 2) - ((G 1).2 v1.toNatClampNeg)) q8.1 q8.2)))) (fun a5 => F_115_58 G t v3 ((S.1 29 v3.1 v3.2 2) - ((G 1).2 v1.toNatClampNeg)) (some (a5.1, a5.2)) q4.2))))))
theorem F_115_ok {G : jG} {t : Nat} {v1 : Int32} {v2 : Int32} {v3 : (Nat × Nat)} {S : sS} {r : Int32} {S' : sS} {μ : jS} {Q : Option Value ⊕ Nat → jS → Prop} (R : sR S μ) (h : F_115 G t v1 v2 v3 S = some (r, S')) (K : ∀ μ', sR S' μ' → Q (srI r) μ') : jX G jP 115 0 (lv_args 0 [.ref (spl 23 0 0), .int v1, .int v2, .ref (spl 29 v3.1 v3.2)]) [] μ Q := by
  unfold F_115 at h
  have l0 : jld (lv_args 0 [.ref (spl 23 0 0), .int v1, .int v2, .ref (spl 29 v3.1 v3.2)]) 0 = some (.ref (spl 23 0 0)) := by rfl
  have l1 : jld (lv_args 0 [.ref (spl 23 0 0), .int v1, .int v2, .ref (spl 29 v3.1 v3.2)]) 1 = some (.int v1) := by rfl
  have l2 : jld (lv_args 0 [.ref (spl 23 0 0), .int v1, .int v2, .ref (spl 29 v3.1 v3.2)]) 2 = some (.int v2) := by rfl
  have l3 : jld (lv_args 0 [.ref (spl 23 0 0), .int v1, .int v2, .ref (spl 29 v3.1 v3.2)]) 3 = some (.ref (spl 29 v3.1 v3.2)) := by rfl
  generalize lv_args 0 [.ref (spl 23 0 0), .int v1, .int v2, .ref (spl 29 v3.1 v3.2)] = lv at *
  refine jX.lrn l3 (by rfl) (by rfl) (?_ : jX G jP 115 1 lv [.ref (spl 29 v3.1 v3.2)] μ Q)
  obtain ⟨g1, h⟩ := jif_some h
  refine jX.sg R g1 (by rfl) (by rfl) (by rfl) (by rfl) (by rfl) (?_ : jX G jP 115 4 lv [.int (S.1 29 v3.1 v3.2 2)] μ Q)
  refine jX.go (by rfl) (by rfl) (by rfl) (?_ : jX G jP 115 7 lv [.float 1, .int (S.1 29 v3.1 v3.2 2)] μ Q)
  refine jX.lin l1 (by rfl) (by rfl) (?_ : jX G jP 115 8 lv [.int v1, .float 1, .int (S.1 29 v3.1 v3.2 2)] μ Q)
  obtain ⟨g2, h⟩ := jif_some h
  refine jX.gi g2 (by rfl) (by rfl) (?_ : jX G jP 115 9 lv [.int ((G 1).2 v1.toNatClampNeg), .int (S.1 29 v3.1 v3.2 2)] μ Q)
  refine jX.go (by rfl) (by rfl) (by rfl) (?_ : jX G jP 115 10 lv [.int ((S.1 29 v3.1 v3.2 2) - ((G 1).2 v1.toNatClampNeg))] μ Q)
  refine jX.s1 (k := 4) (pc' := 12) (by rfl) (by rfl) (by rfl) (fun lv l4 kp => (?_ : jX G jP 115 12 lv [] μ Q))
  replace l0 := kp 0 _ l0 (by rfl) (by first | rfl | simp [soR_cat])
  replace l1 := kp 1 _ l1 (by rfl) (by first | rfl | simp [soR_cat])
  replace l2 := kp 2 _ l2 (by rfl) (by first | rfl | simp [soR_cat])
  replace l3 := kp 3 _ l3 (by rfl) (by first | rfl | simp [soR_cat])
  refine jX.lrn l0 (by rfl) (by rfl) (?_ : jX G jP 115 13 lv [.ref (spl 23 0 0)] μ Q)
  refine jX.sg R (by rfl) (by rfl) (by rfl) (by rfl) (by rfl) (by rfl) (?_ : jX G jP 115 16 lv [.ref (spl 11 0 0)] μ Q)
  refine jX.lrn l3 (by rfl) (by rfl) (?_ : jX G jP 115 17 lv [.ref (spl 29 v3.1 v3.2), .ref (spl 11 0 0)] μ Q)
  refine jX.li l4 (by rfl) (by rfl) (?_ : jX G jP 115 19 lv [.int ((S.1 29 v3.1 v3.2 2) - ((G 1).2 v1.toNatClampNeg)), .ref (spl 29 v3.1 v3.2), .ref (spl 11 0 0)] μ Q)
  obtain ⟨q3, e3, h⟩ := sbd h
  refine jX.c1 (v := .int q3.1) (by rfl) (by rfl) (by rfl) (by rfl) (by rfl) (by rfl) (by rfl) (R.rec g1 (by rfl)) (Nat.le_of_ble_eq_true rfl) (Nat.le_of_ble_eq_true rfl) (F_27_ok R e3 (fun μ R => ⟨rfl, (?_ : jX G jP 115 22 lv [.int q3.1, .ref (spl 11 0 0)] μ Q)⟩))
  refine jX.ic (v := nI 2) (n := 1) (by rfl) (by rfl) (by decide) (?_ : jX G jP 115 23 lv [.int (nI 2), .int q3.1, .ref (spl 11 0 0)] μ Q)
  obtain ⟨q4, e4, h⟩ := sbd h
  refine jX.c1 (v := soR 32 q4.1) (by rfl) (by rfl) (by rfl) (by rfl) (by rfl) (by rfl) (by rfl) (R.rec (by rfl) (by rfl)) (Nat.le_of_ble_eq_true rfl) (Nat.le_of_ble_eq_true rfl) (F_87_ok R e4 (fun μ R => ⟨rfl, (?_ : jX G jP 115 26 lv [soR 32 q4.1] μ Q)⟩))
  refine jX.so (k := 5) (pc' := 28) (by rfl) (by rfl) (fun _ => by rfl) (by rfl) (fun lv l5 kp => (?_ : jX G jP 115 28 lv [] μ Q))
  replace l0 := kp 0 _ l0 (by rfl) (by first | rfl | simp [soR_cat])
  replace l1 := kp 1 _ l1 (by rfl) (by first | rfl | simp [soR_cat])
  replace l2 := kp 2 _ l2 (by rfl) (by first | rfl | simp [soR_cat])
  replace l3 := kp 3 _ l3 (by rfl) (by first | rfl | simp [soR_cat])
  replace l4 := kp 4 _ l4 (by rfl) (by first | rfl | simp [soR_cat])
  refine jX.lin l1 (by rfl) (by rfl) (?_ : jX G jP 115 29 lv [.int v1] μ Q)
  refine jX.ic (v := nI 26) (n := 2) (by rfl) (by rfl) (by decide) (?_ : jX G jP 115 31 lv [.int (nI 26), .int v1] μ Q)
  rcases bif_or h with ⟨hc, h⟩ | ⟨hc, h⟩
  · refine jX.b2t hc (by rfl) (by rfl) (by rfl) (?_ : jX G jP 115 86 lv [] μ Q)
    refine jX.lin l1 (by rfl) (by rfl) (?_ : jX G jP 115 87 lv [.int v1] μ Q)
    refine jX.ic (v := nI 24) (n := 2) (by rfl) (by rfl) (by decide) (?_ : jX G jP 115 89 lv [.int (nI 24), .int v1] μ Q)
    rcases bif_or h with ⟨hc, h⟩ | ⟨hc, h⟩
    · refine jX.b2t hc (by rfl) (by rfl) (by rfl) (?_ : jX G jP 115 98 lv [] μ Q)
      exact F_115_98_ok  K v1 v2 v3 ((S.1 29 v3.1 v3.2 2) - ((G 1).2 v1.toNatClampNeg)) q4.1 _ _ _ l0 l1 l2 l3 l4 l5 R h
    · refine jX.b2f hc (by rfl) (by rfl) (by rfl) (?_ : jX G jP 115 92 lv [] μ Q)
      refine jX.lin l1 (by rfl) (by rfl) (?_ : jX G jP 115 93 lv [.int v1] μ Q)
      refine jX.ic (v := nI 25) (n := 2) (by rfl) (by rfl) (by decide) (?_ : jX G jP 115 95 lv [.int (nI 25), .int v1] μ Q)
      rcases bif_or h with ⟨hc, h⟩ | ⟨hc, h⟩
      · refine jX.b2t hc (by rfl) (by rfl) (by rfl) (?_ : jX G jP 115 102 lv [] μ Q)
        refine jX.ic (v := nI 0) (n := 1) (by rfl) (by rfl) (by decide) (?_ : jX G jP 115 103 lv [.int (nI 0)] μ Q)
        exact F_115_103_ok  K v1 v2 v3 ((S.1 29 v3.1 v3.2 2) - ((G 1).2 v1.toNatClampNeg)) q4.1 (nI 0) _ _ _ l0 l1 l2 l3 l4 l5 R h
      · refine jX.b2f hc (by rfl) (by rfl) (by rfl) (?_ : jX G jP 115 98 lv [] μ Q)
        exact F_115_98_ok  K v1 v2 v3 ((S.1 29 v3.1 v3.2 2) - ((G 1).2 v1.toNatClampNeg)) q4.1 _ _ _ l0 l1 l2 l3 l4 l5 R h
  · refine jX.b2f hc (by rfl) (by rfl) (by rfl) (?_ : jX G jP 115 34 lv [] μ Q)
    refine jX.lo l5 (by rfl) (by rfl) (?_ : jX G jP 115 36 lv [soR 32 q4.1] μ Q)
    rcases sif_or h with ⟨e5, h⟩ | ⟨a5, e5, h⟩
    · rw [soR_none (t := 32) e5]
      rw [soR_none (t := 32) e5] at l5
      refine jX.go (by rfl) (by rfl) (by rfl) (?_ : jX G jP 115 39 lv [] μ Q)
      refine jX.lrn l0 (by rfl) (by rfl) (?_ : jX G jP 115 40 lv [.ref (spl 23 0 0)] μ Q)
      refine jX.sg R (by rfl) (by rfl) (by rfl) (by rfl) (by rfl) (by rfl) (?_ : jX G jP 115 43 lv [.ref (spl 11 0 0)] μ Q)
      refine jX.lrn l3 (by rfl) (by rfl) (?_ : jX G jP 115 44 lv [.ref (spl 29 v3.1 v3.2), .ref (spl 11 0 0)] μ Q)
      refine jX.li l4 (by rfl) (by rfl) (?_ : jX G jP 115 46 lv [.int ((S.1 29 v3.1 v3.2 2) - ((G 1).2 v1.toNatClampNeg)), .ref (spl 29 v3.1 v3.2), .ref (spl 11 0 0)] μ Q)
      obtain ⟨g6, h⟩ := jif_some h
      obtain ⟨q7, e7, h⟩ := sbd h
      refine jX.c1 (v := .int q7.1) (by rfl) (by rfl) (by rfl) (by rfl) (by rfl) (by rfl) (by rfl) (R.rec g6 (by rfl)) (Nat.le_of_ble_eq_true rfl) (Nat.le_of_ble_eq_true rfl) (F_27_ok R e7 (fun μ R => ⟨rfl, (?_ : jX G jP 115 49 lv [.int q7.1, .ref (spl 11 0 0)] μ Q)⟩))
      refine jX.ic (v := nI 3) (n := 1) (by rfl) (by rfl) (by decide) (?_ : jX G jP 115 50 lv [.int (nI 3), .int q7.1, .ref (spl 11 0 0)] μ Q)
      obtain ⟨q8, e8, h⟩ := sbd h
      refine jX.c1 (v := soR 32 q8.1) (by rfl) (by rfl) (by rfl) (by rfl) (by rfl) (by rfl) (by rfl) (R.rec (by rfl) (by rfl)) (Nat.le_of_ble_eq_true rfl) (Nat.le_of_ble_eq_true rfl) (F_87_ok R e8 (fun μ R => ⟨rfl, (?_ : jX G jP 115 53 lv [soR 32 q8.1] μ Q)⟩))
      refine jX.go (by rfl) (by rfl) (by rfl) (?_ : jX G jP 115 58 lv [soR 32 q8.1] μ Q)
      exact F_115_58_ok  K v3 ((S.1 29 v3.1 v3.2 2) - ((G 1).2 v1.toNatClampNeg)) q8.1 _ _ _ l3 l4 R h
    · rw [soR_some (t := 32) e5]
      rw [soR_some (t := 32) e5] at l5
      refine jX.go (by rfl) (by rfl) (by rfl) (?_ : jX G jP 115 56 lv [] μ Q)
      refine jX.lr l5 (by rfl) (by rfl) (?_ : jX G jP 115 58 lv [.ref (spl 32 a5.1 a5.2)] μ Q)
      exact F_115_58_ok  K v3 ((S.1 29 v3.1 v3.2 2) - ((G 1).2 v1.toNatClampNeg)) (some (a5.1, a5.2)) _ _ _ l3 l4 R h
/-! 116 StrandRuntime$Machine.perform(IILStrandRuntime$Strand;LStrandRuntime$Frame;)I -/
def F_116_116 (G : jG) (t : Nat) (v1 : Int32) (v2 : Int32) (v3 : (Nat × Nat)) (v5 : (Nat × Nat)) (S : sS) : Option (Int32 × sS) := (F_77 G t v1 v2 v3 v5 S).bind (fun q1 => some (q1.1, q1.2))
theorem F_116_116_ok {G : jG} {t : Nat} {r : Int32} {S' : sS} {Q : Option Value ⊕ Nat → jS → Prop} (K : ∀ μ', sR S' μ' → Q (srI r) μ') : ∀ (v1 : Int32) (v2 : Int32) (v3 : (Nat × Nat)) (v5 : (Nat × Nat)) (S : sS) (lv : jL) (μ : jS), jld lv 0 = some (.ref (spl 23 0 0)) → jld lv 1 = some (.int v1) → jld lv 2 = some (.int v2) → jld lv 3 = some (.ref (spl 25 v3.1 v3.2)) → jld lv 5 = some (.ref (spl 29 v5.1 v5.2)) → sR S μ → F_116_116 G t v1 v2 v3 v5 S = some (r, S') → jX G jP 116 116 lv [] μ Q := by
  intro v1 v2 v3 v5 S lv μ l0 l1 l2 l3 l5 R h
  unfold F_116_116 at h
  refine jX.lrn l0 (by rfl) (by rfl) (?_ : jX G jP 116 117 lv [.ref (spl 23 0 0)] μ Q)
  refine jX.lin l1 (by rfl) (by rfl) (?_ : jX G jP 116 118 lv [.int v1, .ref (spl 23 0 0)] μ Q)
  refine jX.lin l2 (by rfl) (by rfl) (?_ : jX G jP 116 119 lv [.int v2, .int v1, .ref (spl 23 0 0)] μ Q)
  refine jX.lrn l3 (by rfl) (by rfl) (?_ : jX G jP 116 120 lv [.ref (spl 25 v3.1 v3.2), .int v2, .int v1, .ref (spl 23 0 0)] μ Q)
  refine jX.lr l5 (by rfl) (by rfl) (?_ : jX G jP 116 122 lv [.ref (spl 29 v5.1 v5.2), .ref (spl 25 v3.1 v3.2), .int v2, .int v1, .ref (spl 23 0 0)] μ Q)
  obtain ⟨q1, e1, h⟩ := sbd h
  refine jX.c1 (v := .int q1.1) (by rfl) (by rfl) (by rfl) (by rfl) (by rfl) (by rfl) (by rfl) (R.rec (by rfl) (by rfl)) (Nat.le_of_ble_eq_true rfl) (Nat.le_of_ble_eq_true rfl) (F_77_ok R e1 (fun μ R => ⟨rfl, (?_ : jX G jP 116 125 lv [.int q1.1] μ Q)⟩))
  exact jX.ret (by rfl) (by rfl) (by rfl) (by rfl) (sretv (f := srI) h K R)
def F_116_194 (G : jG) (t : Nat) (v2 : Int32) (v5 : (Nat × Nat)) (v10 : Int32) (S : sS) : Option (Int32 × sS) := (F_83 G t v10 v2 S).bind (fun q1 => bif jcmp .ne q1.1 0 then ((F_86 G t v10 v2 q1.2).bind (fun q2 => jif (sex q2.2.2.2.2.1 29 v5.1 v5.2) ((F_78 G t v5 0 q2.1 q2.2).bind (fun q4 => some ((nI 0), q4.2))))) else (some ((-5), q1.2)))
theorem F_116_194_ok {G : jG} {t : Nat} {r : Int32} {S' : sS} {Q : Option Value ⊕ Nat → jS → Prop} (K : ∀ μ', sR S' μ' → Q (srI r) μ') : ∀ (v2 : Int32) (v5 : (Nat × Nat)) (v10 : Int32) (S : sS) (lv : jL) (μ : jS), jld lv 0 = some (.ref (spl 23 0 0)) → jld lv 2 = some (.int v2) → jld lv 5 = some (.ref (spl 29 v5.1 v5.2)) → jld lv 10 = some (.int v10) → sR S μ → F_116_194 G t v2 v5 v10 S = some (r, S') → jX G jP 116 194 lv [] μ Q := by
  intro v2 v5 v10 S lv μ l0 l2 l5 l10 R h
  unfold F_116_194 at h
  refine jX.lrn l0 (by rfl) (by rfl) (?_ : jX G jP 116 195 lv [.ref (spl 23 0 0)] μ Q)
  refine jX.sg R (by rfl) (by rfl) (by rfl) (by rfl) (by rfl) (by rfl) (?_ : jX G jP 116 198 lv [.ref (spl 11 0 0)] μ Q)
  refine jX.li l10 (by rfl) (by rfl) (?_ : jX G jP 116 200 lv [.int v10, .ref (spl 11 0 0)] μ Q)
  refine jX.lin l2 (by rfl) (by rfl) (?_ : jX G jP 116 201 lv [.int v2, .int v10, .ref (spl 11 0 0)] μ Q)
  obtain ⟨q1, e1, h⟩ := sbd h
  refine jX.c1 (v := .int q1.1) (by rfl) (by rfl) (by rfl) (by rfl) (by rfl) (by rfl) (by rfl) (R.rec (by rfl) (by rfl)) (Nat.le_of_ble_eq_true rfl) (Nat.le_of_ble_eq_true rfl) (F_83_ok R e1 (fun μ R => ⟨rfl, (?_ : jX G jP 116 204 lv [.int q1.1] μ Q)⟩))
  rcases bif_or h with ⟨hc, h⟩ | ⟨hc, h⟩
  · refine jX.b1t hc (by rfl) (by rfl) (by rfl) (?_ : jX G jP 116 210 lv [] μ Q)
    refine jX.lr l5 (by rfl) (by rfl) (?_ : jX G jP 116 212 lv [.ref (spl 29 v5.1 v5.2)] μ Q)
    refine jX.go (by rfl) (by rfl) (by rfl) (?_ : jX G jP 116 213 lv [.long 0, .ref (spl 29 v5.1 v5.2)] μ Q)
    refine jX.lrn l0 (by rfl) (by rfl) (?_ : jX G jP 116 214 lv [.ref (spl 23 0 0), .long 0, .ref (spl 29 v5.1 v5.2)] μ Q)
    refine jX.sg R (by rfl) (by rfl) (by rfl) (by rfl) (by rfl) (by rfl) (?_ : jX G jP 116 217 lv [.ref (spl 11 0 0), .long 0, .ref (spl 29 v5.1 v5.2)] μ Q)
    refine jX.li l10 (by rfl) (by rfl) (?_ : jX G jP 116 219 lv [.int v10, .ref (spl 11 0 0), .long 0, .ref (spl 29 v5.1 v5.2)] μ Q)
    refine jX.lin l2 (by rfl) (by rfl) (?_ : jX G jP 116 220 lv [.int v2, .int v10, .ref (spl 11 0 0), .long 0, .ref (spl 29 v5.1 v5.2)] μ Q)
    obtain ⟨q2, e2, h⟩ := sbd h
    refine jX.c1 (v := .int q2.1) (by rfl) (by rfl) (by rfl) (by rfl) (by rfl) (by rfl) (by rfl) (R.rec (by rfl) (by rfl)) (Nat.le_of_ble_eq_true rfl) (Nat.le_of_ble_eq_true rfl) (F_86_ok R e2 (fun μ R => ⟨rfl, (?_ : jX G jP 116 223 lv [.int q2.1, .long 0, .ref (spl 29 v5.1 v5.2)] μ Q)⟩))
    obtain ⟨g3, h⟩ := jif_some h
    obtain ⟨q4, e4, h⟩ := sbd h
    refine jX.cv (by rfl) (by rfl) (by rfl) (by rfl) (by rfl) (by rfl) (by rfl) (R.rec g3 (by rfl)) (Nat.le_of_ble_eq_true rfl) (Nat.le_of_ble_eq_true rfl) (F_78_ok R e4 (fun μ R => ⟨rfl, (?_ : jX G jP 116 226 lv [] μ Q)⟩))
    refine jX.ic (v := nI 0) (n := 1) (by rfl) (by rfl) (by decide) (?_ : jX G jP 116 227 lv [.int (nI 0)] μ Q)
    exact jX.ret (by rfl) (by rfl) (by rfl) (by rfl) (sretv (f := srI) h K R)
  · refine jX.b1f hc (by rfl) (by rfl) (by rfl) (?_ : jX G jP 116 207 lv [] μ Q)
    refine jX.ic (v := (-5)) (n := 2) (by rfl) (by rfl) (by decide) (?_ : jX G jP 116 209 lv [.int (-5)] μ Q)
    exact jX.ret (by rfl) (by rfl) (by rfl) (by rfl) (sretv (f := srI) h K R)
def F_116_172 (G : jG) (t : Nat) (v2 : Int32) (v5 : (Nat × Nat)) (w0 : Int32) (S : sS) : Option (Int32 × sS) := (F_83 G t w0 v2 S).bind (fun q1 => bif jcmp .ne q1.1 0 then (F_116_194 G t v2 v5 w0 q1.2) else ((F_52 G t q1.2).bind (fun q2 => F_116_194 G t v2 v5 w0 q2.2)))
theorem F_116_172_ok {G : jG} {t : Nat} {r : Int32} {S' : sS} {Q : Option Value ⊕ Nat → jS → Prop} (K : ∀ μ', sR S' μ' → Q (srI r) μ') : ∀ (v2 : Int32) (v5 : (Nat × Nat)) (w0 : Int32) (S : sS) (lv : jL) (μ : jS), jld lv 0 = some (.ref (spl 23 0 0)) → jld lv 2 = some (.int v2) → jld lv 5 = some (.ref (spl 29 v5.1 v5.2)) → sR S μ → F_116_172 G t v2 v5 w0 S = some (r, S') → jX G jP 116 172 lv [.int w0] μ Q := by
  intro v2 v5 w0 S lv μ l0 l2 l5 R h
  unfold F_116_172 at h
  refine jX.s1 (k := 10) (pc' := 174) (by rfl) (by rfl) (by rfl) (fun lv l10 kp => (?_ : jX G jP 116 174 lv [] μ Q))
  replace l0 := kp 0 _ l0 (by rfl) (by first | rfl | simp [soR_cat])
  replace l2 := kp 2 _ l2 (by rfl) (by first | rfl | simp [soR_cat])
  replace l5 := kp 5 _ l5 (by rfl) (by first | rfl | simp [soR_cat])
  refine jX.lrn l0 (by rfl) (by rfl) (?_ : jX G jP 116 175 lv [.ref (spl 23 0 0)] μ Q)
  refine jX.sg R (by rfl) (by rfl) (by rfl) (by rfl) (by rfl) (by rfl) (?_ : jX G jP 116 178 lv [.ref (spl 11 0 0)] μ Q)
  refine jX.li l10 (by rfl) (by rfl) (?_ : jX G jP 116 180 lv [.int w0, .ref (spl 11 0 0)] μ Q)
  refine jX.lin l2 (by rfl) (by rfl) (?_ : jX G jP 116 181 lv [.int v2, .int w0, .ref (spl 11 0 0)] μ Q)
  obtain ⟨q1, e1, h⟩ := sbd h
  refine jX.c1 (v := .int q1.1) (by rfl) (by rfl) (by rfl) (by rfl) (by rfl) (by rfl) (by rfl) (R.rec (by rfl) (by rfl)) (Nat.le_of_ble_eq_true rfl) (Nat.le_of_ble_eq_true rfl) (F_83_ok R e1 (fun μ R => ⟨rfl, (?_ : jX G jP 116 184 lv [.int q1.1] μ Q)⟩))
  rcases bif_or h with ⟨hc, h⟩ | ⟨hc, h⟩
  · refine jX.b1t hc (by rfl) (by rfl) (by rfl) (?_ : jX G jP 116 194 lv [] μ Q)
    exact F_116_194_ok  K v2 v5 w0 _ _ _ l0 l2 l5 l10 R h
  · refine jX.b1f hc (by rfl) (by rfl) (by rfl) (?_ : jX G jP 116 187 lv [] μ Q)
    refine jX.lrn l0 (by rfl) (by rfl) (?_ : jX G jP 116 188 lv [.ref (spl 23 0 0)] μ Q)
    refine jX.sg R (by rfl) (by rfl) (by rfl) (by rfl) (by rfl) (by rfl) (?_ : jX G jP 116 191 lv [.ref (spl 11 0 0)] μ Q)
    obtain ⟨q2, e2, h⟩ := sbd h
    refine jX.cv (by rfl) (by rfl) (by rfl) (by rfl) (by rfl) (by rfl) (by rfl) (R.rec (by rfl) (by rfl)) (Nat.le_of_ble_eq_true rfl) (Nat.le_of_ble_eq_true rfl) (F_52_ok R e2 (fun μ R => ⟨rfl, (?_ : jX G jP 116 194 lv [] μ Q)⟩))
    exact F_116_194_ok  K v2 v5 w0 _ _ _ l0 l2 l5 l10 R h
def F_116_161 (G : jG) (t : Nat) (v1 : Int32) (v2 : Int32) (v5 : (Nat × Nat)) (S : sS) : Option (Int32 × sS) := bif jcmp .ne v1 (nI 21) then (F_116_172 G t v2 v5 (nI 3) S) else (F_116_172 G t v2 v5 (nI 2) S)
theorem F_116_161_ok {G : jG} {t : Nat} {r : Int32} {S' : sS} {Q : Option Value ⊕ Nat → jS → Prop} (K : ∀ μ', sR S' μ' → Q (srI r) μ') : ∀ (v1 : Int32) (v2 : Int32) (v5 : (Nat × Nat)) (S : sS) (lv : jL) (μ : jS), jld lv 0 = some (.ref (spl 23 0 0)) → jld lv 1 = some (.int v1) → jld lv 2 = some (.int v2) → jld lv 5 = some (.ref (spl 29 v5.1 v5.2)) → sR S μ → F_116_161 G t v1 v2 v5 S = some (r, S') → jX G jP 116 161 lv [] μ Q := by
  intro v1 v2 v5 S lv μ l0 l1 l2 l5 R h
  unfold F_116_161 at h
  refine jX.lin l1 (by rfl) (by rfl) (?_ : jX G jP 116 162 lv [.int v1] μ Q)
  refine jX.ic (v := nI 21) (n := 2) (by rfl) (by rfl) (by decide) (?_ : jX G jP 116 164 lv [.int (nI 21), .int v1] μ Q)
  rcases bif_or h with ⟨hc, h⟩ | ⟨hc, h⟩
  · refine jX.b2t hc (by rfl) (by rfl) (by rfl) (?_ : jX G jP 116 171 lv [] μ Q)
    refine jX.ic (v := nI 3) (n := 1) (by rfl) (by rfl) (by decide) (?_ : jX G jP 116 172 lv [.int (nI 3)] μ Q)
    exact F_116_172_ok  K v2 v5 (nI 3) _ _ _ l0 l2 l5 R h
  · refine jX.b2f hc (by rfl) (by rfl) (by rfl) (?_ : jX G jP 116 167 lv [] μ Q)
    refine jX.ic (v := nI 2) (n := 1) (by rfl) (by rfl) (by decide) (?_ : jX G jP 116 168 lv [.int (nI 2)] μ Q)
    refine jX.go (by rfl) (by rfl) (by rfl) (?_ : jX G jP 116 172 lv [.int (nI 2)] μ Q)
    exact F_116_172_ok  K v2 v5 (nI 2) _ _ _ l0 l2 l5 R h
def F_116_272 (G : jG) (t : Nat) (v1 : Int32) (v3 : (Nat × Nat)) (v5 : (Nat × Nat)) (S : sS) : Option (Int32 × sS) := (F_107 G t v1 v3 v5 S).bind (fun q1 => some (q1.1, q1.2))
theorem F_116_272_ok {G : jG} {t : Nat} {r : Int32} {S' : sS} {Q : Option Value ⊕ Nat → jS → Prop} (K : ∀ μ', sR S' μ' → Q (srI r) μ') : ∀ (v1 : Int32) (v3 : (Nat × Nat)) (v5 : (Nat × Nat)) (S : sS) (lv : jL) (μ : jS), jld lv 0 = some (.ref (spl 23 0 0)) → jld lv 1 = some (.int v1) → jld lv 3 = some (.ref (spl 25 v3.1 v3.2)) → jld lv 5 = some (.ref (spl 29 v5.1 v5.2)) → sR S μ → F_116_272 G t v1 v3 v5 S = some (r, S') → jX G jP 116 272 lv [] μ Q := by
  intro v1 v3 v5 S lv μ l0 l1 l3 l5 R h
  unfold F_116_272 at h
  refine jX.lrn l0 (by rfl) (by rfl) (?_ : jX G jP 116 273 lv [.ref (spl 23 0 0)] μ Q)
  refine jX.lin l1 (by rfl) (by rfl) (?_ : jX G jP 116 274 lv [.int v1, .ref (spl 23 0 0)] μ Q)
  refine jX.lrn l3 (by rfl) (by rfl) (?_ : jX G jP 116 275 lv [.ref (spl 25 v3.1 v3.2), .int v1, .ref (spl 23 0 0)] μ Q)
  refine jX.lr l5 (by rfl) (by rfl) (?_ : jX G jP 116 277 lv [.ref (spl 29 v5.1 v5.2), .ref (spl 25 v3.1 v3.2), .int v1, .ref (spl 23 0 0)] μ Q)
  obtain ⟨q1, e1, h⟩ := sbd h
  refine jX.c1 (v := .int q1.1) (by rfl) (by rfl) (by rfl) (by rfl) (by rfl) (by rfl) (by rfl) (R.rec (by rfl) (by rfl)) (Nat.le_of_ble_eq_true rfl) (Nat.le_of_ble_eq_true rfl) (F_107_ok R e1 (fun μ R => ⟨rfl, (?_ : jX G jP 116 280 lv [.int q1.1] μ Q)⟩))
  exact jX.ret (by rfl) (by rfl) (by rfl) (by rfl) (sretv (f := srI) h K R)
def F_116_303 (G : jG) (t : Nat) (v1 : Int32) (v2 : Int32) (v4 : (Nat × Nat)) (S : sS) : Option (Int32 × sS) := (F_111 G t v1 v2 v4 S).bind (fun q1 => some (q1.1, q1.2))
theorem F_116_303_ok {G : jG} {t : Nat} {r : Int32} {S' : sS} {Q : Option Value ⊕ Nat → jS → Prop} (K : ∀ μ', sR S' μ' → Q (srI r) μ') : ∀ (v1 : Int32) (v2 : Int32) (v4 : (Nat × Nat)) (S : sS) (lv : jL) (μ : jS), jld lv 0 = some (.ref (spl 23 0 0)) → jld lv 1 = some (.int v1) → jld lv 2 = some (.int v2) → jld lv 4 = some (.ref (spl 27 v4.1 v4.2)) → sR S μ → F_116_303 G t v1 v2 v4 S = some (r, S') → jX G jP 116 303 lv [] μ Q := by
  intro v1 v2 v4 S lv μ l0 l1 l2 l4 R h
  unfold F_116_303 at h
  refine jX.lrn l0 (by rfl) (by rfl) (?_ : jX G jP 116 304 lv [.ref (spl 23 0 0)] μ Q)
  refine jX.lin l1 (by rfl) (by rfl) (?_ : jX G jP 116 305 lv [.int v1, .ref (spl 23 0 0)] μ Q)
  refine jX.lin l2 (by rfl) (by rfl) (?_ : jX G jP 116 306 lv [.int v2, .int v1, .ref (spl 23 0 0)] μ Q)
  refine jX.lr l4 (by rfl) (by rfl) (?_ : jX G jP 116 308 lv [.ref (spl 27 v4.1 v4.2), .int v2, .int v1, .ref (spl 23 0 0)] μ Q)
  obtain ⟨q1, e1, h⟩ := sbd h
  refine jX.c1 (v := .int q1.1) (by rfl) (by rfl) (by rfl) (by rfl) (by rfl) (by rfl) (by rfl) (R.rec (by rfl) (by rfl)) (Nat.le_of_ble_eq_true rfl) (Nat.le_of_ble_eq_true rfl) (F_111_ok R e1 (fun μ R => ⟨rfl, (?_ : jX G jP 116 311 lv [.int q1.1] μ Q)⟩))
  exact jX.ret (by rfl) (by rfl) (by rfl) (by rfl) (sretv (f := srI) h K R)
def F_116_314 (G : jG) (t : Nat) (v1 : Int32) (v2 : Int32) (v4 : (Nat × Nat)) (v5 : (Nat × Nat)) (S : sS) : Option (Int32 × sS) := bif jcmp .gt v1 (nI 8) then (bif jcmp .gt v1 (nI 15) then ((F_115 G t v1 v2 v5 S).bind (fun q1 => some (q1.1, q1.2))) else ((F_114 G t v1 v5 S).bind (fun q2 => some (q2.1, q2.2)))) else ((F_112 G t v1 v2 v4 S).bind (fun q3 => some (q3.1, q3.2)))
theorem F_116_314_ok {G : jG} {t : Nat} {r : Int32} {S' : sS} {Q : Option Value ⊕ Nat → jS → Prop} (K : ∀ μ', sR S' μ' → Q (srI r) μ') : ∀ (v1 : Int32) (v2 : Int32) (v4 : (Nat × Nat)) (v5 : (Nat × Nat)) (S : sS) (lv : jL) (μ : jS), jld lv 0 = some (.ref (spl 23 0 0)) → jld lv 1 = some (.int v1) → jld lv 2 = some (.int v2) → jld lv 4 = some (.ref (spl 27 v4.1 v4.2)) → jld lv 5 = some (.ref (spl 29 v5.1 v5.2)) → sR S μ → F_116_314 G t v1 v2 v4 v5 S = some (r, S') → jX G jP 116 314 lv [] μ Q := by
  intro v1 v2 v4 v5 S lv μ l0 l1 l2 l4 l5 R h
  unfold F_116_314 at h
  refine jX.lin l1 (by rfl) (by rfl) (?_ : jX G jP 116 315 lv [.int v1] μ Q)
  refine jX.ic (v := nI 8) (n := 2) (by rfl) (by rfl) (by decide) (?_ : jX G jP 116 317 lv [.int (nI 8), .int v1] μ Q)
  rcases bif_or h with ⟨hc, h⟩ | ⟨hc, h⟩
  · refine jX.b2t hc (by rfl) (by rfl) (by rfl) (?_ : jX G jP 116 329 lv [] μ Q)
    refine jX.lin l1 (by rfl) (by rfl) (?_ : jX G jP 116 330 lv [.int v1] μ Q)
    refine jX.ic (v := nI 15) (n := 2) (by rfl) (by rfl) (by decide) (?_ : jX G jP 116 332 lv [.int (nI 15), .int v1] μ Q)
    rcases bif_or h with ⟨hc, h⟩ | ⟨hc, h⟩
    · refine jX.b2t hc (by rfl) (by rfl) (by rfl) (?_ : jX G jP 116 345 lv [] μ Q)
      refine jX.lrn l0 (by rfl) (by rfl) (?_ : jX G jP 116 346 lv [.ref (spl 23 0 0)] μ Q)
      refine jX.lin l1 (by rfl) (by rfl) (?_ : jX G jP 116 347 lv [.int v1, .ref (spl 23 0 0)] μ Q)
      refine jX.lin l2 (by rfl) (by rfl) (?_ : jX G jP 116 348 lv [.int v2, .int v1, .ref (spl 23 0 0)] μ Q)
      refine jX.lr l5 (by rfl) (by rfl) (?_ : jX G jP 116 350 lv [.ref (spl 29 v5.1 v5.2), .int v2, .int v1, .ref (spl 23 0 0)] μ Q)
      obtain ⟨q1, e1, h⟩ := sbd h
      refine jX.c1 (v := .int q1.1) (by rfl) (by rfl) (by rfl) (by rfl) (by rfl) (by rfl) (by rfl) (R.rec (by rfl) (by rfl)) (Nat.le_of_ble_eq_true rfl) (Nat.le_of_ble_eq_true rfl) (F_115_ok R e1 (fun μ R => ⟨rfl, (?_ : jX G jP 116 353 lv [.int q1.1] μ Q)⟩))
      exact jX.ret (by rfl) (by rfl) (by rfl) (by rfl) (sretv (f := srI) h K R)
    · refine jX.b2f hc (by rfl) (by rfl) (by rfl) (?_ : jX G jP 116 335 lv [] μ Q)
      refine jX.lrn l0 (by rfl) (by rfl) (?_ : jX G jP 116 336 lv [.ref (spl 23 0 0)] μ Q)
      refine jX.lin l1 (by rfl) (by rfl) (?_ : jX G jP 116 337 lv [.int v1, .ref (spl 23 0 0)] μ Q)
      refine jX.lr l5 (by rfl) (by rfl) (?_ : jX G jP 116 339 lv [.ref (spl 29 v5.1 v5.2), .int v1, .ref (spl 23 0 0)] μ Q)
      obtain ⟨q2, e2, h⟩ := sbd h
      refine jX.c1 (v := .int q2.1) (by rfl) (by rfl) (by rfl) (by rfl) (by rfl) (by rfl) (by rfl) (R.rec (by rfl) (by rfl)) (Nat.le_of_ble_eq_true rfl) (Nat.le_of_ble_eq_true rfl) (F_114_ok R e2 (fun μ R => ⟨rfl, (?_ : jX G jP 116 342 lv [.int q2.1] μ Q)⟩))
      refine jX.go (by rfl) (by rfl) (by rfl) (?_ : jX G jP 116 353 lv [.int q2.1] μ Q)
      exact jX.ret (by rfl) (by rfl) (by rfl) (by rfl) (sretv (f := srI) h K R)
  · refine jX.b2f hc (by rfl) (by rfl) (by rfl) (?_ : jX G jP 116 320 lv [] μ Q)
    refine jX.lrn l0 (by rfl) (by rfl) (?_ : jX G jP 116 321 lv [.ref (spl 23 0 0)] μ Q)
    refine jX.lin l1 (by rfl) (by rfl) (?_ : jX G jP 116 322 lv [.int v1, .ref (spl 23 0 0)] μ Q)
    refine jX.lin l2 (by rfl) (by rfl) (?_ : jX G jP 116 323 lv [.int v2, .int v1, .ref (spl 23 0 0)] μ Q)
    refine jX.lr l4 (by rfl) (by rfl) (?_ : jX G jP 116 325 lv [.ref (spl 27 v4.1 v4.2), .int v2, .int v1, .ref (spl 23 0 0)] μ Q)
    obtain ⟨q3, e3, h⟩ := sbd h
    refine jX.c1 (v := .int q3.1) (by rfl) (by rfl) (by rfl) (by rfl) (by rfl) (by rfl) (by rfl) (R.rec (by rfl) (by rfl)) (Nat.le_of_ble_eq_true rfl) (Nat.le_of_ble_eq_true rfl) (F_112_ok R e3 (fun μ R => ⟨rfl, (?_ : jX G jP 116 328 lv [.int q3.1] μ Q)⟩))
    exact jX.ret (by rfl) (by rfl) (by rfl) (by rfl) (sretv (f := srI) h K R)
def F_116 (G : jG) (t : Nat) (v1 : Int32) (v2 : Int32) (v3 : (Nat × Nat)) (v4 : (Nat × Nat)) (S : sS) : Option (Int32 × sS) := jif (sex S.2.2.2.1 27 v4.1 v4.2) (jif (sex S.2.2.2.1 29 v4.1 1) (bif decide (v1.toInt < 16 ∨ 36 < v1.toInt) then (F_116_314 G t v1 v2 v4 (v4.1, 1) S) else (bif decide (v1 = nI 16) then (F_116_303 G t v1 v2 v4 S) else (bif decide (v1 = nI 17) then (F_116_303 G t v1 v2 v4 S) else (bif decide (v1 = nI 18) then (F_116_116 G t v1 v2 v3 (v4.1, 1) S) else (bif decide (v1 = nI 19) then ((F_26 G t (v4.1, 1) ((S.1 29 v4.1 1 2) - (nI 1)) S).bind (fun q3 => jif (sex q3.2.2.2.2.1 29 v4.1 1) ((F_27 G t (v4.1, 1) ((S.1 29 v4.1 1 2) - (nI 1)) q3.2).bind (fun q5 => jif (sex q5.2.2.2.2.1 29 v4.1 1) ((F_76 G t (v4.1, 1) (nI 1) q5.2).bind (fun q7 => jif (sex q7.2.2.2.2.1 25 v3.1 v3.2) ((F_81 G t v3 (nI 1) q3.1 q5.1 q7.2).bind (fun q9 => some ((nI 0), q9.2))))))))) else (bif decide (v1 = nI 20) then (F_116_116 G t v1 v2 v3 (v4.1, 1) S) else (bif decide (v1 = nI 21) then (F_116_161 G t v1 v2 (v4.1, 1) S) else (bif decide (v1 = nI 22) then (F_116_314 G t v1 v2 v4 (v4.1, 1) S) else (bif decide (v1 = nI 23) then (F_116_314 G t v1 v2 v4 (v4.1, 1) S) else (bif decide (v1 = nI 24) then (F_116_314 G t v1 v2 v4 (v4.1, 1) S) else (bif decide (v1 = nI 25) then (F_116_314 G t v1 v2 v4 (v4.1, 1) S) else (bif decide (v1 = nI 26) then (F_116_314 G t v1 v2 v4 (v4.1, 1) S) else (bif decide (v1 = nI 27) then (F_116_161 G t v1 v2 (v4.1, 1) S) else (bif decide (v1 = nI 28) then ((F_94 G t v3 (v4.1, 1) S).bind (fun q10 => some (q10.1, q10.2))) else (bif decide (v1 = nI 29) then ((F_100 G t v3 (v4.1, 1) S).bind (fun q11 => some (q11.1, q11.2))) else (bif decide (v1 = nI 30) then ((F_102 G t (v4.1, 1) S).bind (fun q12 => some (q12.1, q12.2))) else (bif decide (v1 = nI 31) then ((F_105 G t v3 (v4.1, 1) v2 S).bind (fun q13 => some (q13.1, q13.2))) else (bif decide (v1 = nI 32) then (some ((nI 0), S)) else (bif decide (v1 = nI 33) then (F_116_272 G t v1 v3 (v4.1, 1) S) else (bif decide (v1 = nI 34) then ((F_108 G t v4 v2 S).bind (fun q14 => bif jcmp .eq q14.1 0 then (some ((-3), q14.2)) else (some ((nI 0), q14.2)))) else (bif decide (v1 = nI 35) then (F_116_272 G t v1 v3 (v4.1, 1) S) else (bif decide (v1 = nI 36) then (jif (sex S.2.2.2.1 25 v3.1 v3.2) ((F_109 G t v3 S).bind (fun q16 => some ((nI 0), q16.2)))) else (none))))))))))))))))))))))))
theorem F_116_ok {G : jG} {t : Nat} {v1 : Int32} {v2 : Int32} {v3 : (Nat × Nat)} {v4 : (Nat × Nat)} {S : sS} {r : Int32} {S' : sS} {μ : jS} {Q : Option Value ⊕ Nat → jS → Prop} (R : sR S μ) (h : F_116 G t v1 v2 v3 v4 S = some (r, S')) (K : ∀ μ', sR S' μ' → Q (srI r) μ') : jX G jP 116 0 (lv_args 0 [.ref (spl 23 0 0), .int v1, .int v2, .ref (spl 25 v3.1 v3.2), .ref (spl 27 v4.1 v4.2)]) [] μ Q := by
  unfold F_116 at h
  have l0 : jld (lv_args 0 [.ref (spl 23 0 0), .int v1, .int v2, .ref (spl 25 v3.1 v3.2), .ref (spl 27 v4.1 v4.2)]) 0 = some (.ref (spl 23 0 0)) := by rfl
  have l1 : jld (lv_args 0 [.ref (spl 23 0 0), .int v1, .int v2, .ref (spl 25 v3.1 v3.2), .ref (spl 27 v4.1 v4.2)]) 1 = some (.int v1) := by rfl
  have l2 : jld (lv_args 0 [.ref (spl 23 0 0), .int v1, .int v2, .ref (spl 25 v3.1 v3.2), .ref (spl 27 v4.1 v4.2)]) 2 = some (.int v2) := by rfl
  have l3 : jld (lv_args 0 [.ref (spl 23 0 0), .int v1, .int v2, .ref (spl 25 v3.1 v3.2), .ref (spl 27 v4.1 v4.2)]) 3 = some (.ref (spl 25 v3.1 v3.2)) := by rfl
  have l4 : jld (lv_args 0 [.ref (spl 23 0 0), .int v1, .int v2, .ref (spl 25 v3.1 v3.2), .ref (spl 27 v4.1 v4.2)]) 4 = some (.ref (spl 27 v4.1 v4.2)) := by rfl
  generalize lv_args 0 [.ref (spl 23 0 0), .int v1, .int v2, .ref (spl 25 v3.1 v3.2), .ref (spl 27 v4.1 v4.2)] = lv at *
  refine jX.lr l4 (by rfl) (by rfl) (?_ : jX G jP 116 2 lv [.ref (spl 27 v4.1 v4.2)] μ Q)
  obtain ⟨g1, h⟩ := jif_some h
  refine jX.sg R g1 (by rfl) (by rfl) (by rfl) (by rfl) (by rfl) (?_ : jX G jP 116 5 lv [.ref (spl 29 v4.1 1)] μ Q)
  refine jX.s1 (k := 5) (pc' := 7) (by rfl) (by rfl) (by rfl) (fun lv l5 kp => (?_ : jX G jP 116 7 lv [] μ Q))
  replace l0 := kp 0 _ l0 (by rfl) (by first | rfl | simp [soR_cat])
  replace l1 := kp 1 _ l1 (by rfl) (by first | rfl | simp [soR_cat])
  replace l2 := kp 2 _ l2 (by rfl) (by first | rfl | simp [soR_cat])
  replace l3 := kp 3 _ l3 (by rfl) (by first | rfl | simp [soR_cat])
  replace l4 := kp 4 _ l4 (by rfl) (by first | rfl | simp [soR_cat])
  refine jX.lr l5 (by rfl) (by rfl) (?_ : jX G jP 116 9 lv [.ref (spl 29 v4.1 1)] μ Q)
  obtain ⟨g2, h⟩ := jif_some h
  refine jX.sg R g2 (by rfl) (by rfl) (by rfl) (by rfl) (by rfl) (?_ : jX G jP 116 12 lv [.int (S.1 29 v4.1 1 2)] μ Q)
  refine jX.ic (v := nI 1) (n := 1) (by rfl) (by rfl) (by decide) (?_ : jX G jP 116 13 lv [.int (nI 1), .int (S.1 29 v4.1 1 2)] μ Q)
  refine jX.go (by rfl) (by rfl) (by rfl) (?_ : jX G jP 116 14 lv [.int ((S.1 29 v4.1 1 2) - (nI 1))] μ Q)
  refine jX.s1 (k := 6) (pc' := 16) (by rfl) (by rfl) (by rfl) (fun lv l6 kp => (?_ : jX G jP 116 16 lv [] μ Q))
  replace l0 := kp 0 _ l0 (by rfl) (by first | rfl | simp [soR_cat])
  replace l1 := kp 1 _ l1 (by rfl) (by first | rfl | simp [soR_cat])
  replace l2 := kp 2 _ l2 (by rfl) (by first | rfl | simp [soR_cat])
  replace l3 := kp 3 _ l3 (by rfl) (by first | rfl | simp [soR_cat])
  replace l4 := kp 4 _ l4 (by rfl) (by first | rfl | simp [soR_cat])
  replace l5 := kp 5 _ l5 (by rfl) (by first | rfl | simp [soR_cat])
  refine jX.lin l1 (by rfl) (by rfl) (?_ : jX G jP 116 17 lv [.int v1] μ Q)
  rcases bif_or h with ⟨hc, h⟩ | ⟨-, h⟩
  · refine jX.swd hc (by rfl) (by rfl) (by rfl) (?_ : jX G jP 116 314 lv [] μ Q)
    exact F_116_314_ok  K v1 v2 v4 (v4.1, 1) _ _ _ l0 l1 l2 l4 l5 R h
  rcases bif_or h with ⟨hc, h⟩ | ⟨-, h⟩
  · refine jX.swn hc (by rfl) (by rfl) (by rfl) (?_ : jX G jP 116 303 lv [] μ Q)
    exact F_116_303_ok  K v1 v2 v4 _ _ _ l0 l1 l2 l4 R h
  rcases bif_or h with ⟨hc, h⟩ | ⟨-, h⟩
  · refine jX.swn hc (by rfl) (by rfl) (by rfl) (?_ : jX G jP 116 303 lv [] μ Q)
    exact F_116_303_ok  K v1 v2 v4 _ _ _ l0 l1 l2 l4 R h
  rcases bif_or h with ⟨hc, h⟩ | ⟨-, h⟩
  · refine jX.swn hc (by rfl) (by rfl) (by rfl) (?_ : jX G jP 116 116 lv [] μ Q)
    exact F_116_116_ok  K v1 v2 v3 (v4.1, 1) _ _ _ l0 l1 l2 l3 l5 R h
  rcases bif_or h with ⟨hc, h⟩ | ⟨-, h⟩
  · refine jX.swn hc (by rfl) (by rfl) (by rfl) (?_ : jX G jP 116 126 lv [] μ Q)
    refine jX.lr l5 (by rfl) (by rfl) (?_ : jX G jP 116 128 lv [.ref (spl 29 v4.1 1)] μ Q)
    refine jX.li l6 (by rfl) (by rfl) (?_ : jX G jP 116 130 lv [.int ((S.1 29 v4.1 1 2) - (nI 1)), .ref (spl 29 v4.1 1)] μ Q)
    obtain ⟨q3, e3, h⟩ := sbd h
    refine jX.c1 (v := .long q3.1) (by rfl) (by rfl) (by rfl) (by rfl) (by rfl) (by rfl) (by rfl) (R.rec g2 (by rfl)) (Nat.le_of_ble_eq_true rfl) (Nat.le_of_ble_eq_true rfl) (F_26_ok R e3 (fun μ R => ⟨rfl, (?_ : jX G jP 116 133 lv [.long q3.1] μ Q)⟩))
    refine jX.s2 (k := 7) (pc' := 135) (by rfl) (by rfl) (by rfl) (fun lv l7 kp => (?_ : jX G jP 116 135 lv [] μ Q))
    replace l3 := kp 3 _ l3 (by rfl) (by first | rfl | simp [soR_cat])
    replace l5 := kp 5 _ l5 (by rfl) (by first | rfl | simp [soR_cat])
    replace l6 := kp 6 _ l6 (by rfl) (by first | rfl | simp [soR_cat])
    refine jX.lr l5 (by rfl) (by rfl) (?_ : jX G jP 116 137 lv [.ref (spl 29 v4.1 1)] μ Q)
    refine jX.li l6 (by rfl) (by rfl) (?_ : jX G jP 116 139 lv [.int ((S.1 29 v4.1 1 2) - (nI 1)), .ref (spl 29 v4.1 1)] μ Q)
    obtain ⟨g4, h⟩ := jif_some h
    obtain ⟨q5, e5, h⟩ := sbd h
    refine jX.c1 (v := .int q5.1) (by rfl) (by rfl) (by rfl) (by rfl) (by rfl) (by rfl) (by rfl) (R.rec g4 (by rfl)) (Nat.le_of_ble_eq_true rfl) (Nat.le_of_ble_eq_true rfl) (F_27_ok R e5 (fun μ R => ⟨rfl, (?_ : jX G jP 116 142 lv [.int q5.1] μ Q)⟩))
    refine jX.s1 (k := 9) (pc' := 144) (by rfl) (by rfl) (by rfl) (fun lv l9 kp => (?_ : jX G jP 116 144 lv [] μ Q))
    replace l3 := kp 3 _ l3 (by rfl) (by first | rfl | simp [soR_cat])
    replace l5 := kp 5 _ l5 (by rfl) (by first | rfl | simp [soR_cat])
    replace l7 := kp 7 _ l7 (by rfl) (by first | rfl | simp [soR_cat])
    refine jX.lr l5 (by rfl) (by rfl) (?_ : jX G jP 116 146 lv [.ref (spl 29 v4.1 1)] μ Q)
    refine jX.ic (v := nI 1) (n := 1) (by rfl) (by rfl) (by decide) (?_ : jX G jP 116 147 lv [.int (nI 1), .ref (spl 29 v4.1 1)] μ Q)
    obtain ⟨g6, h⟩ := jif_some h
    obtain ⟨q7, e7, h⟩ := sbd h
    refine jX.cv (by rfl) (by rfl) (by rfl) (by rfl) (by rfl) (by rfl) (by rfl) (R.rec g6 (by rfl)) (Nat.le_of_ble_eq_true rfl) (Nat.le_of_ble_eq_true rfl) (F_76_ok R e7 (fun μ R => ⟨rfl, (?_ : jX G jP 116 150 lv [] μ Q)⟩))
    refine jX.lrn l3 (by rfl) (by rfl) (?_ : jX G jP 116 151 lv [.ref (spl 25 v3.1 v3.2)] μ Q)
    refine jX.ic (v := nI 1) (n := 1) (by rfl) (by rfl) (by decide) (?_ : jX G jP 116 152 lv [.int (nI 1), .ref (spl 25 v3.1 v3.2)] μ Q)
    refine jX.ll l7 (by rfl) (by rfl) (?_ : jX G jP 116 154 lv [.long q3.1, .int (nI 1), .ref (spl 25 v3.1 v3.2)] μ Q)
    refine jX.li l9 (by rfl) (by rfl) (?_ : jX G jP 116 156 lv [.int q5.1, .long q3.1, .int (nI 1), .ref (spl 25 v3.1 v3.2)] μ Q)
    obtain ⟨g8, h⟩ := jif_some h
    obtain ⟨q9, e9, h⟩ := sbd h
    refine jX.cv (by rfl) (by rfl) (by rfl) (by rfl) (by rfl) (by rfl) (by rfl) (R.rec g8 (by rfl)) (Nat.le_of_ble_eq_true rfl) (Nat.le_of_ble_eq_true rfl) (F_81_ok R e9 (fun μ R => ⟨rfl, (?_ : jX G jP 116 159 lv [] μ Q)⟩))
    refine jX.ic (v := nI 0) (n := 1) (by rfl) (by rfl) (by decide) (?_ : jX G jP 116 160 lv [.int (nI 0)] μ Q)
    exact jX.ret (by rfl) (by rfl) (by rfl) (by rfl) (sretv (f := srI) h K R)
  rcases bif_or h with ⟨hc, h⟩ | ⟨-, h⟩
  · refine jX.swn hc (by rfl) (by rfl) (by rfl) (?_ : jX G jP 116 116 lv [] μ Q)
    exact F_116_116_ok  K v1 v2 v3 (v4.1, 1) _ _ _ l0 l1 l2 l3 l5 R h
  rcases bif_or h with ⟨hc, h⟩ | ⟨-, h⟩
  · refine jX.swn hc (by rfl) (by rfl) (by rfl) (?_ : jX G jP 116 161 lv [] μ Q)
    exact F_116_161_ok  K v1 v2 (v4.1, 1) _ _ _ l0 l1 l2 l5 R h
  rcases bif_or h with ⟨hc, h⟩ | ⟨-, h⟩
  · refine jX.swn hc (by rfl) (by rfl) (by rfl) (?_ : jX G jP 116 314 lv [] μ Q)
    exact F_116_314_ok  K v1 v2 v4 (v4.1, 1) _ _ _ l0 l1 l2 l4 l5 R h
  rcases bif_or h with ⟨hc, h⟩ | ⟨-, h⟩
  · refine jX.swn hc (by rfl) (by rfl) (by rfl) (?_ : jX G jP 116 314 lv [] μ Q)
    exact F_116_314_ok  K v1 v2 v4 (v4.1, 1) _ _ _ l0 l1 l2 l4 l5 R h
  rcases bif_or h with ⟨hc, h⟩ | ⟨-, h⟩
  · refine jX.swn hc (by rfl) (by rfl) (by rfl) (?_ : jX G jP 116 314 lv [] μ Q)
    exact F_116_314_ok  K v1 v2 v4 (v4.1, 1) _ _ _ l0 l1 l2 l4 l5 R h
  rcases bif_or h with ⟨hc, h⟩ | ⟨-, h⟩
  · refine jX.swn hc (by rfl) (by rfl) (by rfl) (?_ : jX G jP 116 314 lv [] μ Q)
    exact F_116_314_ok  K v1 v2 v4 (v4.1, 1) _ _ _ l0 l1 l2 l4 l5 R h
  rcases bif_or h with ⟨hc, h⟩ | ⟨-, h⟩
  · refine jX.swn hc (by rfl) (by rfl) (by rfl) (?_ : jX G jP 116 314 lv [] μ Q)
    exact F_116_314_ok  K v1 v2 v4 (v4.1, 1) _ _ _ l0 l1 l2 l4 l5 R h
  rcases bif_or h with ⟨hc, h⟩ | ⟨-, h⟩
  · refine jX.swn hc (by rfl) (by rfl) (by rfl) (?_ : jX G jP 116 161 lv [] μ Q)
    exact F_116_161_ok  K v1 v2 (v4.1, 1) _ _ _ l0 l1 l2 l5 R h
  rcases bif_or h with ⟨hc, h⟩ | ⟨-, h⟩
  · refine jX.swn hc (by rfl) (by rfl) (by rfl) (?_ : jX G jP 116 228 lv [] μ Q)
    refine jX.lrn l0 (by rfl) (by rfl) (?_ : jX G jP 116 229 lv [.ref (spl 23 0 0)] μ Q)
    refine jX.sg R (by rfl) (by rfl) (by rfl) (by rfl) (by rfl) (by rfl) (?_ : jX G jP 116 232 lv [.ref (spl 22 0 0)] μ Q)
    refine jX.lrn l3 (by rfl) (by rfl) (?_ : jX G jP 116 233 lv [.ref (spl 25 v3.1 v3.2), .ref (spl 22 0 0)] μ Q)
    refine jX.lr l5 (by rfl) (by rfl) (?_ : jX G jP 116 235 lv [.ref (spl 29 v4.1 1), .ref (spl 25 v3.1 v3.2), .ref (spl 22 0 0)] μ Q)
    obtain ⟨q10, e10, h⟩ := sbd h
    refine jX.c1 (v := .int q10.1) (by rfl) (by rfl) (by rfl) (by rfl) (by rfl) (by rfl) (by rfl) (R.rec (by rfl) (by rfl)) (Nat.le_of_ble_eq_true rfl) (Nat.le_of_ble_eq_true rfl) (F_94_ok R e10 (fun μ R => ⟨rfl, (?_ : jX G jP 116 238 lv [.int q10.1] μ Q)⟩))
    exact jX.ret (by rfl) (by rfl) (by rfl) (by rfl) (sretv (f := srI) h K R)
  rcases bif_or h with ⟨hc, h⟩ | ⟨-, h⟩
  · refine jX.swn hc (by rfl) (by rfl) (by rfl) (?_ : jX G jP 116 239 lv [] μ Q)
    refine jX.lrn l0 (by rfl) (by rfl) (?_ : jX G jP 116 240 lv [.ref (spl 23 0 0)] μ Q)
    refine jX.sg R (by rfl) (by rfl) (by rfl) (by rfl) (by rfl) (by rfl) (?_ : jX G jP 116 243 lv [.ref (spl 22 0 0)] μ Q)
    refine jX.lrn l3 (by rfl) (by rfl) (?_ : jX G jP 116 244 lv [.ref (spl 25 v3.1 v3.2), .ref (spl 22 0 0)] μ Q)
    refine jX.lr l5 (by rfl) (by rfl) (?_ : jX G jP 116 246 lv [.ref (spl 29 v4.1 1), .ref (spl 25 v3.1 v3.2), .ref (spl 22 0 0)] μ Q)
    obtain ⟨q11, e11, h⟩ := sbd h
    refine jX.c1 (v := .int q11.1) (by rfl) (by rfl) (by rfl) (by rfl) (by rfl) (by rfl) (by rfl) (R.rec (by rfl) (by rfl)) (Nat.le_of_ble_eq_true rfl) (Nat.le_of_ble_eq_true rfl) (F_100_ok R e11 (fun μ R => ⟨rfl, (?_ : jX G jP 116 249 lv [.int q11.1] μ Q)⟩))
    exact jX.ret (by rfl) (by rfl) (by rfl) (by rfl) (sretv (f := srI) h K R)
  rcases bif_or h with ⟨hc, h⟩ | ⟨-, h⟩
  · refine jX.swn hc (by rfl) (by rfl) (by rfl) (?_ : jX G jP 116 250 lv [] μ Q)
    refine jX.lrn l0 (by rfl) (by rfl) (?_ : jX G jP 116 251 lv [.ref (spl 23 0 0)] μ Q)
    refine jX.sg R (by rfl) (by rfl) (by rfl) (by rfl) (by rfl) (by rfl) (?_ : jX G jP 116 254 lv [.ref (spl 22 0 0)] μ Q)
    refine jX.lr l5 (by rfl) (by rfl) (?_ : jX G jP 116 256 lv [.ref (spl 29 v4.1 1), .ref (spl 22 0 0)] μ Q)
    obtain ⟨q12, e12, h⟩ := sbd h
    refine jX.c1 (v := .int q12.1) (by rfl) (by rfl) (by rfl) (by rfl) (by rfl) (by rfl) (by rfl) (R.rec (by rfl) (by rfl)) (Nat.le_of_ble_eq_true rfl) (Nat.le_of_ble_eq_true rfl) (F_102_ok R e12 (fun μ R => ⟨rfl, (?_ : jX G jP 116 259 lv [.int q12.1] μ Q)⟩))
    exact jX.ret (by rfl) (by rfl) (by rfl) (by rfl) (sretv (f := srI) h K R)
  rcases bif_or h with ⟨hc, h⟩ | ⟨-, h⟩
  · refine jX.swn hc (by rfl) (by rfl) (by rfl) (?_ : jX G jP 116 260 lv [] μ Q)
    refine jX.lrn l0 (by rfl) (by rfl) (?_ : jX G jP 116 261 lv [.ref (spl 23 0 0)] μ Q)
    refine jX.sg R (by rfl) (by rfl) (by rfl) (by rfl) (by rfl) (by rfl) (?_ : jX G jP 116 264 lv [.ref (spl 22 0 0)] μ Q)
    refine jX.lrn l3 (by rfl) (by rfl) (?_ : jX G jP 116 265 lv [.ref (spl 25 v3.1 v3.2), .ref (spl 22 0 0)] μ Q)
    refine jX.lr l5 (by rfl) (by rfl) (?_ : jX G jP 116 267 lv [.ref (spl 29 v4.1 1), .ref (spl 25 v3.1 v3.2), .ref (spl 22 0 0)] μ Q)
    refine jX.lin l2 (by rfl) (by rfl) (?_ : jX G jP 116 268 lv [.int v2, .ref (spl 29 v4.1 1), .ref (spl 25 v3.1 v3.2), .ref (spl 22 0 0)] μ Q)
    obtain ⟨q13, e13, h⟩ := sbd h
    refine jX.c1 (v := .int q13.1) (by rfl) (by rfl) (by rfl) (by rfl) (by rfl) (by rfl) (by rfl) (R.rec (by rfl) (by rfl)) (Nat.le_of_ble_eq_true rfl) (Nat.le_of_ble_eq_true rfl) (F_105_ok R e13 (fun μ R => ⟨rfl, (?_ : jX G jP 116 271 lv [.int q13.1] μ Q)⟩))
    exact jX.ret (by rfl) (by rfl) (by rfl) (by rfl) (sretv (f := srI) h K R)
  rcases bif_or h with ⟨hc, h⟩ | ⟨-, h⟩
  · refine jX.swn hc (by rfl) (by rfl) (by rfl) (?_ : jX G jP 116 312 lv [] μ Q)
    refine jX.ic (v := nI 0) (n := 1) (by rfl) (by rfl) (by decide) (?_ : jX G jP 116 313 lv [.int (nI 0)] μ Q)
    exact jX.ret (by rfl) (by rfl) (by rfl) (by rfl) (sretv (f := srI) h K R)
  rcases bif_or h with ⟨hc, h⟩ | ⟨-, h⟩
  · refine jX.swn hc (by rfl) (by rfl) (by rfl) (?_ : jX G jP 116 272 lv [] μ Q)
    exact F_116_272_ok  K v1 v3 (v4.1, 1) _ _ _ l0 l1 l3 l5 R h
  rcases bif_or h with ⟨hc, h⟩ | ⟨-, h⟩
  · refine jX.swn hc (by rfl) (by rfl) (by rfl) (?_ : jX G jP 116 281 lv [] μ Q)
    refine jX.lr l4 (by rfl) (by rfl) (?_ : jX G jP 116 283 lv [.ref (spl 27 v4.1 v4.2)] μ Q)
    refine jX.lin l2 (by rfl) (by rfl) (?_ : jX G jP 116 284 lv [.int v2, .ref (spl 27 v4.1 v4.2)] μ Q)
    obtain ⟨q14, e14, h⟩ := sbd h
    refine jX.c1 (v := .int q14.1) (by rfl) (by rfl) (by rfl) (by rfl) (by rfl) (by rfl) (by rfl) (R.rec g1 (by rfl)) (Nat.le_of_ble_eq_true rfl) (Nat.le_of_ble_eq_true rfl) (F_108_ok R e14 (fun μ R => ⟨rfl, (?_ : jX G jP 116 287 lv [.int q14.1] μ Q)⟩))
    rcases bif_or h with ⟨hc, h⟩ | ⟨hc, h⟩
    · refine jX.b1t hc (by rfl) (by rfl) (by rfl) (?_ : jX G jP 116 294 lv [] μ Q)
      refine jX.ic (v := (-3)) (n := 2) (by rfl) (by rfl) (by decide) (?_ : jX G jP 116 296 lv [.int (-3)] μ Q)
      exact jX.ret (by rfl) (by rfl) (by rfl) (by rfl) (sretv (f := srI) h K R)
    · refine jX.b1f hc (by rfl) (by rfl) (by rfl) (?_ : jX G jP 116 290 lv [] μ Q)
      refine jX.ic (v := nI 0) (n := 1) (by rfl) (by rfl) (by decide) (?_ : jX G jP 116 291 lv [.int (nI 0)] μ Q)
      refine jX.go (by rfl) (by rfl) (by rfl) (?_ : jX G jP 116 296 lv [.int (nI 0)] μ Q)
      exact jX.ret (by rfl) (by rfl) (by rfl) (by rfl) (sretv (f := srI) h K R)
  rcases bif_or h with ⟨hc, h⟩ | ⟨-, h⟩
  · refine jX.swn hc (by rfl) (by rfl) (by rfl) (?_ : jX G jP 116 272 lv [] μ Q)
    exact F_116_272_ok  K v1 v3 (v4.1, 1) _ _ _ l0 l1 l3 l5 R h
  rcases bif_or h with ⟨hc, h⟩ | ⟨-, h⟩
  · refine jX.swn hc (by rfl) (by rfl) (by rfl) (?_ : jX G jP 116 297 lv [] μ Q)
    refine jX.lrn l3 (by rfl) (by rfl) (?_ : jX G jP 116 298 lv [.ref (spl 25 v3.1 v3.2)] μ Q)
    obtain ⟨g15, h⟩ := jif_some h
    obtain ⟨q16, e16, h⟩ := sbd h
    refine jX.cv (by rfl) (by rfl) (by rfl) (by rfl) (by rfl) (by rfl) (by rfl) (R.rec g15 (by rfl)) (Nat.le_of_ble_eq_true rfl) (Nat.le_of_ble_eq_true rfl) (F_109_ok R e16 (fun μ R => ⟨rfl, (?_ : jX G jP 116 301 lv [] μ Q)⟩))
    refine jX.ic (v := nI 0) (n := 1) (by rfl) (by rfl) (by decide) (?_ : jX G jP 116 302 lv [.int (nI 0)] μ Q)
    exact jX.ret (by rfl) (by rfl) (by rfl) (by rfl) (sretv (f := srI) h K R)
  cases h
/-! 117 StrandRuntime$Machine.passTurn(LStrandRuntime$Strand;Z)V -/
def F_117_32 (G : jG) (t : Nat) (w0 : Int32) (S : sS) : Option (Unit × sS) := some ((), (siI (siI S 23 0 0 7 w0) 8 0 0 5 (-1)))
theorem F_117_32_ok {G : jG} {t : Nat} {r : Unit} {S' : sS} {Q : Option Value ⊕ Nat → jS → Prop} (K : ∀ μ', sR S' μ' → Q (srV r) μ') : ∀ (w0 : Int32) (S : sS) (lv : jL) (μ : jS), jld lv 0 = some (.ref (spl 23 0 0)) → sR S μ → F_117_32 G t w0 S = some (r, S') → jX G jP 117 32 lv [.int w0, .ref (spl 23 0 0)] μ Q := by
  intro w0 S lv μ l0 R h
  unfold F_117_32 at h
  refine jX.spI R (by rfl) (by rfl) (by rfl) (by rfl) (by rfl) (by rfl) (by rfl) (by rfl) (by rfl) (fun μ R => (?_ : jX G jP 117 35 lv [] μ Q))
  refine jX.lrn l0 (by rfl) (by rfl) (?_ : jX G jP 117 36 lv [.ref (spl 23 0 0)] μ Q)
  refine jX.sg R (by rfl) (by rfl) (by rfl) (by rfl) (by rfl) (by rfl) (?_ : jX G jP 117 39 lv [.ref (spl 8 0 0)] μ Q)
  refine jX.ic (v := (-1)) (n := 1) (by rfl) (by rfl) (by decide) (?_ : jX G jP 117 40 lv [.int (-1), .ref (spl 8 0 0)] μ Q)
  refine jX.spI R (by rfl) (by rfl) (by rfl) (by rfl) (by rfl) (by rfl) (by rfl) (by rfl) (by rfl) (fun μ R => (?_ : jX G jP 117 43 lv [] μ Q))
  exact jX.ret (by rfl) (by rfl) (by rfl) (by rfl) (sretv (f := srV) h K R)
def F_117_99 (G : jG) (t : Nat) (S : sS) : Option (Unit × sS) := (F_32 G t S).bind (fun q1 => bif jcmp .ne (q1.2.1 8 0 0 5) (-1) then (some ((), q1.2)) else (some ((), (siI q1.2 23 0 0 7 (nI 4)))))
theorem F_117_99_ok {G : jG} {t : Nat} {r : Unit} {S' : sS} {Q : Option Value ⊕ Nat → jS → Prop} (K : ∀ μ', sR S' μ' → Q (srV r) μ') : ∀ (S : sS) (lv : jL) (μ : jS), jld lv 0 = some (.ref (spl 23 0 0)) → sR S μ → F_117_99 G t S = some (r, S') → jX G jP 117 99 lv [] μ Q := by
  intro S lv μ l0 R h
  unfold F_117_99 at h
  refine jX.lrn l0 (by rfl) (by rfl) (?_ : jX G jP 117 100 lv [.ref (spl 23 0 0)] μ Q)
  refine jX.sg R (by rfl) (by rfl) (by rfl) (by rfl) (by rfl) (by rfl) (?_ : jX G jP 117 103 lv [.ref (spl 8 0 0)] μ Q)
  obtain ⟨q1, e1, h⟩ := sbd h
  refine jX.cv (by rfl) (by rfl) (by rfl) (by rfl) (by rfl) (by rfl) (by rfl) (R.rec (by rfl) (by rfl)) (Nat.le_of_ble_eq_true rfl) (Nat.le_of_ble_eq_true rfl) (F_32_ok R e1 (fun μ R => ⟨rfl, (?_ : jX G jP 117 106 lv [] μ Q)⟩))
  refine jX.lrn l0 (by rfl) (by rfl) (?_ : jX G jP 117 107 lv [.ref (spl 23 0 0)] μ Q)
  refine jX.sg R (by rfl) (by rfl) (by rfl) (by rfl) (by rfl) (by rfl) (?_ : jX G jP 117 110 lv [.ref (spl 8 0 0)] μ Q)
  refine jX.sg R (by rfl) (by rfl) (by rfl) (by rfl) (by rfl) (by rfl) (?_ : jX G jP 117 113 lv [.int (q1.2.1 8 0 0 5)] μ Q)
  refine jX.ic (v := (-1)) (n := 1) (by rfl) (by rfl) (by decide) (?_ : jX G jP 117 114 lv [.int (-1), .int (q1.2.1 8 0 0 5)] μ Q)
  rcases bif_or h with ⟨hc, h⟩ | ⟨hc, h⟩
  · refine jX.b2t hc (by rfl) (by rfl) (by rfl) (?_ : jX G jP 117 122 lv [] μ Q)
    exact jX.ret (by rfl) (by rfl) (by rfl) (by rfl) (sretv (f := srV) h K R)
  · refine jX.b2f hc (by rfl) (by rfl) (by rfl) (?_ : jX G jP 117 117 lv [] μ Q)
    refine jX.lrn l0 (by rfl) (by rfl) (?_ : jX G jP 117 118 lv [.ref (spl 23 0 0)] μ Q)
    refine jX.ic (v := nI 4) (n := 1) (by rfl) (by rfl) (by decide) (?_ : jX G jP 117 119 lv [.int (nI 4), .ref (spl 23 0 0)] μ Q)
    refine jX.spI R (by rfl) (by rfl) (by rfl) (by rfl) (by rfl) (by rfl) (by rfl) (by rfl) (by rfl) (fun μ R => (?_ : jX G jP 117 122 lv [] μ Q))
    exact jX.ret (by rfl) (by rfl) (by rfl) (by rfl) (sretv (f := srV) h K R)
def F_117_83 (G : jG) (t : Nat) (v1 : (Nat × Nat)) (S : sS) : Option (Unit × sS) := jif (sex S.2.2.2.1 25 v1.1 v1.2) (bif jcmp .ne (S.1 25 v1.1 v1.2 4) (nI 1) then (F_117_99 G t S) else ((F_30 G t v1 S).bind (fun q2 => F_117_99 G t q2.2)))
theorem F_117_83_ok {G : jG} {t : Nat} {r : Unit} {S' : sS} {Q : Option Value ⊕ Nat → jS → Prop} (K : ∀ μ', sR S' μ' → Q (srV r) μ') : ∀ (v1 : (Nat × Nat)) (S : sS) (lv : jL) (μ : jS), jld lv 0 = some (.ref (spl 23 0 0)) → jld lv 1 = some (.ref (spl 25 v1.1 v1.2)) → sR S μ → F_117_83 G t v1 S = some (r, S') → jX G jP 117 83 lv [] μ Q := by
  intro v1 S lv μ l0 l1 R h
  unfold F_117_83 at h
  refine jX.lrn l1 (by rfl) (by rfl) (?_ : jX G jP 117 84 lv [.ref (spl 25 v1.1 v1.2)] μ Q)
  obtain ⟨g1, h⟩ := jif_some h
  refine jX.sg R g1 (by rfl) (by rfl) (by rfl) (by rfl) (by rfl) (?_ : jX G jP 117 87 lv [.int (S.1 25 v1.1 v1.2 4)] μ Q)
  refine jX.ic (v := nI 1) (n := 1) (by rfl) (by rfl) (by decide) (?_ : jX G jP 117 88 lv [.int (nI 1), .int (S.1 25 v1.1 v1.2 4)] μ Q)
  rcases bif_or h with ⟨hc, h⟩ | ⟨hc, h⟩
  · refine jX.b2t hc (by rfl) (by rfl) (by rfl) (?_ : jX G jP 117 99 lv [] μ Q)
    exact F_117_99_ok  K  _ _ _ l0 R h
  · refine jX.b2f hc (by rfl) (by rfl) (by rfl) (?_ : jX G jP 117 91 lv [] μ Q)
    refine jX.lrn l0 (by rfl) (by rfl) (?_ : jX G jP 117 92 lv [.ref (spl 23 0 0)] μ Q)
    refine jX.sg R (by rfl) (by rfl) (by rfl) (by rfl) (by rfl) (by rfl) (?_ : jX G jP 117 95 lv [.ref (spl 8 0 0)] μ Q)
    refine jX.lrn l1 (by rfl) (by rfl) (?_ : jX G jP 117 96 lv [.ref (spl 25 v1.1 v1.2), .ref (spl 8 0 0)] μ Q)
    obtain ⟨q2, e2, h⟩ := sbd h
    refine jX.cv (by rfl) (by rfl) (by rfl) (by rfl) (by rfl) (by rfl) (by rfl) (R.rec (by rfl) (by rfl)) (Nat.le_of_ble_eq_true rfl) (Nat.le_of_ble_eq_true rfl) (F_30_ok R e2 (fun μ R => ⟨rfl, (?_ : jX G jP 117 99 lv [] μ Q)⟩))
    exact F_117_99_ok  K  _ _ _ l0 R h
def F_117_67 (G : jG) (t : Nat) (v1 : (Nat × Nat)) (w0 : Int32) (S : sS) : Option (Unit × sS) := jif (sex S.2.2.2.1 25 v1.1 v1.2) (bif jcmp .ne (S.1 25 v1.1 v1.2 4) (nI 1) then (F_117_83 G t v1 S) else (bif jcmp .ne w0 0 then (F_117_83 G t v1 S) else (some ((), S))))
theorem F_117_67_ok {G : jG} {t : Nat} {r : Unit} {S' : sS} {Q : Option Value ⊕ Nat → jS → Prop} (K : ∀ μ', sR S' μ' → Q (srV r) μ') : ∀ (v1 : (Nat × Nat)) (w0 : Int32) (S : sS) (lv : jL) (μ : jS), jld lv 0 = some (.ref (spl 23 0 0)) → jld lv 1 = some (.ref (spl 25 v1.1 v1.2)) → sR S μ → F_117_67 G t v1 w0 S = some (r, S') → jX G jP 117 67 lv [.int w0] μ Q := by
  intro v1 w0 S lv μ l0 l1 R h
  unfold F_117_67 at h
  refine jX.s1 (k := 4) (pc' := 69) (by rfl) (by rfl) (by rfl) (fun lv l4 kp => (?_ : jX G jP 117 69 lv [] μ Q))
  replace l0 := kp 0 _ l0 (by rfl) (by first | rfl | simp [soR_cat])
  replace l1 := kp 1 _ l1 (by rfl) (by first | rfl | simp [soR_cat])
  refine jX.lrn l1 (by rfl) (by rfl) (?_ : jX G jP 117 70 lv [.ref (spl 25 v1.1 v1.2)] μ Q)
  obtain ⟨g1, h⟩ := jif_some h
  refine jX.sg R g1 (by rfl) (by rfl) (by rfl) (by rfl) (by rfl) (?_ : jX G jP 117 73 lv [.int (S.1 25 v1.1 v1.2 4)] μ Q)
  refine jX.ic (v := nI 1) (n := 1) (by rfl) (by rfl) (by decide) (?_ : jX G jP 117 74 lv [.int (nI 1), .int (S.1 25 v1.1 v1.2 4)] μ Q)
  rcases bif_or h with ⟨hc, h⟩ | ⟨hc, h⟩
  · refine jX.b2t hc (by rfl) (by rfl) (by rfl) (?_ : jX G jP 117 83 lv [] μ Q)
    exact F_117_83_ok  K v1 _ _ _ l0 l1 R h
  · refine jX.b2f hc (by rfl) (by rfl) (by rfl) (?_ : jX G jP 117 77 lv [] μ Q)
    refine jX.li l4 (by rfl) (by rfl) (?_ : jX G jP 117 79 lv [.int w0] μ Q)
    rcases bif_or h with ⟨hc, h⟩ | ⟨hc, h⟩
    · refine jX.b1t hc (by rfl) (by rfl) (by rfl) (?_ : jX G jP 117 83 lv [] μ Q)
      exact F_117_83_ok  K v1 _ _ _ l0 l1 R h
    · refine jX.b1f hc (by rfl) (by rfl) (by rfl) (?_ : jX G jP 117 82 lv [] μ Q)
      exact jX.ret (by rfl) (by rfl) (by rfl) (by rfl) (sretv (f := srV) h K R)
def F_117_62 (G : jG) (t : Nat) (v1 : (Nat × Nat)) (S : sS) : Option (Unit × sS) := F_117_67 G t v1 (nI 1) S
theorem F_117_62_ok {G : jG} {t : Nat} {r : Unit} {S' : sS} {Q : Option Value ⊕ Nat → jS → Prop} (K : ∀ μ', sR S' μ' → Q (srV r) μ') : ∀ (v1 : (Nat × Nat)) (S : sS) (lv : jL) (μ : jS), jld lv 0 = some (.ref (spl 23 0 0)) → jld lv 1 = some (.ref (spl 25 v1.1 v1.2)) → sR S μ → F_117_62 G t v1 S = some (r, S') → jX G jP 117 62 lv [] μ Q := by
  intro v1 S lv μ l0 l1 R h
  unfold F_117_62 at h
  refine jX.ic (v := nI 1) (n := 1) (by rfl) (by rfl) (by decide) (?_ : jX G jP 117 63 lv [.int (nI 1)] μ Q)
  refine jX.go (by rfl) (by rfl) (by rfl) (?_ : jX G jP 117 67 lv [.int (nI 1)] μ Q)
  exact F_117_67_ok  K v1 (nI 1) _ _ _ l0 l1 R h
def F_117 (G : jG) (t : Nat) (v1 : (Nat × Nat)) (v2 : Int32) (S : sS) : Option (Unit × sS) := jif (jin (nI 0) 16) (jif (sex S.2.2.2.1 25 ((nI 0).toNatClampNeg) 0) ((F_22 G t ((nI 0).toNatClampNeg, 0) S).bind (fun q3 => bif jcmp .ne q3.1 0 then (bif jcmp .ne v2 0 then (F_117_62 G t v1 q3.2) else (bif jcmp .lt (q3.2.1 8 0 0 6) (q3.2.1 23 0 0 9) then (F_117_67 G t v1 (nI 0) q3.2) else (F_117_62 G t v1 q3.2))) else (jif (sex q3.2.2.2.2.1 25 ((nI 0).toNatClampNeg) 0) (bif jcmp .ne (q3.2.1 25 ((nI 0).toNatClampNeg) 0 4) (nI 6) then (F_117_32 G t (nI 2) q3.2) else (F_117_32 G t (nI 3) q3.2))))))
theorem F_117_ok {G : jG} {t : Nat} {v1 : (Nat × Nat)} {v2 : Int32} {S : sS} {r : Unit} {S' : sS} {μ : jS} {Q : Option Value ⊕ Nat → jS → Prop} (R : sR S μ) (h : F_117 G t v1 v2 S = some (r, S')) (K : ∀ μ', sR S' μ' → Q (srV r) μ') : jX G jP 117 0 (lv_args 0 [.ref (spl 23 0 0), .ref (spl 25 v1.1 v1.2), .int v2]) [] μ Q := by
  unfold F_117 at h
  have l0 : jld (lv_args 0 [.ref (spl 23 0 0), .ref (spl 25 v1.1 v1.2), .int v2]) 0 = some (.ref (spl 23 0 0)) := by rfl
  have l1 : jld (lv_args 0 [.ref (spl 23 0 0), .ref (spl 25 v1.1 v1.2), .int v2]) 1 = some (.ref (spl 25 v1.1 v1.2)) := by rfl
  have l2 : jld (lv_args 0 [.ref (spl 23 0 0), .ref (spl 25 v1.1 v1.2), .int v2]) 2 = some (.int v2) := by rfl
  generalize lv_args 0 [.ref (spl 23 0 0), .ref (spl 25 v1.1 v1.2), .int v2] = lv at *
  refine jX.lrn l0 (by rfl) (by rfl) (?_ : jX G jP 117 1 lv [.ref (spl 23 0 0)] μ Q)
  refine jX.sg R (by rfl) (by rfl) (by rfl) (by rfl) (by rfl) (by rfl) (?_ : jX G jP 117 4 lv [.ref (spl 8 0 0)] μ Q)
  refine jX.sg R (by rfl) (by rfl) (by rfl) (by rfl) (by rfl) (by rfl) (?_ : jX G jP 117 7 lv [.ref (spl 9 0 0)] μ Q)
  refine jX.ic (v := nI 0) (n := 1) (by rfl) (by rfl) (by decide) (?_ : jX G jP 117 8 lv [.int (nI 0), .ref (spl 9 0 0)] μ Q)
  obtain ⟨g1, h⟩ := jif_some h
  refine jX.sar (f := fun q => bif Nat.blt q 16 then some (spl 25 q 0) else none) R (by rfl) (by rfl) (by rfl) (by rfl) g1 (srf_in g1) (?_ : jX G jP 117 9 lv [.ref (spl 25 ((nI 0).toNatClampNeg) 0)] μ Q)
  refine jX.s1 (k := 3) (pc' := 10) (by rfl) (by rfl) (by rfl) (fun lv l3 kp => (?_ : jX G jP 117 10 lv [] μ Q))
  replace l0 := kp 0 _ l0 (by rfl) (by first | rfl | simp [soR_cat])
  replace l1 := kp 1 _ l1 (by rfl) (by first | rfl | simp [soR_cat])
  replace l2 := kp 2 _ l2 (by rfl) (by first | rfl | simp [soR_cat])
  refine jX.lrn l3 (by rfl) (by rfl) (?_ : jX G jP 117 11 lv [.ref (spl 25 ((nI 0).toNatClampNeg) 0)] μ Q)
  obtain ⟨g2, h⟩ := jif_some h
  obtain ⟨q3, e3, h⟩ := sbd h
  refine jX.c1 (v := .int q3.1) (by rfl) (by rfl) (by rfl) (by rfl) (by rfl) (by rfl) (by rfl) (R.rec g2 (by rfl)) (Nat.le_of_ble_eq_true rfl) (Nat.le_of_ble_eq_true rfl) (F_22_ok R e3 (fun μ R => ⟨rfl, (?_ : jX G jP 117 14 lv [.int q3.1] μ Q)⟩))
  rcases bif_or h with ⟨hc, h⟩ | ⟨hc, h⟩
  · refine jX.b1t hc (by rfl) (by rfl) (by rfl) (?_ : jX G jP 117 44 lv [] μ Q)
    refine jX.lin l2 (by rfl) (by rfl) (?_ : jX G jP 117 45 lv [.int v2] μ Q)
    rcases bif_or h with ⟨hc, h⟩ | ⟨hc, h⟩
    · refine jX.b1t hc (by rfl) (by rfl) (by rfl) (?_ : jX G jP 117 62 lv [] μ Q)
      exact F_117_62_ok  K v1 _ _ _ l0 l1 R h
    · refine jX.b1f hc (by rfl) (by rfl) (by rfl) (?_ : jX G jP 117 48 lv [] μ Q)
      refine jX.lrn l0 (by rfl) (by rfl) (?_ : jX G jP 117 49 lv [.ref (spl 23 0 0)] μ Q)
      refine jX.sg R (by rfl) (by rfl) (by rfl) (by rfl) (by rfl) (by rfl) (?_ : jX G jP 117 52 lv [.ref (spl 8 0 0)] μ Q)
      refine jX.sg R (by rfl) (by rfl) (by rfl) (by rfl) (by rfl) (by rfl) (?_ : jX G jP 117 55 lv [.int (q3.2.1 8 0 0 6)] μ Q)
      refine jX.lrn l0 (by rfl) (by rfl) (?_ : jX G jP 117 56 lv [.ref (spl 23 0 0), .int (q3.2.1 8 0 0 6)] μ Q)
      refine jX.sg R (by rfl) (by rfl) (by rfl) (by rfl) (by rfl) (by rfl) (?_ : jX G jP 117 59 lv [.int (q3.2.1 23 0 0 9), .int (q3.2.1 8 0 0 6)] μ Q)
      rcases bif_or h with ⟨hc, h⟩ | ⟨hc, h⟩
      · refine jX.b2t hc (by rfl) (by rfl) (by rfl) (?_ : jX G jP 117 66 lv [] μ Q)
        refine jX.ic (v := nI 0) (n := 1) (by rfl) (by rfl) (by decide) (?_ : jX G jP 117 67 lv [.int (nI 0)] μ Q)
        exact F_117_67_ok  K v1 (nI 0) _ _ _ l0 l1 R h
      · refine jX.b2f hc (by rfl) (by rfl) (by rfl) (?_ : jX G jP 117 62 lv [] μ Q)
        exact F_117_62_ok  K v1 _ _ _ l0 l1 R h
  · refine jX.b1f hc (by rfl) (by rfl) (by rfl) (?_ : jX G jP 117 17 lv [] μ Q)
    refine jX.lrn l0 (by rfl) (by rfl) (?_ : jX G jP 117 18 lv [.ref (spl 23 0 0)] μ Q)
    refine jX.lrn l3 (by rfl) (by rfl) (?_ : jX G jP 117 19 lv [.ref (spl 25 ((nI 0).toNatClampNeg) 0), .ref (spl 23 0 0)] μ Q)
    obtain ⟨g4, h⟩ := jif_some h
    refine jX.sg R g4 (by rfl) (by rfl) (by rfl) (by rfl) (by rfl) (?_ : jX G jP 117 22 lv [.int (q3.2.1 25 ((nI 0).toNatClampNeg) 0 4), .ref (spl 23 0 0)] μ Q)
    refine jX.ic (v := nI 6) (n := 2) (by rfl) (by rfl) (by decide) (?_ : jX G jP 117 24 lv [.int (nI 6), .int (q3.2.1 25 ((nI 0).toNatClampNeg) 0 4), .ref (spl 23 0 0)] μ Q)
    rcases bif_or h with ⟨hc, h⟩ | ⟨hc, h⟩
    · refine jX.b2t hc (by rfl) (by rfl) (by rfl) (?_ : jX G jP 117 31 lv [.ref (spl 23 0 0)] μ Q)
      refine jX.ic (v := nI 2) (n := 1) (by rfl) (by rfl) (by decide) (?_ : jX G jP 117 32 lv [.int (nI 2), .ref (spl 23 0 0)] μ Q)
      exact F_117_32_ok  K (nI 2) _ _ _ l0 R h
    · refine jX.b2f hc (by rfl) (by rfl) (by rfl) (?_ : jX G jP 117 27 lv [.ref (spl 23 0 0)] μ Q)
      refine jX.ic (v := nI 3) (n := 1) (by rfl) (by rfl) (by decide) (?_ : jX G jP 117 28 lv [.int (nI 3), .ref (spl 23 0 0)] μ Q)
      refine jX.go (by rfl) (by rfl) (by rfl) (?_ : jX G jP 117 32 lv [.int (nI 3), .ref (spl 23 0 0)] μ Q)
      exact F_117_32_ok  K (nI 3) _ _ _ l0 R h
/-! 118 StrandRuntime$Heap.sweepOne()V -/
def F_118_56 (G : jG) (t : Nat) (S : sS) : Option (Unit × sS) := bif jcmp .lt (S.1 11 0 0 12) (nI 600) then (some ((), S)) else (some ((), (siI S 11 0 0 11 (nI 0))))
theorem F_118_56_ok {G : jG} {t : Nat} {r : Unit} {S' : sS} {Q : Option Value ⊕ Nat → jS → Prop} (K : ∀ μ', sR S' μ' → Q (srV r) μ') : ∀ (S : sS) (lv : jL) (μ : jS), jld lv 0 = some (.ref (spl 11 0 0)) → sR S μ → F_118_56 G t S = some (r, S') → jX G jP 118 56 lv [] μ Q := by
  intro S lv μ l0 R h
  unfold F_118_56 at h
  refine jX.lrn l0 (by rfl) (by rfl) (?_ : jX G jP 118 57 lv [.ref (spl 11 0 0)] μ Q)
  refine jX.sg R (by rfl) (by rfl) (by rfl) (by rfl) (by rfl) (by rfl) (?_ : jX G jP 118 60 lv [.int (S.1 11 0 0 12)] μ Q)
  refine jX.ic (v := nI 600) (n := 3) (by rfl) (by rfl) (by decide) (?_ : jX G jP 118 63 lv [.int (nI 600), .int (S.1 11 0 0 12)] μ Q)
  rcases bif_or h with ⟨hc, h⟩ | ⟨hc, h⟩
  · refine jX.b2t hc (by rfl) (by rfl) (by rfl) (?_ : jX G jP 118 71 lv [] μ Q)
    exact jX.ret (by rfl) (by rfl) (by rfl) (by rfl) (sretv (f := srV) h K R)
  · refine jX.b2f hc (by rfl) (by rfl) (by rfl) (?_ : jX G jP 118 66 lv [] μ Q)
    refine jX.lrn l0 (by rfl) (by rfl) (?_ : jX G jP 118 67 lv [.ref (spl 11 0 0)] μ Q)
    refine jX.ic (v := nI 0) (n := 1) (by rfl) (by rfl) (by decide) (?_ : jX G jP 118 68 lv [.int (nI 0), .ref (spl 11 0 0)] μ Q)
    refine jX.spI R (by rfl) (by rfl) (by rfl) (by rfl) (by rfl) (by rfl) (by rfl) (by rfl) (by rfl) (fun μ R => (?_ : jX G jP 118 71 lv [] μ Q))
    exact jX.ret (by rfl) (by rfl) (by rfl) (by rfl) (sretv (f := srV) h K R)
def F_118_33 (G : jG) (t : Nat) (S : sS) : Option (Unit × sS) := jif (jin (S.1 11 0 0 12) 600) (F_118_56 G t (siI (siI S 16 0 0 (S.1 11 0 0 12).toNatClampNeg (nI 0)) 11 0 0 12 (((siI S 16 0 0 (S.1 11 0 0 12).toNatClampNeg (nI 0)).1 11 0 0 12) + (nI 1))))
theorem F_118_33_ok {G : jG} {t : Nat} {r : Unit} {S' : sS} {Q : Option Value ⊕ Nat → jS → Prop} (K : ∀ μ', sR S' μ' → Q (srV r) μ') : ∀ (S : sS) (lv : jL) (μ : jS), jld lv 0 = some (.ref (spl 11 0 0)) → sR S μ → F_118_33 G t S = some (r, S') → jX G jP 118 33 lv [] μ Q := by
  intro S lv μ l0 R h
  unfold F_118_33 at h
  refine jX.lrn l0 (by rfl) (by rfl) (?_ : jX G jP 118 34 lv [.ref (spl 11 0 0)] μ Q)
  refine jX.sg R (by rfl) (by rfl) (by rfl) (by rfl) (by rfl) (by rfl) (?_ : jX G jP 118 37 lv [.ref (spl 15 0 0)] μ Q)
  refine jX.sg R (by rfl) (by rfl) (by rfl) (by rfl) (by rfl) (by rfl) (?_ : jX G jP 118 40 lv [.ref (spl 16 0 0)] μ Q)
  refine jX.lrn l0 (by rfl) (by rfl) (?_ : jX G jP 118 41 lv [.ref (spl 11 0 0), .ref (spl 16 0 0)] μ Q)
  refine jX.sg R (by rfl) (by rfl) (by rfl) (by rfl) (by rfl) (by rfl) (?_ : jX G jP 118 44 lv [.int (S.1 11 0 0 12), .ref (spl 16 0 0)] μ Q)
  refine jX.ic (v := nI 0) (n := 1) (by rfl) (by rfl) (by decide) (?_ : jX G jP 118 45 lv [.int (nI 0), .int (S.1 11 0 0 12), .ref (spl 16 0 0)] μ Q)
  obtain ⟨g1, h⟩ := jif_some h
  refine jX.sti R (by rfl) (by rfl) (by rfl) (fun _ => by rfl) g1 (fun μ R => (?_ : jX G jP 118 46 lv [] μ Q))
  refine jX.lrn l0 (by rfl) (by rfl) (?_ : jX G jP 118 47 lv [.ref (spl 11 0 0)] μ Q)
  refine jX.go (by rfl) (by rfl) (by rfl) (?_ : jX G jP 118 48 lv [.ref (spl 11 0 0), .ref (spl 11 0 0)] μ Q)
  refine jX.sg R (by rfl) (by rfl) (by rfl) (by rfl) (by rfl) (by rfl) (?_ : jX G jP 118 51 lv [.int ((siI S 16 0 0 (S.1 11 0 0 12).toNatClampNeg (nI 0)).1 11 0 0 12), .ref (spl 11 0 0)] μ Q)
  refine jX.ic (v := nI 1) (n := 1) (by rfl) (by rfl) (by decide) (?_ : jX G jP 118 52 lv [.int (nI 1), .int ((siI S 16 0 0 (S.1 11 0 0 12).toNatClampNeg (nI 0)).1 11 0 0 12), .ref (spl 11 0 0)] μ Q)
  refine jX.go (by rfl) (by rfl) (by rfl) (?_ : jX G jP 118 53 lv [.int (((siI S 16 0 0 (S.1 11 0 0 12).toNatClampNeg (nI 0)).1 11 0 0 12) + (nI 1)), .ref (spl 11 0 0)] μ Q)
  refine jX.spI R (by rfl) (by rfl) (by rfl) (by rfl) (by rfl) (by rfl) (by rfl) (by rfl) (by rfl) (fun μ R => (?_ : jX G jP 118 56 lv [] μ Q))
  exact F_118_56_ok  K  _ _ _ l0 R h
def F_118 (G : jG) (t : Nat) (S : sS) : Option (Unit × sS) := bif jcmp .ge (S.1 11 0 0 12) (nI 600) then (F_118_56 G t S) else (jif (jin (S.1 11 0 0 12) 600) (bif jcmp .ne (S.1 16 0 0 (S.1 11 0 0 12).toNatClampNeg) 0 then (F_118_33 G t S) else ((F_51 G t (S.1 11 0 0 12) S).bind (fun q2 => F_118_33 G t q2.2))))
theorem F_118_ok {G : jG} {t : Nat} {S : sS} {r : Unit} {S' : sS} {μ : jS} {Q : Option Value ⊕ Nat → jS → Prop} (R : sR S μ) (h : F_118 G t S = some (r, S')) (K : ∀ μ', sR S' μ' → Q (srV r) μ') : jX G jP 118 0 (lv_args 0 [.ref (spl 11 0 0)]) [] μ Q := by
  unfold F_118 at h
  have l0 : jld (lv_args 0 [.ref (spl 11 0 0)]) 0 = some (.ref (spl 11 0 0)) := by rfl
  generalize lv_args 0 [.ref (spl 11 0 0)] = lv at *
  refine jX.lrn l0 (by rfl) (by rfl) (?_ : jX G jP 118 1 lv [.ref (spl 11 0 0)] μ Q)
  refine jX.sg R (by rfl) (by rfl) (by rfl) (by rfl) (by rfl) (by rfl) (?_ : jX G jP 118 4 lv [.int (S.1 11 0 0 12)] μ Q)
  refine jX.ic (v := nI 600) (n := 3) (by rfl) (by rfl) (by decide) (?_ : jX G jP 118 7 lv [.int (nI 600), .int (S.1 11 0 0 12)] μ Q)
  rcases bif_or h with ⟨hc, h⟩ | ⟨hc, h⟩
  · refine jX.b2t hc (by rfl) (by rfl) (by rfl) (?_ : jX G jP 118 56 lv [] μ Q)
    exact F_118_56_ok  K  _ _ _ l0 R h
  · refine jX.b2f hc (by rfl) (by rfl) (by rfl) (?_ : jX G jP 118 10 lv [] μ Q)
    refine jX.lrn l0 (by rfl) (by rfl) (?_ : jX G jP 118 11 lv [.ref (spl 11 0 0)] μ Q)
    refine jX.sg R (by rfl) (by rfl) (by rfl) (by rfl) (by rfl) (by rfl) (?_ : jX G jP 118 14 lv [.ref (spl 15 0 0)] μ Q)
    refine jX.sg R (by rfl) (by rfl) (by rfl) (by rfl) (by rfl) (by rfl) (?_ : jX G jP 118 17 lv [.ref (spl 16 0 0)] μ Q)
    refine jX.lrn l0 (by rfl) (by rfl) (?_ : jX G jP 118 18 lv [.ref (spl 11 0 0), .ref (spl 16 0 0)] μ Q)
    refine jX.sg R (by rfl) (by rfl) (by rfl) (by rfl) (by rfl) (by rfl) (?_ : jX G jP 118 21 lv [.int (S.1 11 0 0 12), .ref (spl 16 0 0)] μ Q)
    obtain ⟨g1, h⟩ := jif_some h
    refine jX.sai R (by rfl) (by rfl) (by rfl) (by rfl) g1 (?_ : jX G jP 118 22 lv [.int (S.1 16 0 0 (S.1 11 0 0 12).toNatClampNeg)] μ Q)
    rcases bif_or h with ⟨hc, h⟩ | ⟨hc, h⟩
    · refine jX.b1t hc (by rfl) (by rfl) (by rfl) (?_ : jX G jP 118 33 lv [] μ Q)
      exact F_118_33_ok  K  _ _ _ l0 R h
    · refine jX.b1f hc (by rfl) (by rfl) (by rfl) (?_ : jX G jP 118 25 lv [] μ Q)
      refine jX.lrn l0 (by rfl) (by rfl) (?_ : jX G jP 118 26 lv [.ref (spl 11 0 0)] μ Q)
      refine jX.lrn l0 (by rfl) (by rfl) (?_ : jX G jP 118 27 lv [.ref (spl 11 0 0), .ref (spl 11 0 0)] μ Q)
      refine jX.sg R (by rfl) (by rfl) (by rfl) (by rfl) (by rfl) (by rfl) (?_ : jX G jP 118 30 lv [.int (S.1 11 0 0 12), .ref (spl 11 0 0)] μ Q)
      obtain ⟨q2, e2, h⟩ := sbd h
      refine jX.cv (by rfl) (by rfl) (by rfl) (by rfl) (by rfl) (by rfl) (by rfl) (R.rec (by rfl) (by rfl)) (Nat.le_of_ble_eq_true rfl) (Nat.le_of_ble_eq_true rfl) (F_51_ok R e2 (fun μ R => ⟨rfl, (?_ : jX G jP 118 33 lv [] μ Q)⟩))
      exact F_118_33_ok  K  _ _ _ l0 R h
/-! 119 StrandRuntime$Heap.work(I)V -/
def F_119_95 (G : jG) (t : Nat) (k2 : Int32 → Int32 → sS → Option (Unit × sS)) (v1 : Int32) (v2 : Int32) (S : sS) : Option (Unit × sS) := k2 v1 (v2 + Int32.ofInt 1) S
theorem F_119_95_ok {G : jG} {t : Nat} {k2 : Int32 → Int32 → sS → Option (Unit × sS)} {r : Unit} {S' : sS} {Q : Option Value ⊕ Nat → jS → Prop} (hk2 : ∀ (v1 : Int32) (v2 : Int32) (S : sS) (lv : jL) (μ : jS), jld lv 0 = some (.ref (spl 11 0 0)) → jld lv 1 = some (.int v1) → jld lv 2 = some (.int v2) → sR S μ → k2 v1 v2 S = some (r, S') → jX G jP 119 2 lv [] μ Q) (K : ∀ μ', sR S' μ' → Q (srV r) μ') : ∀ (v1 : Int32) (v2 : Int32) (S : sS) (lv : jL) (μ : jS), jld lv 0 = some (.ref (spl 11 0 0)) → jld lv 1 = some (.int v1) → jld lv 2 = some (.int v2) → sR S μ → F_119_95 G t k2 v1 v2 S = some (r, S') → jX G jP 119 95 lv [] μ Q := by
  intro v1 v2 S lv μ l0 l1 l2 R h
  unfold F_119_95 at h
  refine jX.inc l2 (by rfl) (by rfl) (by rfl) (fun lv l2 kp => (?_ : jX G jP 119 98 lv [] μ Q))
  replace l0 := kp 0 _ l0 (by rfl) (by first | rfl | simp [soR_cat])
  replace l1 := kp 1 _ l1 (by rfl) (by first | rfl | simp [soR_cat])
  refine jX.go (by rfl) (by rfl) (by rfl) (?_ : jX G jP 119 2 lv [] μ Q)
  exact hk2 v1 (v2 + Int32.ofInt 1) _ _ _ l0 l1 l2 R h
def F_119_25 (G : jG) (t : Nat) (k2 : Int32 → Int32 → sS → Option (Unit × sS)) (v1 : Int32) (v2 : Int32) (S : sS) : Option (Unit × sS) := bif jcmp .ne (S.1 11 0 0 11) 0 then (bif jcmp .ne (S.1 11 0 0 11) (nI 2) then ((F_37 G t (0, 0) S).bind (fun q1 => bif jcmp .ne q1.1 0 then (F_119_95 G t k2 v1 v2 q1.2) else (F_119_95 G t k2 v1 v2 (siI (siI q1.2 11 0 0 11 (nI 2)) 11 0 0 12 (nI 0))))) else ((F_118 G t S).bind (fun q2 => F_119_95 G t k2 v1 v2 q2.2))) else ((F_36 G t (0, 0) (siI (siI S 11 0 0 13 (nI 0)) 11 0 0 11 (nI 1))).bind (fun q3 => F_119_95 G t k2 v1 v2 q3.2))
theorem F_119_25_ok {G : jG} {t : Nat} {k2 : Int32 → Int32 → sS → Option (Unit × sS)} {r : Unit} {S' : sS} {Q : Option Value ⊕ Nat → jS → Prop} (hk2 : ∀ (v1 : Int32) (v2 : Int32) (S : sS) (lv : jL) (μ : jS), jld lv 0 = some (.ref (spl 11 0 0)) → jld lv 1 = some (.int v1) → jld lv 2 = some (.int v2) → sR S μ → k2 v1 v2 S = some (r, S') → jX G jP 119 2 lv [] μ Q) (K : ∀ μ', sR S' μ' → Q (srV r) μ') : ∀ (v1 : Int32) (v2 : Int32) (S : sS) (lv : jL) (μ : jS), jld lv 0 = some (.ref (spl 11 0 0)) → jld lv 1 = some (.int v1) → jld lv 2 = some (.int v2) → sR S μ → F_119_25 G t k2 v1 v2 S = some (r, S') → jX G jP 119 25 lv [] μ Q := by
  intro v1 v2 S lv μ l0 l1 l2 R h
  unfold F_119_25 at h
  refine jX.lrn l0 (by rfl) (by rfl) (?_ : jX G jP 119 26 lv [.ref (spl 11 0 0)] μ Q)
  refine jX.sg R (by rfl) (by rfl) (by rfl) (by rfl) (by rfl) (by rfl) (?_ : jX G jP 119 29 lv [.int (S.1 11 0 0 11)] μ Q)
  rcases bif_or h with ⟨hc, h⟩ | ⟨hc, h⟩
  · refine jX.b1t hc (by rfl) (by rfl) (by rfl) (?_ : jX G jP 119 56 lv [] μ Q)
    refine jX.lrn l0 (by rfl) (by rfl) (?_ : jX G jP 119 57 lv [.ref (spl 11 0 0)] μ Q)
    refine jX.sg R (by rfl) (by rfl) (by rfl) (by rfl) (by rfl) (by rfl) (?_ : jX G jP 119 60 lv [.int (S.1 11 0 0 11)] μ Q)
    refine jX.ic (v := nI 2) (n := 1) (by rfl) (by rfl) (by decide) (?_ : jX G jP 119 61 lv [.int (nI 2), .int (S.1 11 0 0 11)] μ Q)
    rcases bif_or h with ⟨hc, h⟩ | ⟨hc, h⟩
    · refine jX.b2t hc (by rfl) (by rfl) (by rfl) (?_ : jX G jP 119 71 lv [] μ Q)
      refine jX.lrn l0 (by rfl) (by rfl) (?_ : jX G jP 119 72 lv [.ref (spl 11 0 0)] μ Q)
      refine jX.sg R (by rfl) (by rfl) (by rfl) (by rfl) (by rfl) (by rfl) (?_ : jX G jP 119 75 lv [.ref (spl 15 0 0)] μ Q)
      refine jX.lrn l0 (by rfl) (by rfl) (?_ : jX G jP 119 76 lv [.ref (spl 11 0 0), .ref (spl 15 0 0)] μ Q)
      refine jX.sg R (by rfl) (by rfl) (by rfl) (by rfl) (by rfl) (by rfl) (?_ : jX G jP 119 79 lv [.ref (spl 12 0 0), .ref (spl 15 0 0)] μ Q)
      obtain ⟨q1, e1, h⟩ := sbd h
      refine jX.c1 (v := .int q1.1) (by rfl) (by rfl) (by rfl) (by rfl) (by rfl) (by rfl) (by rfl) (R.rec (by rfl) (by rfl)) (Nat.le_of_ble_eq_true rfl) (Nat.le_of_ble_eq_true rfl) (F_37_ok R e1 (fun μ R => ⟨rfl, (?_ : jX G jP 119 82 lv [.int q1.1] μ Q)⟩))
      rcases bif_or h with ⟨hc, h⟩ | ⟨hc, h⟩
      · refine jX.b1t hc (by rfl) (by rfl) (by rfl) (?_ : jX G jP 119 95 lv [] μ Q)
        exact F_119_95_ok hk2 K v1 v2 _ _ _ l0 l1 l2 R h
      · refine jX.b1f hc (by rfl) (by rfl) (by rfl) (?_ : jX G jP 119 85 lv [] μ Q)
        refine jX.lrn l0 (by rfl) (by rfl) (?_ : jX G jP 119 86 lv [.ref (spl 11 0 0)] μ Q)
        refine jX.ic (v := nI 2) (n := 1) (by rfl) (by rfl) (by decide) (?_ : jX G jP 119 87 lv [.int (nI 2), .ref (spl 11 0 0)] μ Q)
        refine jX.spI R (by rfl) (by rfl) (by rfl) (by rfl) (by rfl) (by rfl) (by rfl) (by rfl) (by rfl) (fun μ R => (?_ : jX G jP 119 90 lv [] μ Q))
        refine jX.lrn l0 (by rfl) (by rfl) (?_ : jX G jP 119 91 lv [.ref (spl 11 0 0)] μ Q)
        refine jX.ic (v := nI 0) (n := 1) (by rfl) (by rfl) (by decide) (?_ : jX G jP 119 92 lv [.int (nI 0), .ref (spl 11 0 0)] μ Q)
        refine jX.spI R (by rfl) (by rfl) (by rfl) (by rfl) (by rfl) (by rfl) (by rfl) (by rfl) (by rfl) (fun μ R => (?_ : jX G jP 119 95 lv [] μ Q))
        exact F_119_95_ok hk2 K v1 v2 _ _ _ l0 l1 l2 R h
    · refine jX.b2f hc (by rfl) (by rfl) (by rfl) (?_ : jX G jP 119 64 lv [] μ Q)
      refine jX.lrn l0 (by rfl) (by rfl) (?_ : jX G jP 119 65 lv [.ref (spl 11 0 0)] μ Q)
      obtain ⟨q2, e2, h⟩ := sbd h
      refine jX.cv (by rfl) (by rfl) (by rfl) (by rfl) (by rfl) (by rfl) (by rfl) (R.rec (by rfl) (by rfl)) (Nat.le_of_ble_eq_true rfl) (Nat.le_of_ble_eq_true rfl) (F_118_ok R e2 (fun μ R => ⟨rfl, (?_ : jX G jP 119 68 lv [] μ Q)⟩))
      refine jX.go (by rfl) (by rfl) (by rfl) (?_ : jX G jP 119 95 lv [] μ Q)
      exact F_119_95_ok hk2 K v1 v2 _ _ _ l0 l1 l2 R h
  · refine jX.b1f hc (by rfl) (by rfl) (by rfl) (?_ : jX G jP 119 32 lv [] μ Q)
    refine jX.lrn l0 (by rfl) (by rfl) (?_ : jX G jP 119 33 lv [.ref (spl 11 0 0)] μ Q)
    refine jX.ic (v := nI 0) (n := 1) (by rfl) (by rfl) (by decide) (?_ : jX G jP 119 34 lv [.int (nI 0), .ref (spl 11 0 0)] μ Q)
    refine jX.spI R (by rfl) (by rfl) (by rfl) (by rfl) (by rfl) (by rfl) (by rfl) (by rfl) (by rfl) (fun μ R => (?_ : jX G jP 119 37 lv [] μ Q))
    refine jX.lrn l0 (by rfl) (by rfl) (?_ : jX G jP 119 38 lv [.ref (spl 11 0 0)] μ Q)
    refine jX.ic (v := nI 1) (n := 1) (by rfl) (by rfl) (by decide) (?_ : jX G jP 119 39 lv [.int (nI 1), .ref (spl 11 0 0)] μ Q)
    refine jX.spI R (by rfl) (by rfl) (by rfl) (by rfl) (by rfl) (by rfl) (by rfl) (by rfl) (by rfl) (fun μ R => (?_ : jX G jP 119 42 lv [] μ Q))
    refine jX.lrn l0 (by rfl) (by rfl) (?_ : jX G jP 119 43 lv [.ref (spl 11 0 0)] μ Q)
    refine jX.sg R (by rfl) (by rfl) (by rfl) (by rfl) (by rfl) (by rfl) (?_ : jX G jP 119 46 lv [.ref (spl 8 0 0)] μ Q)
    refine jX.lrn l0 (by rfl) (by rfl) (?_ : jX G jP 119 47 lv [.ref (spl 11 0 0), .ref (spl 8 0 0)] μ Q)
    refine jX.sg R (by rfl) (by rfl) (by rfl) (by rfl) (by rfl) (by rfl) (?_ : jX G jP 119 50 lv [.ref (spl 15 0 0), .ref (spl 8 0 0)] μ Q)
    obtain ⟨q3, e3, h⟩ := sbd h
    refine jX.cv (by rfl) (by rfl) (by rfl) (by rfl) (by rfl) (by rfl) (by rfl) (R.rec (by rfl) (by rfl)) (Nat.le_of_ble_eq_true rfl) (Nat.le_of_ble_eq_true rfl) (F_36_ok R e3 (fun μ R => ⟨rfl, (?_ : jX G jP 119 53 lv [] μ Q)⟩))
    refine jX.go (by rfl) (by rfl) (by rfl) (?_ : jX G jP 119 95 lv [] μ Q)
    exact F_119_95_ok hk2 K v1 v2 _ _ _ l0 l1 l2 R h
def F_119_2 (G : jG) (t : Nat) : Nat → Int32 → Int32 → sS → Option (Unit × sS)
  | 0 => fun _ _ _ => none
  | tt + 1 => fun v1 v2 S => bif jcmp .ge v2 v1 then (some ((), S)) else (bif jcmp .ne (S.1 11 0 0 11) 0 then (F_119_25 G t (F_119_2 G t tt) v1 v2 S) else (bif jcmp .ge (S.1 11 0 0 13) (nI 150) then (F_119_25 G t (F_119_2 G t tt) v1 v2 S) else (some ((), S))))
theorem F_119_2_ok {G : jG} {t : Nat} {r : Unit} {S' : sS} {Q : Option Value ⊕ Nat → jS → Prop} (K : ∀ μ', sR S' μ' → Q (srV r) μ') : ∀ tt : Nat, ∀ (v1 : Int32) (v2 : Int32) (S : sS) (lv : jL) (μ : jS), jld lv 0 = some (.ref (spl 11 0 0)) → jld lv 1 = some (.int v1) → jld lv 2 = some (.int v2) → sR S μ → F_119_2 G t tt v1 v2 S = some (r, S') → jX G jP 119 2 lv [] μ Q := by
  intro tt
  induction tt with
  | zero =>
    intro v1 v2 S lv μ l0 l1 l2 R h
    rw [F_119_2] at h
    cases h
  | succ tt ih =>
    intro v1 v2 S lv μ l0 l1 l2 R h
    rw [F_119_2] at h
    refine jX.lin l2 (by rfl) (by rfl) (?_ : jX G jP 119 3 lv [.int v2] μ Q)
    refine jX.lin l1 (by rfl) (by rfl) (?_ : jX G jP 119 4 lv [.int v1, .int v2] μ Q)
    rcases bif_or h with ⟨hc, h⟩ | ⟨hc, h⟩
    · refine jX.b2t hc (by rfl) (by rfl) (by rfl) (?_ : jX G jP 119 101 lv [] μ Q)
      exact jX.ret (by rfl) (by rfl) (by rfl) (by rfl) (sretv (f := srV) h K R)
    · refine jX.b2f hc (by rfl) (by rfl) (by rfl) (?_ : jX G jP 119 7 lv [] μ Q)
      refine jX.lrn l0 (by rfl) (by rfl) (?_ : jX G jP 119 8 lv [.ref (spl 11 0 0)] μ Q)
      refine jX.sg R (by rfl) (by rfl) (by rfl) (by rfl) (by rfl) (by rfl) (?_ : jX G jP 119 11 lv [.int (S.1 11 0 0 11)] μ Q)
      rcases bif_or h with ⟨hc, h⟩ | ⟨hc, h⟩
      · refine jX.b1t hc (by rfl) (by rfl) (by rfl) (?_ : jX G jP 119 25 lv [] μ Q)
        exact F_119_25_ok ih K v1 v2 _ _ _ l0 l1 l2 R h
      · refine jX.b1f hc (by rfl) (by rfl) (by rfl) (?_ : jX G jP 119 14 lv [] μ Q)
        refine jX.lrn l0 (by rfl) (by rfl) (?_ : jX G jP 119 15 lv [.ref (spl 11 0 0)] μ Q)
        refine jX.sg R (by rfl) (by rfl) (by rfl) (by rfl) (by rfl) (by rfl) (?_ : jX G jP 119 18 lv [.int (S.1 11 0 0 13)] μ Q)
        refine jX.ic (v := nI 150) (n := 3) (by rfl) (by rfl) (by decide) (?_ : jX G jP 119 21 lv [.int (nI 150), .int (S.1 11 0 0 13)] μ Q)
        rcases bif_or h with ⟨hc, h⟩ | ⟨hc, h⟩
        · refine jX.b2t hc (by rfl) (by rfl) (by rfl) (?_ : jX G jP 119 25 lv [] μ Q)
          exact F_119_25_ok ih K v1 v2 _ _ _ l0 l1 l2 R h
        · refine jX.b2f hc (by rfl) (by rfl) (by rfl) (?_ : jX G jP 119 24 lv [] μ Q)
          exact jX.ret (by rfl) (by rfl) (by rfl) (by rfl) (sretv (f := srV) h K R)
def F_119 (G : jG) (t : Nat) (v1 : Int32) (S : sS) : Option (Unit × sS) := F_119_2 G t t v1 (nI 0) S
theorem F_119_ok {G : jG} {t : Nat} {v1 : Int32} {S : sS} {r : Unit} {S' : sS} {μ : jS} {Q : Option Value ⊕ Nat → jS → Prop} (R : sR S μ) (h : F_119 G t v1 S = some (r, S')) (K : ∀ μ', sR S' μ' → Q (srV r) μ') : jX G jP 119 0 (lv_args 0 [.ref (spl 11 0 0), .int v1]) [] μ Q := by
  unfold F_119 at h
  have l0 : jld (lv_args 0 [.ref (spl 11 0 0), .int v1]) 0 = some (.ref (spl 11 0 0)) := by rfl
  have l1 : jld (lv_args 0 [.ref (spl 11 0 0), .int v1]) 1 = some (.int v1) := by rfl
  generalize lv_args 0 [.ref (spl 11 0 0), .int v1] = lv at *
  refine jX.ic (v := nI 0) (n := 1) (by rfl) (by rfl) (by decide) (?_ : jX G jP 119 1 lv [.int (nI 0)] μ Q)
  refine jX.s1 (k := 2) (pc' := 2) (by rfl) (by rfl) (by rfl) (fun lv l2 kp => (?_ : jX G jP 119 2 lv [] μ Q))
  replace l0 := kp 0 _ l0 (by rfl) (by first | rfl | simp [soR_cat])
  replace l1 := kp 1 _ l1 (by rfl) (by first | rfl | simp [soR_cat])
  exact F_119_2_ok  K _ v1 (nI 0) _ _ _ l0 l1 l2 R h
