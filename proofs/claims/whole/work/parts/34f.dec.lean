/-! printed by dec.py: what methods 182 to 189 do to the store -/
/-! 182 StrandRuntimeModel.gives(II)V -/
def F_182 (G : jG) (t : Nat) (v1 : Int32) (v2 : Int32) (S : sS) : Option (Unit × sS) := jif (jin v1 16) ((F_151 G t (v1.toNatClampNeg, 0) S).bind (fun q2 => jif (sex q2.2.2.2.2.1 54 v1.toNatClampNeg 0) (bif jcmp .ne (q2.2.1 54 v1.toNatClampNeg 0 0) (nI 2) then ((q2.1).bind (fun a4 => jif (sex q2.2.2.2.2.1 56 a4.1 a4.2) (jif (jin (q2.2.1 56 a4.1 a4.2 0) 32) (jif (jin (((q2.2.1 39 0 0 (q2.2.1 56 a4.1 a4.2 0).toNatClampNeg) + (q2.2.1 56 a4.1 a4.2 1)) - (nI 1)) 1500) ((F_173 G t (v1.toNatClampNeg, 0) v2 (nI 1) q2.2).bind (fun q8 => jif (sex q8.2.2.2.2.1 56 a4.1 a4.2) (jif (sex q8.2.2.2.2.1 58 a4.1 a4.2) (jif (jin (((q2.2.1 56 a4.1 a4.2 2) - ((nI 3) * (((q2.2.1 42 0 0 (((q2.2.1 39 0 0 (q2.2.1 56 a4.1 a4.2 0).toNatClampNeg) + (q2.2.1 56 a4.1 a4.2 1)) - (nI 1)).toNatClampNeg) &&& (nI 7)) - q8.1))) + (nI 2)) 16) (jif (sex (siI q8.2 33 0 0 33 (q8.2.1 58 a4.1 a4.2 (((q2.2.1 56 a4.1 a4.2 2) - ((nI 3) * (((q2.2.1 42 0 0 (((q2.2.1 39 0 0 (q2.2.1 56 a4.1 a4.2 0).toNatClampNeg) + (q2.2.1 56 a4.1 a4.2 1)) - (nI 1)).toNatClampNeg) &&& (nI 7)) - q8.1))) + (nI 2)).toNatClampNeg)).2.2.2.1 62 a4.1 a4.2) (jif (jin (((q2.2.1 56 a4.1 a4.2 2) - ((nI 3) * (((q2.2.1 42 0 0 (((q2.2.1 39 0 0 (q2.2.1 56 a4.1 a4.2 0).toNatClampNeg) + (q2.2.1 56 a4.1 a4.2 1)) - (nI 1)).toNatClampNeg) &&& (nI 7)) - q8.1))) + (nI 2)) 16) (some ((), (siL (siI q8.2 33 0 0 33 (q8.2.1 58 a4.1 a4.2 (((q2.2.1 56 a4.1 a4.2 2) - ((nI 3) * (((q2.2.1 42 0 0 (((q2.2.1 39 0 0 (q2.2.1 56 a4.1 a4.2 0).toNatClampNeg) + (q2.2.1 56 a4.1 a4.2 1)) - (nI 1)).toNatClampNeg) &&& (nI 7)) - q8.1))) + (nI 2)).toNatClampNeg)) 33 0 0 34 ((siI q8.2 33 0 0 33 (q8.2.1 58 a4.1 a4.2 (((q2.2.1 56 a4.1 a4.2 2) - ((nI 3) * (((q2.2.1 42 0 0 (((q2.2.1 39 0 0 (q2.2.1 56 a4.1 a4.2 0).toNatClampNeg) + (q2.2.1 56 a4.1 a4.2 1)) - (nI 1)).toNatClampNeg) &&& (nI 7)) - q8.1))) + (nI 2)).toNatClampNeg)).2.1 62 a4.1 a4.2 (((q2.2.1 56 a4.1 a4.2 2) - ((nI 3) * (((q2.2.1 42 0 0 (((q2.2.1 39 0 0 (q2.2.1 56 a4.1 a4.2 0).toNatClampNeg) + (q2.2.1 56 a4.1 a4.2 1)) - (nI 1)).toNatClampNeg) &&& (nI 7)) - q8.1))) + (nI 2)).toNatClampNeg)))))))))))))) else ((q2.1).bind (fun a14 => jif (sex q2.2.2.2.2.1 56 a14.1 a14.2) (jif (sex q2.2.2.2.2.1 58 a14.1 a14.2) (jif (jin ((q2.2.1 56 a14.1 a14.2 2) - (nI 1)) 16) (jif (sex (siI q2.2 33 0 0 33 (q2.2.1 58 a14.1 a14.2 ((q2.2.1 56 a14.1 a14.2 2) - (nI 1)).toNatClampNeg)).2.2.2.1 62 a14.1 a14.2) (jif (jin (((siI q2.2 33 0 0 33 (q2.2.1 58 a14.1 a14.2 ((q2.2.1 56 a14.1 a14.2 2) - (nI 1)).toNatClampNeg)).1 56 a14.1 a14.2 2) - (nI 1)) 16) (some ((), (siL (siI q2.2 33 0 0 33 (q2.2.1 58 a14.1 a14.2 ((q2.2.1 56 a14.1 a14.2 2) - (nI 1)).toNatClampNeg)) 33 0 0 34 ((siI q2.2 33 0 0 33 (q2.2.1 58 a14.1 a14.2 ((q2.2.1 56 a14.1 a14.2 2) - (nI 1)).toNatClampNeg)).2.1 62 a14.1 a14.2 (((siI q2.2 33 0 0 33 (q2.2.1 58 a14.1 a14.2 ((q2.2.1 56 a14.1 a14.2 2) - (nI 1)).toNatClampNeg)).1 56 a14.1 a14.2 2) - (nI 1)).toNatClampNeg)))))))))))))
theorem F_182_ok {G : jG} {t : Nat} {v1 : Int32} {v2 : Int32} {S : sS} {r : Unit} {S' : sS} {μ : jS} {Q : Option Value ⊕ Nat → jS → Prop} (R : sR S μ) (h : F_182 G t v1 v2 S = some (r, S')) (K : ∀ μ', sR S' μ' → Q (srV r) μ') : jX G jP 182 0 (lv_args 0 [.ref (spl 33 0 0), .int v1, .int v2]) [] μ Q := by
  unfold F_182 at h
  have l0 : jld (lv_args 0 [.ref (spl 33 0 0), .int v1, .int v2]) 0 = some (.ref (spl 33 0 0)) := by rfl
  have l1 : jld (lv_args 0 [.ref (spl 33 0 0), .int v1, .int v2]) 1 = some (.int v1) := by rfl
  have l2 : jld (lv_args 0 [.ref (spl 33 0 0), .int v1, .int v2]) 2 = some (.int v2) := by rfl
  generalize lv_args 0 [.ref (spl 33 0 0), .int v1, .int v2] = lv at *
  refine jX.lrn l0 (by rfl) (by rfl) (?_ : jX G jP 182 1 lv [.ref (spl 33 0 0)] μ Q)
  refine jX.sg R (by rfl) (by rfl) (by rfl) (by rfl) (by rfl) (by rfl) (?_ : jX G jP 182 4 lv [.ref (spl 35 0 0)] μ Q)
  refine jX.lin l1 (by rfl) (by rfl) (?_ : jX G jP 182 5 lv [.int v1, .ref (spl 35 0 0)] μ Q)
  obtain ⟨g1, h⟩ := jif_some h
  refine jX.sar (f := fun q => bif Nat.blt q 16 then some (spl 54 q 0) else none) R (by rfl) (by rfl) (by rfl) (by rfl) g1 (srf_in g1) (?_ : jX G jP 182 6 lv [.ref (spl 54 v1.toNatClampNeg 0)] μ Q)
  refine jX.s1 (k := 3) (pc' := 7) (by rfl) (by rfl) (by rfl) (fun lv l3 kp => (?_ : jX G jP 182 7 lv [] μ Q))
  replace l0 := kp 0 _ l0 (by rfl) (by first | rfl | simp [soR_cat])
  replace l2 := kp 2 _ l2 (by rfl) (by first | rfl | simp [soR_cat])
  refine jX.lrn l3 (by rfl) (by rfl) (?_ : jX G jP 182 8 lv [.ref (spl 54 v1.toNatClampNeg 0)] μ Q)
  obtain ⟨q2, e2, h⟩ := sbd h
  refine jX.c1 (v := soR 56 q2.1) (by rfl) (by rfl) (by rfl) (by rfl) (by rfl) (by rfl) (by rfl) (by rfl) (Nat.le_of_ble_eq_true rfl) (Nat.le_of_ble_eq_true rfl) (F_151_ok R e2 (fun μ R => ⟨rfl, (?_ : jX G jP 182 11 lv [soR 56 q2.1] μ Q)⟩))
  refine jX.so (k := 4) (pc' := 13) (by rfl) (by rfl) (fun _ => by rfl) (by rfl) (fun lv l4 kp => (?_ : jX G jP 182 13 lv [] μ Q))
  replace l0 := kp 0 _ l0 (by rfl) (by first | rfl | simp [soR_cat])
  replace l2 := kp 2 _ l2 (by rfl) (by first | rfl | simp [soR_cat])
  replace l3 := kp 3 _ l3 (by rfl) (by first | rfl | simp [soR_cat])
  refine jX.lrn l3 (by rfl) (by rfl) (?_ : jX G jP 182 14 lv [.ref (spl 54 v1.toNatClampNeg 0)] μ Q)
  obtain ⟨g3, h⟩ := jif_some h
  refine jX.sg R g3 (by rfl) (by rfl) (by rfl) (by rfl) (by rfl) (?_ : jX G jP 182 17 lv [.int (q2.2.1 54 v1.toNatClampNeg 0 0)] μ Q)
  refine jX.ic (v := nI 2) (n := 1) (by rfl) (by rfl) (by decide) (?_ : jX G jP 182 18 lv [.int (nI 2), .int (q2.2.1 54 v1.toNatClampNeg 0 0)] μ Q)
  rcases bif_or h with ⟨hc, h⟩ | ⟨hc, h⟩
  · refine jX.b2t hc (by rfl) (by rfl) (by rfl) (?_ : jX G jP 182 56 lv [] μ Q)
    refine jX.lrn l0 (by rfl) (by rfl) (?_ : jX G jP 182 57 lv [.ref (spl 33 0 0)] μ Q)
    refine jX.sg R (by rfl) (by rfl) (by rfl) (by rfl) (by rfl) (by rfl) (?_ : jX G jP 182 60 lv [.ref (spl 42 0 0)] μ Q)
    refine jX.lrn l0 (by rfl) (by rfl) (?_ : jX G jP 182 61 lv [.ref (spl 33 0 0), .ref (spl 42 0 0)] μ Q)
    refine jX.sg R (by rfl) (by rfl) (by rfl) (by rfl) (by rfl) (by rfl) (?_ : jX G jP 182 64 lv [.ref (spl 39 0 0), .ref (spl 42 0 0)] μ Q)
    refine jX.lo l4 (by rfl) (by rfl) (?_ : jX G jP 182 66 lv [soR 56 q2.1, .ref (spl 39 0 0), .ref (spl 42 0 0)] μ Q)
    obtain ⟨a4, e4, h⟩ := sbd h
    rw [soR_some (t := 56) e4]
    rw [soR_some (t := 56) e4] at l4
    obtain ⟨g5, h⟩ := jif_some h
    refine jX.sg R g5 (by rfl) (by rfl) (by rfl) (by rfl) (by rfl) (?_ : jX G jP 182 69 lv [.int (q2.2.1 56 a4.1 a4.2 0), .ref (spl 39 0 0), .ref (spl 42 0 0)] μ Q)
    obtain ⟨g6, h⟩ := jif_some h
    refine jX.sai R (by rfl) (by rfl) (by rfl) (by rfl) g6 (?_ : jX G jP 182 70 lv [.int (q2.2.1 39 0 0 (q2.2.1 56 a4.1 a4.2 0).toNatClampNeg), .ref (spl 42 0 0)] μ Q)
    refine jX.lr l4 (by rfl) (by rfl) (?_ : jX G jP 182 72 lv [.ref (spl 56 a4.1 a4.2), .int (q2.2.1 39 0 0 (q2.2.1 56 a4.1 a4.2 0).toNatClampNeg), .ref (spl 42 0 0)] μ Q)
    refine jX.sg R g5 (by rfl) (by rfl) (by rfl) (by rfl) (by rfl) (?_ : jX G jP 182 75 lv [.int (q2.2.1 56 a4.1 a4.2 1), .int (q2.2.1 39 0 0 (q2.2.1 56 a4.1 a4.2 0).toNatClampNeg), .ref (spl 42 0 0)] μ Q)
    refine jX.go (by rfl) (by rfl) (by rfl) (?_ : jX G jP 182 76 lv [.int ((q2.2.1 39 0 0 (q2.2.1 56 a4.1 a4.2 0).toNatClampNeg) + (q2.2.1 56 a4.1 a4.2 1)), .ref (spl 42 0 0)] μ Q)
    refine jX.ic (v := nI 1) (n := 1) (by rfl) (by rfl) (by decide) (?_ : jX G jP 182 77 lv [.int (nI 1), .int ((q2.2.1 39 0 0 (q2.2.1 56 a4.1 a4.2 0).toNatClampNeg) + (q2.2.1 56 a4.1 a4.2 1)), .ref (spl 42 0 0)] μ Q)
    refine jX.go (by rfl) (by rfl) (by rfl) (?_ : jX G jP 182 78 lv [.int (((q2.2.1 39 0 0 (q2.2.1 56 a4.1 a4.2 0).toNatClampNeg) + (q2.2.1 56 a4.1 a4.2 1)) - (nI 1)), .ref (spl 42 0 0)] μ Q)
    obtain ⟨g7, h⟩ := jif_some h
    refine jX.sai R (by rfl) (by rfl) (by rfl) (by rfl) g7 (?_ : jX G jP 182 79 lv [.int (q2.2.1 42 0 0 (((q2.2.1 39 0 0 (q2.2.1 56 a4.1 a4.2 0).toNatClampNeg) + (q2.2.1 56 a4.1 a4.2 1)) - (nI 1)).toNatClampNeg)] μ Q)
    refine jX.ic (v := nI 7) (n := 2) (by rfl) (by rfl) (by decide) (?_ : jX G jP 182 81 lv [.int (nI 7), .int (q2.2.1 42 0 0 (((q2.2.1 39 0 0 (q2.2.1 56 a4.1 a4.2 0).toNatClampNeg) + (q2.2.1 56 a4.1 a4.2 1)) - (nI 1)).toNatClampNeg)] μ Q)
    refine jX.go (by rfl) (by rfl) (by rfl) (?_ : jX G jP 182 82 lv [.int ((q2.2.1 42 0 0 (((q2.2.1 39 0 0 (q2.2.1 56 a4.1 a4.2 0).toNatClampNeg) + (q2.2.1 56 a4.1 a4.2 1)) - (nI 1)).toNatClampNeg) &&& (nI 7))] μ Q)
    refine jX.s1 (k := 5) (pc' := 84) (by rfl) (by rfl) (by rfl) (fun lv l5 kp => (?_ : jX G jP 182 84 lv [] μ Q))
    replace l0 := kp 0 _ l0 (by rfl) (by first | rfl | simp [soR_cat])
    replace l2 := kp 2 _ l2 (by rfl) (by first | rfl | simp [soR_cat])
    replace l3 := kp 3 _ l3 (by rfl) (by first | rfl | simp [soR_cat])
    replace l4 := kp 4 _ l4 (by rfl) (by first | rfl | simp [soR_cat])
    refine jX.lr l4 (by rfl) (by rfl) (?_ : jX G jP 182 86 lv [.ref (spl 56 a4.1 a4.2)] μ Q)
    refine jX.sg R g5 (by rfl) (by rfl) (by rfl) (by rfl) (by rfl) (?_ : jX G jP 182 89 lv [.int (q2.2.1 56 a4.1 a4.2 2)] μ Q)
    refine jX.ic (v := nI 3) (n := 1) (by rfl) (by rfl) (by decide) (?_ : jX G jP 182 90 lv [.int (nI 3), .int (q2.2.1 56 a4.1 a4.2 2)] μ Q)
    refine jX.li l5 (by rfl) (by rfl) (?_ : jX G jP 182 92 lv [.int ((q2.2.1 42 0 0 (((q2.2.1 39 0 0 (q2.2.1 56 a4.1 a4.2 0).toNatClampNeg) + (q2.2.1 56 a4.1 a4.2 1)) - (nI 1)).toNatClampNeg) &&& (nI 7)), .int (nI 3), .int (q2.2.1 56 a4.1 a4.2 2)] μ Q)
    refine jX.lrn l0 (by rfl) (by rfl) (?_ : jX G jP 182 93 lv [.ref (spl 33 0 0), .int ((q2.2.1 42 0 0 (((q2.2.1 39 0 0 (q2.2.1 56 a4.1 a4.2 0).toNatClampNeg) + (q2.2.1 56 a4.1 a4.2 1)) - (nI 1)).toNatClampNeg) &&& (nI 7)), .int (nI 3), .int (q2.2.1 56 a4.1 a4.2 2)] μ Q)
    refine jX.lrn l3 (by rfl) (by rfl) (?_ : jX G jP 182 94 lv [.ref (spl 54 v1.toNatClampNeg 0), .ref (spl 33 0 0), .int ((q2.2.1 42 0 0 (((q2.2.1 39 0 0 (q2.2.1 56 a4.1 a4.2 0).toNatClampNeg) + (q2.2.1 56 a4.1 a4.2 1)) - (nI 1)).toNatClampNeg) &&& (nI 7)), .int (nI 3), .int (q2.2.1 56 a4.1 a4.2 2)] μ Q)
    refine jX.lin l2 (by rfl) (by rfl) (?_ : jX G jP 182 95 lv [.int v2, .ref (spl 54 v1.toNatClampNeg 0), .ref (spl 33 0 0), .int ((q2.2.1 42 0 0 (((q2.2.1 39 0 0 (q2.2.1 56 a4.1 a4.2 0).toNatClampNeg) + (q2.2.1 56 a4.1 a4.2 1)) - (nI 1)).toNatClampNeg) &&& (nI 7)), .int (nI 3), .int (q2.2.1 56 a4.1 a4.2 2)] μ Q)
    refine jX.ic (v := nI 1) (n := 1) (by rfl) (by rfl) (by decide) (?_ : jX G jP 182 96 lv [.int (nI 1), .int v2, .ref (spl 54 v1.toNatClampNeg 0), .ref (spl 33 0 0), .int ((q2.2.1 42 0 0 (((q2.2.1 39 0 0 (q2.2.1 56 a4.1 a4.2 0).toNatClampNeg) + (q2.2.1 56 a4.1 a4.2 1)) - (nI 1)).toNatClampNeg) &&& (nI 7)), .int (nI 3), .int (q2.2.1 56 a4.1 a4.2 2)] μ Q)
    obtain ⟨q8, e8, h⟩ := sbd h
    refine jX.c1 (v := .int q8.1) (by rfl) (by rfl) (by rfl) (by rfl) (by rfl) (by rfl) (by rfl) (R.rec (by rfl) (by rfl)) (Nat.le_of_ble_eq_true rfl) (Nat.le_of_ble_eq_true rfl) (F_173_ok R e8 (fun μ R => ⟨rfl, (?_ : jX G jP 182 99 lv [.int q8.1, .int ((q2.2.1 42 0 0 (((q2.2.1 39 0 0 (q2.2.1 56 a4.1 a4.2 0).toNatClampNeg) + (q2.2.1 56 a4.1 a4.2 1)) - (nI 1)).toNatClampNeg) &&& (nI 7)), .int (nI 3), .int (q2.2.1 56 a4.1 a4.2 2)] μ Q)⟩))
    refine jX.go (by rfl) (by rfl) (by rfl) (?_ : jX G jP 182 100 lv [.int (((q2.2.1 42 0 0 (((q2.2.1 39 0 0 (q2.2.1 56 a4.1 a4.2 0).toNatClampNeg) + (q2.2.1 56 a4.1 a4.2 1)) - (nI 1)).toNatClampNeg) &&& (nI 7)) - q8.1), .int (nI 3), .int (q2.2.1 56 a4.1 a4.2 2)] μ Q)
    refine jX.go (by rfl) (by rfl) (by rfl) (?_ : jX G jP 182 101 lv [.int ((nI 3) * (((q2.2.1 42 0 0 (((q2.2.1 39 0 0 (q2.2.1 56 a4.1 a4.2 0).toNatClampNeg) + (q2.2.1 56 a4.1 a4.2 1)) - (nI 1)).toNatClampNeg) &&& (nI 7)) - q8.1)), .int (q2.2.1 56 a4.1 a4.2 2)] μ Q)
    refine jX.go (by rfl) (by rfl) (by rfl) (?_ : jX G jP 182 102 lv [.int ((q2.2.1 56 a4.1 a4.2 2) - ((nI 3) * (((q2.2.1 42 0 0 (((q2.2.1 39 0 0 (q2.2.1 56 a4.1 a4.2 0).toNatClampNeg) + (q2.2.1 56 a4.1 a4.2 1)) - (nI 1)).toNatClampNeg) &&& (nI 7)) - q8.1)))] μ Q)
    refine jX.ic (v := nI 2) (n := 1) (by rfl) (by rfl) (by decide) (?_ : jX G jP 182 103 lv [.int (nI 2), .int ((q2.2.1 56 a4.1 a4.2 2) - ((nI 3) * (((q2.2.1 42 0 0 (((q2.2.1 39 0 0 (q2.2.1 56 a4.1 a4.2 0).toNatClampNeg) + (q2.2.1 56 a4.1 a4.2 1)) - (nI 1)).toNatClampNeg) &&& (nI 7)) - q8.1)))] μ Q)
    refine jX.go (by rfl) (by rfl) (by rfl) (?_ : jX G jP 182 104 lv [.int (((q2.2.1 56 a4.1 a4.2 2) - ((nI 3) * (((q2.2.1 42 0 0 (((q2.2.1 39 0 0 (q2.2.1 56 a4.1 a4.2 0).toNatClampNeg) + (q2.2.1 56 a4.1 a4.2 1)) - (nI 1)).toNatClampNeg) &&& (nI 7)) - q8.1))) + (nI 2))] μ Q)
    refine jX.s1 (k := 6) (pc' := 106) (by rfl) (by rfl) (by rfl) (fun lv l6 kp => (?_ : jX G jP 182 106 lv [] μ Q))
    replace l0 := kp 0 _ l0 (by rfl) (by first | rfl | simp [soR_cat])
    replace l4 := kp 4 _ l4 (by rfl) (by first | rfl | simp [soR_cat])
    refine jX.lrn l0 (by rfl) (by rfl) (?_ : jX G jP 182 107 lv [.ref (spl 33 0 0)] μ Q)
    refine jX.lr l4 (by rfl) (by rfl) (?_ : jX G jP 182 109 lv [.ref (spl 56 a4.1 a4.2), .ref (spl 33 0 0)] μ Q)
    obtain ⟨g9, h⟩ := jif_some h
    refine jX.sg R g9 (by rfl) (by rfl) (by rfl) (by rfl) (by rfl) (?_ : jX G jP 182 112 lv [.ref (spl 58 a4.1 a4.2), .ref (spl 33 0 0)] μ Q)
    refine jX.li l6 (by rfl) (by rfl) (?_ : jX G jP 182 114 lv [.int (((q2.2.1 56 a4.1 a4.2 2) - ((nI 3) * (((q2.2.1 42 0 0 (((q2.2.1 39 0 0 (q2.2.1 56 a4.1 a4.2 0).toNatClampNeg) + (q2.2.1 56 a4.1 a4.2 1)) - (nI 1)).toNatClampNeg) &&& (nI 7)) - q8.1))) + (nI 2)), .ref (spl 58 a4.1 a4.2), .ref (spl 33 0 0)] μ Q)
    obtain ⟨g10, h⟩ := jif_some h
    obtain ⟨g11, h⟩ := jif_some h
    refine jX.sai R g10 (by rfl) (by rfl) (by rfl) g11 (?_ : jX G jP 182 115 lv [.int (q8.2.1 58 a4.1 a4.2 (((q2.2.1 56 a4.1 a4.2 2) - ((nI 3) * (((q2.2.1 42 0 0 (((q2.2.1 39 0 0 (q2.2.1 56 a4.1 a4.2 0).toNatClampNeg) + (q2.2.1 56 a4.1 a4.2 1)) - (nI 1)).toNatClampNeg) &&& (nI 7)) - q8.1))) + (nI 2)).toNatClampNeg), .ref (spl 33 0 0)] μ Q)
    refine jX.spI R (by rfl) (by rfl) (by rfl) (by rfl) (by rfl) (by rfl) (by rfl) (by rfl) (by rfl) (fun μ R => (?_ : jX G jP 182 118 lv [] μ Q))
    refine jX.lrn l0 (by rfl) (by rfl) (?_ : jX G jP 182 119 lv [.ref (spl 33 0 0)] μ Q)
    refine jX.lr l4 (by rfl) (by rfl) (?_ : jX G jP 182 121 lv [.ref (spl 56 a4.1 a4.2), .ref (spl 33 0 0)] μ Q)
    refine jX.sg R g9 (by rfl) (by rfl) (by rfl) (by rfl) (by rfl) (?_ : jX G jP 182 124 lv [.ref (spl 62 a4.1 a4.2), .ref (spl 33 0 0)] μ Q)
    refine jX.li l6 (by rfl) (by rfl) (?_ : jX G jP 182 126 lv [.int (((q2.2.1 56 a4.1 a4.2 2) - ((nI 3) * (((q2.2.1 42 0 0 (((q2.2.1 39 0 0 (q2.2.1 56 a4.1 a4.2 0).toNatClampNeg) + (q2.2.1 56 a4.1 a4.2 1)) - (nI 1)).toNatClampNeg) &&& (nI 7)) - q8.1))) + (nI 2)), .ref (spl 62 a4.1 a4.2), .ref (spl 33 0 0)] μ Q)
    obtain ⟨g12, h⟩ := jif_some h
    obtain ⟨g13, h⟩ := jif_some h
    refine jX.sal R g12 (by rfl) (by rfl) (by rfl) g13 (?_ : jX G jP 182 127 lv [.long ((siI q8.2 33 0 0 33 (q8.2.1 58 a4.1 a4.2 (((q2.2.1 56 a4.1 a4.2 2) - ((nI 3) * (((q2.2.1 42 0 0 (((q2.2.1 39 0 0 (q2.2.1 56 a4.1 a4.2 0).toNatClampNeg) + (q2.2.1 56 a4.1 a4.2 1)) - (nI 1)).toNatClampNeg) &&& (nI 7)) - q8.1))) + (nI 2)).toNatClampNeg)).2.1 62 a4.1 a4.2 (((q2.2.1 56 a4.1 a4.2 2) - ((nI 3) * (((q2.2.1 42 0 0 (((q2.2.1 39 0 0 (q2.2.1 56 a4.1 a4.2 0).toNatClampNeg) + (q2.2.1 56 a4.1 a4.2 1)) - (nI 1)).toNatClampNeg) &&& (nI 7)) - q8.1))) + (nI 2)).toNatClampNeg), .ref (spl 33 0 0)] μ Q)
    refine jX.spL R (by rfl) (by rfl) (by rfl) (by rfl) (by rfl) (by rfl) (by rfl) (by rfl) (by rfl) (fun μ R => (?_ : jX G jP 182 130 lv [] μ Q))
    exact jX.ret (by rfl) (by rfl) (by rfl) (by rfl) (sretv (f := srV) h K R)
  · refine jX.b2f hc (by rfl) (by rfl) (by rfl) (?_ : jX G jP 182 21 lv [] μ Q)
    refine jX.lrn l0 (by rfl) (by rfl) (?_ : jX G jP 182 22 lv [.ref (spl 33 0 0)] μ Q)
    refine jX.lo l4 (by rfl) (by rfl) (?_ : jX G jP 182 24 lv [soR 56 q2.1, .ref (spl 33 0 0)] μ Q)
    obtain ⟨a14, e14, h⟩ := sbd h
    rw [soR_some (t := 56) e14]
    rw [soR_some (t := 56) e14] at l4
    obtain ⟨g15, h⟩ := jif_some h
    refine jX.sg R g15 (by rfl) (by rfl) (by rfl) (by rfl) (by rfl) (?_ : jX G jP 182 27 lv [.ref (spl 58 a14.1 a14.2), .ref (spl 33 0 0)] μ Q)
    refine jX.lr l4 (by rfl) (by rfl) (?_ : jX G jP 182 29 lv [.ref (spl 56 a14.1 a14.2), .ref (spl 58 a14.1 a14.2), .ref (spl 33 0 0)] μ Q)
    refine jX.sg R g15 (by rfl) (by rfl) (by rfl) (by rfl) (by rfl) (?_ : jX G jP 182 32 lv [.int (q2.2.1 56 a14.1 a14.2 2), .ref (spl 58 a14.1 a14.2), .ref (spl 33 0 0)] μ Q)
    refine jX.ic (v := nI 1) (n := 1) (by rfl) (by rfl) (by decide) (?_ : jX G jP 182 33 lv [.int (nI 1), .int (q2.2.1 56 a14.1 a14.2 2), .ref (spl 58 a14.1 a14.2), .ref (spl 33 0 0)] μ Q)
    refine jX.go (by rfl) (by rfl) (by rfl) (?_ : jX G jP 182 34 lv [.int ((q2.2.1 56 a14.1 a14.2 2) - (nI 1)), .ref (spl 58 a14.1 a14.2), .ref (spl 33 0 0)] μ Q)
    obtain ⟨g16, h⟩ := jif_some h
    obtain ⟨g17, h⟩ := jif_some h
    refine jX.sai R g16 (by rfl) (by rfl) (by rfl) g17 (?_ : jX G jP 182 35 lv [.int (q2.2.1 58 a14.1 a14.2 ((q2.2.1 56 a14.1 a14.2 2) - (nI 1)).toNatClampNeg), .ref (spl 33 0 0)] μ Q)
    refine jX.spI R (by rfl) (by rfl) (by rfl) (by rfl) (by rfl) (by rfl) (by rfl) (by rfl) (by rfl) (fun μ R => (?_ : jX G jP 182 38 lv [] μ Q))
    refine jX.lrn l0 (by rfl) (by rfl) (?_ : jX G jP 182 39 lv [.ref (spl 33 0 0)] μ Q)
    refine jX.lr l4 (by rfl) (by rfl) (?_ : jX G jP 182 41 lv [.ref (spl 56 a14.1 a14.2), .ref (spl 33 0 0)] μ Q)
    refine jX.sg R g15 (by rfl) (by rfl) (by rfl) (by rfl) (by rfl) (?_ : jX G jP 182 44 lv [.ref (spl 62 a14.1 a14.2), .ref (spl 33 0 0)] μ Q)
    refine jX.lr l4 (by rfl) (by rfl) (?_ : jX G jP 182 46 lv [.ref (spl 56 a14.1 a14.2), .ref (spl 62 a14.1 a14.2), .ref (spl 33 0 0)] μ Q)
    refine jX.sg R g15 (by rfl) (by rfl) (by rfl) (by rfl) (by rfl) (?_ : jX G jP 182 49 lv [.int ((siI q2.2 33 0 0 33 (q2.2.1 58 a14.1 a14.2 ((q2.2.1 56 a14.1 a14.2 2) - (nI 1)).toNatClampNeg)).1 56 a14.1 a14.2 2), .ref (spl 62 a14.1 a14.2), .ref (spl 33 0 0)] μ Q)
    refine jX.ic (v := nI 1) (n := 1) (by rfl) (by rfl) (by decide) (?_ : jX G jP 182 50 lv [.int (nI 1), .int ((siI q2.2 33 0 0 33 (q2.2.1 58 a14.1 a14.2 ((q2.2.1 56 a14.1 a14.2 2) - (nI 1)).toNatClampNeg)).1 56 a14.1 a14.2 2), .ref (spl 62 a14.1 a14.2), .ref (spl 33 0 0)] μ Q)
    refine jX.go (by rfl) (by rfl) (by rfl) (?_ : jX G jP 182 51 lv [.int (((siI q2.2 33 0 0 33 (q2.2.1 58 a14.1 a14.2 ((q2.2.1 56 a14.1 a14.2 2) - (nI 1)).toNatClampNeg)).1 56 a14.1 a14.2 2) - (nI 1)), .ref (spl 62 a14.1 a14.2), .ref (spl 33 0 0)] μ Q)
    obtain ⟨g18, h⟩ := jif_some h
    obtain ⟨g19, h⟩ := jif_some h
    refine jX.sal R g18 (by rfl) (by rfl) (by rfl) g19 (?_ : jX G jP 182 52 lv [.long ((siI q2.2 33 0 0 33 (q2.2.1 58 a14.1 a14.2 ((q2.2.1 56 a14.1 a14.2 2) - (nI 1)).toNatClampNeg)).2.1 62 a14.1 a14.2 (((siI q2.2 33 0 0 33 (q2.2.1 58 a14.1 a14.2 ((q2.2.1 56 a14.1 a14.2 2) - (nI 1)).toNatClampNeg)).1 56 a14.1 a14.2 2) - (nI 1)).toNatClampNeg), .ref (spl 33 0 0)] μ Q)
    refine jX.spL R (by rfl) (by rfl) (by rfl) (by rfl) (by rfl) (by rfl) (by rfl) (by rfl) (by rfl) (fun μ R => (?_ : jX G jP 182 55 lv [] μ Q))
    exact jX.ret (by rfl) (by rfl) (by rfl) (by rfl) (sretv (f := srV) h K R)
/-! 183 StrandRuntimeModel.received(I)V -/
def F_183_59 (G : jG) (t : Nat) : Nat → Int32 → (Nat × Nat) → Int32 → Int32 → sS → Option (Unit × sS)
  | 0 => fun _ _ _ _ _ => none
  | tt + 1 => fun v1 v2 v3 v4 S => jif (sex S.2.2.2.1 51 v2.1 v2.2) (bif jcmp .ge v4 (S.1 51 v2.1 v2.2 2) then (bif jcmp .ge v3 0 then ((F_182 G t v3 v1 S).bind (fun q2 => jif (sex q2.2.2.2.2.1 51 v2.1 v2.2) (jif (sex q2.2.2.2.2.1 52 v2.1 0) (jif (jin (q2.2.1 51 v2.1 v2.2 2) 16) (jif (sex (siI q2.2 52 v2.1 0 (q2.2.1 51 v2.1 v2.2 2).toNatClampNeg (q2.2.1 33 0 0 33)).2.2.2.1 53 v2.1 0) (jif (jin ((siI q2.2 52 v2.1 0 (q2.2.1 51 v2.1 v2.2 2).toNatClampNeg (q2.2.1 33 0 0 33)).1 51 v2.1 v2.2 2) 16) ((F_179 G t v3 v1 (nI 1) (nI 0) 0 (nI 0) (siI (siL (siI q2.2 52 v2.1 0 (q2.2.1 51 v2.1 v2.2 2).toNatClampNeg (q2.2.1 33 0 0 33)) 53 v2.1 0 ((siI q2.2 52 v2.1 0 (q2.2.1 51 v2.1 v2.2 2).toNatClampNeg (q2.2.1 33 0 0 33)).1 51 v2.1 v2.2 2).toNatClampNeg ((siI q2.2 52 v2.1 0 (q2.2.1 51 v2.1 v2.2 2).toNatClampNeg (q2.2.1 33 0 0 33)).2.1 33 0 0 34)) 51 v2.1 v2.2 2 (((siL (siI q2.2 52 v2.1 0 (q2.2.1 51 v2.1 v2.2 2).toNatClampNeg (q2.2.1 33 0 0 33)) 53 v2.1 0 ((siI q2.2 52 v2.1 0 (q2.2.1 51 v2.1 v2.2 2).toNatClampNeg (q2.2.1 33 0 0 33)).1 51 v2.1 v2.2 2).toNatClampNeg ((siI q2.2 52 v2.1 0 (q2.2.1 51 v2.1 v2.2 2).toNatClampNeg (q2.2.1 33 0 0 33)).2.1 33 0 0 34)).1 51 v2.1 v2.2 2) + (nI 1)))).bind (fun q8 => some ((), q8.2))))))))) else (some ((), S))) else (jif (sex S.2.2.2.1 52 v2.1 0) (jif (jin (v4 + (nI 1)) 16) (jif (jin v4 16) (jif (sex (siI S 52 v2.1 0 v4.toNatClampNeg (S.1 52 v2.1 0 (v4 + (nI 1)).toNatClampNeg)).2.2.2.1 53 v2.1 0) (jif (jin (v4 + (nI 1)) 16) (jif (jin v4 16) (F_183_59 G t tt v1 v2 v3 (v4 + Int32.ofInt 1) (siL (siI S 52 v2.1 0 v4.toNatClampNeg (S.1 52 v2.1 0 (v4 + (nI 1)).toNatClampNeg)) 53 v2.1 0 v4.toNatClampNeg ((siI S 52 v2.1 0 v4.toNatClampNeg (S.1 52 v2.1 0 (v4 + (nI 1)).toNatClampNeg)).2.1 53 v2.1 0 (v4 + (nI 1)).toNatClampNeg))))))))))
theorem F_183_59_ok {G : jG} {t : Nat} {r : Unit} {S' : sS} {Q : Option Value ⊕ Nat → jS → Prop} (K : ∀ μ', sR S' μ' → Q (srV r) μ') : ∀ tt : Nat, ∀ (v1 : Int32) (v2 : (Nat × Nat)) (v3 : Int32) (v4 : Int32) (S : sS) (lv : jL) (μ : jS), jld lv 0 = some (.ref (spl 33 0 0)) → jld lv 1 = some (.int v1) → jld lv 2 = some (.ref (spl 51 v2.1 v2.2)) → jld lv 3 = some (.int v3) → jld lv 4 = some (.int v4) → sR S μ → F_183_59 G t tt v1 v2 v3 v4 S = some (r, S') → jX G jP 183 59 lv [] μ Q := by
  intro tt
  induction tt with
  | zero =>
    intro v1 v2 v3 v4 S lv μ l0 l1 l2 l3 l4 R h
    rw [F_183_59] at h
    cases h
  | succ tt ih =>
    intro v1 v2 v3 v4 S lv μ l0 l1 l2 l3 l4 R h
    rw [F_183_59] at h
    refine jX.li l4 (by rfl) (by rfl) (?_ : jX G jP 183 61 lv [.int v4] μ Q)
    refine jX.lrn l2 (by rfl) (by rfl) (?_ : jX G jP 183 62 lv [.ref (spl 51 v2.1 v2.2), .int v4] μ Q)
    obtain ⟨g1, h⟩ := jif_some h
    refine jX.sg R g1 (by rfl) (by rfl) (by rfl) (by rfl) (by rfl) (?_ : jX G jP 183 65 lv [.int (S.1 51 v2.1 v2.2 2), .int v4] μ Q)
    rcases bif_or h with ⟨hc, h⟩ | ⟨hc, h⟩
    · refine jX.b2t hc (by rfl) (by rfl) (by rfl) (?_ : jX G jP 183 106 lv [] μ Q)
      refine jX.lin l3 (by rfl) (by rfl) (?_ : jX G jP 183 107 lv [.int v3] μ Q)
      rcases bif_or h with ⟨hc, h⟩ | ⟨hc, h⟩
      · refine jX.b1t hc (by rfl) (by rfl) (by rfl) (?_ : jX G jP 183 111 lv [] μ Q)
        refine jX.lrn l0 (by rfl) (by rfl) (?_ : jX G jP 183 112 lv [.ref (spl 33 0 0)] μ Q)
        refine jX.lin l3 (by rfl) (by rfl) (?_ : jX G jP 183 113 lv [.int v3, .ref (spl 33 0 0)] μ Q)
        refine jX.lin l1 (by rfl) (by rfl) (?_ : jX G jP 183 114 lv [.int v1, .int v3, .ref (spl 33 0 0)] μ Q)
        obtain ⟨q2, e2, h⟩ := sbd h
        refine jX.cv (by rfl) (by rfl) (by rfl) (by rfl) (by rfl) (by rfl) (by rfl) (R.rec (by rfl) (by rfl)) (Nat.le_of_ble_eq_true rfl) (Nat.le_of_ble_eq_true rfl) (F_182_ok R e2 (fun μ R => ⟨rfl, (?_ : jX G jP 183 117 lv [] μ Q)⟩))
        refine jX.lrn l2 (by rfl) (by rfl) (?_ : jX G jP 183 118 lv [.ref (spl 51 v2.1 v2.2)] μ Q)
        obtain ⟨g3, h⟩ := jif_some h
        refine jX.sg R g3 (by rfl) (by rfl) (by rfl) (by rfl) (by rfl) (?_ : jX G jP 183 121 lv [.ref (spl 52 v2.1 0)] μ Q)
        refine jX.lrn l2 (by rfl) (by rfl) (?_ : jX G jP 183 122 lv [.ref (spl 51 v2.1 v2.2), .ref (spl 52 v2.1 0)] μ Q)
        refine jX.sg R g3 (by rfl) (by rfl) (by rfl) (by rfl) (by rfl) (?_ : jX G jP 183 125 lv [.int (q2.2.1 51 v2.1 v2.2 2), .ref (spl 52 v2.1 0)] μ Q)
        refine jX.lrn l0 (by rfl) (by rfl) (?_ : jX G jP 183 126 lv [.ref (spl 33 0 0), .int (q2.2.1 51 v2.1 v2.2 2), .ref (spl 52 v2.1 0)] μ Q)
        refine jX.sg R (by rfl) (by rfl) (by rfl) (by rfl) (by rfl) (by rfl) (?_ : jX G jP 183 129 lv [.int (q2.2.1 33 0 0 33), .int (q2.2.1 51 v2.1 v2.2 2), .ref (spl 52 v2.1 0)] μ Q)
        obtain ⟨g4, h⟩ := jif_some h
        obtain ⟨g5, h⟩ := jif_some h
        refine jX.sti R g4 (by rfl) (by rfl) (fun _ => by rfl) g5 (fun μ R => (?_ : jX G jP 183 130 lv [] μ Q))
        refine jX.lrn l2 (by rfl) (by rfl) (?_ : jX G jP 183 131 lv [.ref (spl 51 v2.1 v2.2)] μ Q)
        refine jX.sg R g3 (by rfl) (by rfl) (by rfl) (by rfl) (by rfl) (?_ : jX G jP 183 134 lv [.ref (spl 53 v2.1 0)] μ Q)
        refine jX.lrn l2 (by rfl) (by rfl) (?_ : jX G jP 183 135 lv [.ref (spl 51 v2.1 v2.2), .ref (spl 53 v2.1 0)] μ Q)
        refine jX.sg R g3 (by rfl) (by rfl) (by rfl) (by rfl) (by rfl) (?_ : jX G jP 183 138 lv [.int ((siI q2.2 52 v2.1 0 (q2.2.1 51 v2.1 v2.2 2).toNatClampNeg (q2.2.1 33 0 0 33)).1 51 v2.1 v2.2 2), .ref (spl 53 v2.1 0)] μ Q)
        refine jX.lrn l0 (by rfl) (by rfl) (?_ : jX G jP 183 139 lv [.ref (spl 33 0 0), .int ((siI q2.2 52 v2.1 0 (q2.2.1 51 v2.1 v2.2 2).toNatClampNeg (q2.2.1 33 0 0 33)).1 51 v2.1 v2.2 2), .ref (spl 53 v2.1 0)] μ Q)
        refine jX.sg R (by rfl) (by rfl) (by rfl) (by rfl) (by rfl) (by rfl) (?_ : jX G jP 183 142 lv [.long ((siI q2.2 52 v2.1 0 (q2.2.1 51 v2.1 v2.2 2).toNatClampNeg (q2.2.1 33 0 0 33)).2.1 33 0 0 34), .int ((siI q2.2 52 v2.1 0 (q2.2.1 51 v2.1 v2.2 2).toNatClampNeg (q2.2.1 33 0 0 33)).1 51 v2.1 v2.2 2), .ref (spl 53 v2.1 0)] μ Q)
        obtain ⟨g6, h⟩ := jif_some h
        obtain ⟨g7, h⟩ := jif_some h
        refine jX.stl R g6 (by rfl) (by rfl) (fun _ => by rfl) g7 (fun μ R => (?_ : jX G jP 183 143 lv [] μ Q))
        refine jX.lrn l2 (by rfl) (by rfl) (?_ : jX G jP 183 144 lv [.ref (spl 51 v2.1 v2.2)] μ Q)
        refine jX.go (by rfl) (by rfl) (by rfl) (?_ : jX G jP 183 145 lv [.ref (spl 51 v2.1 v2.2), .ref (spl 51 v2.1 v2.2)] μ Q)
        refine jX.sg R g3 (by rfl) (by rfl) (by rfl) (by rfl) (by rfl) (?_ : jX G jP 183 148 lv [.int ((siL (siI q2.2 52 v2.1 0 (q2.2.1 51 v2.1 v2.2 2).toNatClampNeg (q2.2.1 33 0 0 33)) 53 v2.1 0 ((siI q2.2 52 v2.1 0 (q2.2.1 51 v2.1 v2.2 2).toNatClampNeg (q2.2.1 33 0 0 33)).1 51 v2.1 v2.2 2).toNatClampNeg ((siI q2.2 52 v2.1 0 (q2.2.1 51 v2.1 v2.2 2).toNatClampNeg (q2.2.1 33 0 0 33)).2.1 33 0 0 34)).1 51 v2.1 v2.2 2), .ref (spl 51 v2.1 v2.2)] μ Q)
        refine jX.ic (v := nI 1) (n := 1) (by rfl) (by rfl) (by decide) (?_ : jX G jP 183 149 lv [.int (nI 1), .int ((siL (siI q2.2 52 v2.1 0 (q2.2.1 51 v2.1 v2.2 2).toNatClampNeg (q2.2.1 33 0 0 33)) 53 v2.1 0 ((siI q2.2 52 v2.1 0 (q2.2.1 51 v2.1 v2.2 2).toNatClampNeg (q2.2.1 33 0 0 33)).1 51 v2.1 v2.2 2).toNatClampNeg ((siI q2.2 52 v2.1 0 (q2.2.1 51 v2.1 v2.2 2).toNatClampNeg (q2.2.1 33 0 0 33)).2.1 33 0 0 34)).1 51 v2.1 v2.2 2), .ref (spl 51 v2.1 v2.2)] μ Q)
        refine jX.go (by rfl) (by rfl) (by rfl) (?_ : jX G jP 183 150 lv [.int (((siL (siI q2.2 52 v2.1 0 (q2.2.1 51 v2.1 v2.2 2).toNatClampNeg (q2.2.1 33 0 0 33)) 53 v2.1 0 ((siI q2.2 52 v2.1 0 (q2.2.1 51 v2.1 v2.2 2).toNatClampNeg (q2.2.1 33 0 0 33)).1 51 v2.1 v2.2 2).toNatClampNeg ((siI q2.2 52 v2.1 0 (q2.2.1 51 v2.1 v2.2 2).toNatClampNeg (q2.2.1 33 0 0 33)).2.1 33 0 0 34)).1 51 v2.1 v2.2 2) + (nI 1)), .ref (spl 51 v2.1 v2.2)] μ Q)
        refine jX.spI R g3 (by rfl) (by rfl) (by rfl) (by rfl) (by rfl) (by rfl) (by rfl) (by rfl) (fun μ R => (?_ : jX G jP 183 153 lv [] μ Q))
        refine jX.lrn l0 (by rfl) (by rfl) (?_ : jX G jP 183 154 lv [.ref (spl 33 0 0)] μ Q)
        refine jX.lin l3 (by rfl) (by rfl) (?_ : jX G jP 183 155 lv [.int v3, .ref (spl 33 0 0)] μ Q)
        refine jX.lin l1 (by rfl) (by rfl) (?_ : jX G jP 183 156 lv [.int v1, .int v3, .ref (spl 33 0 0)] μ Q)
        refine jX.ic (v := nI 1) (n := 1) (by rfl) (by rfl) (by decide) (?_ : jX G jP 183 157 lv [.int (nI 1), .int v1, .int v3, .ref (spl 33 0 0)] μ Q)
        refine jX.ic (v := nI 0) (n := 1) (by rfl) (by rfl) (by decide) (?_ : jX G jP 183 158 lv [.int (nI 0), .int (nI 1), .int v1, .int v3, .ref (spl 33 0 0)] μ Q)
        refine jX.go (by rfl) (by rfl) (by rfl) (?_ : jX G jP 183 159 lv [.long 0, .int (nI 0), .int (nI 1), .int v1, .int v3, .ref (spl 33 0 0)] μ Q)
        refine jX.ic (v := nI 0) (n := 1) (by rfl) (by rfl) (by decide) (?_ : jX G jP 183 160 lv [.int (nI 0), .long 0, .int (nI 0), .int (nI 1), .int v1, .int v3, .ref (spl 33 0 0)] μ Q)
        obtain ⟨q8, e8, h⟩ := sbd h
        refine jX.cv (by rfl) (by rfl) (by rfl) (by rfl) (by rfl) (by rfl) (by rfl) (R.rec (by rfl) (by rfl)) (Nat.le_of_ble_eq_true rfl) (Nat.le_of_ble_eq_true rfl) (F_179_ok R e8 (fun μ R => ⟨rfl, (?_ : jX G jP 183 163 lv [] μ Q)⟩))
        exact jX.ret (by rfl) (by rfl) (by rfl) (by rfl) (sretv (f := srV) h K R)
      · refine jX.b1f hc (by rfl) (by rfl) (by rfl) (?_ : jX G jP 183 110 lv [] μ Q)
        exact jX.ret (by rfl) (by rfl) (by rfl) (by rfl) (sretv (f := srV) h K R)
    · refine jX.b2f hc (by rfl) (by rfl) (by rfl) (?_ : jX G jP 183 68 lv [] μ Q)
      refine jX.lrn l2 (by rfl) (by rfl) (?_ : jX G jP 183 69 lv [.ref (spl 51 v2.1 v2.2)] μ Q)
      refine jX.sg R g1 (by rfl) (by rfl) (by rfl) (by rfl) (by rfl) (?_ : jX G jP 183 72 lv [.ref (spl 52 v2.1 0)] μ Q)
      refine jX.li l4 (by rfl) (by rfl) (?_ : jX G jP 183 74 lv [.int v4, .ref (spl 52 v2.1 0)] μ Q)
      refine jX.lrn l2 (by rfl) (by rfl) (?_ : jX G jP 183 75 lv [.ref (spl 51 v2.1 v2.2), .int v4, .ref (spl 52 v2.1 0)] μ Q)
      refine jX.sg R g1 (by rfl) (by rfl) (by rfl) (by rfl) (by rfl) (?_ : jX G jP 183 78 lv [.ref (spl 52 v2.1 0), .int v4, .ref (spl 52 v2.1 0)] μ Q)
      refine jX.li l4 (by rfl) (by rfl) (?_ : jX G jP 183 80 lv [.int v4, .ref (spl 52 v2.1 0), .int v4, .ref (spl 52 v2.1 0)] μ Q)
      refine jX.ic (v := nI 1) (n := 1) (by rfl) (by rfl) (by decide) (?_ : jX G jP 183 81 lv [.int (nI 1), .int v4, .ref (spl 52 v2.1 0), .int v4, .ref (spl 52 v2.1 0)] μ Q)
      refine jX.go (by rfl) (by rfl) (by rfl) (?_ : jX G jP 183 82 lv [.int (v4 + (nI 1)), .ref (spl 52 v2.1 0), .int v4, .ref (spl 52 v2.1 0)] μ Q)
      obtain ⟨g9, h⟩ := jif_some h
      obtain ⟨g10, h⟩ := jif_some h
      refine jX.sai R g9 (by rfl) (by rfl) (by rfl) g10 (?_ : jX G jP 183 83 lv [.int (S.1 52 v2.1 0 (v4 + (nI 1)).toNatClampNeg), .int v4, .ref (spl 52 v2.1 0)] μ Q)
      obtain ⟨g11, h⟩ := jif_some h
      refine jX.sti R g9 (by rfl) (by rfl) (fun _ => by rfl) g11 (fun μ R => (?_ : jX G jP 183 84 lv [] μ Q))
      refine jX.lrn l2 (by rfl) (by rfl) (?_ : jX G jP 183 85 lv [.ref (spl 51 v2.1 v2.2)] μ Q)
      refine jX.sg R g1 (by rfl) (by rfl) (by rfl) (by rfl) (by rfl) (?_ : jX G jP 183 88 lv [.ref (spl 53 v2.1 0)] μ Q)
      refine jX.li l4 (by rfl) (by rfl) (?_ : jX G jP 183 90 lv [.int v4, .ref (spl 53 v2.1 0)] μ Q)
      refine jX.lrn l2 (by rfl) (by rfl) (?_ : jX G jP 183 91 lv [.ref (spl 51 v2.1 v2.2), .int v4, .ref (spl 53 v2.1 0)] μ Q)
      refine jX.sg R g1 (by rfl) (by rfl) (by rfl) (by rfl) (by rfl) (?_ : jX G jP 183 94 lv [.ref (spl 53 v2.1 0), .int v4, .ref (spl 53 v2.1 0)] μ Q)
      refine jX.li l4 (by rfl) (by rfl) (?_ : jX G jP 183 96 lv [.int v4, .ref (spl 53 v2.1 0), .int v4, .ref (spl 53 v2.1 0)] μ Q)
      refine jX.ic (v := nI 1) (n := 1) (by rfl) (by rfl) (by decide) (?_ : jX G jP 183 97 lv [.int (nI 1), .int v4, .ref (spl 53 v2.1 0), .int v4, .ref (spl 53 v2.1 0)] μ Q)
      refine jX.go (by rfl) (by rfl) (by rfl) (?_ : jX G jP 183 98 lv [.int (v4 + (nI 1)), .ref (spl 53 v2.1 0), .int v4, .ref (spl 53 v2.1 0)] μ Q)
      obtain ⟨g12, h⟩ := jif_some h
      obtain ⟨g13, h⟩ := jif_some h
      refine jX.sal R g12 (by rfl) (by rfl) (by rfl) g13 (?_ : jX G jP 183 99 lv [.long ((siI S 52 v2.1 0 v4.toNatClampNeg (S.1 52 v2.1 0 (v4 + (nI 1)).toNatClampNeg)).2.1 53 v2.1 0 (v4 + (nI 1)).toNatClampNeg), .int v4, .ref (spl 53 v2.1 0)] μ Q)
      obtain ⟨g14, h⟩ := jif_some h
      refine jX.stl R g12 (by rfl) (by rfl) (fun _ => by rfl) g14 (fun μ R => (?_ : jX G jP 183 100 lv [] μ Q))
      refine jX.inc l4 (by rfl) (by rfl) (by rfl) (fun lv l4 kp => (?_ : jX G jP 183 103 lv [] μ Q))
      replace l0 := kp 0 _ l0 (by rfl) (by first | rfl | simp [soR_cat])
      replace l1 := kp 1 _ l1 (by rfl) (by first | rfl | simp [soR_cat])
      replace l2 := kp 2 _ l2 (by rfl) (by first | rfl | simp [soR_cat])
      replace l3 := kp 3 _ l3 (by rfl) (by first | rfl | simp [soR_cat])
      refine jX.go (by rfl) (by rfl) (by rfl) (?_ : jX G jP 183 59 lv [] μ Q)
      exact ih v1 v2 v3 (v4 + Int32.ofInt 1) _ _ _ l0 l1 l2 l3 l4 R h
def F_183 (G : jG) (t : Nat) (v1 : Int32) (S : sS) : Option (Unit × sS) := jif (jin v1 1300) ((F_175 G t v1 (nI 1) (siI S 33 0 0 36 (nI 1))).bind (fun q2 => jif (sex q2.2.2.2.2.1 51 v1.toNatClampNeg 0) (bif jcmp .le (q2.2.1 51 v1.toNatClampNeg 0 2) 0 then (bif jcmp .lt q2.1 0 then (some ((), (siI (siL (siI q2.2 33 0 0 35 (nI 0)) 33 0 0 37 0) 33 0 0 36 (nI 0)))) else ((F_182 G t q2.1 v1 q2.2).bind (fun q4 => (F_179 G t q2.1 v1 (nI 1) (nI 0) 0 (nI 0) (siL (siI q4.2 33 0 0 35 (q4.2.1 33 0 0 33)) 33 0 0 37 ((siI q4.2 33 0 0 35 (q4.2.1 33 0 0 33)).2.1 33 0 0 34))).bind (fun q5 => some ((), q5.2))))) else (jif (sex q2.2.2.2.2.1 52 v1.toNatClampNeg 0) (jif (jin (nI 0) 16) (jif (sex (siI q2.2 33 0 0 35 (q2.2.1 52 v1.toNatClampNeg 0 (nI 0).toNatClampNeg)).2.2.2.1 53 v1.toNatClampNeg 0) (jif (jin (nI 0) 16) (F_183_59 G t t v1 (v1.toNatClampNeg, 0) q2.1 (nI 0) (siI (siL (siI q2.2 33 0 0 35 (q2.2.1 52 v1.toNatClampNeg 0 (nI 0).toNatClampNeg)) 33 0 0 37 ((siI q2.2 33 0 0 35 (q2.2.1 52 v1.toNatClampNeg 0 (nI 0).toNatClampNeg)).2.1 53 v1.toNatClampNeg 0 (nI 0).toNatClampNeg)) 51 v1.toNatClampNeg 0 2 (((siL (siI q2.2 33 0 0 35 (q2.2.1 52 v1.toNatClampNeg 0 (nI 0).toNatClampNeg)) 33 0 0 37 ((siI q2.2 33 0 0 35 (q2.2.1 52 v1.toNatClampNeg 0 (nI 0).toNatClampNeg)).2.1 53 v1.toNatClampNeg 0 (nI 0).toNatClampNeg)).1 51 v1.toNatClampNeg 0 2) - (nI 1)))))))))))
theorem F_183_ok {G : jG} {t : Nat} {v1 : Int32} {S : sS} {r : Unit} {S' : sS} {μ : jS} {Q : Option Value ⊕ Nat → jS → Prop} (R : sR S μ) (h : F_183 G t v1 S = some (r, S')) (K : ∀ μ', sR S' μ' → Q (srV r) μ') : jX G jP 183 0 (lv_args 0 [.ref (spl 33 0 0), .int v1]) [] μ Q := by
  unfold F_183 at h
  have l0 : jld (lv_args 0 [.ref (spl 33 0 0), .int v1]) 0 = some (.ref (spl 33 0 0)) := by rfl
  have l1 : jld (lv_args 0 [.ref (spl 33 0 0), .int v1]) 1 = some (.int v1) := by rfl
  generalize lv_args 0 [.ref (spl 33 0 0), .int v1] = lv at *
  refine jX.lrn l0 (by rfl) (by rfl) (?_ : jX G jP 183 1 lv [.ref (spl 33 0 0)] μ Q)
  refine jX.sg R (by rfl) (by rfl) (by rfl) (by rfl) (by rfl) (by rfl) (?_ : jX G jP 183 4 lv [.ref (spl 34 0 0)] μ Q)
  refine jX.lin l1 (by rfl) (by rfl) (?_ : jX G jP 183 5 lv [.int v1, .ref (spl 34 0 0)] μ Q)
  obtain ⟨g1, h⟩ := jif_some h
  refine jX.sar (f := fun q => bif Nat.blt q 1300 then some (spl 51 q 0) else none) R (by rfl) (by rfl) (by rfl) (by rfl) g1 (srf_in g1) (?_ : jX G jP 183 6 lv [.ref (spl 51 v1.toNatClampNeg 0)] μ Q)
  refine jX.s1 (k := 2) (pc' := 7) (by rfl) (by rfl) (by rfl) (fun lv l2 kp => (?_ : jX G jP 183 7 lv [] μ Q))
  replace l0 := kp 0 _ l0 (by rfl) (by first | rfl | simp [soR_cat])
  replace l1 := kp 1 _ l1 (by rfl) (by first | rfl | simp [soR_cat])
  refine jX.lrn l0 (by rfl) (by rfl) (?_ : jX G jP 183 8 lv [.ref (spl 33 0 0)] μ Q)
  refine jX.ic (v := nI 1) (n := 1) (by rfl) (by rfl) (by decide) (?_ : jX G jP 183 9 lv [.int (nI 1), .ref (spl 33 0 0)] μ Q)
  refine jX.spI R (by rfl) (by rfl) (by rfl) (by rfl) (by rfl) (by rfl) (by rfl) (by rfl) (by rfl) (fun μ R => (?_ : jX G jP 183 12 lv [] μ Q))
  refine jX.lrn l0 (by rfl) (by rfl) (?_ : jX G jP 183 13 lv [.ref (spl 33 0 0)] μ Q)
  refine jX.lin l1 (by rfl) (by rfl) (?_ : jX G jP 183 14 lv [.int v1, .ref (spl 33 0 0)] μ Q)
  refine jX.ic (v := nI 1) (n := 1) (by rfl) (by rfl) (by decide) (?_ : jX G jP 183 15 lv [.int (nI 1), .int v1, .ref (spl 33 0 0)] μ Q)
  obtain ⟨q2, e2, h⟩ := sbd h
  refine jX.c1 (v := .int q2.1) (by rfl) (by rfl) (by rfl) (by rfl) (by rfl) (by rfl) (by rfl) (R.rec (by rfl) (by rfl)) (Nat.le_of_ble_eq_true rfl) (Nat.le_of_ble_eq_true rfl) (F_175_ok R e2 (fun μ R => ⟨rfl, (?_ : jX G jP 183 18 lv [.int q2.1] μ Q)⟩))
  refine jX.s1 (k := 3) (pc' := 19) (by rfl) (by rfl) (by rfl) (fun lv l3 kp => (?_ : jX G jP 183 19 lv [] μ Q))
  replace l0 := kp 0 _ l0 (by rfl) (by first | rfl | simp [soR_cat])
  replace l1 := kp 1 _ l1 (by rfl) (by first | rfl | simp [soR_cat])
  replace l2 := kp 2 _ l2 (by rfl) (by first | rfl | simp [soR_cat])
  refine jX.lrn l2 (by rfl) (by rfl) (?_ : jX G jP 183 20 lv [.ref (spl 51 v1.toNatClampNeg 0)] μ Q)
  obtain ⟨g3, h⟩ := jif_some h
  refine jX.sg R g3 (by rfl) (by rfl) (by rfl) (by rfl) (by rfl) (?_ : jX G jP 183 23 lv [.int (q2.2.1 51 v1.toNatClampNeg 0 2)] μ Q)
  rcases bif_or h with ⟨hc, h⟩ | ⟨hc, h⟩
  · refine jX.b1t hc (by rfl) (by rfl) (by rfl) (?_ : jX G jP 183 164 lv [] μ Q)
    refine jX.lin l3 (by rfl) (by rfl) (?_ : jX G jP 183 165 lv [.int q2.1] μ Q)
    rcases bif_or h with ⟨hc, h⟩ | ⟨hc, h⟩
    · refine jX.b1t hc (by rfl) (by rfl) (by rfl) (?_ : jX G jP 183 201 lv [] μ Q)
      refine jX.lrn l0 (by rfl) (by rfl) (?_ : jX G jP 183 202 lv [.ref (spl 33 0 0)] μ Q)
      refine jX.ic (v := nI 0) (n := 1) (by rfl) (by rfl) (by decide) (?_ : jX G jP 183 203 lv [.int (nI 0), .ref (spl 33 0 0)] μ Q)
      refine jX.spI R (by rfl) (by rfl) (by rfl) (by rfl) (by rfl) (by rfl) (by rfl) (by rfl) (by rfl) (fun μ R => (?_ : jX G jP 183 206 lv [] μ Q))
      refine jX.lrn l0 (by rfl) (by rfl) (?_ : jX G jP 183 207 lv [.ref (spl 33 0 0)] μ Q)
      refine jX.go (by rfl) (by rfl) (by rfl) (?_ : jX G jP 183 208 lv [.long 0, .ref (spl 33 0 0)] μ Q)
      refine jX.spL R (by rfl) (by rfl) (by rfl) (by rfl) (by rfl) (by rfl) (by rfl) (by rfl) (by rfl) (fun μ R => (?_ : jX G jP 183 211 lv [] μ Q))
      refine jX.lrn l0 (by rfl) (by rfl) (?_ : jX G jP 183 212 lv [.ref (spl 33 0 0)] μ Q)
      refine jX.ic (v := nI 0) (n := 1) (by rfl) (by rfl) (by decide) (?_ : jX G jP 183 213 lv [.int (nI 0), .ref (spl 33 0 0)] μ Q)
      refine jX.spI R (by rfl) (by rfl) (by rfl) (by rfl) (by rfl) (by rfl) (by rfl) (by rfl) (by rfl) (fun μ R => (?_ : jX G jP 183 216 lv [] μ Q))
      exact jX.ret (by rfl) (by rfl) (by rfl) (by rfl) (sretv (f := srV) h K R)
    · refine jX.b1f hc (by rfl) (by rfl) (by rfl) (?_ : jX G jP 183 168 lv [] μ Q)
      refine jX.lrn l0 (by rfl) (by rfl) (?_ : jX G jP 183 169 lv [.ref (spl 33 0 0)] μ Q)
      refine jX.lin l3 (by rfl) (by rfl) (?_ : jX G jP 183 170 lv [.int q2.1, .ref (spl 33 0 0)] μ Q)
      refine jX.lin l1 (by rfl) (by rfl) (?_ : jX G jP 183 171 lv [.int v1, .int q2.1, .ref (spl 33 0 0)] μ Q)
      obtain ⟨q4, e4, h⟩ := sbd h
      refine jX.cv (by rfl) (by rfl) (by rfl) (by rfl) (by rfl) (by rfl) (by rfl) (R.rec (by rfl) (by rfl)) (Nat.le_of_ble_eq_true rfl) (Nat.le_of_ble_eq_true rfl) (F_182_ok R e4 (fun μ R => ⟨rfl, (?_ : jX G jP 183 174 lv [] μ Q)⟩))
      refine jX.lrn l0 (by rfl) (by rfl) (?_ : jX G jP 183 175 lv [.ref (spl 33 0 0)] μ Q)
      refine jX.lrn l0 (by rfl) (by rfl) (?_ : jX G jP 183 176 lv [.ref (spl 33 0 0), .ref (spl 33 0 0)] μ Q)
      refine jX.sg R (by rfl) (by rfl) (by rfl) (by rfl) (by rfl) (by rfl) (?_ : jX G jP 183 179 lv [.int (q4.2.1 33 0 0 33), .ref (spl 33 0 0)] μ Q)
      refine jX.spI R (by rfl) (by rfl) (by rfl) (by rfl) (by rfl) (by rfl) (by rfl) (by rfl) (by rfl) (fun μ R => (?_ : jX G jP 183 182 lv [] μ Q))
      refine jX.lrn l0 (by rfl) (by rfl) (?_ : jX G jP 183 183 lv [.ref (spl 33 0 0)] μ Q)
      refine jX.lrn l0 (by rfl) (by rfl) (?_ : jX G jP 183 184 lv [.ref (spl 33 0 0), .ref (spl 33 0 0)] μ Q)
      refine jX.sg R (by rfl) (by rfl) (by rfl) (by rfl) (by rfl) (by rfl) (?_ : jX G jP 183 187 lv [.long ((siI q4.2 33 0 0 35 (q4.2.1 33 0 0 33)).2.1 33 0 0 34), .ref (spl 33 0 0)] μ Q)
      refine jX.spL R (by rfl) (by rfl) (by rfl) (by rfl) (by rfl) (by rfl) (by rfl) (by rfl) (by rfl) (fun μ R => (?_ : jX G jP 183 190 lv [] μ Q))
      refine jX.lrn l0 (by rfl) (by rfl) (?_ : jX G jP 183 191 lv [.ref (spl 33 0 0)] μ Q)
      refine jX.lin l3 (by rfl) (by rfl) (?_ : jX G jP 183 192 lv [.int q2.1, .ref (spl 33 0 0)] μ Q)
      refine jX.lin l1 (by rfl) (by rfl) (?_ : jX G jP 183 193 lv [.int v1, .int q2.1, .ref (spl 33 0 0)] μ Q)
      refine jX.ic (v := nI 1) (n := 1) (by rfl) (by rfl) (by decide) (?_ : jX G jP 183 194 lv [.int (nI 1), .int v1, .int q2.1, .ref (spl 33 0 0)] μ Q)
      refine jX.ic (v := nI 0) (n := 1) (by rfl) (by rfl) (by decide) (?_ : jX G jP 183 195 lv [.int (nI 0), .int (nI 1), .int v1, .int q2.1, .ref (spl 33 0 0)] μ Q)
      refine jX.go (by rfl) (by rfl) (by rfl) (?_ : jX G jP 183 196 lv [.long 0, .int (nI 0), .int (nI 1), .int v1, .int q2.1, .ref (spl 33 0 0)] μ Q)
      refine jX.ic (v := nI 0) (n := 1) (by rfl) (by rfl) (by decide) (?_ : jX G jP 183 197 lv [.int (nI 0), .long 0, .int (nI 0), .int (nI 1), .int v1, .int q2.1, .ref (spl 33 0 0)] μ Q)
      obtain ⟨q5, e5, h⟩ := sbd h
      refine jX.cv (by rfl) (by rfl) (by rfl) (by rfl) (by rfl) (by rfl) (by rfl) (R.rec (by rfl) (by rfl)) (Nat.le_of_ble_eq_true rfl) (Nat.le_of_ble_eq_true rfl) (F_179_ok R e5 (fun μ R => ⟨rfl, (?_ : jX G jP 183 200 lv [] μ Q)⟩))
      exact jX.ret (by rfl) (by rfl) (by rfl) (by rfl) (sretv (f := srV) h K R)
  · refine jX.b1f hc (by rfl) (by rfl) (by rfl) (?_ : jX G jP 183 26 lv [] μ Q)
    refine jX.lrn l0 (by rfl) (by rfl) (?_ : jX G jP 183 27 lv [.ref (spl 33 0 0)] μ Q)
    refine jX.lrn l2 (by rfl) (by rfl) (?_ : jX G jP 183 28 lv [.ref (spl 51 v1.toNatClampNeg 0), .ref (spl 33 0 0)] μ Q)
    refine jX.sg R g3 (by rfl) (by rfl) (by rfl) (by rfl) (by rfl) (?_ : jX G jP 183 31 lv [.ref (spl 52 v1.toNatClampNeg 0), .ref (spl 33 0 0)] μ Q)
    refine jX.ic (v := nI 0) (n := 1) (by rfl) (by rfl) (by decide) (?_ : jX G jP 183 32 lv [.int (nI 0), .ref (spl 52 v1.toNatClampNeg 0), .ref (spl 33 0 0)] μ Q)
    obtain ⟨g6, h⟩ := jif_some h
    obtain ⟨g7, h⟩ := jif_some h
    refine jX.sai R g6 (by rfl) (by rfl) (by rfl) g7 (?_ : jX G jP 183 33 lv [.int (q2.2.1 52 v1.toNatClampNeg 0 (nI 0).toNatClampNeg), .ref (spl 33 0 0)] μ Q)
    refine jX.spI R (by rfl) (by rfl) (by rfl) (by rfl) (by rfl) (by rfl) (by rfl) (by rfl) (by rfl) (fun μ R => (?_ : jX G jP 183 36 lv [] μ Q))
    refine jX.lrn l0 (by rfl) (by rfl) (?_ : jX G jP 183 37 lv [.ref (spl 33 0 0)] μ Q)
    refine jX.lrn l2 (by rfl) (by rfl) (?_ : jX G jP 183 38 lv [.ref (spl 51 v1.toNatClampNeg 0), .ref (spl 33 0 0)] μ Q)
    refine jX.sg R g3 (by rfl) (by rfl) (by rfl) (by rfl) (by rfl) (?_ : jX G jP 183 41 lv [.ref (spl 53 v1.toNatClampNeg 0), .ref (spl 33 0 0)] μ Q)
    refine jX.ic (v := nI 0) (n := 1) (by rfl) (by rfl) (by decide) (?_ : jX G jP 183 42 lv [.int (nI 0), .ref (spl 53 v1.toNatClampNeg 0), .ref (spl 33 0 0)] μ Q)
    obtain ⟨g8, h⟩ := jif_some h
    obtain ⟨g9, h⟩ := jif_some h
    refine jX.sal R g8 (by rfl) (by rfl) (by rfl) g9 (?_ : jX G jP 183 43 lv [.long ((siI q2.2 33 0 0 35 (q2.2.1 52 v1.toNatClampNeg 0 (nI 0).toNatClampNeg)).2.1 53 v1.toNatClampNeg 0 (nI 0).toNatClampNeg), .ref (spl 33 0 0)] μ Q)
    refine jX.spL R (by rfl) (by rfl) (by rfl) (by rfl) (by rfl) (by rfl) (by rfl) (by rfl) (by rfl) (fun μ R => (?_ : jX G jP 183 46 lv [] μ Q))
    refine jX.lrn l2 (by rfl) (by rfl) (?_ : jX G jP 183 47 lv [.ref (spl 51 v1.toNatClampNeg 0)] μ Q)
    refine jX.go (by rfl) (by rfl) (by rfl) (?_ : jX G jP 183 48 lv [.ref (spl 51 v1.toNatClampNeg 0), .ref (spl 51 v1.toNatClampNeg 0)] μ Q)
    refine jX.sg R g3 (by rfl) (by rfl) (by rfl) (by rfl) (by rfl) (?_ : jX G jP 183 51 lv [.int ((siL (siI q2.2 33 0 0 35 (q2.2.1 52 v1.toNatClampNeg 0 (nI 0).toNatClampNeg)) 33 0 0 37 ((siI q2.2 33 0 0 35 (q2.2.1 52 v1.toNatClampNeg 0 (nI 0).toNatClampNeg)).2.1 53 v1.toNatClampNeg 0 (nI 0).toNatClampNeg)).1 51 v1.toNatClampNeg 0 2), .ref (spl 51 v1.toNatClampNeg 0)] μ Q)
    refine jX.ic (v := nI 1) (n := 1) (by rfl) (by rfl) (by decide) (?_ : jX G jP 183 52 lv [.int (nI 1), .int ((siL (siI q2.2 33 0 0 35 (q2.2.1 52 v1.toNatClampNeg 0 (nI 0).toNatClampNeg)) 33 0 0 37 ((siI q2.2 33 0 0 35 (q2.2.1 52 v1.toNatClampNeg 0 (nI 0).toNatClampNeg)).2.1 53 v1.toNatClampNeg 0 (nI 0).toNatClampNeg)).1 51 v1.toNatClampNeg 0 2), .ref (spl 51 v1.toNatClampNeg 0)] μ Q)
    refine jX.go (by rfl) (by rfl) (by rfl) (?_ : jX G jP 183 53 lv [.int (((siL (siI q2.2 33 0 0 35 (q2.2.1 52 v1.toNatClampNeg 0 (nI 0).toNatClampNeg)) 33 0 0 37 ((siI q2.2 33 0 0 35 (q2.2.1 52 v1.toNatClampNeg 0 (nI 0).toNatClampNeg)).2.1 53 v1.toNatClampNeg 0 (nI 0).toNatClampNeg)).1 51 v1.toNatClampNeg 0 2) - (nI 1)), .ref (spl 51 v1.toNatClampNeg 0)] μ Q)
    refine jX.spI R g3 (by rfl) (by rfl) (by rfl) (by rfl) (by rfl) (by rfl) (by rfl) (by rfl) (fun μ R => (?_ : jX G jP 183 56 lv [] μ Q))
    refine jX.ic (v := nI 0) (n := 1) (by rfl) (by rfl) (by decide) (?_ : jX G jP 183 57 lv [.int (nI 0)] μ Q)
    refine jX.s1 (k := 4) (pc' := 59) (by rfl) (by rfl) (by rfl) (fun lv l4 kp => (?_ : jX G jP 183 59 lv [] μ Q))
    replace l0 := kp 0 _ l0 (by rfl) (by first | rfl | simp [soR_cat])
    replace l1 := kp 1 _ l1 (by rfl) (by first | rfl | simp [soR_cat])
    replace l2 := kp 2 _ l2 (by rfl) (by first | rfl | simp [soR_cat])
    replace l3 := kp 3 _ l3 (by rfl) (by first | rfl | simp [soR_cat])
    exact F_183_59_ok  K _ v1 (v1.toNatClampNeg, 0) q2.1 (nI 0) _ _ _ l0 l1 l2 l3 l4 R h
/-! 184 StrandRuntimeModel.receive(LStrandRuntimeModel$Strand;)V -/
def F_184_81 (G : jG) (t : Nat) (v1 : (Nat × Nat)) (S : sS) : Option (Unit × sS) := (F_177 G t v1 (nI 3) S).bind (fun q1 => some ((), q1.2))
theorem F_184_81_ok {G : jG} {t : Nat} {r : Unit} {S' : sS} {Q : Option Value ⊕ Nat → jS → Prop} (K : ∀ μ', sR S' μ' → Q (srV r) μ') : ∀ (v1 : (Nat × Nat)) (S : sS) (lv : jL) (μ : jS), jld lv 0 = some (.ref (spl 33 0 0)) → jld lv 1 = some (.ref (spl 54 v1.1 v1.2)) → sR S μ → F_184_81 G t v1 S = some (r, S') → jX G jP 184 81 lv [] μ Q := by
  intro v1 S lv μ l0 l1 R h
  unfold F_184_81 at h
  refine jX.lrn l0 (by rfl) (by rfl) (?_ : jX G jP 184 82 lv [.ref (spl 33 0 0)] μ Q)
  refine jX.lrn l1 (by rfl) (by rfl) (?_ : jX G jP 184 83 lv [.ref (spl 54 v1.1 v1.2), .ref (spl 33 0 0)] μ Q)
  refine jX.ic (v := nI 3) (n := 1) (by rfl) (by rfl) (by decide) (?_ : jX G jP 184 84 lv [.int (nI 3), .ref (spl 54 v1.1 v1.2), .ref (spl 33 0 0)] μ Q)
  obtain ⟨q1, e1, h⟩ := sbd h
  refine jX.cv (by rfl) (by rfl) (by rfl) (by rfl) (by rfl) (by rfl) (by rfl) (R.rec (by rfl) (by rfl)) (Nat.le_of_ble_eq_true rfl) (Nat.le_of_ble_eq_true rfl) (F_177_ok R e1 (fun μ R => ⟨rfl, (?_ : jX G jP 184 87 lv [] μ Q)⟩))
  refine jX.go (by rfl) (by rfl) (by rfl) (?_ : jX G jP 184 131 lv [] μ Q)
  exact jX.ret (by rfl) (by rfl) (by rfl) (by rfl) (sretv (f := srV) h K R)
def F_184_66 (G : jG) (t : Nat) (v1 : (Nat × Nat)) (v3 : Int32) (v4 : Int32) (S : sS) : Option (Unit × sS) := bif jcmp .eq v3 (nI 1) then (F_184_81 G t v1 S) else ((F_176 G t v4 (nI 0) S).bind (fun q1 => bif jcmp .ne q1.1 0 then ((F_156 G t v1 (nI 1) q1.2).bind (fun q2 => (F_183 G t v4 q2.2).bind (fun q3 => (F_157 G t v1 (q3.2.1 33 0 0 35) (q3.2.2.1 33 0 0 37) q3.2).bind (fun q4 => bif jcmp .eq q4.1 0 then (some ((), q4.2)) else ((F_157 G t v1 (nI 0) ((q4.2.1 33 0 0 36).toInt64) q4.2).bind (fun q5 => some ((), q5.2))))))) else (F_184_81 G t v1 q1.2)))
theorem F_184_66_ok {G : jG} {t : Nat} {r : Unit} {S' : sS} {Q : Option Value ⊕ Nat → jS → Prop} (K : ∀ μ', sR S' μ' → Q (srV r) μ') : ∀ (v1 : (Nat × Nat)) (v3 : Int32) (v4 : Int32) (S : sS) (lv : jL) (μ : jS), jld lv 0 = some (.ref (spl 33 0 0)) → jld lv 1 = some (.ref (spl 54 v1.1 v1.2)) → jld lv 3 = some (.int v3) → jld lv 4 = some (.int v4) → sR S μ → F_184_66 G t v1 v3 v4 S = some (r, S') → jX G jP 184 66 lv [] μ Q := by
  intro v1 v3 v4 S lv μ l0 l1 l3 l4 R h
  unfold F_184_66 at h
  refine jX.lin l3 (by rfl) (by rfl) (?_ : jX G jP 184 67 lv [.int v3] μ Q)
  refine jX.ic (v := nI 1) (n := 1) (by rfl) (by rfl) (by decide) (?_ : jX G jP 184 68 lv [.int (nI 1), .int v3] μ Q)
  rcases bif_or h with ⟨hc, h⟩ | ⟨hc, h⟩
  · refine jX.b2t hc (by rfl) (by rfl) (by rfl) (?_ : jX G jP 184 81 lv [] μ Q)
    exact F_184_81_ok  K v1 _ _ _ l0 l1 R h
  · refine jX.b2f hc (by rfl) (by rfl) (by rfl) (?_ : jX G jP 184 71 lv [] μ Q)
    refine jX.lrn l0 (by rfl) (by rfl) (?_ : jX G jP 184 72 lv [.ref (spl 33 0 0)] μ Q)
    refine jX.li l4 (by rfl) (by rfl) (?_ : jX G jP 184 74 lv [.int v4, .ref (spl 33 0 0)] μ Q)
    refine jX.ic (v := nI 0) (n := 1) (by rfl) (by rfl) (by decide) (?_ : jX G jP 184 75 lv [.int (nI 0), .int v4, .ref (spl 33 0 0)] μ Q)
    obtain ⟨q1, e1, h⟩ := sbd h
    refine jX.c1 (v := .int q1.1) (by rfl) (by rfl) (by rfl) (by rfl) (by rfl) (by rfl) (by rfl) (R.rec (by rfl) (by rfl)) (Nat.le_of_ble_eq_true rfl) (Nat.le_of_ble_eq_true rfl) (F_176_ok R e1 (fun μ R => ⟨rfl, (?_ : jX G jP 184 78 lv [.int q1.1] μ Q)⟩))
    rcases bif_or h with ⟨hc, h⟩ | ⟨hc, h⟩
    · refine jX.b1t hc (by rfl) (by rfl) (by rfl) (?_ : jX G jP 184 90 lv [] μ Q)
      refine jX.lrn l0 (by rfl) (by rfl) (?_ : jX G jP 184 91 lv [.ref (spl 33 0 0)] μ Q)
      refine jX.lrn l1 (by rfl) (by rfl) (?_ : jX G jP 184 92 lv [.ref (spl 54 v1.1 v1.2), .ref (spl 33 0 0)] μ Q)
      refine jX.ic (v := nI 1) (n := 1) (by rfl) (by rfl) (by decide) (?_ : jX G jP 184 93 lv [.int (nI 1), .ref (spl 54 v1.1 v1.2), .ref (spl 33 0 0)] μ Q)
      obtain ⟨q2, e2, h⟩ := sbd h
      refine jX.c1 (v := .int q2.1) (by rfl) (by rfl) (by rfl) (by rfl) (by rfl) (by rfl) (by rfl) (R.rec (by rfl) (by rfl)) (Nat.le_of_ble_eq_true rfl) (Nat.le_of_ble_eq_true rfl) (F_156_ok R e2 (fun μ R => ⟨rfl, (?_ : jX G jP 184 96 lv [.int q2.1] μ Q)⟩))
      refine jX.go (by rfl) (by rfl) (by rfl) (?_ : jX G jP 184 97 lv [] μ Q)
      refine jX.lrn l0 (by rfl) (by rfl) (?_ : jX G jP 184 98 lv [.ref (spl 33 0 0)] μ Q)
      refine jX.li l4 (by rfl) (by rfl) (?_ : jX G jP 184 100 lv [.int v4, .ref (spl 33 0 0)] μ Q)
      obtain ⟨q3, e3, h⟩ := sbd h
      refine jX.cv (by rfl) (by rfl) (by rfl) (by rfl) (by rfl) (by rfl) (by rfl) (R.rec (by rfl) (by rfl)) (Nat.le_of_ble_eq_true rfl) (Nat.le_of_ble_eq_true rfl) (F_183_ok R e3 (fun μ R => ⟨rfl, (?_ : jX G jP 184 103 lv [] μ Q)⟩))
      refine jX.lrn l0 (by rfl) (by rfl) (?_ : jX G jP 184 104 lv [.ref (spl 33 0 0)] μ Q)
      refine jX.lrn l1 (by rfl) (by rfl) (?_ : jX G jP 184 105 lv [.ref (spl 54 v1.1 v1.2), .ref (spl 33 0 0)] μ Q)
      refine jX.lrn l0 (by rfl) (by rfl) (?_ : jX G jP 184 106 lv [.ref (spl 33 0 0), .ref (spl 54 v1.1 v1.2), .ref (spl 33 0 0)] μ Q)
      refine jX.sg R (by rfl) (by rfl) (by rfl) (by rfl) (by rfl) (by rfl) (?_ : jX G jP 184 109 lv [.int (q3.2.1 33 0 0 35), .ref (spl 54 v1.1 v1.2), .ref (spl 33 0 0)] μ Q)
      refine jX.lrn l0 (by rfl) (by rfl) (?_ : jX G jP 184 110 lv [.ref (spl 33 0 0), .int (q3.2.1 33 0 0 35), .ref (spl 54 v1.1 v1.2), .ref (spl 33 0 0)] μ Q)
      refine jX.sg R (by rfl) (by rfl) (by rfl) (by rfl) (by rfl) (by rfl) (?_ : jX G jP 184 113 lv [.long (q3.2.2.1 33 0 0 37), .int (q3.2.1 33 0 0 35), .ref (spl 54 v1.1 v1.2), .ref (spl 33 0 0)] μ Q)
      obtain ⟨q4, e4, h⟩ := sbd h
      refine jX.c1 (v := .int q4.1) (by rfl) (by rfl) (by rfl) (by rfl) (by rfl) (by rfl) (by rfl) (R.rec (by rfl) (by rfl)) (Nat.le_of_ble_eq_true rfl) (Nat.le_of_ble_eq_true rfl) (F_157_ok R e4 (fun μ R => ⟨rfl, (?_ : jX G jP 184 116 lv [.int q4.1] μ Q)⟩))
      rcases bif_or h with ⟨hc, h⟩ | ⟨hc, h⟩
      · refine jX.b1t hc (by rfl) (by rfl) (by rfl) (?_ : jX G jP 184 131 lv [] μ Q)
        exact jX.ret (by rfl) (by rfl) (by rfl) (by rfl) (sretv (f := srV) h K R)
      · refine jX.b1f hc (by rfl) (by rfl) (by rfl) (?_ : jX G jP 184 119 lv [] μ Q)
        refine jX.lrn l0 (by rfl) (by rfl) (?_ : jX G jP 184 120 lv [.ref (spl 33 0 0)] μ Q)
        refine jX.lrn l1 (by rfl) (by rfl) (?_ : jX G jP 184 121 lv [.ref (spl 54 v1.1 v1.2), .ref (spl 33 0 0)] μ Q)
        refine jX.ic (v := nI 0) (n := 1) (by rfl) (by rfl) (by decide) (?_ : jX G jP 184 122 lv [.int (nI 0), .ref (spl 54 v1.1 v1.2), .ref (spl 33 0 0)] μ Q)
        refine jX.lrn l0 (by rfl) (by rfl) (?_ : jX G jP 184 123 lv [.ref (spl 33 0 0), .int (nI 0), .ref (spl 54 v1.1 v1.2), .ref (spl 33 0 0)] μ Q)
        refine jX.sg R (by rfl) (by rfl) (by rfl) (by rfl) (by rfl) (by rfl) (?_ : jX G jP 184 126 lv [.int (q4.2.1 33 0 0 36), .int (nI 0), .ref (spl 54 v1.1 v1.2), .ref (spl 33 0 0)] μ Q)
        refine jX.go (by rfl) (by rfl) (by rfl) (?_ : jX G jP 184 127 lv [.long ((q4.2.1 33 0 0 36).toInt64), .int (nI 0), .ref (spl 54 v1.1 v1.2), .ref (spl 33 0 0)] μ Q)
        obtain ⟨q5, e5, h⟩ := sbd h
        refine jX.c1 (v := .int q5.1) (by rfl) (by rfl) (by rfl) (by rfl) (by rfl) (by rfl) (by rfl) (R.rec (by rfl) (by rfl)) (Nat.le_of_ble_eq_true rfl) (Nat.le_of_ble_eq_true rfl) (F_157_ok R e5 (fun μ R => ⟨rfl, (?_ : jX G jP 184 130 lv [.int q5.1] μ Q)⟩))
        refine jX.go (by rfl) (by rfl) (by rfl) (?_ : jX G jP 184 131 lv [] μ Q)
        exact jX.ret (by rfl) (by rfl) (by rfl) (by rfl) (sretv (f := srV) h K R)
    · refine jX.b1f hc (by rfl) (by rfl) (by rfl) (?_ : jX G jP 184 81 lv [] μ Q)
      exact F_184_81_ok  K v1 _ _ _ l0 l1 R h
def F_184 (G : jG) (t : Nat) (v1 : (Nat × Nat)) (S : sS) : Option (Unit × sS) := (F_151 G t v1 S).bind (fun q1 => (q1.1).bind (fun a2 => jif (sex q1.2.2.2.2.1 56 a2.1 a2.2) (jif (sex q1.2.2.2.2.1 58 a2.1 a2.2) (jif (jin ((q1.2.1 56 a2.1 a2.2 2) - (nI 1)) 16) (jif (sex q1.2.2.2.2.1 62 a2.1 a2.2) (jif (jin ((q1.2.1 56 a2.1 a2.2 2) - (nI 1)) 16) (bif jcmp .eq (q1.2.1 58 a2.1 a2.2 ((q1.2.1 56 a2.1 a2.2 2) - (nI 1)).toNatClampNeg) (nI 1) then (F_184_66 G t v1 (q1.2.1 58 a2.1 a2.2 ((q1.2.1 56 a2.1 a2.2 2) - (nI 1)).toNatClampNeg) ((q1.2.2.1 62 a2.1 a2.2 ((q1.2.1 56 a2.1 a2.2 2) - (nI 1)).toNatClampNeg).toInt32) q1.2) else ((F_170 G t (q1.2.1 58 a2.1 a2.2 ((q1.2.1 56 a2.1 a2.2 2) - (nI 1)).toNatClampNeg) (((q1.2.2.1 62 a2.1 a2.2 ((q1.2.1 56 a2.1 a2.2 2) - (nI 1)).toNatClampNeg).toInt32).toInt64) (nI 3) q1.2).bind (fun q8 => bif jcmp .ne q8.1 0 then (F_184_66 G t v1 (q1.2.1 58 a2.1 a2.2 ((q1.2.1 56 a2.1 a2.2 2) - (nI 1)).toNatClampNeg) ((q1.2.2.1 62 a2.1 a2.2 ((q1.2.1 56 a2.1 a2.2 2) - (nI 1)).toNatClampNeg).toInt32) q8.2) else ((F_156 G t v1 (nI 1) q8.2).bind (fun q9 => (F_155 G t v1 (-2) q9.2).bind (fun q10 => some ((), q10.2)))))))))))))
theorem F_184_ok {G : jG} {t : Nat} {v1 : (Nat × Nat)} {S : sS} {r : Unit} {S' : sS} {μ : jS} {Q : Option Value ⊕ Nat → jS → Prop} (R : sR S μ) (h : F_184 G t v1 S = some (r, S')) (K : ∀ μ', sR S' μ' → Q (srV r) μ') : jX G jP 184 0 (lv_args 0 [.ref (spl 33 0 0), .ref (spl 54 v1.1 v1.2)]) [] μ Q := by
  unfold F_184 at h
  have l0 : jld (lv_args 0 [.ref (spl 33 0 0), .ref (spl 54 v1.1 v1.2)]) 0 = some (.ref (spl 33 0 0)) := by rfl
  have l1 : jld (lv_args 0 [.ref (spl 33 0 0), .ref (spl 54 v1.1 v1.2)]) 1 = some (.ref (spl 54 v1.1 v1.2)) := by rfl
  generalize lv_args 0 [.ref (spl 33 0 0), .ref (spl 54 v1.1 v1.2)] = lv at *
  refine jX.lrn l1 (by rfl) (by rfl) (?_ : jX G jP 184 1 lv [.ref (spl 54 v1.1 v1.2)] μ Q)
  obtain ⟨q1, e1, h⟩ := sbd h
  refine jX.c1 (v := soR 56 q1.1) (by rfl) (by rfl) (by rfl) (by rfl) (by rfl) (by rfl) (by rfl) (by rfl) (Nat.le_of_ble_eq_true rfl) (Nat.le_of_ble_eq_true rfl) (F_151_ok R e1 (fun μ R => ⟨rfl, (?_ : jX G jP 184 4 lv [soR 56 q1.1] μ Q)⟩))
  refine jX.so (k := 2) (pc' := 5) (by rfl) (by rfl) (fun _ => by rfl) (by rfl) (fun lv l2 kp => (?_ : jX G jP 184 5 lv [] μ Q))
  replace l0 := kp 0 _ l0 (by rfl) (by first | rfl | simp [soR_cat])
  replace l1 := kp 1 _ l1 (by rfl) (by first | rfl | simp [soR_cat])
  refine jX.lon l2 (by rfl) (by rfl) (?_ : jX G jP 184 6 lv [soR 56 q1.1] μ Q)
  obtain ⟨a2, e2, h⟩ := sbd h
  rw [soR_some (t := 56) e2]
  rw [soR_some (t := 56) e2] at l2
  obtain ⟨g3, h⟩ := jif_some h
  refine jX.sg R g3 (by rfl) (by rfl) (by rfl) (by rfl) (by rfl) (?_ : jX G jP 184 9 lv [.ref (spl 58 a2.1 a2.2)] μ Q)
  refine jX.lrn l2 (by rfl) (by rfl) (?_ : jX G jP 184 10 lv [.ref (spl 56 a2.1 a2.2), .ref (spl 58 a2.1 a2.2)] μ Q)
  refine jX.sg R g3 (by rfl) (by rfl) (by rfl) (by rfl) (by rfl) (?_ : jX G jP 184 13 lv [.int (q1.2.1 56 a2.1 a2.2 2), .ref (spl 58 a2.1 a2.2)] μ Q)
  refine jX.ic (v := nI 1) (n := 1) (by rfl) (by rfl) (by decide) (?_ : jX G jP 184 14 lv [.int (nI 1), .int (q1.2.1 56 a2.1 a2.2 2), .ref (spl 58 a2.1 a2.2)] μ Q)
  refine jX.go (by rfl) (by rfl) (by rfl) (?_ : jX G jP 184 15 lv [.int ((q1.2.1 56 a2.1 a2.2 2) - (nI 1)), .ref (spl 58 a2.1 a2.2)] μ Q)
  obtain ⟨g4, h⟩ := jif_some h
  obtain ⟨g5, h⟩ := jif_some h
  refine jX.sai R g4 (by rfl) (by rfl) (by rfl) g5 (?_ : jX G jP 184 16 lv [.int (q1.2.1 58 a2.1 a2.2 ((q1.2.1 56 a2.1 a2.2 2) - (nI 1)).toNatClampNeg)] μ Q)
  refine jX.s1 (k := 3) (pc' := 17) (by rfl) (by rfl) (by rfl) (fun lv l3 kp => (?_ : jX G jP 184 17 lv [] μ Q))
  replace l0 := kp 0 _ l0 (by rfl) (by first | rfl | simp [soR_cat])
  replace l1 := kp 1 _ l1 (by rfl) (by first | rfl | simp [soR_cat])
  replace l2 := kp 2 _ l2 (by rfl) (by first | rfl | simp [soR_cat])
  refine jX.lrn l2 (by rfl) (by rfl) (?_ : jX G jP 184 18 lv [.ref (spl 56 a2.1 a2.2)] μ Q)
  refine jX.sg R g3 (by rfl) (by rfl) (by rfl) (by rfl) (by rfl) (?_ : jX G jP 184 21 lv [.ref (spl 62 a2.1 a2.2)] μ Q)
  refine jX.lrn l2 (by rfl) (by rfl) (?_ : jX G jP 184 22 lv [.ref (spl 56 a2.1 a2.2), .ref (spl 62 a2.1 a2.2)] μ Q)
  refine jX.sg R g3 (by rfl) (by rfl) (by rfl) (by rfl) (by rfl) (?_ : jX G jP 184 25 lv [.int (q1.2.1 56 a2.1 a2.2 2), .ref (spl 62 a2.1 a2.2)] μ Q)
  refine jX.ic (v := nI 1) (n := 1) (by rfl) (by rfl) (by decide) (?_ : jX G jP 184 26 lv [.int (nI 1), .int (q1.2.1 56 a2.1 a2.2 2), .ref (spl 62 a2.1 a2.2)] μ Q)
  refine jX.go (by rfl) (by rfl) (by rfl) (?_ : jX G jP 184 27 lv [.int ((q1.2.1 56 a2.1 a2.2 2) - (nI 1)), .ref (spl 62 a2.1 a2.2)] μ Q)
  obtain ⟨g6, h⟩ := jif_some h
  obtain ⟨g7, h⟩ := jif_some h
  refine jX.sal R g6 (by rfl) (by rfl) (by rfl) g7 (?_ : jX G jP 184 28 lv [.long (q1.2.2.1 62 a2.1 a2.2 ((q1.2.1 56 a2.1 a2.2 2) - (nI 1)).toNatClampNeg)] μ Q)
  refine jX.go (by rfl) (by rfl) (by rfl) (?_ : jX G jP 184 29 lv [.int ((q1.2.2.1 62 a2.1 a2.2 ((q1.2.1 56 a2.1 a2.2 2) - (nI 1)).toNatClampNeg).toInt32)] μ Q)
  refine jX.s1 (k := 4) (pc' := 31) (by rfl) (by rfl) (by rfl) (fun lv l4 kp => (?_ : jX G jP 184 31 lv [] μ Q))
  replace l0 := kp 0 _ l0 (by rfl) (by first | rfl | simp [soR_cat])
  replace l1 := kp 1 _ l1 (by rfl) (by first | rfl | simp [soR_cat])
  replace l3 := kp 3 _ l3 (by rfl) (by first | rfl | simp [soR_cat])
  refine jX.lin l3 (by rfl) (by rfl) (?_ : jX G jP 184 32 lv [.int (q1.2.1 58 a2.1 a2.2 ((q1.2.1 56 a2.1 a2.2 2) - (nI 1)).toNatClampNeg)] μ Q)
  refine jX.ic (v := nI 1) (n := 1) (by rfl) (by rfl) (by decide) (?_ : jX G jP 184 33 lv [.int (nI 1), .int (q1.2.1 58 a2.1 a2.2 ((q1.2.1 56 a2.1 a2.2 2) - (nI 1)).toNatClampNeg)] μ Q)
  rcases bif_or h with ⟨hc, h⟩ | ⟨hc, h⟩
  · refine jX.b2t hc (by rfl) (by rfl) (by rfl) (?_ : jX G jP 184 66 lv [] μ Q)
    exact F_184_66_ok  K v1 (q1.2.1 58 a2.1 a2.2 ((q1.2.1 56 a2.1 a2.2 2) - (nI 1)).toNatClampNeg) ((q1.2.2.1 62 a2.1 a2.2 ((q1.2.1 56 a2.1 a2.2 2) - (nI 1)).toNatClampNeg).toInt32) _ _ _ l0 l1 l3 l4 R h
  · refine jX.b2f hc (by rfl) (by rfl) (by rfl) (?_ : jX G jP 184 36 lv [] μ Q)
    refine jX.lrn l0 (by rfl) (by rfl) (?_ : jX G jP 184 37 lv [.ref (spl 33 0 0)] μ Q)
    refine jX.lin l3 (by rfl) (by rfl) (?_ : jX G jP 184 38 lv [.int (q1.2.1 58 a2.1 a2.2 ((q1.2.1 56 a2.1 a2.2 2) - (nI 1)).toNatClampNeg), .ref (spl 33 0 0)] μ Q)
    refine jX.li l4 (by rfl) (by rfl) (?_ : jX G jP 184 40 lv [.int ((q1.2.2.1 62 a2.1 a2.2 ((q1.2.1 56 a2.1 a2.2 2) - (nI 1)).toNatClampNeg).toInt32), .int (q1.2.1 58 a2.1 a2.2 ((q1.2.1 56 a2.1 a2.2 2) - (nI 1)).toNatClampNeg), .ref (spl 33 0 0)] μ Q)
    refine jX.go (by rfl) (by rfl) (by rfl) (?_ : jX G jP 184 41 lv [.long (((q1.2.2.1 62 a2.1 a2.2 ((q1.2.1 56 a2.1 a2.2 2) - (nI 1)).toNatClampNeg).toInt32).toInt64), .int (q1.2.1 58 a2.1 a2.2 ((q1.2.1 56 a2.1 a2.2 2) - (nI 1)).toNatClampNeg), .ref (spl 33 0 0)] μ Q)
    refine jX.ic (v := nI 3) (n := 1) (by rfl) (by rfl) (by decide) (?_ : jX G jP 184 42 lv [.int (nI 3), .long (((q1.2.2.1 62 a2.1 a2.2 ((q1.2.1 56 a2.1 a2.2 2) - (nI 1)).toNatClampNeg).toInt32).toInt64), .int (q1.2.1 58 a2.1 a2.2 ((q1.2.1 56 a2.1 a2.2 2) - (nI 1)).toNatClampNeg), .ref (spl 33 0 0)] μ Q)
    obtain ⟨q8, e8, h⟩ := sbd h
    refine jX.c1 (v := .int q8.1) (by rfl) (by rfl) (by rfl) (by rfl) (by rfl) (by rfl) (by rfl) (R.rec (by rfl) (by rfl)) (Nat.le_of_ble_eq_true rfl) (Nat.le_of_ble_eq_true rfl) (F_170_ok R e8 (fun μ R => ⟨rfl, (?_ : jX G jP 184 45 lv [.int q8.1] μ Q)⟩))
    rcases bif_or h with ⟨hc, h⟩ | ⟨hc, h⟩
    · refine jX.b1t hc (by rfl) (by rfl) (by rfl) (?_ : jX G jP 184 66 lv [] μ Q)
      exact F_184_66_ok  K v1 (q1.2.1 58 a2.1 a2.2 ((q1.2.1 56 a2.1 a2.2 2) - (nI 1)).toNatClampNeg) ((q1.2.2.1 62 a2.1 a2.2 ((q1.2.1 56 a2.1 a2.2 2) - (nI 1)).toNatClampNeg).toInt32) _ _ _ l0 l1 l3 l4 R h
    · refine jX.b1f hc (by rfl) (by rfl) (by rfl) (?_ : jX G jP 184 48 lv [] μ Q)
      refine jX.lrn l0 (by rfl) (by rfl) (?_ : jX G jP 184 49 lv [.ref (spl 33 0 0)] μ Q)
      refine jX.lrn l1 (by rfl) (by rfl) (?_ : jX G jP 184 50 lv [.ref (spl 54 v1.1 v1.2), .ref (spl 33 0 0)] μ Q)
      refine jX.ic (v := nI 1) (n := 1) (by rfl) (by rfl) (by decide) (?_ : jX G jP 184 51 lv [.int (nI 1), .ref (spl 54 v1.1 v1.2), .ref (spl 33 0 0)] μ Q)
      obtain ⟨q9, e9, h⟩ := sbd h
      refine jX.c1 (v := .int q9.1) (by rfl) (by rfl) (by rfl) (by rfl) (by rfl) (by rfl) (by rfl) (R.rec (by rfl) (by rfl)) (Nat.le_of_ble_eq_true rfl) (Nat.le_of_ble_eq_true rfl) (F_156_ok R e9 (fun μ R => ⟨rfl, (?_ : jX G jP 184 54 lv [.int q9.1] μ Q)⟩))
      refine jX.go (by rfl) (by rfl) (by rfl) (?_ : jX G jP 184 55 lv [] μ Q)
      refine jX.lrn l0 (by rfl) (by rfl) (?_ : jX G jP 184 56 lv [.ref (spl 33 0 0)] μ Q)
      refine jX.lrn l1 (by rfl) (by rfl) (?_ : jX G jP 184 57 lv [.ref (spl 54 v1.1 v1.2), .ref (spl 33 0 0)] μ Q)
      refine jX.go (by rfl) (by rfl) (by rfl) (?_ : jX G jP 184 60 lv [.long (-2), .ref (spl 54 v1.1 v1.2), .ref (spl 33 0 0)] μ Q)
      obtain ⟨q10, e10, h⟩ := sbd h
      refine jX.cv (by rfl) (by rfl) (by rfl) (by rfl) (by rfl) (by rfl) (by rfl) (R.rec (by rfl) (by rfl)) (Nat.le_of_ble_eq_true rfl) (Nat.le_of_ble_eq_true rfl) (F_155_ok R e10 (fun μ R => ⟨rfl, (?_ : jX G jP 184 63 lv [] μ Q)⟩))
      refine jX.go (by rfl) (by rfl) (by rfl) (?_ : jX G jP 184 131 lv [] μ Q)
      exact jX.ret (by rfl) (by rfl) (by rfl) (by rfl) (sretv (f := srV) h K R)
/-! 185 StrandRuntimeModel.close(LStrandRuntimeModel$Strand;)V -/
def F_185_189 (G : jG) (t : Nat) (k94 : Int32 → sS → Option (Unit × sS)) (k99 : Int32 → Int32 → Int32 → sS → Option (Unit × sS)) (v2 : Int32) (v3 : Int32) (v4 : Int32) (S : sS) : Option (Unit × sS) := k99 v2 v3 (v4 + Int32.ofInt 1) S
theorem F_185_189_ok {G : jG} {t : Nat} {k94 : Int32 → sS → Option (Unit × sS)} {k99 : Int32 → Int32 → Int32 → sS → Option (Unit × sS)} {r : Unit} {S' : sS} {Q : Option Value ⊕ Nat → jS → Prop} (hk94 : ∀ (v2 : Int32) (S : sS) (lv : jL) (μ : jS), jld lv 0 = some (.ref (spl 33 0 0)) → jld lv 2 = some (.int v2) → sR S μ → k94 v2 S = some (r, S') → jX G jP 185 94 lv [] μ Q) (hk99 : ∀ (v2 : Int32) (v3 : Int32) (v4 : Int32) (S : sS) (lv : jL) (μ : jS), jld lv 0 = some (.ref (spl 33 0 0)) → jld lv 2 = some (.int v2) → jld lv 3 = some (.int v3) → jld lv 4 = some (.int v4) → sR S μ → k99 v2 v3 v4 S = some (r, S') → jX G jP 185 99 lv [] μ Q) (K : ∀ μ', sR S' μ' → Q (srV r) μ') : ∀ (v2 : Int32) (v3 : Int32) (v4 : Int32) (S : sS) (lv : jL) (μ : jS), jld lv 0 = some (.ref (spl 33 0 0)) → jld lv 2 = some (.int v2) → jld lv 3 = some (.int v3) → jld lv 4 = some (.int v4) → sR S μ → F_185_189 G t k94 k99 v2 v3 v4 S = some (r, S') → jX G jP 185 189 lv [] μ Q := by
  intro v2 v3 v4 S lv μ l0 l2 l3 l4 R h
  unfold F_185_189 at h
  refine jX.inc l4 (by rfl) (by rfl) (by rfl) (fun lv l4 kp => (?_ : jX G jP 185 192 lv [] μ Q))
  replace l0 := kp 0 _ l0 (by rfl) (by first | rfl | simp [soR_cat])
  replace l2 := kp 2 _ l2 (by rfl) (by first | rfl | simp [soR_cat])
  replace l3 := kp 3 _ l3 (by rfl) (by first | rfl | simp [soR_cat])
  refine jX.go (by rfl) (by rfl) (by rfl) (?_ : jX G jP 185 99 lv [] μ Q)
  exact hk99 v2 v3 (v4 + Int32.ofInt 1) _ _ _ l0 l2 l3 l4 R h
def F_185_186 (G : jG) (t : Nat) (k94 : Int32 → sS → Option (Unit × sS)) (k99 : Int32 → Int32 → Int32 → sS → Option (Unit × sS)) (v2 : Int32) (v4 : Int32) (S : sS) : Option (Unit × sS) := F_185_189 G t k94 k99 v2 v4 v4 S
theorem F_185_186_ok {G : jG} {t : Nat} {k94 : Int32 → sS → Option (Unit × sS)} {k99 : Int32 → Int32 → Int32 → sS → Option (Unit × sS)} {r : Unit} {S' : sS} {Q : Option Value ⊕ Nat → jS → Prop} (hk94 : ∀ (v2 : Int32) (S : sS) (lv : jL) (μ : jS), jld lv 0 = some (.ref (spl 33 0 0)) → jld lv 2 = some (.int v2) → sR S μ → k94 v2 S = some (r, S') → jX G jP 185 94 lv [] μ Q) (hk99 : ∀ (v2 : Int32) (v3 : Int32) (v4 : Int32) (S : sS) (lv : jL) (μ : jS), jld lv 0 = some (.ref (spl 33 0 0)) → jld lv 2 = some (.int v2) → jld lv 3 = some (.int v3) → jld lv 4 = some (.int v4) → sR S μ → k99 v2 v3 v4 S = some (r, S') → jX G jP 185 99 lv [] μ Q) (K : ∀ μ', sR S' μ' → Q (srV r) μ') : ∀ (v2 : Int32) (v4 : Int32) (S : sS) (lv : jL) (μ : jS), jld lv 0 = some (.ref (spl 33 0 0)) → jld lv 2 = some (.int v2) → jld lv 4 = some (.int v4) → sR S μ → F_185_186 G t k94 k99 v2 v4 S = some (r, S') → jX G jP 185 186 lv [] μ Q := by
  intro v2 v4 S lv μ l0 l2 l4 R h
  unfold F_185_186 at h
  refine jX.li l4 (by rfl) (by rfl) (?_ : jX G jP 185 188 lv [.int v4] μ Q)
  refine jX.s1 (k := 3) (pc' := 189) (by rfl) (by rfl) (by rfl) (fun lv l3 kp => (?_ : jX G jP 185 189 lv [] μ Q))
  replace l0 := kp 0 _ l0 (by rfl) (by first | rfl | simp [soR_cat])
  replace l2 := kp 2 _ l2 (by rfl) (by first | rfl | simp [soR_cat])
  replace l4 := kp 4 _ l4 (by rfl) (by first | rfl | simp [soR_cat])
  exact F_185_189_ok hk94 hk99 K v2 v4 v4 _ _ _ l0 l2 l3 l4 R h
def F_185_159 (G : jG) (t : Nat) (k94 : Int32 → sS → Option (Unit × sS)) (k99 : Int32 → Int32 → Int32 → sS → Option (Unit × sS)) (v2 : Int32) (v3 : Int32) (v4 : Int32) (S : sS) : Option (Unit × sS) := bif jcmp .lt v3 0 then (F_185_186 G t k94 k99 v2 v4 S) else (jif (jin v4 16) (jif (sex S.2.2.2.1 54 v4.toNatClampNeg 0) (jif (jin v3 16) (jif (sex S.2.2.2.1 54 v3.toNatClampNeg 0) (bif jcmp .ge (lg_cmp (S.2.1 54 v4.toNatClampNeg 0 3) (S.2.1 54 v3.toNatClampNeg 0 3)) 0 then (F_185_189 G t k94 k99 v2 v3 v4 S) else (F_185_186 G t k94 k99 v2 v4 S))))))
theorem F_185_159_ok {G : jG} {t : Nat} {k94 : Int32 → sS → Option (Unit × sS)} {k99 : Int32 → Int32 → Int32 → sS → Option (Unit × sS)} {r : Unit} {S' : sS} {Q : Option Value ⊕ Nat → jS → Prop} (hk94 : ∀ (v2 : Int32) (S : sS) (lv : jL) (μ : jS), jld lv 0 = some (.ref (spl 33 0 0)) → jld lv 2 = some (.int v2) → sR S μ → k94 v2 S = some (r, S') → jX G jP 185 94 lv [] μ Q) (hk99 : ∀ (v2 : Int32) (v3 : Int32) (v4 : Int32) (S : sS) (lv : jL) (μ : jS), jld lv 0 = some (.ref (spl 33 0 0)) → jld lv 2 = some (.int v2) → jld lv 3 = some (.int v3) → jld lv 4 = some (.int v4) → sR S μ → k99 v2 v3 v4 S = some (r, S') → jX G jP 185 99 lv [] μ Q) (K : ∀ μ', sR S' μ' → Q (srV r) μ') : ∀ (v2 : Int32) (v3 : Int32) (v4 : Int32) (S : sS) (lv : jL) (μ : jS), jld lv 0 = some (.ref (spl 33 0 0)) → jld lv 2 = some (.int v2) → jld lv 3 = some (.int v3) → jld lv 4 = some (.int v4) → sR S μ → F_185_159 G t k94 k99 v2 v3 v4 S = some (r, S') → jX G jP 185 159 lv [] μ Q := by
  intro v2 v3 v4 S lv μ l0 l2 l3 l4 R h
  unfold F_185_159 at h
  refine jX.lin l3 (by rfl) (by rfl) (?_ : jX G jP 185 160 lv [.int v3] μ Q)
  rcases bif_or h with ⟨hc, h⟩ | ⟨hc, h⟩
  · refine jX.b1t hc (by rfl) (by rfl) (by rfl) (?_ : jX G jP 185 186 lv [] μ Q)
    exact F_185_186_ok hk94 hk99 K v2 v4 _ _ _ l0 l2 l4 R h
  · refine jX.b1f hc (by rfl) (by rfl) (by rfl) (?_ : jX G jP 185 163 lv [] μ Q)
    refine jX.lrn l0 (by rfl) (by rfl) (?_ : jX G jP 185 164 lv [.ref (spl 33 0 0)] μ Q)
    refine jX.sg R (by rfl) (by rfl) (by rfl) (by rfl) (by rfl) (by rfl) (?_ : jX G jP 185 167 lv [.ref (spl 35 0 0)] μ Q)
    refine jX.li l4 (by rfl) (by rfl) (?_ : jX G jP 185 169 lv [.int v4, .ref (spl 35 0 0)] μ Q)
    obtain ⟨g1, h⟩ := jif_some h
    refine jX.sar (f := fun q => bif Nat.blt q 16 then some (spl 54 q 0) else none) R (by rfl) (by rfl) (by rfl) (by rfl) g1 (srf_in g1) (?_ : jX G jP 185 170 lv [.ref (spl 54 v4.toNatClampNeg 0)] μ Q)
    obtain ⟨g2, h⟩ := jif_some h
    refine jX.sg R g2 (by rfl) (by rfl) (by rfl) (by rfl) (by rfl) (?_ : jX G jP 185 173 lv [.long (S.2.1 54 v4.toNatClampNeg 0 3)] μ Q)
    refine jX.lrn l0 (by rfl) (by rfl) (?_ : jX G jP 185 174 lv [.ref (spl 33 0 0), .long (S.2.1 54 v4.toNatClampNeg 0 3)] μ Q)
    refine jX.sg R (by rfl) (by rfl) (by rfl) (by rfl) (by rfl) (by rfl) (?_ : jX G jP 185 177 lv [.ref (spl 35 0 0), .long (S.2.1 54 v4.toNatClampNeg 0 3)] μ Q)
    refine jX.lin l3 (by rfl) (by rfl) (?_ : jX G jP 185 178 lv [.int v3, .ref (spl 35 0 0), .long (S.2.1 54 v4.toNatClampNeg 0 3)] μ Q)
    obtain ⟨g3, h⟩ := jif_some h
    refine jX.sar (f := fun q => bif Nat.blt q 16 then some (spl 54 q 0) else none) R (by rfl) (by rfl) (by rfl) (by rfl) g3 (srf_in g3) (?_ : jX G jP 185 179 lv [.ref (spl 54 v3.toNatClampNeg 0), .long (S.2.1 54 v4.toNatClampNeg 0 3)] μ Q)
    obtain ⟨g4, h⟩ := jif_some h
    refine jX.sg R g4 (by rfl) (by rfl) (by rfl) (by rfl) (by rfl) (?_ : jX G jP 185 182 lv [.long (S.2.1 54 v3.toNatClampNeg 0 3), .long (S.2.1 54 v4.toNatClampNeg 0 3)] μ Q)
    refine jX.go (by rfl) (by rfl) (by rfl) (?_ : jX G jP 185 183 lv [.int (lg_cmp (S.2.1 54 v4.toNatClampNeg 0 3) (S.2.1 54 v3.toNatClampNeg 0 3))] μ Q)
    rcases bif_or h with ⟨hc, h⟩ | ⟨hc, h⟩
    · refine jX.b1t hc (by rfl) (by rfl) (by rfl) (?_ : jX G jP 185 189 lv [] μ Q)
      exact F_185_189_ok hk94 hk99 K v2 v3 v4 _ _ _ l0 l2 l3 l4 R h
    · refine jX.b1f hc (by rfl) (by rfl) (by rfl) (?_ : jX G jP 185 186 lv [] μ Q)
      exact F_185_186_ok hk94 hk99 K v2 v4 _ _ _ l0 l2 l4 R h
def F_185_347 (G : jG) (t : Nat) (k94 : Int32 → sS → Option (Unit × sS)) (v2 : Int32) (v3 : Int32) (v4 : (Nat × Nat)) (w0 : Int32) (w1 : Int32) (w2 : (Nat × Nat)) (S : sS) : Option (Unit × sS) := jif (sex S.2.2.2.1 56 w2.1 w2.2) ((F_163 G t v3 (siI S 56 w2.1 w2.2 2 (w1 - w0))).bind (fun q2 => (F_155 G t v4 (-4) q2.2).bind (fun q3 => (F_178 G t v3 q3.2).bind (fun q4 => k94 v2 q4.2))))
theorem F_185_347_ok {G : jG} {t : Nat} {k94 : Int32 → sS → Option (Unit × sS)} {r : Unit} {S' : sS} {Q : Option Value ⊕ Nat → jS → Prop} (hk94 : ∀ (v2 : Int32) (S : sS) (lv : jL) (μ : jS), jld lv 0 = some (.ref (spl 33 0 0)) → jld lv 2 = some (.int v2) → sR S μ → k94 v2 S = some (r, S') → jX G jP 185 94 lv [] μ Q) (K : ∀ μ', sR S' μ' → Q (srV r) μ') : ∀ (v2 : Int32) (v3 : Int32) (v4 : (Nat × Nat)) (w0 : Int32) (w1 : Int32) (w2 : (Nat × Nat)) (S : sS) (lv : jL) (μ : jS), jld lv 0 = some (.ref (spl 33 0 0)) → jld lv 2 = some (.int v2) → jld lv 3 = some (.int v3) → jld lv 4 = some (.ref (spl 54 v4.1 v4.2)) → sR S μ → F_185_347 G t k94 v2 v3 v4 w0 w1 w2 S = some (r, S') → jX G jP 185 347 lv [.int w0, .int w1, .ref (spl 56 w2.1 w2.2)] μ Q := by
  intro v2 v3 v4 w0 w1 w2 S lv μ l0 l2 l3 l4 R h
  unfold F_185_347 at h
  refine jX.go (by rfl) (by rfl) (by rfl) (?_ : jX G jP 185 348 lv [.int (w1 - w0), .ref (spl 56 w2.1 w2.2)] μ Q)
  obtain ⟨g1, h⟩ := jif_some h
  refine jX.spI R g1 (by rfl) (by rfl) (by rfl) (by rfl) (by rfl) (by rfl) (by rfl) (by rfl) (fun μ R => (?_ : jX G jP 185 351 lv [] μ Q))
  refine jX.lrn l0 (by rfl) (by rfl) (?_ : jX G jP 185 352 lv [.ref (spl 33 0 0)] μ Q)
  refine jX.lin l3 (by rfl) (by rfl) (?_ : jX G jP 185 353 lv [.int v3, .ref (spl 33 0 0)] μ Q)
  obtain ⟨q2, e2, h⟩ := sbd h
  refine jX.cv (by rfl) (by rfl) (by rfl) (by rfl) (by rfl) (by rfl) (by rfl) (R.rec (by rfl) (by rfl)) (Nat.le_of_ble_eq_true rfl) (Nat.le_of_ble_eq_true rfl) (F_163_ok R e2 (fun μ R => ⟨rfl, (?_ : jX G jP 185 356 lv [] μ Q)⟩))
  refine jX.lrn l0 (by rfl) (by rfl) (?_ : jX G jP 185 357 lv [.ref (spl 33 0 0)] μ Q)
  refine jX.lr l4 (by rfl) (by rfl) (?_ : jX G jP 185 359 lv [.ref (spl 54 v4.1 v4.2), .ref (spl 33 0 0)] μ Q)
  refine jX.go (by rfl) (by rfl) (by rfl) (?_ : jX G jP 185 362 lv [.long (-4), .ref (spl 54 v4.1 v4.2), .ref (spl 33 0 0)] μ Q)
  obtain ⟨q3, e3, h⟩ := sbd h
  refine jX.cv (by rfl) (by rfl) (by rfl) (by rfl) (by rfl) (by rfl) (by rfl) (R.rec (by rfl) (by rfl)) (Nat.le_of_ble_eq_true rfl) (Nat.le_of_ble_eq_true rfl) (F_155_ok R e3 (fun μ R => ⟨rfl, (?_ : jX G jP 185 365 lv [] μ Q)⟩))
  refine jX.lrn l0 (by rfl) (by rfl) (?_ : jX G jP 185 366 lv [.ref (spl 33 0 0)] μ Q)
  refine jX.lin l3 (by rfl) (by rfl) (?_ : jX G jP 185 367 lv [.int v3, .ref (spl 33 0 0)] μ Q)
  obtain ⟨q4, e4, h⟩ := sbd h
  refine jX.cv (by rfl) (by rfl) (by rfl) (by rfl) (by rfl) (by rfl) (by rfl) (R.rec (by rfl) (by rfl)) (Nat.le_of_ble_eq_true rfl) (Nat.le_of_ble_eq_true rfl) (F_178_ok R e4 (fun μ R => ⟨rfl, (?_ : jX G jP 185 370 lv [] μ Q)⟩))
  refine jX.go (by rfl) (by rfl) (by rfl) (?_ : jX G jP 185 94 lv [] μ Q)
  exact hk94 v2 _ _ _ l0 l2 R h
def F_185_275 (G : jG) (t : Nat) (k94 : Int32 → sS → Option (Unit × sS)) (v2 : Int32) (v3 : Int32) (v4 : (Nat × Nat)) (v5 : Int32) (S : sS) : Option (Unit × sS) := bif jcmp .ne v5 0 then ((F_151 G t v4 S).bind (fun q1 => (q1.1).bind (fun a2 => jif (sex q1.2.2.2.2.1 56 a2.1 a2.2) (jif (sex q1.2.2.2.2.1 54 v4.1 v4.2) (bif jcmp .ne (q1.2.1 54 v4.1 v4.2 0) (nI 2) then (jif (jin (q1.2.1 56 a2.1 a2.2 0) 32) (jif (jin (((q1.2.1 39 0 0 (q1.2.1 56 a2.1 a2.2 0).toNatClampNeg) + (q1.2.1 56 a2.1 a2.2 1)) - (nI 1)) 1500) (F_185_347 G t k94 v2 v3 v4 ((nI 3) * ((q1.2.1 42 0 0 (((q1.2.1 39 0 0 (q1.2.1 56 a2.1 a2.2 0).toNatClampNeg) + (q1.2.1 56 a2.1 a2.2 1)) - (nI 1)).toNatClampNeg) &&& (nI 7))) (q1.2.1 56 a2.1 a2.2 2) a2 q1.2))) else (F_185_347 G t k94 v2 v3 v4 (nI 2) (q1.2.1 56 a2.1 a2.2 2) a2 q1.2)))))) else ((F_179 G t v3 v2 (nI 0) (nI 0) 0 (nI 0) S).bind (fun q7 => k94 v2 q7.2))
theorem F_185_275_ok {G : jG} {t : Nat} {k94 : Int32 → sS → Option (Unit × sS)} {r : Unit} {S' : sS} {Q : Option Value ⊕ Nat → jS → Prop} (hk94 : ∀ (v2 : Int32) (S : sS) (lv : jL) (μ : jS), jld lv 0 = some (.ref (spl 33 0 0)) → jld lv 2 = some (.int v2) → sR S μ → k94 v2 S = some (r, S') → jX G jP 185 94 lv [] μ Q) (K : ∀ μ', sR S' μ' → Q (srV r) μ') : ∀ (v2 : Int32) (v3 : Int32) (v4 : (Nat × Nat)) (v5 : Int32) (S : sS) (lv : jL) (μ : jS), jld lv 0 = some (.ref (spl 33 0 0)) → jld lv 2 = some (.int v2) → jld lv 3 = some (.int v3) → jld lv 4 = some (.ref (spl 54 v4.1 v4.2)) → jld lv 5 = some (.int v5) → sR S μ → F_185_275 G t k94 v2 v3 v4 v5 S = some (r, S') → jX G jP 185 275 lv [] μ Q := by
  intro v2 v3 v4 v5 S lv μ l0 l2 l3 l4 l5 R h
  unfold F_185_275 at h
  refine jX.li l5 (by rfl) (by rfl) (?_ : jX G jP 185 277 lv [.int v5] μ Q)
  rcases bif_or h with ⟨hc, h⟩ | ⟨hc, h⟩
  · refine jX.b1t hc (by rfl) (by rfl) (by rfl) (?_ : jX G jP 185 293 lv [] μ Q)
    refine jX.lr l4 (by rfl) (by rfl) (?_ : jX G jP 185 295 lv [.ref (spl 54 v4.1 v4.2)] μ Q)
    obtain ⟨q1, e1, h⟩ := sbd h
    refine jX.c1 (v := soR 56 q1.1) (by rfl) (by rfl) (by rfl) (by rfl) (by rfl) (by rfl) (by rfl) (by rfl) (Nat.le_of_ble_eq_true rfl) (Nat.le_of_ble_eq_true rfl) (F_151_ok R e1 (fun μ R => ⟨rfl, (?_ : jX G jP 185 298 lv [soR 56 q1.1] μ Q)⟩))
    refine jX.so (k := 6) (pc' := 300) (by rfl) (by rfl) (fun _ => by rfl) (by rfl) (fun lv l6 kp => (?_ : jX G jP 185 300 lv [] μ Q))
    replace l0 := kp 0 _ l0 (by rfl) (by first | rfl | simp [soR_cat])
    replace l2 := kp 2 _ l2 (by rfl) (by first | rfl | simp [soR_cat])
    replace l3 := kp 3 _ l3 (by rfl) (by first | rfl | simp [soR_cat])
    replace l4 := kp 4 _ l4 (by rfl) (by first | rfl | simp [soR_cat])
    refine jX.lo l6 (by rfl) (by rfl) (?_ : jX G jP 185 302 lv [soR 56 q1.1] μ Q)
    obtain ⟨a2, e2, h⟩ := sbd h
    rw [soR_some (t := 56) e2]
    rw [soR_some (t := 56) e2] at l6
    refine jX.go (by rfl) (by rfl) (by rfl) (?_ : jX G jP 185 303 lv [.ref (spl 56 a2.1 a2.2), .ref (spl 56 a2.1 a2.2)] μ Q)
    obtain ⟨g3, h⟩ := jif_some h
    refine jX.sg R g3 (by rfl) (by rfl) (by rfl) (by rfl) (by rfl) (?_ : jX G jP 185 306 lv [.int (q1.2.1 56 a2.1 a2.2 2), .ref (spl 56 a2.1 a2.2)] μ Q)
    refine jX.lr l4 (by rfl) (by rfl) (?_ : jX G jP 185 308 lv [.ref (spl 54 v4.1 v4.2), .int (q1.2.1 56 a2.1 a2.2 2), .ref (spl 56 a2.1 a2.2)] μ Q)
    obtain ⟨g4, h⟩ := jif_some h
    refine jX.sg R g4 (by rfl) (by rfl) (by rfl) (by rfl) (by rfl) (?_ : jX G jP 185 311 lv [.int (q1.2.1 54 v4.1 v4.2 0), .int (q1.2.1 56 a2.1 a2.2 2), .ref (spl 56 a2.1 a2.2)] μ Q)
    refine jX.ic (v := nI 2) (n := 1) (by rfl) (by rfl) (by decide) (?_ : jX G jP 185 312 lv [.int (nI 2), .int (q1.2.1 54 v4.1 v4.2 0), .int (q1.2.1 56 a2.1 a2.2 2), .ref (spl 56 a2.1 a2.2)] μ Q)
    rcases bif_or h with ⟨hc, h⟩ | ⟨hc, h⟩
    · refine jX.b2t hc (by rfl) (by rfl) (by rfl) (?_ : jX G jP 185 319 lv [.int (q1.2.1 56 a2.1 a2.2 2), .ref (spl 56 a2.1 a2.2)] μ Q)
      refine jX.ic (v := nI 3) (n := 1) (by rfl) (by rfl) (by decide) (?_ : jX G jP 185 320 lv [.int (nI 3), .int (q1.2.1 56 a2.1 a2.2 2), .ref (spl 56 a2.1 a2.2)] μ Q)
      refine jX.lrn l0 (by rfl) (by rfl) (?_ : jX G jP 185 321 lv [.ref (spl 33 0 0), .int (nI 3), .int (q1.2.1 56 a2.1 a2.2 2), .ref (spl 56 a2.1 a2.2)] μ Q)
      refine jX.sg R (by rfl) (by rfl) (by rfl) (by rfl) (by rfl) (by rfl) (?_ : jX G jP 185 324 lv [.ref (spl 42 0 0), .int (nI 3), .int (q1.2.1 56 a2.1 a2.2 2), .ref (spl 56 a2.1 a2.2)] μ Q)
      refine jX.lrn l0 (by rfl) (by rfl) (?_ : jX G jP 185 325 lv [.ref (spl 33 0 0), .ref (spl 42 0 0), .int (nI 3), .int (q1.2.1 56 a2.1 a2.2 2), .ref (spl 56 a2.1 a2.2)] μ Q)
      refine jX.sg R (by rfl) (by rfl) (by rfl) (by rfl) (by rfl) (by rfl) (?_ : jX G jP 185 328 lv [.ref (spl 39 0 0), .ref (spl 42 0 0), .int (nI 3), .int (q1.2.1 56 a2.1 a2.2 2), .ref (spl 56 a2.1 a2.2)] μ Q)
      refine jX.lr l6 (by rfl) (by rfl) (?_ : jX G jP 185 330 lv [.ref (spl 56 a2.1 a2.2), .ref (spl 39 0 0), .ref (spl 42 0 0), .int (nI 3), .int (q1.2.1 56 a2.1 a2.2 2), .ref (spl 56 a2.1 a2.2)] μ Q)
      refine jX.sg R g3 (by rfl) (by rfl) (by rfl) (by rfl) (by rfl) (?_ : jX G jP 185 333 lv [.int (q1.2.1 56 a2.1 a2.2 0), .ref (spl 39 0 0), .ref (spl 42 0 0), .int (nI 3), .int (q1.2.1 56 a2.1 a2.2 2), .ref (spl 56 a2.1 a2.2)] μ Q)
      obtain ⟨g5, h⟩ := jif_some h
      refine jX.sai R (by rfl) (by rfl) (by rfl) (by rfl) g5 (?_ : jX G jP 185 334 lv [.int (q1.2.1 39 0 0 (q1.2.1 56 a2.1 a2.2 0).toNatClampNeg), .ref (spl 42 0 0), .int (nI 3), .int (q1.2.1 56 a2.1 a2.2 2), .ref (spl 56 a2.1 a2.2)] μ Q)
      refine jX.lr l6 (by rfl) (by rfl) (?_ : jX G jP 185 336 lv [.ref (spl 56 a2.1 a2.2), .int (q1.2.1 39 0 0 (q1.2.1 56 a2.1 a2.2 0).toNatClampNeg), .ref (spl 42 0 0), .int (nI 3), .int (q1.2.1 56 a2.1 a2.2 2), .ref (spl 56 a2.1 a2.2)] μ Q)
      refine jX.sg R g3 (by rfl) (by rfl) (by rfl) (by rfl) (by rfl) (?_ : jX G jP 185 339 lv [.int (q1.2.1 56 a2.1 a2.2 1), .int (q1.2.1 39 0 0 (q1.2.1 56 a2.1 a2.2 0).toNatClampNeg), .ref (spl 42 0 0), .int (nI 3), .int (q1.2.1 56 a2.1 a2.2 2), .ref (spl 56 a2.1 a2.2)] μ Q)
      refine jX.go (by rfl) (by rfl) (by rfl) (?_ : jX G jP 185 340 lv [.int ((q1.2.1 39 0 0 (q1.2.1 56 a2.1 a2.2 0).toNatClampNeg) + (q1.2.1 56 a2.1 a2.2 1)), .ref (spl 42 0 0), .int (nI 3), .int (q1.2.1 56 a2.1 a2.2 2), .ref (spl 56 a2.1 a2.2)] μ Q)
      refine jX.ic (v := nI 1) (n := 1) (by rfl) (by rfl) (by decide) (?_ : jX G jP 185 341 lv [.int (nI 1), .int ((q1.2.1 39 0 0 (q1.2.1 56 a2.1 a2.2 0).toNatClampNeg) + (q1.2.1 56 a2.1 a2.2 1)), .ref (spl 42 0 0), .int (nI 3), .int (q1.2.1 56 a2.1 a2.2 2), .ref (spl 56 a2.1 a2.2)] μ Q)
      refine jX.go (by rfl) (by rfl) (by rfl) (?_ : jX G jP 185 342 lv [.int (((q1.2.1 39 0 0 (q1.2.1 56 a2.1 a2.2 0).toNatClampNeg) + (q1.2.1 56 a2.1 a2.2 1)) - (nI 1)), .ref (spl 42 0 0), .int (nI 3), .int (q1.2.1 56 a2.1 a2.2 2), .ref (spl 56 a2.1 a2.2)] μ Q)
      obtain ⟨g6, h⟩ := jif_some h
      refine jX.sai R (by rfl) (by rfl) (by rfl) (by rfl) g6 (?_ : jX G jP 185 343 lv [.int (q1.2.1 42 0 0 (((q1.2.1 39 0 0 (q1.2.1 56 a2.1 a2.2 0).toNatClampNeg) + (q1.2.1 56 a2.1 a2.2 1)) - (nI 1)).toNatClampNeg), .int (nI 3), .int (q1.2.1 56 a2.1 a2.2 2), .ref (spl 56 a2.1 a2.2)] μ Q)
      refine jX.ic (v := nI 7) (n := 2) (by rfl) (by rfl) (by decide) (?_ : jX G jP 185 345 lv [.int (nI 7), .int (q1.2.1 42 0 0 (((q1.2.1 39 0 0 (q1.2.1 56 a2.1 a2.2 0).toNatClampNeg) + (q1.2.1 56 a2.1 a2.2 1)) - (nI 1)).toNatClampNeg), .int (nI 3), .int (q1.2.1 56 a2.1 a2.2 2), .ref (spl 56 a2.1 a2.2)] μ Q)
      refine jX.go (by rfl) (by rfl) (by rfl) (?_ : jX G jP 185 346 lv [.int ((q1.2.1 42 0 0 (((q1.2.1 39 0 0 (q1.2.1 56 a2.1 a2.2 0).toNatClampNeg) + (q1.2.1 56 a2.1 a2.2 1)) - (nI 1)).toNatClampNeg) &&& (nI 7)), .int (nI 3), .int (q1.2.1 56 a2.1 a2.2 2), .ref (spl 56 a2.1 a2.2)] μ Q)
      refine jX.go (by rfl) (by rfl) (by rfl) (?_ : jX G jP 185 347 lv [.int ((nI 3) * ((q1.2.1 42 0 0 (((q1.2.1 39 0 0 (q1.2.1 56 a2.1 a2.2 0).toNatClampNeg) + (q1.2.1 56 a2.1 a2.2 1)) - (nI 1)).toNatClampNeg) &&& (nI 7))), .int (q1.2.1 56 a2.1 a2.2 2), .ref (spl 56 a2.1 a2.2)] μ Q)
      exact F_185_347_ok hk94 K v2 v3 v4 ((nI 3) * ((q1.2.1 42 0 0 (((q1.2.1 39 0 0 (q1.2.1 56 a2.1 a2.2 0).toNatClampNeg) + (q1.2.1 56 a2.1 a2.2 1)) - (nI 1)).toNatClampNeg) &&& (nI 7))) (q1.2.1 56 a2.1 a2.2 2) a2 _ _ _ l0 l2 l3 l4 R h
    · refine jX.b2f hc (by rfl) (by rfl) (by rfl) (?_ : jX G jP 185 315 lv [.int (q1.2.1 56 a2.1 a2.2 2), .ref (spl 56 a2.1 a2.2)] μ Q)
      refine jX.ic (v := nI 2) (n := 1) (by rfl) (by rfl) (by decide) (?_ : jX G jP 185 316 lv [.int (nI 2), .int (q1.2.1 56 a2.1 a2.2 2), .ref (spl 56 a2.1 a2.2)] μ Q)
      refine jX.go (by rfl) (by rfl) (by rfl) (?_ : jX G jP 185 347 lv [.int (nI 2), .int (q1.2.1 56 a2.1 a2.2 2), .ref (spl 56 a2.1 a2.2)] μ Q)
      exact F_185_347_ok hk94 K v2 v3 v4 (nI 2) (q1.2.1 56 a2.1 a2.2 2) a2 _ _ _ l0 l2 l3 l4 R h
  · refine jX.b1f hc (by rfl) (by rfl) (by rfl) (?_ : jX G jP 185 280 lv [] μ Q)
    refine jX.lrn l0 (by rfl) (by rfl) (?_ : jX G jP 185 281 lv [.ref (spl 33 0 0)] μ Q)
    refine jX.lin l3 (by rfl) (by rfl) (?_ : jX G jP 185 282 lv [.int v3, .ref (spl 33 0 0)] μ Q)
    refine jX.lin l2 (by rfl) (by rfl) (?_ : jX G jP 185 283 lv [.int v2, .int v3, .ref (spl 33 0 0)] μ Q)
    refine jX.ic (v := nI 0) (n := 1) (by rfl) (by rfl) (by decide) (?_ : jX G jP 185 284 lv [.int (nI 0), .int v2, .int v3, .ref (spl 33 0 0)] μ Q)
    refine jX.ic (v := nI 0) (n := 1) (by rfl) (by rfl) (by decide) (?_ : jX G jP 185 285 lv [.int (nI 0), .int (nI 0), .int v2, .int v3, .ref (spl 33 0 0)] μ Q)
    refine jX.go (by rfl) (by rfl) (by rfl) (?_ : jX G jP 185 286 lv [.long 0, .int (nI 0), .int (nI 0), .int v2, .int v3, .ref (spl 33 0 0)] μ Q)
    refine jX.ic (v := nI 0) (n := 1) (by rfl) (by rfl) (by decide) (?_ : jX G jP 185 287 lv [.int (nI 0), .long 0, .int (nI 0), .int (nI 0), .int v2, .int v3, .ref (spl 33 0 0)] μ Q)
    obtain ⟨q7, e7, h⟩ := sbd h
    refine jX.cv (by rfl) (by rfl) (by rfl) (by rfl) (by rfl) (by rfl) (by rfl) (R.rec (by rfl) (by rfl)) (Nat.le_of_ble_eq_true rfl) (Nat.le_of_ble_eq_true rfl) (F_179_ok R e7 (fun μ R => ⟨rfl, (?_ : jX G jP 185 290 lv [] μ Q)⟩))
    refine jX.go (by rfl) (by rfl) (by rfl) (?_ : jX G jP 185 94 lv [] μ Q)
    exact hk94 v2 _ _ _ l0 l2 R h
def F_185_273 (G : jG) (t : Nat) (k94 : Int32 → sS → Option (Unit × sS)) (v2 : Int32) (v3 : Int32) (v4 : (Nat × Nat)) (w0 : Int32) (S : sS) : Option (Unit × sS) := F_185_275 G t k94 v2 v3 v4 w0 S
theorem F_185_273_ok {G : jG} {t : Nat} {k94 : Int32 → sS → Option (Unit × sS)} {r : Unit} {S' : sS} {Q : Option Value ⊕ Nat → jS → Prop} (hk94 : ∀ (v2 : Int32) (S : sS) (lv : jL) (μ : jS), jld lv 0 = some (.ref (spl 33 0 0)) → jld lv 2 = some (.int v2) → sR S μ → k94 v2 S = some (r, S') → jX G jP 185 94 lv [] μ Q) (K : ∀ μ', sR S' μ' → Q (srV r) μ') : ∀ (v2 : Int32) (v3 : Int32) (v4 : (Nat × Nat)) (w0 : Int32) (S : sS) (lv : jL) (μ : jS), jld lv 0 = some (.ref (spl 33 0 0)) → jld lv 2 = some (.int v2) → jld lv 3 = some (.int v3) → jld lv 4 = some (.ref (spl 54 v4.1 v4.2)) → sR S μ → F_185_273 G t k94 v2 v3 v4 w0 S = some (r, S') → jX G jP 185 273 lv [.int w0] μ Q := by
  intro v2 v3 v4 w0 S lv μ l0 l2 l3 l4 R h
  unfold F_185_273 at h
  refine jX.s1 (k := 5) (pc' := 275) (by rfl) (by rfl) (by rfl) (fun lv l5 kp => (?_ : jX G jP 185 275 lv [] μ Q))
  replace l0 := kp 0 _ l0 (by rfl) (by first | rfl | simp [soR_cat])
  replace l2 := kp 2 _ l2 (by rfl) (by first | rfl | simp [soR_cat])
  replace l3 := kp 3 _ l3 (by rfl) (by first | rfl | simp [soR_cat])
  replace l4 := kp 4 _ l4 (by rfl) (by first | rfl | simp [soR_cat])
  exact F_185_275_ok hk94 K v2 v3 v4 w0 _ _ _ l0 l2 l3 l4 l5 R h
def F_185_223 (G : jG) (t : Nat) (k94 : Int32 → sS → Option (Unit × sS)) (v2 : Int32) (v3 : Int32) (v4 : (Nat × Nat)) (w0 : Int32) (S : sS) : Option (Unit × sS) := jif (sex S.2.2.2.1 54 v4.1 v4.2) (bif jcmp .ne (S.1 54 v4.1 v4.2 0) (nI 4) then (F_185_275 G t k94 v2 v3 v4 w0 S) else (bif jcmp .ne w0 0 then (F_185_275 G t k94 v2 v3 v4 w0 S) else ((F_174 G t v3 v2 (nI 1) S).bind (fun q2 => bif jcmp .eq q2.1 0 then (F_185_275 G t k94 v2 v3 v4 w0 q2.2) else ((F_173 G t v4 v2 (nI 1) q2.2).bind (fun q3 => (F_173 G t v4 v2 (nI 0) q3.2).bind (fun q4 => bif jcmp .ge q3.1 q4.1 then (F_185_273 G t k94 v2 v3 v4 (nI 0) q4.2) else (F_185_273 G t k94 v2 v3 v4 (nI 1) q4.2))))))))
theorem F_185_223_ok {G : jG} {t : Nat} {k94 : Int32 → sS → Option (Unit × sS)} {r : Unit} {S' : sS} {Q : Option Value ⊕ Nat → jS → Prop} (hk94 : ∀ (v2 : Int32) (S : sS) (lv : jL) (μ : jS), jld lv 0 = some (.ref (spl 33 0 0)) → jld lv 2 = some (.int v2) → sR S μ → k94 v2 S = some (r, S') → jX G jP 185 94 lv [] μ Q) (K : ∀ μ', sR S' μ' → Q (srV r) μ') : ∀ (v2 : Int32) (v3 : Int32) (v4 : (Nat × Nat)) (w0 : Int32) (S : sS) (lv : jL) (μ : jS), jld lv 0 = some (.ref (spl 33 0 0)) → jld lv 2 = some (.int v2) → jld lv 3 = some (.int v3) → jld lv 4 = some (.ref (spl 54 v4.1 v4.2)) → sR S μ → F_185_223 G t k94 v2 v3 v4 w0 S = some (r, S') → jX G jP 185 223 lv [.int w0] μ Q := by
  intro v2 v3 v4 w0 S lv μ l0 l2 l3 l4 R h
  unfold F_185_223 at h
  refine jX.s1 (k := 5) (pc' := 225) (by rfl) (by rfl) (by rfl) (fun lv l5 kp => (?_ : jX G jP 185 225 lv [] μ Q))
  replace l0 := kp 0 _ l0 (by rfl) (by first | rfl | simp [soR_cat])
  replace l2 := kp 2 _ l2 (by rfl) (by first | rfl | simp [soR_cat])
  replace l3 := kp 3 _ l3 (by rfl) (by first | rfl | simp [soR_cat])
  replace l4 := kp 4 _ l4 (by rfl) (by first | rfl | simp [soR_cat])
  refine jX.lr l4 (by rfl) (by rfl) (?_ : jX G jP 185 227 lv [.ref (spl 54 v4.1 v4.2)] μ Q)
  obtain ⟨g1, h⟩ := jif_some h
  refine jX.sg R g1 (by rfl) (by rfl) (by rfl) (by rfl) (by rfl) (?_ : jX G jP 185 230 lv [.int (S.1 54 v4.1 v4.2 0)] μ Q)
  refine jX.ic (v := nI 4) (n := 1) (by rfl) (by rfl) (by decide) (?_ : jX G jP 185 231 lv [.int (nI 4), .int (S.1 54 v4.1 v4.2 0)] μ Q)
  rcases bif_or h with ⟨hc, h⟩ | ⟨hc, h⟩
  · refine jX.b2t hc (by rfl) (by rfl) (by rfl) (?_ : jX G jP 185 275 lv [] μ Q)
    exact F_185_275_ok hk94 K v2 v3 v4 w0 _ _ _ l0 l2 l3 l4 l5 R h
  · refine jX.b2f hc (by rfl) (by rfl) (by rfl) (?_ : jX G jP 185 234 lv [] μ Q)
    refine jX.li l5 (by rfl) (by rfl) (?_ : jX G jP 185 236 lv [.int w0] μ Q)
    rcases bif_or h with ⟨hc, h⟩ | ⟨hc, h⟩
    · refine jX.b1t hc (by rfl) (by rfl) (by rfl) (?_ : jX G jP 185 275 lv [] μ Q)
      exact F_185_275_ok hk94 K v2 v3 v4 w0 _ _ _ l0 l2 l3 l4 l5 R h
    · refine jX.b1f hc (by rfl) (by rfl) (by rfl) (?_ : jX G jP 185 239 lv [] μ Q)
      refine jX.lrn l0 (by rfl) (by rfl) (?_ : jX G jP 185 240 lv [.ref (spl 33 0 0)] μ Q)
      refine jX.lin l3 (by rfl) (by rfl) (?_ : jX G jP 185 241 lv [.int v3, .ref (spl 33 0 0)] μ Q)
      refine jX.lin l2 (by rfl) (by rfl) (?_ : jX G jP 185 242 lv [.int v2, .int v3, .ref (spl 33 0 0)] μ Q)
      refine jX.ic (v := nI 1) (n := 1) (by rfl) (by rfl) (by decide) (?_ : jX G jP 185 243 lv [.int (nI 1), .int v2, .int v3, .ref (spl 33 0 0)] μ Q)
      obtain ⟨q2, e2, h⟩ := sbd h
      refine jX.c1 (v := .int q2.1) (by rfl) (by rfl) (by rfl) (by rfl) (by rfl) (by rfl) (by rfl) (R.rec (by rfl) (by rfl)) (Nat.le_of_ble_eq_true rfl) (Nat.le_of_ble_eq_true rfl) (F_174_ok R e2 (fun μ R => ⟨rfl, (?_ : jX G jP 185 246 lv [.int q2.1] μ Q)⟩))
      rcases bif_or h with ⟨hc, h⟩ | ⟨hc, h⟩
      · refine jX.b1t hc (by rfl) (by rfl) (by rfl) (?_ : jX G jP 185 275 lv [] μ Q)
        exact F_185_275_ok hk94 K v2 v3 v4 w0 _ _ _ l0 l2 l3 l4 l5 R h
      · refine jX.b1f hc (by rfl) (by rfl) (by rfl) (?_ : jX G jP 185 249 lv [] μ Q)
        refine jX.lrn l0 (by rfl) (by rfl) (?_ : jX G jP 185 250 lv [.ref (spl 33 0 0)] μ Q)
        refine jX.lr l4 (by rfl) (by rfl) (?_ : jX G jP 185 252 lv [.ref (spl 54 v4.1 v4.2), .ref (spl 33 0 0)] μ Q)
        refine jX.lin l2 (by rfl) (by rfl) (?_ : jX G jP 185 253 lv [.int v2, .ref (spl 54 v4.1 v4.2), .ref (spl 33 0 0)] μ Q)
        refine jX.ic (v := nI 1) (n := 1) (by rfl) (by rfl) (by decide) (?_ : jX G jP 185 254 lv [.int (nI 1), .int v2, .ref (spl 54 v4.1 v4.2), .ref (spl 33 0 0)] μ Q)
        obtain ⟨q3, e3, h⟩ := sbd h
        refine jX.c1 (v := .int q3.1) (by rfl) (by rfl) (by rfl) (by rfl) (by rfl) (by rfl) (by rfl) (R.rec (by rfl) (by rfl)) (Nat.le_of_ble_eq_true rfl) (Nat.le_of_ble_eq_true rfl) (F_173_ok R e3 (fun μ R => ⟨rfl, (?_ : jX G jP 185 257 lv [.int q3.1] μ Q)⟩))
        refine jX.lrn l0 (by rfl) (by rfl) (?_ : jX G jP 185 258 lv [.ref (spl 33 0 0), .int q3.1] μ Q)
        refine jX.lr l4 (by rfl) (by rfl) (?_ : jX G jP 185 260 lv [.ref (spl 54 v4.1 v4.2), .ref (spl 33 0 0), .int q3.1] μ Q)
        refine jX.lin l2 (by rfl) (by rfl) (?_ : jX G jP 185 261 lv [.int v2, .ref (spl 54 v4.1 v4.2), .ref (spl 33 0 0), .int q3.1] μ Q)
        refine jX.ic (v := nI 0) (n := 1) (by rfl) (by rfl) (by decide) (?_ : jX G jP 185 262 lv [.int (nI 0), .int v2, .ref (spl 54 v4.1 v4.2), .ref (spl 33 0 0), .int q3.1] μ Q)
        obtain ⟨q4, e4, h⟩ := sbd h
        refine jX.c1 (v := .int q4.1) (by rfl) (by rfl) (by rfl) (by rfl) (by rfl) (by rfl) (by rfl) (R.rec (by rfl) (by rfl)) (Nat.le_of_ble_eq_true rfl) (Nat.le_of_ble_eq_true rfl) (F_173_ok R e4 (fun μ R => ⟨rfl, (?_ : jX G jP 185 265 lv [.int q4.1, .int q3.1] μ Q)⟩))
        rcases bif_or h with ⟨hc, h⟩ | ⟨hc, h⟩
        · refine jX.b2t hc (by rfl) (by rfl) (by rfl) (?_ : jX G jP 185 272 lv [] μ Q)
          refine jX.ic (v := nI 0) (n := 1) (by rfl) (by rfl) (by decide) (?_ : jX G jP 185 273 lv [.int (nI 0)] μ Q)
          exact F_185_273_ok hk94 K v2 v3 v4 (nI 0) _ _ _ l0 l2 l3 l4 R h
        · refine jX.b2f hc (by rfl) (by rfl) (by rfl) (?_ : jX G jP 185 268 lv [] μ Q)
          refine jX.ic (v := nI 1) (n := 1) (by rfl) (by rfl) (by decide) (?_ : jX G jP 185 269 lv [.int (nI 1)] μ Q)
          refine jX.go (by rfl) (by rfl) (by rfl) (?_ : jX G jP 185 273 lv [.int (nI 1)] μ Q)
          exact F_185_273_ok hk94 K v2 v3 v4 (nI 1) _ _ _ l0 l2 l3 l4 R h
def F_185_99 (G : jG) (t : Nat) (k94 : Int32 → sS → Option (Unit × sS)) : Nat → Int32 → Int32 → Int32 → sS → Option (Unit × sS)
  | 0 => fun _ _ _ _ => none
  | tt + 1 => fun v2 v3 v4 S => bif jcmp .ge v4 (nI 16) then (bif jcmp .ge v3 0 then (jif (jin v3 16) ((F_174 G t v3 v2 (nI 0) S).bind (fun q2 => bif jcmp .ne q2.1 0 then (F_185_223 G t k94 v2 v3 (v3.toNatClampNeg, 0) (nI 0) q2.2) else (F_185_223 G t k94 v2 v3 (v3.toNatClampNeg, 0) (nI 1) q2.2)))) else (some ((), S))) else (jif (jin v4 16) (jif (sex S.2.2.2.1 54 v4.toNatClampNeg 0) (bif jcmp .lt (S.1 54 v4.toNatClampNeg 0 0) (nI 2) then (F_185_189 G t k94 (F_185_99 G t k94 tt) v2 v3 v4 S) else (jif (jin v4 16) (bif jcmp .gt (S.1 54 v4.toNatClampNeg 0 0) (nI 4) then (F_185_189 G t k94 (F_185_99 G t k94 tt) v2 v3 v4 S) else ((F_174 G t v4 v2 (nI 1) S).bind (fun q6 => bif jcmp .ne q6.1 0 then (F_185_159 G t k94 (F_185_99 G t k94 tt) v2 v3 v4 q6.2) else ((F_174 G t v4 v2 (nI 0) q6.2).bind (fun q7 => bif jcmp .ne q7.1 0 then (F_185_159 G t k94 (F_185_99 G t k94 tt) v2 v3 v4 q7.2) else (F_185_189 G t k94 (F_185_99 G t k94 tt) v2 v3 v4 q7.2))))))))))
theorem F_185_99_ok {G : jG} {t : Nat} {k94 : Int32 → sS → Option (Unit × sS)} {r : Unit} {S' : sS} {Q : Option Value ⊕ Nat → jS → Prop} (hk94 : ∀ (v2 : Int32) (S : sS) (lv : jL) (μ : jS), jld lv 0 = some (.ref (spl 33 0 0)) → jld lv 2 = some (.int v2) → sR S μ → k94 v2 S = some (r, S') → jX G jP 185 94 lv [] μ Q) (K : ∀ μ', sR S' μ' → Q (srV r) μ') : ∀ tt : Nat, ∀ (v2 : Int32) (v3 : Int32) (v4 : Int32) (S : sS) (lv : jL) (μ : jS), jld lv 0 = some (.ref (spl 33 0 0)) → jld lv 2 = some (.int v2) → jld lv 3 = some (.int v3) → jld lv 4 = some (.int v4) → sR S μ → F_185_99 G t k94 tt v2 v3 v4 S = some (r, S') → jX G jP 185 99 lv [] μ Q := by
  intro tt
  induction tt with
  | zero =>
    intro v2 v3 v4 S lv μ l0 l2 l3 l4 R h
    rw [F_185_99] at h
    cases h
  | succ tt ih =>
    intro v2 v3 v4 S lv μ l0 l2 l3 l4 R h
    rw [F_185_99] at h
    refine jX.li l4 (by rfl) (by rfl) (?_ : jX G jP 185 101 lv [.int v4] μ Q)
    refine jX.ic (v := nI 16) (n := 2) (by rfl) (by rfl) (by decide) (?_ : jX G jP 185 103 lv [.int (nI 16), .int v4] μ Q)
    rcases bif_or h with ⟨hc, h⟩ | ⟨hc, h⟩
    · refine jX.b2t hc (by rfl) (by rfl) (by rfl) (?_ : jX G jP 185 195 lv [] μ Q)
      refine jX.lin l3 (by rfl) (by rfl) (?_ : jX G jP 185 196 lv [.int v3] μ Q)
      rcases bif_or h with ⟨hc, h⟩ | ⟨hc, h⟩
      · refine jX.b1t hc (by rfl) (by rfl) (by rfl) (?_ : jX G jP 185 200 lv [] μ Q)
        refine jX.lrn l0 (by rfl) (by rfl) (?_ : jX G jP 185 201 lv [.ref (spl 33 0 0)] μ Q)
        refine jX.sg R (by rfl) (by rfl) (by rfl) (by rfl) (by rfl) (by rfl) (?_ : jX G jP 185 204 lv [.ref (spl 35 0 0)] μ Q)
        refine jX.lin l3 (by rfl) (by rfl) (?_ : jX G jP 185 205 lv [.int v3, .ref (spl 35 0 0)] μ Q)
        obtain ⟨g1, h⟩ := jif_some h
        refine jX.sar (f := fun q => bif Nat.blt q 16 then some (spl 54 q 0) else none) R (by rfl) (by rfl) (by rfl) (by rfl) g1 (srf_in g1) (?_ : jX G jP 185 206 lv [.ref (spl 54 v3.toNatClampNeg 0)] μ Q)
        refine jX.s1 (k := 4) (pc' := 208) (by rfl) (by rfl) (by rfl) (fun lv l4 kp => (?_ : jX G jP 185 208 lv [] μ Q))
        replace l0 := kp 0 _ l0 (by rfl) (by first | rfl | simp [soR_cat])
        replace l2 := kp 2 _ l2 (by rfl) (by first | rfl | simp [soR_cat])
        replace l3 := kp 3 _ l3 (by rfl) (by first | rfl | simp [soR_cat])
        refine jX.lrn l0 (by rfl) (by rfl) (?_ : jX G jP 185 209 lv [.ref (spl 33 0 0)] μ Q)
        refine jX.lin l3 (by rfl) (by rfl) (?_ : jX G jP 185 210 lv [.int v3, .ref (spl 33 0 0)] μ Q)
        refine jX.lin l2 (by rfl) (by rfl) (?_ : jX G jP 185 211 lv [.int v2, .int v3, .ref (spl 33 0 0)] μ Q)
        refine jX.ic (v := nI 0) (n := 1) (by rfl) (by rfl) (by decide) (?_ : jX G jP 185 212 lv [.int (nI 0), .int v2, .int v3, .ref (spl 33 0 0)] μ Q)
        obtain ⟨q2, e2, h⟩ := sbd h
        refine jX.c1 (v := .int q2.1) (by rfl) (by rfl) (by rfl) (by rfl) (by rfl) (by rfl) (by rfl) (R.rec (by rfl) (by rfl)) (Nat.le_of_ble_eq_true rfl) (Nat.le_of_ble_eq_true rfl) (F_174_ok R e2 (fun μ R => ⟨rfl, (?_ : jX G jP 185 215 lv [.int q2.1] μ Q)⟩))
        rcases bif_or h with ⟨hc, h⟩ | ⟨hc, h⟩
        · refine jX.b1t hc (by rfl) (by rfl) (by rfl) (?_ : jX G jP 185 222 lv [] μ Q)
          refine jX.ic (v := nI 0) (n := 1) (by rfl) (by rfl) (by decide) (?_ : jX G jP 185 223 lv [.int (nI 0)] μ Q)
          exact F_185_223_ok hk94 K v2 v3 (v3.toNatClampNeg, 0) (nI 0) _ _ _ l0 l2 l3 l4 R h
        · refine jX.b1f hc (by rfl) (by rfl) (by rfl) (?_ : jX G jP 185 218 lv [] μ Q)
          refine jX.ic (v := nI 1) (n := 1) (by rfl) (by rfl) (by decide) (?_ : jX G jP 185 219 lv [.int (nI 1)] μ Q)
          refine jX.go (by rfl) (by rfl) (by rfl) (?_ : jX G jP 185 223 lv [.int (nI 1)] μ Q)
          exact F_185_223_ok hk94 K v2 v3 (v3.toNatClampNeg, 0) (nI 1) _ _ _ l0 l2 l3 l4 R h
      · refine jX.b1f hc (by rfl) (by rfl) (by rfl) (?_ : jX G jP 185 199 lv [] μ Q)
        exact jX.ret (by rfl) (by rfl) (by rfl) (by rfl) (sretv (f := srV) h K R)
    · refine jX.b2f hc (by rfl) (by rfl) (by rfl) (?_ : jX G jP 185 106 lv [] μ Q)
      refine jX.lrn l0 (by rfl) (by rfl) (?_ : jX G jP 185 107 lv [.ref (spl 33 0 0)] μ Q)
      refine jX.sg R (by rfl) (by rfl) (by rfl) (by rfl) (by rfl) (by rfl) (?_ : jX G jP 185 110 lv [.ref (spl 35 0 0)] μ Q)
      refine jX.li l4 (by rfl) (by rfl) (?_ : jX G jP 185 112 lv [.int v4, .ref (spl 35 0 0)] μ Q)
      obtain ⟨g3, h⟩ := jif_some h
      refine jX.sar (f := fun q => bif Nat.blt q 16 then some (spl 54 q 0) else none) R (by rfl) (by rfl) (by rfl) (by rfl) g3 (srf_in g3) (?_ : jX G jP 185 113 lv [.ref (spl 54 v4.toNatClampNeg 0)] μ Q)
      obtain ⟨g4, h⟩ := jif_some h
      refine jX.sg R g4 (by rfl) (by rfl) (by rfl) (by rfl) (by rfl) (?_ : jX G jP 185 116 lv [.int (S.1 54 v4.toNatClampNeg 0 0)] μ Q)
      refine jX.ic (v := nI 2) (n := 1) (by rfl) (by rfl) (by decide) (?_ : jX G jP 185 117 lv [.int (nI 2), .int (S.1 54 v4.toNatClampNeg 0 0)] μ Q)
      rcases bif_or h with ⟨hc, h⟩ | ⟨hc, h⟩
      · refine jX.b2t hc (by rfl) (by rfl) (by rfl) (?_ : jX G jP 185 189 lv [] μ Q)
        exact F_185_189_ok hk94 ih K v2 v3 v4 _ _ _ l0 l2 l3 l4 R h
      · refine jX.b2f hc (by rfl) (by rfl) (by rfl) (?_ : jX G jP 185 120 lv [] μ Q)
        refine jX.lrn l0 (by rfl) (by rfl) (?_ : jX G jP 185 121 lv [.ref (spl 33 0 0)] μ Q)
        refine jX.sg R (by rfl) (by rfl) (by rfl) (by rfl) (by rfl) (by rfl) (?_ : jX G jP 185 124 lv [.ref (spl 35 0 0)] μ Q)
        refine jX.li l4 (by rfl) (by rfl) (?_ : jX G jP 185 126 lv [.int v4, .ref (spl 35 0 0)] μ Q)
        obtain ⟨g5, h⟩ := jif_some h
        refine jX.sar (f := fun q => bif Nat.blt q 16 then some (spl 54 q 0) else none) R (by rfl) (by rfl) (by rfl) (by rfl) g5 (srf_in g5) (?_ : jX G jP 185 127 lv [.ref (spl 54 v4.toNatClampNeg 0)] μ Q)
        refine jX.sg R g4 (by rfl) (by rfl) (by rfl) (by rfl) (by rfl) (?_ : jX G jP 185 130 lv [.int (S.1 54 v4.toNatClampNeg 0 0)] μ Q)
        refine jX.ic (v := nI 4) (n := 1) (by rfl) (by rfl) (by decide) (?_ : jX G jP 185 131 lv [.int (nI 4), .int (S.1 54 v4.toNatClampNeg 0 0)] μ Q)
        rcases bif_or h with ⟨hc, h⟩ | ⟨hc, h⟩
        · refine jX.b2t hc (by rfl) (by rfl) (by rfl) (?_ : jX G jP 185 189 lv [] μ Q)
          exact F_185_189_ok hk94 ih K v2 v3 v4 _ _ _ l0 l2 l3 l4 R h
        · refine jX.b2f hc (by rfl) (by rfl) (by rfl) (?_ : jX G jP 185 134 lv [] μ Q)
          refine jX.lrn l0 (by rfl) (by rfl) (?_ : jX G jP 185 135 lv [.ref (spl 33 0 0)] μ Q)
          refine jX.li l4 (by rfl) (by rfl) (?_ : jX G jP 185 137 lv [.int v4, .ref (spl 33 0 0)] μ Q)
          refine jX.lin l2 (by rfl) (by rfl) (?_ : jX G jP 185 138 lv [.int v2, .int v4, .ref (spl 33 0 0)] μ Q)
          refine jX.ic (v := nI 1) (n := 1) (by rfl) (by rfl) (by decide) (?_ : jX G jP 185 139 lv [.int (nI 1), .int v2, .int v4, .ref (spl 33 0 0)] μ Q)
          obtain ⟨q6, e6, h⟩ := sbd h
          refine jX.c1 (v := .int q6.1) (by rfl) (by rfl) (by rfl) (by rfl) (by rfl) (by rfl) (by rfl) (R.rec (by rfl) (by rfl)) (Nat.le_of_ble_eq_true rfl) (Nat.le_of_ble_eq_true rfl) (F_174_ok R e6 (fun μ R => ⟨rfl, (?_ : jX G jP 185 142 lv [.int q6.1] μ Q)⟩))
          rcases bif_or h with ⟨hc, h⟩ | ⟨hc, h⟩
          · refine jX.b1t hc (by rfl) (by rfl) (by rfl) (?_ : jX G jP 185 159 lv [] μ Q)
            exact F_185_159_ok hk94 ih K v2 v3 v4 _ _ _ l0 l2 l3 l4 R h
          · refine jX.b1f hc (by rfl) (by rfl) (by rfl) (?_ : jX G jP 185 145 lv [] μ Q)
            refine jX.lrn l0 (by rfl) (by rfl) (?_ : jX G jP 185 146 lv [.ref (spl 33 0 0)] μ Q)
            refine jX.li l4 (by rfl) (by rfl) (?_ : jX G jP 185 148 lv [.int v4, .ref (spl 33 0 0)] μ Q)
            refine jX.lin l2 (by rfl) (by rfl) (?_ : jX G jP 185 149 lv [.int v2, .int v4, .ref (spl 33 0 0)] μ Q)
            refine jX.ic (v := nI 0) (n := 1) (by rfl) (by rfl) (by decide) (?_ : jX G jP 185 150 lv [.int (nI 0), .int v2, .int v4, .ref (spl 33 0 0)] μ Q)
            obtain ⟨q7, e7, h⟩ := sbd h
            refine jX.c1 (v := .int q7.1) (by rfl) (by rfl) (by rfl) (by rfl) (by rfl) (by rfl) (by rfl) (R.rec (by rfl) (by rfl)) (Nat.le_of_ble_eq_true rfl) (Nat.le_of_ble_eq_true rfl) (F_174_ok R e7 (fun μ R => ⟨rfl, (?_ : jX G jP 185 153 lv [.int q7.1] μ Q)⟩))
            rcases bif_or h with ⟨hc, h⟩ | ⟨hc, h⟩
            · refine jX.b1t hc (by rfl) (by rfl) (by rfl) (?_ : jX G jP 185 159 lv [] μ Q)
              exact F_185_159_ok hk94 ih K v2 v3 v4 _ _ _ l0 l2 l3 l4 R h
            · refine jX.b1f hc (by rfl) (by rfl) (by rfl) (?_ : jX G jP 185 156 lv [] μ Q)
              refine jX.go (by rfl) (by rfl) (by rfl) (?_ : jX G jP 185 189 lv [] μ Q)
              exact F_185_189_ok hk94 ih K v2 v3 v4 _ _ _ l0 l2 l3 l4 R h
def F_185_94 (G : jG) (t : Nat) : Nat → Int32 → sS → Option (Unit × sS)
  | 0 => fun _ _ => none
  | tt + 1 => fun v2 S => F_185_99 G t (F_185_94 G t tt) t v2 (-1) (nI 0) S
theorem F_185_94_ok {G : jG} {t : Nat} {r : Unit} {S' : sS} {Q : Option Value ⊕ Nat → jS → Prop} (K : ∀ μ', sR S' μ' → Q (srV r) μ') : ∀ tt : Nat, ∀ (v2 : Int32) (S : sS) (lv : jL) (μ : jS), jld lv 0 = some (.ref (spl 33 0 0)) → jld lv 2 = some (.int v2) → sR S μ → F_185_94 G t tt v2 S = some (r, S') → jX G jP 185 94 lv [] μ Q := by
  intro tt
  induction tt with
  | zero =>
    intro v2 S lv μ l0 l2 R h
    rw [F_185_94] at h
    cases h
  | succ tt ih =>
    intro v2 S lv μ l0 l2 R h
    rw [F_185_94] at h
    refine jX.ic (v := (-1)) (n := 1) (by rfl) (by rfl) (by decide) (?_ : jX G jP 185 95 lv [.int (-1)] μ Q)
    refine jX.s1 (k := 3) (pc' := 96) (by rfl) (by rfl) (by rfl) (fun lv l3 kp => (?_ : jX G jP 185 96 lv [] μ Q))
    replace l0 := kp 0 _ l0 (by rfl) (by first | rfl | simp [soR_cat])
    replace l2 := kp 2 _ l2 (by rfl) (by first | rfl | simp [soR_cat])
    refine jX.ic (v := nI 0) (n := 1) (by rfl) (by rfl) (by decide) (?_ : jX G jP 185 97 lv [.int (nI 0)] μ Q)
    refine jX.s1 (k := 4) (pc' := 99) (by rfl) (by rfl) (by rfl) (fun lv l4 kp => (?_ : jX G jP 185 99 lv [] μ Q))
    replace l0 := kp 0 _ l0 (by rfl) (by first | rfl | simp [soR_cat])
    replace l2 := kp 2 _ l2 (by rfl) (by first | rfl | simp [soR_cat])
    replace l3 := kp 3 _ l3 (by rfl) (by first | rfl | simp [soR_cat])
    exact F_185_99_ok ih K _ v2 (-1) (nI 0) _ _ _ l0 l2 l3 l4 R h
def F_185 (G : jG) (t : Nat) (v1 : (Nat × Nat)) (S : sS) : Option (Unit × sS) := (F_156 G t v1 (nI 1) S).bind (fun q1 => bif jcmp .ne q1.1 0 then (jif (jin (nI 0) 16) (jif (jin (nI 0) 16) (bif jcmp .ne (q1.2.1 47 0 0 (nI 0).toNatClampNeg) (nI 1) then (jif (jin (nI 0) 16) (jif (jin (nI 0) 16) ((F_170 G t (q1.2.1 47 0 0 (nI 0).toNatClampNeg) (q1.2.2.1 48 0 0 (nI 0).toNatClampNeg) (nI 3) q1.2).bind (fun q6 => (F_158 G t v1 q6.1 q6.2).bind (fun q7 => bif jcmp .ne q7.1 0 then (jif (jin ((q1.2.2.1 48 0 0 (nI 0).toNatClampNeg).toInt32) 1300) (jif (sex q7.2.2.2.2.1 51 (((q1.2.2.1 48 0 0 (nI 0).toNatClampNeg).toInt32).toNatClampNeg) 0) (bif jcmp .eq (q7.2.1 51 (((q1.2.2.1 48 0 0 (nI 0).toNatClampNeg).toInt32).toNatClampNeg) 0 4) 0 then (jif (jin ((q1.2.2.1 48 0 0 (nI 0).toNatClampNeg).toInt32) 1300) (F_185_94 G t t ((q1.2.2.1 48 0 0 (nI 0).toNatClampNeg).toInt32) (siI q7.2 51 (((q1.2.2.1 48 0 0 (nI 0).toNatClampNeg).toInt32).toNatClampNeg) 0 4 (nI 1)))) else ((F_155 G t v1 (-4) q7.2).bind (fun q11 => some ((), q11.2)))))) else (some ((), q7.2))))))) else ((F_155 G t v1 (-4) q1.2).bind (fun q12 => some ((), q12.2)))))) else (some ((), q1.2)))
theorem F_185_ok {G : jG} {t : Nat} {v1 : (Nat × Nat)} {S : sS} {r : Unit} {S' : sS} {μ : jS} {Q : Option Value ⊕ Nat → jS → Prop} (R : sR S μ) (h : F_185 G t v1 S = some (r, S')) (K : ∀ μ', sR S' μ' → Q (srV r) μ') : jX G jP 185 0 (lv_args 0 [.ref (spl 33 0 0), .ref (spl 54 v1.1 v1.2)]) [] μ Q := by
  unfold F_185 at h
  have l0 : jld (lv_args 0 [.ref (spl 33 0 0), .ref (spl 54 v1.1 v1.2)]) 0 = some (.ref (spl 33 0 0)) := by rfl
  have l1 : jld (lv_args 0 [.ref (spl 33 0 0), .ref (spl 54 v1.1 v1.2)]) 1 = some (.ref (spl 54 v1.1 v1.2)) := by rfl
  generalize lv_args 0 [.ref (spl 33 0 0), .ref (spl 54 v1.1 v1.2)] = lv at *
  refine jX.lrn l0 (by rfl) (by rfl) (?_ : jX G jP 185 1 lv [.ref (spl 33 0 0)] μ Q)
  refine jX.lrn l1 (by rfl) (by rfl) (?_ : jX G jP 185 2 lv [.ref (spl 54 v1.1 v1.2), .ref (spl 33 0 0)] μ Q)
  refine jX.ic (v := nI 1) (n := 1) (by rfl) (by rfl) (by decide) (?_ : jX G jP 185 3 lv [.int (nI 1), .ref (spl 54 v1.1 v1.2), .ref (spl 33 0 0)] μ Q)
  obtain ⟨q1, e1, h⟩ := sbd h
  refine jX.c1 (v := .int q1.1) (by rfl) (by rfl) (by rfl) (by rfl) (by rfl) (by rfl) (by rfl) (R.rec (by rfl) (by rfl)) (Nat.le_of_ble_eq_true rfl) (Nat.le_of_ble_eq_true rfl) (F_156_ok R e1 (fun μ R => ⟨rfl, (?_ : jX G jP 185 6 lv [.int q1.1] μ Q)⟩))
  rcases bif_or h with ⟨hc, h⟩ | ⟨hc, h⟩
  · refine jX.b1t hc (by rfl) (by rfl) (by rfl) (?_ : jX G jP 185 10 lv [] μ Q)
    refine jX.lrn l0 (by rfl) (by rfl) (?_ : jX G jP 185 11 lv [.ref (spl 33 0 0)] μ Q)
    refine jX.sg R (by rfl) (by rfl) (by rfl) (by rfl) (by rfl) (by rfl) (?_ : jX G jP 185 14 lv [.ref (spl 48 0 0)] μ Q)
    refine jX.ic (v := nI 0) (n := 1) (by rfl) (by rfl) (by decide) (?_ : jX G jP 185 15 lv [.int (nI 0), .ref (spl 48 0 0)] μ Q)
    obtain ⟨g2, h⟩ := jif_some h
    refine jX.sal R (by rfl) (by rfl) (by rfl) (by rfl) g2 (?_ : jX G jP 185 16 lv [.long (q1.2.2.1 48 0 0 (nI 0).toNatClampNeg)] μ Q)
    refine jX.go (by rfl) (by rfl) (by rfl) (?_ : jX G jP 185 17 lv [.int ((q1.2.2.1 48 0 0 (nI 0).toNatClampNeg).toInt32)] μ Q)
    refine jX.s1 (k := 2) (pc' := 18) (by rfl) (by rfl) (by rfl) (fun lv l2 kp => (?_ : jX G jP 185 18 lv [] μ Q))
    replace l0 := kp 0 _ l0 (by rfl) (by first | rfl | simp [soR_cat])
    replace l1 := kp 1 _ l1 (by rfl) (by first | rfl | simp [soR_cat])
    refine jX.lrn l0 (by rfl) (by rfl) (?_ : jX G jP 185 19 lv [.ref (spl 33 0 0)] μ Q)
    refine jX.sg R (by rfl) (by rfl) (by rfl) (by rfl) (by rfl) (by rfl) (?_ : jX G jP 185 22 lv [.ref (spl 47 0 0)] μ Q)
    refine jX.ic (v := nI 0) (n := 1) (by rfl) (by rfl) (by decide) (?_ : jX G jP 185 23 lv [.int (nI 0), .ref (spl 47 0 0)] μ Q)
    obtain ⟨g3, h⟩ := jif_some h
    refine jX.sai R (by rfl) (by rfl) (by rfl) (by rfl) g3 (?_ : jX G jP 185 24 lv [.int (q1.2.1 47 0 0 (nI 0).toNatClampNeg)] μ Q)
    refine jX.ic (v := nI 1) (n := 1) (by rfl) (by rfl) (by decide) (?_ : jX G jP 185 25 lv [.int (nI 1), .int (q1.2.1 47 0 0 (nI 0).toNatClampNeg)] μ Q)
    rcases bif_or h with ⟨hc, h⟩ | ⟨hc, h⟩
    · refine jX.b2t hc (by rfl) (by rfl) (by rfl) (?_ : jX G jP 185 37 lv [] μ Q)
      refine jX.lrn l0 (by rfl) (by rfl) (?_ : jX G jP 185 38 lv [.ref (spl 33 0 0)] μ Q)
      refine jX.lrn l1 (by rfl) (by rfl) (?_ : jX G jP 185 39 lv [.ref (spl 54 v1.1 v1.2), .ref (spl 33 0 0)] μ Q)
      refine jX.lrn l0 (by rfl) (by rfl) (?_ : jX G jP 185 40 lv [.ref (spl 33 0 0), .ref (spl 54 v1.1 v1.2), .ref (spl 33 0 0)] μ Q)
      refine jX.lrn l0 (by rfl) (by rfl) (?_ : jX G jP 185 41 lv [.ref (spl 33 0 0), .ref (spl 33 0 0), .ref (spl 54 v1.1 v1.2), .ref (spl 33 0 0)] μ Q)
      refine jX.sg R (by rfl) (by rfl) (by rfl) (by rfl) (by rfl) (by rfl) (?_ : jX G jP 185 44 lv [.ref (spl 47 0 0), .ref (spl 33 0 0), .ref (spl 54 v1.1 v1.2), .ref (spl 33 0 0)] μ Q)
      refine jX.ic (v := nI 0) (n := 1) (by rfl) (by rfl) (by decide) (?_ : jX G jP 185 45 lv [.int (nI 0), .ref (spl 47 0 0), .ref (spl 33 0 0), .ref (spl 54 v1.1 v1.2), .ref (spl 33 0 0)] μ Q)
      obtain ⟨g4, h⟩ := jif_some h
      refine jX.sai R (by rfl) (by rfl) (by rfl) (by rfl) g4 (?_ : jX G jP 185 46 lv [.int (q1.2.1 47 0 0 (nI 0).toNatClampNeg), .ref (spl 33 0 0), .ref (spl 54 v1.1 v1.2), .ref (spl 33 0 0)] μ Q)
      refine jX.lrn l0 (by rfl) (by rfl) (?_ : jX G jP 185 47 lv [.ref (spl 33 0 0), .int (q1.2.1 47 0 0 (nI 0).toNatClampNeg), .ref (spl 33 0 0), .ref (spl 54 v1.1 v1.2), .ref (spl 33 0 0)] μ Q)
      refine jX.sg R (by rfl) (by rfl) (by rfl) (by rfl) (by rfl) (by rfl) (?_ : jX G jP 185 50 lv [.ref (spl 48 0 0), .int (q1.2.1 47 0 0 (nI 0).toNatClampNeg), .ref (spl 33 0 0), .ref (spl 54 v1.1 v1.2), .ref (spl 33 0 0)] μ Q)
      refine jX.ic (v := nI 0) (n := 1) (by rfl) (by rfl) (by decide) (?_ : jX G jP 185 51 lv [.int (nI 0), .ref (spl 48 0 0), .int (q1.2.1 47 0 0 (nI 0).toNatClampNeg), .ref (spl 33 0 0), .ref (spl 54 v1.1 v1.2), .ref (spl 33 0 0)] μ Q)
      obtain ⟨g5, h⟩ := jif_some h
      refine jX.sal R (by rfl) (by rfl) (by rfl) (by rfl) g5 (?_ : jX G jP 185 52 lv [.long (q1.2.2.1 48 0 0 (nI 0).toNatClampNeg), .int (q1.2.1 47 0 0 (nI 0).toNatClampNeg), .ref (spl 33 0 0), .ref (spl 54 v1.1 v1.2), .ref (spl 33 0 0)] μ Q)
      refine jX.ic (v := nI 3) (n := 1) (by rfl) (by rfl) (by decide) (?_ : jX G jP 185 53 lv [.int (nI 3), .long (q1.2.2.1 48 0 0 (nI 0).toNatClampNeg), .int (q1.2.1 47 0 0 (nI 0).toNatClampNeg), .ref (spl 33 0 0), .ref (spl 54 v1.1 v1.2), .ref (spl 33 0 0)] μ Q)
      obtain ⟨q6, e6, h⟩ := sbd h
      refine jX.c1 (v := .int q6.1) (by rfl) (by rfl) (by rfl) (by rfl) (by rfl) (by rfl) (by rfl) (R.rec (by rfl) (by rfl)) (Nat.le_of_ble_eq_true rfl) (Nat.le_of_ble_eq_true rfl) (F_170_ok R e6 (fun μ R => ⟨rfl, (?_ : jX G jP 185 56 lv [.int q6.1, .ref (spl 54 v1.1 v1.2), .ref (spl 33 0 0)] μ Q)⟩))
      obtain ⟨q7, e7, h⟩ := sbd h
      refine jX.c1 (v := .int q7.1) (by rfl) (by rfl) (by rfl) (by rfl) (by rfl) (by rfl) (by rfl) (R.rec (by rfl) (by rfl)) (Nat.le_of_ble_eq_true rfl) (Nat.le_of_ble_eq_true rfl) (F_158_ok R e7 (fun μ R => ⟨rfl, (?_ : jX G jP 185 59 lv [.int q7.1] μ Q)⟩))
      rcases bif_or h with ⟨hc, h⟩ | ⟨hc, h⟩
      · refine jX.b1t hc (by rfl) (by rfl) (by rfl) (?_ : jX G jP 185 63 lv [] μ Q)
        refine jX.lrn l0 (by rfl) (by rfl) (?_ : jX G jP 185 64 lv [.ref (spl 33 0 0)] μ Q)
        refine jX.sg R (by rfl) (by rfl) (by rfl) (by rfl) (by rfl) (by rfl) (?_ : jX G jP 185 67 lv [.ref (spl 34 0 0)] μ Q)
        refine jX.lin l2 (by rfl) (by rfl) (?_ : jX G jP 185 68 lv [.int ((q1.2.2.1 48 0 0 (nI 0).toNatClampNeg).toInt32), .ref (spl 34 0 0)] μ Q)
        obtain ⟨g8, h⟩ := jif_some h
        refine jX.sar (f := fun q => bif Nat.blt q 1300 then some (spl 51 q 0) else none) R (by rfl) (by rfl) (by rfl) (by rfl) g8 (srf_in g8) (?_ : jX G jP 185 69 lv [.ref (spl 51 (((q1.2.2.1 48 0 0 (nI 0).toNatClampNeg).toInt32).toNatClampNeg) 0)] μ Q)
        obtain ⟨g9, h⟩ := jif_some h
        refine jX.sg R g9 (by rfl) (by rfl) (by rfl) (by rfl) (by rfl) (?_ : jX G jP 185 72 lv [.int (q7.2.1 51 (((q1.2.2.1 48 0 0 (nI 0).toNatClampNeg).toInt32).toNatClampNeg) 0 4)] μ Q)
        rcases bif_or h with ⟨hc, h⟩ | ⟨hc, h⟩
        · refine jX.b1t hc (by rfl) (by rfl) (by rfl) (?_ : jX G jP 185 84 lv [] μ Q)
          refine jX.lrn l0 (by rfl) (by rfl) (?_ : jX G jP 185 85 lv [.ref (spl 33 0 0)] μ Q)
          refine jX.sg R (by rfl) (by rfl) (by rfl) (by rfl) (by rfl) (by rfl) (?_ : jX G jP 185 88 lv [.ref (spl 34 0 0)] μ Q)
          refine jX.lin l2 (by rfl) (by rfl) (?_ : jX G jP 185 89 lv [.int ((q1.2.2.1 48 0 0 (nI 0).toNatClampNeg).toInt32), .ref (spl 34 0 0)] μ Q)
          obtain ⟨g10, h⟩ := jif_some h
          refine jX.sar (f := fun q => bif Nat.blt q 1300 then some (spl 51 q 0) else none) R (by rfl) (by rfl) (by rfl) (by rfl) g10 (srf_in g10) (?_ : jX G jP 185 90 lv [.ref (spl 51 (((q1.2.2.1 48 0 0 (nI 0).toNatClampNeg).toInt32).toNatClampNeg) 0)] μ Q)
          refine jX.ic (v := nI 1) (n := 1) (by rfl) (by rfl) (by decide) (?_ : jX G jP 185 91 lv [.int (nI 1), .ref (spl 51 (((q1.2.2.1 48 0 0 (nI 0).toNatClampNeg).toInt32).toNatClampNeg) 0)] μ Q)
          refine jX.spI R g9 (by rfl) (by rfl) (by rfl) (by rfl) (by rfl) (by rfl) (by rfl) (by rfl) (fun μ R => (?_ : jX G jP 185 94 lv [] μ Q))
          exact F_185_94_ok  K _ ((q1.2.2.1 48 0 0 (nI 0).toNatClampNeg).toInt32) _ _ _ l0 l2 R h
        · refine jX.b1f hc (by rfl) (by rfl) (by rfl) (?_ : jX G jP 185 75 lv [] μ Q)
          refine jX.lrn l0 (by rfl) (by rfl) (?_ : jX G jP 185 76 lv [.ref (spl 33 0 0)] μ Q)
          refine jX.lrn l1 (by rfl) (by rfl) (?_ : jX G jP 185 77 lv [.ref (spl 54 v1.1 v1.2), .ref (spl 33 0 0)] μ Q)
          refine jX.go (by rfl) (by rfl) (by rfl) (?_ : jX G jP 185 80 lv [.long (-4), .ref (spl 54 v1.1 v1.2), .ref (spl 33 0 0)] μ Q)
          obtain ⟨q11, e11, h⟩ := sbd h
          refine jX.cv (by rfl) (by rfl) (by rfl) (by rfl) (by rfl) (by rfl) (by rfl) (R.rec (by rfl) (by rfl)) (Nat.le_of_ble_eq_true rfl) (Nat.le_of_ble_eq_true rfl) (F_155_ok R e11 (fun μ R => ⟨rfl, (?_ : jX G jP 185 83 lv [] μ Q)⟩))
          exact jX.ret (by rfl) (by rfl) (by rfl) (by rfl) (sretv (f := srV) h K R)
      · refine jX.b1f hc (by rfl) (by rfl) (by rfl) (?_ : jX G jP 185 62 lv [] μ Q)
        exact jX.ret (by rfl) (by rfl) (by rfl) (by rfl) (sretv (f := srV) h K R)
    · refine jX.b2f hc (by rfl) (by rfl) (by rfl) (?_ : jX G jP 185 28 lv [] μ Q)
      refine jX.lrn l0 (by rfl) (by rfl) (?_ : jX G jP 185 29 lv [.ref (spl 33 0 0)] μ Q)
      refine jX.lrn l1 (by rfl) (by rfl) (?_ : jX G jP 185 30 lv [.ref (spl 54 v1.1 v1.2), .ref (spl 33 0 0)] μ Q)
      refine jX.go (by rfl) (by rfl) (by rfl) (?_ : jX G jP 185 33 lv [.long (-4), .ref (spl 54 v1.1 v1.2), .ref (spl 33 0 0)] μ Q)
      obtain ⟨q12, e12, h⟩ := sbd h
      refine jX.cv (by rfl) (by rfl) (by rfl) (by rfl) (by rfl) (by rfl) (by rfl) (R.rec (by rfl) (by rfl)) (Nat.le_of_ble_eq_true rfl) (Nat.le_of_ble_eq_true rfl) (F_155_ok R e12 (fun μ R => ⟨rfl, (?_ : jX G jP 185 36 lv [] μ Q)⟩))
      exact jX.ret (by rfl) (by rfl) (by rfl) (by rfl) (sretv (f := srV) h K R)
  · refine jX.b1f hc (by rfl) (by rfl) (by rfl) (?_ : jX G jP 185 9 lv [] μ Q)
    exact jX.ret (by rfl) (by rfl) (by rfl) (by rfl) (sretv (f := srV) h K R)
/-! 186 StrandRuntimeModel.select(LStrandRuntimeModel$Strand;I)V -/
def F_186_89 (G : jG) (t : Nat) (v1 : (Nat × Nat)) (v3 : Int32) (S : sS) : Option (Unit × sS) := (F_156 G t v1 ((nI 3) * v3) S).bind (fun q1 => (F_155 G t v1 (-2) q1.2).bind (fun q2 => some ((), q2.2)))
theorem F_186_89_ok {G : jG} {t : Nat} {r : Unit} {S' : sS} {Q : Option Value ⊕ Nat → jS → Prop} (K : ∀ μ', sR S' μ' → Q (srV r) μ') : ∀ (v1 : (Nat × Nat)) (v3 : Int32) (S : sS) (lv : jL) (μ : jS), jld lv 0 = some (.ref (spl 33 0 0)) → jld lv 1 = some (.ref (spl 54 v1.1 v1.2)) → jld lv 3 = some (.int v3) → sR S μ → F_186_89 G t v1 v3 S = some (r, S') → jX G jP 186 89 lv [] μ Q := by
  intro v1 v3 S lv μ l0 l1 l3 R h
  unfold F_186_89 at h
  refine jX.lrn l0 (by rfl) (by rfl) (?_ : jX G jP 186 90 lv [.ref (spl 33 0 0)] μ Q)
  refine jX.lrn l1 (by rfl) (by rfl) (?_ : jX G jP 186 91 lv [.ref (spl 54 v1.1 v1.2), .ref (spl 33 0 0)] μ Q)
  refine jX.ic (v := nI 3) (n := 1) (by rfl) (by rfl) (by decide) (?_ : jX G jP 186 92 lv [.int (nI 3), .ref (spl 54 v1.1 v1.2), .ref (spl 33 0 0)] μ Q)
  refine jX.lin l3 (by rfl) (by rfl) (?_ : jX G jP 186 93 lv [.int v3, .int (nI 3), .ref (spl 54 v1.1 v1.2), .ref (spl 33 0 0)] μ Q)
  refine jX.go (by rfl) (by rfl) (by rfl) (?_ : jX G jP 186 94 lv [.int ((nI 3) * v3), .ref (spl 54 v1.1 v1.2), .ref (spl 33 0 0)] μ Q)
  obtain ⟨q1, e1, h⟩ := sbd h
  refine jX.c1 (v := .int q1.1) (by rfl) (by rfl) (by rfl) (by rfl) (by rfl) (by rfl) (by rfl) (R.rec (by rfl) (by rfl)) (Nat.le_of_ble_eq_true rfl) (Nat.le_of_ble_eq_true rfl) (F_156_ok R e1 (fun μ R => ⟨rfl, (?_ : jX G jP 186 97 lv [.int q1.1] μ Q)⟩))
  refine jX.go (by rfl) (by rfl) (by rfl) (?_ : jX G jP 186 98 lv [] μ Q)
  refine jX.lrn l0 (by rfl) (by rfl) (?_ : jX G jP 186 99 lv [.ref (spl 33 0 0)] μ Q)
  refine jX.lrn l1 (by rfl) (by rfl) (?_ : jX G jP 186 100 lv [.ref (spl 54 v1.1 v1.2), .ref (spl 33 0 0)] μ Q)
  refine jX.go (by rfl) (by rfl) (by rfl) (?_ : jX G jP 186 103 lv [.long (-2), .ref (spl 54 v1.1 v1.2), .ref (spl 33 0 0)] μ Q)
  obtain ⟨q2, e2, h⟩ := sbd h
  refine jX.cv (by rfl) (by rfl) (by rfl) (by rfl) (by rfl) (by rfl) (by rfl) (R.rec (by rfl) (by rfl)) (Nat.le_of_ble_eq_true rfl) (Nat.le_of_ble_eq_true rfl) (F_155_ok R e2 (fun μ R => ⟨rfl, (?_ : jX G jP 186 106 lv [] μ Q)⟩))
  exact jX.ret (by rfl) (by rfl) (by rfl) (by rfl) (sretv (f := srV) h K R)
def F_186_76 (G : jG) (t : Nat) (k25 : (Nat × Nat) → Int32 → Int32 → (Nat × Nat) → Int32 → Int32 → sS → Option (Unit × sS)) (v1 : (Nat × Nat)) (v2 : Int32) (v3 : Int32) (v4 : (Nat × Nat)) (v5 : Int32) (v6 : Int32) (v7 : Int32) (S : sS) : Option (Unit × sS) := jif (sex S.2.2.2.1 56 v4.1 v4.2) (jif (sex S.2.2.2.1 58 v4.1 v4.2) (jif (jin (v7 + (nI 1)) 16) (bif jcmp .eq (S.1 58 v4.1 v4.2 (v7 + (nI 1)).toNatClampNeg) 0 then (k25 v1 v2 v3 v4 v5 (v6 + Int32.ofInt 1) S) else (F_186_89 G t v1 v3 S))))
theorem F_186_76_ok {G : jG} {t : Nat} {k25 : (Nat × Nat) → Int32 → Int32 → (Nat × Nat) → Int32 → Int32 → sS → Option (Unit × sS)} {r : Unit} {S' : sS} {Q : Option Value ⊕ Nat → jS → Prop} (hk25 : ∀ (v1 : (Nat × Nat)) (v2 : Int32) (v3 : Int32) (v4 : (Nat × Nat)) (v5 : Int32) (v6 : Int32) (S : sS) (lv : jL) (μ : jS), jld lv 0 = some (.ref (spl 33 0 0)) → jld lv 1 = some (.ref (spl 54 v1.1 v1.2)) → jld lv 2 = some (.int v2) → jld lv 3 = some (.int v3) → jld lv 4 = some (.ref (spl 56 v4.1 v4.2)) → jld lv 5 = some (.int v5) → jld lv 6 = some (.int v6) → sR S μ → k25 v1 v2 v3 v4 v5 v6 S = some (r, S') → jX G jP 186 25 lv [] μ Q) (K : ∀ μ', sR S' μ' → Q (srV r) μ') : ∀ (v1 : (Nat × Nat)) (v2 : Int32) (v3 : Int32) (v4 : (Nat × Nat)) (v5 : Int32) (v6 : Int32) (v7 : Int32) (S : sS) (lv : jL) (μ : jS), jld lv 0 = some (.ref (spl 33 0 0)) → jld lv 1 = some (.ref (spl 54 v1.1 v1.2)) → jld lv 2 = some (.int v2) → jld lv 3 = some (.int v3) → jld lv 4 = some (.ref (spl 56 v4.1 v4.2)) → jld lv 5 = some (.int v5) → jld lv 6 = some (.int v6) → jld lv 7 = some (.int v7) → sR S μ → F_186_76 G t k25 v1 v2 v3 v4 v5 v6 v7 S = some (r, S') → jX G jP 186 76 lv [] μ Q := by
  intro v1 v2 v3 v4 v5 v6 v7 S lv μ l0 l1 l2 l3 l4 l5 l6 l7 R h
  unfold F_186_76 at h
  refine jX.lr l4 (by rfl) (by rfl) (?_ : jX G jP 186 78 lv [.ref (spl 56 v4.1 v4.2)] μ Q)
  obtain ⟨g1, h⟩ := jif_some h
  refine jX.sg R g1 (by rfl) (by rfl) (by rfl) (by rfl) (by rfl) (?_ : jX G jP 186 81 lv [.ref (spl 58 v4.1 v4.2)] μ Q)
  refine jX.li l7 (by rfl) (by rfl) (?_ : jX G jP 186 83 lv [.int v7, .ref (spl 58 v4.1 v4.2)] μ Q)
  refine jX.ic (v := nI 1) (n := 1) (by rfl) (by rfl) (by decide) (?_ : jX G jP 186 84 lv [.int (nI 1), .int v7, .ref (spl 58 v4.1 v4.2)] μ Q)
  refine jX.go (by rfl) (by rfl) (by rfl) (?_ : jX G jP 186 85 lv [.int (v7 + (nI 1)), .ref (spl 58 v4.1 v4.2)] μ Q)
  obtain ⟨g2, h⟩ := jif_some h
  obtain ⟨g3, h⟩ := jif_some h
  refine jX.sai R g2 (by rfl) (by rfl) (by rfl) g3 (?_ : jX G jP 186 86 lv [.int (S.1 58 v4.1 v4.2 (v7 + (nI 1)).toNatClampNeg)] μ Q)
  rcases bif_or h with ⟨hc, h⟩ | ⟨hc, h⟩
  · refine jX.b1t hc (by rfl) (by rfl) (by rfl) (?_ : jX G jP 186 107 lv [] μ Q)
    refine jX.inc l6 (by rfl) (by rfl) (by rfl) (fun lv l6 kp => (?_ : jX G jP 186 110 lv [] μ Q))
    replace l0 := kp 0 _ l0 (by rfl) (by first | rfl | simp [soR_cat])
    replace l1 := kp 1 _ l1 (by rfl) (by first | rfl | simp [soR_cat])
    replace l2 := kp 2 _ l2 (by rfl) (by first | rfl | simp [soR_cat])
    replace l3 := kp 3 _ l3 (by rfl) (by first | rfl | simp [soR_cat])
    replace l4 := kp 4 _ l4 (by rfl) (by first | rfl | simp [soR_cat])
    replace l5 := kp 5 _ l5 (by rfl) (by first | rfl | simp [soR_cat])
    refine jX.go (by rfl) (by rfl) (by rfl) (?_ : jX G jP 186 25 lv [] μ Q)
    exact hk25 v1 v2 v3 v4 v5 (v6 + Int32.ofInt 1) _ _ _ l0 l1 l2 l3 l4 l5 l6 R h
  · refine jX.b1f hc (by rfl) (by rfl) (by rfl) (?_ : jX G jP 186 89 lv [] μ Q)
    exact F_186_89_ok  K v1 v3 _ _ _ l0 l1 l3 R h
def F_186_284 (G : jG) (t : Nat) (v1 : (Nat × Nat)) (v6 : Int32) (S : sS) : Option (Unit × sS) := (F_157 G t v1 (S.1 33 0 0 35) (S.2.1 33 0 0 37) S).bind (fun q1 => bif jcmp .eq q1.1 0 then (some ((), q1.2)) else ((F_157 G t v1 (nI 0) v6.toInt64 q1.2).bind (fun q2 => some ((), q2.2))))
theorem F_186_284_ok {G : jG} {t : Nat} {r : Unit} {S' : sS} {Q : Option Value ⊕ Nat → jS → Prop} (K : ∀ μ', sR S' μ' → Q (srV r) μ') : ∀ (v1 : (Nat × Nat)) (v6 : Int32) (S : sS) (lv : jL) (μ : jS), jld lv 0 = some (.ref (spl 33 0 0)) → jld lv 1 = some (.ref (spl 54 v1.1 v1.2)) → jld lv 6 = some (.int v6) → sR S μ → F_186_284 G t v1 v6 S = some (r, S') → jX G jP 186 284 lv [] μ Q := by
  intro v1 v6 S lv μ l0 l1 l6 R h
  unfold F_186_284 at h
  refine jX.lrn l0 (by rfl) (by rfl) (?_ : jX G jP 186 285 lv [.ref (spl 33 0 0)] μ Q)
  refine jX.lrn l1 (by rfl) (by rfl) (?_ : jX G jP 186 286 lv [.ref (spl 54 v1.1 v1.2), .ref (spl 33 0 0)] μ Q)
  refine jX.lrn l0 (by rfl) (by rfl) (?_ : jX G jP 186 287 lv [.ref (spl 33 0 0), .ref (spl 54 v1.1 v1.2), .ref (spl 33 0 0)] μ Q)
  refine jX.sg R (by rfl) (by rfl) (by rfl) (by rfl) (by rfl) (by rfl) (?_ : jX G jP 186 290 lv [.int (S.1 33 0 0 35), .ref (spl 54 v1.1 v1.2), .ref (spl 33 0 0)] μ Q)
  refine jX.lrn l0 (by rfl) (by rfl) (?_ : jX G jP 186 291 lv [.ref (spl 33 0 0), .int (S.1 33 0 0 35), .ref (spl 54 v1.1 v1.2), .ref (spl 33 0 0)] μ Q)
  refine jX.sg R (by rfl) (by rfl) (by rfl) (by rfl) (by rfl) (by rfl) (?_ : jX G jP 186 294 lv [.long (S.2.1 33 0 0 37), .int (S.1 33 0 0 35), .ref (spl 54 v1.1 v1.2), .ref (spl 33 0 0)] μ Q)
  obtain ⟨q1, e1, h⟩ := sbd h
  refine jX.c1 (v := .int q1.1) (by rfl) (by rfl) (by rfl) (by rfl) (by rfl) (by rfl) (by rfl) (R.rec (by rfl) (by rfl)) (Nat.le_of_ble_eq_true rfl) (Nat.le_of_ble_eq_true rfl) (F_157_ok R e1 (fun μ R => ⟨rfl, (?_ : jX G jP 186 297 lv [.int q1.1] μ Q)⟩))
  rcases bif_or h with ⟨hc, h⟩ | ⟨hc, h⟩
  · refine jX.b1t hc (by rfl) (by rfl) (by rfl) (?_ : jX G jP 186 310 lv [] μ Q)
    exact jX.ret (by rfl) (by rfl) (by rfl) (by rfl) (sretv (f := srV) h K R)
  · refine jX.b1f hc (by rfl) (by rfl) (by rfl) (?_ : jX G jP 186 300 lv [] μ Q)
    refine jX.lrn l0 (by rfl) (by rfl) (?_ : jX G jP 186 301 lv [.ref (spl 33 0 0)] μ Q)
    refine jX.lrn l1 (by rfl) (by rfl) (?_ : jX G jP 186 302 lv [.ref (spl 54 v1.1 v1.2), .ref (spl 33 0 0)] μ Q)
    refine jX.ic (v := nI 0) (n := 1) (by rfl) (by rfl) (by decide) (?_ : jX G jP 186 303 lv [.int (nI 0), .ref (spl 54 v1.1 v1.2), .ref (spl 33 0 0)] μ Q)
    refine jX.li l6 (by rfl) (by rfl) (?_ : jX G jP 186 305 lv [.int v6, .int (nI 0), .ref (spl 54 v1.1 v1.2), .ref (spl 33 0 0)] μ Q)
    refine jX.go (by rfl) (by rfl) (by rfl) (?_ : jX G jP 186 306 lv [.long v6.toInt64, .int (nI 0), .ref (spl 54 v1.1 v1.2), .ref (spl 33 0 0)] μ Q)
    obtain ⟨q2, e2, h⟩ := sbd h
    refine jX.c1 (v := .int q2.1) (by rfl) (by rfl) (by rfl) (by rfl) (by rfl) (by rfl) (by rfl) (R.rec (by rfl) (by rfl)) (Nat.le_of_ble_eq_true rfl) (Nat.le_of_ble_eq_true rfl) (F_157_ok R e2 (fun μ R => ⟨rfl, (?_ : jX G jP 186 309 lv [.int q2.1] μ Q)⟩))
    refine jX.go (by rfl) (by rfl) (by rfl) (?_ : jX G jP 186 310 lv [] μ Q)
    exact jX.ret (by rfl) (by rfl) (by rfl) (by rfl) (sretv (f := srV) h K R)
def F_186_250 (G : jG) (t : Nat) (v1 : (Nat × Nat)) (v6 : Int32) (v8 : Int32) (v9 : Int32) (v10 : Int64) (v12 : Int32) (S : sS) : Option (Unit × sS) := bif jcmp .eq v12 0 then ((F_183 G t v8 S).bind (fun q1 => F_186_284 G t v1 v6 q1.2)) else ((F_180 G t v8 v9 v10 S).bind (fun q2 => F_186_284 G t v1 v6 (siL (siI q2.2 33 0 0 35 (nI 0)) 33 0 0 37 0)))
theorem F_186_250_ok {G : jG} {t : Nat} {r : Unit} {S' : sS} {Q : Option Value ⊕ Nat → jS → Prop} (K : ∀ μ', sR S' μ' → Q (srV r) μ') : ∀ (v1 : (Nat × Nat)) (v6 : Int32) (v8 : Int32) (v9 : Int32) (v10 : Int64) (v12 : Int32) (S : sS) (lv : jL) (μ : jS), jld lv 0 = some (.ref (spl 33 0 0)) → jld lv 1 = some (.ref (spl 54 v1.1 v1.2)) → jld lv 6 = some (.int v6) → jld lv 8 = some (.int v8) → jld lv 9 = some (.int v9) → jld lv 10 = some (.long v10) → jld lv 12 = some (.int v12) → sR S μ → F_186_250 G t v1 v6 v8 v9 v10 v12 S = some (r, S') → jX G jP 186 250 lv [] μ Q := by
  intro v1 v6 v8 v9 v10 v12 S lv μ l0 l1 l6 l8 l9 l10 l12 R h
  unfold F_186_250 at h
  refine jX.li l12 (by rfl) (by rfl) (?_ : jX G jP 186 252 lv [.int v12] μ Q)
  rcases bif_or h with ⟨hc, h⟩ | ⟨hc, h⟩
  · refine jX.b1t hc (by rfl) (by rfl) (by rfl) (?_ : jX G jP 186 278 lv [] μ Q)
    refine jX.lrn l0 (by rfl) (by rfl) (?_ : jX G jP 186 279 lv [.ref (spl 33 0 0)] μ Q)
    refine jX.li l8 (by rfl) (by rfl) (?_ : jX G jP 186 281 lv [.int v8, .ref (spl 33 0 0)] μ Q)
    obtain ⟨q1, e1, h⟩ := sbd h
    refine jX.cv (by rfl) (by rfl) (by rfl) (by rfl) (by rfl) (by rfl) (by rfl) (R.rec (by rfl) (by rfl)) (Nat.le_of_ble_eq_true rfl) (Nat.le_of_ble_eq_true rfl) (F_183_ok R e1 (fun μ R => ⟨rfl, (?_ : jX G jP 186 284 lv [] μ Q)⟩))
    exact F_186_284_ok  K v1 v6 _ _ _ l0 l1 l6 R h
  · refine jX.b1f hc (by rfl) (by rfl) (by rfl) (?_ : jX G jP 186 255 lv [] μ Q)
    refine jX.lrn l0 (by rfl) (by rfl) (?_ : jX G jP 186 256 lv [.ref (spl 33 0 0)] μ Q)
    refine jX.li l8 (by rfl) (by rfl) (?_ : jX G jP 186 258 lv [.int v8, .ref (spl 33 0 0)] μ Q)
    refine jX.li l9 (by rfl) (by rfl) (?_ : jX G jP 186 260 lv [.int v9, .int v8, .ref (spl 33 0 0)] μ Q)
    refine jX.ll l10 (by rfl) (by rfl) (?_ : jX G jP 186 262 lv [.long v10, .int v9, .int v8, .ref (spl 33 0 0)] μ Q)
    obtain ⟨q2, e2, h⟩ := sbd h
    refine jX.cv (by rfl) (by rfl) (by rfl) (by rfl) (by rfl) (by rfl) (by rfl) (R.rec (by rfl) (by rfl)) (Nat.le_of_ble_eq_true rfl) (Nat.le_of_ble_eq_true rfl) (F_180_ok R e2 (fun μ R => ⟨rfl, (?_ : jX G jP 186 265 lv [] μ Q)⟩))
    refine jX.lrn l0 (by rfl) (by rfl) (?_ : jX G jP 186 266 lv [.ref (spl 33 0 0)] μ Q)
    refine jX.ic (v := nI 0) (n := 1) (by rfl) (by rfl) (by decide) (?_ : jX G jP 186 267 lv [.int (nI 0), .ref (spl 33 0 0)] μ Q)
    refine jX.spI R (by rfl) (by rfl) (by rfl) (by rfl) (by rfl) (by rfl) (by rfl) (by rfl) (by rfl) (fun μ R => (?_ : jX G jP 186 270 lv [] μ Q))
    refine jX.lrn l0 (by rfl) (by rfl) (?_ : jX G jP 186 271 lv [.ref (spl 33 0 0)] μ Q)
    refine jX.go (by rfl) (by rfl) (by rfl) (?_ : jX G jP 186 272 lv [.long 0, .ref (spl 33 0 0)] μ Q)
    refine jX.spL R (by rfl) (by rfl) (by rfl) (by rfl) (by rfl) (by rfl) (by rfl) (by rfl) (by rfl) (fun μ R => (?_ : jX G jP 186 275 lv [] μ Q))
    refine jX.go (by rfl) (by rfl) (by rfl) (?_ : jX G jP 186 284 lv [] μ Q)
    exact F_186_284_ok  K v1 v6 _ _ _ l0 l1 l6 R h
def F_186_311 (G : jG) (t : Nat) (k116 : (Nat × Nat) → Int32 → Int32 → (Nat × Nat) → Int32 → Int32 → sS → Option (Unit × sS)) (v1 : (Nat × Nat)) (v2 : Int32) (v3 : Int32) (v4 : (Nat × Nat)) (v5 : Int32) (v6 : Int32) (S : sS) : Option (Unit × sS) := k116 v1 v2 v3 v4 v5 (v6 + Int32.ofInt 1) S
theorem F_186_311_ok {G : jG} {t : Nat} {k116 : (Nat × Nat) → Int32 → Int32 → (Nat × Nat) → Int32 → Int32 → sS → Option (Unit × sS)} {r : Unit} {S' : sS} {Q : Option Value ⊕ Nat → jS → Prop} (hk116 : ∀ (v1 : (Nat × Nat)) (v2 : Int32) (v3 : Int32) (v4 : (Nat × Nat)) (v5 : Int32) (v6 : Int32) (S : sS) (lv : jL) (μ : jS), jld lv 0 = some (.ref (spl 33 0 0)) → jld lv 1 = some (.ref (spl 54 v1.1 v1.2)) → jld lv 2 = some (.int v2) → jld lv 3 = some (.int v3) → jld lv 4 = some (.ref (spl 56 v4.1 v4.2)) → jld lv 5 = some (.int v5) → jld lv 6 = some (.int v6) → sR S μ → k116 v1 v2 v3 v4 v5 v6 S = some (r, S') → jX G jP 186 116 lv [] μ Q) (K : ∀ μ', sR S' μ' → Q (srV r) μ') : ∀ (v1 : (Nat × Nat)) (v2 : Int32) (v3 : Int32) (v4 : (Nat × Nat)) (v5 : Int32) (v6 : Int32) (S : sS) (lv : jL) (μ : jS), jld lv 0 = some (.ref (spl 33 0 0)) → jld lv 1 = some (.ref (spl 54 v1.1 v1.2)) → jld lv 2 = some (.int v2) → jld lv 3 = some (.int v3) → jld lv 4 = some (.ref (spl 56 v4.1 v4.2)) → jld lv 5 = some (.int v5) → jld lv 6 = some (.int v6) → sR S μ → F_186_311 G t k116 v1 v2 v3 v4 v5 v6 S = some (r, S') → jX G jP 186 311 lv [] μ Q := by
  intro v1 v2 v3 v4 v5 v6 S lv μ l0 l1 l2 l3 l4 l5 l6 R h
  unfold F_186_311 at h
  refine jX.inc l6 (by rfl) (by rfl) (by rfl) (fun lv l6 kp => (?_ : jX G jP 186 314 lv [] μ Q))
  replace l0 := kp 0 _ l0 (by rfl) (by first | rfl | simp [soR_cat])
  replace l1 := kp 1 _ l1 (by rfl) (by first | rfl | simp [soR_cat])
  replace l2 := kp 2 _ l2 (by rfl) (by first | rfl | simp [soR_cat])
  replace l3 := kp 3 _ l3 (by rfl) (by first | rfl | simp [soR_cat])
  replace l4 := kp 4 _ l4 (by rfl) (by first | rfl | simp [soR_cat])
  replace l5 := kp 5 _ l5 (by rfl) (by first | rfl | simp [soR_cat])
  refine jX.go (by rfl) (by rfl) (by rfl) (?_ : jX G jP 186 116 lv [] μ Q)
  exact hk116 v1 v2 v3 v4 v5 (v6 + Int32.ofInt 1) _ _ _ l0 l1 l2 l3 l4 l5 l6 R h
def F_186_186 (G : jG) (t : Nat) (k116 : (Nat × Nat) → Int32 → Int32 → (Nat × Nat) → Int32 → Int32 → sS → Option (Unit × sS)) (v1 : (Nat × Nat)) (v2 : Int32) (v3 : Int32) (v4 : (Nat × Nat)) (v5 : Int32) (v6 : Int32) (v7 : Int32) (v8 : Int32) (v9 : Int32) (v10 : Int64) (w0 : Int32) (S : sS) : Option (Unit × sS) := jif (sex S.2.2.2.1 56 v4.1 v4.2) (jif (sex S.2.2.2.1 58 v4.1 v4.2) (jif (jin v7 16) (bif jcmp .eq (S.1 58 v4.1 v4.2 v7.toNatClampNeg) (nI 1) then (F_186_311 G t k116 v1 v2 v3 v4 v5 v6 S) else ((F_176 G t v8 w0 S).bind (fun q4 => bif jcmp .ne q4.1 0 then ((F_156 G t v1 ((nI 3) * v3) q4.2).bind (fun q5 => bif jcmp .eq w0 0 then (F_186_250 G t v1 v6 v8 v9 v10 w0 q5.2) else (jif (jin v8 1300) (jif (sex q5.2.2.2.2.1 51 v8.toNatClampNeg 0) (bif jcmp .eq (q5.2.1 51 v8.toNatClampNeg 0 4) 0 then (F_186_250 G t v1 v6 v8 v9 v10 w0 q5.2) else ((F_155 G t v1 (-4) q5.2).bind (fun q8 => some ((), q8.2)))))))) else (F_186_311 G t k116 v1 v2 v3 v4 v5 v6 q4.2))))))
theorem F_186_186_ok {G : jG} {t : Nat} {k116 : (Nat × Nat) → Int32 → Int32 → (Nat × Nat) → Int32 → Int32 → sS → Option (Unit × sS)} {r : Unit} {S' : sS} {Q : Option Value ⊕ Nat → jS → Prop} (hk116 : ∀ (v1 : (Nat × Nat)) (v2 : Int32) (v3 : Int32) (v4 : (Nat × Nat)) (v5 : Int32) (v6 : Int32) (S : sS) (lv : jL) (μ : jS), jld lv 0 = some (.ref (spl 33 0 0)) → jld lv 1 = some (.ref (spl 54 v1.1 v1.2)) → jld lv 2 = some (.int v2) → jld lv 3 = some (.int v3) → jld lv 4 = some (.ref (spl 56 v4.1 v4.2)) → jld lv 5 = some (.int v5) → jld lv 6 = some (.int v6) → sR S μ → k116 v1 v2 v3 v4 v5 v6 S = some (r, S') → jX G jP 186 116 lv [] μ Q) (K : ∀ μ', sR S' μ' → Q (srV r) μ') : ∀ (v1 : (Nat × Nat)) (v2 : Int32) (v3 : Int32) (v4 : (Nat × Nat)) (v5 : Int32) (v6 : Int32) (v7 : Int32) (v8 : Int32) (v9 : Int32) (v10 : Int64) (w0 : Int32) (S : sS) (lv : jL) (μ : jS), jld lv 0 = some (.ref (spl 33 0 0)) → jld lv 1 = some (.ref (spl 54 v1.1 v1.2)) → jld lv 2 = some (.int v2) → jld lv 3 = some (.int v3) → jld lv 4 = some (.ref (spl 56 v4.1 v4.2)) → jld lv 5 = some (.int v5) → jld lv 6 = some (.int v6) → jld lv 7 = some (.int v7) → jld lv 8 = some (.int v8) → jld lv 9 = some (.int v9) → jld lv 10 = some (.long v10) → sR S μ → F_186_186 G t k116 v1 v2 v3 v4 v5 v6 v7 v8 v9 v10 w0 S = some (r, S') → jX G jP 186 186 lv [.int w0] μ Q := by
  intro v1 v2 v3 v4 v5 v6 v7 v8 v9 v10 w0 S lv μ l0 l1 l2 l3 l4 l5 l6 l7 l8 l9 l10 R h
  unfold F_186_186 at h
  refine jX.s1 (k := 12) (pc' := 188) (by rfl) (by rfl) (by rfl) (fun lv l12 kp => (?_ : jX G jP 186 188 lv [] μ Q))
  replace l0 := kp 0 _ l0 (by rfl) (by first | rfl | simp [soR_cat])
  replace l1 := kp 1 _ l1 (by rfl) (by first | rfl | simp [soR_cat])
  replace l2 := kp 2 _ l2 (by rfl) (by first | rfl | simp [soR_cat])
  replace l3 := kp 3 _ l3 (by rfl) (by first | rfl | simp [soR_cat])
  replace l4 := kp 4 _ l4 (by rfl) (by first | rfl | simp [soR_cat])
  replace l5 := kp 5 _ l5 (by rfl) (by first | rfl | simp [soR_cat])
  replace l6 := kp 6 _ l6 (by rfl) (by first | rfl | simp [soR_cat])
  replace l7 := kp 7 _ l7 (by rfl) (by first | rfl | simp [soR_cat])
  replace l8 := kp 8 _ l8 (by rfl) (by first | rfl | simp [soR_cat])
  replace l9 := kp 9 _ l9 (by rfl) (by first | rfl | simp [soR_cat])
  replace l10 := kp 10 _ l10 (by rfl) (by first | rfl | simp [soR_cat])
  refine jX.lr l4 (by rfl) (by rfl) (?_ : jX G jP 186 190 lv [.ref (spl 56 v4.1 v4.2)] μ Q)
  obtain ⟨g1, h⟩ := jif_some h
  refine jX.sg R g1 (by rfl) (by rfl) (by rfl) (by rfl) (by rfl) (?_ : jX G jP 186 193 lv [.ref (spl 58 v4.1 v4.2)] μ Q)
  refine jX.li l7 (by rfl) (by rfl) (?_ : jX G jP 186 195 lv [.int v7, .ref (spl 58 v4.1 v4.2)] μ Q)
  obtain ⟨g2, h⟩ := jif_some h
  obtain ⟨g3, h⟩ := jif_some h
  refine jX.sai R g2 (by rfl) (by rfl) (by rfl) g3 (?_ : jX G jP 186 196 lv [.int (S.1 58 v4.1 v4.2 v7.toNatClampNeg)] μ Q)
  refine jX.ic (v := nI 1) (n := 1) (by rfl) (by rfl) (by decide) (?_ : jX G jP 186 197 lv [.int (nI 1), .int (S.1 58 v4.1 v4.2 v7.toNatClampNeg)] μ Q)
  rcases bif_or h with ⟨hc, h⟩ | ⟨hc, h⟩
  · refine jX.b2t hc (by rfl) (by rfl) (by rfl) (?_ : jX G jP 186 311 lv [] μ Q)
    exact F_186_311_ok hk116 K v1 v2 v3 v4 v5 v6 _ _ _ l0 l1 l2 l3 l4 l5 l6 R h
  · refine jX.b2f hc (by rfl) (by rfl) (by rfl) (?_ : jX G jP 186 200 lv [] μ Q)
    refine jX.lrn l0 (by rfl) (by rfl) (?_ : jX G jP 186 201 lv [.ref (spl 33 0 0)] μ Q)
    refine jX.li l8 (by rfl) (by rfl) (?_ : jX G jP 186 203 lv [.int v8, .ref (spl 33 0 0)] μ Q)
    refine jX.li l12 (by rfl) (by rfl) (?_ : jX G jP 186 205 lv [.int w0, .int v8, .ref (spl 33 0 0)] μ Q)
    obtain ⟨q4, e4, h⟩ := sbd h
    refine jX.c1 (v := .int q4.1) (by rfl) (by rfl) (by rfl) (by rfl) (by rfl) (by rfl) (by rfl) (R.rec (by rfl) (by rfl)) (Nat.le_of_ble_eq_true rfl) (Nat.le_of_ble_eq_true rfl) (F_176_ok R e4 (fun μ R => ⟨rfl, (?_ : jX G jP 186 208 lv [.int q4.1] μ Q)⟩))
    rcases bif_or h with ⟨hc, h⟩ | ⟨hc, h⟩
    · refine jX.b1t hc (by rfl) (by rfl) (by rfl) (?_ : jX G jP 186 214 lv [] μ Q)
      refine jX.lrn l0 (by rfl) (by rfl) (?_ : jX G jP 186 215 lv [.ref (spl 33 0 0)] μ Q)
      refine jX.lrn l1 (by rfl) (by rfl) (?_ : jX G jP 186 216 lv [.ref (spl 54 v1.1 v1.2), .ref (spl 33 0 0)] μ Q)
      refine jX.ic (v := nI 3) (n := 1) (by rfl) (by rfl) (by decide) (?_ : jX G jP 186 217 lv [.int (nI 3), .ref (spl 54 v1.1 v1.2), .ref (spl 33 0 0)] μ Q)
      refine jX.lin l3 (by rfl) (by rfl) (?_ : jX G jP 186 218 lv [.int v3, .int (nI 3), .ref (spl 54 v1.1 v1.2), .ref (spl 33 0 0)] μ Q)
      refine jX.go (by rfl) (by rfl) (by rfl) (?_ : jX G jP 186 219 lv [.int ((nI 3) * v3), .ref (spl 54 v1.1 v1.2), .ref (spl 33 0 0)] μ Q)
      obtain ⟨q5, e5, h⟩ := sbd h
      refine jX.c1 (v := .int q5.1) (by rfl) (by rfl) (by rfl) (by rfl) (by rfl) (by rfl) (by rfl) (R.rec (by rfl) (by rfl)) (Nat.le_of_ble_eq_true rfl) (Nat.le_of_ble_eq_true rfl) (F_156_ok R e5 (fun μ R => ⟨rfl, (?_ : jX G jP 186 222 lv [.int q5.1] μ Q)⟩))
      refine jX.go (by rfl) (by rfl) (by rfl) (?_ : jX G jP 186 223 lv [] μ Q)
      refine jX.li l12 (by rfl) (by rfl) (?_ : jX G jP 186 225 lv [.int w0] μ Q)
      rcases bif_or h with ⟨hc, h⟩ | ⟨hc, h⟩
      · refine jX.b1t hc (by rfl) (by rfl) (by rfl) (?_ : jX G jP 186 250 lv [] μ Q)
        exact F_186_250_ok  K v1 v6 v8 v9 v10 w0 _ _ _ l0 l1 l6 l8 l9 l10 l12 R h
      · refine jX.b1f hc (by rfl) (by rfl) (by rfl) (?_ : jX G jP 186 228 lv [] μ Q)
        refine jX.lrn l0 (by rfl) (by rfl) (?_ : jX G jP 186 229 lv [.ref (spl 33 0 0)] μ Q)
        refine jX.sg R (by rfl) (by rfl) (by rfl) (by rfl) (by rfl) (by rfl) (?_ : jX G jP 186 232 lv [.ref (spl 34 0 0)] μ Q)
        refine jX.li l8 (by rfl) (by rfl) (?_ : jX G jP 186 234 lv [.int v8, .ref (spl 34 0 0)] μ Q)
        obtain ⟨g6, h⟩ := jif_some h
        refine jX.sar (f := fun q => bif Nat.blt q 1300 then some (spl 51 q 0) else none) R (by rfl) (by rfl) (by rfl) (by rfl) g6 (srf_in g6) (?_ : jX G jP 186 235 lv [.ref (spl 51 v8.toNatClampNeg 0)] μ Q)
        obtain ⟨g7, h⟩ := jif_some h
        refine jX.sg R g7 (by rfl) (by rfl) (by rfl) (by rfl) (by rfl) (?_ : jX G jP 186 238 lv [.int (q5.2.1 51 v8.toNatClampNeg 0 4)] μ Q)
        rcases bif_or h with ⟨hc, h⟩ | ⟨hc, h⟩
        · refine jX.b1t hc (by rfl) (by rfl) (by rfl) (?_ : jX G jP 186 250 lv [] μ Q)
          exact F_186_250_ok  K v1 v6 v8 v9 v10 w0 _ _ _ l0 l1 l6 l8 l9 l10 l12 R h
        · refine jX.b1f hc (by rfl) (by rfl) (by rfl) (?_ : jX G jP 186 241 lv [] μ Q)
          refine jX.lrn l0 (by rfl) (by rfl) (?_ : jX G jP 186 242 lv [.ref (spl 33 0 0)] μ Q)
          refine jX.lrn l1 (by rfl) (by rfl) (?_ : jX G jP 186 243 lv [.ref (spl 54 v1.1 v1.2), .ref (spl 33 0 0)] μ Q)
          refine jX.go (by rfl) (by rfl) (by rfl) (?_ : jX G jP 186 246 lv [.long (-4), .ref (spl 54 v1.1 v1.2), .ref (spl 33 0 0)] μ Q)
          obtain ⟨q8, e8, h⟩ := sbd h
          refine jX.cv (by rfl) (by rfl) (by rfl) (by rfl) (by rfl) (by rfl) (by rfl) (R.rec (by rfl) (by rfl)) (Nat.le_of_ble_eq_true rfl) (Nat.le_of_ble_eq_true rfl) (F_155_ok R e8 (fun μ R => ⟨rfl, (?_ : jX G jP 186 249 lv [] μ Q)⟩))
          exact jX.ret (by rfl) (by rfl) (by rfl) (by rfl) (sretv (f := srV) h K R)
    · refine jX.b1f hc (by rfl) (by rfl) (by rfl) (?_ : jX G jP 186 211 lv [] μ Q)
      refine jX.go (by rfl) (by rfl) (by rfl) (?_ : jX G jP 186 311 lv [] μ Q)
      exact F_186_311_ok hk116 K v1 v2 v3 v4 v5 v6 _ _ _ l0 l1 l2 l3 l4 l5 l6 R h
def F_186_116 (G : jG) (t : Nat) : Nat → (Nat × Nat) → Int32 → Int32 → (Nat × Nat) → Int32 → Int32 → sS → Option (Unit × sS)
  | 0 => fun _ _ _ _ _ _ _ => none
  | tt + 1 => fun v1 v2 v3 v4 v5 v6 S => bif jcmp .ge v6 v3 then (bif jcmp .ge v2 (nI 8) then ((F_156 G t v1 ((nI 3) * v3) S).bind (fun q1 => (F_157 G t v1 (nI 0) 0 q1.2).bind (fun q2 => bif jcmp .eq q2.1 0 then (some ((), q2.2)) else ((F_157 G t v1 (nI 0) (-1) q2.2).bind (fun q3 => some ((), q3.2)))))) else ((F_177 G t v1 (nI 4) S).bind (fun q4 => some ((), q4.2)))) else (jif (sex S.2.2.2.1 56 v4.1 v4.2) (jif (sex S.2.2.2.1 62 v4.1 v4.2) (jif (jin (v5 + ((nI 3) * v6)) 16) (jif (sex S.2.2.2.1 58 v4.1 v4.2) (jif (jin ((v5 + ((nI 3) * v6)) + (nI 2)) 16) (jif (jin ((v5 + ((nI 3) * v6)) + (nI 2)) 16) (jif (jin ((v5 + ((nI 3) * v6)) + (nI 1)) 16) (bif jcmp .eq (lg_cmp (S.2.1 62 v4.1 v4.2 ((v5 + ((nI 3) * v6)) + (nI 1)).toNatClampNeg) 0) 0 then (F_186_186 G t (F_186_116 G t tt) v1 v2 v3 v4 v5 v6 (v5 + ((nI 3) * v6)) ((S.2.1 62 v4.1 v4.2 (v5 + ((nI 3) * v6)).toNatClampNeg).toInt32) (S.1 58 v4.1 v4.2 ((v5 + ((nI 3) * v6)) + (nI 2)).toNatClampNeg) (S.2.1 62 v4.1 v4.2 ((v5 + ((nI 3) * v6)) + (nI 2)).toNatClampNeg) (nI 0) S) else (F_186_186 G t (F_186_116 G t tt) v1 v2 v3 v4 v5 v6 (v5 + ((nI 3) * v6)) ((S.2.1 62 v4.1 v4.2 (v5 + ((nI 3) * v6)).toNatClampNeg).toInt32) (S.1 58 v4.1 v4.2 ((v5 + ((nI 3) * v6)) + (nI 2)).toNatClampNeg) (S.2.1 62 v4.1 v4.2 ((v5 + ((nI 3) * v6)) + (nI 2)).toNatClampNeg) (nI 1) S)))))))))
theorem F_186_116_ok {G : jG} {t : Nat} {r : Unit} {S' : sS} {Q : Option Value ⊕ Nat → jS → Prop} (K : ∀ μ', sR S' μ' → Q (srV r) μ') : ∀ tt : Nat, ∀ (v1 : (Nat × Nat)) (v2 : Int32) (v3 : Int32) (v4 : (Nat × Nat)) (v5 : Int32) (v6 : Int32) (S : sS) (lv : jL) (μ : jS), jld lv 0 = some (.ref (spl 33 0 0)) → jld lv 1 = some (.ref (spl 54 v1.1 v1.2)) → jld lv 2 = some (.int v2) → jld lv 3 = some (.int v3) → jld lv 4 = some (.ref (spl 56 v4.1 v4.2)) → jld lv 5 = some (.int v5) → jld lv 6 = some (.int v6) → sR S μ → F_186_116 G t tt v1 v2 v3 v4 v5 v6 S = some (r, S') → jX G jP 186 116 lv [] μ Q := by
  intro tt
  induction tt with
  | zero =>
    intro v1 v2 v3 v4 v5 v6 S lv μ l0 l1 l2 l3 l4 l5 l6 R h
    rw [F_186_116] at h
    cases h
  | succ tt ih =>
    intro v1 v2 v3 v4 v5 v6 S lv μ l0 l1 l2 l3 l4 l5 l6 R h
    rw [F_186_116] at h
    refine jX.li l6 (by rfl) (by rfl) (?_ : jX G jP 186 118 lv [.int v6] μ Q)
    refine jX.lin l3 (by rfl) (by rfl) (?_ : jX G jP 186 119 lv [.int v3, .int v6] μ Q)
    rcases bif_or h with ⟨hc, h⟩ | ⟨hc, h⟩
    · refine jX.b2t hc (by rfl) (by rfl) (by rfl) (?_ : jX G jP 186 317 lv [] μ Q)
      refine jX.lin l2 (by rfl) (by rfl) (?_ : jX G jP 186 318 lv [.int v2] μ Q)
      refine jX.ic (v := nI 8) (n := 2) (by rfl) (by rfl) (by decide) (?_ : jX G jP 186 320 lv [.int (nI 8), .int v2] μ Q)
      rcases bif_or h with ⟨hc, h⟩ | ⟨hc, h⟩
      · refine jX.b2t hc (by rfl) (by rfl) (by rfl) (?_ : jX G jP 186 330 lv [] μ Q)
        refine jX.lrn l0 (by rfl) (by rfl) (?_ : jX G jP 186 331 lv [.ref (spl 33 0 0)] μ Q)
        refine jX.lrn l1 (by rfl) (by rfl) (?_ : jX G jP 186 332 lv [.ref (spl 54 v1.1 v1.2), .ref (spl 33 0 0)] μ Q)
        refine jX.ic (v := nI 3) (n := 1) (by rfl) (by rfl) (by decide) (?_ : jX G jP 186 333 lv [.int (nI 3), .ref (spl 54 v1.1 v1.2), .ref (spl 33 0 0)] μ Q)
        refine jX.lin l3 (by rfl) (by rfl) (?_ : jX G jP 186 334 lv [.int v3, .int (nI 3), .ref (spl 54 v1.1 v1.2), .ref (spl 33 0 0)] μ Q)
        refine jX.go (by rfl) (by rfl) (by rfl) (?_ : jX G jP 186 335 lv [.int ((nI 3) * v3), .ref (spl 54 v1.1 v1.2), .ref (spl 33 0 0)] μ Q)
        obtain ⟨q1, e1, h⟩ := sbd h
        refine jX.c1 (v := .int q1.1) (by rfl) (by rfl) (by rfl) (by rfl) (by rfl) (by rfl) (by rfl) (R.rec (by rfl) (by rfl)) (Nat.le_of_ble_eq_true rfl) (Nat.le_of_ble_eq_true rfl) (F_156_ok R e1 (fun μ R => ⟨rfl, (?_ : jX G jP 186 338 lv [.int q1.1] μ Q)⟩))
        refine jX.go (by rfl) (by rfl) (by rfl) (?_ : jX G jP 186 339 lv [] μ Q)
        refine jX.lrn l0 (by rfl) (by rfl) (?_ : jX G jP 186 340 lv [.ref (spl 33 0 0)] μ Q)
        refine jX.lrn l1 (by rfl) (by rfl) (?_ : jX G jP 186 341 lv [.ref (spl 54 v1.1 v1.2), .ref (spl 33 0 0)] μ Q)
        refine jX.ic (v := nI 0) (n := 1) (by rfl) (by rfl) (by decide) (?_ : jX G jP 186 342 lv [.int (nI 0), .ref (spl 54 v1.1 v1.2), .ref (spl 33 0 0)] μ Q)
        refine jX.go (by rfl) (by rfl) (by rfl) (?_ : jX G jP 186 343 lv [.long 0, .int (nI 0), .ref (spl 54 v1.1 v1.2), .ref (spl 33 0 0)] μ Q)
        obtain ⟨q2, e2, h⟩ := sbd h
        refine jX.c1 (v := .int q2.1) (by rfl) (by rfl) (by rfl) (by rfl) (by rfl) (by rfl) (by rfl) (R.rec (by rfl) (by rfl)) (Nat.le_of_ble_eq_true rfl) (Nat.le_of_ble_eq_true rfl) (F_157_ok R e2 (fun μ R => ⟨rfl, (?_ : jX G jP 186 346 lv [.int q2.1] μ Q)⟩))
        rcases bif_or h with ⟨hc, h⟩ | ⟨hc, h⟩
        · refine jX.b1t hc (by rfl) (by rfl) (by rfl) (?_ : jX G jP 186 359 lv [] μ Q)
          exact jX.ret (by rfl) (by rfl) (by rfl) (by rfl) (sretv (f := srV) h K R)
        · refine jX.b1f hc (by rfl) (by rfl) (by rfl) (?_ : jX G jP 186 349 lv [] μ Q)
          refine jX.lrn l0 (by rfl) (by rfl) (?_ : jX G jP 186 350 lv [.ref (spl 33 0 0)] μ Q)
          refine jX.lrn l1 (by rfl) (by rfl) (?_ : jX G jP 186 351 lv [.ref (spl 54 v1.1 v1.2), .ref (spl 33 0 0)] μ Q)
          refine jX.ic (v := nI 0) (n := 1) (by rfl) (by rfl) (by decide) (?_ : jX G jP 186 352 lv [.int (nI 0), .ref (spl 54 v1.1 v1.2), .ref (spl 33 0 0)] μ Q)
          refine jX.go (by rfl) (by rfl) (by rfl) (?_ : jX G jP 186 355 lv [.long (-1), .int (nI 0), .ref (spl 54 v1.1 v1.2), .ref (spl 33 0 0)] μ Q)
          obtain ⟨q3, e3, h⟩ := sbd h
          refine jX.c1 (v := .int q3.1) (by rfl) (by rfl) (by rfl) (by rfl) (by rfl) (by rfl) (by rfl) (R.rec (by rfl) (by rfl)) (Nat.le_of_ble_eq_true rfl) (Nat.le_of_ble_eq_true rfl) (F_157_ok R e3 (fun μ R => ⟨rfl, (?_ : jX G jP 186 358 lv [.int q3.1] μ Q)⟩))
          refine jX.go (by rfl) (by rfl) (by rfl) (?_ : jX G jP 186 359 lv [] μ Q)
          exact jX.ret (by rfl) (by rfl) (by rfl) (by rfl) (sretv (f := srV) h K R)
      · refine jX.b2f hc (by rfl) (by rfl) (by rfl) (?_ : jX G jP 186 323 lv [] μ Q)
        refine jX.lrn l0 (by rfl) (by rfl) (?_ : jX G jP 186 324 lv [.ref (spl 33 0 0)] μ Q)
        refine jX.lrn l1 (by rfl) (by rfl) (?_ : jX G jP 186 325 lv [.ref (spl 54 v1.1 v1.2), .ref (spl 33 0 0)] μ Q)
        refine jX.ic (v := nI 4) (n := 1) (by rfl) (by rfl) (by decide) (?_ : jX G jP 186 326 lv [.int (nI 4), .ref (spl 54 v1.1 v1.2), .ref (spl 33 0 0)] μ Q)
        obtain ⟨q4, e4, h⟩ := sbd h
        refine jX.cv (by rfl) (by rfl) (by rfl) (by rfl) (by rfl) (by rfl) (by rfl) (R.rec (by rfl) (by rfl)) (Nat.le_of_ble_eq_true rfl) (Nat.le_of_ble_eq_true rfl) (F_177_ok R e4 (fun μ R => ⟨rfl, (?_ : jX G jP 186 329 lv [] μ Q)⟩))
        exact jX.ret (by rfl) (by rfl) (by rfl) (by rfl) (sretv (f := srV) h K R)
    · refine jX.b2f hc (by rfl) (by rfl) (by rfl) (?_ : jX G jP 186 122 lv [] μ Q)
      refine jX.li l5 (by rfl) (by rfl) (?_ : jX G jP 186 124 lv [.int v5] μ Q)
      refine jX.ic (v := nI 3) (n := 1) (by rfl) (by rfl) (by decide) (?_ : jX G jP 186 125 lv [.int (nI 3), .int v5] μ Q)
      refine jX.li l6 (by rfl) (by rfl) (?_ : jX G jP 186 127 lv [.int v6, .int (nI 3), .int v5] μ Q)
      refine jX.go (by rfl) (by rfl) (by rfl) (?_ : jX G jP 186 128 lv [.int ((nI 3) * v6), .int v5] μ Q)
      refine jX.go (by rfl) (by rfl) (by rfl) (?_ : jX G jP 186 129 lv [.int (v5 + ((nI 3) * v6))] μ Q)
      refine jX.s1 (k := 7) (pc' := 131) (by rfl) (by rfl) (by rfl) (fun lv l7 kp => (?_ : jX G jP 186 131 lv [] μ Q))
      replace l0 := kp 0 _ l0 (by rfl) (by first | rfl | simp [soR_cat])
      replace l1 := kp 1 _ l1 (by rfl) (by first | rfl | simp [soR_cat])
      replace l2 := kp 2 _ l2 (by rfl) (by first | rfl | simp [soR_cat])
      replace l3 := kp 3 _ l3 (by rfl) (by first | rfl | simp [soR_cat])
      replace l4 := kp 4 _ l4 (by rfl) (by first | rfl | simp [soR_cat])
      replace l5 := kp 5 _ l5 (by rfl) (by first | rfl | simp [soR_cat])
      replace l6 := kp 6 _ l6 (by rfl) (by first | rfl | simp [soR_cat])
      refine jX.lr l4 (by rfl) (by rfl) (?_ : jX G jP 186 133 lv [.ref (spl 56 v4.1 v4.2)] μ Q)
      obtain ⟨g5, h⟩ := jif_some h
      refine jX.sg R g5 (by rfl) (by rfl) (by rfl) (by rfl) (by rfl) (?_ : jX G jP 186 136 lv [.ref (spl 62 v4.1 v4.2)] μ Q)
      refine jX.li l7 (by rfl) (by rfl) (?_ : jX G jP 186 138 lv [.int (v5 + ((nI 3) * v6)), .ref (spl 62 v4.1 v4.2)] μ Q)
      obtain ⟨g6, h⟩ := jif_some h
      obtain ⟨g7, h⟩ := jif_some h
      refine jX.sal R g6 (by rfl) (by rfl) (by rfl) g7 (?_ : jX G jP 186 139 lv [.long (S.2.1 62 v4.1 v4.2 (v5 + ((nI 3) * v6)).toNatClampNeg)] μ Q)
      refine jX.go (by rfl) (by rfl) (by rfl) (?_ : jX G jP 186 140 lv [.int ((S.2.1 62 v4.1 v4.2 (v5 + ((nI 3) * v6)).toNatClampNeg).toInt32)] μ Q)
      refine jX.s1 (k := 8) (pc' := 142) (by rfl) (by rfl) (by rfl) (fun lv l8 kp => (?_ : jX G jP 186 142 lv [] μ Q))
      replace l0 := kp 0 _ l0 (by rfl) (by first | rfl | simp [soR_cat])
      replace l1 := kp 1 _ l1 (by rfl) (by first | rfl | simp [soR_cat])
      replace l2 := kp 2 _ l2 (by rfl) (by first | rfl | simp [soR_cat])
      replace l3 := kp 3 _ l3 (by rfl) (by first | rfl | simp [soR_cat])
      replace l4 := kp 4 _ l4 (by rfl) (by first | rfl | simp [soR_cat])
      replace l5 := kp 5 _ l5 (by rfl) (by first | rfl | simp [soR_cat])
      replace l6 := kp 6 _ l6 (by rfl) (by first | rfl | simp [soR_cat])
      replace l7 := kp 7 _ l7 (by rfl) (by first | rfl | simp [soR_cat])
      refine jX.lr l4 (by rfl) (by rfl) (?_ : jX G jP 186 144 lv [.ref (spl 56 v4.1 v4.2)] μ Q)
      refine jX.sg R g5 (by rfl) (by rfl) (by rfl) (by rfl) (by rfl) (?_ : jX G jP 186 147 lv [.ref (spl 58 v4.1 v4.2)] μ Q)
      refine jX.li l7 (by rfl) (by rfl) (?_ : jX G jP 186 149 lv [.int (v5 + ((nI 3) * v6)), .ref (spl 58 v4.1 v4.2)] μ Q)
      refine jX.ic (v := nI 2) (n := 1) (by rfl) (by rfl) (by decide) (?_ : jX G jP 186 150 lv [.int (nI 2), .int (v5 + ((nI 3) * v6)), .ref (spl 58 v4.1 v4.2)] μ Q)
      refine jX.go (by rfl) (by rfl) (by rfl) (?_ : jX G jP 186 151 lv [.int ((v5 + ((nI 3) * v6)) + (nI 2)), .ref (spl 58 v4.1 v4.2)] μ Q)
      obtain ⟨g8, h⟩ := jif_some h
      obtain ⟨g9, h⟩ := jif_some h
      refine jX.sai R g8 (by rfl) (by rfl) (by rfl) g9 (?_ : jX G jP 186 152 lv [.int (S.1 58 v4.1 v4.2 ((v5 + ((nI 3) * v6)) + (nI 2)).toNatClampNeg)] μ Q)
      refine jX.s1 (k := 9) (pc' := 154) (by rfl) (by rfl) (by rfl) (fun lv l9 kp => (?_ : jX G jP 186 154 lv [] μ Q))
      replace l0 := kp 0 _ l0 (by rfl) (by first | rfl | simp [soR_cat])
      replace l1 := kp 1 _ l1 (by rfl) (by first | rfl | simp [soR_cat])
      replace l2 := kp 2 _ l2 (by rfl) (by first | rfl | simp [soR_cat])
      replace l3 := kp 3 _ l3 (by rfl) (by first | rfl | simp [soR_cat])
      replace l4 := kp 4 _ l4 (by rfl) (by first | rfl | simp [soR_cat])
      replace l5 := kp 5 _ l5 (by rfl) (by first | rfl | simp [soR_cat])
      replace l6 := kp 6 _ l6 (by rfl) (by first | rfl | simp [soR_cat])
      replace l7 := kp 7 _ l7 (by rfl) (by first | rfl | simp [soR_cat])
      replace l8 := kp 8 _ l8 (by rfl) (by first | rfl | simp [soR_cat])
      refine jX.lr l4 (by rfl) (by rfl) (?_ : jX G jP 186 156 lv [.ref (spl 56 v4.1 v4.2)] μ Q)
      refine jX.sg R g5 (by rfl) (by rfl) (by rfl) (by rfl) (by rfl) (?_ : jX G jP 186 159 lv [.ref (spl 62 v4.1 v4.2)] μ Q)
      refine jX.li l7 (by rfl) (by rfl) (?_ : jX G jP 186 161 lv [.int (v5 + ((nI 3) * v6)), .ref (spl 62 v4.1 v4.2)] μ Q)
      refine jX.ic (v := nI 2) (n := 1) (by rfl) (by rfl) (by decide) (?_ : jX G jP 186 162 lv [.int (nI 2), .int (v5 + ((nI 3) * v6)), .ref (spl 62 v4.1 v4.2)] μ Q)
      refine jX.go (by rfl) (by rfl) (by rfl) (?_ : jX G jP 186 163 lv [.int ((v5 + ((nI 3) * v6)) + (nI 2)), .ref (spl 62 v4.1 v4.2)] μ Q)
      obtain ⟨g10, h⟩ := jif_some h
      refine jX.sal R g6 (by rfl) (by rfl) (by rfl) g10 (?_ : jX G jP 186 164 lv [.long (S.2.1 62 v4.1 v4.2 ((v5 + ((nI 3) * v6)) + (nI 2)).toNatClampNeg)] μ Q)
      refine jX.s2 (k := 10) (pc' := 166) (by rfl) (by rfl) (by rfl) (fun lv l10 kp => (?_ : jX G jP 186 166 lv [] μ Q))
      replace l0 := kp 0 _ l0 (by rfl) (by first | rfl | simp [soR_cat])
      replace l1 := kp 1 _ l1 (by rfl) (by first | rfl | simp [soR_cat])
      replace l2 := kp 2 _ l2 (by rfl) (by first | rfl | simp [soR_cat])
      replace l3 := kp 3 _ l3 (by rfl) (by first | rfl | simp [soR_cat])
      replace l4 := kp 4 _ l4 (by rfl) (by first | rfl | simp [soR_cat])
      replace l5 := kp 5 _ l5 (by rfl) (by first | rfl | simp [soR_cat])
      replace l6 := kp 6 _ l6 (by rfl) (by first | rfl | simp [soR_cat])
      replace l7 := kp 7 _ l7 (by rfl) (by first | rfl | simp [soR_cat])
      replace l8 := kp 8 _ l8 (by rfl) (by first | rfl | simp [soR_cat])
      replace l9 := kp 9 _ l9 (by rfl) (by first | rfl | simp [soR_cat])
      refine jX.lr l4 (by rfl) (by rfl) (?_ : jX G jP 186 168 lv [.ref (spl 56 v4.1 v4.2)] μ Q)
      refine jX.sg R g5 (by rfl) (by rfl) (by rfl) (by rfl) (by rfl) (?_ : jX G jP 186 171 lv [.ref (spl 62 v4.1 v4.2)] μ Q)
      refine jX.li l7 (by rfl) (by rfl) (?_ : jX G jP 186 173 lv [.int (v5 + ((nI 3) * v6)), .ref (spl 62 v4.1 v4.2)] μ Q)
      refine jX.ic (v := nI 1) (n := 1) (by rfl) (by rfl) (by decide) (?_ : jX G jP 186 174 lv [.int (nI 1), .int (v5 + ((nI 3) * v6)), .ref (spl 62 v4.1 v4.2)] μ Q)
      refine jX.go (by rfl) (by rfl) (by rfl) (?_ : jX G jP 186 175 lv [.int ((v5 + ((nI 3) * v6)) + (nI 1)), .ref (spl 62 v4.1 v4.2)] μ Q)
      obtain ⟨g11, h⟩ := jif_some h
      refine jX.sal R g6 (by rfl) (by rfl) (by rfl) g11 (?_ : jX G jP 186 176 lv [.long (S.2.1 62 v4.1 v4.2 ((v5 + ((nI 3) * v6)) + (nI 1)).toNatClampNeg)] μ Q)
      refine jX.go (by rfl) (by rfl) (by rfl) (?_ : jX G jP 186 177 lv [.long 0, .long (S.2.1 62 v4.1 v4.2 ((v5 + ((nI 3) * v6)) + (nI 1)).toNatClampNeg)] μ Q)
      refine jX.go (by rfl) (by rfl) (by rfl) (?_ : jX G jP 186 178 lv [.int (lg_cmp (S.2.1 62 v4.1 v4.2 ((v5 + ((nI 3) * v6)) + (nI 1)).toNatClampNeg) 0)] μ Q)
      rcases bif_or h with ⟨hc, h⟩ | ⟨hc, h⟩
      · refine jX.b1t hc (by rfl) (by rfl) (by rfl) (?_ : jX G jP 186 185 lv [] μ Q)
        refine jX.ic (v := nI 0) (n := 1) (by rfl) (by rfl) (by decide) (?_ : jX G jP 186 186 lv [.int (nI 0)] μ Q)
        exact F_186_186_ok ih K v1 v2 v3 v4 v5 v6 (v5 + ((nI 3) * v6)) ((S.2.1 62 v4.1 v4.2 (v5 + ((nI 3) * v6)).toNatClampNeg).toInt32) (S.1 58 v4.1 v4.2 ((v5 + ((nI 3) * v6)) + (nI 2)).toNatClampNeg) (S.2.1 62 v4.1 v4.2 ((v5 + ((nI 3) * v6)) + (nI 2)).toNatClampNeg) (nI 0) _ _ _ l0 l1 l2 l3 l4 l5 l6 l7 l8 l9 l10 R h
      · refine jX.b1f hc (by rfl) (by rfl) (by rfl) (?_ : jX G jP 186 181 lv [] μ Q)
        refine jX.ic (v := nI 1) (n := 1) (by rfl) (by rfl) (by decide) (?_ : jX G jP 186 182 lv [.int (nI 1)] μ Q)
        refine jX.go (by rfl) (by rfl) (by rfl) (?_ : jX G jP 186 186 lv [.int (nI 1)] μ Q)
        exact F_186_186_ok ih K v1 v2 v3 v4 v5 v6 (v5 + ((nI 3) * v6)) ((S.2.1 62 v4.1 v4.2 (v5 + ((nI 3) * v6)).toNatClampNeg).toInt32) (S.1 58 v4.1 v4.2 ((v5 + ((nI 3) * v6)) + (nI 2)).toNatClampNeg) (S.2.1 62 v4.1 v4.2 ((v5 + ((nI 3) * v6)) + (nI 2)).toNatClampNeg) (nI 1) _ _ _ l0 l1 l2 l3 l4 l5 l6 l7 l8 l9 l10 R h
def F_186_25 (G : jG) (t : Nat) : Nat → (Nat × Nat) → Int32 → Int32 → (Nat × Nat) → Int32 → Int32 → sS → Option (Unit × sS)
  | 0 => fun _ _ _ _ _ _ _ => none
  | tt + 1 => fun v1 v2 v3 v4 v5 v6 S => bif jcmp .ge v6 v3 then (F_186_116 G t t v1 v2 v3 v4 v5 (nI 0) S) else (jif (sex S.2.2.2.1 56 v4.1 v4.2) (jif (sex S.2.2.2.1 58 v4.1 v4.2) (jif (jin (v5 + ((nI 3) * v6)) 16) (bif jcmp .eq (S.1 58 v4.1 v4.2 (v5 + ((nI 3) * v6)).toNatClampNeg) (nI 1) then (F_186_76 G t (F_186_25 G t tt) v1 v2 v3 v4 v5 v6 (v5 + ((nI 3) * v6)) S) else (jif (jin (v5 + ((nI 3) * v6)) 16) (jif (sex S.2.2.2.1 62 v4.1 v4.2) (jif (jin (v5 + ((nI 3) * v6)) 16) ((F_170 G t (S.1 58 v4.1 v4.2 (v5 + ((nI 3) * v6)).toNatClampNeg) (S.2.1 62 v4.1 v4.2 (v5 + ((nI 3) * v6)).toNatClampNeg) (nI 3) S).bind (fun q7 => bif jcmp .eq q7.1 0 then (F_186_89 G t v1 v3 q7.2) else (F_186_76 G t (F_186_25 G t tt) v1 v2 v3 v4 v5 v6 (v5 + ((nI 3) * v6)) q7.2))))))))))
theorem F_186_25_ok {G : jG} {t : Nat} {r : Unit} {S' : sS} {Q : Option Value ⊕ Nat → jS → Prop} (K : ∀ μ', sR S' μ' → Q (srV r) μ') : ∀ tt : Nat, ∀ (v1 : (Nat × Nat)) (v2 : Int32) (v3 : Int32) (v4 : (Nat × Nat)) (v5 : Int32) (v6 : Int32) (S : sS) (lv : jL) (μ : jS), jld lv 0 = some (.ref (spl 33 0 0)) → jld lv 1 = some (.ref (spl 54 v1.1 v1.2)) → jld lv 2 = some (.int v2) → jld lv 3 = some (.int v3) → jld lv 4 = some (.ref (spl 56 v4.1 v4.2)) → jld lv 5 = some (.int v5) → jld lv 6 = some (.int v6) → sR S μ → F_186_25 G t tt v1 v2 v3 v4 v5 v6 S = some (r, S') → jX G jP 186 25 lv [] μ Q := by
  intro tt
  induction tt with
  | zero =>
    intro v1 v2 v3 v4 v5 v6 S lv μ l0 l1 l2 l3 l4 l5 l6 R h
    rw [F_186_25] at h
    cases h
  | succ tt ih =>
    intro v1 v2 v3 v4 v5 v6 S lv μ l0 l1 l2 l3 l4 l5 l6 R h
    rw [F_186_25] at h
    refine jX.li l6 (by rfl) (by rfl) (?_ : jX G jP 186 27 lv [.int v6] μ Q)
    refine jX.lin l3 (by rfl) (by rfl) (?_ : jX G jP 186 28 lv [.int v3, .int v6] μ Q)
    rcases bif_or h with ⟨hc, h⟩ | ⟨hc, h⟩
    · refine jX.b2t hc (by rfl) (by rfl) (by rfl) (?_ : jX G jP 186 113 lv [] μ Q)
      refine jX.ic (v := nI 0) (n := 1) (by rfl) (by rfl) (by decide) (?_ : jX G jP 186 114 lv [.int (nI 0)] μ Q)
      refine jX.s1 (k := 6) (pc' := 116) (by rfl) (by rfl) (by rfl) (fun lv l6 kp => (?_ : jX G jP 186 116 lv [] μ Q))
      replace l0 := kp 0 _ l0 (by rfl) (by first | rfl | simp [soR_cat])
      replace l1 := kp 1 _ l1 (by rfl) (by first | rfl | simp [soR_cat])
      replace l2 := kp 2 _ l2 (by rfl) (by first | rfl | simp [soR_cat])
      replace l3 := kp 3 _ l3 (by rfl) (by first | rfl | simp [soR_cat])
      replace l4 := kp 4 _ l4 (by rfl) (by first | rfl | simp [soR_cat])
      replace l5 := kp 5 _ l5 (by rfl) (by first | rfl | simp [soR_cat])
      exact F_186_116_ok  K _ v1 v2 v3 v4 v5 (nI 0) _ _ _ l0 l1 l2 l3 l4 l5 l6 R h
    · refine jX.b2f hc (by rfl) (by rfl) (by rfl) (?_ : jX G jP 186 31 lv [] μ Q)
      refine jX.li l5 (by rfl) (by rfl) (?_ : jX G jP 186 33 lv [.int v5] μ Q)
      refine jX.ic (v := nI 3) (n := 1) (by rfl) (by rfl) (by decide) (?_ : jX G jP 186 34 lv [.int (nI 3), .int v5] μ Q)
      refine jX.li l6 (by rfl) (by rfl) (?_ : jX G jP 186 36 lv [.int v6, .int (nI 3), .int v5] μ Q)
      refine jX.go (by rfl) (by rfl) (by rfl) (?_ : jX G jP 186 37 lv [.int ((nI 3) * v6), .int v5] μ Q)
      refine jX.go (by rfl) (by rfl) (by rfl) (?_ : jX G jP 186 38 lv [.int (v5 + ((nI 3) * v6))] μ Q)
      refine jX.s1 (k := 7) (pc' := 40) (by rfl) (by rfl) (by rfl) (fun lv l7 kp => (?_ : jX G jP 186 40 lv [] μ Q))
      replace l0 := kp 0 _ l0 (by rfl) (by first | rfl | simp [soR_cat])
      replace l1 := kp 1 _ l1 (by rfl) (by first | rfl | simp [soR_cat])
      replace l2 := kp 2 _ l2 (by rfl) (by first | rfl | simp [soR_cat])
      replace l3 := kp 3 _ l3 (by rfl) (by first | rfl | simp [soR_cat])
      replace l4 := kp 4 _ l4 (by rfl) (by first | rfl | simp [soR_cat])
      replace l5 := kp 5 _ l5 (by rfl) (by first | rfl | simp [soR_cat])
      replace l6 := kp 6 _ l6 (by rfl) (by first | rfl | simp [soR_cat])
      refine jX.lr l4 (by rfl) (by rfl) (?_ : jX G jP 186 42 lv [.ref (spl 56 v4.1 v4.2)] μ Q)
      obtain ⟨g1, h⟩ := jif_some h
      refine jX.sg R g1 (by rfl) (by rfl) (by rfl) (by rfl) (by rfl) (?_ : jX G jP 186 45 lv [.ref (spl 58 v4.1 v4.2)] μ Q)
      refine jX.li l7 (by rfl) (by rfl) (?_ : jX G jP 186 47 lv [.int (v5 + ((nI 3) * v6)), .ref (spl 58 v4.1 v4.2)] μ Q)
      obtain ⟨g2, h⟩ := jif_some h
      obtain ⟨g3, h⟩ := jif_some h
      refine jX.sai R g2 (by rfl) (by rfl) (by rfl) g3 (?_ : jX G jP 186 48 lv [.int (S.1 58 v4.1 v4.2 (v5 + ((nI 3) * v6)).toNatClampNeg)] μ Q)
      refine jX.ic (v := nI 1) (n := 1) (by rfl) (by rfl) (by decide) (?_ : jX G jP 186 49 lv [.int (nI 1), .int (S.1 58 v4.1 v4.2 (v5 + ((nI 3) * v6)).toNatClampNeg)] μ Q)
      rcases bif_or h with ⟨hc, h⟩ | ⟨hc, h⟩
      · refine jX.b2t hc (by rfl) (by rfl) (by rfl) (?_ : jX G jP 186 76 lv [] μ Q)
        exact F_186_76_ok ih K v1 v2 v3 v4 v5 v6 (v5 + ((nI 3) * v6)) _ _ _ l0 l1 l2 l3 l4 l5 l6 l7 R h
      · refine jX.b2f hc (by rfl) (by rfl) (by rfl) (?_ : jX G jP 186 52 lv [] μ Q)
        refine jX.lrn l0 (by rfl) (by rfl) (?_ : jX G jP 186 53 lv [.ref (spl 33 0 0)] μ Q)
        refine jX.lr l4 (by rfl) (by rfl) (?_ : jX G jP 186 55 lv [.ref (spl 56 v4.1 v4.2), .ref (spl 33 0 0)] μ Q)
        refine jX.sg R g1 (by rfl) (by rfl) (by rfl) (by rfl) (by rfl) (?_ : jX G jP 186 58 lv [.ref (spl 58 v4.1 v4.2), .ref (spl 33 0 0)] μ Q)
        refine jX.li l7 (by rfl) (by rfl) (?_ : jX G jP 186 60 lv [.int (v5 + ((nI 3) * v6)), .ref (spl 58 v4.1 v4.2), .ref (spl 33 0 0)] μ Q)
        obtain ⟨g4, h⟩ := jif_some h
        refine jX.sai R g2 (by rfl) (by rfl) (by rfl) g4 (?_ : jX G jP 186 61 lv [.int (S.1 58 v4.1 v4.2 (v5 + ((nI 3) * v6)).toNatClampNeg), .ref (spl 33 0 0)] μ Q)
        refine jX.lr l4 (by rfl) (by rfl) (?_ : jX G jP 186 63 lv [.ref (spl 56 v4.1 v4.2), .int (S.1 58 v4.1 v4.2 (v5 + ((nI 3) * v6)).toNatClampNeg), .ref (spl 33 0 0)] μ Q)
        refine jX.sg R g1 (by rfl) (by rfl) (by rfl) (by rfl) (by rfl) (?_ : jX G jP 186 66 lv [.ref (spl 62 v4.1 v4.2), .int (S.1 58 v4.1 v4.2 (v5 + ((nI 3) * v6)).toNatClampNeg), .ref (spl 33 0 0)] μ Q)
        refine jX.li l7 (by rfl) (by rfl) (?_ : jX G jP 186 68 lv [.int (v5 + ((nI 3) * v6)), .ref (spl 62 v4.1 v4.2), .int (S.1 58 v4.1 v4.2 (v5 + ((nI 3) * v6)).toNatClampNeg), .ref (spl 33 0 0)] μ Q)
        obtain ⟨g5, h⟩ := jif_some h
        obtain ⟨g6, h⟩ := jif_some h
        refine jX.sal R g5 (by rfl) (by rfl) (by rfl) g6 (?_ : jX G jP 186 69 lv [.long (S.2.1 62 v4.1 v4.2 (v5 + ((nI 3) * v6)).toNatClampNeg), .int (S.1 58 v4.1 v4.2 (v5 + ((nI 3) * v6)).toNatClampNeg), .ref (spl 33 0 0)] μ Q)
        refine jX.ic (v := nI 3) (n := 1) (by rfl) (by rfl) (by decide) (?_ : jX G jP 186 70 lv [.int (nI 3), .long (S.2.1 62 v4.1 v4.2 (v5 + ((nI 3) * v6)).toNatClampNeg), .int (S.1 58 v4.1 v4.2 (v5 + ((nI 3) * v6)).toNatClampNeg), .ref (spl 33 0 0)] μ Q)
        obtain ⟨q7, e7, h⟩ := sbd h
        refine jX.c1 (v := .int q7.1) (by rfl) (by rfl) (by rfl) (by rfl) (by rfl) (by rfl) (by rfl) (R.rec (by rfl) (by rfl)) (Nat.le_of_ble_eq_true rfl) (Nat.le_of_ble_eq_true rfl) (F_170_ok R e7 (fun μ R => ⟨rfl, (?_ : jX G jP 186 73 lv [.int q7.1] μ Q)⟩))
        rcases bif_or h with ⟨hc, h⟩ | ⟨hc, h⟩
        · refine jX.b1t hc (by rfl) (by rfl) (by rfl) (?_ : jX G jP 186 89 lv [] μ Q)
          exact F_186_89_ok  K v1 v3 _ _ _ l0 l1 l3 R h
        · refine jX.b1f hc (by rfl) (by rfl) (by rfl) (?_ : jX G jP 186 76 lv [] μ Q)
          exact F_186_76_ok ih K v1 v2 v3 v4 v5 v6 (v5 + ((nI 3) * v6)) _ _ _ l0 l1 l2 l3 l4 l5 l6 l7 R h
def F_186 (G : jG) (t : Nat) (v1 : (Nat × Nat)) (v2 : Int32) (S : sS) : Option (Unit × sS) := (F_151 G t v1 S).bind (fun q1 => (q1.1).bind (fun a2 => jif (sex q1.2.2.2.2.1 56 a2.1 a2.2) (F_186_25 G t t v1 v2 (v2 &&& (nI 7)) a2 ((q1.2.1 56 a2.1 a2.2 2) - ((nI 3) * (v2 &&& (nI 7)))) (nI 0) q1.2)))
theorem F_186_ok {G : jG} {t : Nat} {v1 : (Nat × Nat)} {v2 : Int32} {S : sS} {r : Unit} {S' : sS} {μ : jS} {Q : Option Value ⊕ Nat → jS → Prop} (R : sR S μ) (h : F_186 G t v1 v2 S = some (r, S')) (K : ∀ μ', sR S' μ' → Q (srV r) μ') : jX G jP 186 0 (lv_args 0 [.ref (spl 33 0 0), .ref (spl 54 v1.1 v1.2), .int v2]) [] μ Q := by
  unfold F_186 at h
  have l0 : jld (lv_args 0 [.ref (spl 33 0 0), .ref (spl 54 v1.1 v1.2), .int v2]) 0 = some (.ref (spl 33 0 0)) := by rfl
  have l1 : jld (lv_args 0 [.ref (spl 33 0 0), .ref (spl 54 v1.1 v1.2), .int v2]) 1 = some (.ref (spl 54 v1.1 v1.2)) := by rfl
  have l2 : jld (lv_args 0 [.ref (spl 33 0 0), .ref (spl 54 v1.1 v1.2), .int v2]) 2 = some (.int v2) := by rfl
  generalize lv_args 0 [.ref (spl 33 0 0), .ref (spl 54 v1.1 v1.2), .int v2] = lv at *
  refine jX.lin l2 (by rfl) (by rfl) (?_ : jX G jP 186 1 lv [.int v2] μ Q)
  refine jX.ic (v := nI 7) (n := 2) (by rfl) (by rfl) (by decide) (?_ : jX G jP 186 3 lv [.int (nI 7), .int v2] μ Q)
  refine jX.go (by rfl) (by rfl) (by rfl) (?_ : jX G jP 186 4 lv [.int (v2 &&& (nI 7))] μ Q)
  refine jX.s1 (k := 3) (pc' := 5) (by rfl) (by rfl) (by rfl) (fun lv l3 kp => (?_ : jX G jP 186 5 lv [] μ Q))
  replace l0 := kp 0 _ l0 (by rfl) (by first | rfl | simp [soR_cat])
  replace l1 := kp 1 _ l1 (by rfl) (by first | rfl | simp [soR_cat])
  replace l2 := kp 2 _ l2 (by rfl) (by first | rfl | simp [soR_cat])
  refine jX.lrn l1 (by rfl) (by rfl) (?_ : jX G jP 186 6 lv [.ref (spl 54 v1.1 v1.2)] μ Q)
  obtain ⟨q1, e1, h⟩ := sbd h
  refine jX.c1 (v := soR 56 q1.1) (by rfl) (by rfl) (by rfl) (by rfl) (by rfl) (by rfl) (by rfl) (by rfl) (Nat.le_of_ble_eq_true rfl) (Nat.le_of_ble_eq_true rfl) (F_151_ok R e1 (fun μ R => ⟨rfl, (?_ : jX G jP 186 9 lv [soR 56 q1.1] μ Q)⟩))
  refine jX.so (k := 4) (pc' := 11) (by rfl) (by rfl) (fun _ => by rfl) (by rfl) (fun lv l4 kp => (?_ : jX G jP 186 11 lv [] μ Q))
  replace l0 := kp 0 _ l0 (by rfl) (by first | rfl | simp [soR_cat])
  replace l1 := kp 1 _ l1 (by rfl) (by first | rfl | simp [soR_cat])
  replace l2 := kp 2 _ l2 (by rfl) (by first | rfl | simp [soR_cat])
  replace l3 := kp 3 _ l3 (by rfl) (by first | rfl | simp [soR_cat])
  refine jX.lo l4 (by rfl) (by rfl) (?_ : jX G jP 186 13 lv [soR 56 q1.1] μ Q)
  obtain ⟨a2, e2, h⟩ := sbd h
  rw [soR_some (t := 56) e2]
  rw [soR_some (t := 56) e2] at l4
  obtain ⟨g3, h⟩ := jif_some h
  refine jX.sg R g3 (by rfl) (by rfl) (by rfl) (by rfl) (by rfl) (?_ : jX G jP 186 16 lv [.int (q1.2.1 56 a2.1 a2.2 2)] μ Q)
  refine jX.ic (v := nI 3) (n := 1) (by rfl) (by rfl) (by decide) (?_ : jX G jP 186 17 lv [.int (nI 3), .int (q1.2.1 56 a2.1 a2.2 2)] μ Q)
  refine jX.lin l3 (by rfl) (by rfl) (?_ : jX G jP 186 18 lv [.int (v2 &&& (nI 7)), .int (nI 3), .int (q1.2.1 56 a2.1 a2.2 2)] μ Q)
  refine jX.go (by rfl) (by rfl) (by rfl) (?_ : jX G jP 186 19 lv [.int ((nI 3) * (v2 &&& (nI 7))), .int (q1.2.1 56 a2.1 a2.2 2)] μ Q)
  refine jX.go (by rfl) (by rfl) (by rfl) (?_ : jX G jP 186 20 lv [.int ((q1.2.1 56 a2.1 a2.2 2) - ((nI 3) * (v2 &&& (nI 7))))] μ Q)
  refine jX.s1 (k := 5) (pc' := 22) (by rfl) (by rfl) (by rfl) (fun lv l5 kp => (?_ : jX G jP 186 22 lv [] μ Q))
  replace l0 := kp 0 _ l0 (by rfl) (by first | rfl | simp [soR_cat])
  replace l1 := kp 1 _ l1 (by rfl) (by first | rfl | simp [soR_cat])
  replace l2 := kp 2 _ l2 (by rfl) (by first | rfl | simp [soR_cat])
  replace l3 := kp 3 _ l3 (by rfl) (by first | rfl | simp [soR_cat])
  replace l4 := kp 4 _ l4 (by rfl) (by first | rfl | simp [soR_cat])
  refine jX.ic (v := nI 0) (n := 1) (by rfl) (by rfl) (by decide) (?_ : jX G jP 186 23 lv [.int (nI 0)] μ Q)
  refine jX.s1 (k := 6) (pc' := 25) (by rfl) (by rfl) (by rfl) (fun lv l6 kp => (?_ : jX G jP 186 25 lv [] μ Q))
  replace l0 := kp 0 _ l0 (by rfl) (by first | rfl | simp [soR_cat])
  replace l1 := kp 1 _ l1 (by rfl) (by first | rfl | simp [soR_cat])
  replace l2 := kp 2 _ l2 (by rfl) (by first | rfl | simp [soR_cat])
  replace l3 := kp 3 _ l3 (by rfl) (by first | rfl | simp [soR_cat])
  replace l4 := kp 4 _ l4 (by rfl) (by first | rfl | simp [soR_cat])
  replace l5 := kp 5 _ l5 (by rfl) (by first | rfl | simp [soR_cat])
  exact F_186_25_ok  K _ v1 v2 (v2 &&& (nI 7)) a2 ((q1.2.1 56 a2.1 a2.2 2) - ((nI 3) * (v2 &&& (nI 7)))) (nI 0) _ _ _ l0 l1 l2 l3 l4 l5 l6 R h
/-! 187 StrandRuntimeModel.recover(LStrandRuntimeModel$Strand;LStrandRuntimeModel$Frame;)V -/
def F_187_38 (G : jG) (t : Nat) (v1 : (Nat × Nat)) (S : sS) : Option (Unit × sS) := (F_157 G t v1 (nI 1) 0 S).bind (fun q1 => some ((), q1.2))
theorem F_187_38_ok {G : jG} {t : Nat} {r : Unit} {S' : sS} {Q : Option Value ⊕ Nat → jS → Prop} (K : ∀ μ', sR S' μ' → Q (srV r) μ') : ∀ (v1 : (Nat × Nat)) (S : sS) (lv : jL) (μ : jS), jld lv 0 = some (.ref (spl 33 0 0)) → jld lv 1 = some (.ref (spl 54 v1.1 v1.2)) → sR S μ → F_187_38 G t v1 S = some (r, S') → jX G jP 187 38 lv [] μ Q := by
  intro v1 S lv μ l0 l1 R h
  unfold F_187_38 at h
  refine jX.lrn l0 (by rfl) (by rfl) (?_ : jX G jP 187 39 lv [.ref (spl 33 0 0)] μ Q)
  refine jX.lrn l1 (by rfl) (by rfl) (?_ : jX G jP 187 40 lv [.ref (spl 54 v1.1 v1.2), .ref (spl 33 0 0)] μ Q)
  refine jX.ic (v := nI 1) (n := 1) (by rfl) (by rfl) (by decide) (?_ : jX G jP 187 41 lv [.int (nI 1), .ref (spl 54 v1.1 v1.2), .ref (spl 33 0 0)] μ Q)
  refine jX.go (by rfl) (by rfl) (by rfl) (?_ : jX G jP 187 42 lv [.long 0, .int (nI 1), .ref (spl 54 v1.1 v1.2), .ref (spl 33 0 0)] μ Q)
  obtain ⟨q1, e1, h⟩ := sbd h
  refine jX.c1 (v := .int q1.1) (by rfl) (by rfl) (by rfl) (by rfl) (by rfl) (by rfl) (by rfl) (R.rec (by rfl) (by rfl)) (Nat.le_of_ble_eq_true rfl) (Nat.le_of_ble_eq_true rfl) (F_157_ok R e1 (fun μ R => ⟨rfl, (?_ : jX G jP 187 45 lv [.int q1.1] μ Q)⟩))
  refine jX.go (by rfl) (by rfl) (by rfl) (?_ : jX G jP 187 46 lv [] μ Q)
  exact jX.ret (by rfl) (by rfl) (by rfl) (by rfl) (sretv (f := srV) h K R)
def F_187_22 (G : jG) (t : Nat) (v1 : (Nat × Nat)) (v2 : (Nat × Nat)) (w0 : (Nat × Nat)) (S : sS) : Option (Unit × sS) := jif (sex S.2.2.2.1 56 v2.1 v2.2) (bif jcmp .eq (S.1 56 v2.1 v2.2 5) 0 then (F_187_38 G t v1 S) else (jif (sex S.2.2.2.1 56 w0.1 w0.2) (bif jcmp .eq (S.1 56 w0.1 w0.2 4) (nI 2) then ((F_157 G t v1 (nI 0) (S.2.1 56 w0.1 w0.2 6) S).bind (fun q3 => bif jcmp .ne q3.1 0 then (jif (sex q3.2.2.2.2.1 56 w0.1 w0.2) (some ((), (siL (siI (siI q3.2 56 w0.1 w0.2 4 (nI 1)) 56 w0.1 w0.2 7 (nI 0)) 56 w0.1 w0.2 8 0)))) else (some ((), q3.2)))) else (F_187_38 G t v1 S))))
theorem F_187_22_ok {G : jG} {t : Nat} {r : Unit} {S' : sS} {Q : Option Value ⊕ Nat → jS → Prop} (K : ∀ μ', sR S' μ' → Q (srV r) μ') : ∀ (v1 : (Nat × Nat)) (v2 : (Nat × Nat)) (w0 : (Nat × Nat)) (S : sS) (lv : jL) (μ : jS), jld lv 0 = some (.ref (spl 33 0 0)) → jld lv 1 = some (.ref (spl 54 v1.1 v1.2)) → jld lv 2 = some (.ref (spl 56 v2.1 v2.2)) → sR S μ → F_187_22 G t v1 v2 w0 S = some (r, S') → jX G jP 187 22 lv [.ref (spl 56 w0.1 w0.2)] μ Q := by
  intro v1 v2 w0 S lv μ l0 l1 l2 R h
  unfold F_187_22 at h
  refine jX.s1 (k := 3) (pc' := 23) (by rfl) (by rfl) (by rfl) (fun lv l3 kp => (?_ : jX G jP 187 23 lv [] μ Q))
  replace l0 := kp 0 _ l0 (by rfl) (by first | rfl | simp [soR_cat])
  replace l1 := kp 1 _ l1 (by rfl) (by first | rfl | simp [soR_cat])
  replace l2 := kp 2 _ l2 (by rfl) (by first | rfl | simp [soR_cat])
  refine jX.lrn l2 (by rfl) (by rfl) (?_ : jX G jP 187 24 lv [.ref (spl 56 v2.1 v2.2)] μ Q)
  obtain ⟨g1, h⟩ := jif_some h
  refine jX.sg R g1 (by rfl) (by rfl) (by rfl) (by rfl) (by rfl) (?_ : jX G jP 187 27 lv [.int (S.1 56 v2.1 v2.2 5)] μ Q)
  rcases bif_or h with ⟨hc, h⟩ | ⟨hc, h⟩
  · refine jX.b1t hc (by rfl) (by rfl) (by rfl) (?_ : jX G jP 187 38 lv [] μ Q)
    exact F_187_38_ok  K v1 _ _ _ l0 l1 R h
  · refine jX.b1f hc (by rfl) (by rfl) (by rfl) (?_ : jX G jP 187 30 lv [] μ Q)
    refine jX.lrn l3 (by rfl) (by rfl) (?_ : jX G jP 187 31 lv [.ref (spl 56 w0.1 w0.2)] μ Q)
    obtain ⟨g2, h⟩ := jif_some h
    refine jX.sg R g2 (by rfl) (by rfl) (by rfl) (by rfl) (by rfl) (?_ : jX G jP 187 34 lv [.int (S.1 56 w0.1 w0.2 4)] μ Q)
    refine jX.ic (v := nI 2) (n := 1) (by rfl) (by rfl) (by decide) (?_ : jX G jP 187 35 lv [.int (nI 2), .int (S.1 56 w0.1 w0.2 4)] μ Q)
    rcases bif_or h with ⟨hc, h⟩ | ⟨hc, h⟩
    · refine jX.b2t hc (by rfl) (by rfl) (by rfl) (?_ : jX G jP 187 47 lv [] μ Q)
      refine jX.lrn l0 (by rfl) (by rfl) (?_ : jX G jP 187 48 lv [.ref (spl 33 0 0)] μ Q)
      refine jX.lrn l1 (by rfl) (by rfl) (?_ : jX G jP 187 49 lv [.ref (spl 54 v1.1 v1.2), .ref (spl 33 0 0)] μ Q)
      refine jX.ic (v := nI 0) (n := 1) (by rfl) (by rfl) (by decide) (?_ : jX G jP 187 50 lv [.int (nI 0), .ref (spl 54 v1.1 v1.2), .ref (spl 33 0 0)] μ Q)
      refine jX.lrn l3 (by rfl) (by rfl) (?_ : jX G jP 187 51 lv [.ref (spl 56 w0.1 w0.2), .int (nI 0), .ref (spl 54 v1.1 v1.2), .ref (spl 33 0 0)] μ Q)
      refine jX.sg R g2 (by rfl) (by rfl) (by rfl) (by rfl) (by rfl) (?_ : jX G jP 187 54 lv [.long (S.2.1 56 w0.1 w0.2 6), .int (nI 0), .ref (spl 54 v1.1 v1.2), .ref (spl 33 0 0)] μ Q)
      obtain ⟨q3, e3, h⟩ := sbd h
      refine jX.c1 (v := .int q3.1) (by rfl) (by rfl) (by rfl) (by rfl) (by rfl) (by rfl) (by rfl) (R.rec (by rfl) (by rfl)) (Nat.le_of_ble_eq_true rfl) (Nat.le_of_ble_eq_true rfl) (F_157_ok R e3 (fun μ R => ⟨rfl, (?_ : jX G jP 187 57 lv [.int q3.1] μ Q)⟩))
      rcases bif_or h with ⟨hc, h⟩ | ⟨hc, h⟩
      · refine jX.b1t hc (by rfl) (by rfl) (by rfl) (?_ : jX G jP 187 61 lv [] μ Q)
        refine jX.lrn l3 (by rfl) (by rfl) (?_ : jX G jP 187 62 lv [.ref (spl 56 w0.1 w0.2)] μ Q)
        refine jX.ic (v := nI 1) (n := 1) (by rfl) (by rfl) (by decide) (?_ : jX G jP 187 63 lv [.int (nI 1), .ref (spl 56 w0.1 w0.2)] μ Q)
        obtain ⟨g4, h⟩ := jif_some h
        refine jX.spI R g4 (by rfl) (by rfl) (by rfl) (by rfl) (by rfl) (by rfl) (by rfl) (by rfl) (fun μ R => (?_ : jX G jP 187 66 lv [] μ Q))
        refine jX.lrn l3 (by rfl) (by rfl) (?_ : jX G jP 187 67 lv [.ref (spl 56 w0.1 w0.2)] μ Q)
        refine jX.ic (v := nI 0) (n := 1) (by rfl) (by rfl) (by decide) (?_ : jX G jP 187 68 lv [.int (nI 0), .ref (spl 56 w0.1 w0.2)] μ Q)
        refine jX.spI R g4 (by rfl) (by rfl) (by rfl) (by rfl) (by rfl) (by rfl) (by rfl) (by rfl) (fun μ R => (?_ : jX G jP 187 71 lv [] μ Q))
        refine jX.lrn l3 (by rfl) (by rfl) (?_ : jX G jP 187 72 lv [.ref (spl 56 w0.1 w0.2)] μ Q)
        refine jX.go (by rfl) (by rfl) (by rfl) (?_ : jX G jP 187 73 lv [.long 0, .ref (spl 56 w0.1 w0.2)] μ Q)
        refine jX.spL R g4 (by rfl) (by rfl) (by rfl) (by rfl) (by rfl) (by rfl) (by rfl) (by rfl) (fun μ R => (?_ : jX G jP 187 76 lv [] μ Q))
        exact jX.ret (by rfl) (by rfl) (by rfl) (by rfl) (sretv (f := srV) h K R)
      · refine jX.b1f hc (by rfl) (by rfl) (by rfl) (?_ : jX G jP 187 60 lv [] μ Q)
        exact jX.ret (by rfl) (by rfl) (by rfl) (by rfl) (sretv (f := srV) h K R)
    · refine jX.b2f hc (by rfl) (by rfl) (by rfl) (?_ : jX G jP 187 38 lv [] μ Q)
      exact F_187_38_ok  K v1 _ _ _ l0 l1 R h
def F_187 (G : jG) (t : Nat) (v1 : (Nat × Nat)) (v2 : (Nat × Nat)) (S : sS) : Option (Unit × sS) := jif (sex S.2.2.2.1 56 v2.1 v2.2) (bif jcmp .eq (S.1 56 v2.1 v2.2 5) 0 then (F_187_22 G t v1 v2 v2 S) else (jif (sex S.2.2.2.1 54 v1.1 v1.2) (jif (sex S.2.2.2.1 55 v1.1 0) (jif (jin ((S.1 54 v1.1 v1.2 1) - (nI 2)) 30) (F_187_22 G t v1 v2 (v1.1, ((S.1 54 v1.1 v1.2 1) - (nI 2)).toNatClampNeg) S)))))
theorem F_187_ok {G : jG} {t : Nat} {v1 : (Nat × Nat)} {v2 : (Nat × Nat)} {S : sS} {r : Unit} {S' : sS} {μ : jS} {Q : Option Value ⊕ Nat → jS → Prop} (R : sR S μ) (h : F_187 G t v1 v2 S = some (r, S')) (K : ∀ μ', sR S' μ' → Q (srV r) μ') : jX G jP 187 0 (lv_args 0 [.ref (spl 33 0 0), .ref (spl 54 v1.1 v1.2), .ref (spl 56 v2.1 v2.2)]) [] μ Q := by
  unfold F_187 at h
  have l0 : jld (lv_args 0 [.ref (spl 33 0 0), .ref (spl 54 v1.1 v1.2), .ref (spl 56 v2.1 v2.2)]) 0 = some (.ref (spl 33 0 0)) := by rfl
  have l1 : jld (lv_args 0 [.ref (spl 33 0 0), .ref (spl 54 v1.1 v1.2), .ref (spl 56 v2.1 v2.2)]) 1 = some (.ref (spl 54 v1.1 v1.2)) := by rfl
  have l2 : jld (lv_args 0 [.ref (spl 33 0 0), .ref (spl 54 v1.1 v1.2), .ref (spl 56 v2.1 v2.2)]) 2 = some (.ref (spl 56 v2.1 v2.2)) := by rfl
  generalize lv_args 0 [.ref (spl 33 0 0), .ref (spl 54 v1.1 v1.2), .ref (spl 56 v2.1 v2.2)] = lv at *
  refine jX.lrn l2 (by rfl) (by rfl) (?_ : jX G jP 187 1 lv [.ref (spl 56 v2.1 v2.2)] μ Q)
  obtain ⟨g1, h⟩ := jif_some h
  refine jX.sg R g1 (by rfl) (by rfl) (by rfl) (by rfl) (by rfl) (?_ : jX G jP 187 4 lv [.int (S.1 56 v2.1 v2.2 5)] μ Q)
  rcases bif_or h with ⟨hc, h⟩ | ⟨hc, h⟩
  · refine jX.b1t hc (by rfl) (by rfl) (by rfl) (?_ : jX G jP 187 21 lv [] μ Q)
    refine jX.lrn l2 (by rfl) (by rfl) (?_ : jX G jP 187 22 lv [.ref (spl 56 v2.1 v2.2)] μ Q)
    exact F_187_22_ok  K v1 v2 v2 _ _ _ l0 l1 l2 R h
  · refine jX.b1f hc (by rfl) (by rfl) (by rfl) (?_ : jX G jP 187 7 lv [] μ Q)
    refine jX.lrn l1 (by rfl) (by rfl) (?_ : jX G jP 187 8 lv [.ref (spl 54 v1.1 v1.2)] μ Q)
    obtain ⟨g2, h⟩ := jif_some h
    refine jX.sg R g2 (by rfl) (by rfl) (by rfl) (by rfl) (by rfl) (?_ : jX G jP 187 11 lv [.ref (spl 55 v1.1 0)] μ Q)
    refine jX.lrn l1 (by rfl) (by rfl) (?_ : jX G jP 187 12 lv [.ref (spl 54 v1.1 v1.2), .ref (spl 55 v1.1 0)] μ Q)
    refine jX.sg R g2 (by rfl) (by rfl) (by rfl) (by rfl) (by rfl) (?_ : jX G jP 187 15 lv [.int (S.1 54 v1.1 v1.2 1), .ref (spl 55 v1.1 0)] μ Q)
    refine jX.ic (v := nI 2) (n := 1) (by rfl) (by rfl) (by decide) (?_ : jX G jP 187 16 lv [.int (nI 2), .int (S.1 54 v1.1 v1.2 1), .ref (spl 55 v1.1 0)] μ Q)
    refine jX.go (by rfl) (by rfl) (by rfl) (?_ : jX G jP 187 17 lv [.int ((S.1 54 v1.1 v1.2 1) - (nI 2)), .ref (spl 55 v1.1 0)] μ Q)
    obtain ⟨g3, h⟩ := jif_some h
    obtain ⟨g4, h⟩ := jif_some h
    refine jX.sar (f := fun q => bif Nat.blt q 30 then some (spl 56 v1.1 q) else none) R g3 (by rfl) (by rfl) (by rfl) g4 (srf_in g4) (?_ : jX G jP 187 18 lv [.ref (spl 56 v1.1 (((S.1 54 v1.1 v1.2 1) - (nI 2)).toNatClampNeg))] μ Q)
    refine jX.go (by rfl) (by rfl) (by rfl) (?_ : jX G jP 187 22 lv [.ref (spl 56 v1.1 (((S.1 54 v1.1 v1.2 1) - (nI 2)).toNatClampNeg))] μ Q)
    exact F_187_22_ok  K v1 v2 (v1.1, ((S.1 54 v1.1 v1.2 1) - (nI 2)).toNatClampNeg) _ _ _ l0 l1 l2 R h
/-! 188 StrandRuntimeModel.work(LStrandRuntimeModel$Strand;LStrandRuntimeModel$Frame;II)V -/
def F_188_35 (G : jG) (t : Nat) (v1 : (Nat × Nat)) (v5 : Int32) (S : sS) : Option (Unit × sS) := (F_156 G t v1 v5 S).bind (fun q1 => bif jcmp .eq q1.1 0 then (some ((), q1.2)) else ((F_155 G t v1 (-3) q1.2).bind (fun q2 => some ((), q2.2))))
theorem F_188_35_ok {G : jG} {t : Nat} {r : Unit} {S' : sS} {Q : Option Value ⊕ Nat → jS → Prop} (K : ∀ μ', sR S' μ' → Q (srV r) μ') : ∀ (v1 : (Nat × Nat)) (v5 : Int32) (S : sS) (lv : jL) (μ : jS), jld lv 0 = some (.ref (spl 33 0 0)) → jld lv 1 = some (.ref (spl 54 v1.1 v1.2)) → jld lv 5 = some (.int v5) → sR S μ → F_188_35 G t v1 v5 S = some (r, S') → jX G jP 188 35 lv [] μ Q := by
  intro v1 v5 S lv μ l0 l1 l5 R h
  unfold F_188_35 at h
  refine jX.lrn l0 (by rfl) (by rfl) (?_ : jX G jP 188 36 lv [.ref (spl 33 0 0)] μ Q)
  refine jX.lrn l1 (by rfl) (by rfl) (?_ : jX G jP 188 37 lv [.ref (spl 54 v1.1 v1.2), .ref (spl 33 0 0)] μ Q)
  refine jX.li l5 (by rfl) (by rfl) (?_ : jX G jP 188 39 lv [.int v5, .ref (spl 54 v1.1 v1.2), .ref (spl 33 0 0)] μ Q)
  obtain ⟨q1, e1, h⟩ := sbd h
  refine jX.c1 (v := .int q1.1) (by rfl) (by rfl) (by rfl) (by rfl) (by rfl) (by rfl) (by rfl) (R.rec (by rfl) (by rfl)) (Nat.le_of_ble_eq_true rfl) (Nat.le_of_ble_eq_true rfl) (F_156_ok R e1 (fun μ R => ⟨rfl, (?_ : jX G jP 188 42 lv [.int q1.1] μ Q)⟩))
  rcases bif_or h with ⟨hc, h⟩ | ⟨hc, h⟩
  · refine jX.b1t hc (by rfl) (by rfl) (by rfl) (?_ : jX G jP 188 53 lv [] μ Q)
    exact jX.ret (by rfl) (by rfl) (by rfl) (by rfl) (sretv (f := srV) h K R)
  · refine jX.b1f hc (by rfl) (by rfl) (by rfl) (?_ : jX G jP 188 45 lv [] μ Q)
    refine jX.lrn l0 (by rfl) (by rfl) (?_ : jX G jP 188 46 lv [.ref (spl 33 0 0)] μ Q)
    refine jX.lrn l1 (by rfl) (by rfl) (?_ : jX G jP 188 47 lv [.ref (spl 54 v1.1 v1.2), .ref (spl 33 0 0)] μ Q)
    refine jX.go (by rfl) (by rfl) (by rfl) (?_ : jX G jP 188 50 lv [.long (-3), .ref (spl 54 v1.1 v1.2), .ref (spl 33 0 0)] μ Q)
    obtain ⟨q2, e2, h⟩ := sbd h
    refine jX.cv (by rfl) (by rfl) (by rfl) (by rfl) (by rfl) (by rfl) (by rfl) (R.rec (by rfl) (by rfl)) (Nat.le_of_ble_eq_true rfl) (Nat.le_of_ble_eq_true rfl) (F_155_ok R e2 (fun μ R => ⟨rfl, (?_ : jX G jP 188 53 lv [] μ Q)⟩))
    exact jX.ret (by rfl) (by rfl) (by rfl) (by rfl) (sretv (f := srV) h K R)
def F_188_450 (G : jG) (t : Nat) (v1 : (Nat × Nat)) (v3 : Int32) (S : sS) : Option (Unit × sS) := (F_159 G t v1 v3 S).bind (fun q1 => some ((), q1.2))
theorem F_188_450_ok {G : jG} {t : Nat} {r : Unit} {S' : sS} {Q : Option Value ⊕ Nat → jS → Prop} (K : ∀ μ', sR S' μ' → Q (srV r) μ') : ∀ (v1 : (Nat × Nat)) (v3 : Int32) (S : sS) (lv : jL) (μ : jS), jld lv 0 = some (.ref (spl 33 0 0)) → jld lv 1 = some (.ref (spl 54 v1.1 v1.2)) → jld lv 3 = some (.int v3) → sR S μ → F_188_450 G t v1 v3 S = some (r, S') → jX G jP 188 450 lv [] μ Q := by
  intro v1 v3 S lv μ l0 l1 l3 R h
  unfold F_188_450 at h
  refine jX.lrn l0 (by rfl) (by rfl) (?_ : jX G jP 188 451 lv [.ref (spl 33 0 0)] μ Q)
  refine jX.lrn l1 (by rfl) (by rfl) (?_ : jX G jP 188 452 lv [.ref (spl 54 v1.1 v1.2), .ref (spl 33 0 0)] μ Q)
  refine jX.lin l3 (by rfl) (by rfl) (?_ : jX G jP 188 453 lv [.int v3, .ref (spl 54 v1.1 v1.2), .ref (spl 33 0 0)] μ Q)
  obtain ⟨q1, e1, h⟩ := sbd h
  refine jX.cv (by rfl) (by rfl) (by rfl) (by rfl) (by rfl) (by rfl) (by rfl) (R.rec (by rfl) (by rfl)) (Nat.le_of_ble_eq_true rfl) (Nat.le_of_ble_eq_true rfl) (F_159_ok R e1 (fun μ R => ⟨rfl, (?_ : jX G jP 188 456 lv [] μ Q)⟩))
  exact jX.ret (by rfl) (by rfl) (by rfl) (by rfl) (sretv (f := srV) h K R)
def F_188_514 (G : jG) (t : Nat) (w0 : Int32) (w1 : (Nat × Nat)) (S : sS) : Option (Unit × sS) := (F_160 G t w1 w0 S).bind (fun q1 => some ((), q1.2))
theorem F_188_514_ok {G : jG} {t : Nat} {r : Unit} {S' : sS} {Q : Option Value ⊕ Nat → jS → Prop} (K : ∀ μ', sR S' μ' → Q (srV r) μ') : ∀ (w0 : Int32) (w1 : (Nat × Nat)) (S : sS) (lv : jL) (μ : jS), sR S μ → F_188_514 G t w0 w1 S = some (r, S') → jX G jP 188 514 lv [.int w0, .ref (spl 54 w1.1 w1.2), .ref (spl 33 0 0)] μ Q := by
  intro w0 w1 S lv μ R h
  unfold F_188_514 at h
  obtain ⟨q1, e1, h⟩ := sbd h
  refine jX.cv (by rfl) (by rfl) (by rfl) (by rfl) (by rfl) (by rfl) (by rfl) (R.rec (by rfl) (by rfl)) (Nat.le_of_ble_eq_true rfl) (Nat.le_of_ble_eq_true rfl) (F_160_ok R e1 (fun μ R => ⟨rfl, (?_ : jX G jP 188 517 lv [] μ Q)⟩))
  exact jX.ret (by rfl) (by rfl) (by rfl) (by rfl) (sretv (f := srV) h K R)
def F_188_509 (G : jG) (t : Nat) (w0 : (Nat × Nat)) (S : sS) : Option (Unit × sS) := F_188_514 G t (nI 1) w0 S
theorem F_188_509_ok {G : jG} {t : Nat} {r : Unit} {S' : sS} {Q : Option Value ⊕ Nat → jS → Prop} (K : ∀ μ', sR S' μ' → Q (srV r) μ') : ∀ (w0 : (Nat × Nat)) (S : sS) (lv : jL) (μ : jS), sR S μ → F_188_509 G t w0 S = some (r, S') → jX G jP 188 509 lv [.ref (spl 54 w0.1 w0.2), .ref (spl 33 0 0)] μ Q := by
  intro w0 S lv μ R h
  unfold F_188_509 at h
  refine jX.ic (v := nI 1) (n := 1) (by rfl) (by rfl) (by decide) (?_ : jX G jP 188 510 lv [.int (nI 1), .ref (spl 54 w0.1 w0.2), .ref (spl 33 0 0)] μ Q)
  refine jX.go (by rfl) (by rfl) (by rfl) (?_ : jX G jP 188 514 lv [.int (nI 1), .ref (spl 54 w0.1 w0.2), .ref (spl 33 0 0)] μ Q)
  exact F_188_514_ok  K (nI 1) w0 _ _ _  R h
def F_188_513 (G : jG) (t : Nat) (w0 : (Nat × Nat)) (S : sS) : Option (Unit × sS) := F_188_514 G t (nI 0) w0 S
theorem F_188_513_ok {G : jG} {t : Nat} {r : Unit} {S' : sS} {Q : Option Value ⊕ Nat → jS → Prop} (K : ∀ μ', sR S' μ' → Q (srV r) μ') : ∀ (w0 : (Nat × Nat)) (S : sS) (lv : jL) (μ : jS), sR S μ → F_188_513 G t w0 S = some (r, S') → jX G jP 188 513 lv [.ref (spl 54 w0.1 w0.2), .ref (spl 33 0 0)] μ Q := by
  intro w0 S lv μ R h
  unfold F_188_513 at h
  refine jX.ic (v := nI 0) (n := 1) (by rfl) (by rfl) (by decide) (?_ : jX G jP 188 514 lv [.int (nI 0), .ref (spl 54 w0.1 w0.2), .ref (spl 33 0 0)] μ Q)
  exact F_188_514_ok  K (nI 0) w0 _ _ _  R h
def F_188_564 (G : jG) (t : Nat) (w0 : Int32) (w1 : (Nat × Nat)) (S : sS) : Option (Unit × sS) := (F_160 G t w1 w0 S).bind (fun q1 => some ((), q1.2))
theorem F_188_564_ok {G : jG} {t : Nat} {r : Unit} {S' : sS} {Q : Option Value ⊕ Nat → jS → Prop} (K : ∀ μ', sR S' μ' → Q (srV r) μ') : ∀ (w0 : Int32) (w1 : (Nat × Nat)) (S : sS) (lv : jL) (μ : jS), sR S μ → F_188_564 G t w0 w1 S = some (r, S') → jX G jP 188 564 lv [.int w0, .ref (spl 54 w1.1 w1.2), .ref (spl 33 0 0)] μ Q := by
  intro w0 w1 S lv μ R h
  unfold F_188_564 at h
  obtain ⟨q1, e1, h⟩ := sbd h
  refine jX.cv (by rfl) (by rfl) (by rfl) (by rfl) (by rfl) (by rfl) (by rfl) (R.rec (by rfl) (by rfl)) (Nat.le_of_ble_eq_true rfl) (Nat.le_of_ble_eq_true rfl) (F_160_ok R e1 (fun μ R => ⟨rfl, (?_ : jX G jP 188 567 lv [] μ Q)⟩))
  exact jX.ret (by rfl) (by rfl) (by rfl) (by rfl) (sretv (f := srV) h K R)
def F_188_559 (G : jG) (t : Nat) (w0 : (Nat × Nat)) (S : sS) : Option (Unit × sS) := F_188_564 G t (nI 1) w0 S
theorem F_188_559_ok {G : jG} {t : Nat} {r : Unit} {S' : sS} {Q : Option Value ⊕ Nat → jS → Prop} (K : ∀ μ', sR S' μ' → Q (srV r) μ') : ∀ (w0 : (Nat × Nat)) (S : sS) (lv : jL) (μ : jS), sR S μ → F_188_559 G t w0 S = some (r, S') → jX G jP 188 559 lv [.ref (spl 54 w0.1 w0.2), .ref (spl 33 0 0)] μ Q := by
  intro w0 S lv μ R h
  unfold F_188_559 at h
  refine jX.ic (v := nI 1) (n := 1) (by rfl) (by rfl) (by decide) (?_ : jX G jP 188 560 lv [.int (nI 1), .ref (spl 54 w0.1 w0.2), .ref (spl 33 0 0)] μ Q)
  refine jX.go (by rfl) (by rfl) (by rfl) (?_ : jX G jP 188 564 lv [.int (nI 1), .ref (spl 54 w0.1 w0.2), .ref (spl 33 0 0)] μ Q)
  exact F_188_564_ok  K (nI 1) w0 _ _ _  R h
def F_188_563 (G : jG) (t : Nat) (w0 : (Nat × Nat)) (S : sS) : Option (Unit × sS) := F_188_564 G t (nI 0) w0 S
theorem F_188_563_ok {G : jG} {t : Nat} {r : Unit} {S' : sS} {Q : Option Value ⊕ Nat → jS → Prop} (K : ∀ μ', sR S' μ' → Q (srV r) μ') : ∀ (w0 : (Nat × Nat)) (S : sS) (lv : jL) (μ : jS), sR S μ → F_188_563 G t w0 S = some (r, S') → jX G jP 188 563 lv [.ref (spl 54 w0.1 w0.2), .ref (spl 33 0 0)] μ Q := by
  intro w0 S lv μ R h
  unfold F_188_563 at h
  refine jX.ic (v := nI 0) (n := 1) (by rfl) (by rfl) (by decide) (?_ : jX G jP 188 564 lv [.int (nI 0), .ref (spl 54 w0.1 w0.2), .ref (spl 33 0 0)] μ Q)
  exact F_188_564_ok  K (nI 0) w0 _ _ _  R h
def F_188_614 (G : jG) (t : Nat) (v2 : (Nat × Nat)) (v4 : Int32) (S : sS) : Option (Unit × sS) := jif (sex S.2.2.2.1 56 v2.1 v2.2) (some ((), (siI S 56 v2.1 v2.2 1 v4)))
theorem F_188_614_ok {G : jG} {t : Nat} {r : Unit} {S' : sS} {Q : Option Value ⊕ Nat → jS → Prop} (K : ∀ μ', sR S' μ' → Q (srV r) μ') : ∀ (v2 : (Nat × Nat)) (v4 : Int32) (S : sS) (lv : jL) (μ : jS), jld lv 2 = some (.ref (spl 56 v2.1 v2.2)) → jld lv 4 = some (.int v4) → sR S μ → F_188_614 G t v2 v4 S = some (r, S') → jX G jP 188 614 lv [] μ Q := by
  intro v2 v4 S lv μ l2 l4 R h
  unfold F_188_614 at h
  refine jX.lrn l2 (by rfl) (by rfl) (?_ : jX G jP 188 615 lv [.ref (spl 56 v2.1 v2.2)] μ Q)
  refine jX.li l4 (by rfl) (by rfl) (?_ : jX G jP 188 617 lv [.int v4, .ref (spl 56 v2.1 v2.2)] μ Q)
  obtain ⟨g1, h⟩ := jif_some h
  refine jX.spI R g1 (by rfl) (by rfl) (by rfl) (by rfl) (by rfl) (by rfl) (by rfl) (by rfl) (fun μ R => (?_ : jX G jP 188 620 lv [] μ Q))
  exact jX.ret (by rfl) (by rfl) (by rfl) (by rfl) (sretv (f := srV) h K R)
def F_188_691 (G : jG) (t : Nat) (v4 : Int32) (w0 : Int32) (w1 : (Nat × Nat)) (S : sS) : Option (Unit × sS) := (F_169 G t w1 w0 v4 S).bind (fun q1 => some ((), q1.2))
theorem F_188_691_ok {G : jG} {t : Nat} {r : Unit} {S' : sS} {Q : Option Value ⊕ Nat → jS → Prop} (K : ∀ μ', sR S' μ' → Q (srV r) μ') : ∀ (v4 : Int32) (w0 : Int32) (w1 : (Nat × Nat)) (S : sS) (lv : jL) (μ : jS), jld lv 4 = some (.int v4) → sR S μ → F_188_691 G t v4 w0 w1 S = some (r, S') → jX G jP 188 691 lv [.int w0, .ref (spl 54 w1.1 w1.2), .ref (spl 33 0 0)] μ Q := by
  intro v4 w0 w1 S lv μ l4 R h
  unfold F_188_691 at h
  refine jX.li l4 (by rfl) (by rfl) (?_ : jX G jP 188 693 lv [.int v4, .int w0, .ref (spl 54 w1.1 w1.2), .ref (spl 33 0 0)] μ Q)
  obtain ⟨q1, e1, h⟩ := sbd h
  refine jX.cv (by rfl) (by rfl) (by rfl) (by rfl) (by rfl) (by rfl) (by rfl) (R.rec (by rfl) (by rfl)) (Nat.le_of_ble_eq_true rfl) (Nat.le_of_ble_eq_true rfl) (F_169_ok R e1 (fun μ R => ⟨rfl, (?_ : jX G jP 188 696 lv [] μ Q)⟩))
  exact jX.ret (by rfl) (by rfl) (by rfl) (by rfl) (sretv (f := srV) h K R)
def F_188_678 (G : jG) (t : Nat) (v1 : (Nat × Nat)) (v3 : Int32) (v4 : Int32) (S : sS) : Option (Unit × sS) := bif jcmp .ne v3 (nI 21) then (F_188_691 G t v4 (nI 3) v1 S) else (F_188_691 G t v4 (nI 2) v1 S)
theorem F_188_678_ok {G : jG} {t : Nat} {r : Unit} {S' : sS} {Q : Option Value ⊕ Nat → jS → Prop} (K : ∀ μ', sR S' μ' → Q (srV r) μ') : ∀ (v1 : (Nat × Nat)) (v3 : Int32) (v4 : Int32) (S : sS) (lv : jL) (μ : jS), jld lv 0 = some (.ref (spl 33 0 0)) → jld lv 1 = some (.ref (spl 54 v1.1 v1.2)) → jld lv 3 = some (.int v3) → jld lv 4 = some (.int v4) → sR S μ → F_188_678 G t v1 v3 v4 S = some (r, S') → jX G jP 188 678 lv [] μ Q := by
  intro v1 v3 v4 S lv μ l0 l1 l3 l4 R h
  unfold F_188_678 at h
  refine jX.lrn l0 (by rfl) (by rfl) (?_ : jX G jP 188 679 lv [.ref (spl 33 0 0)] μ Q)
  refine jX.lrn l1 (by rfl) (by rfl) (?_ : jX G jP 188 680 lv [.ref (spl 54 v1.1 v1.2), .ref (spl 33 0 0)] μ Q)
  refine jX.lin l3 (by rfl) (by rfl) (?_ : jX G jP 188 681 lv [.int v3, .ref (spl 54 v1.1 v1.2), .ref (spl 33 0 0)] μ Q)
  refine jX.ic (v := nI 21) (n := 2) (by rfl) (by rfl) (by decide) (?_ : jX G jP 188 683 lv [.int (nI 21), .int v3, .ref (spl 54 v1.1 v1.2), .ref (spl 33 0 0)] μ Q)
  rcases bif_or h with ⟨hc, h⟩ | ⟨hc, h⟩
  · refine jX.b2t hc (by rfl) (by rfl) (by rfl) (?_ : jX G jP 188 690 lv [.ref (spl 54 v1.1 v1.2), .ref (spl 33 0 0)] μ Q)
    refine jX.ic (v := nI 3) (n := 1) (by rfl) (by rfl) (by decide) (?_ : jX G jP 188 691 lv [.int (nI 3), .ref (spl 54 v1.1 v1.2), .ref (spl 33 0 0)] μ Q)
    exact F_188_691_ok  K v4 (nI 3) v1 _ _ _ l4 R h
  · refine jX.b2f hc (by rfl) (by rfl) (by rfl) (?_ : jX G jP 188 686 lv [.ref (spl 54 v1.1 v1.2), .ref (spl 33 0 0)] μ Q)
    refine jX.ic (v := nI 2) (n := 1) (by rfl) (by rfl) (by decide) (?_ : jX G jP 188 687 lv [.int (nI 2), .ref (spl 54 v1.1 v1.2), .ref (spl 33 0 0)] μ Q)
    refine jX.go (by rfl) (by rfl) (by rfl) (?_ : jX G jP 188 691 lv [.int (nI 2), .ref (spl 54 v1.1 v1.2), .ref (spl 33 0 0)] μ Q)
    exact F_188_691_ok  K v4 (nI 2) v1 _ _ _ l4 R h
def F_188_760 (G : jG) (t : Nat) (v1 : (Nat × Nat)) (w0 : Int32) (w1 : (Nat × Nat)) (S : sS) : Option (Unit × sS) := (F_158 G t w1 w0 S).bind (fun q1 => bif jcmp .eq q1.1 0 then (some ((), q1.2)) else (jif (jin (nI 0) 16) ((F_171 G t v1 (nI 1) (q1.2.2.1 48 0 0 (nI 0).toNatClampNeg) q1.2).bind (fun q3 => some ((), q3.2)))))
theorem F_188_760_ok {G : jG} {t : Nat} {r : Unit} {S' : sS} {Q : Option Value ⊕ Nat → jS → Prop} (K : ∀ μ', sR S' μ' → Q (srV r) μ') : ∀ (v1 : (Nat × Nat)) (w0 : Int32) (w1 : (Nat × Nat)) (S : sS) (lv : jL) (μ : jS), jld lv 0 = some (.ref (spl 33 0 0)) → jld lv 1 = some (.ref (spl 54 v1.1 v1.2)) → sR S μ → F_188_760 G t v1 w0 w1 S = some (r, S') → jX G jP 188 760 lv [.int w0, .ref (spl 54 w1.1 w1.2), .ref (spl 33 0 0)] μ Q := by
  intro v1 w0 w1 S lv μ l0 l1 R h
  unfold F_188_760 at h
  obtain ⟨q1, e1, h⟩ := sbd h
  refine jX.c1 (v := .int q1.1) (by rfl) (by rfl) (by rfl) (by rfl) (by rfl) (by rfl) (by rfl) (R.rec (by rfl) (by rfl)) (Nat.le_of_ble_eq_true rfl) (Nat.le_of_ble_eq_true rfl) (F_158_ok R e1 (fun μ R => ⟨rfl, (?_ : jX G jP 188 763 lv [.int q1.1] μ Q)⟩))
  rcases bif_or h with ⟨hc, h⟩ | ⟨hc, h⟩
  · refine jX.b1t hc (by rfl) (by rfl) (by rfl) (?_ : jX G jP 188 778 lv [] μ Q)
    exact jX.ret (by rfl) (by rfl) (by rfl) (by rfl) (sretv (f := srV) h K R)
  · refine jX.b1f hc (by rfl) (by rfl) (by rfl) (?_ : jX G jP 188 766 lv [] μ Q)
    refine jX.lrn l0 (by rfl) (by rfl) (?_ : jX G jP 188 767 lv [.ref (spl 33 0 0)] μ Q)
    refine jX.lrn l1 (by rfl) (by rfl) (?_ : jX G jP 188 768 lv [.ref (spl 54 v1.1 v1.2), .ref (spl 33 0 0)] μ Q)
    refine jX.ic (v := nI 1) (n := 1) (by rfl) (by rfl) (by decide) (?_ : jX G jP 188 769 lv [.int (nI 1), .ref (spl 54 v1.1 v1.2), .ref (spl 33 0 0)] μ Q)
    refine jX.lrn l0 (by rfl) (by rfl) (?_ : jX G jP 188 770 lv [.ref (spl 33 0 0), .int (nI 1), .ref (spl 54 v1.1 v1.2), .ref (spl 33 0 0)] μ Q)
    refine jX.sg R (by rfl) (by rfl) (by rfl) (by rfl) (by rfl) (by rfl) (?_ : jX G jP 188 773 lv [.ref (spl 48 0 0), .int (nI 1), .ref (spl 54 v1.1 v1.2), .ref (spl 33 0 0)] μ Q)
    refine jX.ic (v := nI 0) (n := 1) (by rfl) (by rfl) (by decide) (?_ : jX G jP 188 774 lv [.int (nI 0), .ref (spl 48 0 0), .int (nI 1), .ref (spl 54 v1.1 v1.2), .ref (spl 33 0 0)] μ Q)
    obtain ⟨g2, h⟩ := jif_some h
    refine jX.sal R (by rfl) (by rfl) (by rfl) (by rfl) g2 (?_ : jX G jP 188 775 lv [.long (q1.2.2.1 48 0 0 (nI 0).toNatClampNeg), .int (nI 1), .ref (spl 54 v1.1 v1.2), .ref (spl 33 0 0)] μ Q)
    obtain ⟨q3, e3, h⟩ := sbd h
    refine jX.cv (by rfl) (by rfl) (by rfl) (by rfl) (by rfl) (by rfl) (by rfl) (R.rec (by rfl) (by rfl)) (Nat.le_of_ble_eq_true rfl) (Nat.le_of_ble_eq_true rfl) (F_171_ok R e3 (fun μ R => ⟨rfl, (?_ : jX G jP 188 778 lv [] μ Q)⟩))
    exact jX.ret (by rfl) (by rfl) (by rfl) (by rfl) (sretv (f := srV) h K R)
def F_188_804 (G : jG) (t : Nat) (v1 : (Nat × Nat)) (w0 : Int32) (w1 : (Nat × Nat)) (S : sS) : Option (Unit × sS) := (F_158 G t w1 w0 S).bind (fun q1 => bif jcmp .eq q1.1 0 then (some ((), q1.2)) else (jif (jin (nI 1) 16) ((F_172 G t v1 (nI 2) (q1.2.2.1 48 0 0 (nI 1).toNatClampNeg) q1.2).bind (fun q3 => some ((), q3.2)))))
theorem F_188_804_ok {G : jG} {t : Nat} {r : Unit} {S' : sS} {Q : Option Value ⊕ Nat → jS → Prop} (K : ∀ μ', sR S' μ' → Q (srV r) μ') : ∀ (v1 : (Nat × Nat)) (w0 : Int32) (w1 : (Nat × Nat)) (S : sS) (lv : jL) (μ : jS), jld lv 0 = some (.ref (spl 33 0 0)) → jld lv 1 = some (.ref (spl 54 v1.1 v1.2)) → sR S μ → F_188_804 G t v1 w0 w1 S = some (r, S') → jX G jP 188 804 lv [.int w0, .ref (spl 54 w1.1 w1.2), .ref (spl 33 0 0)] μ Q := by
  intro v1 w0 w1 S lv μ l0 l1 R h
  unfold F_188_804 at h
  obtain ⟨q1, e1, h⟩ := sbd h
  refine jX.c1 (v := .int q1.1) (by rfl) (by rfl) (by rfl) (by rfl) (by rfl) (by rfl) (by rfl) (R.rec (by rfl) (by rfl)) (Nat.le_of_ble_eq_true rfl) (Nat.le_of_ble_eq_true rfl) (F_158_ok R e1 (fun μ R => ⟨rfl, (?_ : jX G jP 188 807 lv [.int q1.1] μ Q)⟩))
  rcases bif_or h with ⟨hc, h⟩ | ⟨hc, h⟩
  · refine jX.b1t hc (by rfl) (by rfl) (by rfl) (?_ : jX G jP 188 822 lv [] μ Q)
    exact jX.ret (by rfl) (by rfl) (by rfl) (by rfl) (sretv (f := srV) h K R)
  · refine jX.b1f hc (by rfl) (by rfl) (by rfl) (?_ : jX G jP 188 810 lv [] μ Q)
    refine jX.lrn l0 (by rfl) (by rfl) (?_ : jX G jP 188 811 lv [.ref (spl 33 0 0)] μ Q)
    refine jX.lrn l1 (by rfl) (by rfl) (?_ : jX G jP 188 812 lv [.ref (spl 54 v1.1 v1.2), .ref (spl 33 0 0)] μ Q)
    refine jX.ic (v := nI 2) (n := 1) (by rfl) (by rfl) (by decide) (?_ : jX G jP 188 813 lv [.int (nI 2), .ref (spl 54 v1.1 v1.2), .ref (spl 33 0 0)] μ Q)
    refine jX.lrn l0 (by rfl) (by rfl) (?_ : jX G jP 188 814 lv [.ref (spl 33 0 0), .int (nI 2), .ref (spl 54 v1.1 v1.2), .ref (spl 33 0 0)] μ Q)
    refine jX.sg R (by rfl) (by rfl) (by rfl) (by rfl) (by rfl) (by rfl) (?_ : jX G jP 188 817 lv [.ref (spl 48 0 0), .int (nI 2), .ref (spl 54 v1.1 v1.2), .ref (spl 33 0 0)] μ Q)
    refine jX.ic (v := nI 1) (n := 1) (by rfl) (by rfl) (by decide) (?_ : jX G jP 188 818 lv [.int (nI 1), .ref (spl 48 0 0), .int (nI 2), .ref (spl 54 v1.1 v1.2), .ref (spl 33 0 0)] μ Q)
    obtain ⟨g2, h⟩ := jif_some h
    refine jX.sal R (by rfl) (by rfl) (by rfl) (by rfl) g2 (?_ : jX G jP 188 819 lv [.long (q1.2.2.1 48 0 0 (nI 1).toNatClampNeg), .int (nI 2), .ref (spl 54 v1.1 v1.2), .ref (spl 33 0 0)] μ Q)
    obtain ⟨q3, e3, h⟩ := sbd h
    refine jX.cv (by rfl) (by rfl) (by rfl) (by rfl) (by rfl) (by rfl) (by rfl) (R.rec (by rfl) (by rfl)) (Nat.le_of_ble_eq_true rfl) (Nat.le_of_ble_eq_true rfl) (F_172_ok R e3 (fun μ R => ⟨rfl, (?_ : jX G jP 188 822 lv [] μ Q)⟩))
    exact jX.ret (by rfl) (by rfl) (by rfl) (by rfl) (sretv (f := srV) h K R)
def F_188_913 (G : jG) (t : Nat) (w0 : Int64) (w1 : Int32) (w2 : (Nat × Nat)) (S : sS) : Option (Unit × sS) := (F_157 G t w2 w1 w0 S).bind (fun q1 => some ((), q1.2))
theorem F_188_913_ok {G : jG} {t : Nat} {r : Unit} {S' : sS} {Q : Option Value ⊕ Nat → jS → Prop} (K : ∀ μ', sR S' μ' → Q (srV r) μ') : ∀ (w0 : Int64) (w1 : Int32) (w2 : (Nat × Nat)) (S : sS) (lv : jL) (μ : jS), sR S μ → F_188_913 G t w0 w1 w2 S = some (r, S') → jX G jP 188 913 lv [.long w0, .int w1, .ref (spl 54 w2.1 w2.2), .ref (spl 33 0 0)] μ Q := by
  intro w0 w1 w2 S lv μ R h
  unfold F_188_913 at h
  obtain ⟨q1, e1, h⟩ := sbd h
  refine jX.c1 (v := .int q1.1) (by rfl) (by rfl) (by rfl) (by rfl) (by rfl) (by rfl) (by rfl) (R.rec (by rfl) (by rfl)) (Nat.le_of_ble_eq_true rfl) (Nat.le_of_ble_eq_true rfl) (F_157_ok R e1 (fun μ R => ⟨rfl, (?_ : jX G jP 188 916 lv [.int q1.1] μ Q)⟩))
  refine jX.go (by rfl) (by rfl) (by rfl) (?_ : jX G jP 188 917 lv [] μ Q)
  exact jX.ret (by rfl) (by rfl) (by rfl) (by rfl) (sretv (f := srV) h K R)
def F_188_849 (G : jG) (t : Nat) (v1 : (Nat × Nat)) (w0 : Int32) (w1 : (Nat × Nat)) (S : sS) : Option (Unit × sS) := (F_158 G t w1 w0 S).bind (fun q1 => bif jcmp .ne q1.1 0 then (jif (jin (nI 0) 16) (jif (jin ((q1.2.2.1 48 0 0 (nI 0).toNatClampNeg).toInt32) 1300) (jif (sex q1.2.2.2.2.1 51 (((q1.2.2.1 48 0 0 (nI 0).toNatClampNeg).toInt32).toNatClampNeg) 0) (bif jcmp .ne (q1.2.1 51 (((q1.2.2.1 48 0 0 (nI 0).toNatClampNeg).toInt32).toNatClampNeg) 0 0) (nI 2) then (jif (jin (nI 0) 16) (jif (jin ((q1.2.2.1 48 0 0 (nI 0).toNatClampNeg).toInt32) 1300) (F_188_913 G t ((q1.2.1 51 (((q1.2.2.1 48 0 0 (nI 0).toNatClampNeg).toInt32).toNatClampNeg) 0 2).toInt64) (nI 0) v1 q1.2))) else (jif (jin (nI 0) 16) (jif (jin ((q1.2.2.1 48 0 0 (nI 0).toNatClampNeg).toInt32) 1300) (F_188_913 G t ((q1.2.1 51 (((q1.2.2.1 48 0 0 (nI 0).toNatClampNeg).toInt32).toNatClampNeg) 0 1).toInt64) (nI 0) v1 q1.2))))))) else (some ((), q1.2)))
theorem F_188_849_ok {G : jG} {t : Nat} {r : Unit} {S' : sS} {Q : Option Value ⊕ Nat → jS → Prop} (K : ∀ μ', sR S' μ' → Q (srV r) μ') : ∀ (v1 : (Nat × Nat)) (w0 : Int32) (w1 : (Nat × Nat)) (S : sS) (lv : jL) (μ : jS), jld lv 0 = some (.ref (spl 33 0 0)) → jld lv 1 = some (.ref (spl 54 v1.1 v1.2)) → sR S μ → F_188_849 G t v1 w0 w1 S = some (r, S') → jX G jP 188 849 lv [.int w0, .ref (spl 54 w1.1 w1.2), .ref (spl 33 0 0)] μ Q := by
  intro v1 w0 w1 S lv μ l0 l1 R h
  unfold F_188_849 at h
  obtain ⟨q1, e1, h⟩ := sbd h
  refine jX.c1 (v := .int q1.1) (by rfl) (by rfl) (by rfl) (by rfl) (by rfl) (by rfl) (by rfl) (R.rec (by rfl) (by rfl)) (Nat.le_of_ble_eq_true rfl) (Nat.le_of_ble_eq_true rfl) (F_158_ok R e1 (fun μ R => ⟨rfl, (?_ : jX G jP 188 852 lv [.int q1.1] μ Q)⟩))
  rcases bif_or h with ⟨hc, h⟩ | ⟨hc, h⟩
  · refine jX.b1t hc (by rfl) (by rfl) (by rfl) (?_ : jX G jP 188 856 lv [] μ Q)
    refine jX.lrn l0 (by rfl) (by rfl) (?_ : jX G jP 188 857 lv [.ref (spl 33 0 0)] μ Q)
    refine jX.lrn l1 (by rfl) (by rfl) (?_ : jX G jP 188 858 lv [.ref (spl 54 v1.1 v1.2), .ref (spl 33 0 0)] μ Q)
    refine jX.ic (v := nI 0) (n := 1) (by rfl) (by rfl) (by decide) (?_ : jX G jP 188 859 lv [.int (nI 0), .ref (spl 54 v1.1 v1.2), .ref (spl 33 0 0)] μ Q)
    refine jX.lrn l0 (by rfl) (by rfl) (?_ : jX G jP 188 860 lv [.ref (spl 33 0 0), .int (nI 0), .ref (spl 54 v1.1 v1.2), .ref (spl 33 0 0)] μ Q)
    refine jX.sg R (by rfl) (by rfl) (by rfl) (by rfl) (by rfl) (by rfl) (?_ : jX G jP 188 863 lv [.ref (spl 34 0 0), .int (nI 0), .ref (spl 54 v1.1 v1.2), .ref (spl 33 0 0)] μ Q)
    refine jX.lrn l0 (by rfl) (by rfl) (?_ : jX G jP 188 864 lv [.ref (spl 33 0 0), .ref (spl 34 0 0), .int (nI 0), .ref (spl 54 v1.1 v1.2), .ref (spl 33 0 0)] μ Q)
    refine jX.sg R (by rfl) (by rfl) (by rfl) (by rfl) (by rfl) (by rfl) (?_ : jX G jP 188 867 lv [.ref (spl 48 0 0), .ref (spl 34 0 0), .int (nI 0), .ref (spl 54 v1.1 v1.2), .ref (spl 33 0 0)] μ Q)
    refine jX.ic (v := nI 0) (n := 1) (by rfl) (by rfl) (by decide) (?_ : jX G jP 188 868 lv [.int (nI 0), .ref (spl 48 0 0), .ref (spl 34 0 0), .int (nI 0), .ref (spl 54 v1.1 v1.2), .ref (spl 33 0 0)] μ Q)
    obtain ⟨g2, h⟩ := jif_some h
    refine jX.sal R (by rfl) (by rfl) (by rfl) (by rfl) g2 (?_ : jX G jP 188 869 lv [.long (q1.2.2.1 48 0 0 (nI 0).toNatClampNeg), .ref (spl 34 0 0), .int (nI 0), .ref (spl 54 v1.1 v1.2), .ref (spl 33 0 0)] μ Q)
    refine jX.go (by rfl) (by rfl) (by rfl) (?_ : jX G jP 188 870 lv [.int ((q1.2.2.1 48 0 0 (nI 0).toNatClampNeg).toInt32), .ref (spl 34 0 0), .int (nI 0), .ref (spl 54 v1.1 v1.2), .ref (spl 33 0 0)] μ Q)
    obtain ⟨g3, h⟩ := jif_some h
    refine jX.sar (f := fun q => bif Nat.blt q 1300 then some (spl 51 q 0) else none) R (by rfl) (by rfl) (by rfl) (by rfl) g3 (srf_in g3) (?_ : jX G jP 188 871 lv [.ref (spl 51 (((q1.2.2.1 48 0 0 (nI 0).toNatClampNeg).toInt32).toNatClampNeg) 0), .int (nI 0), .ref (spl 54 v1.1 v1.2), .ref (spl 33 0 0)] μ Q)
    obtain ⟨g4, h⟩ := jif_some h
    refine jX.sg R g4 (by rfl) (by rfl) (by rfl) (by rfl) (by rfl) (?_ : jX G jP 188 874 lv [.int (q1.2.1 51 (((q1.2.2.1 48 0 0 (nI 0).toNatClampNeg).toInt32).toNatClampNeg) 0 0), .int (nI 0), .ref (spl 54 v1.1 v1.2), .ref (spl 33 0 0)] μ Q)
    refine jX.ic (v := nI 2) (n := 1) (by rfl) (by rfl) (by decide) (?_ : jX G jP 188 875 lv [.int (nI 2), .int (q1.2.1 51 (((q1.2.2.1 48 0 0 (nI 0).toNatClampNeg).toInt32).toNatClampNeg) 0 0), .int (nI 0), .ref (spl 54 v1.1 v1.2), .ref (spl 33 0 0)] μ Q)
    rcases bif_or h with ⟨hc, h⟩ | ⟨hc, h⟩
    · refine jX.b2t hc (by rfl) (by rfl) (by rfl) (?_ : jX G jP 188 897 lv [.int (nI 0), .ref (spl 54 v1.1 v1.2), .ref (spl 33 0 0)] μ Q)
      refine jX.lrn l0 (by rfl) (by rfl) (?_ : jX G jP 188 898 lv [.ref (spl 33 0 0), .int (nI 0), .ref (spl 54 v1.1 v1.2), .ref (spl 33 0 0)] μ Q)
      refine jX.sg R (by rfl) (by rfl) (by rfl) (by rfl) (by rfl) (by rfl) (?_ : jX G jP 188 901 lv [.ref (spl 34 0 0), .int (nI 0), .ref (spl 54 v1.1 v1.2), .ref (spl 33 0 0)] μ Q)
      refine jX.lrn l0 (by rfl) (by rfl) (?_ : jX G jP 188 902 lv [.ref (spl 33 0 0), .ref (spl 34 0 0), .int (nI 0), .ref (spl 54 v1.1 v1.2), .ref (spl 33 0 0)] μ Q)
      refine jX.sg R (by rfl) (by rfl) (by rfl) (by rfl) (by rfl) (by rfl) (?_ : jX G jP 188 905 lv [.ref (spl 48 0 0), .ref (spl 34 0 0), .int (nI 0), .ref (spl 54 v1.1 v1.2), .ref (spl 33 0 0)] μ Q)
      refine jX.ic (v := nI 0) (n := 1) (by rfl) (by rfl) (by decide) (?_ : jX G jP 188 906 lv [.int (nI 0), .ref (spl 48 0 0), .ref (spl 34 0 0), .int (nI 0), .ref (spl 54 v1.1 v1.2), .ref (spl 33 0 0)] μ Q)
      obtain ⟨g5, h⟩ := jif_some h
      refine jX.sal R (by rfl) (by rfl) (by rfl) (by rfl) g5 (?_ : jX G jP 188 907 lv [.long (q1.2.2.1 48 0 0 (nI 0).toNatClampNeg), .ref (spl 34 0 0), .int (nI 0), .ref (spl 54 v1.1 v1.2), .ref (spl 33 0 0)] μ Q)
      refine jX.go (by rfl) (by rfl) (by rfl) (?_ : jX G jP 188 908 lv [.int ((q1.2.2.1 48 0 0 (nI 0).toNatClampNeg).toInt32), .ref (spl 34 0 0), .int (nI 0), .ref (spl 54 v1.1 v1.2), .ref (spl 33 0 0)] μ Q)
      obtain ⟨g6, h⟩ := jif_some h
      refine jX.sar (f := fun q => bif Nat.blt q 1300 then some (spl 51 q 0) else none) R (by rfl) (by rfl) (by rfl) (by rfl) g6 (srf_in g6) (?_ : jX G jP 188 909 lv [.ref (spl 51 (((q1.2.2.1 48 0 0 (nI 0).toNatClampNeg).toInt32).toNatClampNeg) 0), .int (nI 0), .ref (spl 54 v1.1 v1.2), .ref (spl 33 0 0)] μ Q)
      refine jX.sg R g4 (by rfl) (by rfl) (by rfl) (by rfl) (by rfl) (?_ : jX G jP 188 912 lv [.int (q1.2.1 51 (((q1.2.2.1 48 0 0 (nI 0).toNatClampNeg).toInt32).toNatClampNeg) 0 2), .int (nI 0), .ref (spl 54 v1.1 v1.2), .ref (spl 33 0 0)] μ Q)
      refine jX.go (by rfl) (by rfl) (by rfl) (?_ : jX G jP 188 913 lv [.long ((q1.2.1 51 (((q1.2.2.1 48 0 0 (nI 0).toNatClampNeg).toInt32).toNatClampNeg) 0 2).toInt64), .int (nI 0), .ref (spl 54 v1.1 v1.2), .ref (spl 33 0 0)] μ Q)
      exact F_188_913_ok  K ((q1.2.1 51 (((q1.2.2.1 48 0 0 (nI 0).toNatClampNeg).toInt32).toNatClampNeg) 0 2).toInt64) (nI 0) v1 _ _ _  R h
    · refine jX.b2f hc (by rfl) (by rfl) (by rfl) (?_ : jX G jP 188 878 lv [.int (nI 0), .ref (spl 54 v1.1 v1.2), .ref (spl 33 0 0)] μ Q)
      refine jX.lrn l0 (by rfl) (by rfl) (?_ : jX G jP 188 879 lv [.ref (spl 33 0 0), .int (nI 0), .ref (spl 54 v1.1 v1.2), .ref (spl 33 0 0)] μ Q)
      refine jX.sg R (by rfl) (by rfl) (by rfl) (by rfl) (by rfl) (by rfl) (?_ : jX G jP 188 882 lv [.ref (spl 34 0 0), .int (nI 0), .ref (spl 54 v1.1 v1.2), .ref (spl 33 0 0)] μ Q)
      refine jX.lrn l0 (by rfl) (by rfl) (?_ : jX G jP 188 883 lv [.ref (spl 33 0 0), .ref (spl 34 0 0), .int (nI 0), .ref (spl 54 v1.1 v1.2), .ref (spl 33 0 0)] μ Q)
      refine jX.sg R (by rfl) (by rfl) (by rfl) (by rfl) (by rfl) (by rfl) (?_ : jX G jP 188 886 lv [.ref (spl 48 0 0), .ref (spl 34 0 0), .int (nI 0), .ref (spl 54 v1.1 v1.2), .ref (spl 33 0 0)] μ Q)
      refine jX.ic (v := nI 0) (n := 1) (by rfl) (by rfl) (by decide) (?_ : jX G jP 188 887 lv [.int (nI 0), .ref (spl 48 0 0), .ref (spl 34 0 0), .int (nI 0), .ref (spl 54 v1.1 v1.2), .ref (spl 33 0 0)] μ Q)
      obtain ⟨g7, h⟩ := jif_some h
      refine jX.sal R (by rfl) (by rfl) (by rfl) (by rfl) g7 (?_ : jX G jP 188 888 lv [.long (q1.2.2.1 48 0 0 (nI 0).toNatClampNeg), .ref (spl 34 0 0), .int (nI 0), .ref (spl 54 v1.1 v1.2), .ref (spl 33 0 0)] μ Q)
      refine jX.go (by rfl) (by rfl) (by rfl) (?_ : jX G jP 188 889 lv [.int ((q1.2.2.1 48 0 0 (nI 0).toNatClampNeg).toInt32), .ref (spl 34 0 0), .int (nI 0), .ref (spl 54 v1.1 v1.2), .ref (spl 33 0 0)] μ Q)
      obtain ⟨g8, h⟩ := jif_some h
      refine jX.sar (f := fun q => bif Nat.blt q 1300 then some (spl 51 q 0) else none) R (by rfl) (by rfl) (by rfl) (by rfl) g8 (srf_in g8) (?_ : jX G jP 188 890 lv [.ref (spl 51 (((q1.2.2.1 48 0 0 (nI 0).toNatClampNeg).toInt32).toNatClampNeg) 0), .int (nI 0), .ref (spl 54 v1.1 v1.2), .ref (spl 33 0 0)] μ Q)
      refine jX.sg R g4 (by rfl) (by rfl) (by rfl) (by rfl) (by rfl) (?_ : jX G jP 188 893 lv [.int (q1.2.1 51 (((q1.2.2.1 48 0 0 (nI 0).toNatClampNeg).toInt32).toNatClampNeg) 0 1), .int (nI 0), .ref (spl 54 v1.1 v1.2), .ref (spl 33 0 0)] μ Q)
      refine jX.go (by rfl) (by rfl) (by rfl) (?_ : jX G jP 188 894 lv [.long ((q1.2.1 51 (((q1.2.2.1 48 0 0 (nI 0).toNatClampNeg).toInt32).toNatClampNeg) 0 1).toInt64), .int (nI 0), .ref (spl 54 v1.1 v1.2), .ref (spl 33 0 0)] μ Q)
      refine jX.go (by rfl) (by rfl) (by rfl) (?_ : jX G jP 188 913 lv [.long ((q1.2.1 51 (((q1.2.2.1 48 0 0 (nI 0).toNatClampNeg).toInt32).toNatClampNeg) 0 1).toInt64), .int (nI 0), .ref (spl 54 v1.1 v1.2), .ref (spl 33 0 0)] μ Q)
      exact F_188_913_ok  K ((q1.2.1 51 (((q1.2.2.1 48 0 0 (nI 0).toNatClampNeg).toInt32).toNatClampNeg) 0 1).toInt64) (nI 0) v1 _ _ _  R h
  · refine jX.b1f hc (by rfl) (by rfl) (by rfl) (?_ : jX G jP 188 855 lv [] μ Q)
    exact jX.ret (by rfl) (by rfl) (by rfl) (by rfl) (sretv (f := srV) h K R)
def F_188_975 (G : jG) (t : Nat) (w0 : Int32) (w1 : (Nat × Nat)) (S : sS) : Option (Unit × sS) := (F_158 G t w1 w0 S).bind (fun q1 => bif jcmp .ne q1.1 0 then (bif jcmp .ge (q1.2.1 33 0 0 24) (nI 2000) then (some ((), q1.2)) else (jif (jin (nI 0) 16) (jif (jin (q1.2.1 33 0 0 24) 2000) (some ((), (siL (siI q1.2 33 0 0 24 ((q1.2.1 33 0 0 24) + (nI 1))) 44 0 0 (q1.2.1 33 0 0 24).toNatClampNeg ((siI q1.2 33 0 0 24 ((q1.2.1 33 0 0 24) + (nI 1))).2.1 48 0 0 (nI 0).toNatClampNeg))))))) else (some ((), q1.2)))
theorem F_188_975_ok {G : jG} {t : Nat} {r : Unit} {S' : sS} {Q : Option Value ⊕ Nat → jS → Prop} (K : ∀ μ', sR S' μ' → Q (srV r) μ') : ∀ (w0 : Int32) (w1 : (Nat × Nat)) (S : sS) (lv : jL) (μ : jS), jld lv 0 = some (.ref (spl 33 0 0)) → sR S μ → F_188_975 G t w0 w1 S = some (r, S') → jX G jP 188 975 lv [.int w0, .ref (spl 54 w1.1 w1.2), .ref (spl 33 0 0)] μ Q := by
  intro w0 w1 S lv μ l0 R h
  unfold F_188_975 at h
  obtain ⟨q1, e1, h⟩ := sbd h
  refine jX.c1 (v := .int q1.1) (by rfl) (by rfl) (by rfl) (by rfl) (by rfl) (by rfl) (by rfl) (R.rec (by rfl) (by rfl)) (Nat.le_of_ble_eq_true rfl) (Nat.le_of_ble_eq_true rfl) (F_158_ok R e1 (fun μ R => ⟨rfl, (?_ : jX G jP 188 978 lv [.int q1.1] μ Q)⟩))
  rcases bif_or h with ⟨hc, h⟩ | ⟨hc, h⟩
  · refine jX.b1t hc (by rfl) (by rfl) (by rfl) (?_ : jX G jP 188 982 lv [] μ Q)
    refine jX.lrn l0 (by rfl) (by rfl) (?_ : jX G jP 188 983 lv [.ref (spl 33 0 0)] μ Q)
    refine jX.sg R (by rfl) (by rfl) (by rfl) (by rfl) (by rfl) (by rfl) (?_ : jX G jP 188 986 lv [.int (q1.2.1 33 0 0 24)] μ Q)
    refine jX.ic (v := nI 2000) (n := 3) (by rfl) (by rfl) (by decide) (?_ : jX G jP 188 989 lv [.int (nI 2000), .int (q1.2.1 33 0 0 24)] μ Q)
    rcases bif_or h with ⟨hc, h⟩ | ⟨hc, h⟩
    · refine jX.b2t hc (by rfl) (by rfl) (by rfl) (?_ : jX G jP 188 1014 lv [] μ Q)
      exact jX.ret (by rfl) (by rfl) (by rfl) (by rfl) (sretv (f := srV) h K R)
    · refine jX.b2f hc (by rfl) (by rfl) (by rfl) (?_ : jX G jP 188 992 lv [] μ Q)
      refine jX.lrn l0 (by rfl) (by rfl) (?_ : jX G jP 188 993 lv [.ref (spl 33 0 0)] μ Q)
      refine jX.sg R (by rfl) (by rfl) (by rfl) (by rfl) (by rfl) (by rfl) (?_ : jX G jP 188 996 lv [.ref (spl 44 0 0)] μ Q)
      refine jX.lrn l0 (by rfl) (by rfl) (?_ : jX G jP 188 997 lv [.ref (spl 33 0 0), .ref (spl 44 0 0)] μ Q)
      refine jX.go (by rfl) (by rfl) (by rfl) (?_ : jX G jP 188 998 lv [.ref (spl 33 0 0), .ref (spl 33 0 0), .ref (spl 44 0 0)] μ Q)
      refine jX.sg R (by rfl) (by rfl) (by rfl) (by rfl) (by rfl) (by rfl) (?_ : jX G jP 188 1001 lv [.int (q1.2.1 33 0 0 24), .ref (spl 33 0 0), .ref (spl 44 0 0)] μ Q)
      refine jX.go (by rfl) (by rfl) (by rfl) (?_ : jX G jP 188 1002 lv [.int (q1.2.1 33 0 0 24), .ref (spl 33 0 0), .int (q1.2.1 33 0 0 24), .ref (spl 44 0 0)] μ Q)
      refine jX.ic (v := nI 1) (n := 1) (by rfl) (by rfl) (by decide) (?_ : jX G jP 188 1003 lv [.int (nI 1), .int (q1.2.1 33 0 0 24), .ref (spl 33 0 0), .int (q1.2.1 33 0 0 24), .ref (spl 44 0 0)] μ Q)
      refine jX.go (by rfl) (by rfl) (by rfl) (?_ : jX G jP 188 1004 lv [.int ((q1.2.1 33 0 0 24) + (nI 1)), .ref (spl 33 0 0), .int (q1.2.1 33 0 0 24), .ref (spl 44 0 0)] μ Q)
      refine jX.spI R (by rfl) (by rfl) (by rfl) (by rfl) (by rfl) (by rfl) (by rfl) (by rfl) (by rfl) (fun μ R => (?_ : jX G jP 188 1007 lv [.int (q1.2.1 33 0 0 24), .ref (spl 44 0 0)] μ Q))
      refine jX.lrn l0 (by rfl) (by rfl) (?_ : jX G jP 188 1008 lv [.ref (spl 33 0 0), .int (q1.2.1 33 0 0 24), .ref (spl 44 0 0)] μ Q)
      refine jX.sg R (by rfl) (by rfl) (by rfl) (by rfl) (by rfl) (by rfl) (?_ : jX G jP 188 1011 lv [.ref (spl 48 0 0), .int (q1.2.1 33 0 0 24), .ref (spl 44 0 0)] μ Q)
      refine jX.ic (v := nI 0) (n := 1) (by rfl) (by rfl) (by decide) (?_ : jX G jP 188 1012 lv [.int (nI 0), .ref (spl 48 0 0), .int (q1.2.1 33 0 0 24), .ref (spl 44 0 0)] μ Q)
      obtain ⟨g2, h⟩ := jif_some h
      refine jX.sal R (by rfl) (by rfl) (by rfl) (by rfl) g2 (?_ : jX G jP 188 1013 lv [.long ((siI q1.2 33 0 0 24 ((q1.2.1 33 0 0 24) + (nI 1))).2.1 48 0 0 (nI 0).toNatClampNeg), .int (q1.2.1 33 0 0 24), .ref (spl 44 0 0)] μ Q)
      obtain ⟨g3, h⟩ := jif_some h
      refine jX.stl R (by rfl) (by rfl) (by rfl) (fun _ => by rfl) g3 (fun μ R => (?_ : jX G jP 188 1014 lv [] μ Q))
      exact jX.ret (by rfl) (by rfl) (by rfl) (by rfl) (sretv (f := srV) h K R)
  · refine jX.b1f hc (by rfl) (by rfl) (by rfl) (?_ : jX G jP 188 981 lv [] μ Q)
    exact jX.ret (by rfl) (by rfl) (by rfl) (by rfl) (sretv (f := srV) h K R)
def F_188_1120 (G : jG) (t : Nat) (v1 : (Nat × Nat)) (w0 : Int32) (w1 : (Nat × Nat)) (S : sS) : Option (Unit × sS) := (F_158 G t w1 w0 S).bind (fun q1 => bif jcmp .eq q1.1 0 then (some ((), q1.2)) else (jif (jin (nI 0) 16) ((F_155 G t v1 (q1.2.2.1 48 0 0 (nI 0).toNatClampNeg) q1.2).bind (fun q3 => some ((), q3.2)))))
theorem F_188_1120_ok {G : jG} {t : Nat} {r : Unit} {S' : sS} {Q : Option Value ⊕ Nat → jS → Prop} (K : ∀ μ', sR S' μ' → Q (srV r) μ') : ∀ (v1 : (Nat × Nat)) (w0 : Int32) (w1 : (Nat × Nat)) (S : sS) (lv : jL) (μ : jS), jld lv 0 = some (.ref (spl 33 0 0)) → jld lv 1 = some (.ref (spl 54 v1.1 v1.2)) → sR S μ → F_188_1120 G t v1 w0 w1 S = some (r, S') → jX G jP 188 1120 lv [.int w0, .ref (spl 54 w1.1 w1.2), .ref (spl 33 0 0)] μ Q := by
  intro v1 w0 w1 S lv μ l0 l1 R h
  unfold F_188_1120 at h
  obtain ⟨q1, e1, h⟩ := sbd h
  refine jX.c1 (v := .int q1.1) (by rfl) (by rfl) (by rfl) (by rfl) (by rfl) (by rfl) (by rfl) (R.rec (by rfl) (by rfl)) (Nat.le_of_ble_eq_true rfl) (Nat.le_of_ble_eq_true rfl) (F_158_ok R e1 (fun μ R => ⟨rfl, (?_ : jX G jP 188 1123 lv [.int q1.1] μ Q)⟩))
  rcases bif_or h with ⟨hc, h⟩ | ⟨hc, h⟩
  · refine jX.b1t hc (by rfl) (by rfl) (by rfl) (?_ : jX G jP 188 1137 lv [] μ Q)
    exact jX.ret (by rfl) (by rfl) (by rfl) (by rfl) (sretv (f := srV) h K R)
  · refine jX.b1f hc (by rfl) (by rfl) (by rfl) (?_ : jX G jP 188 1126 lv [] μ Q)
    refine jX.lrn l0 (by rfl) (by rfl) (?_ : jX G jP 188 1127 lv [.ref (spl 33 0 0)] μ Q)
    refine jX.lrn l1 (by rfl) (by rfl) (?_ : jX G jP 188 1128 lv [.ref (spl 54 v1.1 v1.2), .ref (spl 33 0 0)] μ Q)
    refine jX.lrn l0 (by rfl) (by rfl) (?_ : jX G jP 188 1129 lv [.ref (spl 33 0 0), .ref (spl 54 v1.1 v1.2), .ref (spl 33 0 0)] μ Q)
    refine jX.sg R (by rfl) (by rfl) (by rfl) (by rfl) (by rfl) (by rfl) (?_ : jX G jP 188 1132 lv [.ref (spl 48 0 0), .ref (spl 54 v1.1 v1.2), .ref (spl 33 0 0)] μ Q)
    refine jX.ic (v := nI 0) (n := 1) (by rfl) (by rfl) (by decide) (?_ : jX G jP 188 1133 lv [.int (nI 0), .ref (spl 48 0 0), .ref (spl 54 v1.1 v1.2), .ref (spl 33 0 0)] μ Q)
    obtain ⟨g2, h⟩ := jif_some h
    refine jX.sal R (by rfl) (by rfl) (by rfl) (by rfl) g2 (?_ : jX G jP 188 1134 lv [.long (q1.2.2.1 48 0 0 (nI 0).toNatClampNeg), .ref (spl 54 v1.1 v1.2), .ref (spl 33 0 0)] μ Q)
    obtain ⟨q3, e3, h⟩ := sbd h
    refine jX.cv (by rfl) (by rfl) (by rfl) (by rfl) (by rfl) (by rfl) (by rfl) (R.rec (by rfl) (by rfl)) (Nat.le_of_ble_eq_true rfl) (Nat.le_of_ble_eq_true rfl) (F_155_ok R e3 (fun μ R => ⟨rfl, (?_ : jX G jP 188 1137 lv [] μ Q)⟩))
    exact jX.ret (by rfl) (by rfl) (by rfl) (by rfl) (sretv (f := srV) h K R)
def F_188 (G : jG) (t : Nat) (v1 : (Nat × Nat)) (v2 : (Nat × Nat)) (v3 : Int32) (v4 : Int32) (S : sS) : Option (Unit × sS) := (F_152 G t v3 v4 S).bind (fun q1 => jif (sex q1.2.2.2.2.1 56 v2.1 v2.2) (bif jcmp .lt (q1.2.1 56 v2.1 v2.2 2) q1.1 then (F_188_35 G t v1 q1.1 q1.2) else ((F_153 G t v3 q1.2).bind (fun q3 => bif jcmp .le (((q1.2.1 56 v2.1 v2.2 2) - q1.1) + q3.1) (nI 16) then (bif decide (v3.toInt < 0 ∨ 35 < v3.toInt) then ((F_187 G t v1 v2 q3.2).bind (fun q4 => some ((), q4.2))) else (bif decide (v3 = nI 0) then ((F_157 G t v1 (nI 0) v4.toInt64 q3.2).bind (fun q5 => some ((), q5.2))) else (bif decide (v3 = nI 1) then ((F_157 G t v1 (nI 1) 0 q3.2).bind (fun q6 => some ((), q6.2))) else (bif decide (v3 = nI 2) then (jif (sex q3.2.2.2.2.1 56 v2.1 v2.2) (jif (sex q3.2.2.2.2.1 57 v2.1 v2.2) (jif (jin v4 12) (jif (sex q3.2.2.2.2.1 61 v2.1 v2.2) (jif (jin v4 12) ((F_157 G t v1 (q3.2.1 57 v2.1 v2.2 v4.toNatClampNeg) (q3.2.2.1 61 v2.1 v2.2 v4.toNatClampNeg) q3.2).bind (fun q12 => some ((), q12.2)))))))) else (bif decide (v3 = nI 3) then ((F_156 G t v1 (nI 1) q3.2).bind (fun q13 => bif jcmp .ne q13.1 0 then (jif (sex q13.2.2.2.2.1 56 v2.1 v2.2) (jif (jin (nI 0) 16) (jif (sex q13.2.2.2.2.1 57 v2.1 v2.2) (jif (jin v4 12) (jif (jin (nI 0) 16) (jif (sex (siI q13.2 57 v2.1 v2.2 v4.toNatClampNeg (q13.2.1 47 0 0 (nI 0).toNatClampNeg)).2.2.2.1 61 v2.1 v2.2) (jif (jin v4 12) (some ((), (siL (siI q13.2 57 v2.1 v2.2 v4.toNatClampNeg (q13.2.1 47 0 0 (nI 0).toNatClampNeg)) 61 v2.1 v2.2 v4.toNatClampNeg ((siI q13.2 57 v2.1 v2.2 v4.toNatClampNeg (q13.2.1 47 0 0 (nI 0).toNatClampNeg)).2.1 48 0 0 (nI 0).toNatClampNeg))))))))))) else (some ((), q13.2)))) else (bif decide (v3 = nI 4) then (jif (jin v4 16) (jif (jin v4 16) ((F_157 G t v1 (q3.2.1 36 0 0 v4.toNatClampNeg) (q3.2.2.1 43 0 0 v4.toNatClampNeg) q3.2).bind (fun q23 => some ((), q23.2))))) else (bif decide (v3 = nI 5) then ((F_156 G t v1 (nI 1) q3.2).bind (fun q24 => bif jcmp .ne q24.1 0 then (jif (jin (nI 0) 16) (jif (jin v4 16) (jif (jin (nI 0) 16) (jif (jin v4 16) (some ((), (siL (siI q24.2 36 0 0 v4.toNatClampNeg (q24.2.1 47 0 0 (nI 0).toNatClampNeg)) 43 0 0 v4.toNatClampNeg ((siI q24.2 36 0 0 v4.toNatClampNeg (q24.2.1 47 0 0 (nI 0).toNatClampNeg)).2.1 48 0 0 (nI 0).toNatClampNeg)))))))) else (some ((), q24.2)))) else (bif decide (v3 = nI 6) then ((F_156 G t v1 (nI 1) q3.2).bind (fun q29 => bif jcmp .ne q29.1 0 then (jif (jin (nI 0) 16) (jif (jin (nI 0) 16) ((F_157 G t v1 (q29.2.1 47 0 0 (nI 0).toNatClampNeg) (q29.2.2.1 48 0 0 (nI 0).toNatClampNeg) q29.2).bind (fun q32 => jif (jin (nI 0) 16) (jif (jin (nI 0) 16) ((F_157 G t v1 (q32.2.1 47 0 0 (nI 0).toNatClampNeg) (q32.2.2.1 48 0 0 (nI 0).toNatClampNeg) q32.2).bind (fun q35 => some ((), q35.2)))))))) else (some ((), q29.2)))) else (bif decide (v3 = nI 7) then ((F_156 G t v1 (nI 1) q3.2).bind (fun q36 => some ((), q36.2))) else (bif decide (v3 = nI 8) then ((F_156 G t v1 (nI 2) q3.2).bind (fun q37 => bif jcmp .ne q37.1 0 then (jif (jin (nI 0) 16) (jif (jin (nI 0) 16) ((F_157 G t v1 (q37.2.1 47 0 0 (nI 0).toNatClampNeg) (q37.2.2.1 48 0 0 (nI 0).toNatClampNeg) q37.2).bind (fun q40 => jif (jin (nI 1) 16) (jif (jin (nI 1) 16) ((F_157 G t v1 (q40.2.1 47 0 0 (nI 1).toNatClampNeg) (q40.2.2.1 48 0 0 (nI 1).toNatClampNeg) q40.2).bind (fun q43 => some ((), q43.2)))))))) else (some ((), q37.2)))) else (bif decide (v3 = nI 9) then (F_188_450 G t v1 v3 q3.2) else (bif decide (v3 = nI 10) then (F_188_450 G t v1 v3 q3.2) else (bif decide (v3 = nI 11) then (F_188_450 G t v1 v3 q3.2) else (bif decide (v3 = nI 12) then (F_188_450 G t v1 v3 q3.2) else (bif decide (v3 = nI 13) then (F_188_450 G t v1 v3 q3.2) else (bif decide (v3 = nI 14) then ((F_156 G t v1 (nI 2) q3.2).bind (fun q44 => bif jcmp .eq q44.1 0 then (some ((), q44.2)) else (jif (jin (nI 0) 16) (jif (jin (nI 1) 16) (bif jcmp .ne (q44.2.1 47 0 0 (nI 0).toNatClampNeg) (q44.2.1 47 0 0 (nI 1).toNatClampNeg) then (F_188_513 G t v1 q44.2) else (jif (jin (nI 0) 16) (bif jcmp .eq (q44.2.1 47 0 0 (nI 0).toNatClampNeg) (nI 1) then (F_188_509 G t v1 q44.2) else (jif (jin (nI 0) 16) (jif (jin (nI 1) 16) (bif jcmp .ne (lg_cmp (q44.2.2.1 48 0 0 (nI 0).toNatClampNeg) (q44.2.2.1 48 0 0 (nI 1).toNatClampNeg)) 0 then (F_188_513 G t v1 q44.2) else (F_188_509 G t v1 q44.2))))))))))) else (bif decide (v3 = nI 15) then ((F_156 G t v1 (nI 1) q3.2).bind (fun q50 => bif jcmp .eq q50.1 0 then (some ((), q50.2)) else (jif (jin (nI 0) 16) (bif jcmp .eq (q50.2.1 47 0 0 (nI 0).toNatClampNeg) (nI 1) then (F_188_559 G t v1 q50.2) else (jif (jin (nI 0) 16) (bif jcmp .ne (q50.2.1 47 0 0 (nI 0).toNatClampNeg) 0 then (F_188_563 G t v1 q50.2) else (jif (jin (nI 0) 16) (bif jcmp .ne (lg_cmp (q50.2.2.1 48 0 0 (nI 0).toNatClampNeg) 0) 0 then (F_188_563 G t v1 q50.2) else (F_188_559 G t v1 q50.2))))))))) else (bif decide (v3 = nI 16) then (jif (sex q3.2.2.2.2.1 56 v2.1 v2.2) (some ((), (siI q3.2 56 v2.1 v2.2 1 v4)))) else (bif decide (v3 = nI 17) then ((F_156 G t v1 (nI 1) q3.2).bind (fun q55 => bif jcmp .eq q55.1 0 then (some ((), q55.2)) else (jif (jin (nI 0) 16) (bif jcmp .eq (q55.2.1 47 0 0 (nI 0).toNatClampNeg) (nI 1) then (F_188_614 G t v2 v4 q55.2) else (jif (jin (nI 0) 16) (bif jcmp .ne (q55.2.1 47 0 0 (nI 0).toNatClampNeg) 0 then (some ((), q55.2)) else (jif (jin (nI 0) 16) (bif jcmp .ne (lg_cmp (q55.2.2.1 48 0 0 (nI 0).toNatClampNeg) 0) 0 then (some ((), q55.2)) else (F_188_614 G t v2 v4 q55.2))))))))) else (bif decide (v3 = nI 18) then ((F_162 G t v1 v4 q3.2).bind (fun q59 => some ((), q59.2))) else (bif decide (v3 = nI 19) then ((F_156 G t v1 (nI 1) q3.2).bind (fun q60 => bif jcmp .ne q60.1 0 then (jif (sex q60.2.2.2.2.1 56 v2.1 v2.2) (jif (jin (nI 0) 16) (jif (jin (nI 0) 16) ((F_154 G t v1 (siL (siI (siI q60.2 56 v2.1 v2.2 4 (nI 1)) 56 v2.1 v2.2 7 ((siI q60.2 56 v2.1 v2.2 4 (nI 1)).1 47 0 0 (nI 0).toNatClampNeg)) 56 v2.1 v2.2 8 ((siI (siI q60.2 56 v2.1 v2.2 4 (nI 1)) 56 v2.1 v2.2 7 ((siI q60.2 56 v2.1 v2.2 4 (nI 1)).1 47 0 0 (nI 0).toNatClampNeg)).2.1 48 0 0 (nI 0).toNatClampNeg))).bind (fun q64 => some ((), q64.2)))))) else (some ((), q60.2)))) else (bif decide (v3 = nI 20) then ((F_164 G t v1 v4 q3.2).bind (fun q65 => some ((), q65.2))) else (bif decide (v3 = nI 21) then (F_188_678 G t v1 v3 v4 q3.2) else (bif decide (v3 = nI 22) then ((F_156 G t v1 (nI 1) q3.2).bind (fun q66 => bif jcmp .eq q66.1 0 then (some ((), q66.2)) else ((F_171 G t v1 (nI 0) v4.toInt64 q66.2).bind (fun q67 => some ((), q67.2))))) else (bif decide (v3 = nI 23) then ((F_156 G t v1 (nI 2) q3.2).bind (fun q68 => bif jcmp .eq q68.1 0 then (some ((), q68.2)) else ((F_172 G t v1 (nI 1) v4.toInt64 q68.2).bind (fun q69 => some ((), q69.2))))) else (bif decide (v3 = nI 24) then ((F_156 G t v1 (nI 2) q3.2).bind (fun q70 => bif jcmp .eq q70.1 0 then (some ((), q70.2)) else (jif (jin (nI 0) 16) (bif jcmp .ne (q70.2.1 47 0 0 (nI 0).toNatClampNeg) 0 then (F_188_760 G t v1 (nI 0) v1 q70.2) else (F_188_760 G t v1 (nI 1) v1 q70.2))))) else (bif decide (v3 = nI 25) then ((F_156 G t v1 (nI 3) q3.2).bind (fun q72 => bif jcmp .eq q72.1 0 then (some ((), q72.2)) else (jif (jin (nI 1) 16) (bif jcmp .ne (q72.2.1 47 0 0 (nI 1).toNatClampNeg) 0 then (F_188_804 G t v1 (nI 0) v1 q72.2) else (F_188_804 G t v1 (nI 1) v1 q72.2))))) else (bif decide (v3 = nI 26) then ((F_156 G t v1 (nI 1) q3.2).bind (fun q74 => bif jcmp .eq q74.1 0 then (some ((), q74.2)) else (jif (jin (nI 0) 16) (bif jcmp .ne (q74.2.1 47 0 0 (nI 0).toNatClampNeg) (nI 2) then (F_188_849 G t v1 (nI 0) v1 q74.2) else (F_188_849 G t v1 (nI 1) v1 q74.2))))) else (bif decide (v3 = nI 27) then (F_188_678 G t v1 v3 v4 q3.2) else (bif decide (v3 = nI 28) then ((F_181 G t v1 q3.2).bind (fun q76 => some ((), q76.2))) else (bif decide (v3 = nI 29) then ((F_184 G t v1 q3.2).bind (fun q77 => some ((), q77.2))) else (bif decide (v3 = nI 30) then ((F_185 G t v1 q3.2).bind (fun q78 => some ((), q78.2))) else (bif decide (v3 = nI 31) then ((F_186 G t v1 v4 q3.2).bind (fun q79 => some ((), q79.2))) else (bif decide (v3 = nI 32) then (some ((), (siI q3.2 33 0 0 38 (nI 1)))) else (bif decide (v3 = nI 33) then ((F_156 G t v1 (nI 1) q3.2).bind (fun q80 => bif jcmp .eq q80.1 0 then (some ((), q80.2)) else (jif (jin (nI 0) 16) (bif jcmp .ne (q80.2.1 47 0 0 (nI 0).toNatClampNeg) 0 then (F_188_975 G t (nI 0) v1 q80.2) else (F_188_975 G t (nI 1) v1 q80.2))))) else (bif decide (v3 = nI 34) then ((F_156 G t v1 (nI 1) q3.2).bind (fun q82 => bif jcmp .ne q82.1 0 then (jif (sex q82.2.2.2.2.1 56 v2.1 v2.2) (bif jcmp .ne (q82.2.1 56 v2.1 v2.2 3) (nI 6) then (jif (sex q82.2.2.2.2.1 60 v2.1 v2.2) (jif (jin (q82.2.1 56 v2.1 v2.2 3) 6) (jif (jin (nI 0) 16) (jif (sex (siI q82.2 60 v2.1 v2.2 (q82.2.1 56 v2.1 v2.2 3).toNatClampNeg v4).2.2.2.1 59 v2.1 v2.2) (jif (jin ((siI q82.2 60 v2.1 v2.2 (q82.2.1 56 v2.1 v2.2 3).toNatClampNeg v4).1 56 v2.1 v2.2 3) 6) (jif (jin (nI 0) 16) (jif (sex (siI (siI q82.2 60 v2.1 v2.2 (q82.2.1 56 v2.1 v2.2 3).toNatClampNeg v4) 59 v2.1 v2.2 ((siI q82.2 60 v2.1 v2.2 (q82.2.1 56 v2.1 v2.2 3).toNatClampNeg v4).1 56 v2.1 v2.2 3).toNatClampNeg ((siI q82.2 60 v2.1 v2.2 (q82.2.1 56 v2.1 v2.2 3).toNatClampNeg v4).1 47 0 0 (nI 0).toNatClampNeg)).2.2.2.1 63 v2.1 v2.2) (jif (jin ((siI (siI q82.2 60 v2.1 v2.2 (q82.2.1 56 v2.1 v2.2 3).toNatClampNeg v4) 59 v2.1 v2.2 ((siI q82.2 60 v2.1 v2.2 (q82.2.1 56 v2.1 v2.2 3).toNatClampNeg v4).1 56 v2.1 v2.2 3).toNatClampNeg ((siI q82.2 60 v2.1 v2.2 (q82.2.1 56 v2.1 v2.2 3).toNatClampNeg v4).1 47 0 0 (nI 0).toNatClampNeg)).1 56 v2.1 v2.2 3) 6) (some ((), (siI (siL (siI (siI q82.2 60 v2.1 v2.2 (q82.2.1 56 v2.1 v2.2 3).toNatClampNeg v4) 59 v2.1 v2.2 ((siI q82.2 60 v2.1 v2.2 (q82.2.1 56 v2.1 v2.2 3).toNatClampNeg v4).1 56 v2.1 v2.2 3).toNatClampNeg ((siI q82.2 60 v2.1 v2.2 (q82.2.1 56 v2.1 v2.2 3).toNatClampNeg v4).1 47 0 0 (nI 0).toNatClampNeg)) 63 v2.1 v2.2 ((siI (siI q82.2 60 v2.1 v2.2 (q82.2.1 56 v2.1 v2.2 3).toNatClampNeg v4) 59 v2.1 v2.2 ((siI q82.2 60 v2.1 v2.2 (q82.2.1 56 v2.1 v2.2 3).toNatClampNeg v4).1 56 v2.1 v2.2 3).toNatClampNeg ((siI q82.2 60 v2.1 v2.2 (q82.2.1 56 v2.1 v2.2 3).toNatClampNeg v4).1 47 0 0 (nI 0).toNatClampNeg)).1 56 v2.1 v2.2 3).toNatClampNeg ((siI (siI q82.2 60 v2.1 v2.2 (q82.2.1 56 v2.1 v2.2 3).toNatClampNeg v4) 59 v2.1 v2.2 ((siI q82.2 60 v2.1 v2.2 (q82.2.1 56 v2.1 v2.2 3).toNatClampNeg v4).1 56 v2.1 v2.2 3).toNatClampNeg ((siI q82.2 60 v2.1 v2.2 (q82.2.1 56 v2.1 v2.2 3).toNatClampNeg v4).1 47 0 0 (nI 0).toNatClampNeg)).2.1 48 0 0 (nI 0).toNatClampNeg)) 56 v2.1 v2.2 3 (((siL (siI (siI q82.2 60 v2.1 v2.2 (q82.2.1 56 v2.1 v2.2 3).toNatClampNeg v4) 59 v2.1 v2.2 ((siI q82.2 60 v2.1 v2.2 (q82.2.1 56 v2.1 v2.2 3).toNatClampNeg v4).1 56 v2.1 v2.2 3).toNatClampNeg ((siI q82.2 60 v2.1 v2.2 (q82.2.1 56 v2.1 v2.2 3).toNatClampNeg v4).1 47 0 0 (nI 0).toNatClampNeg)) 63 v2.1 v2.2 ((siI (siI q82.2 60 v2.1 v2.2 (q82.2.1 56 v2.1 v2.2 3).toNatClampNeg v4) 59 v2.1 v2.2 ((siI q82.2 60 v2.1 v2.2 (q82.2.1 56 v2.1 v2.2 3).toNatClampNeg v4).1 56 v2.1 v2.2 3).toNatClampNeg ((siI q82.2 60 v2.1 v2.2 (q82.2.1 56 v2.1 v2.2 3).toNatClampNeg v4).1 47 0 0 (nI 0).toNatClampNeg)).1 56 v2.1 v2.2 3).toNatClampNeg ((siI (siI q82.2 60 v2.1 v2.2 (q82.2.1 56 v2.1 v2.2 3).toNatClampNeg v4) 59 v2.1 v2.2 ((siI q82.2 60 v2.1 v2.2 (q82.2.1 56 v2.1 v2.2 3).toNatClampNeg v4).1 56 v2.1 v2.2 3).toNatClampNeg ((siI q82.2 60 v2.1 v2.2 (q82.2.1 56 v2.1 v2.2 3).toNatClampNeg v4).1 47 0 0 (nI 0).toNatClampNeg)).2.1 48 0 0 (nI 0).toNatClampNeg)).1 56 v2.1 v2.2 3) + (nI 1))))))))))))) else ((F_155 G t v1 (-3) q82.2).bind (fun q92 => some ((), q92.2))))) else (some ((), q82.2)))) else (bif decide (v3 = nI 35) then ((F_156 G t v1 (nI 1) q3.2).bind (fun q93 => bif jcmp .eq q93.1 0 then (some ((), q93.2)) else (jif (jin (nI 0) 16) (bif jcmp .ne (q93.2.1 47 0 0 (nI 0).toNatClampNeg) 0 then (F_188_1120 G t v1 (nI 0) v1 q93.2) else (F_188_1120 G t v1 (nI 1) v1 q93.2))))) else (none)))))))))))))))))))))))))))))))))))))) else (F_188_35 G t v1 q1.1 q3.2)))))
theorem F_188_ok {G : jG} {t : Nat} {v1 : (Nat × Nat)} {v2 : (Nat × Nat)} {v3 : Int32} {v4 : Int32} {S : sS} {r : Unit} {S' : sS} {μ : jS} {Q : Option Value ⊕ Nat → jS → Prop} (R : sR S μ) (h : F_188 G t v1 v2 v3 v4 S = some (r, S')) (K : ∀ μ', sR S' μ' → Q (srV r) μ') : jX G jP 188 0 (lv_args 0 [.ref (spl 33 0 0), .ref (spl 54 v1.1 v1.2), .ref (spl 56 v2.1 v2.2), .int v3, .int v4]) [] μ Q := by
  unfold F_188 at h
  have l0 : jld (lv_args 0 [.ref (spl 33 0 0), .ref (spl 54 v1.1 v1.2), .ref (spl 56 v2.1 v2.2), .int v3, .int v4]) 0 = some (.ref (spl 33 0 0)) := by rfl
  have l1 : jld (lv_args 0 [.ref (spl 33 0 0), .ref (spl 54 v1.1 v1.2), .ref (spl 56 v2.1 v2.2), .int v3, .int v4]) 1 = some (.ref (spl 54 v1.1 v1.2)) := by rfl
  have l2 : jld (lv_args 0 [.ref (spl 33 0 0), .ref (spl 54 v1.1 v1.2), .ref (spl 56 v2.1 v2.2), .int v3, .int v4]) 2 = some (.ref (spl 56 v2.1 v2.2)) := by rfl
  have l3 : jld (lv_args 0 [.ref (spl 33 0 0), .ref (spl 54 v1.1 v1.2), .ref (spl 56 v2.1 v2.2), .int v3, .int v4]) 3 = some (.int v3) := by rfl
  have l4 : jld (lv_args 0 [.ref (spl 33 0 0), .ref (spl 54 v1.1 v1.2), .ref (spl 56 v2.1 v2.2), .int v3, .int v4]) 4 = some (.int v4) := by rfl
  generalize lv_args 0 [.ref (spl 33 0 0), .ref (spl 54 v1.1 v1.2), .ref (spl 56 v2.1 v2.2), .int v3, .int v4] = lv at *
  refine jX.lrn l0 (by rfl) (by rfl) (?_ : jX G jP 188 1 lv [.ref (spl 33 0 0)] μ Q)
  refine jX.lin l3 (by rfl) (by rfl) (?_ : jX G jP 188 2 lv [.int v3, .ref (spl 33 0 0)] μ Q)
  refine jX.li l4 (by rfl) (by rfl) (?_ : jX G jP 188 4 lv [.int v4, .int v3, .ref (spl 33 0 0)] μ Q)
  obtain ⟨q1, e1, h⟩ := sbd h
  refine jX.c1 (v := .int q1.1) (by rfl) (by rfl) (by rfl) (by rfl) (by rfl) (by rfl) (by rfl) (R.rec (by rfl) (by rfl)) (Nat.le_of_ble_eq_true rfl) (Nat.le_of_ble_eq_true rfl) (F_152_ok R e1 (fun μ R => ⟨rfl, (?_ : jX G jP 188 7 lv [.int q1.1] μ Q)⟩))
  refine jX.s1 (k := 5) (pc' := 9) (by rfl) (by rfl) (by rfl) (fun lv l5 kp => (?_ : jX G jP 188 9 lv [] μ Q))
  replace l0 := kp 0 _ l0 (by rfl) (by first | rfl | simp [soR_cat])
  replace l1 := kp 1 _ l1 (by rfl) (by first | rfl | simp [soR_cat])
  replace l2 := kp 2 _ l2 (by rfl) (by first | rfl | simp [soR_cat])
  replace l3 := kp 3 _ l3 (by rfl) (by first | rfl | simp [soR_cat])
  replace l4 := kp 4 _ l4 (by rfl) (by first | rfl | simp [soR_cat])
  refine jX.lrn l2 (by rfl) (by rfl) (?_ : jX G jP 188 10 lv [.ref (spl 56 v2.1 v2.2)] μ Q)
  obtain ⟨g2, h⟩ := jif_some h
  refine jX.sg R g2 (by rfl) (by rfl) (by rfl) (by rfl) (by rfl) (?_ : jX G jP 188 13 lv [.int (q1.2.1 56 v2.1 v2.2 2)] μ Q)
  refine jX.li l5 (by rfl) (by rfl) (?_ : jX G jP 188 15 lv [.int q1.1, .int (q1.2.1 56 v2.1 v2.2 2)] μ Q)
  rcases bif_or h with ⟨hc, h⟩ | ⟨hc, h⟩
  · refine jX.b2t hc (by rfl) (by rfl) (by rfl) (?_ : jX G jP 188 35 lv [] μ Q)
    exact F_188_35_ok  K v1 q1.1 _ _ _ l0 l1 l5 R h
  · refine jX.b2f hc (by rfl) (by rfl) (by rfl) (?_ : jX G jP 188 18 lv [] μ Q)
    refine jX.lrn l2 (by rfl) (by rfl) (?_ : jX G jP 188 19 lv [.ref (spl 56 v2.1 v2.2)] μ Q)
    refine jX.sg R g2 (by rfl) (by rfl) (by rfl) (by rfl) (by rfl) (?_ : jX G jP 188 22 lv [.int (q1.2.1 56 v2.1 v2.2 2)] μ Q)
    refine jX.li l5 (by rfl) (by rfl) (?_ : jX G jP 188 24 lv [.int q1.1, .int (q1.2.1 56 v2.1 v2.2 2)] μ Q)
    refine jX.go (by rfl) (by rfl) (by rfl) (?_ : jX G jP 188 25 lv [.int ((q1.2.1 56 v2.1 v2.2 2) - q1.1)] μ Q)
    refine jX.lin l3 (by rfl) (by rfl) (?_ : jX G jP 188 26 lv [.int v3, .int ((q1.2.1 56 v2.1 v2.2 2) - q1.1)] μ Q)
    obtain ⟨q3, e3, h⟩ := sbd h
    refine jX.c1 (v := .int q3.1) (by rfl) (by rfl) (by rfl) (by rfl) (by rfl) (by rfl) (by rfl) (by rfl) (Nat.le_of_ble_eq_true rfl) (Nat.le_of_ble_eq_true rfl) (F_153_ok R e3 (fun μ R => ⟨rfl, (?_ : jX G jP 188 29 lv [.int q3.1, .int ((q1.2.1 56 v2.1 v2.2 2) - q1.1)] μ Q)⟩))
    refine jX.go (by rfl) (by rfl) (by rfl) (?_ : jX G jP 188 30 lv [.int (((q1.2.1 56 v2.1 v2.2 2) - q1.1) + q3.1)] μ Q)
    refine jX.ic (v := nI 16) (n := 2) (by rfl) (by rfl) (by decide) (?_ : jX G jP 188 32 lv [.int (nI 16), .int (((q1.2.1 56 v2.1 v2.2 2) - q1.1) + q3.1)] μ Q)
    rcases bif_or h with ⟨hc, h⟩ | ⟨hc, h⟩
    · refine jX.b2t hc (by rfl) (by rfl) (by rfl) (?_ : jX G jP 188 54 lv [] μ Q)
      refine jX.lin l3 (by rfl) (by rfl) (?_ : jX G jP 188 55 lv [.int v3] μ Q)
      rcases bif_or h with ⟨hc, h⟩ | ⟨-, h⟩
      · refine jX.swd hc (by rfl) (by rfl) (by rfl) (?_ : jX G jP 188 1138 lv [] μ Q)
        refine jX.lrn l0 (by rfl) (by rfl) (?_ : jX G jP 188 1139 lv [.ref (spl 33 0 0)] μ Q)
        refine jX.lrn l1 (by rfl) (by rfl) (?_ : jX G jP 188 1140 lv [.ref (spl 54 v1.1 v1.2), .ref (spl 33 0 0)] μ Q)
        refine jX.lrn l2 (by rfl) (by rfl) (?_ : jX G jP 188 1141 lv [.ref (spl 56 v2.1 v2.2), .ref (spl 54 v1.1 v1.2), .ref (spl 33 0 0)] μ Q)
        obtain ⟨q4, e4, h⟩ := sbd h
        refine jX.cv (by rfl) (by rfl) (by rfl) (by rfl) (by rfl) (by rfl) (by rfl) (R.rec (by rfl) (by rfl)) (Nat.le_of_ble_eq_true rfl) (Nat.le_of_ble_eq_true rfl) (F_187_ok R e4 (fun μ R => ⟨rfl, (?_ : jX G jP 188 1144 lv [] μ Q)⟩))
        exact jX.ret (by rfl) (by rfl) (by rfl) (by rfl) (sretv (f := srV) h K R)
      rcases bif_or h with ⟨hc, h⟩ | ⟨-, h⟩
      · refine jX.swn hc (by rfl) (by rfl) (by rfl) (?_ : jX G jP 188 212 lv [] μ Q)
        refine jX.lrn l0 (by rfl) (by rfl) (?_ : jX G jP 188 213 lv [.ref (spl 33 0 0)] μ Q)
        refine jX.lrn l1 (by rfl) (by rfl) (?_ : jX G jP 188 214 lv [.ref (spl 54 v1.1 v1.2), .ref (spl 33 0 0)] μ Q)
        refine jX.ic (v := nI 0) (n := 1) (by rfl) (by rfl) (by decide) (?_ : jX G jP 188 215 lv [.int (nI 0), .ref (spl 54 v1.1 v1.2), .ref (spl 33 0 0)] μ Q)
        refine jX.li l4 (by rfl) (by rfl) (?_ : jX G jP 188 217 lv [.int v4, .int (nI 0), .ref (spl 54 v1.1 v1.2), .ref (spl 33 0 0)] μ Q)
        refine jX.go (by rfl) (by rfl) (by rfl) (?_ : jX G jP 188 218 lv [.long v4.toInt64, .int (nI 0), .ref (spl 54 v1.1 v1.2), .ref (spl 33 0 0)] μ Q)
        obtain ⟨q5, e5, h⟩ := sbd h
        refine jX.c1 (v := .int q5.1) (by rfl) (by rfl) (by rfl) (by rfl) (by rfl) (by rfl) (by rfl) (R.rec (by rfl) (by rfl)) (Nat.le_of_ble_eq_true rfl) (Nat.le_of_ble_eq_true rfl) (F_157_ok R e5 (fun μ R => ⟨rfl, (?_ : jX G jP 188 221 lv [.int q5.1] μ Q)⟩))
        refine jX.go (by rfl) (by rfl) (by rfl) (?_ : jX G jP 188 222 lv [] μ Q)
        exact jX.ret (by rfl) (by rfl) (by rfl) (by rfl) (sretv (f := srV) h K R)
      rcases bif_or h with ⟨hc, h⟩ | ⟨-, h⟩
      · refine jX.swn hc (by rfl) (by rfl) (by rfl) (?_ : jX G jP 188 223 lv [] μ Q)
        refine jX.lrn l0 (by rfl) (by rfl) (?_ : jX G jP 188 224 lv [.ref (spl 33 0 0)] μ Q)
        refine jX.lrn l1 (by rfl) (by rfl) (?_ : jX G jP 188 225 lv [.ref (spl 54 v1.1 v1.2), .ref (spl 33 0 0)] μ Q)
        refine jX.ic (v := nI 1) (n := 1) (by rfl) (by rfl) (by decide) (?_ : jX G jP 188 226 lv [.int (nI 1), .ref (spl 54 v1.1 v1.2), .ref (spl 33 0 0)] μ Q)
        refine jX.go (by rfl) (by rfl) (by rfl) (?_ : jX G jP 188 227 lv [.long 0, .int (nI 1), .ref (spl 54 v1.1 v1.2), .ref (spl 33 0 0)] μ Q)
        obtain ⟨q6, e6, h⟩ := sbd h
        refine jX.c1 (v := .int q6.1) (by rfl) (by rfl) (by rfl) (by rfl) (by rfl) (by rfl) (by rfl) (R.rec (by rfl) (by rfl)) (Nat.le_of_ble_eq_true rfl) (Nat.le_of_ble_eq_true rfl) (F_157_ok R e6 (fun μ R => ⟨rfl, (?_ : jX G jP 188 230 lv [.int q6.1] μ Q)⟩))
        refine jX.go (by rfl) (by rfl) (by rfl) (?_ : jX G jP 188 231 lv [] μ Q)
        exact jX.ret (by rfl) (by rfl) (by rfl) (by rfl) (sretv (f := srV) h K R)
      rcases bif_or h with ⟨hc, h⟩ | ⟨-, h⟩
      · refine jX.swn hc (by rfl) (by rfl) (by rfl) (?_ : jX G jP 188 232 lv [] μ Q)
        refine jX.lrn l0 (by rfl) (by rfl) (?_ : jX G jP 188 233 lv [.ref (spl 33 0 0)] μ Q)
        refine jX.lrn l1 (by rfl) (by rfl) (?_ : jX G jP 188 234 lv [.ref (spl 54 v1.1 v1.2), .ref (spl 33 0 0)] μ Q)
        refine jX.lrn l2 (by rfl) (by rfl) (?_ : jX G jP 188 235 lv [.ref (spl 56 v2.1 v2.2), .ref (spl 54 v1.1 v1.2), .ref (spl 33 0 0)] μ Q)
        obtain ⟨g7, h⟩ := jif_some h
        refine jX.sg R g7 (by rfl) (by rfl) (by rfl) (by rfl) (by rfl) (?_ : jX G jP 188 238 lv [.ref (spl 57 v2.1 v2.2), .ref (spl 54 v1.1 v1.2), .ref (spl 33 0 0)] μ Q)
        refine jX.li l4 (by rfl) (by rfl) (?_ : jX G jP 188 240 lv [.int v4, .ref (spl 57 v2.1 v2.2), .ref (spl 54 v1.1 v1.2), .ref (spl 33 0 0)] μ Q)
        obtain ⟨g8, h⟩ := jif_some h
        obtain ⟨g9, h⟩ := jif_some h
        refine jX.sai R g8 (by rfl) (by rfl) (by rfl) g9 (?_ : jX G jP 188 241 lv [.int (q3.2.1 57 v2.1 v2.2 v4.toNatClampNeg), .ref (spl 54 v1.1 v1.2), .ref (spl 33 0 0)] μ Q)
        refine jX.lrn l2 (by rfl) (by rfl) (?_ : jX G jP 188 242 lv [.ref (spl 56 v2.1 v2.2), .int (q3.2.1 57 v2.1 v2.2 v4.toNatClampNeg), .ref (spl 54 v1.1 v1.2), .ref (spl 33 0 0)] μ Q)
        refine jX.sg R g7 (by rfl) (by rfl) (by rfl) (by rfl) (by rfl) (?_ : jX G jP 188 245 lv [.ref (spl 61 v2.1 v2.2), .int (q3.2.1 57 v2.1 v2.2 v4.toNatClampNeg), .ref (spl 54 v1.1 v1.2), .ref (spl 33 0 0)] μ Q)
        refine jX.li l4 (by rfl) (by rfl) (?_ : jX G jP 188 247 lv [.int v4, .ref (spl 61 v2.1 v2.2), .int (q3.2.1 57 v2.1 v2.2 v4.toNatClampNeg), .ref (spl 54 v1.1 v1.2), .ref (spl 33 0 0)] μ Q)
        obtain ⟨g10, h⟩ := jif_some h
        obtain ⟨g11, h⟩ := jif_some h
        refine jX.sal R g10 (by rfl) (by rfl) (by rfl) g11 (?_ : jX G jP 188 248 lv [.long (q3.2.2.1 61 v2.1 v2.2 v4.toNatClampNeg), .int (q3.2.1 57 v2.1 v2.2 v4.toNatClampNeg), .ref (spl 54 v1.1 v1.2), .ref (spl 33 0 0)] μ Q)
        obtain ⟨q12, e12, h⟩ := sbd h
        refine jX.c1 (v := .int q12.1) (by rfl) (by rfl) (by rfl) (by rfl) (by rfl) (by rfl) (by rfl) (R.rec (by rfl) (by rfl)) (Nat.le_of_ble_eq_true rfl) (Nat.le_of_ble_eq_true rfl) (F_157_ok R e12 (fun μ R => ⟨rfl, (?_ : jX G jP 188 251 lv [.int q12.1] μ Q)⟩))
        refine jX.go (by rfl) (by rfl) (by rfl) (?_ : jX G jP 188 252 lv [] μ Q)
        exact jX.ret (by rfl) (by rfl) (by rfl) (by rfl) (sretv (f := srV) h K R)
      rcases bif_or h with ⟨hc, h⟩ | ⟨-, h⟩
      · refine jX.swn hc (by rfl) (by rfl) (by rfl) (?_ : jX G jP 188 253 lv [] μ Q)
        refine jX.lrn l0 (by rfl) (by rfl) (?_ : jX G jP 188 254 lv [.ref (spl 33 0 0)] μ Q)
        refine jX.lrn l1 (by rfl) (by rfl) (?_ : jX G jP 188 255 lv [.ref (spl 54 v1.1 v1.2), .ref (spl 33 0 0)] μ Q)
        refine jX.ic (v := nI 1) (n := 1) (by rfl) (by rfl) (by decide) (?_ : jX G jP 188 256 lv [.int (nI 1), .ref (spl 54 v1.1 v1.2), .ref (spl 33 0 0)] μ Q)
        obtain ⟨q13, e13, h⟩ := sbd h
        refine jX.c1 (v := .int q13.1) (by rfl) (by rfl) (by rfl) (by rfl) (by rfl) (by rfl) (by rfl) (R.rec (by rfl) (by rfl)) (Nat.le_of_ble_eq_true rfl) (Nat.le_of_ble_eq_true rfl) (F_156_ok R e13 (fun μ R => ⟨rfl, (?_ : jX G jP 188 259 lv [.int q13.1] μ Q)⟩))
        rcases bif_or h with ⟨hc, h⟩ | ⟨hc, h⟩
        · refine jX.b1t hc (by rfl) (by rfl) (by rfl) (?_ : jX G jP 188 263 lv [] μ Q)
          refine jX.lrn l2 (by rfl) (by rfl) (?_ : jX G jP 188 264 lv [.ref (spl 56 v2.1 v2.2)] μ Q)
          obtain ⟨g14, h⟩ := jif_some h
          refine jX.sg R g14 (by rfl) (by rfl) (by rfl) (by rfl) (by rfl) (?_ : jX G jP 188 267 lv [.ref (spl 57 v2.1 v2.2)] μ Q)
          refine jX.li l4 (by rfl) (by rfl) (?_ : jX G jP 188 269 lv [.int v4, .ref (spl 57 v2.1 v2.2)] μ Q)
          refine jX.lrn l0 (by rfl) (by rfl) (?_ : jX G jP 188 270 lv [.ref (spl 33 0 0), .int v4, .ref (spl 57 v2.1 v2.2)] μ Q)
          refine jX.sg R (by rfl) (by rfl) (by rfl) (by rfl) (by rfl) (by rfl) (?_ : jX G jP 188 273 lv [.ref (spl 47 0 0), .int v4, .ref (spl 57 v2.1 v2.2)] μ Q)
          refine jX.ic (v := nI 0) (n := 1) (by rfl) (by rfl) (by decide) (?_ : jX G jP 188 274 lv [.int (nI 0), .ref (spl 47 0 0), .int v4, .ref (spl 57 v2.1 v2.2)] μ Q)
          obtain ⟨g15, h⟩ := jif_some h
          refine jX.sai R (by rfl) (by rfl) (by rfl) (by rfl) g15 (?_ : jX G jP 188 275 lv [.int (q13.2.1 47 0 0 (nI 0).toNatClampNeg), .int v4, .ref (spl 57 v2.1 v2.2)] μ Q)
          obtain ⟨g16, h⟩ := jif_some h
          obtain ⟨g17, h⟩ := jif_some h
          refine jX.sti R g16 (by rfl) (by rfl) (fun _ => by rfl) g17 (fun μ R => (?_ : jX G jP 188 276 lv [] μ Q))
          refine jX.lrn l2 (by rfl) (by rfl) (?_ : jX G jP 188 277 lv [.ref (spl 56 v2.1 v2.2)] μ Q)
          refine jX.sg R g14 (by rfl) (by rfl) (by rfl) (by rfl) (by rfl) (?_ : jX G jP 188 280 lv [.ref (spl 61 v2.1 v2.2)] μ Q)
          refine jX.li l4 (by rfl) (by rfl) (?_ : jX G jP 188 282 lv [.int v4, .ref (spl 61 v2.1 v2.2)] μ Q)
          refine jX.lrn l0 (by rfl) (by rfl) (?_ : jX G jP 188 283 lv [.ref (spl 33 0 0), .int v4, .ref (spl 61 v2.1 v2.2)] μ Q)
          refine jX.sg R (by rfl) (by rfl) (by rfl) (by rfl) (by rfl) (by rfl) (?_ : jX G jP 188 286 lv [.ref (spl 48 0 0), .int v4, .ref (spl 61 v2.1 v2.2)] μ Q)
          refine jX.ic (v := nI 0) (n := 1) (by rfl) (by rfl) (by decide) (?_ : jX G jP 188 287 lv [.int (nI 0), .ref (spl 48 0 0), .int v4, .ref (spl 61 v2.1 v2.2)] μ Q)
          obtain ⟨g18, h⟩ := jif_some h
          refine jX.sal R (by rfl) (by rfl) (by rfl) (by rfl) g18 (?_ : jX G jP 188 288 lv [.long ((siI q13.2 57 v2.1 v2.2 v4.toNatClampNeg (q13.2.1 47 0 0 (nI 0).toNatClampNeg)).2.1 48 0 0 (nI 0).toNatClampNeg), .int v4, .ref (spl 61 v2.1 v2.2)] μ Q)
          obtain ⟨g19, h⟩ := jif_some h
          obtain ⟨g20, h⟩ := jif_some h
          refine jX.stl R g19 (by rfl) (by rfl) (fun _ => by rfl) g20 (fun μ R => (?_ : jX G jP 188 289 lv [] μ Q))
          exact jX.ret (by rfl) (by rfl) (by rfl) (by rfl) (sretv (f := srV) h K R)
        · refine jX.b1f hc (by rfl) (by rfl) (by rfl) (?_ : jX G jP 188 262 lv [] μ Q)
          exact jX.ret (by rfl) (by rfl) (by rfl) (by rfl) (sretv (f := srV) h K R)
      rcases bif_or h with ⟨hc, h⟩ | ⟨-, h⟩
      · refine jX.swn hc (by rfl) (by rfl) (by rfl) (?_ : jX G jP 188 290 lv [] μ Q)
        refine jX.lrn l0 (by rfl) (by rfl) (?_ : jX G jP 188 291 lv [.ref (spl 33 0 0)] μ Q)
        refine jX.lrn l1 (by rfl) (by rfl) (?_ : jX G jP 188 292 lv [.ref (spl 54 v1.1 v1.2), .ref (spl 33 0 0)] μ Q)
        refine jX.lrn l0 (by rfl) (by rfl) (?_ : jX G jP 188 293 lv [.ref (spl 33 0 0), .ref (spl 54 v1.1 v1.2), .ref (spl 33 0 0)] μ Q)
        refine jX.sg R (by rfl) (by rfl) (by rfl) (by rfl) (by rfl) (by rfl) (?_ : jX G jP 188 296 lv [.ref (spl 36 0 0), .ref (spl 54 v1.1 v1.2), .ref (spl 33 0 0)] μ Q)
        refine jX.li l4 (by rfl) (by rfl) (?_ : jX G jP 188 298 lv [.int v4, .ref (spl 36 0 0), .ref (spl 54 v1.1 v1.2), .ref (spl 33 0 0)] μ Q)
        obtain ⟨g21, h⟩ := jif_some h
        refine jX.sai R (by rfl) (by rfl) (by rfl) (by rfl) g21 (?_ : jX G jP 188 299 lv [.int (q3.2.1 36 0 0 v4.toNatClampNeg), .ref (spl 54 v1.1 v1.2), .ref (spl 33 0 0)] μ Q)
        refine jX.lrn l0 (by rfl) (by rfl) (?_ : jX G jP 188 300 lv [.ref (spl 33 0 0), .int (q3.2.1 36 0 0 v4.toNatClampNeg), .ref (spl 54 v1.1 v1.2), .ref (spl 33 0 0)] μ Q)
        refine jX.sg R (by rfl) (by rfl) (by rfl) (by rfl) (by rfl) (by rfl) (?_ : jX G jP 188 303 lv [.ref (spl 43 0 0), .int (q3.2.1 36 0 0 v4.toNatClampNeg), .ref (spl 54 v1.1 v1.2), .ref (spl 33 0 0)] μ Q)
        refine jX.li l4 (by rfl) (by rfl) (?_ : jX G jP 188 305 lv [.int v4, .ref (spl 43 0 0), .int (q3.2.1 36 0 0 v4.toNatClampNeg), .ref (spl 54 v1.1 v1.2), .ref (spl 33 0 0)] μ Q)
        obtain ⟨g22, h⟩ := jif_some h
        refine jX.sal R (by rfl) (by rfl) (by rfl) (by rfl) g22 (?_ : jX G jP 188 306 lv [.long (q3.2.2.1 43 0 0 v4.toNatClampNeg), .int (q3.2.1 36 0 0 v4.toNatClampNeg), .ref (spl 54 v1.1 v1.2), .ref (spl 33 0 0)] μ Q)
        obtain ⟨q23, e23, h⟩ := sbd h
        refine jX.c1 (v := .int q23.1) (by rfl) (by rfl) (by rfl) (by rfl) (by rfl) (by rfl) (by rfl) (R.rec (by rfl) (by rfl)) (Nat.le_of_ble_eq_true rfl) (Nat.le_of_ble_eq_true rfl) (F_157_ok R e23 (fun μ R => ⟨rfl, (?_ : jX G jP 188 309 lv [.int q23.1] μ Q)⟩))
        refine jX.go (by rfl) (by rfl) (by rfl) (?_ : jX G jP 188 310 lv [] μ Q)
        exact jX.ret (by rfl) (by rfl) (by rfl) (by rfl) (sretv (f := srV) h K R)
      rcases bif_or h with ⟨hc, h⟩ | ⟨-, h⟩
      · refine jX.swn hc (by rfl) (by rfl) (by rfl) (?_ : jX G jP 188 311 lv [] μ Q)
        refine jX.lrn l0 (by rfl) (by rfl) (?_ : jX G jP 188 312 lv [.ref (spl 33 0 0)] μ Q)
        refine jX.lrn l1 (by rfl) (by rfl) (?_ : jX G jP 188 313 lv [.ref (spl 54 v1.1 v1.2), .ref (spl 33 0 0)] μ Q)
        refine jX.ic (v := nI 1) (n := 1) (by rfl) (by rfl) (by decide) (?_ : jX G jP 188 314 lv [.int (nI 1), .ref (spl 54 v1.1 v1.2), .ref (spl 33 0 0)] μ Q)
        obtain ⟨q24, e24, h⟩ := sbd h
        refine jX.c1 (v := .int q24.1) (by rfl) (by rfl) (by rfl) (by rfl) (by rfl) (by rfl) (by rfl) (R.rec (by rfl) (by rfl)) (Nat.le_of_ble_eq_true rfl) (Nat.le_of_ble_eq_true rfl) (F_156_ok R e24 (fun μ R => ⟨rfl, (?_ : jX G jP 188 317 lv [.int q24.1] μ Q)⟩))
        rcases bif_or h with ⟨hc, h⟩ | ⟨hc, h⟩
        · refine jX.b1t hc (by rfl) (by rfl) (by rfl) (?_ : jX G jP 188 321 lv [] μ Q)
          refine jX.lrn l0 (by rfl) (by rfl) (?_ : jX G jP 188 322 lv [.ref (spl 33 0 0)] μ Q)
          refine jX.sg R (by rfl) (by rfl) (by rfl) (by rfl) (by rfl) (by rfl) (?_ : jX G jP 188 325 lv [.ref (spl 36 0 0)] μ Q)
          refine jX.li l4 (by rfl) (by rfl) (?_ : jX G jP 188 327 lv [.int v4, .ref (spl 36 0 0)] μ Q)
          refine jX.lrn l0 (by rfl) (by rfl) (?_ : jX G jP 188 328 lv [.ref (spl 33 0 0), .int v4, .ref (spl 36 0 0)] μ Q)
          refine jX.sg R (by rfl) (by rfl) (by rfl) (by rfl) (by rfl) (by rfl) (?_ : jX G jP 188 331 lv [.ref (spl 47 0 0), .int v4, .ref (spl 36 0 0)] μ Q)
          refine jX.ic (v := nI 0) (n := 1) (by rfl) (by rfl) (by decide) (?_ : jX G jP 188 332 lv [.int (nI 0), .ref (spl 47 0 0), .int v4, .ref (spl 36 0 0)] μ Q)
          obtain ⟨g25, h⟩ := jif_some h
          refine jX.sai R (by rfl) (by rfl) (by rfl) (by rfl) g25 (?_ : jX G jP 188 333 lv [.int (q24.2.1 47 0 0 (nI 0).toNatClampNeg), .int v4, .ref (spl 36 0 0)] μ Q)
          obtain ⟨g26, h⟩ := jif_some h
          refine jX.sti R (by rfl) (by rfl) (by rfl) (fun _ => by rfl) g26 (fun μ R => (?_ : jX G jP 188 334 lv [] μ Q))
          refine jX.lrn l0 (by rfl) (by rfl) (?_ : jX G jP 188 335 lv [.ref (spl 33 0 0)] μ Q)
          refine jX.sg R (by rfl) (by rfl) (by rfl) (by rfl) (by rfl) (by rfl) (?_ : jX G jP 188 338 lv [.ref (spl 43 0 0)] μ Q)
          refine jX.li l4 (by rfl) (by rfl) (?_ : jX G jP 188 340 lv [.int v4, .ref (spl 43 0 0)] μ Q)
          refine jX.lrn l0 (by rfl) (by rfl) (?_ : jX G jP 188 341 lv [.ref (spl 33 0 0), .int v4, .ref (spl 43 0 0)] μ Q)
          refine jX.sg R (by rfl) (by rfl) (by rfl) (by rfl) (by rfl) (by rfl) (?_ : jX G jP 188 344 lv [.ref (spl 48 0 0), .int v4, .ref (spl 43 0 0)] μ Q)
          refine jX.ic (v := nI 0) (n := 1) (by rfl) (by rfl) (by decide) (?_ : jX G jP 188 345 lv [.int (nI 0), .ref (spl 48 0 0), .int v4, .ref (spl 43 0 0)] μ Q)
          obtain ⟨g27, h⟩ := jif_some h
          refine jX.sal R (by rfl) (by rfl) (by rfl) (by rfl) g27 (?_ : jX G jP 188 346 lv [.long ((siI q24.2 36 0 0 v4.toNatClampNeg (q24.2.1 47 0 0 (nI 0).toNatClampNeg)).2.1 48 0 0 (nI 0).toNatClampNeg), .int v4, .ref (spl 43 0 0)] μ Q)
          obtain ⟨g28, h⟩ := jif_some h
          refine jX.stl R (by rfl) (by rfl) (by rfl) (fun _ => by rfl) g28 (fun μ R => (?_ : jX G jP 188 347 lv [] μ Q))
          exact jX.ret (by rfl) (by rfl) (by rfl) (by rfl) (sretv (f := srV) h K R)
        · refine jX.b1f hc (by rfl) (by rfl) (by rfl) (?_ : jX G jP 188 320 lv [] μ Q)
          exact jX.ret (by rfl) (by rfl) (by rfl) (by rfl) (sretv (f := srV) h K R)
      rcases bif_or h with ⟨hc, h⟩ | ⟨-, h⟩
      · refine jX.swn hc (by rfl) (by rfl) (by rfl) (?_ : jX G jP 188 348 lv [] μ Q)
        refine jX.lrn l0 (by rfl) (by rfl) (?_ : jX G jP 188 349 lv [.ref (spl 33 0 0)] μ Q)
        refine jX.lrn l1 (by rfl) (by rfl) (?_ : jX G jP 188 350 lv [.ref (spl 54 v1.1 v1.2), .ref (spl 33 0 0)] μ Q)
        refine jX.ic (v := nI 1) (n := 1) (by rfl) (by rfl) (by decide) (?_ : jX G jP 188 351 lv [.int (nI 1), .ref (spl 54 v1.1 v1.2), .ref (spl 33 0 0)] μ Q)
        obtain ⟨q29, e29, h⟩ := sbd h
        refine jX.c1 (v := .int q29.1) (by rfl) (by rfl) (by rfl) (by rfl) (by rfl) (by rfl) (by rfl) (R.rec (by rfl) (by rfl)) (Nat.le_of_ble_eq_true rfl) (Nat.le_of_ble_eq_true rfl) (F_156_ok R e29 (fun μ R => ⟨rfl, (?_ : jX G jP 188 354 lv [.int q29.1] μ Q)⟩))
        rcases bif_or h with ⟨hc, h⟩ | ⟨hc, h⟩
        · refine jX.b1t hc (by rfl) (by rfl) (by rfl) (?_ : jX G jP 188 358 lv [] μ Q)
          refine jX.lrn l0 (by rfl) (by rfl) (?_ : jX G jP 188 359 lv [.ref (spl 33 0 0)] μ Q)
          refine jX.lrn l1 (by rfl) (by rfl) (?_ : jX G jP 188 360 lv [.ref (spl 54 v1.1 v1.2), .ref (spl 33 0 0)] μ Q)
          refine jX.lrn l0 (by rfl) (by rfl) (?_ : jX G jP 188 361 lv [.ref (spl 33 0 0), .ref (spl 54 v1.1 v1.2), .ref (spl 33 0 0)] μ Q)
          refine jX.sg R (by rfl) (by rfl) (by rfl) (by rfl) (by rfl) (by rfl) (?_ : jX G jP 188 364 lv [.ref (spl 47 0 0), .ref (spl 54 v1.1 v1.2), .ref (spl 33 0 0)] μ Q)
          refine jX.ic (v := nI 0) (n := 1) (by rfl) (by rfl) (by decide) (?_ : jX G jP 188 365 lv [.int (nI 0), .ref (spl 47 0 0), .ref (spl 54 v1.1 v1.2), .ref (spl 33 0 0)] μ Q)
          obtain ⟨g30, h⟩ := jif_some h
          refine jX.sai R (by rfl) (by rfl) (by rfl) (by rfl) g30 (?_ : jX G jP 188 366 lv [.int (q29.2.1 47 0 0 (nI 0).toNatClampNeg), .ref (spl 54 v1.1 v1.2), .ref (spl 33 0 0)] μ Q)
          refine jX.lrn l0 (by rfl) (by rfl) (?_ : jX G jP 188 367 lv [.ref (spl 33 0 0), .int (q29.2.1 47 0 0 (nI 0).toNatClampNeg), .ref (spl 54 v1.1 v1.2), .ref (spl 33 0 0)] μ Q)
          refine jX.sg R (by rfl) (by rfl) (by rfl) (by rfl) (by rfl) (by rfl) (?_ : jX G jP 188 370 lv [.ref (spl 48 0 0), .int (q29.2.1 47 0 0 (nI 0).toNatClampNeg), .ref (spl 54 v1.1 v1.2), .ref (spl 33 0 0)] μ Q)
          refine jX.ic (v := nI 0) (n := 1) (by rfl) (by rfl) (by decide) (?_ : jX G jP 188 371 lv [.int (nI 0), .ref (spl 48 0 0), .int (q29.2.1 47 0 0 (nI 0).toNatClampNeg), .ref (spl 54 v1.1 v1.2), .ref (spl 33 0 0)] μ Q)
          obtain ⟨g31, h⟩ := jif_some h
          refine jX.sal R (by rfl) (by rfl) (by rfl) (by rfl) g31 (?_ : jX G jP 188 372 lv [.long (q29.2.2.1 48 0 0 (nI 0).toNatClampNeg), .int (q29.2.1 47 0 0 (nI 0).toNatClampNeg), .ref (spl 54 v1.1 v1.2), .ref (spl 33 0 0)] μ Q)
          obtain ⟨q32, e32, h⟩ := sbd h
          refine jX.c1 (v := .int q32.1) (by rfl) (by rfl) (by rfl) (by rfl) (by rfl) (by rfl) (by rfl) (R.rec (by rfl) (by rfl)) (Nat.le_of_ble_eq_true rfl) (Nat.le_of_ble_eq_true rfl) (F_157_ok R e32 (fun μ R => ⟨rfl, (?_ : jX G jP 188 375 lv [.int q32.1] μ Q)⟩))
          refine jX.go (by rfl) (by rfl) (by rfl) (?_ : jX G jP 188 376 lv [] μ Q)
          refine jX.lrn l0 (by rfl) (by rfl) (?_ : jX G jP 188 377 lv [.ref (spl 33 0 0)] μ Q)
          refine jX.lrn l1 (by rfl) (by rfl) (?_ : jX G jP 188 378 lv [.ref (spl 54 v1.1 v1.2), .ref (spl 33 0 0)] μ Q)
          refine jX.lrn l0 (by rfl) (by rfl) (?_ : jX G jP 188 379 lv [.ref (spl 33 0 0), .ref (spl 54 v1.1 v1.2), .ref (spl 33 0 0)] μ Q)
          refine jX.sg R (by rfl) (by rfl) (by rfl) (by rfl) (by rfl) (by rfl) (?_ : jX G jP 188 382 lv [.ref (spl 47 0 0), .ref (spl 54 v1.1 v1.2), .ref (spl 33 0 0)] μ Q)
          refine jX.ic (v := nI 0) (n := 1) (by rfl) (by rfl) (by decide) (?_ : jX G jP 188 383 lv [.int (nI 0), .ref (spl 47 0 0), .ref (spl 54 v1.1 v1.2), .ref (spl 33 0 0)] μ Q)
          obtain ⟨g33, h⟩ := jif_some h
          refine jX.sai R (by rfl) (by rfl) (by rfl) (by rfl) g33 (?_ : jX G jP 188 384 lv [.int (q32.2.1 47 0 0 (nI 0).toNatClampNeg), .ref (spl 54 v1.1 v1.2), .ref (spl 33 0 0)] μ Q)
          refine jX.lrn l0 (by rfl) (by rfl) (?_ : jX G jP 188 385 lv [.ref (spl 33 0 0), .int (q32.2.1 47 0 0 (nI 0).toNatClampNeg), .ref (spl 54 v1.1 v1.2), .ref (spl 33 0 0)] μ Q)
          refine jX.sg R (by rfl) (by rfl) (by rfl) (by rfl) (by rfl) (by rfl) (?_ : jX G jP 188 388 lv [.ref (spl 48 0 0), .int (q32.2.1 47 0 0 (nI 0).toNatClampNeg), .ref (spl 54 v1.1 v1.2), .ref (spl 33 0 0)] μ Q)
          refine jX.ic (v := nI 0) (n := 1) (by rfl) (by rfl) (by decide) (?_ : jX G jP 188 389 lv [.int (nI 0), .ref (spl 48 0 0), .int (q32.2.1 47 0 0 (nI 0).toNatClampNeg), .ref (spl 54 v1.1 v1.2), .ref (spl 33 0 0)] μ Q)
          obtain ⟨g34, h⟩ := jif_some h
          refine jX.sal R (by rfl) (by rfl) (by rfl) (by rfl) g34 (?_ : jX G jP 188 390 lv [.long (q32.2.2.1 48 0 0 (nI 0).toNatClampNeg), .int (q32.2.1 47 0 0 (nI 0).toNatClampNeg), .ref (spl 54 v1.1 v1.2), .ref (spl 33 0 0)] μ Q)
          obtain ⟨q35, e35, h⟩ := sbd h
          refine jX.c1 (v := .int q35.1) (by rfl) (by rfl) (by rfl) (by rfl) (by rfl) (by rfl) (by rfl) (R.rec (by rfl) (by rfl)) (Nat.le_of_ble_eq_true rfl) (Nat.le_of_ble_eq_true rfl) (F_157_ok R e35 (fun μ R => ⟨rfl, (?_ : jX G jP 188 393 lv [.int q35.1] μ Q)⟩))
          refine jX.go (by rfl) (by rfl) (by rfl) (?_ : jX G jP 188 394 lv [] μ Q)
          exact jX.ret (by rfl) (by rfl) (by rfl) (by rfl) (sretv (f := srV) h K R)
        · refine jX.b1f hc (by rfl) (by rfl) (by rfl) (?_ : jX G jP 188 357 lv [] μ Q)
          exact jX.ret (by rfl) (by rfl) (by rfl) (by rfl) (sretv (f := srV) h K R)
      rcases bif_or h with ⟨hc, h⟩ | ⟨-, h⟩
      · refine jX.swn hc (by rfl) (by rfl) (by rfl) (?_ : jX G jP 188 395 lv [] μ Q)
        refine jX.lrn l0 (by rfl) (by rfl) (?_ : jX G jP 188 396 lv [.ref (spl 33 0 0)] μ Q)
        refine jX.lrn l1 (by rfl) (by rfl) (?_ : jX G jP 188 397 lv [.ref (spl 54 v1.1 v1.2), .ref (spl 33 0 0)] μ Q)
        refine jX.ic (v := nI 1) (n := 1) (by rfl) (by rfl) (by decide) (?_ : jX G jP 188 398 lv [.int (nI 1), .ref (spl 54 v1.1 v1.2), .ref (spl 33 0 0)] μ Q)
        obtain ⟨q36, e36, h⟩ := sbd h
        refine jX.c1 (v := .int q36.1) (by rfl) (by rfl) (by rfl) (by rfl) (by rfl) (by rfl) (by rfl) (R.rec (by rfl) (by rfl)) (Nat.le_of_ble_eq_true rfl) (Nat.le_of_ble_eq_true rfl) (F_156_ok R e36 (fun μ R => ⟨rfl, (?_ : jX G jP 188 401 lv [.int q36.1] μ Q)⟩))
        refine jX.go (by rfl) (by rfl) (by rfl) (?_ : jX G jP 188 402 lv [] μ Q)
        exact jX.ret (by rfl) (by rfl) (by rfl) (by rfl) (sretv (f := srV) h K R)
      rcases bif_or h with ⟨hc, h⟩ | ⟨-, h⟩
      · refine jX.swn hc (by rfl) (by rfl) (by rfl) (?_ : jX G jP 188 403 lv [] μ Q)
        refine jX.lrn l0 (by rfl) (by rfl) (?_ : jX G jP 188 404 lv [.ref (spl 33 0 0)] μ Q)
        refine jX.lrn l1 (by rfl) (by rfl) (?_ : jX G jP 188 405 lv [.ref (spl 54 v1.1 v1.2), .ref (spl 33 0 0)] μ Q)
        refine jX.ic (v := nI 2) (n := 1) (by rfl) (by rfl) (by decide) (?_ : jX G jP 188 406 lv [.int (nI 2), .ref (spl 54 v1.1 v1.2), .ref (spl 33 0 0)] μ Q)
        obtain ⟨q37, e37, h⟩ := sbd h
        refine jX.c1 (v := .int q37.1) (by rfl) (by rfl) (by rfl) (by rfl) (by rfl) (by rfl) (by rfl) (R.rec (by rfl) (by rfl)) (Nat.le_of_ble_eq_true rfl) (Nat.le_of_ble_eq_true rfl) (F_156_ok R e37 (fun μ R => ⟨rfl, (?_ : jX G jP 188 409 lv [.int q37.1] μ Q)⟩))
        rcases bif_or h with ⟨hc, h⟩ | ⟨hc, h⟩
        · refine jX.b1t hc (by rfl) (by rfl) (by rfl) (?_ : jX G jP 188 413 lv [] μ Q)
          refine jX.lrn l0 (by rfl) (by rfl) (?_ : jX G jP 188 414 lv [.ref (spl 33 0 0)] μ Q)
          refine jX.lrn l1 (by rfl) (by rfl) (?_ : jX G jP 188 415 lv [.ref (spl 54 v1.1 v1.2), .ref (spl 33 0 0)] μ Q)
          refine jX.lrn l0 (by rfl) (by rfl) (?_ : jX G jP 188 416 lv [.ref (spl 33 0 0), .ref (spl 54 v1.1 v1.2), .ref (spl 33 0 0)] μ Q)
          refine jX.sg R (by rfl) (by rfl) (by rfl) (by rfl) (by rfl) (by rfl) (?_ : jX G jP 188 419 lv [.ref (spl 47 0 0), .ref (spl 54 v1.1 v1.2), .ref (spl 33 0 0)] μ Q)
          refine jX.ic (v := nI 0) (n := 1) (by rfl) (by rfl) (by decide) (?_ : jX G jP 188 420 lv [.int (nI 0), .ref (spl 47 0 0), .ref (spl 54 v1.1 v1.2), .ref (spl 33 0 0)] μ Q)
          obtain ⟨g38, h⟩ := jif_some h
          refine jX.sai R (by rfl) (by rfl) (by rfl) (by rfl) g38 (?_ : jX G jP 188 421 lv [.int (q37.2.1 47 0 0 (nI 0).toNatClampNeg), .ref (spl 54 v1.1 v1.2), .ref (spl 33 0 0)] μ Q)
          refine jX.lrn l0 (by rfl) (by rfl) (?_ : jX G jP 188 422 lv [.ref (spl 33 0 0), .int (q37.2.1 47 0 0 (nI 0).toNatClampNeg), .ref (spl 54 v1.1 v1.2), .ref (spl 33 0 0)] μ Q)
          refine jX.sg R (by rfl) (by rfl) (by rfl) (by rfl) (by rfl) (by rfl) (?_ : jX G jP 188 425 lv [.ref (spl 48 0 0), .int (q37.2.1 47 0 0 (nI 0).toNatClampNeg), .ref (spl 54 v1.1 v1.2), .ref (spl 33 0 0)] μ Q)
          refine jX.ic (v := nI 0) (n := 1) (by rfl) (by rfl) (by decide) (?_ : jX G jP 188 426 lv [.int (nI 0), .ref (spl 48 0 0), .int (q37.2.1 47 0 0 (nI 0).toNatClampNeg), .ref (spl 54 v1.1 v1.2), .ref (spl 33 0 0)] μ Q)
          obtain ⟨g39, h⟩ := jif_some h
          refine jX.sal R (by rfl) (by rfl) (by rfl) (by rfl) g39 (?_ : jX G jP 188 427 lv [.long (q37.2.2.1 48 0 0 (nI 0).toNatClampNeg), .int (q37.2.1 47 0 0 (nI 0).toNatClampNeg), .ref (spl 54 v1.1 v1.2), .ref (spl 33 0 0)] μ Q)
          obtain ⟨q40, e40, h⟩ := sbd h
          refine jX.c1 (v := .int q40.1) (by rfl) (by rfl) (by rfl) (by rfl) (by rfl) (by rfl) (by rfl) (R.rec (by rfl) (by rfl)) (Nat.le_of_ble_eq_true rfl) (Nat.le_of_ble_eq_true rfl) (F_157_ok R e40 (fun μ R => ⟨rfl, (?_ : jX G jP 188 430 lv [.int q40.1] μ Q)⟩))
          refine jX.go (by rfl) (by rfl) (by rfl) (?_ : jX G jP 188 431 lv [] μ Q)
          refine jX.lrn l0 (by rfl) (by rfl) (?_ : jX G jP 188 432 lv [.ref (spl 33 0 0)] μ Q)
          refine jX.lrn l1 (by rfl) (by rfl) (?_ : jX G jP 188 433 lv [.ref (spl 54 v1.1 v1.2), .ref (spl 33 0 0)] μ Q)
          refine jX.lrn l0 (by rfl) (by rfl) (?_ : jX G jP 188 434 lv [.ref (spl 33 0 0), .ref (spl 54 v1.1 v1.2), .ref (spl 33 0 0)] μ Q)
          refine jX.sg R (by rfl) (by rfl) (by rfl) (by rfl) (by rfl) (by rfl) (?_ : jX G jP 188 437 lv [.ref (spl 47 0 0), .ref (spl 54 v1.1 v1.2), .ref (spl 33 0 0)] μ Q)
          refine jX.ic (v := nI 1) (n := 1) (by rfl) (by rfl) (by decide) (?_ : jX G jP 188 438 lv [.int (nI 1), .ref (spl 47 0 0), .ref (spl 54 v1.1 v1.2), .ref (spl 33 0 0)] μ Q)
          obtain ⟨g41, h⟩ := jif_some h
          refine jX.sai R (by rfl) (by rfl) (by rfl) (by rfl) g41 (?_ : jX G jP 188 439 lv [.int (q40.2.1 47 0 0 (nI 1).toNatClampNeg), .ref (spl 54 v1.1 v1.2), .ref (spl 33 0 0)] μ Q)
          refine jX.lrn l0 (by rfl) (by rfl) (?_ : jX G jP 188 440 lv [.ref (spl 33 0 0), .int (q40.2.1 47 0 0 (nI 1).toNatClampNeg), .ref (spl 54 v1.1 v1.2), .ref (spl 33 0 0)] μ Q)
          refine jX.sg R (by rfl) (by rfl) (by rfl) (by rfl) (by rfl) (by rfl) (?_ : jX G jP 188 443 lv [.ref (spl 48 0 0), .int (q40.2.1 47 0 0 (nI 1).toNatClampNeg), .ref (spl 54 v1.1 v1.2), .ref (spl 33 0 0)] μ Q)
          refine jX.ic (v := nI 1) (n := 1) (by rfl) (by rfl) (by decide) (?_ : jX G jP 188 444 lv [.int (nI 1), .ref (spl 48 0 0), .int (q40.2.1 47 0 0 (nI 1).toNatClampNeg), .ref (spl 54 v1.1 v1.2), .ref (spl 33 0 0)] μ Q)
          obtain ⟨g42, h⟩ := jif_some h
          refine jX.sal R (by rfl) (by rfl) (by rfl) (by rfl) g42 (?_ : jX G jP 188 445 lv [.long (q40.2.2.1 48 0 0 (nI 1).toNatClampNeg), .int (q40.2.1 47 0 0 (nI 1).toNatClampNeg), .ref (spl 54 v1.1 v1.2), .ref (spl 33 0 0)] μ Q)
          obtain ⟨q43, e43, h⟩ := sbd h
          refine jX.c1 (v := .int q43.1) (by rfl) (by rfl) (by rfl) (by rfl) (by rfl) (by rfl) (by rfl) (R.rec (by rfl) (by rfl)) (Nat.le_of_ble_eq_true rfl) (Nat.le_of_ble_eq_true rfl) (F_157_ok R e43 (fun μ R => ⟨rfl, (?_ : jX G jP 188 448 lv [.int q43.1] μ Q)⟩))
          refine jX.go (by rfl) (by rfl) (by rfl) (?_ : jX G jP 188 449 lv [] μ Q)
          exact jX.ret (by rfl) (by rfl) (by rfl) (by rfl) (sretv (f := srV) h K R)
        · refine jX.b1f hc (by rfl) (by rfl) (by rfl) (?_ : jX G jP 188 412 lv [] μ Q)
          exact jX.ret (by rfl) (by rfl) (by rfl) (by rfl) (sretv (f := srV) h K R)
      rcases bif_or h with ⟨hc, h⟩ | ⟨-, h⟩
      · refine jX.swn hc (by rfl) (by rfl) (by rfl) (?_ : jX G jP 188 450 lv [] μ Q)
        exact F_188_450_ok  K v1 v3 _ _ _ l0 l1 l3 R h
      rcases bif_or h with ⟨hc, h⟩ | ⟨-, h⟩
      · refine jX.swn hc (by rfl) (by rfl) (by rfl) (?_ : jX G jP 188 450 lv [] μ Q)
        exact F_188_450_ok  K v1 v3 _ _ _ l0 l1 l3 R h
      rcases bif_or h with ⟨hc, h⟩ | ⟨-, h⟩
      · refine jX.swn hc (by rfl) (by rfl) (by rfl) (?_ : jX G jP 188 450 lv [] μ Q)
        exact F_188_450_ok  K v1 v3 _ _ _ l0 l1 l3 R h
      rcases bif_or h with ⟨hc, h⟩ | ⟨-, h⟩
      · refine jX.swn hc (by rfl) (by rfl) (by rfl) (?_ : jX G jP 188 450 lv [] μ Q)
        exact F_188_450_ok  K v1 v3 _ _ _ l0 l1 l3 R h
      rcases bif_or h with ⟨hc, h⟩ | ⟨-, h⟩
      · refine jX.swn hc (by rfl) (by rfl) (by rfl) (?_ : jX G jP 188 450 lv [] μ Q)
        exact F_188_450_ok  K v1 v3 _ _ _ l0 l1 l3 R h
      rcases bif_or h with ⟨hc, h⟩ | ⟨-, h⟩
      · refine jX.swn hc (by rfl) (by rfl) (by rfl) (?_ : jX G jP 188 457 lv [] μ Q)
        refine jX.lrn l0 (by rfl) (by rfl) (?_ : jX G jP 188 458 lv [.ref (spl 33 0 0)] μ Q)
        refine jX.lrn l1 (by rfl) (by rfl) (?_ : jX G jP 188 459 lv [.ref (spl 54 v1.1 v1.2), .ref (spl 33 0 0)] μ Q)
        refine jX.ic (v := nI 2) (n := 1) (by rfl) (by rfl) (by decide) (?_ : jX G jP 188 460 lv [.int (nI 2), .ref (spl 54 v1.1 v1.2), .ref (spl 33 0 0)] μ Q)
        obtain ⟨q44, e44, h⟩ := sbd h
        refine jX.c1 (v := .int q44.1) (by rfl) (by rfl) (by rfl) (by rfl) (by rfl) (by rfl) (by rfl) (R.rec (by rfl) (by rfl)) (Nat.le_of_ble_eq_true rfl) (Nat.le_of_ble_eq_true rfl) (F_156_ok R e44 (fun μ R => ⟨rfl, (?_ : jX G jP 188 463 lv [.int q44.1] μ Q)⟩))
        rcases bif_or h with ⟨hc, h⟩ | ⟨hc, h⟩
        · refine jX.b1t hc (by rfl) (by rfl) (by rfl) (?_ : jX G jP 188 517 lv [] μ Q)
          exact jX.ret (by rfl) (by rfl) (by rfl) (by rfl) (sretv (f := srV) h K R)
        · refine jX.b1f hc (by rfl) (by rfl) (by rfl) (?_ : jX G jP 188 466 lv [] μ Q)
          refine jX.lrn l0 (by rfl) (by rfl) (?_ : jX G jP 188 467 lv [.ref (spl 33 0 0)] μ Q)
          refine jX.lrn l1 (by rfl) (by rfl) (?_ : jX G jP 188 468 lv [.ref (spl 54 v1.1 v1.2), .ref (spl 33 0 0)] μ Q)
          refine jX.lrn l0 (by rfl) (by rfl) (?_ : jX G jP 188 469 lv [.ref (spl 33 0 0), .ref (spl 54 v1.1 v1.2), .ref (spl 33 0 0)] μ Q)
          refine jX.sg R (by rfl) (by rfl) (by rfl) (by rfl) (by rfl) (by rfl) (?_ : jX G jP 188 472 lv [.ref (spl 47 0 0), .ref (spl 54 v1.1 v1.2), .ref (spl 33 0 0)] μ Q)
          refine jX.ic (v := nI 0) (n := 1) (by rfl) (by rfl) (by decide) (?_ : jX G jP 188 473 lv [.int (nI 0), .ref (spl 47 0 0), .ref (spl 54 v1.1 v1.2), .ref (spl 33 0 0)] μ Q)
          obtain ⟨g45, h⟩ := jif_some h
          refine jX.sai R (by rfl) (by rfl) (by rfl) (by rfl) g45 (?_ : jX G jP 188 474 lv [.int (q44.2.1 47 0 0 (nI 0).toNatClampNeg), .ref (spl 54 v1.1 v1.2), .ref (spl 33 0 0)] μ Q)
          refine jX.lrn l0 (by rfl) (by rfl) (?_ : jX G jP 188 475 lv [.ref (spl 33 0 0), .int (q44.2.1 47 0 0 (nI 0).toNatClampNeg), .ref (spl 54 v1.1 v1.2), .ref (spl 33 0 0)] μ Q)
          refine jX.sg R (by rfl) (by rfl) (by rfl) (by rfl) (by rfl) (by rfl) (?_ : jX G jP 188 478 lv [.ref (spl 47 0 0), .int (q44.2.1 47 0 0 (nI 0).toNatClampNeg), .ref (spl 54 v1.1 v1.2), .ref (spl 33 0 0)] μ Q)
          refine jX.ic (v := nI 1) (n := 1) (by rfl) (by rfl) (by decide) (?_ : jX G jP 188 479 lv [.int (nI 1), .ref (spl 47 0 0), .int (q44.2.1 47 0 0 (nI 0).toNatClampNeg), .ref (spl 54 v1.1 v1.2), .ref (spl 33 0 0)] μ Q)
          obtain ⟨g46, h⟩ := jif_some h
          refine jX.sai R (by rfl) (by rfl) (by rfl) (by rfl) g46 (?_ : jX G jP 188 480 lv [.int (q44.2.1 47 0 0 (nI 1).toNatClampNeg), .int (q44.2.1 47 0 0 (nI 0).toNatClampNeg), .ref (spl 54 v1.1 v1.2), .ref (spl 33 0 0)] μ Q)
          rcases bif_or h with ⟨hc, h⟩ | ⟨hc, h⟩
          · refine jX.b2t hc (by rfl) (by rfl) (by rfl) (?_ : jX G jP 188 513 lv [.ref (spl 54 v1.1 v1.2), .ref (spl 33 0 0)] μ Q)
            exact F_188_513_ok  K v1 _ _ _  R h
          · refine jX.b2f hc (by rfl) (by rfl) (by rfl) (?_ : jX G jP 188 483 lv [.ref (spl 54 v1.1 v1.2), .ref (spl 33 0 0)] μ Q)
            refine jX.lrn l0 (by rfl) (by rfl) (?_ : jX G jP 188 484 lv [.ref (spl 33 0 0), .ref (spl 54 v1.1 v1.2), .ref (spl 33 0 0)] μ Q)
            refine jX.sg R (by rfl) (by rfl) (by rfl) (by rfl) (by rfl) (by rfl) (?_ : jX G jP 188 487 lv [.ref (spl 47 0 0), .ref (spl 54 v1.1 v1.2), .ref (spl 33 0 0)] μ Q)
            refine jX.ic (v := nI 0) (n := 1) (by rfl) (by rfl) (by decide) (?_ : jX G jP 188 488 lv [.int (nI 0), .ref (spl 47 0 0), .ref (spl 54 v1.1 v1.2), .ref (spl 33 0 0)] μ Q)
            obtain ⟨g47, h⟩ := jif_some h
            refine jX.sai R (by rfl) (by rfl) (by rfl) (by rfl) g47 (?_ : jX G jP 188 489 lv [.int (q44.2.1 47 0 0 (nI 0).toNatClampNeg), .ref (spl 54 v1.1 v1.2), .ref (spl 33 0 0)] μ Q)
            refine jX.ic (v := nI 1) (n := 1) (by rfl) (by rfl) (by decide) (?_ : jX G jP 188 490 lv [.int (nI 1), .int (q44.2.1 47 0 0 (nI 0).toNatClampNeg), .ref (spl 54 v1.1 v1.2), .ref (spl 33 0 0)] μ Q)
            rcases bif_or h with ⟨hc, h⟩ | ⟨hc, h⟩
            · refine jX.b2t hc (by rfl) (by rfl) (by rfl) (?_ : jX G jP 188 509 lv [.ref (spl 54 v1.1 v1.2), .ref (spl 33 0 0)] μ Q)
              exact F_188_509_ok  K v1 _ _ _  R h
            · refine jX.b2f hc (by rfl) (by rfl) (by rfl) (?_ : jX G jP 188 493 lv [.ref (spl 54 v1.1 v1.2), .ref (spl 33 0 0)] μ Q)
              refine jX.lrn l0 (by rfl) (by rfl) (?_ : jX G jP 188 494 lv [.ref (spl 33 0 0), .ref (spl 54 v1.1 v1.2), .ref (spl 33 0 0)] μ Q)
              refine jX.sg R (by rfl) (by rfl) (by rfl) (by rfl) (by rfl) (by rfl) (?_ : jX G jP 188 497 lv [.ref (spl 48 0 0), .ref (spl 54 v1.1 v1.2), .ref (spl 33 0 0)] μ Q)
              refine jX.ic (v := nI 0) (n := 1) (by rfl) (by rfl) (by decide) (?_ : jX G jP 188 498 lv [.int (nI 0), .ref (spl 48 0 0), .ref (spl 54 v1.1 v1.2), .ref (spl 33 0 0)] μ Q)
              obtain ⟨g48, h⟩ := jif_some h
              refine jX.sal R (by rfl) (by rfl) (by rfl) (by rfl) g48 (?_ : jX G jP 188 499 lv [.long (q44.2.2.1 48 0 0 (nI 0).toNatClampNeg), .ref (spl 54 v1.1 v1.2), .ref (spl 33 0 0)] μ Q)
              refine jX.lrn l0 (by rfl) (by rfl) (?_ : jX G jP 188 500 lv [.ref (spl 33 0 0), .long (q44.2.2.1 48 0 0 (nI 0).toNatClampNeg), .ref (spl 54 v1.1 v1.2), .ref (spl 33 0 0)] μ Q)
              refine jX.sg R (by rfl) (by rfl) (by rfl) (by rfl) (by rfl) (by rfl) (?_ : jX G jP 188 503 lv [.ref (spl 48 0 0), .long (q44.2.2.1 48 0 0 (nI 0).toNatClampNeg), .ref (spl 54 v1.1 v1.2), .ref (spl 33 0 0)] μ Q)
              refine jX.ic (v := nI 1) (n := 1) (by rfl) (by rfl) (by decide) (?_ : jX G jP 188 504 lv [.int (nI 1), .ref (spl 48 0 0), .long (q44.2.2.1 48 0 0 (nI 0).toNatClampNeg), .ref (spl 54 v1.1 v1.2), .ref (spl 33 0 0)] μ Q)
              obtain ⟨g49, h⟩ := jif_some h
              refine jX.sal R (by rfl) (by rfl) (by rfl) (by rfl) g49 (?_ : jX G jP 188 505 lv [.long (q44.2.2.1 48 0 0 (nI 1).toNatClampNeg), .long (q44.2.2.1 48 0 0 (nI 0).toNatClampNeg), .ref (spl 54 v1.1 v1.2), .ref (spl 33 0 0)] μ Q)
              refine jX.go (by rfl) (by rfl) (by rfl) (?_ : jX G jP 188 506 lv [.int (lg_cmp (q44.2.2.1 48 0 0 (nI 0).toNatClampNeg) (q44.2.2.1 48 0 0 (nI 1).toNatClampNeg)), .ref (spl 54 v1.1 v1.2), .ref (spl 33 0 0)] μ Q)
              rcases bif_or h with ⟨hc, h⟩ | ⟨hc, h⟩
              · refine jX.b1t hc (by rfl) (by rfl) (by rfl) (?_ : jX G jP 188 513 lv [.ref (spl 54 v1.1 v1.2), .ref (spl 33 0 0)] μ Q)
                exact F_188_513_ok  K v1 _ _ _  R h
              · refine jX.b1f hc (by rfl) (by rfl) (by rfl) (?_ : jX G jP 188 509 lv [.ref (spl 54 v1.1 v1.2), .ref (spl 33 0 0)] μ Q)
                exact F_188_509_ok  K v1 _ _ _  R h
      rcases bif_or h with ⟨hc, h⟩ | ⟨-, h⟩
      · refine jX.swn hc (by rfl) (by rfl) (by rfl) (?_ : jX G jP 188 518 lv [] μ Q)
        refine jX.lrn l0 (by rfl) (by rfl) (?_ : jX G jP 188 519 lv [.ref (spl 33 0 0)] μ Q)
        refine jX.lrn l1 (by rfl) (by rfl) (?_ : jX G jP 188 520 lv [.ref (spl 54 v1.1 v1.2), .ref (spl 33 0 0)] μ Q)
        refine jX.ic (v := nI 1) (n := 1) (by rfl) (by rfl) (by decide) (?_ : jX G jP 188 521 lv [.int (nI 1), .ref (spl 54 v1.1 v1.2), .ref (spl 33 0 0)] μ Q)
        obtain ⟨q50, e50, h⟩ := sbd h
        refine jX.c1 (v := .int q50.1) (by rfl) (by rfl) (by rfl) (by rfl) (by rfl) (by rfl) (by rfl) (R.rec (by rfl) (by rfl)) (Nat.le_of_ble_eq_true rfl) (Nat.le_of_ble_eq_true rfl) (F_156_ok R e50 (fun μ R => ⟨rfl, (?_ : jX G jP 188 524 lv [.int q50.1] μ Q)⟩))
        rcases bif_or h with ⟨hc, h⟩ | ⟨hc, h⟩
        · refine jX.b1t hc (by rfl) (by rfl) (by rfl) (?_ : jX G jP 188 567 lv [] μ Q)
          exact jX.ret (by rfl) (by rfl) (by rfl) (by rfl) (sretv (f := srV) h K R)
        · refine jX.b1f hc (by rfl) (by rfl) (by rfl) (?_ : jX G jP 188 527 lv [] μ Q)
          refine jX.lrn l0 (by rfl) (by rfl) (?_ : jX G jP 188 528 lv [.ref (spl 33 0 0)] μ Q)
          refine jX.lrn l1 (by rfl) (by rfl) (?_ : jX G jP 188 529 lv [.ref (spl 54 v1.1 v1.2), .ref (spl 33 0 0)] μ Q)
          refine jX.lrn l0 (by rfl) (by rfl) (?_ : jX G jP 188 530 lv [.ref (spl 33 0 0), .ref (spl 54 v1.1 v1.2), .ref (spl 33 0 0)] μ Q)
          refine jX.sg R (by rfl) (by rfl) (by rfl) (by rfl) (by rfl) (by rfl) (?_ : jX G jP 188 533 lv [.ref (spl 47 0 0), .ref (spl 54 v1.1 v1.2), .ref (spl 33 0 0)] μ Q)
          refine jX.ic (v := nI 0) (n := 1) (by rfl) (by rfl) (by decide) (?_ : jX G jP 188 534 lv [.int (nI 0), .ref (spl 47 0 0), .ref (spl 54 v1.1 v1.2), .ref (spl 33 0 0)] μ Q)
          obtain ⟨g51, h⟩ := jif_some h
          refine jX.sai R (by rfl) (by rfl) (by rfl) (by rfl) g51 (?_ : jX G jP 188 535 lv [.int (q50.2.1 47 0 0 (nI 0).toNatClampNeg), .ref (spl 54 v1.1 v1.2), .ref (spl 33 0 0)] μ Q)
          refine jX.ic (v := nI 1) (n := 1) (by rfl) (by rfl) (by decide) (?_ : jX G jP 188 536 lv [.int (nI 1), .int (q50.2.1 47 0 0 (nI 0).toNatClampNeg), .ref (spl 54 v1.1 v1.2), .ref (spl 33 0 0)] μ Q)
          rcases bif_or h with ⟨hc, h⟩ | ⟨hc, h⟩
          · refine jX.b2t hc (by rfl) (by rfl) (by rfl) (?_ : jX G jP 188 559 lv [.ref (spl 54 v1.1 v1.2), .ref (spl 33 0 0)] μ Q)
            exact F_188_559_ok  K v1 _ _ _  R h
          · refine jX.b2f hc (by rfl) (by rfl) (by rfl) (?_ : jX G jP 188 539 lv [.ref (spl 54 v1.1 v1.2), .ref (spl 33 0 0)] μ Q)
            refine jX.lrn l0 (by rfl) (by rfl) (?_ : jX G jP 188 540 lv [.ref (spl 33 0 0), .ref (spl 54 v1.1 v1.2), .ref (spl 33 0 0)] μ Q)
            refine jX.sg R (by rfl) (by rfl) (by rfl) (by rfl) (by rfl) (by rfl) (?_ : jX G jP 188 543 lv [.ref (spl 47 0 0), .ref (spl 54 v1.1 v1.2), .ref (spl 33 0 0)] μ Q)
            refine jX.ic (v := nI 0) (n := 1) (by rfl) (by rfl) (by decide) (?_ : jX G jP 188 544 lv [.int (nI 0), .ref (spl 47 0 0), .ref (spl 54 v1.1 v1.2), .ref (spl 33 0 0)] μ Q)
            obtain ⟨g52, h⟩ := jif_some h
            refine jX.sai R (by rfl) (by rfl) (by rfl) (by rfl) g52 (?_ : jX G jP 188 545 lv [.int (q50.2.1 47 0 0 (nI 0).toNatClampNeg), .ref (spl 54 v1.1 v1.2), .ref (spl 33 0 0)] μ Q)
            rcases bif_or h with ⟨hc, h⟩ | ⟨hc, h⟩
            · refine jX.b1t hc (by rfl) (by rfl) (by rfl) (?_ : jX G jP 188 563 lv [.ref (spl 54 v1.1 v1.2), .ref (spl 33 0 0)] μ Q)
              exact F_188_563_ok  K v1 _ _ _  R h
            · refine jX.b1f hc (by rfl) (by rfl) (by rfl) (?_ : jX G jP 188 548 lv [.ref (spl 54 v1.1 v1.2), .ref (spl 33 0 0)] μ Q)
              refine jX.lrn l0 (by rfl) (by rfl) (?_ : jX G jP 188 549 lv [.ref (spl 33 0 0), .ref (spl 54 v1.1 v1.2), .ref (spl 33 0 0)] μ Q)
              refine jX.sg R (by rfl) (by rfl) (by rfl) (by rfl) (by rfl) (by rfl) (?_ : jX G jP 188 552 lv [.ref (spl 48 0 0), .ref (spl 54 v1.1 v1.2), .ref (spl 33 0 0)] μ Q)
              refine jX.ic (v := nI 0) (n := 1) (by rfl) (by rfl) (by decide) (?_ : jX G jP 188 553 lv [.int (nI 0), .ref (spl 48 0 0), .ref (spl 54 v1.1 v1.2), .ref (spl 33 0 0)] μ Q)
              obtain ⟨g53, h⟩ := jif_some h
              refine jX.sal R (by rfl) (by rfl) (by rfl) (by rfl) g53 (?_ : jX G jP 188 554 lv [.long (q50.2.2.1 48 0 0 (nI 0).toNatClampNeg), .ref (spl 54 v1.1 v1.2), .ref (spl 33 0 0)] μ Q)
              refine jX.go (by rfl) (by rfl) (by rfl) (?_ : jX G jP 188 555 lv [.long 0, .long (q50.2.2.1 48 0 0 (nI 0).toNatClampNeg), .ref (spl 54 v1.1 v1.2), .ref (spl 33 0 0)] μ Q)
              refine jX.go (by rfl) (by rfl) (by rfl) (?_ : jX G jP 188 556 lv [.int (lg_cmp (q50.2.2.1 48 0 0 (nI 0).toNatClampNeg) 0), .ref (spl 54 v1.1 v1.2), .ref (spl 33 0 0)] μ Q)
              rcases bif_or h with ⟨hc, h⟩ | ⟨hc, h⟩
              · refine jX.b1t hc (by rfl) (by rfl) (by rfl) (?_ : jX G jP 188 563 lv [.ref (spl 54 v1.1 v1.2), .ref (spl 33 0 0)] μ Q)
                exact F_188_563_ok  K v1 _ _ _  R h
              · refine jX.b1f hc (by rfl) (by rfl) (by rfl) (?_ : jX G jP 188 559 lv [.ref (spl 54 v1.1 v1.2), .ref (spl 33 0 0)] μ Q)
                exact F_188_559_ok  K v1 _ _ _  R h
      rcases bif_or h with ⟨hc, h⟩ | ⟨-, h⟩
      · refine jX.swn hc (by rfl) (by rfl) (by rfl) (?_ : jX G jP 188 568 lv [] μ Q)
        refine jX.lrn l2 (by rfl) (by rfl) (?_ : jX G jP 188 569 lv [.ref (spl 56 v2.1 v2.2)] μ Q)
        refine jX.li l4 (by rfl) (by rfl) (?_ : jX G jP 188 571 lv [.int v4, .ref (spl 56 v2.1 v2.2)] μ Q)
        obtain ⟨g54, h⟩ := jif_some h
        refine jX.spI R g54 (by rfl) (by rfl) (by rfl) (by rfl) (by rfl) (by rfl) (by rfl) (by rfl) (fun μ R => (?_ : jX G jP 188 574 lv [] μ Q))
        exact jX.ret (by rfl) (by rfl) (by rfl) (by rfl) (sretv (f := srV) h K R)
      rcases bif_or h with ⟨hc, h⟩ | ⟨-, h⟩
      · refine jX.swn hc (by rfl) (by rfl) (by rfl) (?_ : jX G jP 188 575 lv [] μ Q)
        refine jX.lrn l0 (by rfl) (by rfl) (?_ : jX G jP 188 576 lv [.ref (spl 33 0 0)] μ Q)
        refine jX.lrn l1 (by rfl) (by rfl) (?_ : jX G jP 188 577 lv [.ref (spl 54 v1.1 v1.2), .ref (spl 33 0 0)] μ Q)
        refine jX.ic (v := nI 1) (n := 1) (by rfl) (by rfl) (by decide) (?_ : jX G jP 188 578 lv [.int (nI 1), .ref (spl 54 v1.1 v1.2), .ref (spl 33 0 0)] μ Q)
        obtain ⟨q55, e55, h⟩ := sbd h
        refine jX.c1 (v := .int q55.1) (by rfl) (by rfl) (by rfl) (by rfl) (by rfl) (by rfl) (by rfl) (R.rec (by rfl) (by rfl)) (Nat.le_of_ble_eq_true rfl) (Nat.le_of_ble_eq_true rfl) (F_156_ok R e55 (fun μ R => ⟨rfl, (?_ : jX G jP 188 581 lv [.int q55.1] μ Q)⟩))
        rcases bif_or h with ⟨hc, h⟩ | ⟨hc, h⟩
        · refine jX.b1t hc (by rfl) (by rfl) (by rfl) (?_ : jX G jP 188 620 lv [] μ Q)
          exact jX.ret (by rfl) (by rfl) (by rfl) (by rfl) (sretv (f := srV) h K R)
        · refine jX.b1f hc (by rfl) (by rfl) (by rfl) (?_ : jX G jP 188 584 lv [] μ Q)
          refine jX.lrn l0 (by rfl) (by rfl) (?_ : jX G jP 188 585 lv [.ref (spl 33 0 0)] μ Q)
          refine jX.sg R (by rfl) (by rfl) (by rfl) (by rfl) (by rfl) (by rfl) (?_ : jX G jP 188 588 lv [.ref (spl 47 0 0)] μ Q)
          refine jX.ic (v := nI 0) (n := 1) (by rfl) (by rfl) (by decide) (?_ : jX G jP 188 589 lv [.int (nI 0), .ref (spl 47 0 0)] μ Q)
          obtain ⟨g56, h⟩ := jif_some h
          refine jX.sai R (by rfl) (by rfl) (by rfl) (by rfl) g56 (?_ : jX G jP 188 590 lv [.int (q55.2.1 47 0 0 (nI 0).toNatClampNeg)] μ Q)
          refine jX.ic (v := nI 1) (n := 1) (by rfl) (by rfl) (by decide) (?_ : jX G jP 188 591 lv [.int (nI 1), .int (q55.2.1 47 0 0 (nI 0).toNatClampNeg)] μ Q)
          rcases bif_or h with ⟨hc, h⟩ | ⟨hc, h⟩
          · refine jX.b2t hc (by rfl) (by rfl) (by rfl) (?_ : jX G jP 188 614 lv [] μ Q)
            exact F_188_614_ok  K v2 v4 _ _ _ l2 l4 R h
          · refine jX.b2f hc (by rfl) (by rfl) (by rfl) (?_ : jX G jP 188 594 lv [] μ Q)
            refine jX.lrn l0 (by rfl) (by rfl) (?_ : jX G jP 188 595 lv [.ref (spl 33 0 0)] μ Q)
            refine jX.sg R (by rfl) (by rfl) (by rfl) (by rfl) (by rfl) (by rfl) (?_ : jX G jP 188 598 lv [.ref (spl 47 0 0)] μ Q)
            refine jX.ic (v := nI 0) (n := 1) (by rfl) (by rfl) (by decide) (?_ : jX G jP 188 599 lv [.int (nI 0), .ref (spl 47 0 0)] μ Q)
            obtain ⟨g57, h⟩ := jif_some h
            refine jX.sai R (by rfl) (by rfl) (by rfl) (by rfl) g57 (?_ : jX G jP 188 600 lv [.int (q55.2.1 47 0 0 (nI 0).toNatClampNeg)] μ Q)
            rcases bif_or h with ⟨hc, h⟩ | ⟨hc, h⟩
            · refine jX.b1t hc (by rfl) (by rfl) (by rfl) (?_ : jX G jP 188 620 lv [] μ Q)
              exact jX.ret (by rfl) (by rfl) (by rfl) (by rfl) (sretv (f := srV) h K R)
            · refine jX.b1f hc (by rfl) (by rfl) (by rfl) (?_ : jX G jP 188 603 lv [] μ Q)
              refine jX.lrn l0 (by rfl) (by rfl) (?_ : jX G jP 188 604 lv [.ref (spl 33 0 0)] μ Q)
              refine jX.sg R (by rfl) (by rfl) (by rfl) (by rfl) (by rfl) (by rfl) (?_ : jX G jP 188 607 lv [.ref (spl 48 0 0)] μ Q)
              refine jX.ic (v := nI 0) (n := 1) (by rfl) (by rfl) (by decide) (?_ : jX G jP 188 608 lv [.int (nI 0), .ref (spl 48 0 0)] μ Q)
              obtain ⟨g58, h⟩ := jif_some h
              refine jX.sal R (by rfl) (by rfl) (by rfl) (by rfl) g58 (?_ : jX G jP 188 609 lv [.long (q55.2.2.1 48 0 0 (nI 0).toNatClampNeg)] μ Q)
              refine jX.go (by rfl) (by rfl) (by rfl) (?_ : jX G jP 188 610 lv [.long 0, .long (q55.2.2.1 48 0 0 (nI 0).toNatClampNeg)] μ Q)
              refine jX.go (by rfl) (by rfl) (by rfl) (?_ : jX G jP 188 611 lv [.int (lg_cmp (q55.2.2.1 48 0 0 (nI 0).toNatClampNeg) 0)] μ Q)
              rcases bif_or h with ⟨hc, h⟩ | ⟨hc, h⟩
              · refine jX.b1t hc (by rfl) (by rfl) (by rfl) (?_ : jX G jP 188 620 lv [] μ Q)
                exact jX.ret (by rfl) (by rfl) (by rfl) (by rfl) (sretv (f := srV) h K R)
              · refine jX.b1f hc (by rfl) (by rfl) (by rfl) (?_ : jX G jP 188 614 lv [] μ Q)
                exact F_188_614_ok  K v2 v4 _ _ _ l2 l4 R h
      rcases bif_or h with ⟨hc, h⟩ | ⟨-, h⟩
      · refine jX.swn hc (by rfl) (by rfl) (by rfl) (?_ : jX G jP 188 621 lv [] μ Q)
        refine jX.lrn l0 (by rfl) (by rfl) (?_ : jX G jP 188 622 lv [.ref (spl 33 0 0)] μ Q)
        refine jX.lrn l1 (by rfl) (by rfl) (?_ : jX G jP 188 623 lv [.ref (spl 54 v1.1 v1.2), .ref (spl 33 0 0)] μ Q)
        refine jX.li l4 (by rfl) (by rfl) (?_ : jX G jP 188 625 lv [.int v4, .ref (spl 54 v1.1 v1.2), .ref (spl 33 0 0)] μ Q)
        obtain ⟨q59, e59, h⟩ := sbd h
        refine jX.cv (by rfl) (by rfl) (by rfl) (by rfl) (by rfl) (by rfl) (by rfl) (R.rec (by rfl) (by rfl)) (Nat.le_of_ble_eq_true rfl) (Nat.le_of_ble_eq_true rfl) (F_162_ok R e59 (fun μ R => ⟨rfl, (?_ : jX G jP 188 628 lv [] μ Q)⟩))
        exact jX.ret (by rfl) (by rfl) (by rfl) (by rfl) (sretv (f := srV) h K R)
      rcases bif_or h with ⟨hc, h⟩ | ⟨-, h⟩
      · refine jX.swn hc (by rfl) (by rfl) (by rfl) (?_ : jX G jP 188 629 lv [] μ Q)
        refine jX.lrn l0 (by rfl) (by rfl) (?_ : jX G jP 188 630 lv [.ref (spl 33 0 0)] μ Q)
        refine jX.lrn l1 (by rfl) (by rfl) (?_ : jX G jP 188 631 lv [.ref (spl 54 v1.1 v1.2), .ref (spl 33 0 0)] μ Q)
        refine jX.ic (v := nI 1) (n := 1) (by rfl) (by rfl) (by decide) (?_ : jX G jP 188 632 lv [.int (nI 1), .ref (spl 54 v1.1 v1.2), .ref (spl 33 0 0)] μ Q)
        obtain ⟨q60, e60, h⟩ := sbd h
        refine jX.c1 (v := .int q60.1) (by rfl) (by rfl) (by rfl) (by rfl) (by rfl) (by rfl) (by rfl) (R.rec (by rfl) (by rfl)) (Nat.le_of_ble_eq_true rfl) (Nat.le_of_ble_eq_true rfl) (F_156_ok R e60 (fun μ R => ⟨rfl, (?_ : jX G jP 188 635 lv [.int q60.1] μ Q)⟩))
        rcases bif_or h with ⟨hc, h⟩ | ⟨hc, h⟩
        · refine jX.b1t hc (by rfl) (by rfl) (by rfl) (?_ : jX G jP 188 639 lv [] μ Q)
          refine jX.lrn l2 (by rfl) (by rfl) (?_ : jX G jP 188 640 lv [.ref (spl 56 v2.1 v2.2)] μ Q)
          refine jX.ic (v := nI 1) (n := 1) (by rfl) (by rfl) (by decide) (?_ : jX G jP 188 641 lv [.int (nI 1), .ref (spl 56 v2.1 v2.2)] μ Q)
          obtain ⟨g61, h⟩ := jif_some h
          refine jX.spI R g61 (by rfl) (by rfl) (by rfl) (by rfl) (by rfl) (by rfl) (by rfl) (by rfl) (fun μ R => (?_ : jX G jP 188 644 lv [] μ Q))
          refine jX.lrn l2 (by rfl) (by rfl) (?_ : jX G jP 188 645 lv [.ref (spl 56 v2.1 v2.2)] μ Q)
          refine jX.lrn l0 (by rfl) (by rfl) (?_ : jX G jP 188 646 lv [.ref (spl 33 0 0), .ref (spl 56 v2.1 v2.2)] μ Q)
          refine jX.sg R (by rfl) (by rfl) (by rfl) (by rfl) (by rfl) (by rfl) (?_ : jX G jP 188 649 lv [.ref (spl 47 0 0), .ref (spl 56 v2.1 v2.2)] μ Q)
          refine jX.ic (v := nI 0) (n := 1) (by rfl) (by rfl) (by decide) (?_ : jX G jP 188 650 lv [.int (nI 0), .ref (spl 47 0 0), .ref (spl 56 v2.1 v2.2)] μ Q)
          obtain ⟨g62, h⟩ := jif_some h
          refine jX.sai R (by rfl) (by rfl) (by rfl) (by rfl) g62 (?_ : jX G jP 188 651 lv [.int ((siI q60.2 56 v2.1 v2.2 4 (nI 1)).1 47 0 0 (nI 0).toNatClampNeg), .ref (spl 56 v2.1 v2.2)] μ Q)
          refine jX.spI R g61 (by rfl) (by rfl) (by rfl) (by rfl) (by rfl) (by rfl) (by rfl) (by rfl) (fun μ R => (?_ : jX G jP 188 654 lv [] μ Q))
          refine jX.lrn l2 (by rfl) (by rfl) (?_ : jX G jP 188 655 lv [.ref (spl 56 v2.1 v2.2)] μ Q)
          refine jX.lrn l0 (by rfl) (by rfl) (?_ : jX G jP 188 656 lv [.ref (spl 33 0 0), .ref (spl 56 v2.1 v2.2)] μ Q)
          refine jX.sg R (by rfl) (by rfl) (by rfl) (by rfl) (by rfl) (by rfl) (?_ : jX G jP 188 659 lv [.ref (spl 48 0 0), .ref (spl 56 v2.1 v2.2)] μ Q)
          refine jX.ic (v := nI 0) (n := 1) (by rfl) (by rfl) (by decide) (?_ : jX G jP 188 660 lv [.int (nI 0), .ref (spl 48 0 0), .ref (spl 56 v2.1 v2.2)] μ Q)
          obtain ⟨g63, h⟩ := jif_some h
          refine jX.sal R (by rfl) (by rfl) (by rfl) (by rfl) g63 (?_ : jX G jP 188 661 lv [.long ((siI (siI q60.2 56 v2.1 v2.2 4 (nI 1)) 56 v2.1 v2.2 7 ((siI q60.2 56 v2.1 v2.2 4 (nI 1)).1 47 0 0 (nI 0).toNatClampNeg)).2.1 48 0 0 (nI 0).toNatClampNeg), .ref (spl 56 v2.1 v2.2)] μ Q)
          refine jX.spL R g61 (by rfl) (by rfl) (by rfl) (by rfl) (by rfl) (by rfl) (by rfl) (by rfl) (fun μ R => (?_ : jX G jP 188 664 lv [] μ Q))
          refine jX.lrn l0 (by rfl) (by rfl) (?_ : jX G jP 188 665 lv [.ref (spl 33 0 0)] μ Q)
          refine jX.lrn l1 (by rfl) (by rfl) (?_ : jX G jP 188 666 lv [.ref (spl 54 v1.1 v1.2), .ref (spl 33 0 0)] μ Q)
          obtain ⟨q64, e64, h⟩ := sbd h
          refine jX.cv (by rfl) (by rfl) (by rfl) (by rfl) (by rfl) (by rfl) (by rfl) (R.rec (by rfl) (by rfl)) (Nat.le_of_ble_eq_true rfl) (Nat.le_of_ble_eq_true rfl) (F_154_ok R e64 (fun μ R => ⟨rfl, (?_ : jX G jP 188 669 lv [] μ Q)⟩))
          exact jX.ret (by rfl) (by rfl) (by rfl) (by rfl) (sretv (f := srV) h K R)
        · refine jX.b1f hc (by rfl) (by rfl) (by rfl) (?_ : jX G jP 188 638 lv [] μ Q)
          exact jX.ret (by rfl) (by rfl) (by rfl) (by rfl) (sretv (f := srV) h K R)
      rcases bif_or h with ⟨hc, h⟩ | ⟨-, h⟩
      · refine jX.swn hc (by rfl) (by rfl) (by rfl) (?_ : jX G jP 188 670 lv [] μ Q)
        refine jX.lrn l0 (by rfl) (by rfl) (?_ : jX G jP 188 671 lv [.ref (spl 33 0 0)] μ Q)
        refine jX.lrn l1 (by rfl) (by rfl) (?_ : jX G jP 188 672 lv [.ref (spl 54 v1.1 v1.2), .ref (spl 33 0 0)] μ Q)
        refine jX.li l4 (by rfl) (by rfl) (?_ : jX G jP 188 674 lv [.int v4, .ref (spl 54 v1.1 v1.2), .ref (spl 33 0 0)] μ Q)
        obtain ⟨q65, e65, h⟩ := sbd h
        refine jX.cv (by rfl) (by rfl) (by rfl) (by rfl) (by rfl) (by rfl) (by rfl) (R.rec (by rfl) (by rfl)) (Nat.le_of_ble_eq_true rfl) (Nat.le_of_ble_eq_true rfl) (F_164_ok R e65 (fun μ R => ⟨rfl, (?_ : jX G jP 188 677 lv [] μ Q)⟩))
        exact jX.ret (by rfl) (by rfl) (by rfl) (by rfl) (sretv (f := srV) h K R)
      rcases bif_or h with ⟨hc, h⟩ | ⟨-, h⟩
      · refine jX.swn hc (by rfl) (by rfl) (by rfl) (?_ : jX G jP 188 678 lv [] μ Q)
        exact F_188_678_ok  K v1 v3 v4 _ _ _ l0 l1 l3 l4 R h
      rcases bif_or h with ⟨hc, h⟩ | ⟨-, h⟩
      · refine jX.swn hc (by rfl) (by rfl) (by rfl) (?_ : jX G jP 188 697 lv [] μ Q)
        refine jX.lrn l0 (by rfl) (by rfl) (?_ : jX G jP 188 698 lv [.ref (spl 33 0 0)] μ Q)
        refine jX.lrn l1 (by rfl) (by rfl) (?_ : jX G jP 188 699 lv [.ref (spl 54 v1.1 v1.2), .ref (spl 33 0 0)] μ Q)
        refine jX.ic (v := nI 1) (n := 1) (by rfl) (by rfl) (by decide) (?_ : jX G jP 188 700 lv [.int (nI 1), .ref (spl 54 v1.1 v1.2), .ref (spl 33 0 0)] μ Q)
        obtain ⟨q66, e66, h⟩ := sbd h
        refine jX.c1 (v := .int q66.1) (by rfl) (by rfl) (by rfl) (by rfl) (by rfl) (by rfl) (by rfl) (R.rec (by rfl) (by rfl)) (Nat.le_of_ble_eq_true rfl) (Nat.le_of_ble_eq_true rfl) (F_156_ok R e66 (fun μ R => ⟨rfl, (?_ : jX G jP 188 703 lv [.int q66.1] μ Q)⟩))
        rcases bif_or h with ⟨hc, h⟩ | ⟨hc, h⟩
        · refine jX.b1t hc (by rfl) (by rfl) (by rfl) (?_ : jX G jP 188 715 lv [] μ Q)
          exact jX.ret (by rfl) (by rfl) (by rfl) (by rfl) (sretv (f := srV) h K R)
        · refine jX.b1f hc (by rfl) (by rfl) (by rfl) (?_ : jX G jP 188 706 lv [] μ Q)
          refine jX.lrn l0 (by rfl) (by rfl) (?_ : jX G jP 188 707 lv [.ref (spl 33 0 0)] μ Q)
          refine jX.lrn l1 (by rfl) (by rfl) (?_ : jX G jP 188 708 lv [.ref (spl 54 v1.1 v1.2), .ref (spl 33 0 0)] μ Q)
          refine jX.ic (v := nI 0) (n := 1) (by rfl) (by rfl) (by decide) (?_ : jX G jP 188 709 lv [.int (nI 0), .ref (spl 54 v1.1 v1.2), .ref (spl 33 0 0)] μ Q)
          refine jX.li l4 (by rfl) (by rfl) (?_ : jX G jP 188 711 lv [.int v4, .int (nI 0), .ref (spl 54 v1.1 v1.2), .ref (spl 33 0 0)] μ Q)
          refine jX.go (by rfl) (by rfl) (by rfl) (?_ : jX G jP 188 712 lv [.long v4.toInt64, .int (nI 0), .ref (spl 54 v1.1 v1.2), .ref (spl 33 0 0)] μ Q)
          obtain ⟨q67, e67, h⟩ := sbd h
          refine jX.cv (by rfl) (by rfl) (by rfl) (by rfl) (by rfl) (by rfl) (by rfl) (R.rec (by rfl) (by rfl)) (Nat.le_of_ble_eq_true rfl) (Nat.le_of_ble_eq_true rfl) (F_171_ok R e67 (fun μ R => ⟨rfl, (?_ : jX G jP 188 715 lv [] μ Q)⟩))
          exact jX.ret (by rfl) (by rfl) (by rfl) (by rfl) (sretv (f := srV) h K R)
      rcases bif_or h with ⟨hc, h⟩ | ⟨-, h⟩
      · refine jX.swn hc (by rfl) (by rfl) (by rfl) (?_ : jX G jP 188 716 lv [] μ Q)
        refine jX.lrn l0 (by rfl) (by rfl) (?_ : jX G jP 188 717 lv [.ref (spl 33 0 0)] μ Q)
        refine jX.lrn l1 (by rfl) (by rfl) (?_ : jX G jP 188 718 lv [.ref (spl 54 v1.1 v1.2), .ref (spl 33 0 0)] μ Q)
        refine jX.ic (v := nI 2) (n := 1) (by rfl) (by rfl) (by decide) (?_ : jX G jP 188 719 lv [.int (nI 2), .ref (spl 54 v1.1 v1.2), .ref (spl 33 0 0)] μ Q)
        obtain ⟨q68, e68, h⟩ := sbd h
        refine jX.c1 (v := .int q68.1) (by rfl) (by rfl) (by rfl) (by rfl) (by rfl) (by rfl) (by rfl) (R.rec (by rfl) (by rfl)) (Nat.le_of_ble_eq_true rfl) (Nat.le_of_ble_eq_true rfl) (F_156_ok R e68 (fun μ R => ⟨rfl, (?_ : jX G jP 188 722 lv [.int q68.1] μ Q)⟩))
        rcases bif_or h with ⟨hc, h⟩ | ⟨hc, h⟩
        · refine jX.b1t hc (by rfl) (by rfl) (by rfl) (?_ : jX G jP 188 734 lv [] μ Q)
          exact jX.ret (by rfl) (by rfl) (by rfl) (by rfl) (sretv (f := srV) h K R)
        · refine jX.b1f hc (by rfl) (by rfl) (by rfl) (?_ : jX G jP 188 725 lv [] μ Q)
          refine jX.lrn l0 (by rfl) (by rfl) (?_ : jX G jP 188 726 lv [.ref (spl 33 0 0)] μ Q)
          refine jX.lrn l1 (by rfl) (by rfl) (?_ : jX G jP 188 727 lv [.ref (spl 54 v1.1 v1.2), .ref (spl 33 0 0)] μ Q)
          refine jX.ic (v := nI 1) (n := 1) (by rfl) (by rfl) (by decide) (?_ : jX G jP 188 728 lv [.int (nI 1), .ref (spl 54 v1.1 v1.2), .ref (spl 33 0 0)] μ Q)
          refine jX.li l4 (by rfl) (by rfl) (?_ : jX G jP 188 730 lv [.int v4, .int (nI 1), .ref (spl 54 v1.1 v1.2), .ref (spl 33 0 0)] μ Q)
          refine jX.go (by rfl) (by rfl) (by rfl) (?_ : jX G jP 188 731 lv [.long v4.toInt64, .int (nI 1), .ref (spl 54 v1.1 v1.2), .ref (spl 33 0 0)] μ Q)
          obtain ⟨q69, e69, h⟩ := sbd h
          refine jX.cv (by rfl) (by rfl) (by rfl) (by rfl) (by rfl) (by rfl) (by rfl) (R.rec (by rfl) (by rfl)) (Nat.le_of_ble_eq_true rfl) (Nat.le_of_ble_eq_true rfl) (F_172_ok R e69 (fun μ R => ⟨rfl, (?_ : jX G jP 188 734 lv [] μ Q)⟩))
          exact jX.ret (by rfl) (by rfl) (by rfl) (by rfl) (sretv (f := srV) h K R)
      rcases bif_or h with ⟨hc, h⟩ | ⟨-, h⟩
      · refine jX.swn hc (by rfl) (by rfl) (by rfl) (?_ : jX G jP 188 735 lv [] μ Q)
        refine jX.lrn l0 (by rfl) (by rfl) (?_ : jX G jP 188 736 lv [.ref (spl 33 0 0)] μ Q)
        refine jX.lrn l1 (by rfl) (by rfl) (?_ : jX G jP 188 737 lv [.ref (spl 54 v1.1 v1.2), .ref (spl 33 0 0)] μ Q)
        refine jX.ic (v := nI 2) (n := 1) (by rfl) (by rfl) (by decide) (?_ : jX G jP 188 738 lv [.int (nI 2), .ref (spl 54 v1.1 v1.2), .ref (spl 33 0 0)] μ Q)
        obtain ⟨q70, e70, h⟩ := sbd h
        refine jX.c1 (v := .int q70.1) (by rfl) (by rfl) (by rfl) (by rfl) (by rfl) (by rfl) (by rfl) (R.rec (by rfl) (by rfl)) (Nat.le_of_ble_eq_true rfl) (Nat.le_of_ble_eq_true rfl) (F_156_ok R e70 (fun μ R => ⟨rfl, (?_ : jX G jP 188 741 lv [.int q70.1] μ Q)⟩))
        rcases bif_or h with ⟨hc, h⟩ | ⟨hc, h⟩
        · refine jX.b1t hc (by rfl) (by rfl) (by rfl) (?_ : jX G jP 188 778 lv [] μ Q)
          exact jX.ret (by rfl) (by rfl) (by rfl) (by rfl) (sretv (f := srV) h K R)
        · refine jX.b1f hc (by rfl) (by rfl) (by rfl) (?_ : jX G jP 188 744 lv [] μ Q)
          refine jX.lrn l0 (by rfl) (by rfl) (?_ : jX G jP 188 745 lv [.ref (spl 33 0 0)] μ Q)
          refine jX.lrn l1 (by rfl) (by rfl) (?_ : jX G jP 188 746 lv [.ref (spl 54 v1.1 v1.2), .ref (spl 33 0 0)] μ Q)
          refine jX.lrn l0 (by rfl) (by rfl) (?_ : jX G jP 188 747 lv [.ref (spl 33 0 0), .ref (spl 54 v1.1 v1.2), .ref (spl 33 0 0)] μ Q)
          refine jX.sg R (by rfl) (by rfl) (by rfl) (by rfl) (by rfl) (by rfl) (?_ : jX G jP 188 750 lv [.ref (spl 47 0 0), .ref (spl 54 v1.1 v1.2), .ref (spl 33 0 0)] μ Q)
          refine jX.ic (v := nI 0) (n := 1) (by rfl) (by rfl) (by decide) (?_ : jX G jP 188 751 lv [.int (nI 0), .ref (spl 47 0 0), .ref (spl 54 v1.1 v1.2), .ref (spl 33 0 0)] μ Q)
          obtain ⟨g71, h⟩ := jif_some h
          refine jX.sai R (by rfl) (by rfl) (by rfl) (by rfl) g71 (?_ : jX G jP 188 752 lv [.int (q70.2.1 47 0 0 (nI 0).toNatClampNeg), .ref (spl 54 v1.1 v1.2), .ref (spl 33 0 0)] μ Q)
          rcases bif_or h with ⟨hc, h⟩ | ⟨hc, h⟩
          · refine jX.b1t hc (by rfl) (by rfl) (by rfl) (?_ : jX G jP 188 759 lv [.ref (spl 54 v1.1 v1.2), .ref (spl 33 0 0)] μ Q)
            refine jX.ic (v := nI 0) (n := 1) (by rfl) (by rfl) (by decide) (?_ : jX G jP 188 760 lv [.int (nI 0), .ref (spl 54 v1.1 v1.2), .ref (spl 33 0 0)] μ Q)
            exact F_188_760_ok  K v1 (nI 0) v1 _ _ _ l0 l1 R h
          · refine jX.b1f hc (by rfl) (by rfl) (by rfl) (?_ : jX G jP 188 755 lv [.ref (spl 54 v1.1 v1.2), .ref (spl 33 0 0)] μ Q)
            refine jX.ic (v := nI 1) (n := 1) (by rfl) (by rfl) (by decide) (?_ : jX G jP 188 756 lv [.int (nI 1), .ref (spl 54 v1.1 v1.2), .ref (spl 33 0 0)] μ Q)
            refine jX.go (by rfl) (by rfl) (by rfl) (?_ : jX G jP 188 760 lv [.int (nI 1), .ref (spl 54 v1.1 v1.2), .ref (spl 33 0 0)] μ Q)
            exact F_188_760_ok  K v1 (nI 1) v1 _ _ _ l0 l1 R h
      rcases bif_or h with ⟨hc, h⟩ | ⟨-, h⟩
      · refine jX.swn hc (by rfl) (by rfl) (by rfl) (?_ : jX G jP 188 779 lv [] μ Q)
        refine jX.lrn l0 (by rfl) (by rfl) (?_ : jX G jP 188 780 lv [.ref (spl 33 0 0)] μ Q)
        refine jX.lrn l1 (by rfl) (by rfl) (?_ : jX G jP 188 781 lv [.ref (spl 54 v1.1 v1.2), .ref (spl 33 0 0)] μ Q)
        refine jX.ic (v := nI 3) (n := 1) (by rfl) (by rfl) (by decide) (?_ : jX G jP 188 782 lv [.int (nI 3), .ref (spl 54 v1.1 v1.2), .ref (spl 33 0 0)] μ Q)
        obtain ⟨q72, e72, h⟩ := sbd h
        refine jX.c1 (v := .int q72.1) (by rfl) (by rfl) (by rfl) (by rfl) (by rfl) (by rfl) (by rfl) (R.rec (by rfl) (by rfl)) (Nat.le_of_ble_eq_true rfl) (Nat.le_of_ble_eq_true rfl) (F_156_ok R e72 (fun μ R => ⟨rfl, (?_ : jX G jP 188 785 lv [.int q72.1] μ Q)⟩))
        rcases bif_or h with ⟨hc, h⟩ | ⟨hc, h⟩
        · refine jX.b1t hc (by rfl) (by rfl) (by rfl) (?_ : jX G jP 188 822 lv [] μ Q)
          exact jX.ret (by rfl) (by rfl) (by rfl) (by rfl) (sretv (f := srV) h K R)
        · refine jX.b1f hc (by rfl) (by rfl) (by rfl) (?_ : jX G jP 188 788 lv [] μ Q)
          refine jX.lrn l0 (by rfl) (by rfl) (?_ : jX G jP 188 789 lv [.ref (spl 33 0 0)] μ Q)
          refine jX.lrn l1 (by rfl) (by rfl) (?_ : jX G jP 188 790 lv [.ref (spl 54 v1.1 v1.2), .ref (spl 33 0 0)] μ Q)
          refine jX.lrn l0 (by rfl) (by rfl) (?_ : jX G jP 188 791 lv [.ref (spl 33 0 0), .ref (spl 54 v1.1 v1.2), .ref (spl 33 0 0)] μ Q)
          refine jX.sg R (by rfl) (by rfl) (by rfl) (by rfl) (by rfl) (by rfl) (?_ : jX G jP 188 794 lv [.ref (spl 47 0 0), .ref (spl 54 v1.1 v1.2), .ref (spl 33 0 0)] μ Q)
          refine jX.ic (v := nI 1) (n := 1) (by rfl) (by rfl) (by decide) (?_ : jX G jP 188 795 lv [.int (nI 1), .ref (spl 47 0 0), .ref (spl 54 v1.1 v1.2), .ref (spl 33 0 0)] μ Q)
          obtain ⟨g73, h⟩ := jif_some h
          refine jX.sai R (by rfl) (by rfl) (by rfl) (by rfl) g73 (?_ : jX G jP 188 796 lv [.int (q72.2.1 47 0 0 (nI 1).toNatClampNeg), .ref (spl 54 v1.1 v1.2), .ref (spl 33 0 0)] μ Q)
          rcases bif_or h with ⟨hc, h⟩ | ⟨hc, h⟩
          · refine jX.b1t hc (by rfl) (by rfl) (by rfl) (?_ : jX G jP 188 803 lv [.ref (spl 54 v1.1 v1.2), .ref (spl 33 0 0)] μ Q)
            refine jX.ic (v := nI 0) (n := 1) (by rfl) (by rfl) (by decide) (?_ : jX G jP 188 804 lv [.int (nI 0), .ref (spl 54 v1.1 v1.2), .ref (spl 33 0 0)] μ Q)
            exact F_188_804_ok  K v1 (nI 0) v1 _ _ _ l0 l1 R h
          · refine jX.b1f hc (by rfl) (by rfl) (by rfl) (?_ : jX G jP 188 799 lv [.ref (spl 54 v1.1 v1.2), .ref (spl 33 0 0)] μ Q)
            refine jX.ic (v := nI 1) (n := 1) (by rfl) (by rfl) (by decide) (?_ : jX G jP 188 800 lv [.int (nI 1), .ref (spl 54 v1.1 v1.2), .ref (spl 33 0 0)] μ Q)
            refine jX.go (by rfl) (by rfl) (by rfl) (?_ : jX G jP 188 804 lv [.int (nI 1), .ref (spl 54 v1.1 v1.2), .ref (spl 33 0 0)] μ Q)
            exact F_188_804_ok  K v1 (nI 1) v1 _ _ _ l0 l1 R h
      rcases bif_or h with ⟨hc, h⟩ | ⟨-, h⟩
      · refine jX.swn hc (by rfl) (by rfl) (by rfl) (?_ : jX G jP 188 823 lv [] μ Q)
        refine jX.lrn l0 (by rfl) (by rfl) (?_ : jX G jP 188 824 lv [.ref (spl 33 0 0)] μ Q)
        refine jX.lrn l1 (by rfl) (by rfl) (?_ : jX G jP 188 825 lv [.ref (spl 54 v1.1 v1.2), .ref (spl 33 0 0)] μ Q)
        refine jX.ic (v := nI 1) (n := 1) (by rfl) (by rfl) (by decide) (?_ : jX G jP 188 826 lv [.int (nI 1), .ref (spl 54 v1.1 v1.2), .ref (spl 33 0 0)] μ Q)
        obtain ⟨q74, e74, h⟩ := sbd h
        refine jX.c1 (v := .int q74.1) (by rfl) (by rfl) (by rfl) (by rfl) (by rfl) (by rfl) (by rfl) (R.rec (by rfl) (by rfl)) (Nat.le_of_ble_eq_true rfl) (Nat.le_of_ble_eq_true rfl) (F_156_ok R e74 (fun μ R => ⟨rfl, (?_ : jX G jP 188 829 lv [.int q74.1] μ Q)⟩))
        rcases bif_or h with ⟨hc, h⟩ | ⟨hc, h⟩
        · refine jX.b1t hc (by rfl) (by rfl) (by rfl) (?_ : jX G jP 188 855 lv [] μ Q)
          exact jX.ret (by rfl) (by rfl) (by rfl) (by rfl) (sretv (f := srV) h K R)
        · refine jX.b1f hc (by rfl) (by rfl) (by rfl) (?_ : jX G jP 188 832 lv [] μ Q)
          refine jX.lrn l0 (by rfl) (by rfl) (?_ : jX G jP 188 833 lv [.ref (spl 33 0 0)] μ Q)
          refine jX.lrn l1 (by rfl) (by rfl) (?_ : jX G jP 188 834 lv [.ref (spl 54 v1.1 v1.2), .ref (spl 33 0 0)] μ Q)
          refine jX.lrn l0 (by rfl) (by rfl) (?_ : jX G jP 188 835 lv [.ref (spl 33 0 0), .ref (spl 54 v1.1 v1.2), .ref (spl 33 0 0)] μ Q)
          refine jX.sg R (by rfl) (by rfl) (by rfl) (by rfl) (by rfl) (by rfl) (?_ : jX G jP 188 838 lv [.ref (spl 47 0 0), .ref (spl 54 v1.1 v1.2), .ref (spl 33 0 0)] μ Q)
          refine jX.ic (v := nI 0) (n := 1) (by rfl) (by rfl) (by decide) (?_ : jX G jP 188 839 lv [.int (nI 0), .ref (spl 47 0 0), .ref (spl 54 v1.1 v1.2), .ref (spl 33 0 0)] μ Q)
          obtain ⟨g75, h⟩ := jif_some h
          refine jX.sai R (by rfl) (by rfl) (by rfl) (by rfl) g75 (?_ : jX G jP 188 840 lv [.int (q74.2.1 47 0 0 (nI 0).toNatClampNeg), .ref (spl 54 v1.1 v1.2), .ref (spl 33 0 0)] μ Q)
          refine jX.ic (v := nI 2) (n := 1) (by rfl) (by rfl) (by decide) (?_ : jX G jP 188 841 lv [.int (nI 2), .int (q74.2.1 47 0 0 (nI 0).toNatClampNeg), .ref (spl 54 v1.1 v1.2), .ref (spl 33 0 0)] μ Q)
          rcases bif_or h with ⟨hc, h⟩ | ⟨hc, h⟩
          · refine jX.b2t hc (by rfl) (by rfl) (by rfl) (?_ : jX G jP 188 848 lv [.ref (spl 54 v1.1 v1.2), .ref (spl 33 0 0)] μ Q)
            refine jX.ic (v := nI 0) (n := 1) (by rfl) (by rfl) (by decide) (?_ : jX G jP 188 849 lv [.int (nI 0), .ref (spl 54 v1.1 v1.2), .ref (spl 33 0 0)] μ Q)
            exact F_188_849_ok  K v1 (nI 0) v1 _ _ _ l0 l1 R h
          · refine jX.b2f hc (by rfl) (by rfl) (by rfl) (?_ : jX G jP 188 844 lv [.ref (spl 54 v1.1 v1.2), .ref (spl 33 0 0)] μ Q)
            refine jX.ic (v := nI 1) (n := 1) (by rfl) (by rfl) (by decide) (?_ : jX G jP 188 845 lv [.int (nI 1), .ref (spl 54 v1.1 v1.2), .ref (spl 33 0 0)] μ Q)
            refine jX.go (by rfl) (by rfl) (by rfl) (?_ : jX G jP 188 849 lv [.int (nI 1), .ref (spl 54 v1.1 v1.2), .ref (spl 33 0 0)] μ Q)
            exact F_188_849_ok  K v1 (nI 1) v1 _ _ _ l0 l1 R h
      rcases bif_or h with ⟨hc, h⟩ | ⟨-, h⟩
      · refine jX.swn hc (by rfl) (by rfl) (by rfl) (?_ : jX G jP 188 678 lv [] μ Q)
        exact F_188_678_ok  K v1 v3 v4 _ _ _ l0 l1 l3 l4 R h
      rcases bif_or h with ⟨hc, h⟩ | ⟨-, h⟩
      · refine jX.swn hc (by rfl) (by rfl) (by rfl) (?_ : jX G jP 188 918 lv [] μ Q)
        refine jX.lrn l0 (by rfl) (by rfl) (?_ : jX G jP 188 919 lv [.ref (spl 33 0 0)] μ Q)
        refine jX.lrn l1 (by rfl) (by rfl) (?_ : jX G jP 188 920 lv [.ref (spl 54 v1.1 v1.2), .ref (spl 33 0 0)] μ Q)
        obtain ⟨q76, e76, h⟩ := sbd h
        refine jX.cv (by rfl) (by rfl) (by rfl) (by rfl) (by rfl) (by rfl) (by rfl) (R.rec (by rfl) (by rfl)) (Nat.le_of_ble_eq_true rfl) (Nat.le_of_ble_eq_true rfl) (F_181_ok R e76 (fun μ R => ⟨rfl, (?_ : jX G jP 188 923 lv [] μ Q)⟩))
        exact jX.ret (by rfl) (by rfl) (by rfl) (by rfl) (sretv (f := srV) h K R)
      rcases bif_or h with ⟨hc, h⟩ | ⟨-, h⟩
      · refine jX.swn hc (by rfl) (by rfl) (by rfl) (?_ : jX G jP 188 924 lv [] μ Q)
        refine jX.lrn l0 (by rfl) (by rfl) (?_ : jX G jP 188 925 lv [.ref (spl 33 0 0)] μ Q)
        refine jX.lrn l1 (by rfl) (by rfl) (?_ : jX G jP 188 926 lv [.ref (spl 54 v1.1 v1.2), .ref (spl 33 0 0)] μ Q)
        obtain ⟨q77, e77, h⟩ := sbd h
        refine jX.cv (by rfl) (by rfl) (by rfl) (by rfl) (by rfl) (by rfl) (by rfl) (R.rec (by rfl) (by rfl)) (Nat.le_of_ble_eq_true rfl) (Nat.le_of_ble_eq_true rfl) (F_184_ok R e77 (fun μ R => ⟨rfl, (?_ : jX G jP 188 929 lv [] μ Q)⟩))
        exact jX.ret (by rfl) (by rfl) (by rfl) (by rfl) (sretv (f := srV) h K R)
      rcases bif_or h with ⟨hc, h⟩ | ⟨-, h⟩
      · refine jX.swn hc (by rfl) (by rfl) (by rfl) (?_ : jX G jP 188 930 lv [] μ Q)
        refine jX.lrn l0 (by rfl) (by rfl) (?_ : jX G jP 188 931 lv [.ref (spl 33 0 0)] μ Q)
        refine jX.lrn l1 (by rfl) (by rfl) (?_ : jX G jP 188 932 lv [.ref (spl 54 v1.1 v1.2), .ref (spl 33 0 0)] μ Q)
        obtain ⟨q78, e78, h⟩ := sbd h
        refine jX.cv (by rfl) (by rfl) (by rfl) (by rfl) (by rfl) (by rfl) (by rfl) (R.rec (by rfl) (by rfl)) (Nat.le_of_ble_eq_true rfl) (Nat.le_of_ble_eq_true rfl) (F_185_ok R e78 (fun μ R => ⟨rfl, (?_ : jX G jP 188 935 lv [] μ Q)⟩))
        exact jX.ret (by rfl) (by rfl) (by rfl) (by rfl) (sretv (f := srV) h K R)
      rcases bif_or h with ⟨hc, h⟩ | ⟨-, h⟩
      · refine jX.swn hc (by rfl) (by rfl) (by rfl) (?_ : jX G jP 188 936 lv [] μ Q)
        refine jX.lrn l0 (by rfl) (by rfl) (?_ : jX G jP 188 937 lv [.ref (spl 33 0 0)] μ Q)
        refine jX.lrn l1 (by rfl) (by rfl) (?_ : jX G jP 188 938 lv [.ref (spl 54 v1.1 v1.2), .ref (spl 33 0 0)] μ Q)
        refine jX.li l4 (by rfl) (by rfl) (?_ : jX G jP 188 940 lv [.int v4, .ref (spl 54 v1.1 v1.2), .ref (spl 33 0 0)] μ Q)
        obtain ⟨q79, e79, h⟩ := sbd h
        refine jX.cv (by rfl) (by rfl) (by rfl) (by rfl) (by rfl) (by rfl) (by rfl) (R.rec (by rfl) (by rfl)) (Nat.le_of_ble_eq_true rfl) (Nat.le_of_ble_eq_true rfl) (F_186_ok R e79 (fun μ R => ⟨rfl, (?_ : jX G jP 188 943 lv [] μ Q)⟩))
        exact jX.ret (by rfl) (by rfl) (by rfl) (by rfl) (sretv (f := srV) h K R)
      rcases bif_or h with ⟨hc, h⟩ | ⟨-, h⟩
      · refine jX.swn hc (by rfl) (by rfl) (by rfl) (?_ : jX G jP 188 944 lv [] μ Q)
        refine jX.lrn l0 (by rfl) (by rfl) (?_ : jX G jP 188 945 lv [.ref (spl 33 0 0)] μ Q)
        refine jX.ic (v := nI 1) (n := 1) (by rfl) (by rfl) (by decide) (?_ : jX G jP 188 946 lv [.int (nI 1), .ref (spl 33 0 0)] μ Q)
        refine jX.spI R (by rfl) (by rfl) (by rfl) (by rfl) (by rfl) (by rfl) (by rfl) (by rfl) (by rfl) (fun μ R => (?_ : jX G jP 188 949 lv [] μ Q))
        exact jX.ret (by rfl) (by rfl) (by rfl) (by rfl) (sretv (f := srV) h K R)
      rcases bif_or h with ⟨hc, h⟩ | ⟨-, h⟩
      · refine jX.swn hc (by rfl) (by rfl) (by rfl) (?_ : jX G jP 188 950 lv [] μ Q)
        refine jX.lrn l0 (by rfl) (by rfl) (?_ : jX G jP 188 951 lv [.ref (spl 33 0 0)] μ Q)
        refine jX.lrn l1 (by rfl) (by rfl) (?_ : jX G jP 188 952 lv [.ref (spl 54 v1.1 v1.2), .ref (spl 33 0 0)] μ Q)
        refine jX.ic (v := nI 1) (n := 1) (by rfl) (by rfl) (by decide) (?_ : jX G jP 188 953 lv [.int (nI 1), .ref (spl 54 v1.1 v1.2), .ref (spl 33 0 0)] μ Q)
        obtain ⟨q80, e80, h⟩ := sbd h
        refine jX.c1 (v := .int q80.1) (by rfl) (by rfl) (by rfl) (by rfl) (by rfl) (by rfl) (by rfl) (R.rec (by rfl) (by rfl)) (Nat.le_of_ble_eq_true rfl) (Nat.le_of_ble_eq_true rfl) (F_156_ok R e80 (fun μ R => ⟨rfl, (?_ : jX G jP 188 956 lv [.int q80.1] μ Q)⟩))
        rcases bif_or h with ⟨hc, h⟩ | ⟨hc, h⟩
        · refine jX.b1t hc (by rfl) (by rfl) (by rfl) (?_ : jX G jP 188 981 lv [] μ Q)
          exact jX.ret (by rfl) (by rfl) (by rfl) (by rfl) (sretv (f := srV) h K R)
        · refine jX.b1f hc (by rfl) (by rfl) (by rfl) (?_ : jX G jP 188 959 lv [] μ Q)
          refine jX.lrn l0 (by rfl) (by rfl) (?_ : jX G jP 188 960 lv [.ref (spl 33 0 0)] μ Q)
          refine jX.lrn l1 (by rfl) (by rfl) (?_ : jX G jP 188 961 lv [.ref (spl 54 v1.1 v1.2), .ref (spl 33 0 0)] μ Q)
          refine jX.lrn l0 (by rfl) (by rfl) (?_ : jX G jP 188 962 lv [.ref (spl 33 0 0), .ref (spl 54 v1.1 v1.2), .ref (spl 33 0 0)] μ Q)
          refine jX.sg R (by rfl) (by rfl) (by rfl) (by rfl) (by rfl) (by rfl) (?_ : jX G jP 188 965 lv [.ref (spl 47 0 0), .ref (spl 54 v1.1 v1.2), .ref (spl 33 0 0)] μ Q)
          refine jX.ic (v := nI 0) (n := 1) (by rfl) (by rfl) (by decide) (?_ : jX G jP 188 966 lv [.int (nI 0), .ref (spl 47 0 0), .ref (spl 54 v1.1 v1.2), .ref (spl 33 0 0)] μ Q)
          obtain ⟨g81, h⟩ := jif_some h
          refine jX.sai R (by rfl) (by rfl) (by rfl) (by rfl) g81 (?_ : jX G jP 188 967 lv [.int (q80.2.1 47 0 0 (nI 0).toNatClampNeg), .ref (spl 54 v1.1 v1.2), .ref (spl 33 0 0)] μ Q)
          rcases bif_or h with ⟨hc, h⟩ | ⟨hc, h⟩
          · refine jX.b1t hc (by rfl) (by rfl) (by rfl) (?_ : jX G jP 188 974 lv [.ref (spl 54 v1.1 v1.2), .ref (spl 33 0 0)] μ Q)
            refine jX.ic (v := nI 0) (n := 1) (by rfl) (by rfl) (by decide) (?_ : jX G jP 188 975 lv [.int (nI 0), .ref (spl 54 v1.1 v1.2), .ref (spl 33 0 0)] μ Q)
            exact F_188_975_ok  K (nI 0) v1 _ _ _ l0 R h
          · refine jX.b1f hc (by rfl) (by rfl) (by rfl) (?_ : jX G jP 188 970 lv [.ref (spl 54 v1.1 v1.2), .ref (spl 33 0 0)] μ Q)
            refine jX.ic (v := nI 1) (n := 1) (by rfl) (by rfl) (by decide) (?_ : jX G jP 188 971 lv [.int (nI 1), .ref (spl 54 v1.1 v1.2), .ref (spl 33 0 0)] μ Q)
            refine jX.go (by rfl) (by rfl) (by rfl) (?_ : jX G jP 188 975 lv [.int (nI 1), .ref (spl 54 v1.1 v1.2), .ref (spl 33 0 0)] μ Q)
            exact F_188_975_ok  K (nI 1) v1 _ _ _ l0 R h
      rcases bif_or h with ⟨hc, h⟩ | ⟨-, h⟩
      · refine jX.swn hc (by rfl) (by rfl) (by rfl) (?_ : jX G jP 188 1015 lv [] μ Q)
        refine jX.lrn l0 (by rfl) (by rfl) (?_ : jX G jP 188 1016 lv [.ref (spl 33 0 0)] μ Q)
        refine jX.lrn l1 (by rfl) (by rfl) (?_ : jX G jP 188 1017 lv [.ref (spl 54 v1.1 v1.2), .ref (spl 33 0 0)] μ Q)
        refine jX.ic (v := nI 1) (n := 1) (by rfl) (by rfl) (by decide) (?_ : jX G jP 188 1018 lv [.int (nI 1), .ref (spl 54 v1.1 v1.2), .ref (spl 33 0 0)] μ Q)
        obtain ⟨q82, e82, h⟩ := sbd h
        refine jX.c1 (v := .int q82.1) (by rfl) (by rfl) (by rfl) (by rfl) (by rfl) (by rfl) (by rfl) (R.rec (by rfl) (by rfl)) (Nat.le_of_ble_eq_true rfl) (Nat.le_of_ble_eq_true rfl) (F_156_ok R e82 (fun μ R => ⟨rfl, (?_ : jX G jP 188 1021 lv [.int q82.1] μ Q)⟩))
        rcases bif_or h with ⟨hc, h⟩ | ⟨hc, h⟩
        · refine jX.b1t hc (by rfl) (by rfl) (by rfl) (?_ : jX G jP 188 1025 lv [] μ Q)
          refine jX.lrn l2 (by rfl) (by rfl) (?_ : jX G jP 188 1026 lv [.ref (spl 56 v2.1 v2.2)] μ Q)
          obtain ⟨g83, h⟩ := jif_some h
          refine jX.sg R g83 (by rfl) (by rfl) (by rfl) (by rfl) (by rfl) (?_ : jX G jP 188 1029 lv [.int (q82.2.1 56 v2.1 v2.2 3)] μ Q)
          refine jX.ic (v := nI 6) (n := 2) (by rfl) (by rfl) (by decide) (?_ : jX G jP 188 1031 lv [.int (nI 6), .int (q82.2.1 56 v2.1 v2.2 3)] μ Q)
          rcases bif_or h with ⟨hc, h⟩ | ⟨hc, h⟩
          · refine jX.b2t hc (by rfl) (by rfl) (by rfl) (?_ : jX G jP 188 1043 lv [] μ Q)
            refine jX.lrn l2 (by rfl) (by rfl) (?_ : jX G jP 188 1044 lv [.ref (spl 56 v2.1 v2.2)] μ Q)
            refine jX.sg R g83 (by rfl) (by rfl) (by rfl) (by rfl) (by rfl) (?_ : jX G jP 188 1047 lv [.ref (spl 60 v2.1 v2.2)] μ Q)
            refine jX.lrn l2 (by rfl) (by rfl) (?_ : jX G jP 188 1048 lv [.ref (spl 56 v2.1 v2.2), .ref (spl 60 v2.1 v2.2)] μ Q)
            refine jX.sg R g83 (by rfl) (by rfl) (by rfl) (by rfl) (by rfl) (?_ : jX G jP 188 1051 lv [.int (q82.2.1 56 v2.1 v2.2 3), .ref (spl 60 v2.1 v2.2)] μ Q)
            refine jX.li l4 (by rfl) (by rfl) (?_ : jX G jP 188 1053 lv [.int v4, .int (q82.2.1 56 v2.1 v2.2 3), .ref (spl 60 v2.1 v2.2)] μ Q)
            obtain ⟨g84, h⟩ := jif_some h
            obtain ⟨g85, h⟩ := jif_some h
            refine jX.sti R g84 (by rfl) (by rfl) (fun _ => by rfl) g85 (fun μ R => (?_ : jX G jP 188 1054 lv [] μ Q))
            refine jX.lrn l2 (by rfl) (by rfl) (?_ : jX G jP 188 1055 lv [.ref (spl 56 v2.1 v2.2)] μ Q)
            refine jX.sg R g83 (by rfl) (by rfl) (by rfl) (by rfl) (by rfl) (?_ : jX G jP 188 1058 lv [.ref (spl 59 v2.1 v2.2)] μ Q)
            refine jX.lrn l2 (by rfl) (by rfl) (?_ : jX G jP 188 1059 lv [.ref (spl 56 v2.1 v2.2), .ref (spl 59 v2.1 v2.2)] μ Q)
            refine jX.sg R g83 (by rfl) (by rfl) (by rfl) (by rfl) (by rfl) (?_ : jX G jP 188 1062 lv [.int ((siI q82.2 60 v2.1 v2.2 (q82.2.1 56 v2.1 v2.2 3).toNatClampNeg v4).1 56 v2.1 v2.2 3), .ref (spl 59 v2.1 v2.2)] μ Q)
            refine jX.lrn l0 (by rfl) (by rfl) (?_ : jX G jP 188 1063 lv [.ref (spl 33 0 0), .int ((siI q82.2 60 v2.1 v2.2 (q82.2.1 56 v2.1 v2.2 3).toNatClampNeg v4).1 56 v2.1 v2.2 3), .ref (spl 59 v2.1 v2.2)] μ Q)
            refine jX.sg R (by rfl) (by rfl) (by rfl) (by rfl) (by rfl) (by rfl) (?_ : jX G jP 188 1066 lv [.ref (spl 47 0 0), .int ((siI q82.2 60 v2.1 v2.2 (q82.2.1 56 v2.1 v2.2 3).toNatClampNeg v4).1 56 v2.1 v2.2 3), .ref (spl 59 v2.1 v2.2)] μ Q)
            refine jX.ic (v := nI 0) (n := 1) (by rfl) (by rfl) (by decide) (?_ : jX G jP 188 1067 lv [.int (nI 0), .ref (spl 47 0 0), .int ((siI q82.2 60 v2.1 v2.2 (q82.2.1 56 v2.1 v2.2 3).toNatClampNeg v4).1 56 v2.1 v2.2 3), .ref (spl 59 v2.1 v2.2)] μ Q)
            obtain ⟨g86, h⟩ := jif_some h
            refine jX.sai R (by rfl) (by rfl) (by rfl) (by rfl) g86 (?_ : jX G jP 188 1068 lv [.int ((siI q82.2 60 v2.1 v2.2 (q82.2.1 56 v2.1 v2.2 3).toNatClampNeg v4).1 47 0 0 (nI 0).toNatClampNeg), .int ((siI q82.2 60 v2.1 v2.2 (q82.2.1 56 v2.1 v2.2 3).toNatClampNeg v4).1 56 v2.1 v2.2 3), .ref (spl 59 v2.1 v2.2)] μ Q)
            obtain ⟨g87, h⟩ := jif_some h
            obtain ⟨g88, h⟩ := jif_some h
            refine jX.sti R g87 (by rfl) (by rfl) (fun _ => by rfl) g88 (fun μ R => (?_ : jX G jP 188 1069 lv [] μ Q))
            refine jX.lrn l2 (by rfl) (by rfl) (?_ : jX G jP 188 1070 lv [.ref (spl 56 v2.1 v2.2)] μ Q)
            refine jX.sg R g83 (by rfl) (by rfl) (by rfl) (by rfl) (by rfl) (?_ : jX G jP 188 1073 lv [.ref (spl 63 v2.1 v2.2)] μ Q)
            refine jX.lrn l2 (by rfl) (by rfl) (?_ : jX G jP 188 1074 lv [.ref (spl 56 v2.1 v2.2), .ref (spl 63 v2.1 v2.2)] μ Q)
            refine jX.sg R g83 (by rfl) (by rfl) (by rfl) (by rfl) (by rfl) (?_ : jX G jP 188 1077 lv [.int ((siI (siI q82.2 60 v2.1 v2.2 (q82.2.1 56 v2.1 v2.2 3).toNatClampNeg v4) 59 v2.1 v2.2 ((siI q82.2 60 v2.1 v2.2 (q82.2.1 56 v2.1 v2.2 3).toNatClampNeg v4).1 56 v2.1 v2.2 3).toNatClampNeg ((siI q82.2 60 v2.1 v2.2 (q82.2.1 56 v2.1 v2.2 3).toNatClampNeg v4).1 47 0 0 (nI 0).toNatClampNeg)).1 56 v2.1 v2.2 3), .ref (spl 63 v2.1 v2.2)] μ Q)
            refine jX.lrn l0 (by rfl) (by rfl) (?_ : jX G jP 188 1078 lv [.ref (spl 33 0 0), .int ((siI (siI q82.2 60 v2.1 v2.2 (q82.2.1 56 v2.1 v2.2 3).toNatClampNeg v4) 59 v2.1 v2.2 ((siI q82.2 60 v2.1 v2.2 (q82.2.1 56 v2.1 v2.2 3).toNatClampNeg v4).1 56 v2.1 v2.2 3).toNatClampNeg ((siI q82.2 60 v2.1 v2.2 (q82.2.1 56 v2.1 v2.2 3).toNatClampNeg v4).1 47 0 0 (nI 0).toNatClampNeg)).1 56 v2.1 v2.2 3), .ref (spl 63 v2.1 v2.2)] μ Q)
            refine jX.sg R (by rfl) (by rfl) (by rfl) (by rfl) (by rfl) (by rfl) (?_ : jX G jP 188 1081 lv [.ref (spl 48 0 0), .int ((siI (siI q82.2 60 v2.1 v2.2 (q82.2.1 56 v2.1 v2.2 3).toNatClampNeg v4) 59 v2.1 v2.2 ((siI q82.2 60 v2.1 v2.2 (q82.2.1 56 v2.1 v2.2 3).toNatClampNeg v4).1 56 v2.1 v2.2 3).toNatClampNeg ((siI q82.2 60 v2.1 v2.2 (q82.2.1 56 v2.1 v2.2 3).toNatClampNeg v4).1 47 0 0 (nI 0).toNatClampNeg)).1 56 v2.1 v2.2 3), .ref (spl 63 v2.1 v2.2)] μ Q)
            refine jX.ic (v := nI 0) (n := 1) (by rfl) (by rfl) (by decide) (?_ : jX G jP 188 1082 lv [.int (nI 0), .ref (spl 48 0 0), .int ((siI (siI q82.2 60 v2.1 v2.2 (q82.2.1 56 v2.1 v2.2 3).toNatClampNeg v4) 59 v2.1 v2.2 ((siI q82.2 60 v2.1 v2.2 (q82.2.1 56 v2.1 v2.2 3).toNatClampNeg v4).1 56 v2.1 v2.2 3).toNatClampNeg ((siI q82.2 60 v2.1 v2.2 (q82.2.1 56 v2.1 v2.2 3).toNatClampNeg v4).1 47 0 0 (nI 0).toNatClampNeg)).1 56 v2.1 v2.2 3), .ref (spl 63 v2.1 v2.2)] μ Q)
            obtain ⟨g89, h⟩ := jif_some h
            refine jX.sal R (by rfl) (by rfl) (by rfl) (by rfl) g89 (?_ : jX G jP 188 1083 lv [.long ((siI (siI q82.2 60 v2.1 v2.2 (q82.2.1 56 v2.1 v2.2 3).toNatClampNeg v4) 59 v2.1 v2.2 ((siI q82.2 60 v2.1 v2.2 (q82.2.1 56 v2.1 v2.2 3).toNatClampNeg v4).1 56 v2.1 v2.2 3).toNatClampNeg ((siI q82.2 60 v2.1 v2.2 (q82.2.1 56 v2.1 v2.2 3).toNatClampNeg v4).1 47 0 0 (nI 0).toNatClampNeg)).2.1 48 0 0 (nI 0).toNatClampNeg), .int ((siI (siI q82.2 60 v2.1 v2.2 (q82.2.1 56 v2.1 v2.2 3).toNatClampNeg v4) 59 v2.1 v2.2 ((siI q82.2 60 v2.1 v2.2 (q82.2.1 56 v2.1 v2.2 3).toNatClampNeg v4).1 56 v2.1 v2.2 3).toNatClampNeg ((siI q82.2 60 v2.1 v2.2 (q82.2.1 56 v2.1 v2.2 3).toNatClampNeg v4).1 47 0 0 (nI 0).toNatClampNeg)).1 56 v2.1 v2.2 3), .ref (spl 63 v2.1 v2.2)] μ Q)
            obtain ⟨g90, h⟩ := jif_some h
            obtain ⟨g91, h⟩ := jif_some h
            refine jX.stl R g90 (by rfl) (by rfl) (fun _ => by rfl) g91 (fun μ R => (?_ : jX G jP 188 1084 lv [] μ Q))
            refine jX.lrn l2 (by rfl) (by rfl) (?_ : jX G jP 188 1085 lv [.ref (spl 56 v2.1 v2.2)] μ Q)
            refine jX.go (by rfl) (by rfl) (by rfl) (?_ : jX G jP 188 1086 lv [.ref (spl 56 v2.1 v2.2), .ref (spl 56 v2.1 v2.2)] μ Q)
            refine jX.sg R g83 (by rfl) (by rfl) (by rfl) (by rfl) (by rfl) (?_ : jX G jP 188 1089 lv [.int ((siL (siI (siI q82.2 60 v2.1 v2.2 (q82.2.1 56 v2.1 v2.2 3).toNatClampNeg v4) 59 v2.1 v2.2 ((siI q82.2 60 v2.1 v2.2 (q82.2.1 56 v2.1 v2.2 3).toNatClampNeg v4).1 56 v2.1 v2.2 3).toNatClampNeg ((siI q82.2 60 v2.1 v2.2 (q82.2.1 56 v2.1 v2.2 3).toNatClampNeg v4).1 47 0 0 (nI 0).toNatClampNeg)) 63 v2.1 v2.2 ((siI (siI q82.2 60 v2.1 v2.2 (q82.2.1 56 v2.1 v2.2 3).toNatClampNeg v4) 59 v2.1 v2.2 ((siI q82.2 60 v2.1 v2.2 (q82.2.1 56 v2.1 v2.2 3).toNatClampNeg v4).1 56 v2.1 v2.2 3).toNatClampNeg ((siI q82.2 60 v2.1 v2.2 (q82.2.1 56 v2.1 v2.2 3).toNatClampNeg v4).1 47 0 0 (nI 0).toNatClampNeg)).1 56 v2.1 v2.2 3).toNatClampNeg ((siI (siI q82.2 60 v2.1 v2.2 (q82.2.1 56 v2.1 v2.2 3).toNatClampNeg v4) 59 v2.1 v2.2 ((siI q82.2 60 v2.1 v2.2 (q82.2.1 56 v2.1 v2.2 3).toNatClampNeg v4).1 56 v2.1 v2.2 3).toNatClampNeg ((siI q82.2 60 v2.1 v2.2 (q82.2.1 56 v2.1 v2.2 3).toNatClampNeg v4).1 47 0 0 (nI 0).toNatClampNeg)).2.1 48 0 0 (nI 0).toNatClampNeg)).1 56 v2.1 v2.2 3), .ref (spl 56 v2.1 v2.2)] μ Q)
            refine jX.ic (v := nI 1) (n := 1) (by rfl) (by rfl) (by decide) (?_ : jX G jP 188 1090 lv [.int (nI 1), .int ((siL (siI (siI q82.2 60 v2.1 v2.2 (q82.2.1 56 v2.1 v2.2 3).toNatClampNeg v4) 59 v2.1 v2.2 ((siI q82.2 60 v2.1 v2.2 (q82.2.1 56 v2.1 v2.2 3).toNatClampNeg v4).1 56 v2.1 v2.2 3).toNatClampNeg ((siI q82.2 60 v2.1 v2.2 (q82.2.1 56 v2.1 v2.2 3).toNatClampNeg v4).1 47 0 0 (nI 0).toNatClampNeg)) 63 v2.1 v2.2 ((siI (siI q82.2 60 v2.1 v2.2 (q82.2.1 56 v2.1 v2.2 3).toNatClampNeg v4) 59 v2.1 v2.2 ((siI q82.2 60 v2.1 v2.2 (q82.2.1 56 v2.1 v2.2 3).toNatClampNeg v4).1 56 v2.1 v2.2 3).toNatClampNeg ((siI q82.2 60 v2.1 v2.2 (q82.2.1 56 v2.1 v2.2 3).toNatClampNeg v4).1 47 0 0 (nI 0).toNatClampNeg)).1 56 v2.1 v2.2 3).toNatClampNeg ((siI (siI q82.2 60 v2.1 v2.2 (q82.2.1 56 v2.1 v2.2 3).toNatClampNeg v4) 59 v2.1 v2.2 ((siI q82.2 60 v2.1 v2.2 (q82.2.1 56 v2.1 v2.2 3).toNatClampNeg v4).1 56 v2.1 v2.2 3).toNatClampNeg ((siI q82.2 60 v2.1 v2.2 (q82.2.1 56 v2.1 v2.2 3).toNatClampNeg v4).1 47 0 0 (nI 0).toNatClampNeg)).2.1 48 0 0 (nI 0).toNatClampNeg)).1 56 v2.1 v2.2 3), .ref (spl 56 v2.1 v2.2)] μ Q)
            refine jX.go (by rfl) (by rfl) (by rfl) (?_ : jX G jP 188 1091 lv [.int (((siL (siI (siI q82.2 60 v2.1 v2.2 (q82.2.1 56 v2.1 v2.2 3).toNatClampNeg v4) 59 v2.1 v2.2 ((siI q82.2 60 v2.1 v2.2 (q82.2.1 56 v2.1 v2.2 3).toNatClampNeg v4).1 56 v2.1 v2.2 3).toNatClampNeg ((siI q82.2 60 v2.1 v2.2 (q82.2.1 56 v2.1 v2.2 3).toNatClampNeg v4).1 47 0 0 (nI 0).toNatClampNeg)) 63 v2.1 v2.2 ((siI (siI q82.2 60 v2.1 v2.2 (q82.2.1 56 v2.1 v2.2 3).toNatClampNeg v4) 59 v2.1 v2.2 ((siI q82.2 60 v2.1 v2.2 (q82.2.1 56 v2.1 v2.2 3).toNatClampNeg v4).1 56 v2.1 v2.2 3).toNatClampNeg ((siI q82.2 60 v2.1 v2.2 (q82.2.1 56 v2.1 v2.2 3).toNatClampNeg v4).1 47 0 0 (nI 0).toNatClampNeg)).1 56 v2.1 v2.2 3).toNatClampNeg ((siI (siI q82.2 60 v2.1 v2.2 (q82.2.1 56 v2.1 v2.2 3).toNatClampNeg v4) 59 v2.1 v2.2 ((siI q82.2 60 v2.1 v2.2 (q82.2.1 56 v2.1 v2.2 3).toNatClampNeg v4).1 56 v2.1 v2.2 3).toNatClampNeg ((siI q82.2 60 v2.1 v2.2 (q82.2.1 56 v2.1 v2.2 3).toNatClampNeg v4).1 47 0 0 (nI 0).toNatClampNeg)).2.1 48 0 0 (nI 0).toNatClampNeg)).1 56 v2.1 v2.2 3) + (nI 1)), .ref (spl 56 v2.1 v2.2)] μ Q)
            refine jX.spI R g83 (by rfl) (by rfl) (by rfl) (by rfl) (by rfl) (by rfl) (by rfl) (by rfl) (fun μ R => (?_ : jX G jP 188 1094 lv [] μ Q))
            exact jX.ret (by rfl) (by rfl) (by rfl) (by rfl) (sretv (f := srV) h K R)
          · refine jX.b2f hc (by rfl) (by rfl) (by rfl) (?_ : jX G jP 188 1034 lv [] μ Q)
            refine jX.lrn l0 (by rfl) (by rfl) (?_ : jX G jP 188 1035 lv [.ref (spl 33 0 0)] μ Q)
            refine jX.lrn l1 (by rfl) (by rfl) (?_ : jX G jP 188 1036 lv [.ref (spl 54 v1.1 v1.2), .ref (spl 33 0 0)] μ Q)
            refine jX.go (by rfl) (by rfl) (by rfl) (?_ : jX G jP 188 1039 lv [.long (-3), .ref (spl 54 v1.1 v1.2), .ref (spl 33 0 0)] μ Q)
            obtain ⟨q92, e92, h⟩ := sbd h
            refine jX.cv (by rfl) (by rfl) (by rfl) (by rfl) (by rfl) (by rfl) (by rfl) (R.rec (by rfl) (by rfl)) (Nat.le_of_ble_eq_true rfl) (Nat.le_of_ble_eq_true rfl) (F_155_ok R e92 (fun μ R => ⟨rfl, (?_ : jX G jP 188 1042 lv [] μ Q)⟩))
            exact jX.ret (by rfl) (by rfl) (by rfl) (by rfl) (sretv (f := srV) h K R)
        · refine jX.b1f hc (by rfl) (by rfl) (by rfl) (?_ : jX G jP 188 1024 lv [] μ Q)
          exact jX.ret (by rfl) (by rfl) (by rfl) (by rfl) (sretv (f := srV) h K R)
      rcases bif_or h with ⟨hc, h⟩ | ⟨-, h⟩
      · refine jX.swn hc (by rfl) (by rfl) (by rfl) (?_ : jX G jP 188 1095 lv [] μ Q)
        refine jX.lrn l0 (by rfl) (by rfl) (?_ : jX G jP 188 1096 lv [.ref (spl 33 0 0)] μ Q)
        refine jX.lrn l1 (by rfl) (by rfl) (?_ : jX G jP 188 1097 lv [.ref (spl 54 v1.1 v1.2), .ref (spl 33 0 0)] μ Q)
        refine jX.ic (v := nI 1) (n := 1) (by rfl) (by rfl) (by decide) (?_ : jX G jP 188 1098 lv [.int (nI 1), .ref (spl 54 v1.1 v1.2), .ref (spl 33 0 0)] μ Q)
        obtain ⟨q93, e93, h⟩ := sbd h
        refine jX.c1 (v := .int q93.1) (by rfl) (by rfl) (by rfl) (by rfl) (by rfl) (by rfl) (by rfl) (R.rec (by rfl) (by rfl)) (Nat.le_of_ble_eq_true rfl) (Nat.le_of_ble_eq_true rfl) (F_156_ok R e93 (fun μ R => ⟨rfl, (?_ : jX G jP 188 1101 lv [.int q93.1] μ Q)⟩))
        rcases bif_or h with ⟨hc, h⟩ | ⟨hc, h⟩
        · refine jX.b1t hc (by rfl) (by rfl) (by rfl) (?_ : jX G jP 188 1137 lv [] μ Q)
          exact jX.ret (by rfl) (by rfl) (by rfl) (by rfl) (sretv (f := srV) h K R)
        · refine jX.b1f hc (by rfl) (by rfl) (by rfl) (?_ : jX G jP 188 1104 lv [] μ Q)
          refine jX.lrn l0 (by rfl) (by rfl) (?_ : jX G jP 188 1105 lv [.ref (spl 33 0 0)] μ Q)
          refine jX.lrn l1 (by rfl) (by rfl) (?_ : jX G jP 188 1106 lv [.ref (spl 54 v1.1 v1.2), .ref (spl 33 0 0)] μ Q)
          refine jX.lrn l0 (by rfl) (by rfl) (?_ : jX G jP 188 1107 lv [.ref (spl 33 0 0), .ref (spl 54 v1.1 v1.2), .ref (spl 33 0 0)] μ Q)
          refine jX.sg R (by rfl) (by rfl) (by rfl) (by rfl) (by rfl) (by rfl) (?_ : jX G jP 188 1110 lv [.ref (spl 47 0 0), .ref (spl 54 v1.1 v1.2), .ref (spl 33 0 0)] μ Q)
          refine jX.ic (v := nI 0) (n := 1) (by rfl) (by rfl) (by decide) (?_ : jX G jP 188 1111 lv [.int (nI 0), .ref (spl 47 0 0), .ref (spl 54 v1.1 v1.2), .ref (spl 33 0 0)] μ Q)
          obtain ⟨g94, h⟩ := jif_some h
          refine jX.sai R (by rfl) (by rfl) (by rfl) (by rfl) g94 (?_ : jX G jP 188 1112 lv [.int (q93.2.1 47 0 0 (nI 0).toNatClampNeg), .ref (spl 54 v1.1 v1.2), .ref (spl 33 0 0)] μ Q)
          rcases bif_or h with ⟨hc, h⟩ | ⟨hc, h⟩
          · refine jX.b1t hc (by rfl) (by rfl) (by rfl) (?_ : jX G jP 188 1119 lv [.ref (spl 54 v1.1 v1.2), .ref (spl 33 0 0)] μ Q)
            refine jX.ic (v := nI 0) (n := 1) (by rfl) (by rfl) (by decide) (?_ : jX G jP 188 1120 lv [.int (nI 0), .ref (spl 54 v1.1 v1.2), .ref (spl 33 0 0)] μ Q)
            exact F_188_1120_ok  K v1 (nI 0) v1 _ _ _ l0 l1 R h
          · refine jX.b1f hc (by rfl) (by rfl) (by rfl) (?_ : jX G jP 188 1115 lv [.ref (spl 54 v1.1 v1.2), .ref (spl 33 0 0)] μ Q)
            refine jX.ic (v := nI 1) (n := 1) (by rfl) (by rfl) (by decide) (?_ : jX G jP 188 1116 lv [.int (nI 1), .ref (spl 54 v1.1 v1.2), .ref (spl 33 0 0)] μ Q)
            refine jX.go (by rfl) (by rfl) (by rfl) (?_ : jX G jP 188 1120 lv [.int (nI 1), .ref (spl 54 v1.1 v1.2), .ref (spl 33 0 0)] μ Q)
            exact F_188_1120_ok  K v1 (nI 1) v1 _ _ _ l0 l1 R h
      cases h
    · refine jX.b2f hc (by rfl) (by rfl) (by rfl) (?_ : jX G jP 188 35 lv [] μ Q)
      exact F_188_35_ok  K v1 q1.1 _ _ _ l0 l1 l5 R h
/-! 189 StrandRuntimeModel.next()V -/
def F_189_45 (G : jG) (t : Nat) : Nat → Int32 → sS → Option (Unit × sS)
  | 0 => fun _ _ => none
  | tt + 1 => fun v1 S => bif jcmp .ge v1 (S.1 33 0 0 15) then (some ((), S)) else (jif (jin (v1 + (nI 1)) 17) (jif (jin v1 17) (F_189_45 G t tt (v1 + Int32.ofInt 1) (siI S 45 0 0 v1.toNatClampNeg (S.1 45 0 0 (v1 + (nI 1)).toNatClampNeg)))))
theorem F_189_45_ok {G : jG} {t : Nat} {r : Unit} {S' : sS} {Q : Option Value ⊕ Nat → jS → Prop} (K : ∀ μ', sR S' μ' → Q (srV r) μ') : ∀ tt : Nat, ∀ (v1 : Int32) (S : sS) (lv : jL) (μ : jS), jld lv 0 = some (.ref (spl 33 0 0)) → jld lv 1 = some (.int v1) → sR S μ → F_189_45 G t tt v1 S = some (r, S') → jX G jP 189 45 lv [] μ Q := by
  intro tt
  induction tt with
  | zero =>
    intro v1 S lv μ l0 l1 R h
    rw [F_189_45] at h
    cases h
  | succ tt ih =>
    intro v1 S lv μ l0 l1 R h
    rw [F_189_45] at h
    refine jX.lin l1 (by rfl) (by rfl) (?_ : jX G jP 189 46 lv [.int v1] μ Q)
    refine jX.lrn l0 (by rfl) (by rfl) (?_ : jX G jP 189 47 lv [.ref (spl 33 0 0), .int v1] μ Q)
    refine jX.sg R (by rfl) (by rfl) (by rfl) (by rfl) (by rfl) (by rfl) (?_ : jX G jP 189 50 lv [.int (S.1 33 0 0 15), .int v1] μ Q)
    rcases bif_or h with ⟨hc, h⟩ | ⟨hc, h⟩
    · refine jX.b2t hc (by rfl) (by rfl) (by rfl) (?_ : jX G jP 189 73 lv [] μ Q)
      exact jX.ret (by rfl) (by rfl) (by rfl) (by rfl) (sretv (f := srV) h K R)
    · refine jX.b2f hc (by rfl) (by rfl) (by rfl) (?_ : jX G jP 189 53 lv [] μ Q)
      refine jX.lrn l0 (by rfl) (by rfl) (?_ : jX G jP 189 54 lv [.ref (spl 33 0 0)] μ Q)
      refine jX.sg R (by rfl) (by rfl) (by rfl) (by rfl) (by rfl) (by rfl) (?_ : jX G jP 189 57 lv [.ref (spl 45 0 0)] μ Q)
      refine jX.lin l1 (by rfl) (by rfl) (?_ : jX G jP 189 58 lv [.int v1, .ref (spl 45 0 0)] μ Q)
      refine jX.lrn l0 (by rfl) (by rfl) (?_ : jX G jP 189 59 lv [.ref (spl 33 0 0), .int v1, .ref (spl 45 0 0)] μ Q)
      refine jX.sg R (by rfl) (by rfl) (by rfl) (by rfl) (by rfl) (by rfl) (?_ : jX G jP 189 62 lv [.ref (spl 45 0 0), .int v1, .ref (spl 45 0 0)] μ Q)
      refine jX.lin l1 (by rfl) (by rfl) (?_ : jX G jP 189 63 lv [.int v1, .ref (spl 45 0 0), .int v1, .ref (spl 45 0 0)] μ Q)
      refine jX.ic (v := nI 1) (n := 1) (by rfl) (by rfl) (by decide) (?_ : jX G jP 189 64 lv [.int (nI 1), .int v1, .ref (spl 45 0 0), .int v1, .ref (spl 45 0 0)] μ Q)
      refine jX.go (by rfl) (by rfl) (by rfl) (?_ : jX G jP 189 65 lv [.int (v1 + (nI 1)), .ref (spl 45 0 0), .int v1, .ref (spl 45 0 0)] μ Q)
      obtain ⟨g1, h⟩ := jif_some h
      refine jX.sai R (by rfl) (by rfl) (by rfl) (by rfl) g1 (?_ : jX G jP 189 66 lv [.int (S.1 45 0 0 (v1 + (nI 1)).toNatClampNeg), .int v1, .ref (spl 45 0 0)] μ Q)
      obtain ⟨g2, h⟩ := jif_some h
      refine jX.sti R (by rfl) (by rfl) (by rfl) (fun _ => by rfl) g2 (fun μ R => (?_ : jX G jP 189 67 lv [] μ Q))
      refine jX.inc l1 (by rfl) (by rfl) (by rfl) (fun lv l1 kp => (?_ : jX G jP 189 70 lv [] μ Q))
      replace l0 := kp 0 _ l0 (by rfl) (by first | rfl | simp [soR_cat])
      refine jX.go (by rfl) (by rfl) (by rfl) (?_ : jX G jP 189 45 lv [] μ Q)
      exact ih (v1 + Int32.ofInt 1) _ _ _ l0 l1 R h
def F_189 (G : jG) (t : Nat) (S : sS) : Option (Unit × sS) := bif jcmp .ne ((siI (siI S 33 0 0 20 (nI 0)) 33 0 0 16 (-1)).1 33 0 0 15) 0 then (jif (jin (nI 0) 17) (F_189_45 G t t (nI 0) (siI (siI (siI (siI S 33 0 0 20 (nI 0)) 33 0 0 16 (-1)) 33 0 0 16 ((siI (siI S 33 0 0 20 (nI 0)) 33 0 0 16 (-1)).1 45 0 0 (nI 0).toNatClampNeg)) 33 0 0 15 (((siI (siI (siI S 33 0 0 20 (nI 0)) 33 0 0 16 (-1)) 33 0 0 16 ((siI (siI S 33 0 0 20 (nI 0)) 33 0 0 16 (-1)).1 45 0 0 (nI 0).toNatClampNeg)).1 33 0 0 15) - (nI 1))))) else (some ((), (siI (siI (siI S 33 0 0 20 (nI 0)) 33 0 0 16 (-1)) 33 0 0 17 (nI 4))))
theorem F_189_ok {G : jG} {t : Nat} {S : sS} {r : Unit} {S' : sS} {μ : jS} {Q : Option Value ⊕ Nat → jS → Prop} (R : sR S μ) (h : F_189 G t S = some (r, S')) (K : ∀ μ', sR S' μ' → Q (srV r) μ') : jX G jP 189 0 (lv_args 0 [.ref (spl 33 0 0)]) [] μ Q := by
  unfold F_189 at h
  have l0 : jld (lv_args 0 [.ref (spl 33 0 0)]) 0 = some (.ref (spl 33 0 0)) := by rfl
  generalize lv_args 0 [.ref (spl 33 0 0)] = lv at *
  refine jX.lrn l0 (by rfl) (by rfl) (?_ : jX G jP 189 1 lv [.ref (spl 33 0 0)] μ Q)
  refine jX.ic (v := nI 0) (n := 1) (by rfl) (by rfl) (by decide) (?_ : jX G jP 189 2 lv [.int (nI 0), .ref (spl 33 0 0)] μ Q)
  refine jX.spI R (by rfl) (by rfl) (by rfl) (by rfl) (by rfl) (by rfl) (by rfl) (by rfl) (by rfl) (fun μ R => (?_ : jX G jP 189 5 lv [] μ Q))
  refine jX.lrn l0 (by rfl) (by rfl) (?_ : jX G jP 189 6 lv [.ref (spl 33 0 0)] μ Q)
  refine jX.ic (v := (-1)) (n := 1) (by rfl) (by rfl) (by decide) (?_ : jX G jP 189 7 lv [.int (-1), .ref (spl 33 0 0)] μ Q)
  refine jX.spI R (by rfl) (by rfl) (by rfl) (by rfl) (by rfl) (by rfl) (by rfl) (by rfl) (by rfl) (fun μ R => (?_ : jX G jP 189 10 lv [] μ Q))
  refine jX.lrn l0 (by rfl) (by rfl) (?_ : jX G jP 189 11 lv [.ref (spl 33 0 0)] μ Q)
  refine jX.sg R (by rfl) (by rfl) (by rfl) (by rfl) (by rfl) (by rfl) (?_ : jX G jP 189 14 lv [.int ((siI (siI S 33 0 0 20 (nI 0)) 33 0 0 16 (-1)).1 33 0 0 15)] μ Q)
  rcases bif_or h with ⟨hc, h⟩ | ⟨hc, h⟩
  · refine jX.b1t hc (by rfl) (by rfl) (by rfl) (?_ : jX G jP 189 23 lv [] μ Q)
    refine jX.lrn l0 (by rfl) (by rfl) (?_ : jX G jP 189 24 lv [.ref (spl 33 0 0)] μ Q)
    refine jX.lrn l0 (by rfl) (by rfl) (?_ : jX G jP 189 25 lv [.ref (spl 33 0 0), .ref (spl 33 0 0)] μ Q)
    refine jX.sg R (by rfl) (by rfl) (by rfl) (by rfl) (by rfl) (by rfl) (?_ : jX G jP 189 28 lv [.ref (spl 45 0 0), .ref (spl 33 0 0)] μ Q)
    refine jX.ic (v := nI 0) (n := 1) (by rfl) (by rfl) (by decide) (?_ : jX G jP 189 29 lv [.int (nI 0), .ref (spl 45 0 0), .ref (spl 33 0 0)] μ Q)
    obtain ⟨g1, h⟩ := jif_some h
    refine jX.sai R (by rfl) (by rfl) (by rfl) (by rfl) g1 (?_ : jX G jP 189 30 lv [.int ((siI (siI S 33 0 0 20 (nI 0)) 33 0 0 16 (-1)).1 45 0 0 (nI 0).toNatClampNeg), .ref (spl 33 0 0)] μ Q)
    refine jX.spI R (by rfl) (by rfl) (by rfl) (by rfl) (by rfl) (by rfl) (by rfl) (by rfl) (by rfl) (fun μ R => (?_ : jX G jP 189 33 lv [] μ Q))
    refine jX.lrn l0 (by rfl) (by rfl) (?_ : jX G jP 189 34 lv [.ref (spl 33 0 0)] μ Q)
    refine jX.go (by rfl) (by rfl) (by rfl) (?_ : jX G jP 189 35 lv [.ref (spl 33 0 0), .ref (spl 33 0 0)] μ Q)
    refine jX.sg R (by rfl) (by rfl) (by rfl) (by rfl) (by rfl) (by rfl) (?_ : jX G jP 189 38 lv [.int ((siI (siI (siI S 33 0 0 20 (nI 0)) 33 0 0 16 (-1)) 33 0 0 16 ((siI (siI S 33 0 0 20 (nI 0)) 33 0 0 16 (-1)).1 45 0 0 (nI 0).toNatClampNeg)).1 33 0 0 15), .ref (spl 33 0 0)] μ Q)
    refine jX.ic (v := nI 1) (n := 1) (by rfl) (by rfl) (by decide) (?_ : jX G jP 189 39 lv [.int (nI 1), .int ((siI (siI (siI S 33 0 0 20 (nI 0)) 33 0 0 16 (-1)) 33 0 0 16 ((siI (siI S 33 0 0 20 (nI 0)) 33 0 0 16 (-1)).1 45 0 0 (nI 0).toNatClampNeg)).1 33 0 0 15), .ref (spl 33 0 0)] μ Q)
    refine jX.go (by rfl) (by rfl) (by rfl) (?_ : jX G jP 189 40 lv [.int (((siI (siI (siI S 33 0 0 20 (nI 0)) 33 0 0 16 (-1)) 33 0 0 16 ((siI (siI S 33 0 0 20 (nI 0)) 33 0 0 16 (-1)).1 45 0 0 (nI 0).toNatClampNeg)).1 33 0 0 15) - (nI 1)), .ref (spl 33 0 0)] μ Q)
    refine jX.spI R (by rfl) (by rfl) (by rfl) (by rfl) (by rfl) (by rfl) (by rfl) (by rfl) (by rfl) (fun μ R => (?_ : jX G jP 189 43 lv [] μ Q))
    refine jX.ic (v := nI 0) (n := 1) (by rfl) (by rfl) (by decide) (?_ : jX G jP 189 44 lv [.int (nI 0)] μ Q)
    refine jX.s1 (k := 1) (pc' := 45) (by rfl) (by rfl) (by rfl) (fun lv l1 kp => (?_ : jX G jP 189 45 lv [] μ Q))
    replace l0 := kp 0 _ l0 (by rfl) (by first | rfl | simp [soR_cat])
    exact F_189_45_ok  K _ (nI 0) _ _ _ l0 l1 R h
  · refine jX.b1f hc (by rfl) (by rfl) (by rfl) (?_ : jX G jP 189 17 lv [] μ Q)
    refine jX.lrn l0 (by rfl) (by rfl) (?_ : jX G jP 189 18 lv [.ref (spl 33 0 0)] μ Q)
    refine jX.ic (v := nI 4) (n := 1) (by rfl) (by rfl) (by decide) (?_ : jX G jP 189 19 lv [.int (nI 4), .ref (spl 33 0 0)] μ Q)
    refine jX.spI R (by rfl) (by rfl) (by rfl) (by rfl) (by rfl) (by rfl) (by rfl) (by rfl) (by rfl) (fun μ R => (?_ : jX G jP 189 22 lv [] μ Q))
    exact jX.ret (by rfl) (by rfl) (by rfl) (by rfl) (sretv (f := srV) h K R)
