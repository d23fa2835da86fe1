/-! printed by dec.py: what methods 190 to 203 do to the store -/
/-! 190 StrandRuntimeModel.step()V -/
def F_190_118 (G : jG) (t : Nat) (w0 : Int32) (S : sS) : Option (Unit × sS) := some ((), (siI (siI S 33 0 0 17 w0) 33 0 0 16 (-1)))
theorem F_190_118_ok {G : jG} {t : Nat} {r : Unit} {S' : sS} {Q : Option Value ⊕ Nat → jS → Prop} (K : ∀ μ', sR S' μ' → Q (srV r) μ') : ∀ (w0 : Int32) (S : sS) (lv : jL) (μ : jS), jld lv 0 = some (.ref (spl 33 0 0)) → sR S μ → F_190_118 G t w0 S = some (r, S') → jX G jP 190 118 lv [.int w0, .ref (spl 33 0 0)] μ Q := by
  intro w0 S lv μ l0 R h
  unfold F_190_118 at h
  refine jX.spI R (by rfl) (by rfl) (by rfl) (by rfl) (by rfl) (by rfl) (by rfl) (by rfl) (by rfl) (fun μ R => (?_ : jX G jP 190 121 lv [] μ Q))
  refine jX.lrn l0 (by rfl) (by rfl) (?_ : jX G jP 190 122 lv [.ref (spl 33 0 0)] μ Q)
  refine jX.ic (v := (-1)) (n := 1) (by rfl) (by rfl) (by decide) (?_ : jX G jP 190 123 lv [.int (-1), .ref (spl 33 0 0)] μ Q)
  refine jX.spI R (by rfl) (by rfl) (by rfl) (by rfl) (by rfl) (by rfl) (by rfl) (by rfl) (by rfl) (fun μ R => (?_ : jX G jP 190 126 lv [] μ Q))
  exact jX.ret (by rfl) (by rfl) (by rfl) (by rfl) (sretv (f := srV) h K R)
def F_190_185 (G : jG) (t : Nat) (S : sS) : Option (Unit × sS) := (F_189 G t S).bind (fun q1 => some ((), q1.2))
theorem F_190_185_ok {G : jG} {t : Nat} {r : Unit} {S' : sS} {Q : Option Value ⊕ Nat → jS → Prop} (K : ∀ μ', sR S' μ' → Q (srV r) μ') : ∀ (S : sS) (lv : jL) (μ : jS), jld lv 0 = some (.ref (spl 33 0 0)) → sR S μ → F_190_185 G t S = some (r, S') → jX G jP 190 185 lv [] μ Q := by
  intro S lv μ l0 R h
  unfold F_190_185 at h
  refine jX.lrn l0 (by rfl) (by rfl) (?_ : jX G jP 190 186 lv [.ref (spl 33 0 0)] μ Q)
  obtain ⟨q1, e1, h⟩ := sbd h
  refine jX.cv (by rfl) (by rfl) (by rfl) (by rfl) (by rfl) (by rfl) (by rfl) (R.rec (by rfl) (by rfl)) (Nat.le_of_ble_eq_true rfl) (Nat.le_of_ble_eq_true rfl) (F_189_ok R e1 (fun μ R => ⟨rfl, (?_ : jX G jP 190 189 lv [] μ Q)⟩))
  exact jX.ret (by rfl) (by rfl) (by rfl) (by rfl) (sretv (f := srV) h K R)
def F_190_154 (G : jG) (t : Nat) (v1 : (Nat × Nat)) (S : sS) : Option (Unit × sS) := jif (sex S.2.2.2.1 54 v1.1 v1.2) (bif jcmp .ne (S.1 54 v1.1 v1.2 0) (nI 1) then (F_190_185 G t S) else (jif (jin (S.1 33 0 0 15) 17) (F_190_185 G t (siI (siI S 45 0 0 (S.1 33 0 0 15).toNatClampNeg (S.1 33 0 0 16)) 33 0 0 15 (((siI S 45 0 0 (S.1 33 0 0 15).toNatClampNeg (S.1 33 0 0 16)).1 33 0 0 15) + (nI 1))))))
theorem F_190_154_ok {G : jG} {t : Nat} {r : Unit} {S' : sS} {Q : Option Value ⊕ Nat → jS → Prop} (K : ∀ μ', sR S' μ' → Q (srV r) μ') : ∀ (v1 : (Nat × Nat)) (S : sS) (lv : jL) (μ : jS), jld lv 0 = some (.ref (spl 33 0 0)) → jld lv 1 = some (.ref (spl 54 v1.1 v1.2)) → sR S μ → F_190_154 G t v1 S = some (r, S') → jX G jP 190 154 lv [] μ Q := by
  intro v1 S lv μ l0 l1 R h
  unfold F_190_154 at h
  refine jX.lrn l1 (by rfl) (by rfl) (?_ : jX G jP 190 155 lv [.ref (spl 54 v1.1 v1.2)] μ Q)
  obtain ⟨g1, h⟩ := jif_some h
  refine jX.sg R g1 (by rfl) (by rfl) (by rfl) (by rfl) (by rfl) (?_ : jX G jP 190 158 lv [.int (S.1 54 v1.1 v1.2 0)] μ Q)
  refine jX.ic (v := nI 1) (n := 1) (by rfl) (by rfl) (by decide) (?_ : jX G jP 190 159 lv [.int (nI 1), .int (S.1 54 v1.1 v1.2 0)] μ Q)
  rcases bif_or h with ⟨hc, h⟩ | ⟨hc, h⟩
  · refine jX.b2t hc (by rfl) (by rfl) (by rfl) (?_ : jX G jP 190 185 lv [] μ Q)
    exact F_190_185_ok  K  _ _ _ l0 R h
  · refine jX.b2f hc (by rfl) (by rfl) (by rfl) (?_ : jX G jP 190 162 lv [] μ Q)
    refine jX.lrn l0 (by rfl) (by rfl) (?_ : jX G jP 190 163 lv [.ref (spl 33 0 0)] μ Q)
    refine jX.sg R (by rfl) (by rfl) (by rfl) (by rfl) (by rfl) (by rfl) (?_ : jX G jP 190 166 lv [.ref (spl 45 0 0)] μ Q)
    refine jX.lrn l0 (by rfl) (by rfl) (?_ : jX G jP 190 167 lv [.ref (spl 33 0 0), .ref (spl 45 0 0)] μ Q)
    refine jX.sg R (by rfl) (by rfl) (by rfl) (by rfl) (by rfl) (by rfl) (?_ : jX G jP 190 170 lv [.int (S.1 33 0 0 15), .ref (spl 45 0 0)] μ Q)
    refine jX.lrn l0 (by rfl) (by rfl) (?_ : jX G jP 190 171 lv [.ref (spl 33 0 0), .int (S.1 33 0 0 15), .ref (spl 45 0 0)] μ Q)
    refine jX.sg R (by rfl) (by rfl) (by rfl) (by rfl) (by rfl) (by rfl) (?_ : jX G jP 190 174 lv [.int (S.1 33 0 0 16), .int (S.1 33 0 0 15), .ref (spl 45 0 0)] μ Q)
    obtain ⟨g2, h⟩ := jif_some h
    refine jX.sti R (by rfl) (by rfl) (by rfl) (fun _ => by rfl) g2 (fun μ R => (?_ : jX G jP 190 175 lv [] μ Q))
    refine jX.lrn l0 (by rfl) (by rfl) (?_ : jX G jP 190 176 lv [.ref (spl 33 0 0)] μ Q)
    refine jX.go (by rfl) (by rfl) (by rfl) (?_ : jX G jP 190 177 lv [.ref (spl 33 0 0), .ref (spl 33 0 0)] μ Q)
    refine jX.sg R (by rfl) (by rfl) (by rfl) (by rfl) (by rfl) (by rfl) (?_ : jX G jP 190 180 lv [.int ((siI S 45 0 0 (S.1 33 0 0 15).toNatClampNeg (S.1 33 0 0 16)).1 33 0 0 15), .ref (spl 33 0 0)] μ Q)
    refine jX.ic (v := nI 1) (n := 1) (by rfl) (by rfl) (by decide) (?_ : jX G jP 190 181 lv [.int (nI 1), .int ((siI S 45 0 0 (S.1 33 0 0 15).toNatClampNeg (S.1 33 0 0 16)).1 33 0 0 15), .ref (spl 33 0 0)] μ Q)
    refine jX.go (by rfl) (by rfl) (by rfl) (?_ : jX G jP 190 182 lv [.int (((siI S 45 0 0 (S.1 33 0 0 15).toNatClampNeg (S.1 33 0 0 16)).1 33 0 0 15) + (nI 1)), .ref (spl 33 0 0)] μ Q)
    refine jX.spI R (by rfl) (by rfl) (by rfl) (by rfl) (by rfl) (by rfl) (by rfl) (by rfl) (by rfl) (fun μ R => (?_ : jX G jP 190 185 lv [] μ Q))
    exact F_190_185_ok  K  _ _ _ l0 R h
def F_190 (G : jG) (t : Nat) (S : sS) : Option (Unit × sS) := (F_150 G t S).bind (fun q1 => (q1.1).bind (fun a2 => (F_151 G t a2 q1.2).bind (fun q3 => (q3.1).bind (fun a4 => jif (sex q3.2.2.2.2.1 56 a4.1 a4.2) (jif (jin (q3.2.1 56 a4.1 a4.2 0) 32) (jif (jin ((q3.2.1 39 0 0 (q3.2.1 56 a4.1 a4.2 0).toNatClampNeg) + (q3.2.1 56 a4.1 a4.2 1)) 1500) (jif (jin ((q3.2.1 39 0 0 (q3.2.1 56 a4.1 a4.2 0).toNatClampNeg) + (q3.2.1 56 a4.1 a4.2 1)) 1500) ((F_188 G t a2 a4 (q3.2.1 41 0 0 ((q3.2.1 39 0 0 (q3.2.1 56 a4.1 a4.2 0).toNatClampNeg) + (q3.2.1 56 a4.1 a4.2 1)).toNatClampNeg) (q3.2.1 42 0 0 ((q3.2.1 39 0 0 (q3.2.1 56 a4.1 a4.2 0).toNatClampNeg) + (q3.2.1 56 a4.1 a4.2 1)).toNatClampNeg) (siI (siI (siI (siI q3.2 56 a4.1 a4.2 1 ((q3.2.1 56 a4.1 a4.2 1) + (nI 1))) 33 0 0 21 (((siI q3.2 56 a4.1 a4.2 1 ((q3.2.1 56 a4.1 a4.2 1) + (nI 1))).1 33 0 0 21) + (nI 1))) 33 0 0 20 (((siI (siI q3.2 56 a4.1 a4.2 1 ((q3.2.1 56 a4.1 a4.2 1) + (nI 1))) 33 0 0 21 (((siI q3.2 56 a4.1 a4.2 1 ((q3.2.1 56 a4.1 a4.2 1) + (nI 1))).1 33 0 0 21) + (nI 1))).1 33 0 0 20) + (nI 1))) 33 0 0 38 (nI 0))).bind (fun q9 => jif (jin (nI 0) 16) (jif (sex q9.2.2.2.2.1 54 ((nI 0).toNatClampNeg) 0) (bif jcmp .lt (q9.2.1 54 ((nI 0).toNatClampNeg) 0 0) (nI 5) then (jif (sex q9.2.2.2.2.1 54 a2.1 a2.2) (bif jcmp .ne (q9.2.1 54 a2.1 a2.2 0) (nI 1) then (F_190_154 G t a2 q9.2) else (bif jcmp .ne (q9.2.1 33 0 0 38) 0 then (F_190_154 G t a2 q9.2) else (bif jcmp .ge (q9.2.1 33 0 0 20) (q9.2.1 33 0 0 18) then (F_190_154 G t a2 q9.2) else (some ((), q9.2)))))) else (jif (jin (nI 0) 16) (bif jcmp .ne (q9.2.1 54 ((nI 0).toNatClampNeg) 0 0) (nI 5) then (F_190_118 G t (nI 3) q9.2) else (F_190_118 G t (nI 2) q9.2))))))))))))))
theorem F_190_ok {G : jG} {t : Nat} {S : sS} {r : Unit} {S' : sS} {μ : jS} {Q : Option Value ⊕ Nat → jS → Prop} (R : sR S μ) (h : F_190 G t S = some (r, S')) (K : ∀ μ', sR S' μ' → Q (srV r) μ') : jX G jP 190 0 (lv_args 0 [.ref (spl 33 0 0)]) [] μ Q := by
  unfold F_190 at h
  have l0 : jld (lv_args 0 [.ref (spl 33 0 0)]) 0 = some (.ref (spl 33 0 0)) := by rfl
  generalize lv_args 0 [.ref (spl 33 0 0)] = lv at *
  refine jX.lrn l0 (by rfl) (by rfl) (?_ : jX G jP 190 1 lv [.ref (spl 33 0 0)] μ Q)
  obtain ⟨q1, e1, h⟩ := sbd h
  refine jX.c1 (v := soR 54 q1.1) (by rfl) (by rfl) (by rfl) (by rfl) (by rfl) (by rfl) (by rfl) (R.rec (by rfl) (by rfl)) (Nat.le_of_ble_eq_true rfl) (Nat.le_of_ble_eq_true rfl) (F_150_ok R e1 (fun μ R => ⟨rfl, (?_ : jX G jP 190 4 lv [soR 54 q1.1] μ Q)⟩))
  refine jX.so (k := 1) (pc' := 5) (by rfl) (by rfl) (fun _ => by rfl) (by rfl) (fun lv l1 kp => (?_ : jX G jP 190 5 lv [] μ Q))
  replace l0 := kp 0 _ l0 (by rfl) (by first | rfl | simp [soR_cat])
  refine jX.lon l1 (by rfl) (by rfl) (?_ : jX G jP 190 6 lv [soR 54 q1.1] μ Q)
  obtain ⟨a2, e2, h⟩ := sbd h
  rw [soR_some (t := 54) e2]
  rw [soR_some (t := 54) e2] at l1
  obtain ⟨q3, e3, h⟩ := sbd h
  refine jX.c1 (v := soR 56 q3.1) (by rfl) (by rfl) (by rfl) (by rfl) (by rfl) (by rfl) (by rfl) (by rfl) (Nat.le_of_ble_eq_true rfl) (Nat.le_of_ble_eq_true rfl) (F_151_ok R e3 (fun μ R => ⟨rfl, (?_ : jX G jP 190 9 lv [soR 56 q3.1] μ Q)⟩))
  refine jX.so (k := 2) (pc' := 10) (by rfl) (by rfl) (fun _ => by rfl) (by rfl) (fun lv l2 kp => (?_ : jX G jP 190 10 lv [] μ Q))
  replace l0 := kp 0 _ l0 (by rfl) (by first | rfl | simp [soR_cat])
  replace l1 := kp 1 _ l1 (by rfl) (by first | rfl | simp [soR_cat])
  refine jX.lrn l0 (by rfl) (by rfl) (?_ : jX G jP 190 11 lv [.ref (spl 33 0 0)] μ Q)
  refine jX.sg R (by rfl) (by rfl) (by rfl) (by rfl) (by rfl) (by rfl) (?_ : jX G jP 190 14 lv [.ref (spl 39 0 0)] μ Q)
  refine jX.lon l2 (by rfl) (by rfl) (?_ : jX G jP 190 15 lv [soR 56 q3.1, .ref (spl 39 0 0)] μ Q)
  obtain ⟨a4, e4, h⟩ := sbd h
  rw [soR_some (t := 56) e4]
  rw [soR_some (t := 56) e4] at l2
  obtain ⟨g5, h⟩ := jif_some h
  refine jX.sg R g5 (by rfl) (by rfl) (by rfl) (by rfl) (by rfl) (?_ : jX G jP 190 18 lv [.int (q3.2.1 56 a4.1 a4.2 0), .ref (spl 39 0 0)] μ Q)
  obtain ⟨g6, h⟩ := jif_some h
  refine jX.sai R (by rfl) (by rfl) (by rfl) (by rfl) g6 (?_ : jX G jP 190 19 lv [.int (q3.2.1 39 0 0 (q3.2.1 56 a4.1 a4.2 0).toNatClampNeg)] μ Q)
  refine jX.lrn l2 (by rfl) (by rfl) (?_ : jX G jP 190 20 lv [.ref (spl 56 a4.1 a4.2), .int (q3.2.1 39 0 0 (q3.2.1 56 a4.1 a4.2 0).toNatClampNeg)] μ Q)
  refine jX.sg R g5 (by rfl) (by rfl) (by rfl) (by rfl) (by rfl) (?_ : jX G jP 190 23 lv [.int (q3.2.1 56 a4.1 a4.2 1), .int (q3.2.1 39 0 0 (q3.2.1 56 a4.1 a4.2 0).toNatClampNeg)] μ Q)
  refine jX.go (by rfl) (by rfl) (by rfl) (?_ : jX G jP 190 24 lv [.int ((q3.2.1 39 0 0 (q3.2.1 56 a4.1 a4.2 0).toNatClampNeg) + (q3.2.1 56 a4.1 a4.2 1))] μ Q)
  refine jX.s1 (k := 3) (pc' := 25) (by rfl) (by rfl) (by rfl) (fun lv l3 kp => (?_ : jX G jP 190 25 lv [] μ Q))
  replace l0 := kp 0 _ l0 (by rfl) (by first | rfl | simp [soR_cat])
  replace l1 := kp 1 _ l1 (by rfl) (by first | rfl | simp [soR_cat])
  replace l2 := kp 2 _ l2 (by rfl) (by first | rfl | simp [soR_cat])
  refine jX.lrn l0 (by rfl) (by rfl) (?_ : jX G jP 190 26 lv [.ref (spl 33 0 0)] μ Q)
  refine jX.sg R (by rfl) (by rfl) (by rfl) (by rfl) (by rfl) (by rfl) (?_ : jX G jP 190 29 lv [.ref (spl 41 0 0)] μ Q)
  refine jX.lin l3 (by rfl) (by rfl) (?_ : jX G jP 190 30 lv [.int ((q3.2.1 39 0 0 (q3.2.1 56 a4.1 a4.2 0).toNatClampNeg) + (q3.2.1 56 a4.1 a4.2 1)), .ref (spl 41 0 0)] μ Q)
  obtain ⟨g7, h⟩ := jif_some h
  refine jX.sai R (by rfl) (by rfl) (by rfl) (by rfl) g7 (?_ : jX G jP 190 31 lv [.int (q3.2.1 41 0 0 ((q3.2.1 39 0 0 (q3.2.1 56 a4.1 a4.2 0).toNatClampNeg) + (q3.2.1 56 a4.1 a4.2 1)).toNatClampNeg)] μ Q)
  refine jX.s1 (k := 4) (pc' := 33) (by rfl) (by rfl) (by rfl) (fun lv l4 kp => (?_ : jX G jP 190 33 lv [] μ Q))
  replace l0 := kp 0 _ l0 (by rfl) (by first | rfl | simp [soR_cat])
  replace l1 := kp 1 _ l1 (by rfl) (by first | rfl | simp [soR_cat])
  replace l2 := kp 2 _ l2 (by rfl) (by first | rfl | simp [soR_cat])
  replace l3 := kp 3 _ l3 (by rfl) (by first | rfl | simp [soR_cat])
  refine jX.lrn l0 (by rfl) (by rfl) (?_ : jX G jP 190 34 lv [.ref (spl 33 0 0)] μ Q)
  refine jX.sg R (by rfl) (by rfl) (by rfl) (by rfl) (by rfl) (by rfl) (?_ : jX G jP 190 37 lv [.ref (spl 42 0 0)] μ Q)
  refine jX.lin l3 (by rfl) (by rfl) (?_ : jX G jP 190 38 lv [.int ((q3.2.1 39 0 0 (q3.2.1 56 a4.1 a4.2 0).toNatClampNeg) + (q3.2.1 56 a4.1 a4.2 1)), .ref (spl 42 0 0)] μ Q)
  obtain ⟨g8, h⟩ := jif_some h
  refine jX.sai R (by rfl) (by rfl) (by rfl) (by rfl) g8 (?_ : jX G jP 190 39 lv [.int (q3.2.1 42 0 0 ((q3.2.1 39 0 0 (q3.2.1 56 a4.1 a4.2 0).toNatClampNeg) + (q3.2.1 56 a4.1 a4.2 1)).toNatClampNeg)] μ Q)
  refine jX.s1 (k := 5) (pc' := 41) (by rfl) (by rfl) (by rfl) (fun lv l5 kp => (?_ : jX G jP 190 41 lv [] μ Q))
  replace l0 := kp 0 _ l0 (by rfl) (by first | rfl | simp [soR_cat])
  replace l1 := kp 1 _ l1 (by rfl) (by first | rfl | simp [soR_cat])
  replace l2 := kp 2 _ l2 (by rfl) (by first | rfl | simp [soR_cat])
  replace l4 := kp 4 _ l4 (by rfl) (by first | rfl | simp [soR_cat])
  refine jX.lrn l2 (by rfl) (by rfl) (?_ : jX G jP 190 42 lv [.ref (spl 56 a4.1 a4.2)] μ Q)
  refine jX.go (by rfl) (by rfl) (by rfl) (?_ : jX G jP 190 43 lv [.ref (spl 56 a4.1 a4.2), .ref (spl 56 a4.1 a4.2)] μ Q)
  refine jX.sg R g5 (by rfl) (by rfl) (by rfl) (by rfl) (by rfl) (?_ : jX G jP 190 46 lv [.int (q3.2.1 56 a4.1 a4.2 1), .ref (spl 56 a4.1 a4.2)] μ Q)
  refine jX.ic (v := nI 1) (n := 1) (by rfl) (by rfl) (by decide) (?_ : jX G jP 190 47 lv [.int (nI 1), .int (q3.2.1 56 a4.1 a4.2 1), .ref (spl 56 a4.1 a4.2)] μ Q)
  refine jX.go (by rfl) (by rfl) (by rfl) (?_ : jX G jP 190 48 lv [.int ((q3.2.1 56 a4.1 a4.2 1) + (nI 1)), .ref (spl 56 a4.1 a4.2)] μ Q)
  refine jX.spI R g5 (by rfl) (by rfl) (by rfl) (by rfl) (by rfl) (by rfl) (by rfl) (by rfl) (fun μ R => (?_ : jX G jP 190 51 lv [] μ Q))
  refine jX.lrn l0 (by rfl) (by rfl) (?_ : jX G jP 190 52 lv [.ref (spl 33 0 0)] μ Q)
  refine jX.go (by rfl) (by rfl) (by rfl) (?_ : jX G jP 190 53 lv [.ref (spl 33 0 0), .ref (spl 33 0 0)] μ Q)
  refine jX.sg R (by rfl) (by rfl) (by rfl) (by rfl) (by rfl) (by rfl) (?_ : jX G jP 190 56 lv [.int ((siI q3.2 56 a4.1 a4.2 1 ((q3.2.1 56 a4.1 a4.2 1) + (nI 1))).1 33 0 0 21), .ref (spl 33 0 0)] μ Q)
  refine jX.ic (v := nI 1) (n := 1) (by rfl) (by rfl) (by decide) (?_ : jX G jP 190 57 lv [.int (nI 1), .int ((siI q3.2 56 a4.1 a4.2 1 ((q3.2.1 56 a4.1 a4.2 1) + (nI 1))).1 33 0 0 21), .ref (spl 33 0 0)] μ Q)
  refine jX.go (by rfl) (by rfl) (by rfl) (?_ : jX G jP 190 58 lv [.int (((siI q3.2 56 a4.1 a4.2 1 ((q3.2.1 56 a4.1 a4.2 1) + (nI 1))).1 33 0 0 21) + (nI 1)), .ref (spl 33 0 0)] μ Q)
  refine jX.spI R (by rfl) (by rfl) (by rfl) (by rfl) (by rfl) (by rfl) (by rfl) (by rfl) (by rfl) (fun μ R => (?_ : jX G jP 190 61 lv [] μ Q))
  refine jX.lrn l0 (by rfl) (by rfl) (?_ : jX G jP 190 62 lv [.ref (spl 33 0 0)] μ Q)
  refine jX.go (by rfl) (by rfl) (by rfl) (?_ : jX G jP 190 63 lv [.ref (spl 33 0 0), .ref (spl 33 0 0)] μ Q)
  refine jX.sg R (by rfl) (by rfl) (by rfl) (by rfl) (by rfl) (by rfl) (?_ : jX G jP 190 66 lv [.int ((siI (siI q3.2 56 a4.1 a4.2 1 ((q3.2.1 56 a4.1 a4.2 1) + (nI 1))) 33 0 0 21 (((siI q3.2 56 a4.1 a4.2 1 ((q3.2.1 56 a4.1 a4.2 1) + (nI 1))).1 33 0 0 21) + (nI 1))).1 33 0 0 20), .ref (spl 33 0 0)] μ Q)
  refine jX.ic (v := nI 1) (n := 1) (by rfl) (by rfl) (by decide) (?_ : jX G jP 190 67 lv [.int (nI 1), .int ((siI (siI q3.2 56 a4.1 a4.2 1 ((q3.2.1 56 a4.1 a4.2 1) + (nI 1))) 33 0 0 21 (((siI q3.2 56 a4.1 a4.2 1 ((q3.2.1 56 a4.1 a4.2 1) + (nI 1))).1 33 0 0 21) + (nI 1))).1 33 0 0 20), .ref (spl 33 0 0)] μ Q)
  refine jX.go (by rfl) (by rfl) (by rfl) (?_ : jX G jP 190 68 lv [.int (((siI (siI q3.2 56 a4.1 a4.2 1 ((q3.2.1 56 a4.1 a4.2 1) + (nI 1))) 33 0 0 21 (((siI q3.2 56 a4.1 a4.2 1 ((q3.2.1 56 a4.1 a4.2 1) + (nI 1))).1 33 0 0 21) + (nI 1))).1 33 0 0 20) + (nI 1)), .ref (spl 33 0 0)] μ Q)
  refine jX.spI R (by rfl) (by rfl) (by rfl) (by rfl) (by rfl) (by rfl) (by rfl) (by rfl) (by rfl) (fun μ R => (?_ : jX G jP 190 71 lv [] μ Q))
  refine jX.lrn l0 (by rfl) (by rfl) (?_ : jX G jP 190 72 lv [.ref (spl 33 0 0)] μ Q)
  refine jX.ic (v := nI 0) (n := 1) (by rfl) (by rfl) (by decide) (?_ : jX G jP 190 73 lv [.int (nI 0), .ref (spl 33 0 0)] μ Q)
  refine jX.spI R (by rfl) (by rfl) (by rfl) (by rfl) (by rfl) (by rfl) (by rfl) (by rfl) (by rfl) (fun μ R => (?_ : jX G jP 190 76 lv [] μ Q))
  refine jX.lrn l0 (by rfl) (by rfl) (?_ : jX G jP 190 77 lv [.ref (spl 33 0 0)] μ Q)
  refine jX.lrn l1 (by rfl) (by rfl) (?_ : jX G jP 190 78 lv [.ref (spl 54 a2.1 a2.2), .ref (spl 33 0 0)] μ Q)
  refine jX.lrn l2 (by rfl) (by rfl) (?_ : jX G jP 190 79 lv [.ref (spl 56 a4.1 a4.2), .ref (spl 54 a2.1 a2.2), .ref (spl 33 0 0)] μ Q)
  refine jX.li l4 (by rfl) (by rfl) (?_ : jX G jP 190 81 lv [.int (q3.2.1 41 0 0 ((q3.2.1 39 0 0 (q3.2.1 56 a4.1 a4.2 0).toNatClampNeg) + (q3.2.1 56 a4.1 a4.2 1)).toNatClampNeg), .ref (spl 56 a4.1 a4.2), .ref (spl 54 a2.1 a2.2), .ref (spl 33 0 0)] μ Q)
  refine jX.li l5 (by rfl) (by rfl) (?_ : jX G jP 190 83 lv [.int (q3.2.1 42 0 0 ((q3.2.1 39 0 0 (q3.2.1 56 a4.1 a4.2 0).toNatClampNeg) + (q3.2.1 56 a4.1 a4.2 1)).toNatClampNeg), .int (q3.2.1 41 0 0 ((q3.2.1 39 0 0 (q3.2.1 56 a4.1 a4.2 0).toNatClampNeg) + (q3.2.1 56 a4.1 a4.2 1)).toNatClampNeg), .ref (spl 56 a4.1 a4.2), .ref (spl 54 a2.1 a2.2), .ref (spl 33 0 0)] μ Q)
  obtain ⟨q9, e9, h⟩ := sbd h
  refine jX.cv (by rfl) (by rfl) (by rfl) (by rfl) (by rfl) (by rfl) (by rfl) (R.rec (by rfl) (by rfl)) (Nat.le_of_ble_eq_true rfl) (Nat.le_of_ble_eq_true rfl) (F_188_ok R e9 (fun μ R => ⟨rfl, (?_ : jX G jP 190 86 lv [] μ Q)⟩))
  refine jX.lrn l0 (by rfl) (by rfl) (?_ : jX G jP 190 87 lv [.ref (spl 33 0 0)] μ Q)
  refine jX.sg R (by rfl) (by rfl) (by rfl) (by rfl) (by rfl) (by rfl) (?_ : jX G jP 190 90 lv [.ref (spl 35 0 0)] μ Q)
  refine jX.ic (v := nI 0) (n := 1) (by rfl) (by rfl) (by decide) (?_ : jX G jP 190 91 lv [.int (nI 0), .ref (spl 35 0 0)] μ Q)
  obtain ⟨g10, h⟩ := jif_some h
  refine jX.sar (f := fun q => bif Nat.blt q 16 then some (spl 54 q 0) else none) R (by rfl) (by rfl) (by rfl) (by rfl) g10 (srf_in g10) (?_ : jX G jP 190 92 lv [.ref (spl 54 ((nI 0).toNatClampNeg) 0)] μ Q)
  obtain ⟨g11, h⟩ := jif_some h
  refine jX.sg R g11 (by rfl) (by rfl) (by rfl) (by rfl) (by rfl) (?_ : jX G jP 190 95 lv [.int (q9.2.1 54 ((nI 0).toNatClampNeg) 0 0)] μ Q)
  refine jX.ic (v := nI 5) (n := 1) (by rfl) (by rfl) (by decide) (?_ : jX G jP 190 96 lv [.int (nI 5), .int (q9.2.1 54 ((nI 0).toNatClampNeg) 0 0)] μ Q)
  rcases bif_or h with ⟨hc, h⟩ | ⟨hc, h⟩
  · refine jX.b2t hc (by rfl) (by rfl) (by rfl) (?_ : jX G jP 190 127 lv [] μ Q)
    refine jX.lrn l1 (by rfl) (by rfl) (?_ : jX G jP 190 128 lv [.ref (spl 54 a2.1 a2.2)] μ Q)
    obtain ⟨g12, h⟩ := jif_some h
    refine jX.sg R g12 (by rfl) (by rfl) (by rfl) (by rfl) (by rfl) (?_ : jX G jP 190 131 lv [.int (q9.2.1 54 a2.1 a2.2 0)] μ Q)
    refine jX.ic (v := nI 1) (n := 1) (by rfl) (by rfl) (by decide) (?_ : jX G jP 190 132 lv [.int (nI 1), .int (q9.2.1 54 a2.1 a2.2 0)] μ Q)
    rcases bif_or h with ⟨hc, h⟩ | ⟨hc, h⟩
    · refine jX.b2t hc (by rfl) (by rfl) (by rfl) (?_ : jX G jP 190 154 lv [] μ Q)
      exact F_190_154_ok  K a2 _ _ _ l0 l1 R h
    · refine jX.b2f hc (by rfl) (by rfl) (by rfl) (?_ : jX G jP 190 135 lv [] μ Q)
      refine jX.lrn l0 (by rfl) (by rfl) (?_ : jX G jP 190 136 lv [.ref (spl 33 0 0)] μ Q)
      refine jX.sg R (by rfl) (by rfl) (by rfl) (by rfl) (by rfl) (by rfl) (?_ : jX G jP 190 139 lv [.int (q9.2.1 33 0 0 38)] μ Q)
      rcases bif_or h with ⟨hc, h⟩ | ⟨hc, h⟩
      · refine jX.b1t hc (by rfl) (by rfl) (by rfl) (?_ : jX G jP 190 154 lv [] μ Q)
        exact F_190_154_ok  K a2 _ _ _ l0 l1 R h
      · refine jX.b1f hc (by rfl) (by rfl) (by rfl) (?_ : jX G jP 190 142 lv [] μ Q)
        refine jX.lrn l0 (by rfl) (by rfl) (?_ : jX G jP 190 143 lv [.ref (spl 33 0 0)] μ Q)
        refine jX.sg R (by rfl) (by rfl) (by rfl) (by rfl) (by rfl) (by rfl) (?_ : jX G jP 190 146 lv [.int (q9.2.1 33 0 0 20)] μ Q)
        refine jX.lrn l0 (by rfl) (by rfl) (?_ : jX G jP 190 147 lv [.ref (spl 33 0 0), .int (q9.2.1 33 0 0 20)] μ Q)
        refine jX.sg R (by rfl) (by rfl) (by rfl) (by rfl) (by rfl) (by rfl) (?_ : jX G jP 190 150 lv [.int (q9.2.1 33 0 0 18), .int (q9.2.1 33 0 0 20)] μ Q)
        rcases bif_or h with ⟨hc, h⟩ | ⟨hc, h⟩
        · refine jX.b2t hc (by rfl) (by rfl) (by rfl) (?_ : jX G jP 190 154 lv [] μ Q)
          exact F_190_154_ok  K a2 _ _ _ l0 l1 R h
        · refine jX.b2f hc (by rfl) (by rfl) (by rfl) (?_ : jX G jP 190 153 lv [] μ Q)
          exact jX.ret (by rfl) (by rfl) (by rfl) (by rfl) (sretv (f := srV) h K R)
  · refine jX.b2f hc (by rfl) (by rfl) (by rfl) (?_ : jX G jP 190 99 lv [] μ Q)
    refine jX.lrn l0 (by rfl) (by rfl) (?_ : jX G jP 190 100 lv [.ref (spl 33 0 0)] μ Q)
    refine jX.lrn l0 (by rfl) (by rfl) (?_ : jX G jP 190 101 lv [.ref (spl 33 0 0), .ref (spl 33 0 0)] μ Q)
    refine jX.sg R (by rfl) (by rfl) (by rfl) (by rfl) (by rfl) (by rfl) (?_ : jX G jP 190 104 lv [.ref (spl 35 0 0), .ref (spl 33 0 0)] μ Q)
    refine jX.ic (v := nI 0) (n := 1) (by rfl) (by rfl) (by decide) (?_ : jX G jP 190 105 lv [.int (nI 0), .ref (spl 35 0 0), .ref (spl 33 0 0)] μ Q)
    obtain ⟨g13, h⟩ := jif_some h
    refine jX.sar (f := fun q => bif Nat.blt q 16 then some (spl 54 q 0) else none) R (by rfl) (by rfl) (by rfl) (by rfl) g13 (srf_in g13) (?_ : jX G jP 190 106 lv [.ref (spl 54 ((nI 0).toNatClampNeg) 0), .ref (spl 33 0 0)] μ Q)
    refine jX.sg R g11 (by rfl) (by rfl) (by rfl) (by rfl) (by rfl) (?_ : jX G jP 190 109 lv [.int (q9.2.1 54 ((nI 0).toNatClampNeg) 0 0), .ref (spl 33 0 0)] μ Q)
    refine jX.ic (v := nI 5) (n := 1) (by rfl) (by rfl) (by decide) (?_ : jX G jP 190 110 lv [.int (nI 5), .int (q9.2.1 54 ((nI 0).toNatClampNeg) 0 0), .ref (spl 33 0 0)] μ Q)
    rcases bif_or h with ⟨hc, h⟩ | ⟨hc, h⟩
    · refine jX.b2t hc (by rfl) (by rfl) (by rfl) (?_ : jX G jP 190 117 lv [.ref (spl 33 0 0)] μ Q)
      refine jX.ic (v := nI 3) (n := 1) (by rfl) (by rfl) (by decide) (?_ : jX G jP 190 118 lv [.int (nI 3), .ref (spl 33 0 0)] μ Q)
      exact F_190_118_ok  K (nI 3) _ _ _ l0 R h
    · refine jX.b2f hc (by rfl) (by rfl) (by rfl) (?_ : jX G jP 190 113 lv [.ref (spl 33 0 0)] μ Q)
      refine jX.ic (v := nI 2) (n := 1) (by rfl) (by rfl) (by decide) (?_ : jX G jP 190 114 lv [.int (nI 2), .ref (spl 33 0 0)] μ Q)
      refine jX.go (by rfl) (by rfl) (by rfl) (?_ : jX G jP 190 118 lv [.int (nI 2), .ref (spl 33 0 0)] μ Q)
      exact F_190_118_ok  K (nI 2) _ _ _ l0 R h
/-! 191 StrandRuntimeModel.run(I)I -/
def F_191_44 (G : jG) (t : Nat) : Nat → Int32 → Int32 → sS → Option (Int32 × sS)
  | 0 => fun _ _ _ => none
  | tt + 1 => fun v1 v2 S => bif jcmp .ge v2 v1 then (some (v2, S)) else (bif jcmp .ne (S.1 33 0 0 17) (nI 1) then (some (v2, S)) else ((F_190 G t S).bind (fun q1 => F_191_44 G t tt v1 (v2 + Int32.ofInt 1) q1.2)))
theorem F_191_44_ok {G : jG} {t : Nat} {r : Int32} {S' : sS} {Q : Option Value ⊕ Nat → jS → Prop} (K : ∀ μ', sR S' μ' → Q (srI r) μ') : ∀ tt : Nat, ∀ (v1 : Int32) (v2 : Int32) (S : sS) (lv : jL) (μ : jS), jld lv 0 = some (.ref (spl 33 0 0)) → jld lv 1 = some (.int v1) → jld lv 2 = some (.int v2) → sR S μ → F_191_44 G t tt v1 v2 S = some (r, S') → jX G jP 191 44 lv [] μ Q := by
  intro tt
  induction tt with
  | zero =>
    intro v1 v2 S lv μ l0 l1 l2 R h
    rw [F_191_44] at h
    cases h
  | succ tt ih =>
    intro v1 v2 S lv μ l0 l1 l2 R h
    rw [F_191_44] at h
    refine jX.lin l2 (by rfl) (by rfl) (?_ : jX G jP 191 45 lv [.int v2] μ Q)
    refine jX.lin l1 (by rfl) (by rfl) (?_ : jX G jP 191 46 lv [.int v1, .int v2] μ Q)
    rcases bif_or h with ⟨hc, h⟩ | ⟨hc, h⟩
    · refine jX.b2t hc (by rfl) (by rfl) (by rfl) (?_ : jX G jP 191 67 lv [] μ Q)
      refine jX.lin l2 (by rfl) (by rfl) (?_ : jX G jP 191 68 lv [.int v2] μ Q)
      exact jX.ret (by rfl) (by rfl) (by rfl) (by rfl) (sretv (f := srI) h K R)
    · refine jX.b2f hc (by rfl) (by rfl) (by rfl) (?_ : jX G jP 191 49 lv [] μ Q)
      refine jX.lrn l0 (by rfl) (by rfl) (?_ : jX G jP 191 50 lv [.ref (spl 33 0 0)] μ Q)
      refine jX.sg R (by rfl) (by rfl) (by rfl) (by rfl) (by rfl) (by rfl) (?_ : jX G jP 191 53 lv [.int (S.1 33 0 0 17)] μ Q)
      refine jX.ic (v := nI 1) (n := 1) (by rfl) (by rfl) (by decide) (?_ : jX G jP 191 54 lv [.int (nI 1), .int (S.1 33 0 0 17)] μ Q)
      rcases bif_or h with ⟨hc, h⟩ | ⟨hc, h⟩
      · refine jX.b2t hc (by rfl) (by rfl) (by rfl) (?_ : jX G jP 191 67 lv [] μ Q)
        refine jX.lin l2 (by rfl) (by rfl) (?_ : jX G jP 191 68 lv [.int v2] μ Q)
        exact jX.ret (by rfl) (by rfl) (by rfl) (by rfl) (sretv (f := srI) h K R)
      · refine jX.b2f hc (by rfl) (by rfl) (by rfl) (?_ : jX G jP 191 57 lv [] μ Q)
        refine jX.lrn l0 (by rfl) (by rfl) (?_ : jX G jP 191 58 lv [.ref (spl 33 0 0)] μ Q)
        obtain ⟨q1, e1, h⟩ := sbd h
        refine jX.cv (by rfl) (by rfl) (by rfl) (by rfl) (by rfl) (by rfl) (by rfl) (R.rec (by rfl) (by rfl)) (Nat.le_of_ble_eq_true rfl) (Nat.le_of_ble_eq_true rfl) (F_190_ok R e1 (fun μ R => ⟨rfl, (?_ : jX G jP 191 61 lv [] μ Q)⟩))
        refine jX.inc l2 (by rfl) (by rfl) (by rfl) (fun lv l2 kp => (?_ : jX G jP 191 64 lv [] μ Q))
        replace l0 := kp 0 _ l0 (by rfl) (by first | rfl | simp [soR_cat])
        replace l1 := kp 1 _ l1 (by rfl) (by first | rfl | simp [soR_cat])
        refine jX.go (by rfl) (by rfl) (by rfl) (?_ : jX G jP 191 44 lv [] μ Q)
        exact ih v1 (v2 + Int32.ofInt 1) _ _ _ l0 l1 l2 R h
def F_191_30 (G : jG) (t : Nat) (v1 : Int32) (w0 : Int32) (S : sS) : Option (Int32 × sS) := bif jcmp .le ((siI S 33 0 0 25 w0).1 33 0 0 25) 0 then (F_191_44 G t t v1 (nI 0) (siI S 33 0 0 25 w0)) else (some ((nI 0), (siI S 33 0 0 25 w0)))
theorem F_191_30_ok {G : jG} {t : Nat} {r : Int32} {S' : sS} {Q : Option Value ⊕ Nat → jS → Prop} (K : ∀ μ', sR S' μ' → Q (srI r) μ') : ∀ (v1 : Int32) (w0 : Int32) (S : sS) (lv : jL) (μ : jS), jld lv 0 = some (.ref (spl 33 0 0)) → jld lv 1 = some (.int v1) → sR S μ → F_191_30 G t v1 w0 S = some (r, S') → jX G jP 191 30 lv [.int w0, .ref (spl 33 0 0)] μ Q := by
  intro v1 w0 S lv μ l0 l1 R h
  unfold F_191_30 at h
  refine jX.spI R (by rfl) (by rfl) (by rfl) (by rfl) (by rfl) (by rfl) (by rfl) (by rfl) (by rfl) (fun μ R => (?_ : jX G jP 191 33 lv [] μ Q))
  refine jX.lrn l0 (by rfl) (by rfl) (?_ : jX G jP 191 34 lv [.ref (spl 33 0 0)] μ Q)
  refine jX.sg R (by rfl) (by rfl) (by rfl) (by rfl) (by rfl) (by rfl) (?_ : jX G jP 191 37 lv [.int ((siI S 33 0 0 25 w0).1 33 0 0 25)] μ Q)
  rcases bif_or h with ⟨hc, h⟩ | ⟨hc, h⟩
  · refine jX.b1t hc (by rfl) (by rfl) (by rfl) (?_ : jX G jP 191 42 lv [] μ Q)
    refine jX.ic (v := nI 0) (n := 1) (by rfl) (by rfl) (by decide) (?_ : jX G jP 191 43 lv [.int (nI 0)] μ Q)
    refine jX.s1 (k := 2) (pc' := 44) (by rfl) (by rfl) (by rfl) (fun lv l2 kp => (?_ : jX G jP 191 44 lv [] μ Q))
    replace l0 := kp 0 _ l0 (by rfl) (by first | rfl | simp [soR_cat])
    replace l1 := kp 1 _ l1 (by rfl) (by first | rfl | simp [soR_cat])
    exact F_191_44_ok  K _ v1 (nI 0) _ _ _ l0 l1 l2 R h
  · refine jX.b1f hc (by rfl) (by rfl) (by rfl) (?_ : jX G jP 191 40 lv [] μ Q)
    refine jX.ic (v := nI 0) (n := 1) (by rfl) (by rfl) (by decide) (?_ : jX G jP 191 41 lv [.int (nI 0)] μ Q)
    exact jX.ret (by rfl) (by rfl) (by rfl) (by rfl) (sretv (f := srI) h K R)
def F_191_13 (G : jG) (t : Nat) (v1 : Int32) (S : sS) : Option (Int32 × sS) := F_191_30 G t v1 (nI 1) S
theorem F_191_13_ok {G : jG} {t : Nat} {r : Int32} {S' : sS} {Q : Option Value ⊕ Nat → jS → Prop} (K : ∀ μ', sR S' μ' → Q (srI r) μ') : ∀ (v1 : Int32) (S : sS) (lv : jL) (μ : jS), jld lv 0 = some (.ref (spl 33 0 0)) → jld lv 1 = some (.int v1) → sR S μ → F_191_13 G t v1 S = some (r, S') → jX G jP 191 13 lv [.ref (spl 33 0 0)] μ Q := by
  intro v1 S lv μ l0 l1 R h
  unfold F_191_13 at h
  refine jX.ic (v := nI 1) (n := 1) (by rfl) (by rfl) (by decide) (?_ : jX G jP 191 14 lv [.int (nI 1), .ref (spl 33 0 0)] μ Q)
  refine jX.go (by rfl) (by rfl) (by rfl) (?_ : jX G jP 191 30 lv [.int (nI 1), .ref (spl 33 0 0)] μ Q)
  exact F_191_30_ok  K v1 (nI 1) _ _ _ l0 l1 R h
def F_191 (G : jG) (t : Nat) (v1 : Int32) (S : sS) : Option (Int32 × sS) := bif jcmp .lt v1 (nI 1) then (F_191_13 G t v1 S) else (bif jcmp .le v1 (nI 1000) then (bif jcmp .eq (S.1 33 0 0 17) (nI 1) then (F_191_30 G t v1 (nI 0) S) else (F_191_30 G t v1 (nI 2) S)) else (F_191_13 G t v1 S))
theorem F_191_ok {G : jG} {t : Nat} {v1 : Int32} {S : sS} {r : Int32} {S' : sS} {μ : jS} {Q : Option Value ⊕ Nat → jS → Prop} (R : sR S μ) (h : F_191 G t v1 S = some (r, S')) (K : ∀ μ', sR S' μ' → Q (srI r) μ') : jX G jP 191 0 (lv_args 0 [.ref (spl 33 0 0), .int v1]) [] μ Q := by
  unfold F_191 at h
  have l0 : jld (lv_args 0 [.ref (spl 33 0 0), .int v1]) 0 = some (.ref (spl 33 0 0)) := by rfl
  have l1 : jld (lv_args 0 [.ref (spl 33 0 0), .int v1]) 1 = some (.int v1) := by rfl
  generalize lv_args 0 [.ref (spl 33 0 0), .int v1] = lv at *
  refine jX.lrn l0 (by rfl) (by rfl) (?_ : jX G jP 191 1 lv [.ref (spl 33 0 0)] μ Q)
  refine jX.lin l1 (by rfl) (by rfl) (?_ : jX G jP 191 2 lv [.int v1, .ref (spl 33 0 0)] μ Q)
  refine jX.ic (v := nI 1) (n := 1) (by rfl) (by rfl) (by decide) (?_ : jX G jP 191 3 lv [.int (nI 1), .int v1, .ref (spl 33 0 0)] μ Q)
  rcases bif_or h with ⟨hc, h⟩ | ⟨hc, h⟩
  · refine jX.b2t hc (by rfl) (by rfl) (by rfl) (?_ : jX G jP 191 13 lv [.ref (spl 33 0 0)] μ Q)
    exact F_191_13_ok  K v1 _ _ _ l0 l1 R h
  · refine jX.b2f hc (by rfl) (by rfl) (by rfl) (?_ : jX G jP 191 6 lv [.ref (spl 33 0 0)] μ Q)
    refine jX.lin l1 (by rfl) (by rfl) (?_ : jX G jP 191 7 lv [.int v1, .ref (spl 33 0 0)] μ Q)
    refine jX.ic (v := nI 1000) (n := 3) (by rfl) (by rfl) (by decide) (?_ : jX G jP 191 10 lv [.int (nI 1000), .int v1, .ref (spl 33 0 0)] μ Q)
    rcases bif_or h with ⟨hc, h⟩ | ⟨hc, h⟩
    · refine jX.b2t hc (by rfl) (by rfl) (by rfl) (?_ : jX G jP 191 17 lv [.ref (spl 33 0 0)] μ Q)
      refine jX.lrn l0 (by rfl) (by rfl) (?_ : jX G jP 191 18 lv [.ref (spl 33 0 0), .ref (spl 33 0 0)] μ Q)
      refine jX.sg R (by rfl) (by rfl) (by rfl) (by rfl) (by rfl) (by rfl) (?_ : jX G jP 191 21 lv [.int (S.1 33 0 0 17), .ref (spl 33 0 0)] μ Q)
      refine jX.ic (v := nI 1) (n := 1) (by rfl) (by rfl) (by decide) (?_ : jX G jP 191 22 lv [.int (nI 1), .int (S.1 33 0 0 17), .ref (spl 33 0 0)] μ Q)
      rcases bif_or h with ⟨hc, h⟩ | ⟨hc, h⟩
      · refine jX.b2t hc (by rfl) (by rfl) (by rfl) (?_ : jX G jP 191 29 lv [.ref (spl 33 0 0)] μ Q)
        refine jX.ic (v := nI 0) (n := 1) (by rfl) (by rfl) (by decide) (?_ : jX G jP 191 30 lv [.int (nI 0), .ref (spl 33 0 0)] μ Q)
        exact F_191_30_ok  K v1 (nI 0) _ _ _ l0 l1 R h
      · refine jX.b2f hc (by rfl) (by rfl) (by rfl) (?_ : jX G jP 191 25 lv [.ref (spl 33 0 0)] μ Q)
        refine jX.ic (v := nI 2) (n := 1) (by rfl) (by rfl) (by decide) (?_ : jX G jP 191 26 lv [.int (nI 2), .ref (spl 33 0 0)] μ Q)
        refine jX.go (by rfl) (by rfl) (by rfl) (?_ : jX G jP 191 30 lv [.int (nI 2), .ref (spl 33 0 0)] μ Q)
        exact F_191_30_ok  K v1 (nI 2) _ _ _ l0 l1 R h
    · refine jX.b2f hc (by rfl) (by rfl) (by rfl) (?_ : jX G jP 191 13 lv [.ref (spl 33 0 0)] μ Q)
      exact F_191_13_ok  K v1 _ _ _ l0 l1 R h
/-! 192 StrandRuntimeModel.state()I -/
def F_192 (G : jG) (t : Nat) (S : sS) : Option (Int32 × sS) := some (((siI S 33 0 0 25 (nI 0)).1 33 0 0 17), (siI S 33 0 0 25 (nI 0)))
theorem F_192_ok {G : jG} {t : Nat} {S : sS} {r : Int32} {S' : sS} {μ : jS} {Q : Option Value ⊕ Nat → jS → Prop} (R : sR S μ) (h : F_192 G t S = some (r, S')) (K : ∀ μ', sR S' μ' → Q (srI r) μ') : jX G jP 192 0 (lv_args 0 [.ref (spl 33 0 0)]) [] μ Q := by
  unfold F_192 at h
  have l0 : jld (lv_args 0 [.ref (spl 33 0 0)]) 0 = some (.ref (spl 33 0 0)) := by rfl
  generalize lv_args 0 [.ref (spl 33 0 0)] = lv at *
  refine jX.lrn l0 (by rfl) (by rfl) (?_ : jX G jP 192 1 lv [.ref (spl 33 0 0)] μ Q)
  refine jX.ic (v := nI 0) (n := 1) (by rfl) (by rfl) (by decide) (?_ : jX G jP 192 2 lv [.int (nI 0), .ref (spl 33 0 0)] μ Q)
  refine jX.spI R (by rfl) (by rfl) (by rfl) (by rfl) (by rfl) (by rfl) (by rfl) (by rfl) (by rfl) (fun μ R => (?_ : jX G jP 192 5 lv [] μ Q))
  refine jX.lrn l0 (by rfl) (by rfl) (?_ : jX G jP 192 6 lv [.ref (spl 33 0 0)] μ Q)
  refine jX.sg R (by rfl) (by rfl) (by rfl) (by rfl) (by rfl) (by rfl) (?_ : jX G jP 192 9 lv [.int ((siI S 33 0 0 25 (nI 0)).1 33 0 0 17)] μ Q)
  exact jX.ret (by rfl) (by rfl) (by rfl) (by rfl) (sretv (f := srI) h K R)
/-! 193 StrandRuntimeModel.take()J -/
def F_193 (G : jG) (t : Nat) (S : sS) : Option (Int64 × sS) := bif jcmp .ne ((siI S 33 0 0 25 (nI 0)).1 33 0 0 24) 0 then (jif (jin (nI 0) 2000) (jif (decide (¬ (nI 1) < 0 ∧ ¬ (nI 0) < 0 ∧ ¬ ((siI (siI S 33 0 0 25 (nI 0)) 33 0 0 24 (((siI S 33 0 0 25 (nI 0)).1 33 0 0 24) - (nI 1))).1 33 0 0 24) < 0 ∧ (nI 1).toNatClampNeg + ((siI (siI S 33 0 0 25 (nI 0)) 33 0 0 24 (((siI S 33 0 0 25 (nI 0)).1 33 0 0 24) - (nI 1))).1 33 0 0 24).toNatClampNeg ≤ 2000 ∧ (nI 0).toNatClampNeg + ((siI (siI S 33 0 0 25 (nI 0)) 33 0 0 24 (((siI S 33 0 0 25 (nI 0)).1 33 0 0 24) - (nI 1))).1 33 0 0 24).toNatClampNeg ≤ 2000)) (some (((siI S 33 0 0 25 (nI 0)).2.1 44 0 0 (nI 0).toNatClampNeg), (saL (siI (siI S 33 0 0 25 (nI 0)) 33 0 0 24 (((siI S 33 0 0 25 (nI 0)).1 33 0 0 24) - (nI 1))) 44 0 0 (va_cpy ((siI (siI S 33 0 0 25 (nI 0)) 33 0 0 24 (((siI S 33 0 0 25 (nI 0)).1 33 0 0 24) - (nI 1))).2.1 44 0 0) ((siI (siI S 33 0 0 25 (nI 0)) 33 0 0 24 (((siI S 33 0 0 25 (nI 0)).1 33 0 0 24) - (nI 1))).2.1 44 0 0) (nI 1).toNatClampNeg (nI 0).toNatClampNeg ((siI (siI S 33 0 0 25 (nI 0)) 33 0 0 24 (((siI S 33 0 0 25 (nI 0)).1 33 0 0 24) - (nI 1))).1 33 0 0 24).toNatClampNeg)))))) else (some (0, (siI S 33 0 0 25 (nI 0))))
theorem F_193_ok {G : jG} {t : Nat} {S : sS} {r : Int64} {S' : sS} {μ : jS} {Q : Option Value ⊕ Nat → jS → Prop} (R : sR S μ) (h : F_193 G t S = some (r, S')) (K : ∀ μ', sR S' μ' → Q (srL r) μ') : jX G jP 193 0 (lv_args 0 [.ref (spl 33 0 0)]) [] μ Q := by
  unfold F_193 at h
  have l0 : jld (lv_args 0 [.ref (spl 33 0 0)]) 0 = some (.ref (spl 33 0 0)) := by rfl
  generalize lv_args 0 [.ref (spl 33 0 0)] = lv at *
  refine jX.lrn l0 (by rfl) (by rfl) (?_ : jX G jP 193 1 lv [.ref (spl 33 0 0)] μ Q)
  refine jX.ic (v := nI 0) (n := 1) (by rfl) (by rfl) (by decide) (?_ : jX G jP 193 2 lv [.int (nI 0), .ref (spl 33 0 0)] μ Q)
  refine jX.spI R (by rfl) (by rfl) (by rfl) (by rfl) (by rfl) (by rfl) (by rfl) (by rfl) (by rfl) (fun μ R => (?_ : jX G jP 193 5 lv [] μ Q))
  refine jX.lrn l0 (by rfl) (by rfl) (?_ : jX G jP 193 6 lv [.ref (spl 33 0 0)] μ Q)
  refine jX.sg R (by rfl) (by rfl) (by rfl) (by rfl) (by rfl) (by rfl) (?_ : jX G jP 193 9 lv [.int ((siI S 33 0 0 25 (nI 0)).1 33 0 0 24)] μ Q)
  rcases bif_or h with ⟨hc, h⟩ | ⟨hc, h⟩
  · refine jX.b1t hc (by rfl) (by rfl) (by rfl) (?_ : jX G jP 193 14 lv [] μ Q)
    refine jX.lrn l0 (by rfl) (by rfl) (?_ : jX G jP 193 15 lv [.ref (spl 33 0 0)] μ Q)
    refine jX.sg R (by rfl) (by rfl) (by rfl) (by rfl) (by rfl) (by rfl) (?_ : jX G jP 193 18 lv [.ref (spl 44 0 0)] μ Q)
    refine jX.ic (v := nI 0) (n := 1) (by rfl) (by rfl) (by decide) (?_ : jX G jP 193 19 lv [.int (nI 0), .ref (spl 44 0 0)] μ Q)
    obtain ⟨g1, h⟩ := jif_some h
    refine jX.sal R (by rfl) (by rfl) (by rfl) (by rfl) g1 (?_ : jX G jP 193 20 lv [.long ((siI S 33 0 0 25 (nI 0)).2.1 44 0 0 (nI 0).toNatClampNeg)] μ Q)
    refine jX.s2 (k := 1) (pc' := 21) (by rfl) (by rfl) (by rfl) (fun lv l1 kp => (?_ : jX G jP 193 21 lv [] μ Q))
    replace l0 := kp 0 _ l0 (by rfl) (by first | rfl | simp [soR_cat])
    refine jX.lrn l0 (by rfl) (by rfl) (?_ : jX G jP 193 22 lv [.ref (spl 33 0 0)] μ Q)
    refine jX.go (by rfl) (by rfl) (by rfl) (?_ : jX G jP 193 23 lv [.ref (spl 33 0 0), .ref (spl 33 0 0)] μ Q)
    refine jX.sg R (by rfl) (by rfl) (by rfl) (by rfl) (by rfl) (by rfl) (?_ : jX G jP 193 26 lv [.int ((siI S 33 0 0 25 (nI 0)).1 33 0 0 24), .ref (spl 33 0 0)] μ Q)
    refine jX.ic (v := nI 1) (n := 1) (by rfl) (by rfl) (by decide) (?_ : jX G jP 193 27 lv [.int (nI 1), .int ((siI S 33 0 0 25 (nI 0)).1 33 0 0 24), .ref (spl 33 0 0)] μ Q)
    refine jX.go (by rfl) (by rfl) (by rfl) (?_ : jX G jP 193 28 lv [.int (((siI S 33 0 0 25 (nI 0)).1 33 0 0 24) - (nI 1)), .ref (spl 33 0 0)] μ Q)
    refine jX.spI R (by rfl) (by rfl) (by rfl) (by rfl) (by rfl) (by rfl) (by rfl) (by rfl) (by rfl) (fun μ R => (?_ : jX G jP 193 31 lv [] μ Q))
    refine jX.lrn l0 (by rfl) (by rfl) (?_ : jX G jP 193 32 lv [.ref (spl 33 0 0)] μ Q)
    refine jX.sg R (by rfl) (by rfl) (by rfl) (by rfl) (by rfl) (by rfl) (?_ : jX G jP 193 35 lv [.ref (spl 44 0 0)] μ Q)
    refine jX.ic (v := nI 1) (n := 1) (by rfl) (by rfl) (by decide) (?_ : jX G jP 193 36 lv [.int (nI 1), .ref (spl 44 0 0)] μ Q)
    refine jX.lrn l0 (by rfl) (by rfl) (?_ : jX G jP 193 37 lv [.ref (spl 33 0 0), .int (nI 1), .ref (spl 44 0 0)] μ Q)
    refine jX.sg R (by rfl) (by rfl) (by rfl) (by rfl) (by rfl) (by rfl) (?_ : jX G jP 193 40 lv [.ref (spl 44 0 0), .int (nI 1), .ref (spl 44 0 0)] μ Q)
    refine jX.ic (v := nI 0) (n := 1) (by rfl) (by rfl) (by decide) (?_ : jX G jP 193 41 lv [.int (nI 0), .ref (spl 44 0 0), .int (nI 1), .ref (spl 44 0 0)] μ Q)
    refine jX.lrn l0 (by rfl) (by rfl) (?_ : jX G jP 193 42 lv [.ref (spl 33 0 0), .int (nI 0), .ref (spl 44 0 0), .int (nI 1), .ref (spl 44 0 0)] μ Q)
    refine jX.sg R (by rfl) (by rfl) (by rfl) (by rfl) (by rfl) (by rfl) (?_ : jX G jP 193 45 lv [.int ((siI (siI S 33 0 0 25 (nI 0)) 33 0 0 24 (((siI S 33 0 0 25 (nI 0)).1 33 0 0 24) - (nI 1))).1 33 0 0 24), .int (nI 0), .ref (spl 44 0 0), .int (nI 1), .ref (spl 44 0 0)] μ Q)
    obtain ⟨g2, h⟩ := jif_some h
    refine jX.cpL (t := 44) (a := 0) (b := 0) (t' := 44) (a' := 0) (b' := 0) R (by rfl) (by rfl) (by rfl) (by rfl) (by rfl) (by rfl) (by rfl) (by rfl) (by rfl) (by rfl) (Nat.le_of_ble_eq_true rfl) (fun _ => by rfl) (fun _ => by rfl) g2 (fun μ R => (?_ : jX G jP 193 48 lv [] μ Q))
    refine jX.lln l1 (by rfl) (by rfl) (?_ : jX G jP 193 49 lv [.long ((siI S 33 0 0 25 (nI 0)).2.1 44 0 0 (nI 0).toNatClampNeg)] μ Q)
    exact jX.ret (by rfl) (by rfl) (by rfl) (by rfl) (sretv (f := srL) h K R)
  · refine jX.b1f hc (by rfl) (by rfl) (by rfl) (?_ : jX G jP 193 12 lv [] μ Q)
    refine jX.go (by rfl) (by rfl) (by rfl) (?_ : jX G jP 193 13 lv [.long 0] μ Q)
    exact jX.ret (by rfl) (by rfl) (by rfl) (by rfl) (sretv (f := srL) h K R)
/-! 194 StrandRuntimeLaw.strand(LStrandRuntime;II[J)I -/
def F_194 (G : jG) (t : Nat) (v1 : Int32) (v2 : Int32) (S : sS) : Option (Int32 × sS) := (F_124 G t v1 v2 S).bind (fun q1 => ssm q1.1 (fun y1 => jif (jin (nI 0) 1) (some ((nI 0), (siL q1.2 64 0 0 (nI 0).toNatClampNeg y1.toInt64)))) (fun x1 => bif Nat.beq x1 0 then (some ((nI 2), q1.2)) else (bif Nat.beq x1 2 then (some ((nI 1), q1.2)) else (none))))
theorem F_194_ok {G : jG} {t : Nat} {v1 : Int32} {v2 : Int32} {S : sS} {r : Int32} {S' : sS} {μ : jS} {Q : Option Value ⊕ Nat → jS → Prop} (R : sR S μ) (h : F_194 G t v1 v2 S = some (r, S')) (K : ∀ μ', sR S' μ' → Q (srI r) μ') : jX G jP 194 0 (lv_args 0 [.ref (spl 0 0 0), .int v1, .int v2, .ref (spl 64 0 0)]) [] μ Q := by
  unfold F_194 at h
  have l0 : jld (lv_args 0 [.ref (spl 0 0 0), .int v1, .int v2, .ref (spl 64 0 0)]) 0 = some (.ref (spl 0 0 0)) := by rfl
  have l1 : jld (lv_args 0 [.ref (spl 0 0 0), .int v1, .int v2, .ref (spl 64 0 0)]) 1 = some (.int v1) := by rfl
  have l2 : jld (lv_args 0 [.ref (spl 0 0 0), .int v1, .int v2, .ref (spl 64 0 0)]) 2 = some (.int v2) := by rfl
  have l3 : jld (lv_args 0 [.ref (spl 0 0 0), .int v1, .int v2, .ref (spl 64 0 0)]) 3 = some (.ref (spl 64 0 0)) := by rfl
  generalize lv_args 0 [.ref (spl 0 0 0), .int v1, .int v2, .ref (spl 64 0 0)] = lv at *
  refine jX.lrn l3 (by rfl) (by rfl) (?_ : jX G jP 194 1 lv [.ref (spl 64 0 0)] μ Q)
  refine jX.ic (v := nI 0) (n := 1) (by rfl) (by rfl) (by decide) (?_ : jX G jP 194 2 lv [.int (nI 0), .ref (spl 64 0 0)] μ Q)
  refine jX.lrn l0 (by rfl) (by rfl) (?_ : jX G jP 194 3 lv [.ref (spl 0 0 0), .int (nI 0), .ref (spl 64 0 0)] μ Q)
  refine jX.lin l1 (by rfl) (by rfl) (?_ : jX G jP 194 4 lv [.int v1, .ref (spl 0 0 0), .int (nI 0), .ref (spl 64 0 0)] μ Q)
  refine jX.lin l2 (by rfl) (by rfl) (?_ : jX G jP 194 5 lv [.int v2, .int v1, .ref (spl 0 0 0), .int (nI 0), .ref (spl 64 0 0)] μ Q)
  obtain ⟨q1, e1, h⟩ := sbd h
  refine jX.call (by rfl) (by rfl) (by rfl) (by rfl) (by rfl) (by rfl) (by rfl) (R.rec (by rfl) (by rfl)) (Nat.le_of_ble_eq_true rfl) (Nat.le_of_ble_eq_true rfl) (F_124_ok R e1 (fun μ R => ?_))
  rcases ssm_or h with ⟨y1, f1, h⟩ | ⟨x1, f1, h⟩
  · rw [f1]
    show jX G jP 194 8 lv [.int y1, .int (nI 0), .ref (spl 64 0 0)] μ Q
    refine jX.go (by rfl) (by rfl) (by rfl) (?_ : jX G jP 194 9 lv [.long y1.toInt64, .int (nI 0), .ref (spl 64 0 0)] μ Q)
    obtain ⟨g2, h⟩ := jif_some h
    refine jX.stl R (by rfl) (by rfl) (by rfl) (fun _ => by rfl) g2 (fun μ R => (?_ : jX G jP 194 10 lv [] μ Q))
    refine jX.go (by rfl) (by rfl) (by rfl) (?_ : jX G jP 194 21 lv [] μ Q)
    refine jX.ic (v := nI 0) (n := 1) (by rfl) (by rfl) (by decide) (?_ : jX G jP 194 22 lv [.int (nI 0)] μ Q)
    exact jX.ret (by rfl) (by rfl) (by rfl) (by rfl) (sretv (f := srI) h K R)
  · rw [f1]
    show ∃ hh z, jP.2.2.1 194 5 x1 = some (hh, z) ∧ jX G jP 194 hh (jdrop lv z) [] μ Q
    rcases bif_or h with ⟨hc, h⟩ | ⟨-, h⟩
    · obtain rfl := Nat.eq_of_beq_eq_true hc
      refine ⟨_, _, rfl, ?_⟩
      generalize jdrop lv 4 = lv
      show jX G jP 194 19 lv [] μ Q
      refine jX.ic (v := nI 2) (n := 1) (by rfl) (by rfl) (by decide) (?_ : jX G jP 194 20 lv [.int (nI 2)] μ Q)
      exact jX.ret (by rfl) (by rfl) (by rfl) (by rfl) (sretv (f := srI) h K R)
    rcases bif_or h with ⟨hc, h⟩ | ⟨-, h⟩
    · obtain rfl := Nat.eq_of_beq_eq_true hc
      refine ⟨_, _, rfl, ?_⟩
      generalize jdrop lv 4 = lv
      show jX G jP 194 15 lv [] μ Q
      refine jX.ic (v := nI 1) (n := 1) (by rfl) (by rfl) (by decide) (?_ : jX G jP 194 16 lv [.int (nI 1)] μ Q)
      exact jX.ret (by rfl) (by rfl) (by rfl) (by rfl) (sretv (f := srI) h K R)
    cases h
/-! 195 StrandRuntimeModel.strand(II)I -/
def F_195_30 (G : jG) (t : Nat) (v1 : Int32) (v2 : Int32) (w0 : Int32) (S : sS) : Option (Int32 × sS) := bif jcmp .le ((siI S 33 0 0 25 w0).1 33 0 0 25) 0 then (jif (jin v1 16) (bif jcmp .ne v2 0 then (bif jcmp .ne v2 (nI 1) then (bif jcmp .ne v2 (nI 6) then (jif (sex (siI S 33 0 0 25 w0).2.2.2.1 54 v1.toNatClampNeg 0) (bif jcmp .ne ((siI S 33 0 0 25 w0).1 54 v1.toNatClampNeg 0 1) 0 then ((F_151 G t (v1.toNatClampNeg, 0) (siI S 33 0 0 25 w0)).bind (fun q3 => bif jcmp .ne v2 (nI 2) then (bif jcmp .ne v2 (nI 3) then (bif jcmp .ne v2 (nI 4) then ((q3.1).bind (fun a4 => jif (sex q3.2.2.2.2.1 56 a4.1 a4.2) (some ((q3.2.1 56 a4.1 a4.2 3), q3.2)))) else ((q3.1).bind (fun a6 => jif (sex q3.2.2.2.2.1 56 a6.1 a6.2) (some ((q3.2.1 56 a6.1 a6.2 2), q3.2))))) else ((q3.1).bind (fun a8 => jif (sex q3.2.2.2.2.1 56 a8.1 a8.2) (some ((q3.2.1 56 a8.1 a8.2 1), q3.2))))) else ((q3.1).bind (fun a10 => jif (sex q3.2.2.2.2.1 56 a10.1 a10.2) (some ((q3.2.1 56 a10.1 a10.2 0), q3.2)))))) else (some ((nI 0), (siI S 33 0 0 25 w0))))) else (jif (sex (siI S 33 0 0 25 w0).2.2.2.1 54 v1.toNatClampNeg 0) (bif jcmp .lt ((siI S 33 0 0 25 w0).1 54 v1.toNatClampNeg 0 0) (nI 5) then (some ((nI 0), (siI S 33 0 0 25 w0))) else (some (((siI S 33 0 0 25 w0).1 54 v1.toNatClampNeg 0 2), (siI S 33 0 0 25 w0)))))) else (jif (sex (siI S 33 0 0 25 w0).2.2.2.1 54 v1.toNatClampNeg 0) (some (((siI S 33 0 0 25 w0).1 54 v1.toNatClampNeg 0 1), (siI S 33 0 0 25 w0))))) else (jif (sex (siI S 33 0 0 25 w0).2.2.2.1 54 v1.toNatClampNeg 0) (some (((siI S 33 0 0 25 w0).1 54 v1.toNatClampNeg 0 0), (siI S 33 0 0 25 w0)))))) else (some ((nI 0), (siI S 33 0 0 25 w0)))
theorem F_195_30_ok {G : jG} {t : Nat} {r : Int32} {S' : sS} {Q : Option Value ⊕ Nat → jS → Prop} (K : ∀ μ', sR S' μ' → Q (srI r) μ') : ∀ (v1 : Int32) (v2 : Int32) (w0 : Int32) (S : sS) (lv : jL) (μ : jS), jld lv 0 = some (.ref (spl 33 0 0)) → jld lv 1 = some (.int v1) → jld lv 2 = some (.int v2) → sR S μ → F_195_30 G t v1 v2 w0 S = some (r, S') → jX G jP 195 30 lv [.int w0, .ref (spl 33 0 0)] μ Q := by
  intro v1 v2 w0 S lv μ l0 l1 l2 R h
  unfold F_195_30 at h
  refine jX.spI R (by rfl) (by rfl) (by rfl) (by rfl) (by rfl) (by rfl) (by rfl) (by rfl) (by rfl) (fun μ R => (?_ : jX G jP 195 33 lv [] μ Q))
  refine jX.lrn l0 (by rfl) (by rfl) (?_ : jX G jP 195 34 lv [.ref (spl 33 0 0)] μ Q)
  refine jX.sg R (by rfl) (by rfl) (by rfl) (by rfl) (by rfl) (by rfl) (?_ : jX G jP 195 37 lv [.int ((siI S 33 0 0 25 w0).1 33 0 0 25)] μ Q)
  rcases bif_or h with ⟨hc, h⟩ | ⟨hc, h⟩
  · refine jX.b1t hc (by rfl) (by rfl) (by rfl) (?_ : jX G jP 195 42 lv [] μ Q)
    refine jX.lrn l0 (by rfl) (by rfl) (?_ : jX G jP 195 43 lv [.ref (spl 33 0 0)] μ Q)
    refine jX.sg R (by rfl) (by rfl) (by rfl) (by rfl) (by rfl) (by rfl) (?_ : jX G jP 195 46 lv [.ref (spl 35 0 0)] μ Q)
    refine jX.lin l1 (by rfl) (by rfl) (?_ : jX G jP 195 47 lv [.int v1, .ref (spl 35 0 0)] μ Q)
    obtain ⟨g1, h⟩ := jif_some h
    refine jX.sar (f := fun q => bif Nat.blt q 16 then some (spl 54 q 0) else none) R (by rfl) (by rfl) (by rfl) (by rfl) g1 (srf_in g1) (?_ : jX G jP 195 48 lv [.ref (spl 54 v1.toNatClampNeg 0)] μ Q)
    refine jX.s1 (k := 3) (pc' := 49) (by rfl) (by rfl) (by rfl) (fun lv l3 kp => (?_ : jX G jP 195 49 lv [] μ Q))
    replace l2 := kp 2 _ l2 (by rfl) (by first | rfl | simp [soR_cat])
    refine jX.lin l2 (by rfl) (by rfl) (?_ : jX G jP 195 50 lv [.int v2] μ Q)
    rcases bif_or h with ⟨hc, h⟩ | ⟨hc, h⟩
    · refine jX.b1t hc (by rfl) (by rfl) (by rfl) (?_ : jX G jP 195 58 lv [] μ Q)
      refine jX.lin l2 (by rfl) (by rfl) (?_ : jX G jP 195 59 lv [.int v2] μ Q)
      refine jX.ic (v := nI 1) (n := 1) (by rfl) (by rfl) (by decide) (?_ : jX G jP 195 60 lv [.int (nI 1), .int v2] μ Q)
      rcases bif_or h with ⟨hc, h⟩ | ⟨hc, h⟩
      · refine jX.b2t hc (by rfl) (by rfl) (by rfl) (?_ : jX G jP 195 68 lv [] μ Q)
        refine jX.lin l2 (by rfl) (by rfl) (?_ : jX G jP 195 69 lv [.int v2] μ Q)
        refine jX.ic (v := nI 6) (n := 2) (by rfl) (by rfl) (by decide) (?_ : jX G jP 195 71 lv [.int (nI 6), .int v2] μ Q)
        rcases bif_or h with ⟨hc, h⟩ | ⟨hc, h⟩
        · refine jX.b2t hc (by rfl) (by rfl) (by rfl) (?_ : jX G jP 195 91 lv [] μ Q)
          refine jX.lrn l3 (by rfl) (by rfl) (?_ : jX G jP 195 92 lv [.ref (spl 54 v1.toNatClampNeg 0)] μ Q)
          obtain ⟨g2, h⟩ := jif_some h
          refine jX.sg R g2 (by rfl) (by rfl) (by rfl) (by rfl) (by rfl) (?_ : jX G jP 195 95 lv [.int ((siI S 33 0 0 25 w0).1 54 v1.toNatClampNeg 0 1)] μ Q)
          rcases bif_or h with ⟨hc, h⟩ | ⟨hc, h⟩
          · refine jX.b1t hc (by rfl) (by rfl) (by rfl) (?_ : jX G jP 195 100 lv [] μ Q)
            refine jX.lrn l3 (by rfl) (by rfl) (?_ : jX G jP 195 101 lv [.ref (spl 54 v1.toNatClampNeg 0)] μ Q)
            obtain ⟨q3, e3, h⟩ := sbd h
            refine jX.c1 (v := soR 56 q3.1) (by rfl) (by rfl) (by rfl) (by rfl) (by rfl) (by rfl) (by rfl) (by rfl) (Nat.le_of_ble_eq_true rfl) (Nat.le_of_ble_eq_true rfl) (F_151_ok R e3 (fun μ R => ⟨rfl, (?_ : jX G jP 195 104 lv [soR 56 q3.1] μ Q)⟩))
            refine jX.so (k := 4) (pc' := 106) (by rfl) (by rfl) (fun _ => by rfl) (by rfl) (fun lv l4 kp => (?_ : jX G jP 195 106 lv [] μ Q))
            replace l2 := kp 2 _ l2 (by rfl) (by first | rfl | simp [soR_cat])
            refine jX.lin l2 (by rfl) (by rfl) (?_ : jX G jP 195 107 lv [.int v2] μ Q)
            refine jX.ic (v := nI 2) (n := 1) (by rfl) (by rfl) (by decide) (?_ : jX G jP 195 108 lv [.int (nI 2), .int v2] μ Q)
            rcases bif_or h with ⟨hc, h⟩ | ⟨hc, h⟩
            · refine jX.b2t hc (by rfl) (by rfl) (by rfl) (?_ : jX G jP 195 119 lv [] μ Q)
              refine jX.lin l2 (by rfl) (by rfl) (?_ : jX G jP 195 120 lv [.int v2] μ Q)
              refine jX.ic (v := nI 3) (n := 1) (by rfl) (by rfl) (by decide) (?_ : jX G jP 195 121 lv [.int (nI 3), .int v2] μ Q)
              rcases bif_or h with ⟨hc, h⟩ | ⟨hc, h⟩
              · refine jX.b2t hc (by rfl) (by rfl) (by rfl) (?_ : jX G jP 195 132 lv [] μ Q)
                refine jX.lin l2 (by rfl) (by rfl) (?_ : jX G jP 195 133 lv [.int v2] μ Q)
                refine jX.ic (v := nI 4) (n := 1) (by rfl) (by rfl) (by decide) (?_ : jX G jP 195 134 lv [.int (nI 4), .int v2] μ Q)
                rcases bif_or h with ⟨hc, h⟩ | ⟨hc, h⟩
                · refine jX.b2t hc (by rfl) (by rfl) (by rfl) (?_ : jX G jP 195 145 lv [] μ Q)
                  refine jX.lo l4 (by rfl) (by rfl) (?_ : jX G jP 195 147 lv [soR 56 q3.1] μ Q)
                  obtain ⟨a4, e4, h⟩ := sbd h
                  rw [soR_some (t := 56) e4]
                  rw [soR_some (t := 56) e4] at l4
                  obtain ⟨g5, h⟩ := jif_some h
                  refine jX.sg R g5 (by rfl) (by rfl) (by rfl) (by rfl) (by rfl) (?_ : jX G jP 195 150 lv [.int (q3.2.1 56 a4.1 a4.2 3)] μ Q)
                  exact jX.ret (by rfl) (by rfl) (by rfl) (by rfl) (sretv (f := srI) h K R)
                · refine jX.b2f hc (by rfl) (by rfl) (by rfl) (?_ : jX G jP 195 137 lv [] μ Q)
                  refine jX.lo l4 (by rfl) (by rfl) (?_ : jX G jP 195 139 lv [soR 56 q3.1] μ Q)
                  obtain ⟨a6, e6, h⟩ := sbd h
                  rw [soR_some (t := 56) e6]
                  rw [soR_some (t := 56) e6] at l4
                  obtain ⟨g7, h⟩ := jif_some h
                  refine jX.sg R g7 (by rfl) (by rfl) (by rfl) (by rfl) (by rfl) (?_ : jX G jP 195 142 lv [.int (q3.2.1 56 a6.1 a6.2 2)] μ Q)
                  refine jX.go (by rfl) (by rfl) (by rfl) (?_ : jX G jP 195 150 lv [.int (q3.2.1 56 a6.1 a6.2 2)] μ Q)
                  exact jX.ret (by rfl) (by rfl) (by rfl) (by rfl) (sretv (f := srI) h K R)
              · refine jX.b2f hc (by rfl) (by rfl) (by rfl) (?_ : jX G jP 195 124 lv [] μ Q)
                refine jX.lo l4 (by rfl) (by rfl) (?_ : jX G jP 195 126 lv [soR 56 q3.1] μ Q)
                obtain ⟨a8, e8, h⟩ := sbd h
                rw [soR_some (t := 56) e8]
                rw [soR_some (t := 56) e8] at l4
                obtain ⟨g9, h⟩ := jif_some h
                refine jX.sg R g9 (by rfl) (by rfl) (by rfl) (by rfl) (by rfl) (?_ : jX G jP 195 129 lv [.int (q3.2.1 56 a8.1 a8.2 1)] μ Q)
                refine jX.go (by rfl) (by rfl) (by rfl) (?_ : jX G jP 195 150 lv [.int (q3.2.1 56 a8.1 a8.2 1)] μ Q)
                exact jX.ret (by rfl) (by rfl) (by rfl) (by rfl) (sretv (f := srI) h K R)
            · refine jX.b2f hc (by rfl) (by rfl) (by rfl) (?_ : jX G jP 195 111 lv [] μ Q)
              refine jX.lo l4 (by rfl) (by rfl) (?_ : jX G jP 195 113 lv [soR 56 q3.1] μ Q)
              obtain ⟨a10, e10, h⟩ := sbd h
              rw [soR_some (t := 56) e10]
              rw [soR_some (t := 56) e10] at l4
              obtain ⟨g11, h⟩ := jif_some h
              refine jX.sg R g11 (by rfl) (by rfl) (by rfl) (by rfl) (by rfl) (?_ : jX G jP 195 116 lv [.int (q3.2.1 56 a10.1 a10.2 0)] μ Q)
              refine jX.go (by rfl) (by rfl) (by rfl) (?_ : jX G jP 195 150 lv [.int (q3.2.1 56 a10.1 a10.2 0)] μ Q)
              exact jX.ret (by rfl) (by rfl) (by rfl) (by rfl) (sretv (f := srI) h K R)
          · refine jX.b1f hc (by rfl) (by rfl) (by rfl) (?_ : jX G jP 195 98 lv [] μ Q)
            refine jX.ic (v := nI 0) (n := 1) (by rfl) (by rfl) (by decide) (?_ : jX G jP 195 99 lv [.int (nI 0)] μ Q)
            exact jX.ret (by rfl) (by rfl) (by rfl) (by rfl) (sretv (f := srI) h K R)
        · refine jX.b2f hc (by rfl) (by rfl) (by rfl) (?_ : jX G jP 195 74 lv [] μ Q)
          refine jX.lrn l3 (by rfl) (by rfl) (?_ : jX G jP 195 75 lv [.ref (spl 54 v1.toNatClampNeg 0)] μ Q)
          obtain ⟨g12, h⟩ := jif_some h
          refine jX.sg R g12 (by rfl) (by rfl) (by rfl) (by rfl) (by rfl) (?_ : jX G jP 195 78 lv [.int ((siI S 33 0 0 25 w0).1 54 v1.toNatClampNeg 0 0)] μ Q)
          refine jX.ic (v := nI 5) (n := 1) (by rfl) (by rfl) (by decide) (?_ : jX G jP 195 79 lv [.int (nI 5), .int ((siI S 33 0 0 25 w0).1 54 v1.toNatClampNeg 0 0)] μ Q)
          rcases bif_or h with ⟨hc, h⟩ | ⟨hc, h⟩
          · refine jX.b2t hc (by rfl) (by rfl) (by rfl) (?_ : jX G jP 195 89 lv [] μ Q)
            refine jX.ic (v := nI 0) (n := 1) (by rfl) (by rfl) (by decide) (?_ : jX G jP 195 90 lv [.int (nI 0)] μ Q)
            exact jX.ret (by rfl) (by rfl) (by rfl) (by rfl) (sretv (f := srI) h K R)
          · refine jX.b2f hc (by rfl) (by rfl) (by rfl) (?_ : jX G jP 195 82 lv [] μ Q)
            refine jX.lrn l3 (by rfl) (by rfl) (?_ : jX G jP 195 83 lv [.ref (spl 54 v1.toNatClampNeg 0)] μ Q)
            refine jX.sg R g12 (by rfl) (by rfl) (by rfl) (by rfl) (by rfl) (?_ : jX G jP 195 86 lv [.int ((siI S 33 0 0 25 w0).1 54 v1.toNatClampNeg 0 2)] μ Q)
            refine jX.go (by rfl) (by rfl) (by rfl) (?_ : jX G jP 195 90 lv [.int ((siI S 33 0 0 25 w0).1 54 v1.toNatClampNeg 0 2)] μ Q)
            exact jX.ret (by rfl) (by rfl) (by rfl) (by rfl) (sretv (f := srI) h K R)
      · refine jX.b2f hc (by rfl) (by rfl) (by rfl) (?_ : jX G jP 195 63 lv [] μ Q)
        refine jX.lrn l3 (by rfl) (by rfl) (?_ : jX G jP 195 64 lv [.ref (spl 54 v1.toNatClampNeg 0)] μ Q)
        obtain ⟨g13, h⟩ := jif_some h
        refine jX.sg R g13 (by rfl) (by rfl) (by rfl) (by rfl) (by rfl) (?_ : jX G jP 195 67 lv [.int ((siI S 33 0 0 25 w0).1 54 v1.toNatClampNeg 0 1)] μ Q)
        exact jX.ret (by rfl) (by rfl) (by rfl) (by rfl) (sretv (f := srI) h K R)
    · refine jX.b1f hc (by rfl) (by rfl) (by rfl) (?_ : jX G jP 195 53 lv [] μ Q)
      refine jX.lrn l3 (by rfl) (by rfl) (?_ : jX G jP 195 54 lv [.ref (spl 54 v1.toNatClampNeg 0)] μ Q)
      obtain ⟨g14, h⟩ := jif_some h
      refine jX.sg R g14 (by rfl) (by rfl) (by rfl) (by rfl) (by rfl) (?_ : jX G jP 195 57 lv [.int ((siI S 33 0 0 25 w0).1 54 v1.toNatClampNeg 0 0)] μ Q)
      exact jX.ret (by rfl) (by rfl) (by rfl) (by rfl) (sretv (f := srI) h K R)
  · refine jX.b1f hc (by rfl) (by rfl) (by rfl) (?_ : jX G jP 195 40 lv [] μ Q)
    refine jX.ic (v := nI 0) (n := 1) (by rfl) (by rfl) (by decide) (?_ : jX G jP 195 41 lv [.int (nI 0)] μ Q)
    exact jX.ret (by rfl) (by rfl) (by rfl) (by rfl) (sretv (f := srI) h K R)
def F_195_11 (G : jG) (t : Nat) (v1 : Int32) (v2 : Int32) (S : sS) : Option (Int32 × sS) := F_195_30 G t v1 v2 (nI 1) S
theorem F_195_11_ok {G : jG} {t : Nat} {r : Int32} {S' : sS} {Q : Option Value ⊕ Nat → jS → Prop} (K : ∀ μ', sR S' μ' → Q (srI r) μ') : ∀ (v1 : Int32) (v2 : Int32) (S : sS) (lv : jL) (μ : jS), jld lv 0 = some (.ref (spl 33 0 0)) → jld lv 1 = some (.int v1) → jld lv 2 = some (.int v2) → sR S μ → F_195_11 G t v1 v2 S = some (r, S') → jX G jP 195 11 lv [.ref (spl 33 0 0)] μ Q := by
  intro v1 v2 S lv μ l0 l1 l2 R h
  unfold F_195_11 at h
  refine jX.ic (v := nI 1) (n := 1) (by rfl) (by rfl) (by decide) (?_ : jX G jP 195 12 lv [.int (nI 1), .ref (spl 33 0 0)] μ Q)
  refine jX.go (by rfl) (by rfl) (by rfl) (?_ : jX G jP 195 30 lv [.int (nI 1), .ref (spl 33 0 0)] μ Q)
  exact F_195_30_ok  K v1 v2 (nI 1) _ _ _ l0 l1 l2 R h
def F_195_25 (G : jG) (t : Nat) (v1 : Int32) (v2 : Int32) (S : sS) : Option (Int32 × sS) := F_195_30 G t v1 v2 (nI 2) S
theorem F_195_25_ok {G : jG} {t : Nat} {r : Int32} {S' : sS} {Q : Option Value ⊕ Nat → jS → Prop} (K : ∀ μ', sR S' μ' → Q (srI r) μ') : ∀ (v1 : Int32) (v2 : Int32) (S : sS) (lv : jL) (μ : jS), jld lv 0 = some (.ref (spl 33 0 0)) → jld lv 1 = some (.int v1) → jld lv 2 = some (.int v2) → sR S μ → F_195_25 G t v1 v2 S = some (r, S') → jX G jP 195 25 lv [.ref (spl 33 0 0)] μ Q := by
  intro v1 v2 S lv μ l0 l1 l2 R h
  unfold F_195_25 at h
  refine jX.ic (v := nI 2) (n := 1) (by rfl) (by rfl) (by decide) (?_ : jX G jP 195 26 lv [.int (nI 2), .ref (spl 33 0 0)] μ Q)
  refine jX.go (by rfl) (by rfl) (by rfl) (?_ : jX G jP 195 30 lv [.int (nI 2), .ref (spl 33 0 0)] μ Q)
  exact F_195_30_ok  K v1 v2 (nI 2) _ _ _ l0 l1 l2 R h
def F_195 (G : jG) (t : Nat) (v1 : Int32) (v2 : Int32) (S : sS) : Option (Int32 × sS) := bif jcmp .lt v1 0 then (F_195_11 G t v1 v2 S) else (bif jcmp .lt v1 (nI 16) then (bif jcmp .lt v2 0 then (F_195_25 G t v1 v2 S) else (bif jcmp .le v2 (nI 6) then (F_195_30 G t v1 v2 (nI 0) S) else (F_195_25 G t v1 v2 S))) else (F_195_11 G t v1 v2 S))
theorem F_195_ok {G : jG} {t : Nat} {v1 : Int32} {v2 : Int32} {S : sS} {r : Int32} {S' : sS} {μ : jS} {Q : Option Value ⊕ Nat → jS → Prop} (R : sR S μ) (h : F_195 G t v1 v2 S = some (r, S')) (K : ∀ μ', sR S' μ' → Q (srI r) μ') : jX G jP 195 0 (lv_args 0 [.ref (spl 33 0 0), .int v1, .int v2]) [] μ Q := by
  unfold F_195 at h
  have l0 : jld (lv_args 0 [.ref (spl 33 0 0), .int v1, .int v2]) 0 = some (.ref (spl 33 0 0)) := by rfl
  have l1 : jld (lv_args 0 [.ref (spl 33 0 0), .int v1, .int v2]) 1 = some (.int v1) := by rfl
  have l2 : jld (lv_args 0 [.ref (spl 33 0 0), .int v1, .int v2]) 2 = some (.int v2) := by rfl
  generalize lv_args 0 [.ref (spl 33 0 0), .int v1, .int v2] = lv at *
  refine jX.lrn l0 (by rfl) (by rfl) (?_ : jX G jP 195 1 lv [.ref (spl 33 0 0)] μ Q)
  refine jX.lin l1 (by rfl) (by rfl) (?_ : jX G jP 195 2 lv [.int v1, .ref (spl 33 0 0)] μ Q)
  rcases bif_or h with ⟨hc, h⟩ | ⟨hc, h⟩
  · refine jX.b1t hc (by rfl) (by rfl) (by rfl) (?_ : jX G jP 195 11 lv [.ref (spl 33 0 0)] μ Q)
    exact F_195_11_ok  K v1 v2 _ _ _ l0 l1 l2 R h
  · refine jX.b1f hc (by rfl) (by rfl) (by rfl) (?_ : jX G jP 195 5 lv [.ref (spl 33 0 0)] μ Q)
    refine jX.lin l1 (by rfl) (by rfl) (?_ : jX G jP 195 6 lv [.int v1, .ref (spl 33 0 0)] μ Q)
    refine jX.ic (v := nI 16) (n := 2) (by rfl) (by rfl) (by decide) (?_ : jX G jP 195 8 lv [.int (nI 16), .int v1, .ref (spl 33 0 0)] μ Q)
    rcases bif_or h with ⟨hc, h⟩ | ⟨hc, h⟩
    · refine jX.b2t hc (by rfl) (by rfl) (by rfl) (?_ : jX G jP 195 15 lv [.ref (spl 33 0 0)] μ Q)
      refine jX.lin l2 (by rfl) (by rfl) (?_ : jX G jP 195 16 lv [.int v2, .ref (spl 33 0 0)] μ Q)
      rcases bif_or h with ⟨hc, h⟩ | ⟨hc, h⟩
      · refine jX.b1t hc (by rfl) (by rfl) (by rfl) (?_ : jX G jP 195 25 lv [.ref (spl 33 0 0)] μ Q)
        exact F_195_25_ok  K v1 v2 _ _ _ l0 l1 l2 R h
      · refine jX.b1f hc (by rfl) (by rfl) (by rfl) (?_ : jX G jP 195 19 lv [.ref (spl 33 0 0)] μ Q)
        refine jX.lin l2 (by rfl) (by rfl) (?_ : jX G jP 195 20 lv [.int v2, .ref (spl 33 0 0)] μ Q)
        refine jX.ic (v := nI 6) (n := 2) (by rfl) (by rfl) (by decide) (?_ : jX G jP 195 22 lv [.int (nI 6), .int v2, .ref (spl 33 0 0)] μ Q)
        rcases bif_or h with ⟨hc, h⟩ | ⟨hc, h⟩
        · refine jX.b2t hc (by rfl) (by rfl) (by rfl) (?_ : jX G jP 195 29 lv [.ref (spl 33 0 0)] μ Q)
          refine jX.ic (v := nI 0) (n := 1) (by rfl) (by rfl) (by decide) (?_ : jX G jP 195 30 lv [.int (nI 0), .ref (spl 33 0 0)] μ Q)
          exact F_195_30_ok  K v1 v2 (nI 0) _ _ _ l0 l1 l2 R h
        · refine jX.b2f hc (by rfl) (by rfl) (by rfl) (?_ : jX G jP 195 25 lv [.ref (spl 33 0 0)] μ Q)
          exact F_195_25_ok  K v1 v2 _ _ _ l0 l1 l2 R h
    · refine jX.b2f hc (by rfl) (by rfl) (by rfl) (?_ : jX G jP 195 11 lv [.ref (spl 33 0 0)] μ Q)
      exact F_195_11_ok  K v1 v2 _ _ _ l0 l1 l2 R h
/-! 196 StrandRuntimeLaw.operand(LStrandRuntime;II[J)I -/
def F_196 (G : jG) (t : Nat) (v1 : Int32) (v2 : Int32) (S : sS) : Option (Int32 × sS) := (F_70 G t v1 v2 S).bind (fun q1 => ssm q1.1 (fun y1 => jif (jin (nI 0) 1) (some ((nI 0), (siL q1.2 64 0 0 (nI 0).toNatClampNeg y1)))) (fun x1 => bif Nat.beq x1 2 then (some ((nI 1), q1.2)) else (none)))
theorem F_196_ok {G : jG} {t : Nat} {v1 : Int32} {v2 : Int32} {S : sS} {r : Int32} {S' : sS} {μ : jS} {Q : Option Value ⊕ Nat → jS → Prop} (R : sR S μ) (h : F_196 G t v1 v2 S = some (r, S')) (K : ∀ μ', sR S' μ' → Q (srI r) μ') : jX G jP 196 0 (lv_args 0 [.ref (spl 0 0 0), .int v1, .int v2, .ref (spl 64 0 0)]) [] μ Q := by
  unfold F_196 at h
  have l0 : jld (lv_args 0 [.ref (spl 0 0 0), .int v1, .int v2, .ref (spl 64 0 0)]) 0 = some (.ref (spl 0 0 0)) := by rfl
  have l1 : jld (lv_args 0 [.ref (spl 0 0 0), .int v1, .int v2, .ref (spl 64 0 0)]) 1 = some (.int v1) := by rfl
  have l2 : jld (lv_args 0 [.ref (spl 0 0 0), .int v1, .int v2, .ref (spl 64 0 0)]) 2 = some (.int v2) := by rfl
  have l3 : jld (lv_args 0 [.ref (spl 0 0 0), .int v1, .int v2, .ref (spl 64 0 0)]) 3 = some (.ref (spl 64 0 0)) := by rfl
  generalize lv_args 0 [.ref (spl 0 0 0), .int v1, .int v2, .ref (spl 64 0 0)] = lv at *
  refine jX.lrn l3 (by rfl) (by rfl) (?_ : jX G jP 196 1 lv [.ref (spl 64 0 0)] μ Q)
  refine jX.ic (v := nI 0) (n := 1) (by rfl) (by rfl) (by decide) (?_ : jX G jP 196 2 lv [.int (nI 0), .ref (spl 64 0 0)] μ Q)
  refine jX.lrn l0 (by rfl) (by rfl) (?_ : jX G jP 196 3 lv [.ref (spl 0 0 0), .int (nI 0), .ref (spl 64 0 0)] μ Q)
  refine jX.lin l1 (by rfl) (by rfl) (?_ : jX G jP 196 4 lv [.int v1, .ref (spl 0 0 0), .int (nI 0), .ref (spl 64 0 0)] μ Q)
  refine jX.lin l2 (by rfl) (by rfl) (?_ : jX G jP 196 5 lv [.int v2, .int v1, .ref (spl 0 0 0), .int (nI 0), .ref (spl 64 0 0)] μ Q)
  obtain ⟨q1, e1, h⟩ := sbd h
  refine jX.call (by rfl) (by rfl) (by rfl) (by rfl) (by rfl) (by rfl) (by rfl) (R.rec (by rfl) (by rfl)) (Nat.le_of_ble_eq_true rfl) (Nat.le_of_ble_eq_true rfl) (F_70_ok R e1 (fun μ R => ?_))
  rcases ssm_or h with ⟨y1, f1, h⟩ | ⟨x1, f1, h⟩
  · rw [f1]
    show jX G jP 196 8 lv [.long y1, .int (nI 0), .ref (spl 64 0 0)] μ Q
    obtain ⟨g2, h⟩ := jif_some h
    refine jX.stl R (by rfl) (by rfl) (by rfl) (fun _ => by rfl) g2 (fun μ R => (?_ : jX G jP 196 9 lv [] μ Q))
    refine jX.go (by rfl) (by rfl) (by rfl) (?_ : jX G jP 196 16 lv [] μ Q)
    refine jX.ic (v := nI 0) (n := 1) (by rfl) (by rfl) (by decide) (?_ : jX G jP 196 17 lv [.int (nI 0)] μ Q)
    exact jX.ret (by rfl) (by rfl) (by rfl) (by rfl) (sretv (f := srI) h K R)
  · rw [f1]
    show ∃ hh z, jP.2.2.1 196 5 x1 = some (hh, z) ∧ jX G jP 196 hh (jdrop lv z) [] μ Q
    rcases bif_or h with ⟨hc, h⟩ | ⟨-, h⟩
    · obtain rfl := Nat.eq_of_beq_eq_true hc
      refine ⟨_, _, rfl, ?_⟩
      generalize jdrop lv 4 = lv
      show jX G jP 196 14 lv [] μ Q
      refine jX.ic (v := nI 1) (n := 1) (by rfl) (by rfl) (by decide) (?_ : jX G jP 196 15 lv [.int (nI 1)] μ Q)
      exact jX.ret (by rfl) (by rfl) (by rfl) (by rfl) (sretv (f := srI) h K R)
    cases h
/-! 197 StrandRuntimeModel.isOperand(II)Z -/
def F_197_48 (G : jG) (t : Nat) (w0 : Int32) (S : sS) : Option (Int32 × sS) := bif jcmp .ne ((siI S 33 0 0 25 w0).1 33 0 0 25) 0 then (some ((nI 0), (siI S 33 0 0 25 w0))) else (some ((nI 1), (siI S 33 0 0 25 w0)))
theorem F_197_48_ok {G : jG} {t : Nat} {r : Int32} {S' : sS} {Q : Option Value ⊕ Nat → jS → Prop} (K : ∀ μ', sR S' μ' → Q (srI r) μ') : ∀ (w0 : Int32) (S : sS) (lv : jL) (μ : jS), jld lv 0 = some (.ref (spl 33 0 0)) → sR S μ → F_197_48 G t w0 S = some (r, S') → jX G jP 197 48 lv [.int w0, .ref (spl 33 0 0)] μ Q := by
  intro w0 S lv μ l0 R h
  unfold F_197_48 at h
  refine jX.spI R (by rfl) (by rfl) (by rfl) (by rfl) (by rfl) (by rfl) (by rfl) (by rfl) (by rfl) (fun μ R => (?_ : jX G jP 197 51 lv [] μ Q))
  refine jX.lrn l0 (by rfl) (by rfl) (?_ : jX G jP 197 52 lv [.ref (spl 33 0 0)] μ Q)
  refine jX.sg R (by rfl) (by rfl) (by rfl) (by rfl) (by rfl) (by rfl) (?_ : jX G jP 197 55 lv [.int ((siI S 33 0 0 25 w0).1 33 0 0 25)] μ Q)
  rcases bif_or h with ⟨hc, h⟩ | ⟨hc, h⟩
  · refine jX.b1t hc (by rfl) (by rfl) (by rfl) (?_ : jX G jP 197 62 lv [] μ Q)
    refine jX.ic (v := nI 0) (n := 1) (by rfl) (by rfl) (by decide) (?_ : jX G jP 197 63 lv [.int (nI 0)] μ Q)
    exact jX.ret (by rfl) (by rfl) (by rfl) (by rfl) (sretv (f := srI) h K R)
  · refine jX.b1f hc (by rfl) (by rfl) (by rfl) (?_ : jX G jP 197 58 lv [] μ Q)
    refine jX.ic (v := nI 1) (n := 1) (by rfl) (by rfl) (by decide) (?_ : jX G jP 197 59 lv [.int (nI 1)] μ Q)
    refine jX.go (by rfl) (by rfl) (by rfl) (?_ : jX G jP 197 63 lv [.int (nI 1)] μ Q)
    exact jX.ret (by rfl) (by rfl) (by rfl) (by rfl) (sretv (f := srI) h K R)
def F_197_43 (G : jG) (t : Nat) (S : sS) : Option (Int32 × sS) := F_197_48 G t (nI 1) S
theorem F_197_43_ok {G : jG} {t : Nat} {r : Int32} {S' : sS} {Q : Option Value ⊕ Nat → jS → Prop} (K : ∀ μ', sR S' μ' → Q (srI r) μ') : ∀ (S : sS) (lv : jL) (μ : jS), jld lv 0 = some (.ref (spl 33 0 0)) → sR S μ → F_197_43 G t S = some (r, S') → jX G jP 197 43 lv [.ref (spl 33 0 0)] μ Q := by
  intro S lv μ l0 R h
  unfold F_197_43 at h
  refine jX.ic (v := nI 1) (n := 1) (by rfl) (by rfl) (by decide) (?_ : jX G jP 197 44 lv [.int (nI 1), .ref (spl 33 0 0)] μ Q)
  refine jX.go (by rfl) (by rfl) (by rfl) (?_ : jX G jP 197 48 lv [.int (nI 1), .ref (spl 33 0 0)] μ Q)
  exact F_197_48_ok  K (nI 1) _ _ _ l0 R h
def F_197 (G : jG) (t : Nat) (v1 : Int32) (v2 : Int32) (S : sS) : Option (Int32 × sS) := bif jcmp .lt v1 0 then (F_197_43 G t S) else (bif jcmp .ge v1 (nI 16) then (F_197_43 G t S) else (bif jcmp .lt v2 0 then (F_197_43 G t S) else (jif (jin v1 16) (jif (sex S.2.2.2.1 54 v1.toNatClampNeg 0) (bif jcmp .eq (S.1 54 v1.toNatClampNeg 0 1) 0 then (F_197_43 G t S) else (jif (jin v1 16) ((F_151 G t (v1.toNatClampNeg, 0) S).bind (fun q4 => (q4.1).bind (fun a5 => jif (sex q4.2.2.2.2.1 56 a5.1 a5.2) (bif jcmp .lt v2 (q4.2.1 56 a5.1 a5.2 2) then (F_197_48 G t (nI 0) q4.2) else (F_197_43 G t q4.2)))))))))))
theorem F_197_ok {G : jG} {t : Nat} {v1 : Int32} {v2 : Int32} {S : sS} {r : Int32} {S' : sS} {μ : jS} {Q : Option Value ⊕ Nat → jS → Prop} (R : sR S μ) (h : F_197 G t v1 v2 S = some (r, S')) (K : ∀ μ', sR S' μ' → Q (srI r) μ') : jX G jP 197 0 (lv_args 0 [.ref (spl 33 0 0), .int v1, .int v2]) [] μ Q := by
  unfold F_197 at h
  have l0 : jld (lv_args 0 [.ref (spl 33 0 0), .int v1, .int v2]) 0 = some (.ref (spl 33 0 0)) := by rfl
  have l1 : jld (lv_args 0 [.ref (spl 33 0 0), .int v1, .int v2]) 1 = some (.int v1) := by rfl
  have l2 : jld (lv_args 0 [.ref (spl 33 0 0), .int v1, .int v2]) 2 = some (.int v2) := by rfl
  generalize lv_args 0 [.ref (spl 33 0 0), .int v1, .int v2] = lv at *
  refine jX.lrn l0 (by rfl) (by rfl) (?_ : jX G jP 197 1 lv [.ref (spl 33 0 0)] μ Q)
  refine jX.lin l1 (by rfl) (by rfl) (?_ : jX G jP 197 2 lv [.int v1, .ref (spl 33 0 0)] μ Q)
  rcases bif_or h with ⟨hc, h⟩ | ⟨hc, h⟩
  · refine jX.b1t hc (by rfl) (by rfl) (by rfl) (?_ : jX G jP 197 43 lv [.ref (spl 33 0 0)] μ Q)
    exact F_197_43_ok  K  _ _ _ l0 R h
  · refine jX.b1f hc (by rfl) (by rfl) (by rfl) (?_ : jX G jP 197 5 lv [.ref (spl 33 0 0)] μ Q)
    refine jX.lin l1 (by rfl) (by rfl) (?_ : jX G jP 197 6 lv [.int v1, .ref (spl 33 0 0)] μ Q)
    refine jX.ic (v := nI 16) (n := 2) (by rfl) (by rfl) (by decide) (?_ : jX G jP 197 8 lv [.int (nI 16), .int v1, .ref (spl 33 0 0)] μ Q)
    rcases bif_or h with ⟨hc, h⟩ | ⟨hc, h⟩
    · refine jX.b2t hc (by rfl) (by rfl) (by rfl) (?_ : jX G jP 197 43 lv [.ref (spl 33 0 0)] μ Q)
      exact F_197_43_ok  K  _ _ _ l0 R h
    · refine jX.b2f hc (by rfl) (by rfl) (by rfl) (?_ : jX G jP 197 11 lv [.ref (spl 33 0 0)] μ Q)
      refine jX.lin l2 (by rfl) (by rfl) (?_ : jX G jP 197 12 lv [.int v2, .ref (spl 33 0 0)] μ Q)
      rcases bif_or h with ⟨hc, h⟩ | ⟨hc, h⟩
      · refine jX.b1t hc (by rfl) (by rfl) (by rfl) (?_ : jX G jP 197 43 lv [.ref (spl 33 0 0)] μ Q)
        exact F_197_43_ok  K  _ _ _ l0 R h
      · refine jX.b1f hc (by rfl) (by rfl) (by rfl) (?_ : jX G jP 197 15 lv [.ref (spl 33 0 0)] μ Q)
        refine jX.lrn l0 (by rfl) (by rfl) (?_ : jX G jP 197 16 lv [.ref (spl 33 0 0), .ref (spl 33 0 0)] μ Q)
        refine jX.sg R (by rfl) (by rfl) (by rfl) (by rfl) (by rfl) (by rfl) (?_ : jX G jP 197 19 lv [.ref (spl 35 0 0), .ref (spl 33 0 0)] μ Q)
        refine jX.lin l1 (by rfl) (by rfl) (?_ : jX G jP 197 20 lv [.int v1, .ref (spl 35 0 0), .ref (spl 33 0 0)] μ Q)
        obtain ⟨g1, h⟩ := jif_some h
        refine jX.sar (f := fun q => bif Nat.blt q 16 then some (spl 54 q 0) else none) R (by rfl) (by rfl) (by rfl) (by rfl) g1 (srf_in g1) (?_ : jX G jP 197 21 lv [.ref (spl 54 v1.toNatClampNeg 0), .ref (spl 33 0 0)] μ Q)
        obtain ⟨g2, h⟩ := jif_some h
        refine jX.sg R g2 (by rfl) (by rfl) (by rfl) (by rfl) (by rfl) (?_ : jX G jP 197 24 lv [.int (S.1 54 v1.toNatClampNeg 0 1), .ref (spl 33 0 0)] μ Q)
        rcases bif_or h with ⟨hc, h⟩ | ⟨hc, h⟩
        · refine jX.b1t hc (by rfl) (by rfl) (by rfl) (?_ : jX G jP 197 43 lv [.ref (spl 33 0 0)] μ Q)
          exact F_197_43_ok  K  _ _ _ l0 R h
        · refine jX.b1f hc (by rfl) (by rfl) (by rfl) (?_ : jX G jP 197 27 lv [.ref (spl 33 0 0)] μ Q)
          refine jX.lin l2 (by rfl) (by rfl) (?_ : jX G jP 197 28 lv [.int v2, .ref (spl 33 0 0)] μ Q)
          refine jX.lrn l0 (by rfl) (by rfl) (?_ : jX G jP 197 29 lv [.ref (spl 33 0 0), .int v2, .ref (spl 33 0 0)] μ Q)
          refine jX.sg R (by rfl) (by rfl) (by rfl) (by rfl) (by rfl) (by rfl) (?_ : jX G jP 197 32 lv [.ref (spl 35 0 0), .int v2, .ref (spl 33 0 0)] μ Q)
          refine jX.lin l1 (by rfl) (by rfl) (?_ : jX G jP 197 33 lv [.int v1, .ref (spl 35 0 0), .int v2, .ref (spl 33 0 0)] μ Q)
          obtain ⟨g3, h⟩ := jif_some h
          refine jX.sar (f := fun q => bif Nat.blt q 16 then some (spl 54 q 0) else none) R (by rfl) (by rfl) (by rfl) (by rfl) g3 (srf_in g3) (?_ : jX G jP 197 34 lv [.ref (spl 54 v1.toNatClampNeg 0), .int v2, .ref (spl 33 0 0)] μ Q)
          obtain ⟨q4, e4, h⟩ := sbd h
          refine jX.c1 (v := soR 56 q4.1) (by rfl) (by rfl) (by rfl) (by rfl) (by rfl) (by rfl) (by rfl) (by rfl) (Nat.le_of_ble_eq_true rfl) (Nat.le_of_ble_eq_true rfl) (F_151_ok R e4 (fun μ R => ⟨rfl, (?_ : jX G jP 197 37 lv [soR 56 q4.1, .int v2, .ref (spl 33 0 0)] μ Q)⟩))
          obtain ⟨a5, e5, h⟩ := sbd h
          rw [soR_some (t := 56) e5]
          obtain ⟨g6, h⟩ := jif_some h
          refine jX.sg R g6 (by rfl) (by rfl) (by rfl) (by rfl) (by rfl) (?_ : jX G jP 197 40 lv [.int (q4.2.1 56 a5.1 a5.2 2), .int v2, .ref (spl 33 0 0)] μ Q)
          rcases bif_or h with ⟨hc, h⟩ | ⟨hc, h⟩
          · refine jX.b2t hc (by rfl) (by rfl) (by rfl) (?_ : jX G jP 197 47 lv [.ref (spl 33 0 0)] μ Q)
            refine jX.ic (v := nI 0) (n := 1) (by rfl) (by rfl) (by decide) (?_ : jX G jP 197 48 lv [.int (nI 0), .ref (spl 33 0 0)] μ Q)
            exact F_197_48_ok  K (nI 0) _ _ _ l0 R h
          · refine jX.b2f hc (by rfl) (by rfl) (by rfl) (?_ : jX G jP 197 43 lv [.ref (spl 33 0 0)] μ Q)
            exact F_197_43_ok  K  _ _ _ l0 R h
/-! 198 StrandRuntimeModel.operand(II)J -/
def F_198 (G : jG) (t : Nat) (v1 : Int32) (v2 : Int32) (S : sS) : Option (Int64 × sS) := (F_197 G t v1 v2 S).bind (fun q1 => bif jcmp .ne q1.1 0 then (jif (jin v1 16) ((F_151 G t (v1.toNatClampNeg, 0) q1.2).bind (fun q3 => (q3.1).bind (fun a4 => jif (sex q3.2.2.2.2.1 56 a4.1 a4.2) (jif (sex q3.2.2.2.2.1 58 a4.1 a4.2) (jif (jin (((q3.2.1 56 a4.1 a4.2 2) - (nI 1)) - v2) 16) (bif jcmp .ne (q3.2.1 58 a4.1 a4.2 (((q3.2.1 56 a4.1 a4.2 2) - (nI 1)) - v2).toNatClampNeg) 0 then (some (0, q3.2)) else (jif (sex q3.2.2.2.2.1 62 a4.1 a4.2) (jif (jin (((q3.2.1 56 a4.1 a4.2 2) - (nI 1)) - v2) 16) (some ((q3.2.2.1 62 a4.1 a4.2 (((q3.2.1 56 a4.1 a4.2 2) - (nI 1)) - v2).toNatClampNeg), q3.2))))))))))) else (some (0, q1.2)))
theorem F_198_ok {G : jG} {t : Nat} {v1 : Int32} {v2 : Int32} {S : sS} {r : Int64} {S' : sS} {μ : jS} {Q : Option Value ⊕ Nat → jS → Prop} (R : sR S μ) (h : F_198 G t v1 v2 S = some (r, S')) (K : ∀ μ', sR S' μ' → Q (srL r) μ') : jX G jP 198 0 (lv_args 0 [.ref (spl 33 0 0), .int v1, .int v2]) [] μ Q := by
  unfold F_198 at h
  have l0 : jld (lv_args 0 [.ref (spl 33 0 0), .int v1, .int v2]) 0 = some (.ref (spl 33 0 0)) := by rfl
  have l1 : jld (lv_args 0 [.ref (spl 33 0 0), .int v1, .int v2]) 1 = some (.int v1) := by rfl
  have l2 : jld (lv_args 0 [.ref (spl 33 0 0), .int v1, .int v2]) 2 = some (.int v2) := by rfl
  generalize lv_args 0 [.ref (spl 33 0 0), .int v1, .int v2] = lv at *
  refine jX.lrn l0 (by rfl) (by rfl) (?_ : jX G jP 198 1 lv [.ref (spl 33 0 0)] μ Q)
  refine jX.lin l1 (by rfl) (by rfl) (?_ : jX G jP 198 2 lv [.int v1, .ref (spl 33 0 0)] μ Q)
  refine jX.lin l2 (by rfl) (by rfl) (?_ : jX G jP 198 3 lv [.int v2, .int v1, .ref (spl 33 0 0)] μ Q)
  obtain ⟨q1, e1, h⟩ := sbd h
  refine jX.c1 (v := .int q1.1) (by rfl) (by rfl) (by rfl) (by rfl) (by rfl) (by rfl) (by rfl) (R.rec (by rfl) (by rfl)) (Nat.le_of_ble_eq_true rfl) (Nat.le_of_ble_eq_true rfl) (F_197_ok R e1 (fun μ R => ⟨rfl, (?_ : jX G jP 198 6 lv [.int q1.1] μ Q)⟩))
  rcases bif_or h with ⟨hc, h⟩ | ⟨hc, h⟩
  · refine jX.b1t hc (by rfl) (by rfl) (by rfl) (?_ : jX G jP 198 11 lv [] μ Q)
    refine jX.lrn l0 (by rfl) (by rfl) (?_ : jX G jP 198 12 lv [.ref (spl 33 0 0)] μ Q)
    refine jX.sg R (by rfl) (by rfl) (by rfl) (by rfl) (by rfl) (by rfl) (?_ : jX G jP 198 15 lv [.ref (spl 35 0 0)] μ Q)
    refine jX.lin l1 (by rfl) (by rfl) (?_ : jX G jP 198 16 lv [.int v1, .ref (spl 35 0 0)] μ Q)
    obtain ⟨g2, h⟩ := jif_some h
    refine jX.sar (f := fun q => bif Nat.blt q 16 then some (spl 54 q 0) else none) R (by rfl) (by rfl) (by rfl) (by rfl) g2 (srf_in g2) (?_ : jX G jP 198 17 lv [.ref (spl 54 v1.toNatClampNeg 0)] μ Q)
    obtain ⟨q3, e3, h⟩ := sbd h
    refine jX.c1 (v := soR 56 q3.1) (by rfl) (by rfl) (by rfl) (by rfl) (by rfl) (by rfl) (by rfl) (by rfl) (Nat.le_of_ble_eq_true rfl) (Nat.le_of_ble_eq_true rfl) (F_151_ok R e3 (fun μ R => ⟨rfl, (?_ : jX G jP 198 20 lv [soR 56 q3.1] μ Q)⟩))
    refine jX.so (k := 3) (pc' := 21) (by rfl) (by rfl) (fun _ => by rfl) (by rfl) (fun lv l3 kp => (?_ : jX G jP 198 21 lv [] μ Q))
    replace l2 := kp 2 _ l2 (by rfl) (by first | rfl | simp [soR_cat])
    refine jX.lon l3 (by rfl) (by rfl) (?_ : jX G jP 198 22 lv [soR 56 q3.1] μ Q)
    obtain ⟨a4, e4, h⟩ := sbd h
    rw [soR_some (t := 56) e4]
    rw [soR_some (t := 56) e4] at l3
    obtain ⟨g5, h⟩ := jif_some h
    refine jX.sg R g5 (by rfl) (by rfl) (by rfl) (by rfl) (by rfl) (?_ : jX G jP 198 25 lv [.int (q3.2.1 56 a4.1 a4.2 2)] μ Q)
    refine jX.ic (v := nI 1) (n := 1) (by rfl) (by rfl) (by decide) (?_ : jX G jP 198 26 lv [.int (nI 1), .int (q3.2.1 56 a4.1 a4.2 2)] μ Q)
    refine jX.go (by rfl) (by rfl) (by rfl) (?_ : jX G jP 198 27 lv [.int ((q3.2.1 56 a4.1 a4.2 2) - (nI 1))] μ Q)
    refine jX.lin l2 (by rfl) (by rfl) (?_ : jX G jP 198 28 lv [.int v2, .int ((q3.2.1 56 a4.1 a4.2 2) - (nI 1))] μ Q)
    refine jX.go (by rfl) (by rfl) (by rfl) (?_ : jX G jP 198 29 lv [.int (((q3.2.1 56 a4.1 a4.2 2) - (nI 1)) - v2)] μ Q)
    refine jX.s1 (k := 4) (pc' := 31) (by rfl) (by rfl) (by rfl) (fun lv l4 kp => (?_ : jX G jP 198 31 lv [] μ Q))
    replace l3 := kp 3 _ l3 (by rfl) (by first | rfl | simp [soR_cat])
    refine jX.lrn l3 (by rfl) (by rfl) (?_ : jX G jP 198 32 lv [.ref (spl 56 a4.1 a4.2)] μ Q)
    refine jX.sg R g5 (by rfl) (by rfl) (by rfl) (by rfl) (by rfl) (?_ : jX G jP 198 35 lv [.ref (spl 58 a4.1 a4.2)] μ Q)
    refine jX.li l4 (by rfl) (by rfl) (?_ : jX G jP 198 37 lv [.int (((q3.2.1 56 a4.1 a4.2 2) - (nI 1)) - v2), .ref (spl 58 a4.1 a4.2)] μ Q)
    obtain ⟨g6, h⟩ := jif_some h
    obtain ⟨g7, h⟩ := jif_some h
    refine jX.sai R g6 (by rfl) (by rfl) (by rfl) g7 (?_ : jX G jP 198 38 lv [.int (q3.2.1 58 a4.1 a4.2 (((q3.2.1 56 a4.1 a4.2 2) - (nI 1)) - v2).toNatClampNeg)] μ Q)
    rcases bif_or h with ⟨hc, h⟩ | ⟨hc, h⟩
    · refine jX.b1t hc (by rfl) (by rfl) (by rfl) (?_ : jX G jP 198 51 lv [] μ Q)
      refine jX.go (by rfl) (by rfl) (by rfl) (?_ : jX G jP 198 52 lv [.long 0] μ Q)
      exact jX.ret (by rfl) (by rfl) (by rfl) (by rfl) (sretv (f := srL) h K R)
    · refine jX.b1f hc (by rfl) (by rfl) (by rfl) (?_ : jX G jP 198 41 lv [] μ Q)
      refine jX.lrn l3 (by rfl) (by rfl) (?_ : jX G jP 198 42 lv [.ref (spl 56 a4.1 a4.2)] μ Q)
      refine jX.sg R g5 (by rfl) (by rfl) (by rfl) (by rfl) (by rfl) (?_ : jX G jP 198 45 lv [.ref (spl 62 a4.1 a4.2)] μ Q)
      refine jX.li l4 (by rfl) (by rfl) (?_ : jX G jP 198 47 lv [.int (((q3.2.1 56 a4.1 a4.2 2) - (nI 1)) - v2), .ref (spl 62 a4.1 a4.2)] μ Q)
      obtain ⟨g8, h⟩ := jif_some h
      obtain ⟨g9, h⟩ := jif_some h
      refine jX.sal R g8 (by rfl) (by rfl) (by rfl) g9 (?_ : jX G jP 198 48 lv [.long (q3.2.2.1 62 a4.1 a4.2 (((q3.2.1 56 a4.1 a4.2 2) - (nI 1)) - v2).toNatClampNeg)] μ Q)
      refine jX.go (by rfl) (by rfl) (by rfl) (?_ : jX G jP 198 52 lv [.long (q3.2.2.1 62 a4.1 a4.2 (((q3.2.1 56 a4.1 a4.2 2) - (nI 1)) - v2).toNatClampNeg)] μ Q)
      exact jX.ret (by rfl) (by rfl) (by rfl) (by rfl) (sretv (f := srL) h K R)
  · refine jX.b1f hc (by rfl) (by rfl) (by rfl) (?_ : jX G jP 198 9 lv [] μ Q)
    refine jX.go (by rfl) (by rfl) (by rfl) (?_ : jX G jP 198 10 lv [.long 0] μ Q)
    exact jX.ret (by rfl) (by rfl) (by rfl) (by rfl) (sretv (f := srL) h K R)
/-! 199 StrandRuntimeModel.kind(II)I -/
def F_199 (G : jG) (t : Nat) (v1 : Int32) (v2 : Int32) (S : sS) : Option (Int32 × sS) := (F_197 G t v1 v2 S).bind (fun q1 => bif jcmp .ne q1.1 0 then (jif (jin v1 16) ((F_151 G t (v1.toNatClampNeg, 0) q1.2).bind (fun q3 => (q3.1).bind (fun a4 => jif (sex q3.2.2.2.2.1 56 a4.1 a4.2) (jif (sex q3.2.2.2.2.1 58 a4.1 a4.2) (jif (jin (((q3.2.1 56 a4.1 a4.2 2) - (nI 1)) - v2) 16) (bif jcmp .ne (q3.2.1 58 a4.1 a4.2 (((q3.2.1 56 a4.1 a4.2 2) - (nI 1)) - v2).toNatClampNeg) (nI 2) then (jif (jin (((q3.2.1 56 a4.1 a4.2 2) - (nI 1)) - v2) 16) (some ((q3.2.1 58 a4.1 a4.2 (((q3.2.1 56 a4.1 a4.2 2) - (nI 1)) - v2).toNatClampNeg), q3.2))) else (jif (sex q3.2.2.2.2.1 62 a4.1 a4.2) (jif (jin (((q3.2.1 56 a4.1 a4.2 2) - (nI 1)) - v2) 16) (jif (jin ((q3.2.2.1 62 a4.1 a4.2 (((q3.2.1 56 a4.1 a4.2 2) - (nI 1)) - v2).toNatClampNeg).toInt32) 1300) (jif (sex q3.2.2.2.2.1 51 (((q3.2.2.1 62 a4.1 a4.2 (((q3.2.1 56 a4.1 a4.2 2) - (nI 1)) - v2).toNatClampNeg).toInt32).toNatClampNeg) 0) (some ((q3.2.1 51 (((q3.2.2.1 62 a4.1 a4.2 (((q3.2.1 56 a4.1 a4.2 2) - (nI 1)) - v2).toNatClampNeg).toInt32).toNatClampNeg) 0 0), q3.2))))))))))))) else (some ((nI 0), q1.2)))
theorem F_199_ok {G : jG} {t : Nat} {v1 : Int32} {v2 : Int32} {S : sS} {r : Int32} {S' : sS} {μ : jS} {Q : Option Value ⊕ Nat → jS → Prop} (R : sR S μ) (h : F_199 G t v1 v2 S = some (r, S')) (K : ∀ μ', sR S' μ' → Q (srI r) μ') : jX G jP 199 0 (lv_args 0 [.ref (spl 33 0 0), .int v1, .int v2]) [] μ Q := by
  unfold F_199 at h
  have l0 : jld (lv_args 0 [.ref (spl 33 0 0), .int v1, .int v2]) 0 = some (.ref (spl 33 0 0)) := by rfl
  have l1 : jld (lv_args 0 [.ref (spl 33 0 0), .int v1, .int v2]) 1 = some (.int v1) := by rfl
  have l2 : jld (lv_args 0 [.ref (spl 33 0 0), .int v1, .int v2]) 2 = some (.int v2) := by rfl
  generalize lv_args 0 [.ref (spl 33 0 0), .int v1, .int v2] = lv at *
  refine jX.lrn l0 (by rfl) (by rfl) (?_ : jX G jP 199 1 lv [.ref (spl 33 0 0)] μ Q)
  refine jX.lin l1 (by rfl) (by rfl) (?_ : jX G jP 199 2 lv [.int v1, .ref (spl 33 0 0)] μ Q)
  refine jX.lin l2 (by rfl) (by rfl) (?_ : jX G jP 199 3 lv [.int v2, .int v1, .ref (spl 33 0 0)] μ Q)
  obtain ⟨q1, e1, h⟩ := sbd h
  refine jX.c1 (v := .int q1.1) (by rfl) (by rfl) (by rfl) (by rfl) (by rfl) (by rfl) (by rfl) (R.rec (by rfl) (by rfl)) (Nat.le_of_ble_eq_true rfl) (Nat.le_of_ble_eq_true rfl) (F_197_ok R e1 (fun μ R => ⟨rfl, (?_ : jX G jP 199 6 lv [.int q1.1] μ Q)⟩))
  rcases bif_or h with ⟨hc, h⟩ | ⟨hc, h⟩
  · refine jX.b1t hc (by rfl) (by rfl) (by rfl) (?_ : jX G jP 199 11 lv [] μ Q)
    refine jX.lrn l0 (by rfl) (by rfl) (?_ : jX G jP 199 12 lv [.ref (spl 33 0 0)] μ Q)
    refine jX.sg R (by rfl) (by rfl) (by rfl) (by rfl) (by rfl) (by rfl) (?_ : jX G jP 199 15 lv [.ref (spl 35 0 0)] μ Q)
    refine jX.lin l1 (by rfl) (by rfl) (?_ : jX G jP 199 16 lv [.int v1, .ref (spl 35 0 0)] μ Q)
    obtain ⟨g2, h⟩ := jif_some h
    refine jX.sar (f := fun q => bif Nat.blt q 16 then some (spl 54 q 0) else none) R (by rfl) (by rfl) (by rfl) (by rfl) g2 (srf_in g2) (?_ : jX G jP 199 17 lv [.ref (spl 54 v1.toNatClampNeg 0)] μ Q)
    obtain ⟨q3, e3, h⟩ := sbd h
    refine jX.c1 (v := soR 56 q3.1) (by rfl) (by rfl) (by rfl) (by rfl) (by rfl) (by rfl) (by rfl) (by rfl) (Nat.le_of_ble_eq_true rfl) (Nat.le_of_ble_eq_true rfl) (F_151_ok R e3 (fun μ R => ⟨rfl, (?_ : jX G jP 199 20 lv [soR 56 q3.1] μ Q)⟩))
    refine jX.so (k := 3) (pc' := 21) (by rfl) (by rfl) (fun _ => by rfl) (by rfl) (fun lv l3 kp => (?_ : jX G jP 199 21 lv [] μ Q))
    replace l0 := kp 0 _ l0 (by rfl) (by first | rfl | simp [soR_cat])
    replace l2 := kp 2 _ l2 (by rfl) (by first | rfl | simp [soR_cat])
    refine jX.lon l3 (by rfl) (by rfl) (?_ : jX G jP 199 22 lv [soR 56 q3.1] μ Q)
    obtain ⟨a4, e4, h⟩ := sbd h
    rw [soR_some (t := 56) e4]
    rw [soR_some (t := 56) e4] at l3
    obtain ⟨g5, h⟩ := jif_some h
    refine jX.sg R g5 (by rfl) (by rfl) (by rfl) (by rfl) (by rfl) (?_ : jX G jP 199 25 lv [.int (q3.2.1 56 a4.1 a4.2 2)] μ Q)
    refine jX.ic (v := nI 1) (n := 1) (by rfl) (by rfl) (by decide) (?_ : jX G jP 199 26 lv [.int (nI 1), .int (q3.2.1 56 a4.1 a4.2 2)] μ Q)
    refine jX.go (by rfl) (by rfl) (by rfl) (?_ : jX G jP 199 27 lv [.int ((q3.2.1 56 a4.1 a4.2 2) - (nI 1))] μ Q)
    refine jX.lin l2 (by rfl) (by rfl) (?_ : jX G jP 199 28 lv [.int v2, .int ((q3.2.1 56 a4.1 a4.2 2) - (nI 1))] μ Q)
    refine jX.go (by rfl) (by rfl) (by rfl) (?_ : jX G jP 199 29 lv [.int (((q3.2.1 56 a4.1 a4.2 2) - (nI 1)) - v2)] μ Q)
    refine jX.s1 (k := 4) (pc' := 31) (by rfl) (by rfl) (by rfl) (fun lv l4 kp => (?_ : jX G jP 199 31 lv [] μ Q))
    replace l0 := kp 0 _ l0 (by rfl) (by first | rfl | simp [soR_cat])
    replace l3 := kp 3 _ l3 (by rfl) (by first | rfl | simp [soR_cat])
    refine jX.lrn l3 (by rfl) (by rfl) (?_ : jX G jP 199 32 lv [.ref (spl 56 a4.1 a4.2)] μ Q)
    refine jX.sg R g5 (by rfl) (by rfl) (by rfl) (by rfl) (by rfl) (?_ : jX G jP 199 35 lv [.ref (spl 58 a4.1 a4.2)] μ Q)
    refine jX.li l4 (by rfl) (by rfl) (?_ : jX G jP 199 37 lv [.int (((q3.2.1 56 a4.1 a4.2 2) - (nI 1)) - v2), .ref (spl 58 a4.1 a4.2)] μ Q)
    obtain ⟨g6, h⟩ := jif_some h
    obtain ⟨g7, h⟩ := jif_some h
    refine jX.sai R g6 (by rfl) (by rfl) (by rfl) g7 (?_ : jX G jP 199 38 lv [.int (q3.2.1 58 a4.1 a4.2 (((q3.2.1 56 a4.1 a4.2 2) - (nI 1)) - v2).toNatClampNeg)] μ Q)
    refine jX.ic (v := nI 2) (n := 1) (by rfl) (by rfl) (by decide) (?_ : jX G jP 199 39 lv [.int (nI 2), .int (q3.2.1 58 a4.1 a4.2 (((q3.2.1 56 a4.1 a4.2 2) - (nI 1)) - v2).toNatClampNeg)] μ Q)
    rcases bif_or h with ⟨hc, h⟩ | ⟨hc, h⟩
    · refine jX.b2t hc (by rfl) (by rfl) (by rfl) (?_ : jX G jP 199 61 lv [] μ Q)
      refine jX.lrn l3 (by rfl) (by rfl) (?_ : jX G jP 199 62 lv [.ref (spl 56 a4.1 a4.2)] μ Q)
      refine jX.sg R g5 (by rfl) (by rfl) (by rfl) (by rfl) (by rfl) (?_ : jX G jP 199 65 lv [.ref (spl 58 a4.1 a4.2)] μ Q)
      refine jX.li l4 (by rfl) (by rfl) (?_ : jX G jP 199 67 lv [.int (((q3.2.1 56 a4.1 a4.2 2) - (nI 1)) - v2), .ref (spl 58 a4.1 a4.2)] μ Q)
      obtain ⟨g8, h⟩ := jif_some h
      refine jX.sai R g6 (by rfl) (by rfl) (by rfl) g8 (?_ : jX G jP 199 68 lv [.int (q3.2.1 58 a4.1 a4.2 (((q3.2.1 56 a4.1 a4.2 2) - (nI 1)) - v2).toNatClampNeg)] μ Q)
      exact jX.ret (by rfl) (by rfl) (by rfl) (by rfl) (sretv (f := srI) h K R)
    · refine jX.b2f hc (by rfl) (by rfl) (by rfl) (?_ : jX G jP 199 42 lv [] μ Q)
      refine jX.lrn l0 (by rfl) (by rfl) (?_ : jX G jP 199 43 lv [.ref (spl 33 0 0)] μ Q)
      refine jX.sg R (by rfl) (by rfl) (by rfl) (by rfl) (by rfl) (by rfl) (?_ : jX G jP 199 46 lv [.ref (spl 34 0 0)] μ Q)
      refine jX.lrn l3 (by rfl) (by rfl) (?_ : jX G jP 199 47 lv [.ref (spl 56 a4.1 a4.2), .ref (spl 34 0 0)] μ Q)
      refine jX.sg R g5 (by rfl) (by rfl) (by rfl) (by rfl) (by rfl) (?_ : jX G jP 199 50 lv [.ref (spl 62 a4.1 a4.2), .ref (spl 34 0 0)] μ Q)
      refine jX.li l4 (by rfl) (by rfl) (?_ : jX G jP 199 52 lv [.int (((q3.2.1 56 a4.1 a4.2 2) - (nI 1)) - v2), .ref (spl 62 a4.1 a4.2), .ref (spl 34 0 0)] μ Q)
      obtain ⟨g9, h⟩ := jif_some h
      obtain ⟨g10, h⟩ := jif_some h
      refine jX.sal R g9 (by rfl) (by rfl) (by rfl) g10 (?_ : jX G jP 199 53 lv [.long (q3.2.2.1 62 a4.1 a4.2 (((q3.2.1 56 a4.1 a4.2 2) - (nI 1)) - v2).toNatClampNeg), .ref (spl 34 0 0)] μ Q)
      refine jX.go (by rfl) (by rfl) (by rfl) (?_ : jX G jP 199 54 lv [.int ((q3.2.2.1 62 a4.1 a4.2 (((q3.2.1 56 a4.1 a4.2 2) - (nI 1)) - v2).toNatClampNeg).toInt32), .ref (spl 34 0 0)] μ Q)
      obtain ⟨g11, h⟩ := jif_some h
      refine jX.sar (f := fun q => bif Nat.blt q 1300 then some (spl 51 q 0) else none) R (by rfl) (by rfl) (by rfl) (by rfl) g11 (srf_in g11) (?_ : jX G jP 199 55 lv [.ref (spl 51 (((q3.2.2.1 62 a4.1 a4.2 (((q3.2.1 56 a4.1 a4.2 2) - (nI 1)) - v2).toNatClampNeg).toInt32).toNatClampNeg) 0)] μ Q)
      obtain ⟨g12, h⟩ := jif_some h
      refine jX.sg R g12 (by rfl) (by rfl) (by rfl) (by rfl) (by rfl) (?_ : jX G jP 199 58 lv [.int (q3.2.1 51 (((q3.2.2.1 62 a4.1 a4.2 (((q3.2.1 56 a4.1 a4.2 2) - (nI 1)) - v2).toNatClampNeg).toInt32).toNatClampNeg) 0 0)] μ Q)
      refine jX.go (by rfl) (by rfl) (by rfl) (?_ : jX G jP 199 68 lv [.int (q3.2.1 51 (((q3.2.2.1 62 a4.1 a4.2 (((q3.2.1 56 a4.1 a4.2 2) - (nI 1)) - v2).toNatClampNeg).toInt32).toNatClampNeg) 0 0)] μ Q)
      exact jX.ret (by rfl) (by rfl) (by rfl) (by rfl) (sretv (f := srI) h K R)
  · refine jX.b1f hc (by rfl) (by rfl) (by rfl) (?_ : jX G jP 199 9 lv [] μ Q)
    refine jX.ic (v := nI 0) (n := 1) (by rfl) (by rfl) (by decide) (?_ : jX G jP 199 10 lv [.int (nI 0)] μ Q)
    exact jX.ret (by rfl) (by rfl) (by rfl) (by rfl) (sretv (f := srI) h K R)
/-! 200 StrandRuntimeModel.count(I)I -/
def F_200_115 (G : jG) (t : Nat) (k81 : Int32 → Int32 → Int32 → sS → Option (Int32 × sS)) (v1 : Int32) (v2 : Int32) (v3 : Int32) (S : sS) : Option (Int32 × sS) := k81 v1 v2 (v3 + Int32.ofInt 1) S
theorem F_200_115_ok {G : jG} {t : Nat} {k81 : Int32 → Int32 → Int32 → sS → Option (Int32 × sS)} {r : Int32} {S' : sS} {Q : Option Value ⊕ Nat → jS → Prop} (hk81 : ∀ (v1 : Int32) (v2 : Int32) (v3 : Int32) (S : sS) (lv : jL) (μ : jS), jld lv 0 = some (.ref (spl 33 0 0)) → jld lv 1 = some (.int v1) → jld lv 2 = some (.int v2) → jld lv 3 = some (.int v3) → sR S μ → k81 v1 v2 v3 S = some (r, S') → jX G jP 200 81 lv [] μ Q) (K : ∀ μ', sR S' μ' → Q (srI r) μ') : ∀ (v1 : Int32) (v2 : Int32) (v3 : Int32) (S : sS) (lv : jL) (μ : jS), jld lv 0 = some (.ref (spl 33 0 0)) → jld lv 1 = some (.int v1) → jld lv 2 = some (.int v2) → jld lv 3 = some (.int v3) → sR S μ → F_200_115 G t k81 v1 v2 v3 S = some (r, S') → jX G jP 200 115 lv [] μ Q := by
  intro v1 v2 v3 S lv μ l0 l1 l2 l3 R h
  unfold F_200_115 at h
  refine jX.inc l3 (by rfl) (by rfl) (by rfl) (fun lv l3 kp => (?_ : jX G jP 200 118 lv [] μ Q))
  replace l0 := kp 0 _ l0 (by rfl) (by first | rfl | simp [soR_cat])
  replace l1 := kp 1 _ l1 (by rfl) (by first | rfl | simp [soR_cat])
  replace l2 := kp 2 _ l2 (by rfl) (by first | rfl | simp [soR_cat])
  refine jX.go (by rfl) (by rfl) (by rfl) (?_ : jX G jP 200 81 lv [] μ Q)
  exact hk81 v1 v2 (v3 + Int32.ofInt 1) _ _ _ l0 l1 l2 l3 R h
def F_200_81 (G : jG) (t : Nat) : Nat → Int32 → Int32 → Int32 → sS → Option (Int32 × sS)
  | 0 => fun _ _ _ _ => none
  | tt + 1 => fun v1 v2 v3 S => bif jcmp .ge v3 (nI 16) then (bif decide (v1.toInt < 0 ∨ 6 < v1.toInt) then (some ((S.1 33 0 0 23), S)) else (bif decide (v1 = nI 0) then (some ((S.1 33 0 0 21), S)) else (bif decide (v1 = nI 1) then (some ((S.1 33 0 0 22), S)) else (bif decide (v1 = nI 2) then (some (v2, S)) else (bif decide (v1 = nI 3) then (some ((S.1 33 0 0 24), S)) else (bif decide (v1 = nI 4) then (some ((S.1 33 0 0 16), S)) else (bif decide (v1 = nI 5) then (some ((S.1 33 0 0 27), S)) else (bif decide (v1 = nI 6) then (some ((S.1 33 0 0 26), S)) else (none))))))))) else (jif (jin v3 16) (jif (sex S.2.2.2.1 54 v3.toNatClampNeg 0) (bif jcmp .le (S.1 54 v3.toNatClampNeg 0 0) 0 then (F_200_115 G t (F_200_81 G t tt) v1 v2 v3 S) else (jif (jin v3 16) (bif jcmp .ge (S.1 54 v3.toNatClampNeg 0 0) (nI 5) then (F_200_115 G t (F_200_81 G t tt) v1 v2 v3 S) else (F_200_115 G t (F_200_81 G t tt) v1 (v2 + Int32.ofInt 1) v3 S))))))
theorem F_200_81_ok {G : jG} {t : Nat} {r : Int32} {S' : sS} {Q : Option Value ⊕ Nat → jS → Prop} (K : ∀ μ', sR S' μ' → Q (srI r) μ') : ∀ tt : Nat, ∀ (v1 : Int32) (v2 : Int32) (v3 : Int32) (S : sS) (lv : jL) (μ : jS), jld lv 0 = some (.ref (spl 33 0 0)) → jld lv 1 = some (.int v1) → jld lv 2 = some (.int v2) → jld lv 3 = some (.int v3) → sR S μ → F_200_81 G t tt v1 v2 v3 S = some (r, S') → jX G jP 200 81 lv [] μ Q := by
  intro tt
  induction tt with
  | zero =>
    intro v1 v2 v3 S lv μ l0 l1 l2 l3 R h
    rw [F_200_81] at h
    cases h
  | succ tt ih =>
    intro v1 v2 v3 S lv μ l0 l1 l2 l3 R h
    rw [F_200_81] at h
    refine jX.lin l3 (by rfl) (by rfl) (?_ : jX G jP 200 82 lv [.int v3] μ Q)
    refine jX.ic (v := nI 16) (n := 2) (by rfl) (by rfl) (by decide) (?_ : jX G jP 200 84 lv [.int (nI 16), .int v3] μ Q)
    rcases bif_or h with ⟨hc, h⟩ | ⟨hc, h⟩
    · refine jX.b2t hc (by rfl) (by rfl) (by rfl) (?_ : jX G jP 200 121 lv [] μ Q)
      refine jX.lin l1 (by rfl) (by rfl) (?_ : jX G jP 200 122 lv [.int v1] μ Q)
      rcases bif_or h with ⟨hc, h⟩ | ⟨-, h⟩
      · refine jX.swd hc (by rfl) (by rfl) (by rfl) (?_ : jX G jP 200 196 lv [] μ Q)
        refine jX.lrn l0 (by rfl) (by rfl) (?_ : jX G jP 200 197 lv [.ref (spl 33 0 0)] μ Q)
        refine jX.sg R (by rfl) (by rfl) (by rfl) (by rfl) (by rfl) (by rfl) (?_ : jX G jP 200 200 lv [.int (S.1 33 0 0 23)] μ Q)
        exact jX.ret (by rfl) (by rfl) (by rfl) (by rfl) (sretv (f := srI) h K R)
      rcases bif_or h with ⟨hc, h⟩ | ⟨-, h⟩
      · refine jX.swn hc (by rfl) (by rfl) (by rfl) (?_ : jX G jP 200 164 lv [] μ Q)
        refine jX.lrn l0 (by rfl) (by rfl) (?_ : jX G jP 200 165 lv [.ref (spl 33 0 0)] μ Q)
        refine jX.sg R (by rfl) (by rfl) (by rfl) (by rfl) (by rfl) (by rfl) (?_ : jX G jP 200 168 lv [.int (S.1 33 0 0 21)] μ Q)
        exact jX.ret (by rfl) (by rfl) (by rfl) (by rfl) (sretv (f := srI) h K R)
      rcases bif_or h with ⟨hc, h⟩ | ⟨-, h⟩
      · refine jX.swn hc (by rfl) (by rfl) (by rfl) (?_ : jX G jP 200 169 lv [] μ Q)
        refine jX.lrn l0 (by rfl) (by rfl) (?_ : jX G jP 200 170 lv [.ref (spl 33 0 0)] μ Q)
        refine jX.sg R (by rfl) (by rfl) (by rfl) (by rfl) (by rfl) (by rfl) (?_ : jX G jP 200 173 lv [.int (S.1 33 0 0 22)] μ Q)
        exact jX.ret (by rfl) (by rfl) (by rfl) (by rfl) (sretv (f := srI) h K R)
      rcases bif_or h with ⟨hc, h⟩ | ⟨-, h⟩
      · refine jX.swn hc (by rfl) (by rfl) (by rfl) (?_ : jX G jP 200 174 lv [] μ Q)
        refine jX.lin l2 (by rfl) (by rfl) (?_ : jX G jP 200 175 lv [.int v2] μ Q)
        exact jX.ret (by rfl) (by rfl) (by rfl) (by rfl) (sretv (f := srI) h K R)
      rcases bif_or h with ⟨hc, h⟩ | ⟨-, h⟩
      · refine jX.swn hc (by rfl) (by rfl) (by rfl) (?_ : jX G jP 200 176 lv [] μ Q)
        refine jX.lrn l0 (by rfl) (by rfl) (?_ : jX G jP 200 177 lv [.ref (spl 33 0 0)] μ Q)
        refine jX.sg R (by rfl) (by rfl) (by rfl) (by rfl) (by rfl) (by rfl) (?_ : jX G jP 200 180 lv [.int (S.1 33 0 0 24)] μ Q)
        exact jX.ret (by rfl) (by rfl) (by rfl) (by rfl) (sretv (f := srI) h K R)
      rcases bif_or h with ⟨hc, h⟩ | ⟨-, h⟩
      · refine jX.swn hc (by rfl) (by rfl) (by rfl) (?_ : jX G jP 200 181 lv [] μ Q)
        refine jX.lrn l0 (by rfl) (by rfl) (?_ : jX G jP 200 182 lv [.ref (spl 33 0 0)] μ Q)
        refine jX.sg R (by rfl) (by rfl) (by rfl) (by rfl) (by rfl) (by rfl) (?_ : jX G jP 200 185 lv [.int (S.1 33 0 0 16)] μ Q)
        exact jX.ret (by rfl) (by rfl) (by rfl) (by rfl) (sretv (f := srI) h K R)
      rcases bif_or h with ⟨hc, h⟩ | ⟨-, h⟩
      · refine jX.swn hc (by rfl) (by rfl) (by rfl) (?_ : jX G jP 200 186 lv [] μ Q)
        refine jX.lrn l0 (by rfl) (by rfl) (?_ : jX G jP 200 187 lv [.ref (spl 33 0 0)] μ Q)
        refine jX.sg R (by rfl) (by rfl) (by rfl) (by rfl) (by rfl) (by rfl) (?_ : jX G jP 200 190 lv [.int (S.1 33 0 0 27)] μ Q)
        exact jX.ret (by rfl) (by rfl) (by rfl) (by rfl) (sretv (f := srI) h K R)
      rcases bif_or h with ⟨hc, h⟩ | ⟨-, h⟩
      · refine jX.swn hc (by rfl) (by rfl) (by rfl) (?_ : jX G jP 200 191 lv [] μ Q)
        refine jX.lrn l0 (by rfl) (by rfl) (?_ : jX G jP 200 192 lv [.ref (spl 33 0 0)] μ Q)
        refine jX.sg R (by rfl) (by rfl) (by rfl) (by rfl) (by rfl) (by rfl) (?_ : jX G jP 200 195 lv [.int (S.1 33 0 0 26)] μ Q)
        exact jX.ret (by rfl) (by rfl) (by rfl) (by rfl) (sretv (f := srI) h K R)
      cases h
    · refine jX.b2f hc (by rfl) (by rfl) (by rfl) (?_ : jX G jP 200 87 lv [] μ Q)
      refine jX.lrn l0 (by rfl) (by rfl) (?_ : jX G jP 200 88 lv [.ref (spl 33 0 0)] μ Q)
      refine jX.sg R (by rfl) (by rfl) (by rfl) (by rfl) (by rfl) (by rfl) (?_ : jX G jP 200 91 lv [.ref (spl 35 0 0)] μ Q)
      refine jX.lin l3 (by rfl) (by rfl) (?_ : jX G jP 200 92 lv [.int v3, .ref (spl 35 0 0)] μ Q)
      obtain ⟨g1, h⟩ := jif_some h
      refine jX.sar (f := fun q => bif Nat.blt q 16 then some (spl 54 q 0) else none) R (by rfl) (by rfl) (by rfl) (by rfl) g1 (srf_in g1) (?_ : jX G jP 200 93 lv [.ref (spl 54 v3.toNatClampNeg 0)] μ Q)
      obtain ⟨g2, h⟩ := jif_some h
      refine jX.sg R g2 (by rfl) (by rfl) (by rfl) (by rfl) (by rfl) (?_ : jX G jP 200 96 lv [.int (S.1 54 v3.toNatClampNeg 0 0)] μ Q)
      rcases bif_or h with ⟨hc, h⟩ | ⟨hc, h⟩
      · refine jX.b1t hc (by rfl) (by rfl) (by rfl) (?_ : jX G jP 200 115 lv [] μ Q)
        exact F_200_115_ok ih K v1 v2 v3 _ _ _ l0 l1 l2 l3 R h
      · refine jX.b1f hc (by rfl) (by rfl) (by rfl) (?_ : jX G jP 200 99 lv [] μ Q)
        refine jX.lrn l0 (by rfl) (by rfl) (?_ : jX G jP 200 100 lv [.ref (spl 33 0 0)] μ Q)
        refine jX.sg R (by rfl) (by rfl) (by rfl) (by rfl) (by rfl) (by rfl) (?_ : jX G jP 200 103 lv [.ref (spl 35 0 0)] μ Q)
        refine jX.lin l3 (by rfl) (by rfl) (?_ : jX G jP 200 104 lv [.int v3, .ref (spl 35 0 0)] μ Q)
        obtain ⟨g3, h⟩ := jif_some h
        refine jX.sar (f := fun q => bif Nat.blt q 16 then some (spl 54 q 0) else none) R (by rfl) (by rfl) (by rfl) (by rfl) g3 (srf_in g3) (?_ : jX G jP 200 105 lv [.ref (spl 54 v3.toNatClampNeg 0)] μ Q)
        refine jX.sg R g2 (by rfl) (by rfl) (by rfl) (by rfl) (by rfl) (?_ : jX G jP 200 108 lv [.int (S.1 54 v3.toNatClampNeg 0 0)] μ Q)
        refine jX.ic (v := nI 5) (n := 1) (by rfl) (by rfl) (by decide) (?_ : jX G jP 200 109 lv [.int (nI 5), .int (S.1 54 v3.toNatClampNeg 0 0)] μ Q)
        rcases bif_or h with ⟨hc, h⟩ | ⟨hc, h⟩
        · refine jX.b2t hc (by rfl) (by rfl) (by rfl) (?_ : jX G jP 200 115 lv [] μ Q)
          exact F_200_115_ok ih K v1 v2 v3 _ _ _ l0 l1 l2 l3 R h
        · refine jX.b2f hc (by rfl) (by rfl) (by rfl) (?_ : jX G jP 200 112 lv [] μ Q)
          refine jX.inc l2 (by rfl) (by rfl) (by rfl) (fun lv l2 kp => (?_ : jX G jP 200 115 lv [] μ Q))
          replace l0 := kp 0 _ l0 (by rfl) (by first | rfl | simp [soR_cat])
          replace l1 := kp 1 _ l1 (by rfl) (by first | rfl | simp [soR_cat])
          replace l3 := kp 3 _ l3 (by rfl) (by first | rfl | simp [soR_cat])
          exact F_200_115_ok ih K v1 (v2 + Int32.ofInt 1) v3 _ _ _ l0 l1 l2 l3 R h
def F_200_28 (G : jG) (t : Nat) (v1 : Int32) (w0 : Int32) (S : sS) : Option (Int32 × sS) := bif jcmp .le ((siI S 33 0 0 25 w0).1 33 0 0 25) 0 then (bif jcmp .lt v1 (nI 20) then ((F_167 G t (siI S 33 0 0 25 w0)).bind (fun q1 => F_200_81 G t t v1 (nI 0) (nI 0) q1.2)) else (jif (jin (v1 - (nI 20)) 16) (bif jcmp .ne ((siI S 33 0 0 25 w0).1 36 0 0 (v1 - (nI 20)).toNatClampNeg) 0 then (some ((nI 0), (siI S 33 0 0 25 w0))) else (jif (jin (v1 - (nI 20)) 16) (some ((((siI S 33 0 0 25 w0).2.1 43 0 0 (v1 - (nI 20)).toNatClampNeg).toInt32), (siI S 33 0 0 25 w0))))))) else (some ((nI 0), (siI S 33 0 0 25 w0)))
theorem F_200_28_ok {G : jG} {t : Nat} {r : Int32} {S' : sS} {Q : Option Value ⊕ Nat → jS → Prop} (K : ∀ μ', sR S' μ' → Q (srI r) μ') : ∀ (v1 : Int32) (w0 : Int32) (S : sS) (lv : jL) (μ : jS), jld lv 0 = some (.ref (spl 33 0 0)) → jld lv 1 = some (.int v1) → sR S μ → F_200_28 G t v1 w0 S = some (r, S') → jX G jP 200 28 lv [.int w0, .ref (spl 33 0 0)] μ Q := by
  intro v1 w0 S lv μ l0 l1 R h
  unfold F_200_28 at h
  refine jX.spI R (by rfl) (by rfl) (by rfl) (by rfl) (by rfl) (by rfl) (by rfl) (by rfl) (by rfl) (fun μ R => (?_ : jX G jP 200 31 lv [] μ Q))
  refine jX.lrn l0 (by rfl) (by rfl) (?_ : jX G jP 200 32 lv [.ref (spl 33 0 0)] μ Q)
  refine jX.sg R (by rfl) (by rfl) (by rfl) (by rfl) (by rfl) (by rfl) (?_ : jX G jP 200 35 lv [.int ((siI S 33 0 0 25 w0).1 33 0 0 25)] μ Q)
  rcases bif_or h with ⟨hc, h⟩ | ⟨hc, h⟩
  · refine jX.b1t hc (by rfl) (by rfl) (by rfl) (?_ : jX G jP 200 40 lv [] μ Q)
    refine jX.lin l1 (by rfl) (by rfl) (?_ : jX G jP 200 41 lv [.int v1] μ Q)
    refine jX.ic (v := nI 20) (n := 2) (by rfl) (by rfl) (by decide) (?_ : jX G jP 200 43 lv [.int (nI 20), .int v1] μ Q)
    rcases bif_or h with ⟨hc, h⟩ | ⟨hc, h⟩
    · refine jX.b2t hc (by rfl) (by rfl) (by rfl) (?_ : jX G jP 200 73 lv [] μ Q)
      refine jX.lrn l0 (by rfl) (by rfl) (?_ : jX G jP 200 74 lv [.ref (spl 33 0 0)] μ Q)
      obtain ⟨q1, e1, h⟩ := sbd h
      refine jX.cv (by rfl) (by rfl) (by rfl) (by rfl) (by rfl) (by rfl) (by rfl) (R.rec (by rfl) (by rfl)) (Nat.le_of_ble_eq_true rfl) (Nat.le_of_ble_eq_true rfl) (F_167_ok R e1 (fun μ R => ⟨rfl, (?_ : jX G jP 200 77 lv [] μ Q)⟩))
      refine jX.ic (v := nI 0) (n := 1) (by rfl) (by rfl) (by decide) (?_ : jX G jP 200 78 lv [.int (nI 0)] μ Q)
      refine jX.s1 (k := 2) (pc' := 79) (by rfl) (by rfl) (by rfl) (fun lv l2 kp => (?_ : jX G jP 200 79 lv [] μ Q))
      replace l0 := kp 0 _ l0 (by rfl) (by first | rfl | simp [soR_cat])
      replace l1 := kp 1 _ l1 (by rfl) (by first | rfl | simp [soR_cat])
      refine jX.ic (v := nI 0) (n := 1) (by rfl) (by rfl) (by decide) (?_ : jX G jP 200 80 lv [.int (nI 0)] μ Q)
      refine jX.s1 (k := 3) (pc' := 81) (by rfl) (by rfl) (by rfl) (fun lv l3 kp => (?_ : jX G jP 200 81 lv [] μ Q))
      replace l0 := kp 0 _ l0 (by rfl) (by first | rfl | simp [soR_cat])
      replace l1 := kp 1 _ l1 (by rfl) (by first | rfl | simp [soR_cat])
      replace l2 := kp 2 _ l2 (by rfl) (by first | rfl | simp [soR_cat])
      exact F_200_81_ok  K _ v1 (nI 0) (nI 0) _ _ _ l0 l1 l2 l3 R h
    · refine jX.b2f hc (by rfl) (by rfl) (by rfl) (?_ : jX G jP 200 46 lv [] μ Q)
      refine jX.lrn l0 (by rfl) (by rfl) (?_ : jX G jP 200 47 lv [.ref (spl 33 0 0)] μ Q)
      refine jX.sg R (by rfl) (by rfl) (by rfl) (by rfl) (by rfl) (by rfl) (?_ : jX G jP 200 50 lv [.ref (spl 36 0 0)] μ Q)
      refine jX.lin l1 (by rfl) (by rfl) (?_ : jX G jP 200 51 lv [.int v1, .ref (spl 36 0 0)] μ Q)
      refine jX.ic (v := nI 20) (n := 2) (by rfl) (by rfl) (by decide) (?_ : jX G jP 200 53 lv [.int (nI 20), .int v1, .ref (spl 36 0 0)] μ Q)
      refine jX.go (by rfl) (by rfl) (by rfl) (?_ : jX G jP 200 54 lv [.int (v1 - (nI 20)), .ref (spl 36 0 0)] μ Q)
      obtain ⟨g2, h⟩ := jif_some h
      refine jX.sai R (by rfl) (by rfl) (by rfl) (by rfl) g2 (?_ : jX G jP 200 55 lv [.int ((siI S 33 0 0 25 w0).1 36 0 0 (v1 - (nI 20)).toNatClampNeg)] μ Q)
      rcases bif_or h with ⟨hc, h⟩ | ⟨hc, h⟩
      · refine jX.b1t hc (by rfl) (by rfl) (by rfl) (?_ : jX G jP 200 71 lv [] μ Q)
        refine jX.ic (v := nI 0) (n := 1) (by rfl) (by rfl) (by decide) (?_ : jX G jP 200 72 lv [.int (nI 0)] μ Q)
        exact jX.ret (by rfl) (by rfl) (by rfl) (by rfl) (sretv (f := srI) h K R)
      · refine jX.b1f hc (by rfl) (by rfl) (by rfl) (?_ : jX G jP 200 58 lv [] μ Q)
        refine jX.lrn l0 (by rfl) (by rfl) (?_ : jX G jP 200 59 lv [.ref (spl 33 0 0)] μ Q)
        refine jX.sg R (by rfl) (by rfl) (by rfl) (by rfl) (by rfl) (by rfl) (?_ : jX G jP 200 62 lv [.ref (spl 43 0 0)] μ Q)
        refine jX.lin l1 (by rfl) (by rfl) (?_ : jX G jP 200 63 lv [.int v1, .ref (spl 43 0 0)] μ Q)
        refine jX.ic (v := nI 20) (n := 2) (by rfl) (by rfl) (by decide) (?_ : jX G jP 200 65 lv [.int (nI 20), .int v1, .ref (spl 43 0 0)] μ Q)
        refine jX.go (by rfl) (by rfl) (by rfl) (?_ : jX G jP 200 66 lv [.int (v1 - (nI 20)), .ref (spl 43 0 0)] μ Q)
        obtain ⟨g3, h⟩ := jif_some h
        refine jX.sal R (by rfl) (by rfl) (by rfl) (by rfl) g3 (?_ : jX G jP 200 67 lv [.long ((siI S 33 0 0 25 w0).2.1 43 0 0 (v1 - (nI 20)).toNatClampNeg)] μ Q)
        refine jX.go (by rfl) (by rfl) (by rfl) (?_ : jX G jP 200 68 lv [.int (((siI S 33 0 0 25 w0).2.1 43 0 0 (v1 - (nI 20)).toNatClampNeg).toInt32)] μ Q)
        refine jX.go (by rfl) (by rfl) (by rfl) (?_ : jX G jP 200 72 lv [.int (((siI S 33 0 0 25 w0).2.1 43 0 0 (v1 - (nI 20)).toNatClampNeg).toInt32)] μ Q)
        exact jX.ret (by rfl) (by rfl) (by rfl) (by rfl) (sretv (f := srI) h K R)
  · refine jX.b1f hc (by rfl) (by rfl) (by rfl) (?_ : jX G jP 200 38 lv [] μ Q)
    refine jX.ic (v := nI 0) (n := 1) (by rfl) (by rfl) (by decide) (?_ : jX G jP 200 39 lv [.int (nI 0)] μ Q)
    exact jX.ret (by rfl) (by rfl) (by rfl) (by rfl) (sretv (f := srI) h K R)
def F_200_23 (G : jG) (t : Nat) (v1 : Int32) (S : sS) : Option (Int32 × sS) := F_200_28 G t v1 (nI 0) S
theorem F_200_23_ok {G : jG} {t : Nat} {r : Int32} {S' : sS} {Q : Option Value ⊕ Nat → jS → Prop} (K : ∀ μ', sR S' μ' → Q (srI r) μ') : ∀ (v1 : Int32) (S : sS) (lv : jL) (μ : jS), jld lv 0 = some (.ref (spl 33 0 0)) → jld lv 1 = some (.int v1) → sR S μ → F_200_23 G t v1 S = some (r, S') → jX G jP 200 23 lv [.ref (spl 33 0 0)] μ Q := by
  intro v1 S lv μ l0 l1 R h
  unfold F_200_23 at h
  refine jX.ic (v := nI 0) (n := 1) (by rfl) (by rfl) (by decide) (?_ : jX G jP 200 24 lv [.int (nI 0), .ref (spl 33 0 0)] μ Q)
  refine jX.go (by rfl) (by rfl) (by rfl) (?_ : jX G jP 200 28 lv [.int (nI 0), .ref (spl 33 0 0)] μ Q)
  exact F_200_28_ok  K v1 (nI 0) _ _ _ l0 l1 R h
def F_200_27 (G : jG) (t : Nat) (v1 : Int32) (S : sS) : Option (Int32 × sS) := F_200_28 G t v1 (nI 1) S
theorem F_200_27_ok {G : jG} {t : Nat} {r : Int32} {S' : sS} {Q : Option Value ⊕ Nat → jS → Prop} (K : ∀ μ', sR S' μ' → Q (srI r) μ') : ∀ (v1 : Int32) (S : sS) (lv : jL) (μ : jS), jld lv 0 = some (.ref (spl 33 0 0)) → jld lv 1 = some (.int v1) → sR S μ → F_200_27 G t v1 S = some (r, S') → jX G jP 200 27 lv [.ref (spl 33 0 0)] μ Q := by
  intro v1 S lv μ l0 l1 R h
  unfold F_200_27 at h
  refine jX.ic (v := nI 1) (n := 1) (by rfl) (by rfl) (by decide) (?_ : jX G jP 200 28 lv [.int (nI 1), .ref (spl 33 0 0)] μ Q)
  exact F_200_28_ok  K v1 (nI 1) _ _ _ l0 l1 R h
def F_200_11 (G : jG) (t : Nat) (v1 : Int32) (S : sS) : Option (Int32 × sS) := bif jcmp .lt v1 (nI 20) then (F_200_27 G t v1 S) else (bif jcmp .gt v1 (nI 35) then (F_200_27 G t v1 S) else (F_200_23 G t v1 S))
theorem F_200_11_ok {G : jG} {t : Nat} {r : Int32} {S' : sS} {Q : Option Value ⊕ Nat → jS → Prop} (K : ∀ μ', sR S' μ' → Q (srI r) μ') : ∀ (v1 : Int32) (S : sS) (lv : jL) (μ : jS), jld lv 0 = some (.ref (spl 33 0 0)) → jld lv 1 = some (.int v1) → sR S μ → F_200_11 G t v1 S = some (r, S') → jX G jP 200 11 lv [.ref (spl 33 0 0)] μ Q := by
  intro v1 S lv μ l0 l1 R h
  unfold F_200_11 at h
  refine jX.lin l1 (by rfl) (by rfl) (?_ : jX G jP 200 12 lv [.int v1, .ref (spl 33 0 0)] μ Q)
  refine jX.ic (v := nI 20) (n := 2) (by rfl) (by rfl) (by decide) (?_ : jX G jP 200 14 lv [.int (nI 20), .int v1, .ref (spl 33 0 0)] μ Q)
  rcases bif_or h with ⟨hc, h⟩ | ⟨hc, h⟩
  · refine jX.b2t hc (by rfl) (by rfl) (by rfl) (?_ : jX G jP 200 27 lv [.ref (spl 33 0 0)] μ Q)
    exact F_200_27_ok  K v1 _ _ _ l0 l1 R h
  · refine jX.b2f hc (by rfl) (by rfl) (by rfl) (?_ : jX G jP 200 17 lv [.ref (spl 33 0 0)] μ Q)
    refine jX.lin l1 (by rfl) (by rfl) (?_ : jX G jP 200 18 lv [.int v1, .ref (spl 33 0 0)] μ Q)
    refine jX.ic (v := nI 35) (n := 2) (by rfl) (by rfl) (by decide) (?_ : jX G jP 200 20 lv [.int (nI 35), .int v1, .ref (spl 33 0 0)] μ Q)
    rcases bif_or h with ⟨hc, h⟩ | ⟨hc, h⟩
    · refine jX.b2t hc (by rfl) (by rfl) (by rfl) (?_ : jX G jP 200 27 lv [.ref (spl 33 0 0)] μ Q)
      exact F_200_27_ok  K v1 _ _ _ l0 l1 R h
    · refine jX.b2f hc (by rfl) (by rfl) (by rfl) (?_ : jX G jP 200 23 lv [.ref (spl 33 0 0)] μ Q)
      exact F_200_23_ok  K v1 _ _ _ l0 l1 R h
def F_200 (G : jG) (t : Nat) (v1 : Int32) (S : sS) : Option (Int32 × sS) := bif jcmp .lt v1 0 then (F_200_11 G t v1 S) else (bif jcmp .le v1 (nI 7) then (F_200_23 G t v1 S) else (F_200_11 G t v1 S))
theorem F_200_ok {G : jG} {t : Nat} {v1 : Int32} {S : sS} {r : Int32} {S' : sS} {μ : jS} {Q : Option Value ⊕ Nat → jS → Prop} (R : sR S μ) (h : F_200 G t v1 S = some (r, S')) (K : ∀ μ', sR S' μ' → Q (srI r) μ') : jX G jP 200 0 (lv_args 0 [.ref (spl 33 0 0), .int v1]) [] μ Q := by
  unfold F_200 at h
  have l0 : jld (lv_args 0 [.ref (spl 33 0 0), .int v1]) 0 = some (.ref (spl 33 0 0)) := by rfl
  have l1 : jld (lv_args 0 [.ref (spl 33 0 0), .int v1]) 1 = some (.int v1) := by rfl
  generalize lv_args 0 [.ref (spl 33 0 0), .int v1] = lv at *
  refine jX.lrn l0 (by rfl) (by rfl) (?_ : jX G jP 200 1 lv [.ref (spl 33 0 0)] μ Q)
  refine jX.lin l1 (by rfl) (by rfl) (?_ : jX G jP 200 2 lv [.int v1, .ref (spl 33 0 0)] μ Q)
  rcases bif_or h with ⟨hc, h⟩ | ⟨hc, h⟩
  · refine jX.b1t hc (by rfl) (by rfl) (by rfl) (?_ : jX G jP 200 11 lv [.ref (spl 33 0 0)] μ Q)
    exact F_200_11_ok  K v1 _ _ _ l0 l1 R h
  · refine jX.b1f hc (by rfl) (by rfl) (by rfl) (?_ : jX G jP 200 5 lv [.ref (spl 33 0 0)] μ Q)
    refine jX.lin l1 (by rfl) (by rfl) (?_ : jX G jP 200 6 lv [.int v1, .ref (spl 33 0 0)] μ Q)
    refine jX.ic (v := nI 7) (n := 2) (by rfl) (by rfl) (by decide) (?_ : jX G jP 200 8 lv [.int (nI 7), .int v1, .ref (spl 33 0 0)] μ Q)
    rcases bif_or h with ⟨hc, h⟩ | ⟨hc, h⟩
    · refine jX.b2t hc (by rfl) (by rfl) (by rfl) (?_ : jX G jP 200 23 lv [.ref (spl 33 0 0)] μ Q)
      exact F_200_23_ok  K v1 _ _ _ l0 l1 R h
    · refine jX.b2f hc (by rfl) (by rfl) (by rfl) (?_ : jX G jP 200 11 lv [.ref (spl 33 0 0)] μ Q)
      exact F_200_11_ok  K v1 _ _ _ l0 l1 R h
/-! 201 StrandRuntimeModel.digest()J -/
def F_201_316 (G : jG) (t : Nat) (k42 : Int64 → Int32 → Int32 → Int32 → sS → Option (Int64 × sS)) (k67 : Int64 → Int32 → Int32 → Int32 → Int32 → Int64 → sS → Option (Int64 × sS)) (v1 : Int64) (v3 : Int32) (v4 : Int32) (v5 : Int32) (S : sS) : Option (Int64 × sS) := bif jcmp .ne v4 0 then (jif (jin (v4 - (nI 1)) 1300) (jif (jin (S.1 49 0 0 (v4 - (nI 1)).toNatClampNeg) 1300) (jif (sex S.2.2.2.1 51 ((S.1 49 0 0 (v4 - (nI 1)).toNatClampNeg).toNatClampNeg) 0) (jif (jin (v4 - (nI 1)) 1300) (jif (sex S.2.2.2.1 52 ((S.1 49 0 0 (v4 - (nI 1)).toNatClampNeg).toNatClampNeg) 0) (jif (jin (S.1 50 0 0 (v4 - (nI 1)).toNatClampNeg) 16) (jif (jin (v4 - (nI 1)) 1300) (jif (sex S.2.2.2.1 53 ((S.1 49 0 0 (v4 - (nI 1)).toNatClampNeg).toNatClampNeg) 0) (jif (jin (S.1 50 0 0 (v4 - (nI 1)).toNatClampNeg) 16) (jif (jin (v4 - (nI 1)) 1300) (jif (jin (v4 - (nI 1)) 1300) (k67 v1 v3 v4 v5 (S.1 52 ((S.1 49 0 0 (v4 - (nI 1)).toNatClampNeg).toNatClampNeg) 0 (S.1 50 0 0 (v4 - (nI 1)).toNatClampNeg).toNatClampNeg) (S.2.1 53 ((S.1 49 0 0 (v4 - (nI 1)).toNatClampNeg).toNatClampNeg) 0 (S.1 50 0 0 (v4 - (nI 1)).toNatClampNeg).toNatClampNeg) (siI S 50 0 0 (v4 - (nI 1)).toNatClampNeg ((S.1 50 0 0 (v4 - (nI 1)).toNatClampNeg) + (nI 1))))))))))))))) else (k42 v1 v3 v4 (v5 + Int32.ofInt 1) S)
theorem F_201_316_ok {G : jG} {t : Nat} {k42 : Int64 → Int32 → Int32 → Int32 → sS → Option (Int64 × sS)} {k67 : Int64 → Int32 → Int32 → Int32 → Int32 → Int64 → sS → Option (Int64 × sS)} {r : Int64} {S' : sS} {Q : Option Value ⊕ Nat → jS → Prop} (hk42 : ∀ (v1 : Int64) (v3 : Int32) (v4 : Int32) (v5 : Int32) (S : sS) (lv : jL) (μ : jS), jld lv 0 = some (.ref (spl 33 0 0)) → jld lv 1 = some (.long v1) → jld lv 3 = some (.int v3) → jld lv 4 = some (.int v4) → jld lv 5 = some (.int v5) → sR S μ → k42 v1 v3 v4 v5 S = some (r, S') → jX G jP 201 42 lv [] μ Q) (hk67 : ∀ (v1 : Int64) (v3 : Int32) (v4 : Int32) (v5 : Int32) (v6 : Int32) (v7 : Int64) (S : sS) (lv : jL) (μ : jS), jld lv 0 = some (.ref (spl 33 0 0)) → jld lv 1 = some (.long v1) → jld lv 3 = some (.int v3) → jld lv 4 = some (.int v4) → jld lv 5 = some (.int v5) → jld lv 6 = some (.int v6) → jld lv 7 = some (.long v7) → sR S μ → k67 v1 v3 v4 v5 v6 v7 S = some (r, S') → jX G jP 201 67 lv [] μ Q) (K : ∀ μ', sR S' μ' → Q (srL r) μ') : ∀ (v1 : Int64) (v3 : Int32) (v4 : Int32) (v5 : Int32) (S : sS) (lv : jL) (μ : jS), jld lv 0 = some (.ref (spl 33 0 0)) → jld lv 1 = some (.long v1) → jld lv 3 = some (.int v3) → jld lv 4 = some (.int v4) → jld lv 5 = some (.int v5) → sR S μ → F_201_316 G t k42 k67 v1 v3 v4 v5 S = some (r, S') → jX G jP 201 316 lv [] μ Q := by
  intro v1 v3 v4 v5 S lv μ l0 l1 l3 l4 l5 R h
  unfold F_201_316 at h
  refine jX.li l4 (by rfl) (by rfl) (?_ : jX G jP 201 318 lv [.int v4] μ Q)
  rcases bif_or h with ⟨hc, h⟩ | ⟨hc, h⟩
  · refine jX.b1t hc (by rfl) (by rfl) (by rfl) (?_ : jX G jP 201 324 lv [] μ Q)
    refine jX.lrn l0 (by rfl) (by rfl) (?_ : jX G jP 201 325 lv [.ref (spl 33 0 0)] μ Q)
    refine jX.sg R (by rfl) (by rfl) (by rfl) (by rfl) (by rfl) (by rfl) (?_ : jX G jP 201 328 lv [.ref (spl 34 0 0)] μ Q)
    refine jX.lrn l0 (by rfl) (by rfl) (?_ : jX G jP 201 329 lv [.ref (spl 33 0 0), .ref (spl 34 0 0)] μ Q)
    refine jX.sg R (by rfl) (by rfl) (by rfl) (by rfl) (by rfl) (by rfl) (?_ : jX G jP 201 332 lv [.ref (spl 49 0 0), .ref (spl 34 0 0)] μ Q)
    refine jX.li l4 (by rfl) (by rfl) (?_ : jX G jP 201 334 lv [.int v4, .ref (spl 49 0 0), .ref (spl 34 0 0)] μ Q)
    refine jX.ic (v := nI 1) (n := 1) (by rfl) (by rfl) (by decide) (?_ : jX G jP 201 335 lv [.int (nI 1), .int v4, .ref (spl 49 0 0), .ref (spl 34 0 0)] μ Q)
    refine jX.go (by rfl) (by rfl) (by rfl) (?_ : jX G jP 201 336 lv [.int (v4 - (nI 1)), .ref (spl 49 0 0), .ref (spl 34 0 0)] μ Q)
    obtain ⟨g1, h⟩ := jif_some h
    refine jX.sai R (by rfl) (by rfl) (by rfl) (by rfl) g1 (?_ : jX G jP 201 337 lv [.int (S.1 49 0 0 (v4 - (nI 1)).toNatClampNeg), .ref (spl 34 0 0)] μ Q)
    obtain ⟨g2, h⟩ := jif_some h
    refine jX.sar (f := fun q => bif Nat.blt q 1300 then some (spl 51 q 0) else none) R (by rfl) (by rfl) (by rfl) (by rfl) g2 (srf_in g2) (?_ : jX G jP 201 338 lv [.ref (spl 51 ((S.1 49 0 0 (v4 - (nI 1)).toNatClampNeg).toNatClampNeg) 0)] μ Q)
    refine jX.s1 (k := 9) (pc' := 340) (by rfl) (by rfl) (by rfl) (fun lv l9 kp => (?_ : jX G jP 201 340 lv [] μ Q))
    replace l0 := kp 0 _ l0 (by rfl) (by first | rfl | simp [soR_cat])
    replace l1 := kp 1 _ l1 (by rfl) (by first | rfl | simp [soR_cat])
    replace l3 := kp 3 _ l3 (by rfl) (by first | rfl | simp [soR_cat])
    replace l4 := kp 4 _ l4 (by rfl) (by first | rfl | simp [soR_cat])
    replace l5 := kp 5 _ l5 (by rfl) (by first | rfl | simp [soR_cat])
    refine jX.lr l9 (by rfl) (by rfl) (?_ : jX G jP 201 342 lv [.ref (spl 51 ((S.1 49 0 0 (v4 - (nI 1)).toNatClampNeg).toNatClampNeg) 0)] μ Q)
    obtain ⟨g3, h⟩ := jif_some h
    refine jX.sg R g3 (by rfl) (by rfl) (by rfl) (by rfl) (by rfl) (?_ : jX G jP 201 345 lv [.ref (spl 52 ((S.1 49 0 0 (v4 - (nI 1)).toNatClampNeg).toNatClampNeg) 0)] μ Q)
    refine jX.lrn l0 (by rfl) (by rfl) (?_ : jX G jP 201 346 lv [.ref (spl 33 0 0), .ref (spl 52 ((S.1 49 0 0 (v4 - (nI 1)).toNatClampNeg).toNatClampNeg) 0)] μ Q)
    refine jX.sg R (by rfl) (by rfl) (by rfl) (by rfl) (by rfl) (by rfl) (?_ : jX G jP 201 349 lv [.ref (spl 50 0 0), .ref (spl 52 ((S.1 49 0 0 (v4 - (nI 1)).toNatClampNeg).toNatClampNeg) 0)] μ Q)
    refine jX.li l4 (by rfl) (by rfl) (?_ : jX G jP 201 351 lv [.int v4, .ref (spl 50 0 0), .ref (spl 52 ((S.1 49 0 0 (v4 - (nI 1)).toNatClampNeg).toNatClampNeg) 0)] μ Q)
    refine jX.ic (v := nI 1) (n := 1) (by rfl) (by rfl) (by decide) (?_ : jX G jP 201 352 lv [.int (nI 1), .int v4, .ref (spl 50 0 0), .ref (spl 52 ((S.1 49 0 0 (v4 - (nI 1)).toNatClampNeg).toNatClampNeg) 0)] μ Q)
    refine jX.go (by rfl) (by rfl) (by rfl) (?_ : jX G jP 201 353 lv [.int (v4 - (nI 1)), .ref (spl 50 0 0), .ref (spl 52 ((S.1 49 0 0 (v4 - (nI 1)).toNatClampNeg).toNatClampNeg) 0)] μ Q)
    obtain ⟨g4, h⟩ := jif_some h
    refine jX.sai R (by rfl) (by rfl) (by rfl) (by rfl) g4 (?_ : jX G jP 201 354 lv [.int (S.1 50 0 0 (v4 - (nI 1)).toNatClampNeg), .ref (spl 52 ((S.1 49 0 0 (v4 - (nI 1)).toNatClampNeg).toNatClampNeg) 0)] μ Q)
    obtain ⟨g5, h⟩ := jif_some h
    obtain ⟨g6, h⟩ := jif_some h
    refine jX.sai R g5 (by rfl) (by rfl) (by rfl) g6 (?_ : jX G jP 201 355 lv [.int (S.1 52 ((S.1 49 0 0 (v4 - (nI 1)).toNatClampNeg).toNatClampNeg) 0 (S.1 50 0 0 (v4 - (nI 1)).toNatClampNeg).toNatClampNeg)] μ Q)
    refine jX.s1 (k := 6) (pc' := 357) (by rfl) (by rfl) (by rfl) (fun lv l6 kp => (?_ : jX G jP 201 357 lv [] μ Q))
    replace l0 := kp 0 _ l0 (by rfl) (by first | rfl | simp [soR_cat])
    replace l1 := kp 1 _ l1 (by rfl) (by first | rfl | simp [soR_cat])
    replace l3 := kp 3 _ l3 (by rfl) (by first | rfl | simp [soR_cat])
    replace l4 := kp 4 _ l4 (by rfl) (by first | rfl | simp [soR_cat])
    replace l5 := kp 5 _ l5 (by rfl) (by first | rfl | simp [soR_cat])
    replace l9 := kp 9 _ l9 (by rfl) (by first | rfl | simp [soR_cat])
    refine jX.lr l9 (by rfl) (by rfl) (?_ : jX G jP 201 359 lv [.ref (spl 51 ((S.1 49 0 0 (v4 - (nI 1)).toNatClampNeg).toNatClampNeg) 0)] μ Q)
    refine jX.sg R g3 (by rfl) (by rfl) (by rfl) (by rfl) (by rfl) (?_ : jX G jP 201 362 lv [.ref (spl 53 ((S.1 49 0 0 (v4 - (nI 1)).toNatClampNeg).toNatClampNeg) 0)] μ Q)
    refine jX.lrn l0 (by rfl) (by rfl) (?_ : jX G jP 201 363 lv [.ref (spl 33 0 0), .ref (spl 53 ((S.1 49 0 0 (v4 - (nI 1)).toNatClampNeg).toNatClampNeg) 0)] μ Q)
    refine jX.sg R (by rfl) (by rfl) (by rfl) (by rfl) (by rfl) (by rfl) (?_ : jX G jP 201 366 lv [.ref (spl 50 0 0), .ref (spl 53 ((S.1 49 0 0 (v4 - (nI 1)).toNatClampNeg).toNatClampNeg) 0)] μ Q)
    refine jX.li l4 (by rfl) (by rfl) (?_ : jX G jP 201 368 lv [.int v4, .ref (spl 50 0 0), .ref (spl 53 ((S.1 49 0 0 (v4 - (nI 1)).toNatClampNeg).toNatClampNeg) 0)] μ Q)
    refine jX.ic (v := nI 1) (n := 1) (by rfl) (by rfl) (by decide) (?_ : jX G jP 201 369 lv [.int (nI 1), .int v4, .ref (spl 50 0 0), .ref (spl 53 ((S.1 49 0 0 (v4 - (nI 1)).toNatClampNeg).toNatClampNeg) 0)] μ Q)
    refine jX.go (by rfl) (by rfl) (by rfl) (?_ : jX G jP 201 370 lv [.int (v4 - (nI 1)), .ref (spl 50 0 0), .ref (spl 53 ((S.1 49 0 0 (v4 - (nI 1)).toNatClampNeg).toNatClampNeg) 0)] μ Q)
    obtain ⟨g7, h⟩ := jif_some h
    refine jX.sai R (by rfl) (by rfl) (by rfl) (by rfl) g7 (?_ : jX G jP 201 371 lv [.int (S.1 50 0 0 (v4 - (nI 1)).toNatClampNeg), .ref (spl 53 ((S.1 49 0 0 (v4 - (nI 1)).toNatClampNeg).toNatClampNeg) 0)] μ Q)
    obtain ⟨g8, h⟩ := jif_some h
    obtain ⟨g9, h⟩ := jif_some h
    refine jX.sal R g8 (by rfl) (by rfl) (by rfl) g9 (?_ : jX G jP 201 372 lv [.long (S.2.1 53 ((S.1 49 0 0 (v4 - (nI 1)).toNatClampNeg).toNatClampNeg) 0 (S.1 50 0 0 (v4 - (nI 1)).toNatClampNeg).toNatClampNeg)] μ Q)
    refine jX.s2 (k := 7) (pc' := 374) (by rfl) (by rfl) (by rfl) (fun lv l7 kp => (?_ : jX G jP 201 374 lv [] μ Q))
    replace l0 := kp 0 _ l0 (by rfl) (by first | rfl | simp [soR_cat])
    replace l1 := kp 1 _ l1 (by rfl) (by first | rfl | simp [soR_cat])
    replace l3 := kp 3 _ l3 (by rfl) (by first | rfl | simp [soR_cat])
    replace l4 := kp 4 _ l4 (by rfl) (by first | rfl | simp [soR_cat])
    replace l5 := kp 5 _ l5 (by rfl) (by first | rfl | simp [soR_cat])
    replace l6 := kp 6 _ l6 (by rfl) (by first | rfl | simp [soR_cat])
    refine jX.lrn l0 (by rfl) (by rfl) (?_ : jX G jP 201 375 lv [.ref (spl 33 0 0)] μ Q)
    refine jX.sg R (by rfl) (by rfl) (by rfl) (by rfl) (by rfl) (by rfl) (?_ : jX G jP 201 378 lv [.ref (spl 50 0 0)] μ Q)
    refine jX.li l4 (by rfl) (by rfl) (?_ : jX G jP 201 380 lv [.int v4, .ref (spl 50 0 0)] μ Q)
    refine jX.ic (v := nI 1) (n := 1) (by rfl) (by rfl) (by decide) (?_ : jX G jP 201 381 lv [.int (nI 1), .int v4, .ref (spl 50 0 0)] μ Q)
    refine jX.go (by rfl) (by rfl) (by rfl) (?_ : jX G jP 201 382 lv [.int (v4 - (nI 1)), .ref (spl 50 0 0)] μ Q)
    refine jX.go (by rfl) (by rfl) (by rfl) (?_ : jX G jP 201 383 lv [.int (v4 - (nI 1)), .ref (spl 50 0 0), .int (v4 - (nI 1)), .ref (spl 50 0 0)] μ Q)
    obtain ⟨g10, h⟩ := jif_some h
    refine jX.sai R (by rfl) (by rfl) (by rfl) (by rfl) g10 (?_ : jX G jP 201 384 lv [.int (S.1 50 0 0 (v4 - (nI 1)).toNatClampNeg), .int (v4 - (nI 1)), .ref (spl 50 0 0)] μ Q)
    refine jX.ic (v := nI 1) (n := 1) (by rfl) (by rfl) (by decide) (?_ : jX G jP 201 385 lv [.int (nI 1), .int (S.1 50 0 0 (v4 - (nI 1)).toNatClampNeg), .int (v4 - (nI 1)), .ref (spl 50 0 0)] μ Q)
    refine jX.go (by rfl) (by rfl) (by rfl) (?_ : jX G jP 201 386 lv [.int ((S.1 50 0 0 (v4 - (nI 1)).toNatClampNeg) + (nI 1)), .int (v4 - (nI 1)), .ref (spl 50 0 0)] μ Q)
    obtain ⟨g11, h⟩ := jif_some h
    refine jX.sti R (by rfl) (by rfl) (by rfl) (fun _ => by rfl) g11 (fun μ R => (?_ : jX G jP 201 387 lv [] μ Q))
    refine jX.go (by rfl) (by rfl) (by rfl) (?_ : jX G jP 201 67 lv [] μ Q)
    exact hk67 v1 v3 v4 v5 (S.1 52 ((S.1 49 0 0 (v4 - (nI 1)).toNatClampNeg).toNatClampNeg) 0 (S.1 50 0 0 (v4 - (nI 1)).toNatClampNeg).toNatClampNeg) (S.2.1 53 ((S.1 49 0 0 (v4 - (nI 1)).toNatClampNeg).toNatClampNeg) 0 (S.1 50 0 0 (v4 - (nI 1)).toNatClampNeg).toNatClampNeg) _ _ _ l0 l1 l3 l4 l5 l6 l7 R h
  · refine jX.b1f hc (by rfl) (by rfl) (by rfl) (?_ : jX G jP 201 321 lv [] μ Q)
    refine jX.go (by rfl) (by rfl) (by rfl) (?_ : jX G jP 201 390 lv [] μ Q)
    refine jX.inc l5 (by rfl) (by rfl) (by rfl) (fun lv l5 kp => (?_ : jX G jP 201 393 lv [] μ Q))
    replace l0 := kp 0 _ l0 (by rfl) (by first | rfl | simp [soR_cat])
    replace l1 := kp 1 _ l1 (by rfl) (by first | rfl | simp [soR_cat])
    replace l3 := kp 3 _ l3 (by rfl) (by first | rfl | simp [soR_cat])
    replace l4 := kp 4 _ l4 (by rfl) (by first | rfl | simp [soR_cat])
    refine jX.go (by rfl) (by rfl) (by rfl) (?_ : jX G jP 201 42 lv [] μ Q)
    exact hk42 v1 v3 v4 (v5 + Int32.ofInt 1) _ _ _ l0 l1 l3 l4 l5 R h
def F_201_307 (G : jG) (t : Nat) (k42 : Int64 → Int32 → Int32 → Int32 → sS → Option (Int64 × sS)) (k67 : Int64 → Int32 → Int32 → Int32 → Int32 → Int64 → sS → Option (Int64 × sS)) (k235 : Int64 → Int32 → Int32 → Int32 → sS → Option (Int64 × sS)) (v1 : Int64) (v3 : Int32) (v4 : Int32) (v5 : Int32) (w0 : Int32) (w1 : Int32) (S : sS) : Option (Int64 × sS) := bif jcmp .ne w1 w0 then (F_201_316 G t k42 k67 v1 v3 v4 v5 S) else (k235 v1 v3 (v4 + Int32.ofInt (-1)) v5 S)
theorem F_201_307_ok {G : jG} {t : Nat} {k42 : Int64 → Int32 → Int32 → Int32 → sS → Option (Int64 × sS)} {k67 : Int64 → Int32 → Int32 → Int32 → Int32 → Int64 → sS → Option (Int64 × sS)} {k235 : Int64 → Int32 → Int32 → Int32 → sS → Option (Int64 × sS)} {r : Int64} {S' : sS} {Q : Option Value ⊕ Nat → jS → Prop} (hk42 : ∀ (v1 : Int64) (v3 : Int32) (v4 : Int32) (v5 : Int32) (S : sS) (lv : jL) (μ : jS), jld lv 0 = some (.ref (spl 33 0 0)) → jld lv 1 = some (.long v1) → jld lv 3 = some (.int v3) → jld lv 4 = some (.int v4) → jld lv 5 = some (.int v5) → sR S μ → k42 v1 v3 v4 v5 S = some (r, S') → jX G jP 201 42 lv [] μ Q) (hk67 : ∀ (v1 : Int64) (v3 : Int32) (v4 : Int32) (v5 : Int32) (v6 : Int32) (v7 : Int64) (S : sS) (lv : jL) (μ : jS), jld lv 0 = some (.ref (spl 33 0 0)) → jld lv 1 = some (.long v1) → jld lv 3 = some (.int v3) → jld lv 4 = some (.int v4) → jld lv 5 = some (.int v5) → jld lv 6 = some (.int v6) → jld lv 7 = some (.long v7) → sR S μ → k67 v1 v3 v4 v5 v6 v7 S = some (r, S') → jX G jP 201 67 lv [] μ Q) (hk235 : ∀ (v1 : Int64) (v3 : Int32) (v4 : Int32) (v5 : Int32) (S : sS) (lv : jL) (μ : jS), jld lv 0 = some (.ref (spl 33 0 0)) → jld lv 1 = some (.long v1) → jld lv 3 = some (.int v3) → jld lv 4 = some (.int v4) → jld lv 5 = some (.int v5) → sR S μ → k235 v1 v3 v4 v5 S = some (r, S') → jX G jP 201 235 lv [] μ Q) (K : ∀ μ', sR S' μ' → Q (srL r) μ') : ∀ (v1 : Int64) (v3 : Int32) (v4 : Int32) (v5 : Int32) (w0 : Int32) (w1 : Int32) (S : sS) (lv : jL) (μ : jS), jld lv 0 = some (.ref (spl 33 0 0)) → jld lv 1 = some (.long v1) → jld lv 3 = some (.int v3) → jld lv 4 = some (.int v4) → jld lv 5 = some (.int v5) → sR S μ → F_201_307 G t k42 k67 k235 v1 v3 v4 v5 w0 w1 S = some (r, S') → jX G jP 201 307 lv [.int w0, .int w1] μ Q := by
  intro v1 v3 v4 v5 w0 w1 S lv μ l0 l1 l3 l4 l5 R h
  unfold F_201_307 at h
  rcases bif_or h with ⟨hc, h⟩ | ⟨hc, h⟩
  · refine jX.b2t hc (by rfl) (by rfl) (by rfl) (?_ : jX G jP 201 316 lv [] μ Q)
    exact F_201_316_ok hk42 hk67 K v1 v3 v4 v5 _ _ _ l0 l1 l3 l4 l5 R h
  · refine jX.b2f hc (by rfl) (by rfl) (by rfl) (?_ : jX G jP 201 310 lv [] μ Q)
    refine jX.inc l4 (by rfl) (by rfl) (by rfl) (fun lv l4 kp => (?_ : jX G jP 201 313 lv [] μ Q))
    replace l0 := kp 0 _ l0 (by rfl) (by first | rfl | simp [soR_cat])
    replace l1 := kp 1 _ l1 (by rfl) (by first | rfl | simp [soR_cat])
    replace l3 := kp 3 _ l3 (by rfl) (by first | rfl | simp [soR_cat])
    replace l5 := kp 5 _ l5 (by rfl) (by first | rfl | simp [soR_cat])
    refine jX.go (by rfl) (by rfl) (by rfl) (?_ : jX G jP 201 235 lv [] μ Q)
    exact hk235 v1 v3 (v4 + Int32.ofInt (-1)) v5 _ _ _ l0 l1 l3 l4 l5 R h
def F_201_235 (G : jG) (t : Nat) (k42 : Int64 → Int32 → Int32 → Int32 → sS → Option (Int64 × sS)) (k67 : Int64 → Int32 → Int32 → Int32 → Int32 → Int64 → sS → Option (Int64 × sS)) : Nat → Int64 → Int32 → Int32 → Int32 → sS → Option (Int64 × sS)
  | 0 => fun _ _ _ _ _ => none
  | tt + 1 => fun v1 v3 v4 v5 S => bif jcmp .le v4 0 then (F_201_316 G t k42 k67 v1 v3 v4 v5 S) else (jif (jin (v4 - (nI 1)) 1300) (jif (jin (v4 - (nI 1)) 1300) (jif (jin (S.1 49 0 0 (v4 - (nI 1)).toNatClampNeg) 1300) (jif (sex S.2.2.2.1 51 ((S.1 49 0 0 (v4 - (nI 1)).toNatClampNeg).toNatClampNeg) 0) (bif jcmp .ne (S.1 51 ((S.1 49 0 0 (v4 - (nI 1)).toNatClampNeg).toNatClampNeg) 0 0) (nI 2) then (jif (jin (v4 - (nI 1)) 1300) (jif (jin (S.1 49 0 0 (v4 - (nI 1)).toNatClampNeg) 1300) (F_201_307 G t k42 k67 (F_201_235 G t k42 k67 tt) v1 v3 v4 v5 (S.1 51 ((S.1 49 0 0 (v4 - (nI 1)).toNatClampNeg).toNatClampNeg) 0 2) (S.1 50 0 0 (v4 - (nI 1)).toNatClampNeg) S))) else (jif (jin (v4 - (nI 1)) 1300) (jif (jin (S.1 49 0 0 (v4 - (nI 1)).toNatClampNeg) 1300) (F_201_307 G t k42 k67 (F_201_235 G t k42 k67 tt) v1 v3 v4 v5 (S.1 51 ((S.1 49 0 0 (v4 - (nI 1)).toNatClampNeg).toNatClampNeg) 0 1) (S.1 50 0 0 (v4 - (nI 1)).toNatClampNeg) S))))))))
theorem F_201_235_ok {G : jG} {t : Nat} {k42 : Int64 → Int32 → Int32 → Int32 → sS → Option (Int64 × sS)} {k67 : Int64 → Int32 → Int32 → Int32 → Int32 → Int64 → sS → Option (Int64 × sS)} {r : Int64} {S' : sS} {Q : Option Value ⊕ Nat → jS → Prop} (hk42 : ∀ (v1 : Int64) (v3 : Int32) (v4 : Int32) (v5 : Int32) (S : sS) (lv : jL) (μ : jS), jld lv 0 = some (.ref (spl 33 0 0)) → jld lv 1 = some (.long v1) → jld lv 3 = some (.int v3) → jld lv 4 = some (.int v4) → jld lv 5 = some (.int v5) → sR S μ → k42 v1 v3 v4 v5 S = some (r, S') → jX G jP 201 42 lv [] μ Q) (hk67 : ∀ (v1 : Int64) (v3 : Int32) (v4 : Int32) (v5 : Int32) (v6 : Int32) (v7 : Int64) (S : sS) (lv : jL) (μ : jS), jld lv 0 = some (.ref (spl 33 0 0)) → jld lv 1 = some (.long v1) → jld lv 3 = some (.int v3) → jld lv 4 = some (.int v4) → jld lv 5 = some (.int v5) → jld lv 6 = some (.int v6) → jld lv 7 = some (.long v7) → sR S μ → k67 v1 v3 v4 v5 v6 v7 S = some (r, S') → jX G jP 201 67 lv [] μ Q) (K : ∀ μ', sR S' μ' → Q (srL r) μ') : ∀ tt : Nat, ∀ (v1 : Int64) (v3 : Int32) (v4 : Int32) (v5 : Int32) (S : sS) (lv : jL) (μ : jS), jld lv 0 = some (.ref (spl 33 0 0)) → jld lv 1 = some (.long v1) → jld lv 3 = some (.int v3) → jld lv 4 = some (.int v4) → jld lv 5 = some (.int v5) → sR S μ → F_201_235 G t k42 k67 tt v1 v3 v4 v5 S = some (r, S') → jX G jP 201 235 lv [] μ Q := by
  intro tt
  induction tt with
  | zero =>
    intro v1 v3 v4 v5 S lv μ l0 l1 l3 l4 l5 R h
    rw [F_201_235] at h
    cases h
  | succ tt ih =>
    intro v1 v3 v4 v5 S lv μ l0 l1 l3 l4 l5 R h
    rw [F_201_235] at h
    refine jX.li l4 (by rfl) (by rfl) (?_ : jX G jP 201 237 lv [.int v4] μ Q)
    rcases bif_or h with ⟨hc, h⟩ | ⟨hc, h⟩
    · refine jX.b1t hc (by rfl) (by rfl) (by rfl) (?_ : jX G jP 201 316 lv [] μ Q)
      exact F_201_316_ok hk42 hk67 K v1 v3 v4 v5 _ _ _ l0 l1 l3 l4 l5 R h
    · refine jX.b1f hc (by rfl) (by rfl) (by rfl) (?_ : jX G jP 201 240 lv [] μ Q)
      refine jX.lrn l0 (by rfl) (by rfl) (?_ : jX G jP 201 241 lv [.ref (spl 33 0 0)] μ Q)
      refine jX.sg R (by rfl) (by rfl) (by rfl) (by rfl) (by rfl) (by rfl) (?_ : jX G jP 201 244 lv [.ref (spl 50 0 0)] μ Q)
      refine jX.li l4 (by rfl) (by rfl) (?_ : jX G jP 201 246 lv [.int v4, .ref (spl 50 0 0)] μ Q)
      refine jX.ic (v := nI 1) (n := 1) (by rfl) (by rfl) (by decide) (?_ : jX G jP 201 247 lv [.int (nI 1), .int v4, .ref (spl 50 0 0)] μ Q)
      refine jX.go (by rfl) (by rfl) (by rfl) (?_ : jX G jP 201 248 lv [.int (v4 - (nI 1)), .ref (spl 50 0 0)] μ Q)
      obtain ⟨g1, h⟩ := jif_some h
      refine jX.sai R (by rfl) (by rfl) (by rfl) (by rfl) g1 (?_ : jX G jP 201 249 lv [.int (S.1 50 0 0 (v4 - (nI 1)).toNatClampNeg)] μ Q)
      refine jX.lrn l0 (by rfl) (by rfl) (?_ : jX G jP 201 250 lv [.ref (spl 33 0 0), .int (S.1 50 0 0 (v4 - (nI 1)).toNatClampNeg)] μ Q)
      refine jX.sg R (by rfl) (by rfl) (by rfl) (by rfl) (by rfl) (by rfl) (?_ : jX G jP 201 253 lv [.ref (spl 34 0 0), .int (S.1 50 0 0 (v4 - (nI 1)).toNatClampNeg)] μ Q)
      refine jX.lrn l0 (by rfl) (by rfl) (?_ : jX G jP 201 254 lv [.ref (spl 33 0 0), .ref (spl 34 0 0), .int (S.1 50 0 0 (v4 - (nI 1)).toNatClampNeg)] μ Q)
      refine jX.sg R (by rfl) (by rfl) (by rfl) (by rfl) (by rfl) (by rfl) (?_ : jX G jP 201 257 lv [.ref (spl 49 0 0), .ref (spl 34 0 0), .int (S.1 50 0 0 (v4 - (nI 1)).toNatClampNeg)] μ Q)
      refine jX.li l4 (by rfl) (by rfl) (?_ : jX G jP 201 259 lv [.int v4, .ref (spl 49 0 0), .ref (spl 34 0 0), .int (S.1 50 0 0 (v4 - (nI 1)).toNatClampNeg)] μ Q)
      refine jX.ic (v := nI 1) (n := 1) (by rfl) (by rfl) (by decide) (?_ : jX G jP 201 260 lv [.int (nI 1), .int v4, .ref (spl 49 0 0), .ref (spl 34 0 0), .int (S.1 50 0 0 (v4 - (nI 1)).toNatClampNeg)] μ Q)
      refine jX.go (by rfl) (by rfl) (by rfl) (?_ : jX G jP 201 261 lv [.int (v4 - (nI 1)), .ref (spl 49 0 0), .ref (spl 34 0 0), .int (S.1 50 0 0 (v4 - (nI 1)).toNatClampNeg)] μ Q)
      obtain ⟨g2, h⟩ := jif_some h
      refine jX.sai R (by rfl) (by rfl) (by rfl) (by rfl) g2 (?_ : jX G jP 201 262 lv [.int (S.1 49 0 0 (v4 - (nI 1)).toNatClampNeg), .ref (spl 34 0 0), .int (S.1 50 0 0 (v4 - (nI 1)).toNatClampNeg)] μ Q)
      obtain ⟨g3, h⟩ := jif_some h
      refine jX.sar (f := fun q => bif Nat.blt q 1300 then some (spl 51 q 0) else none) R (by rfl) (by rfl) (by rfl) (by rfl) g3 (srf_in g3) (?_ : jX G jP 201 263 lv [.ref (spl 51 ((S.1 49 0 0 (v4 - (nI 1)).toNatClampNeg).toNatClampNeg) 0), .int (S.1 50 0 0 (v4 - (nI 1)).toNatClampNeg)] μ Q)
      obtain ⟨g4, h⟩ := jif_some h
      refine jX.sg R g4 (by rfl) (by rfl) (by rfl) (by rfl) (by rfl) (?_ : jX G jP 201 266 lv [.int (S.1 51 ((S.1 49 0 0 (v4 - (nI 1)).toNatClampNeg).toNatClampNeg) 0 0), .int (S.1 50 0 0 (v4 - (nI 1)).toNatClampNeg)] μ Q)
      refine jX.ic (v := nI 2) (n := 1) (by rfl) (by rfl) (by decide) (?_ : jX G jP 201 267 lv [.int (nI 2), .int (S.1 51 ((S.1 49 0 0 (v4 - (nI 1)).toNatClampNeg).toNatClampNeg) 0 0), .int (S.1 50 0 0 (v4 - (nI 1)).toNatClampNeg)] μ Q)
      rcases bif_or h with ⟨hc, h⟩ | ⟨hc, h⟩
      · refine jX.b2t hc (by rfl) (by rfl) (by rfl) (?_ : jX G jP 201 290 lv [.int (S.1 50 0 0 (v4 - (nI 1)).toNatClampNeg)] μ Q)
        refine jX.lrn l0 (by rfl) (by rfl) (?_ : jX G jP 201 291 lv [.ref (spl 33 0 0), .int (S.1 50 0 0 (v4 - (nI 1)).toNatClampNeg)] μ Q)
        refine jX.sg R (by rfl) (by rfl) (by rfl) (by rfl) (by rfl) (by rfl) (?_ : jX G jP 201 294 lv [.ref (spl 34 0 0), .int (S.1 50 0 0 (v4 - (nI 1)).toNatClampNeg)] μ Q)
        refine jX.lrn l0 (by rfl) (by rfl) (?_ : jX G jP 201 295 lv [.ref (spl 33 0 0), .ref (spl 34 0 0), .int (S.1 50 0 0 (v4 - (nI 1)).toNatClampNeg)] μ Q)
        refine jX.sg R (by rfl) (by rfl) (by rfl) (by rfl) (by rfl) (by rfl) (?_ : jX G jP 201 298 lv [.ref (spl 49 0 0), .ref (spl 34 0 0), .int (S.1 50 0 0 (v4 - (nI 1)).toNatClampNeg)] μ Q)
        refine jX.li l4 (by rfl) (by rfl) (?_ : jX G jP 201 300 lv [.int v4, .ref (spl 49 0 0), .ref (spl 34 0 0), .int (S.1 50 0 0 (v4 - (nI 1)).toNatClampNeg)] μ Q)
        refine jX.ic (v := nI 1) (n := 1) (by rfl) (by rfl) (by decide) (?_ : jX G jP 201 301 lv [.int (nI 1), .int v4, .ref (spl 49 0 0), .ref (spl 34 0 0), .int (S.1 50 0 0 (v4 - (nI 1)).toNatClampNeg)] μ Q)
        refine jX.go (by rfl) (by rfl) (by rfl) (?_ : jX G jP 201 302 lv [.int (v4 - (nI 1)), .ref (spl 49 0 0), .ref (spl 34 0 0), .int (S.1 50 0 0 (v4 - (nI 1)).toNatClampNeg)] μ Q)
        obtain ⟨g5, h⟩ := jif_some h
        refine jX.sai R (by rfl) (by rfl) (by rfl) (by rfl) g5 (?_ : jX G jP 201 303 lv [.int (S.1 49 0 0 (v4 - (nI 1)).toNatClampNeg), .ref (spl 34 0 0), .int (S.1 50 0 0 (v4 - (nI 1)).toNatClampNeg)] μ Q)
        obtain ⟨g6, h⟩ := jif_some h
        refine jX.sar (f := fun q => bif Nat.blt q 1300 then some (spl 51 q 0) else none) R (by rfl) (by rfl) (by rfl) (by rfl) g6 (srf_in g6) (?_ : jX G jP 201 304 lv [.ref (spl 51 ((S.1 49 0 0 (v4 - (nI 1)).toNatClampNeg).toNatClampNeg) 0), .int (S.1 50 0 0 (v4 - (nI 1)).toNatClampNeg)] μ Q)
        refine jX.sg R g4 (by rfl) (by rfl) (by rfl) (by rfl) (by rfl) (?_ : jX G jP 201 307 lv [.int (S.1 51 ((S.1 49 0 0 (v4 - (nI 1)).toNatClampNeg).toNatClampNeg) 0 2), .int (S.1 50 0 0 (v4 - (nI 1)).toNatClampNeg)] μ Q)
        exact F_201_307_ok hk42 hk67 ih K v1 v3 v4 v5 (S.1 51 ((S.1 49 0 0 (v4 - (nI 1)).toNatClampNeg).toNatClampNeg) 0 2) (S.1 50 0 0 (v4 - (nI 1)).toNatClampNeg) _ _ _ l0 l1 l3 l4 l5 R h
      · refine jX.b2f hc (by rfl) (by rfl) (by rfl) (?_ : jX G jP 201 270 lv [.int (S.1 50 0 0 (v4 - (nI 1)).toNatClampNeg)] μ Q)
        refine jX.lrn l0 (by rfl) (by rfl) (?_ : jX G jP 201 271 lv [.ref (spl 33 0 0), .int (S.1 50 0 0 (v4 - (nI 1)).toNatClampNeg)] μ Q)
        refine jX.sg R (by rfl) (by rfl) (by rfl) (by rfl) (by rfl) (by rfl) (?_ : jX G jP 201 274 lv [.ref (spl 34 0 0), .int (S.1 50 0 0 (v4 - (nI 1)).toNatClampNeg)] μ Q)
        refine jX.lrn l0 (by rfl) (by rfl) (?_ : jX G jP 201 275 lv [.ref (spl 33 0 0), .ref (spl 34 0 0), .int (S.1 50 0 0 (v4 - (nI 1)).toNatClampNeg)] μ Q)
        refine jX.sg R (by rfl) (by rfl) (by rfl) (by rfl) (by rfl) (by rfl) (?_ : jX G jP 201 278 lv [.ref (spl 49 0 0), .ref (spl 34 0 0), .int (S.1 50 0 0 (v4 - (nI 1)).toNatClampNeg)] μ Q)
        refine jX.li l4 (by rfl) (by rfl) (?_ : jX G jP 201 280 lv [.int v4, .ref (spl 49 0 0), .ref (spl 34 0 0), .int (S.1 50 0 0 (v4 - (nI 1)).toNatClampNeg)] μ Q)
        refine jX.ic (v := nI 1) (n := 1) (by rfl) (by rfl) (by decide) (?_ : jX G jP 201 281 lv [.int (nI 1), .int v4, .ref (spl 49 0 0), .ref (spl 34 0 0), .int (S.1 50 0 0 (v4 - (nI 1)).toNatClampNeg)] μ Q)
        refine jX.go (by rfl) (by rfl) (by rfl) (?_ : jX G jP 201 282 lv [.int (v4 - (nI 1)), .ref (spl 49 0 0), .ref (spl 34 0 0), .int (S.1 50 0 0 (v4 - (nI 1)).toNatClampNeg)] μ Q)
        obtain ⟨g7, h⟩ := jif_some h
        refine jX.sai R (by rfl) (by rfl) (by rfl) (by rfl) g7 (?_ : jX G jP 201 283 lv [.int (S.1 49 0 0 (v4 - (nI 1)).toNatClampNeg), .ref (spl 34 0 0), .int (S.1 50 0 0 (v4 - (nI 1)).toNatClampNeg)] μ Q)
        obtain ⟨g8, h⟩ := jif_some h
        refine jX.sar (f := fun q => bif Nat.blt q 1300 then some (spl 51 q 0) else none) R (by rfl) (by rfl) (by rfl) (by rfl) g8 (srf_in g8) (?_ : jX G jP 201 284 lv [.ref (spl 51 ((S.1 49 0 0 (v4 - (nI 1)).toNatClampNeg).toNatClampNeg) 0), .int (S.1 50 0 0 (v4 - (nI 1)).toNatClampNeg)] μ Q)
        refine jX.sg R g4 (by rfl) (by rfl) (by rfl) (by rfl) (by rfl) (?_ : jX G jP 201 287 lv [.int (S.1 51 ((S.1 49 0 0 (v4 - (nI 1)).toNatClampNeg).toNatClampNeg) 0 1), .int (S.1 50 0 0 (v4 - (nI 1)).toNatClampNeg)] μ Q)
        refine jX.go (by rfl) (by rfl) (by rfl) (?_ : jX G jP 201 307 lv [.int (S.1 51 ((S.1 49 0 0 (v4 - (nI 1)).toNatClampNeg).toNatClampNeg) 0 1), .int (S.1 50 0 0 (v4 - (nI 1)).toNatClampNeg)] μ Q)
        exact F_201_307_ok hk42 hk67 ih K v1 v3 v4 v5 (S.1 51 ((S.1 49 0 0 (v4 - (nI 1)).toNatClampNeg).toNatClampNeg) 0 1) (S.1 50 0 0 (v4 - (nI 1)).toNatClampNeg) _ _ _ l0 l1 l3 l4 l5 R h
def F_201_211 (G : jG) (t : Nat) (k42 : Int64 → Int32 → Int32 → Int32 → sS → Option (Int64 × sS)) (k67 : Int64 → Int32 → Int32 → Int32 → Int32 → Int64 → sS → Option (Int64 × sS)) (v3 : Int32) (v4 : Int32) (v5 : Int32) (v7 : Int64) (w0 : Int32) (w1 : Int64) (S : sS) : Option (Int64 × sS) := jif (jin v4 1300) (jif (jin v4 1300) (F_201_235 G t k42 k67 t (w1 + w0.toInt64) v3 (v4 + Int32.ofInt 1) v5 (siI (siI S 49 0 0 v4.toNatClampNeg v7.toInt32) 50 0 0 v4.toNatClampNeg (nI 0))))
theorem F_201_211_ok {G : jG} {t : Nat} {k42 : Int64 → Int32 → Int32 → Int32 → sS → Option (Int64 × sS)} {k67 : Int64 → Int32 → Int32 → Int32 → Int32 → Int64 → sS → Option (Int64 × sS)} {r : Int64} {S' : sS} {Q : Option Value ⊕ Nat → jS → Prop} (hk42 : ∀ (v1 : Int64) (v3 : Int32) (v4 : Int32) (v5 : Int32) (S : sS) (lv : jL) (μ : jS), jld lv 0 = some (.ref (spl 33 0 0)) → jld lv 1 = some (.long v1) → jld lv 3 = some (.int v3) → jld lv 4 = some (.int v4) → jld lv 5 = some (.int v5) → sR S μ → k42 v1 v3 v4 v5 S = some (r, S') → jX G jP 201 42 lv [] μ Q) (hk67 : ∀ (v1 : Int64) (v3 : Int32) (v4 : Int32) (v5 : Int32) (v6 : Int32) (v7 : Int64) (S : sS) (lv : jL) (μ : jS), jld lv 0 = some (.ref (spl 33 0 0)) → jld lv 1 = some (.long v1) → jld lv 3 = some (.int v3) → jld lv 4 = some (.int v4) → jld lv 5 = some (.int v5) → jld lv 6 = some (.int v6) → jld lv 7 = some (.long v7) → sR S μ → k67 v1 v3 v4 v5 v6 v7 S = some (r, S') → jX G jP 201 67 lv [] μ Q) (K : ∀ μ', sR S' μ' → Q (srL r) μ') : ∀ (v3 : Int32) (v4 : Int32) (v5 : Int32) (v7 : Int64) (w0 : Int32) (w1 : Int64) (S : sS) (lv : jL) (μ : jS), jld lv 0 = some (.ref (spl 33 0 0)) → jld lv 3 = some (.int v3) → jld lv 4 = some (.int v4) → jld lv 5 = some (.int v5) → jld lv 7 = some (.long v7) → sR S μ → F_201_211 G t k42 k67 v3 v4 v5 v7 w0 w1 S = some (r, S') → jX G jP 201 211 lv [.int w0, .long w1] μ Q := by
  intro v3 v4 v5 v7 w0 w1 S lv μ l0 l3 l4 l5 l7 R h
  unfold F_201_211 at h
  refine jX.go (by rfl) (by rfl) (by rfl) (?_ : jX G jP 201 212 lv [.long w0.toInt64, .long w1] μ Q)
  refine jX.go (by rfl) (by rfl) (by rfl) (?_ : jX G jP 201 213 lv [.long (w1 + w0.toInt64)] μ Q)
  refine jX.s2 (k := 1) (pc' := 214) (by rfl) (by rfl) (by rfl) (fun lv l1 kp => (?_ : jX G jP 201 214 lv [] μ Q))
  replace l0 := kp 0 _ l0 (by rfl) (by first | rfl | simp [soR_cat])
  replace l3 := kp 3 _ l3 (by rfl) (by first | rfl | simp [soR_cat])
  replace l4 := kp 4 _ l4 (by rfl) (by first | rfl | simp [soR_cat])
  replace l5 := kp 5 _ l5 (by rfl) (by first | rfl | simp [soR_cat])
  replace l7 := kp 7 _ l7 (by rfl) (by first | rfl | simp [soR_cat])
  refine jX.lrn l0 (by rfl) (by rfl) (?_ : jX G jP 201 215 lv [.ref (spl 33 0 0)] μ Q)
  refine jX.sg R (by rfl) (by rfl) (by rfl) (by rfl) (by rfl) (by rfl) (?_ : jX G jP 201 218 lv [.ref (spl 49 0 0)] μ Q)
  refine jX.li l4 (by rfl) (by rfl) (?_ : jX G jP 201 220 lv [.int v4, .ref (spl 49 0 0)] μ Q)
  refine jX.ll l7 (by rfl) (by rfl) (?_ : jX G jP 201 222 lv [.long v7, .int v4, .ref (spl 49 0 0)] μ Q)
  refine jX.go (by rfl) (by rfl) (by rfl) (?_ : jX G jP 201 223 lv [.int v7.toInt32, .int v4, .ref (spl 49 0 0)] μ Q)
  obtain ⟨g1, h⟩ := jif_some h
  refine jX.sti R (by rfl) (by rfl) (by rfl) (fun _ => by rfl) g1 (fun μ R => (?_ : jX G jP 201 224 lv [] μ Q))
  refine jX.lrn l0 (by rfl) (by rfl) (?_ : jX G jP 201 225 lv [.ref (spl 33 0 0)] μ Q)
  refine jX.sg R (by rfl) (by rfl) (by rfl) (by rfl) (by rfl) (by rfl) (?_ : jX G jP 201 228 lv [.ref (spl 50 0 0)] μ Q)
  refine jX.li l4 (by rfl) (by rfl) (?_ : jX G jP 201 230 lv [.int v4, .ref (spl 50 0 0)] μ Q)
  refine jX.ic (v := nI 0) (n := 1) (by rfl) (by rfl) (by decide) (?_ : jX G jP 201 231 lv [.int (nI 0), .int v4, .ref (spl 50 0 0)] μ Q)
  obtain ⟨g2, h⟩ := jif_some h
  refine jX.sti R (by rfl) (by rfl) (by rfl) (fun _ => by rfl) g2 (fun μ R => (?_ : jX G jP 201 232 lv [] μ Q))
  refine jX.inc l4 (by rfl) (by rfl) (by rfl) (fun lv l4 kp => (?_ : jX G jP 201 235 lv [] μ Q))
  replace l0 := kp 0 _ l0 (by rfl) (by first | rfl | simp [soR_cat])
  replace l1 := kp 1 _ l1 (by rfl) (by first | rfl | simp [soR_cat])
  replace l3 := kp 3 _ l3 (by rfl) (by first | rfl | simp [soR_cat])
  replace l5 := kp 5 _ l5 (by rfl) (by first | rfl | simp [soR_cat])
  exact F_201_235_ok hk42 hk67 K _ (w1 + w0.toInt64) v3 (v4 + Int32.ofInt 1) v5 _ _ _ l0 l1 l3 l4 l5 R h
def F_201_186 (G : jG) (t : Nat) (k42 : Int64 → Int32 → Int32 → Int32 → sS → Option (Int64 × sS)) (k67 : Int64 → Int32 → Int32 → Int32 → Int32 → Int64 → sS → Option (Int64 × sS)) (v3 : Int32) (v4 : Int32) (v5 : Int32) (v7 : Int64) (v9 : (Nat × Nat)) (w0 : Int32) (w1 : Int64) (w2 : Int64) (S : sS) : Option (Int64 × sS) := jif (sex S.2.2.2.1 51 v9.1 v9.2) (bif jcmp .ne (S.1 51 v9.1 v9.2 0) (nI 2) then (F_201_211 G t k42 k67 v3 v4 v5 v7 (S.1 51 v9.1 v9.2 2) (w2 * (w1 + w0.toInt64)) S) else (F_201_211 G t k42 k67 v3 v4 v5 v7 (S.1 51 v9.1 v9.2 1) (w2 * (w1 + w0.toInt64)) S))
theorem F_201_186_ok {G : jG} {t : Nat} {k42 : Int64 → Int32 → Int32 → Int32 → sS → Option (Int64 × sS)} {k67 : Int64 → Int32 → Int32 → Int32 → Int32 → Int64 → sS → Option (Int64 × sS)} {r : Int64} {S' : sS} {Q : Option Value ⊕ Nat → jS → Prop} (hk42 : ∀ (v1 : Int64) (v3 : Int32) (v4 : Int32) (v5 : Int32) (S : sS) (lv : jL) (μ : jS), jld lv 0 = some (.ref (spl 33 0 0)) → jld lv 1 = some (.long v1) → jld lv 3 = some (.int v3) → jld lv 4 = some (.int v4) → jld lv 5 = some (.int v5) → sR S μ → k42 v1 v3 v4 v5 S = some (r, S') → jX G jP 201 42 lv [] μ Q) (hk67 : ∀ (v1 : Int64) (v3 : Int32) (v4 : Int32) (v5 : Int32) (v6 : Int32) (v7 : Int64) (S : sS) (lv : jL) (μ : jS), jld lv 0 = some (.ref (spl 33 0 0)) → jld lv 1 = some (.long v1) → jld lv 3 = some (.int v3) → jld lv 4 = some (.int v4) → jld lv 5 = some (.int v5) → jld lv 6 = some (.int v6) → jld lv 7 = some (.long v7) → sR S μ → k67 v1 v3 v4 v5 v6 v7 S = some (r, S') → jX G jP 201 67 lv [] μ Q) (K : ∀ μ', sR S' μ' → Q (srL r) μ') : ∀ (v3 : Int32) (v4 : Int32) (v5 : Int32) (v7 : Int64) (v9 : (Nat × Nat)) (w0 : Int32) (w1 : Int64) (w2 : Int64) (S : sS) (lv : jL) (μ : jS), jld lv 0 = some (.ref (spl 33 0 0)) → jld lv 3 = some (.int v3) → jld lv 4 = some (.int v4) → jld lv 5 = some (.int v5) → jld lv 7 = some (.long v7) → jld lv 9 = some (.ref (spl 51 v9.1 v9.2)) → sR S μ → F_201_186 G t k42 k67 v3 v4 v5 v7 v9 w0 w1 w2 S = some (r, S') → jX G jP 201 186 lv [.int w0, .long w1, .long w2] μ Q := by
  intro v3 v4 v5 v7 v9 w0 w1 w2 S lv μ l0 l3 l4 l5 l7 l9 R h
  unfold F_201_186 at h
  refine jX.go (by rfl) (by rfl) (by rfl) (?_ : jX G jP 201 187 lv [.long w0.toInt64, .long w1, .long w2] μ Q)
  refine jX.go (by rfl) (by rfl) (by rfl) (?_ : jX G jP 201 188 lv [.long (w1 + w0.toInt64), .long w2] μ Q)
  refine jX.go (by rfl) (by rfl) (by rfl) (?_ : jX G jP 201 189 lv [.long (w2 * (w1 + w0.toInt64))] μ Q)
  refine jX.lr l9 (by rfl) (by rfl) (?_ : jX G jP 201 191 lv [.ref (spl 51 v9.1 v9.2), .long (w2 * (w1 + w0.toInt64))] μ Q)
  obtain ⟨g1, h⟩ := jif_some h
  refine jX.sg R g1 (by rfl) (by rfl) (by rfl) (by rfl) (by rfl) (?_ : jX G jP 201 194 lv [.int (S.1 51 v9.1 v9.2 0), .long (w2 * (w1 + w0.toInt64))] μ Q)
  refine jX.ic (v := nI 2) (n := 1) (by rfl) (by rfl) (by decide) (?_ : jX G jP 201 195 lv [.int (nI 2), .int (S.1 51 v9.1 v9.2 0), .long (w2 * (w1 + w0.toInt64))] μ Q)
  rcases bif_or h with ⟨hc, h⟩ | ⟨hc, h⟩
  · refine jX.b2t hc (by rfl) (by rfl) (by rfl) (?_ : jX G jP 201 206 lv [.long (w2 * (w1 + w0.toInt64))] μ Q)
    refine jX.lr l9 (by rfl) (by rfl) (?_ : jX G jP 201 208 lv [.ref (spl 51 v9.1 v9.2), .long (w2 * (w1 + w0.toInt64))] μ Q)
    refine jX.sg R g1 (by rfl) (by rfl) (by rfl) (by rfl) (by rfl) (?_ : jX G jP 201 211 lv [.int (S.1 51 v9.1 v9.2 2), .long (w2 * (w1 + w0.toInt64))] μ Q)
    exact F_201_211_ok hk42 hk67 K v3 v4 v5 v7 (S.1 51 v9.1 v9.2 2) (w2 * (w1 + w0.toInt64)) _ _ _ l0 l3 l4 l5 l7 R h
  · refine jX.b2f hc (by rfl) (by rfl) (by rfl) (?_ : jX G jP 201 198 lv [.long (w2 * (w1 + w0.toInt64))] μ Q)
    refine jX.lr l9 (by rfl) (by rfl) (?_ : jX G jP 201 200 lv [.ref (spl 51 v9.1 v9.2), .long (w2 * (w1 + w0.toInt64))] μ Q)
    refine jX.sg R g1 (by rfl) (by rfl) (by rfl) (by rfl) (by rfl) (?_ : jX G jP 201 203 lv [.int (S.1 51 v9.1 v9.2 1), .long (w2 * (w1 + w0.toInt64))] μ Q)
    refine jX.go (by rfl) (by rfl) (by rfl) (?_ : jX G jP 201 211 lv [.int (S.1 51 v9.1 v9.2 1), .long (w2 * (w1 + w0.toInt64))] μ Q)
    exact F_201_211_ok hk42 hk67 K v3 v4 v5 v7 (S.1 51 v9.1 v9.2 1) (w2 * (w1 + w0.toInt64)) _ _ _ l0 l3 l4 l5 l7 R h
def F_201_67 (G : jG) (t : Nat) (k42 : Int64 → Int32 → Int32 → Int32 → sS → Option (Int64 × sS)) : Nat → Int64 → Int32 → Int32 → Int32 → Int32 → Int64 → sS → Option (Int64 × sS)
  | 0 => fun _ _ _ _ _ _ _ => none
  | tt + 1 => fun v1 v3 v4 v5 v6 v7 S => bif jcmp .ne v6 0 then (bif jcmp .ne v6 (nI 1) then (jif (jin v7.toInt32 1300) (jif (sex S.2.2.2.1 51 v7.toInt32.toNatClampNeg 0) (bif jcmp .lt (S.1 51 v7.toInt32.toNatClampNeg 0 3) 0 then (jif (jin v7.toInt32 1300) (bif jcmp .ne ((siI S 51 v7.toInt32.toNatClampNeg 0 3 (v3 + Int32.ofInt 1)).1 51 v7.toInt32.toNatClampNeg 0 0) (nI 2) then (F_201_186 G t k42 (F_201_67 G t k42 tt) (v3 + Int32.ofInt 1) v4 v5 v7 (v7.toInt32.toNatClampNeg, 0) (nI 4) (31 * v1) 31 (siI S 51 v7.toInt32.toNatClampNeg 0 3 (v3 + Int32.ofInt 1))) else (F_201_186 G t k42 (F_201_67 G t k42 tt) (v3 + Int32.ofInt 1) v4 v5 v7 (v7.toInt32.toNatClampNeg, 0) (nI 3) (31 * v1) 31 (siI S 51 v7.toInt32.toNatClampNeg 0 3 (v3 + Int32.ofInt 1))))) else (jif (jin v7.toInt32 1300) (F_201_235 G t k42 (F_201_67 G t k42 tt) t ((31 * ((31 * v1) + 2)) + ((S.1 51 v7.toInt32.toNatClampNeg 0 3).toInt64)) v3 v4 v5 S))))) else (F_201_235 G t k42 (F_201_67 G t k42 tt) t ((31 * v1) + 1) v3 v4 v5 S)) else (F_201_235 G t k42 (F_201_67 G t k42 tt) t ((31 * v1) + v7) v3 v4 v5 S)
theorem F_201_67_ok {G : jG} {t : Nat} {k42 : Int64 → Int32 → Int32 → Int32 → sS → Option (Int64 × sS)} {r : Int64} {S' : sS} {Q : Option Value ⊕ Nat → jS → Prop} (hk42 : ∀ (v1 : Int64) (v3 : Int32) (v4 : Int32) (v5 : Int32) (S : sS) (lv : jL) (μ : jS), jld lv 0 = some (.ref (spl 33 0 0)) → jld lv 1 = some (.long v1) → jld lv 3 = some (.int v3) → jld lv 4 = some (.int v4) → jld lv 5 = some (.int v5) → sR S μ → k42 v1 v3 v4 v5 S = some (r, S') → jX G jP 201 42 lv [] μ Q) (K : ∀ μ', sR S' μ' → Q (srL r) μ') : ∀ tt : Nat, ∀ (v1 : Int64) (v3 : Int32) (v4 : Int32) (v5 : Int32) (v6 : Int32) (v7 : Int64) (S : sS) (lv : jL) (μ : jS), jld lv 0 = some (.ref (spl 33 0 0)) → jld lv 1 = some (.long v1) → jld lv 3 = some (.int v3) → jld lv 4 = some (.int v4) → jld lv 5 = some (.int v5) → jld lv 6 = some (.int v6) → jld lv 7 = some (.long v7) → sR S μ → F_201_67 G t k42 tt v1 v3 v4 v5 v6 v7 S = some (r, S') → jX G jP 201 67 lv [] μ Q := by
  intro tt
  induction tt with
  | zero =>
    intro v1 v3 v4 v5 v6 v7 S lv μ l0 l1 l3 l4 l5 l6 l7 R h
    rw [F_201_67] at h
    cases h
  | succ tt ih =>
    intro v1 v3 v4 v5 v6 v7 S lv μ l0 l1 l3 l4 l5 l6 l7 R h
    rw [F_201_67] at h
    refine jX.li l6 (by rfl) (by rfl) (?_ : jX G jP 201 69 lv [.int v6] μ Q)
    rcases bif_or h with ⟨hc, h⟩ | ⟨hc, h⟩
    · refine jX.b1t hc (by rfl) (by rfl) (by rfl) (?_ : jX G jP 201 84 lv [] μ Q)
      refine jX.li l6 (by rfl) (by rfl) (?_ : jX G jP 201 86 lv [.int v6] μ Q)
      refine jX.ic (v := nI 1) (n := 1) (by rfl) (by rfl) (by decide) (?_ : jX G jP 201 87 lv [.int (nI 1), .int v6] μ Q)
      rcases bif_or h with ⟨hc, h⟩ | ⟨hc, h⟩
      · refine jX.b2t hc (by rfl) (by rfl) (by rfl) (?_ : jX G jP 201 101 lv [] μ Q)
        refine jX.lrn l0 (by rfl) (by rfl) (?_ : jX G jP 201 102 lv [.ref (spl 33 0 0)] μ Q)
        refine jX.sg R (by rfl) (by rfl) (by rfl) (by rfl) (by rfl) (by rfl) (?_ : jX G jP 201 105 lv [.ref (spl 34 0 0)] μ Q)
        refine jX.ll l7 (by rfl) (by rfl) (?_ : jX G jP 201 107 lv [.long v7, .ref (spl 34 0 0)] μ Q)
        refine jX.go (by rfl) (by rfl) (by rfl) (?_ : jX G jP 201 108 lv [.int v7.toInt32, .ref (spl 34 0 0)] μ Q)
        obtain ⟨g1, h⟩ := jif_some h
        refine jX.sar (f := fun q => bif Nat.blt q 1300 then some (spl 51 q 0) else none) R (by rfl) (by rfl) (by rfl) (by rfl) g1 (srf_in g1) (?_ : jX G jP 201 109 lv [.ref (spl 51 v7.toInt32.toNatClampNeg 0)] μ Q)
        obtain ⟨g2, h⟩ := jif_some h
        refine jX.sg R g2 (by rfl) (by rfl) (by rfl) (by rfl) (by rfl) (?_ : jX G jP 201 112 lv [.int (S.1 51 v7.toInt32.toNatClampNeg 0 3)] μ Q)
        rcases bif_or h with ⟨hc, h⟩ | ⟨hc, h⟩
        · refine jX.b1t hc (by rfl) (by rfl) (by rfl) (?_ : jX G jP 201 145 lv [] μ Q)
          refine jX.lrn l0 (by rfl) (by rfl) (?_ : jX G jP 201 146 lv [.ref (spl 33 0 0)] μ Q)
          refine jX.sg R (by rfl) (by rfl) (by rfl) (by rfl) (by rfl) (by rfl) (?_ : jX G jP 201 149 lv [.ref (spl 34 0 0)] μ Q)
          refine jX.ll l7 (by rfl) (by rfl) (?_ : jX G jP 201 151 lv [.long v7, .ref (spl 34 0 0)] μ Q)
          refine jX.go (by rfl) (by rfl) (by rfl) (?_ : jX G jP 201 152 lv [.int v7.toInt32, .ref (spl 34 0 0)] μ Q)
          obtain ⟨g3, h⟩ := jif_some h
          refine jX.sar (f := fun q => bif Nat.blt q 1300 then some (spl 51 q 0) else none) R (by rfl) (by rfl) (by rfl) (by rfl) g3 (srf_in g3) (?_ : jX G jP 201 153 lv [.ref (spl 51 v7.toInt32.toNatClampNeg 0)] μ Q)
          refine jX.s1 (k := 9) (pc' := 155) (by rfl) (by rfl) (by rfl) (fun lv l9 kp => (?_ : jX G jP 201 155 lv [] μ Q))
          replace l0 := kp 0 _ l0 (by rfl) (by first | rfl | simp [soR_cat])
          replace l1 := kp 1 _ l1 (by rfl) (by first | rfl | simp [soR_cat])
          replace l3 := kp 3 _ l3 (by rfl) (by first | rfl | simp [soR_cat])
          replace l4 := kp 4 _ l4 (by rfl) (by first | rfl | simp [soR_cat])
          replace l5 := kp 5 _ l5 (by rfl) (by first | rfl | simp [soR_cat])
          replace l7 := kp 7 _ l7 (by rfl) (by first | rfl | simp [soR_cat])
          refine jX.inc l3 (by rfl) (by rfl) (by rfl) (fun lv l3 kp => (?_ : jX G jP 201 158 lv [] μ Q))
          replace l0 := kp 0 _ l0 (by rfl) (by first | rfl | simp [soR_cat])
          replace l1 := kp 1 _ l1 (by rfl) (by first | rfl | simp [soR_cat])
          replace l4 := kp 4 _ l4 (by rfl) (by first | rfl | simp [soR_cat])
          replace l5 := kp 5 _ l5 (by rfl) (by first | rfl | simp [soR_cat])
          replace l7 := kp 7 _ l7 (by rfl) (by first | rfl | simp [soR_cat])
          replace l9 := kp 9 _ l9 (by rfl) (by first | rfl | simp [soR_cat])
          refine jX.lr l9 (by rfl) (by rfl) (?_ : jX G jP 201 160 lv [.ref (spl 51 v7.toInt32.toNatClampNeg 0)] μ Q)
          refine jX.lin l3 (by rfl) (by rfl) (?_ : jX G jP 201 161 lv [.int (v3 + Int32.ofInt 1), .ref (spl 51 v7.toInt32.toNatClampNeg 0)] μ Q)
          refine jX.spI R g2 (by rfl) (by rfl) (by rfl) (by rfl) (by rfl) (by rfl) (by rfl) (by rfl) (fun μ R => (?_ : jX G jP 201 164 lv [] μ Q))
          refine jX.go (by rfl) (by rfl) (by rfl) (?_ : jX G jP 201 167 lv [.long 31] μ Q)
          refine jX.go (by rfl) (by rfl) (by rfl) (?_ : jX G jP 201 170 lv [.long 31, .long 31] μ Q)
          refine jX.lln l1 (by rfl) (by rfl) (?_ : jX G jP 201 171 lv [.long v1, .long 31, .long 31] μ Q)
          refine jX.go (by rfl) (by rfl) (by rfl) (?_ : jX G jP 201 172 lv [.long (31 * v1), .long 31] μ Q)
          refine jX.lr l9 (by rfl) (by rfl) (?_ : jX G jP 201 174 lv [.ref (spl 51 v7.toInt32.toNatClampNeg 0), .long (31 * v1), .long 31] μ Q)
          refine jX.sg R g2 (by rfl) (by rfl) (by rfl) (by rfl) (by rfl) (?_ : jX G jP 201 177 lv [.int ((siI S 51 v7.toInt32.toNatClampNeg 0 3 (v3 + Int32.ofInt 1)).1 51 v7.toInt32.toNatClampNeg 0 0), .long (31 * v1), .long 31] μ Q)
          refine jX.ic (v := nI 2) (n := 1) (by rfl) (by rfl) (by decide) (?_ : jX G jP 201 178 lv [.int (nI 2), .int ((siI S 51 v7.toInt32.toNatClampNeg 0 3 (v3 + Int32.ofInt 1)).1 51 v7.toInt32.toNatClampNeg 0 0), .long (31 * v1), .long 31] μ Q)
          rcases bif_or h with ⟨hc, h⟩ | ⟨hc, h⟩
          · refine jX.b2t hc (by rfl) (by rfl) (by rfl) (?_ : jX G jP 201 185 lv [.long (31 * v1), .long 31] μ Q)
            refine jX.ic (v := nI 4) (n := 1) (by rfl) (by rfl) (by decide) (?_ : jX G jP 201 186 lv [.int (nI 4), .long (31 * v1), .long 31] μ Q)
            exact F_201_186_ok hk42 ih K (v3 + Int32.ofInt 1) v4 v5 v7 (v7.toInt32.toNatClampNeg, 0) (nI 4) (31 * v1) 31 _ _ _ l0 l3 l4 l5 l7 l9 R h
          · refine jX.b2f hc (by rfl) (by rfl) (by rfl) (?_ : jX G jP 201 181 lv [.long (31 * v1), .long 31] μ Q)
            refine jX.ic (v := nI 3) (n := 1) (by rfl) (by rfl) (by decide) (?_ : jX G jP 201 182 lv [.int (nI 3), .long (31 * v1), .long 31] μ Q)
            refine jX.go (by rfl) (by rfl) (by rfl) (?_ : jX G jP 201 186 lv [.int (nI 3), .long (31 * v1), .long 31] μ Q)
            exact F_201_186_ok hk42 ih K (v3 + Int32.ofInt 1) v4 v5 v7 (v7.toInt32.toNatClampNeg, 0) (nI 3) (31 * v1) 31 _ _ _ l0 l3 l4 l5 l7 l9 R h
        · refine jX.b1f hc (by rfl) (by rfl) (by rfl) (?_ : jX G jP 201 115 lv [] μ Q)
          refine jX.go (by rfl) (by rfl) (by rfl) (?_ : jX G jP 201 118 lv [.long 31] μ Q)
          refine jX.go (by rfl) (by rfl) (by rfl) (?_ : jX G jP 201 121 lv [.long 31, .long 31] μ Q)
          refine jX.lln l1 (by rfl) (by rfl) (?_ : jX G jP 201 122 lv [.long v1, .long 31, .long 31] μ Q)
          refine jX.go (by rfl) (by rfl) (by rfl) (?_ : jX G jP 201 123 lv [.long (31 * v1), .long 31] μ Q)
          refine jX.go (by rfl) (by rfl) (by rfl) (?_ : jX G jP 201 126 lv [.long 2, .long (31 * v1), .long 31] μ Q)
          refine jX.go (by rfl) (by rfl) (by rfl) (?_ : jX G jP 201 127 lv [.long ((31 * v1) + 2), .long 31] μ Q)
          refine jX.go (by rfl) (by rfl) (by rfl) (?_ : jX G jP 201 128 lv [.long (31 * ((31 * v1) + 2))] μ Q)
          refine jX.lrn l0 (by rfl) (by rfl) (?_ : jX G jP 201 129 lv [.ref (spl 33 0 0), .long (31 * ((31 * v1) + 2))] μ Q)
          refine jX.sg R (by rfl) (by rfl) (by rfl) (by rfl) (by rfl) (by rfl) (?_ : jX G jP 201 132 lv [.ref (spl 34 0 0), .long (31 * ((31 * v1) + 2))] μ Q)
          refine jX.ll l7 (by rfl) (by rfl) (?_ : jX G jP 201 134 lv [.long v7, .ref (spl 34 0 0), .long (31 * ((31 * v1) + 2))] μ Q)
          refine jX.go (by rfl) (by rfl) (by rfl) (?_ : jX G jP 201 135 lv [.int v7.toInt32, .ref (spl 34 0 0), .long (31 * ((31 * v1) + 2))] μ Q)
          obtain ⟨g4, h⟩ := jif_some h
          refine jX.sar (f := fun q => bif Nat.blt q 1300 then some (spl 51 q 0) else none) R (by rfl) (by rfl) (by rfl) (by rfl) g4 (srf_in g4) (?_ : jX G jP 201 136 lv [.ref (spl 51 v7.toInt32.toNatClampNeg 0), .long (31 * ((31 * v1) + 2))] μ Q)
          refine jX.sg R g2 (by rfl) (by rfl) (by rfl) (by rfl) (by rfl) (?_ : jX G jP 201 139 lv [.int (S.1 51 v7.toInt32.toNatClampNeg 0 3), .long (31 * ((31 * v1) + 2))] μ Q)
          refine jX.go (by rfl) (by rfl) (by rfl) (?_ : jX G jP 201 140 lv [.long ((S.1 51 v7.toInt32.toNatClampNeg 0 3).toInt64), .long (31 * ((31 * v1) + 2))] μ Q)
          refine jX.go (by rfl) (by rfl) (by rfl) (?_ : jX G jP 201 141 lv [.long ((31 * ((31 * v1) + 2)) + ((S.1 51 v7.toInt32.toNatClampNeg 0 3).toInt64))] μ Q)
          refine jX.s2 (k := 1) (pc' := 142) (by rfl) (by rfl) (by rfl) (fun lv l1 kp => (?_ : jX G jP 201 142 lv [] μ Q))
          replace l0 := kp 0 _ l0 (by rfl) (by first | rfl | simp [soR_cat])
          replace l3 := kp 3 _ l3 (by rfl) (by first | rfl | simp [soR_cat])
          replace l4 := kp 4 _ l4 (by rfl) (by first | rfl | simp [soR_cat])
          replace l5 := kp 5 _ l5 (by rfl) (by first | rfl | simp [soR_cat])
          refine jX.go (by rfl) (by rfl) (by rfl) (?_ : jX G jP 201 235 lv [] μ Q)
          exact F_201_235_ok hk42 ih K _ ((31 * ((31 * v1) + 2)) + ((S.1 51 v7.toInt32.toNatClampNeg 0 3).toInt64)) v3 v4 v5 _ _ _ l0 l1 l3 l4 l5 R h
      · refine jX.b2f hc (by rfl) (by rfl) (by rfl) (?_ : jX G jP 201 90 lv [] μ Q)
        refine jX.go (by rfl) (by rfl) (by rfl) (?_ : jX G jP 201 93 lv [.long 31] μ Q)
        refine jX.lln l1 (by rfl) (by rfl) (?_ : jX G jP 201 94 lv [.long v1, .long 31] μ Q)
        refine jX.go (by rfl) (by rfl) (by rfl) (?_ : jX G jP 201 95 lv [.long (31 * v1)] μ Q)
        refine jX.go (by rfl) (by rfl) (by rfl) (?_ : jX G jP 201 96 lv [.long 1, .long (31 * v1)] μ Q)
        refine jX.go (by rfl) (by rfl) (by rfl) (?_ : jX G jP 201 97 lv [.long ((31 * v1) + 1)] μ Q)
        refine jX.s2 (k := 1) (pc' := 98) (by rfl) (by rfl) (by rfl) (fun lv l1 kp => (?_ : jX G jP 201 98 lv [] μ Q))
        replace l0 := kp 0 _ l0 (by rfl) (by first | rfl | simp [soR_cat])
        replace l3 := kp 3 _ l3 (by rfl) (by first | rfl | simp [soR_cat])
        replace l4 := kp 4 _ l4 (by rfl) (by first | rfl | simp [soR_cat])
        replace l5 := kp 5 _ l5 (by rfl) (by first | rfl | simp [soR_cat])
        refine jX.go (by rfl) (by rfl) (by rfl) (?_ : jX G jP 201 235 lv [] μ Q)
        exact F_201_235_ok hk42 ih K _ ((31 * v1) + 1) v3 v4 v5 _ _ _ l0 l1 l3 l4 l5 R h
    · refine jX.b1f hc (by rfl) (by rfl) (by rfl) (?_ : jX G jP 201 72 lv [] μ Q)
      refine jX.go (by rfl) (by rfl) (by rfl) (?_ : jX G jP 201 75 lv [.long 31] μ Q)
      refine jX.lln l1 (by rfl) (by rfl) (?_ : jX G jP 201 76 lv [.long v1, .long 31] μ Q)
      refine jX.go (by rfl) (by rfl) (by rfl) (?_ : jX G jP 201 77 lv [.long (31 * v1)] μ Q)
      refine jX.ll l7 (by rfl) (by rfl) (?_ : jX G jP 201 79 lv [.long v7, .long (31 * v1)] μ Q)
      refine jX.go (by rfl) (by rfl) (by rfl) (?_ : jX G jP 201 80 lv [.long ((31 * v1) + v7)] μ Q)
      refine jX.s2 (k := 1) (pc' := 81) (by rfl) (by rfl) (by rfl) (fun lv l1 kp => (?_ : jX G jP 201 81 lv [] μ Q))
      replace l0 := kp 0 _ l0 (by rfl) (by first | rfl | simp [soR_cat])
      replace l3 := kp 3 _ l3 (by rfl) (by first | rfl | simp [soR_cat])
      replace l4 := kp 4 _ l4 (by rfl) (by first | rfl | simp [soR_cat])
      replace l5 := kp 5 _ l5 (by rfl) (by first | rfl | simp [soR_cat])
      refine jX.go (by rfl) (by rfl) (by rfl) (?_ : jX G jP 201 235 lv [] μ Q)
      exact F_201_235_ok hk42 ih K _ ((31 * v1) + v7) v3 v4 v5 _ _ _ l0 l1 l3 l4 l5 R h
def F_201_42 (G : jG) (t : Nat) : Nat → Int64 → Int32 → Int32 → Int32 → sS → Option (Int64 × sS)
  | 0 => fun _ _ _ _ _ => none
  | tt + 1 => fun v1 v3 v4 v5 S => bif jcmp .ge v5 (nI 16) then (some (v1, S)) else (jif (jin v5 16) (jif (jin v5 16) (F_201_67 G t (F_201_42 G t tt) t v1 v3 v4 v5 (S.1 36 0 0 v5.toNatClampNeg) (S.2.1 43 0 0 v5.toNatClampNeg) S)))
theorem F_201_42_ok {G : jG} {t : Nat} {r : Int64} {S' : sS} {Q : Option Value ⊕ Nat → jS → Prop} (K : ∀ μ', sR S' μ' → Q (srL r) μ') : ∀ tt : Nat, ∀ (v1 : Int64) (v3 : Int32) (v4 : Int32) (v5 : Int32) (S : sS) (lv : jL) (μ : jS), jld lv 0 = some (.ref (spl 33 0 0)) → jld lv 1 = some (.long v1) → jld lv 3 = some (.int v3) → jld lv 4 = some (.int v4) → jld lv 5 = some (.int v5) → sR S μ → F_201_42 G t tt v1 v3 v4 v5 S = some (r, S') → jX G jP 201 42 lv [] μ Q := by
  intro tt
  induction tt with
  | zero =>
    intro v1 v3 v4 v5 S lv μ l0 l1 l3 l4 l5 R h
    rw [F_201_42] at h
    cases h
  | succ tt ih =>
    intro v1 v3 v4 v5 S lv μ l0 l1 l3 l4 l5 R h
    rw [F_201_42] at h
    refine jX.li l5 (by rfl) (by rfl) (?_ : jX G jP 201 44 lv [.int v5] μ Q)
    refine jX.ic (v := nI 16) (n := 2) (by rfl) (by rfl) (by decide) (?_ : jX G jP 201 46 lv [.int (nI 16), .int v5] μ Q)
    rcases bif_or h with ⟨hc, h⟩ | ⟨hc, h⟩
    · refine jX.b2t hc (by rfl) (by rfl) (by rfl) (?_ : jX G jP 201 396 lv [] μ Q)
      refine jX.lln l1 (by rfl) (by rfl) (?_ : jX G jP 201 397 lv [.long v1] μ Q)
      exact jX.ret (by rfl) (by rfl) (by rfl) (by rfl) (sretv (f := srL) h K R)
    · refine jX.b2f hc (by rfl) (by rfl) (by rfl) (?_ : jX G jP 201 49 lv [] μ Q)
      refine jX.lrn l0 (by rfl) (by rfl) (?_ : jX G jP 201 50 lv [.ref (spl 33 0 0)] μ Q)
      refine jX.sg R (by rfl) (by rfl) (by rfl) (by rfl) (by rfl) (by rfl) (?_ : jX G jP 201 53 lv [.ref (spl 36 0 0)] μ Q)
      refine jX.li l5 (by rfl) (by rfl) (?_ : jX G jP 201 55 lv [.int v5, .ref (spl 36 0 0)] μ Q)
      obtain ⟨g1, h⟩ := jif_some h
      refine jX.sai R (by rfl) (by rfl) (by rfl) (by rfl) g1 (?_ : jX G jP 201 56 lv [.int (S.1 36 0 0 v5.toNatClampNeg)] μ Q)
      refine jX.s1 (k := 6) (pc' := 58) (by rfl) (by rfl) (by rfl) (fun lv l6 kp => (?_ : jX G jP 201 58 lv [] μ Q))
      replace l0 := kp 0 _ l0 (by rfl) (by first | rfl | simp [soR_cat])
      replace l1 := kp 1 _ l1 (by rfl) (by first | rfl | simp [soR_cat])
      replace l3 := kp 3 _ l3 (by rfl) (by first | rfl | simp [soR_cat])
      replace l4 := kp 4 _ l4 (by rfl) (by first | rfl | simp [soR_cat])
      replace l5 := kp 5 _ l5 (by rfl) (by first | rfl | simp [soR_cat])
      refine jX.lrn l0 (by rfl) (by rfl) (?_ : jX G jP 201 59 lv [.ref (spl 33 0 0)] μ Q)
      refine jX.sg R (by rfl) (by rfl) (by rfl) (by rfl) (by rfl) (by rfl) (?_ : jX G jP 201 62 lv [.ref (spl 43 0 0)] μ Q)
      refine jX.li l5 (by rfl) (by rfl) (?_ : jX G jP 201 64 lv [.int v5, .ref (spl 43 0 0)] μ Q)
      obtain ⟨g2, h⟩ := jif_some h
      refine jX.sal R (by rfl) (by rfl) (by rfl) (by rfl) g2 (?_ : jX G jP 201 65 lv [.long (S.2.1 43 0 0 v5.toNatClampNeg)] μ Q)
      refine jX.s2 (k := 7) (pc' := 67) (by rfl) (by rfl) (by rfl) (fun lv l7 kp => (?_ : jX G jP 201 67 lv [] μ Q))
      replace l0 := kp 0 _ l0 (by rfl) (by first | rfl | simp [soR_cat])
      replace l1 := kp 1 _ l1 (by rfl) (by first | rfl | simp [soR_cat])
      replace l3 := kp 3 _ l3 (by rfl) (by first | rfl | simp [soR_cat])
      replace l4 := kp 4 _ l4 (by rfl) (by first | rfl | simp [soR_cat])
      replace l5 := kp 5 _ l5 (by rfl) (by first | rfl | simp [soR_cat])
      replace l6 := kp 6 _ l6 (by rfl) (by first | rfl | simp [soR_cat])
      exact F_201_67_ok ih K _ v1 v3 v4 v5 (S.1 36 0 0 v5.toNatClampNeg) (S.2.1 43 0 0 v5.toNatClampNeg) _ _ _ l0 l1 l3 l4 l5 l6 l7 R h
def F_201_7 (G : jG) (t : Nat) : Nat → Int32 → sS → Option (Int64 × sS)
  | 0 => fun _ _ => none
  | tt + 1 => fun v1 S => bif jcmp .ge v1 (nI 1300) then (F_201_42 G t t 7 (nI 0) (nI 0) (nI 0) S) else (jif (jin v1 1300) (jif (sex S.2.2.2.1 51 v1.toNatClampNeg 0) (F_201_7 G t tt (v1 + Int32.ofInt 1) (siI S 51 v1.toNatClampNeg 0 3 (-1)))))
theorem F_201_7_ok {G : jG} {t : Nat} {r : Int64} {S' : sS} {Q : Option Value ⊕ Nat → jS → Prop} (K : ∀ μ', sR S' μ' → Q (srL r) μ') : ∀ tt : Nat, ∀ (v1 : Int32) (S : sS) (lv : jL) (μ : jS), jld lv 0 = some (.ref (spl 33 0 0)) → jld lv 1 = some (.int v1) → sR S μ → F_201_7 G t tt v1 S = some (r, S') → jX G jP 201 7 lv [] μ Q := by
  intro tt
  induction tt with
  | zero =>
    intro v1 S lv μ l0 l1 R h
    rw [F_201_7] at h
    cases h
  | succ tt ih =>
    intro v1 S lv μ l0 l1 R h
    rw [F_201_7] at h
    refine jX.lin l1 (by rfl) (by rfl) (?_ : jX G jP 201 8 lv [.int v1] μ Q)
    refine jX.ic (v := nI 1300) (n := 3) (by rfl) (by rfl) (by decide) (?_ : jX G jP 201 11 lv [.int (nI 1300), .int v1] μ Q)
    rcases bif_or h with ⟨hc, h⟩ | ⟨hc, h⟩
    · refine jX.b2t hc (by rfl) (by rfl) (by rfl) (?_ : jX G jP 201 30 lv [] μ Q)
      refine jX.go (by rfl) (by rfl) (by rfl) (?_ : jX G jP 201 33 lv [.long 7] μ Q)
      refine jX.s2 (k := 1) (pc' := 34) (by rfl) (by rfl) (by rfl) (fun lv l1 kp => (?_ : jX G jP 201 34 lv [] μ Q))
      replace l0 := kp 0 _ l0 (by rfl) (by first | rfl | simp [soR_cat])
      refine jX.ic (v := nI 0) (n := 1) (by rfl) (by rfl) (by decide) (?_ : jX G jP 201 35 lv [.int (nI 0)] μ Q)
      refine jX.s1 (k := 3) (pc' := 36) (by rfl) (by rfl) (by rfl) (fun lv l3 kp => (?_ : jX G jP 201 36 lv [] μ Q))
      replace l0 := kp 0 _ l0 (by rfl) (by first | rfl | simp [soR_cat])
      replace l1 := kp 1 _ l1 (by rfl) (by first | rfl | simp [soR_cat])
      refine jX.ic (v := nI 0) (n := 1) (by rfl) (by rfl) (by decide) (?_ : jX G jP 201 37 lv [.int (nI 0)] μ Q)
      refine jX.s1 (k := 4) (pc' := 39) (by rfl) (by rfl) (by rfl) (fun lv l4 kp => (?_ : jX G jP 201 39 lv [] μ Q))
      replace l0 := kp 0 _ l0 (by rfl) (by first | rfl | simp [soR_cat])
      replace l1 := kp 1 _ l1 (by rfl) (by first | rfl | simp [soR_cat])
      replace l3 := kp 3 _ l3 (by rfl) (by first | rfl | simp [soR_cat])
      refine jX.ic (v := nI 0) (n := 1) (by rfl) (by rfl) (by decide) (?_ : jX G jP 201 40 lv [.int (nI 0)] μ Q)
      refine jX.s1 (k := 5) (pc' := 42) (by rfl) (by rfl) (by rfl) (fun lv l5 kp => (?_ : jX G jP 201 42 lv [] μ Q))
      replace l0 := kp 0 _ l0 (by rfl) (by first | rfl | simp [soR_cat])
      replace l1 := kp 1 _ l1 (by rfl) (by first | rfl | simp [soR_cat])
      replace l3 := kp 3 _ l3 (by rfl) (by first | rfl | simp [soR_cat])
      replace l4 := kp 4 _ l4 (by rfl) (by first | rfl | simp [soR_cat])
      exact F_201_42_ok  K _ 7 (nI 0) (nI 0) (nI 0) _ _ _ l0 l1 l3 l4 l5 R h
    · refine jX.b2f hc (by rfl) (by rfl) (by rfl) (?_ : jX G jP 201 14 lv [] μ Q)
      refine jX.lrn l0 (by rfl) (by rfl) (?_ : jX G jP 201 15 lv [.ref (spl 33 0 0)] μ Q)
      refine jX.sg R (by rfl) (by rfl) (by rfl) (by rfl) (by rfl) (by rfl) (?_ : jX G jP 201 18 lv [.ref (spl 34 0 0)] μ Q)
      refine jX.lin l1 (by rfl) (by rfl) (?_ : jX G jP 201 19 lv [.int v1, .ref (spl 34 0 0)] μ Q)
      obtain ⟨g1, h⟩ := jif_some h
      refine jX.sar (f := fun q => bif Nat.blt q 1300 then some (spl 51 q 0) else none) R (by rfl) (by rfl) (by rfl) (by rfl) g1 (srf_in g1) (?_ : jX G jP 201 20 lv [.ref (spl 51 v1.toNatClampNeg 0)] μ Q)
      refine jX.ic (v := (-1)) (n := 1) (by rfl) (by rfl) (by decide) (?_ : jX G jP 201 21 lv [.int (-1), .ref (spl 51 v1.toNatClampNeg 0)] μ Q)
      obtain ⟨g2, h⟩ := jif_some h
      refine jX.spI R g2 (by rfl) (by rfl) (by rfl) (by rfl) (by rfl) (by rfl) (by rfl) (by rfl) (fun μ R => (?_ : jX G jP 201 24 lv [] μ Q))
      refine jX.inc l1 (by rfl) (by rfl) (by rfl) (fun lv l1 kp => (?_ : jX G jP 201 27 lv [] μ Q))
      replace l0 := kp 0 _ l0 (by rfl) (by first | rfl | simp [soR_cat])
      refine jX.go (by rfl) (by rfl) (by rfl) (?_ : jX G jP 201 7 lv [] μ Q)
      exact ih (v1 + Int32.ofInt 1) _ _ _ l0 l1 R h
def F_201 (G : jG) (t : Nat) (S : sS) : Option (Int64 × sS) := F_201_7 G t t (nI 0) (siI S 33 0 0 25 (nI 0))
theorem F_201_ok {G : jG} {t : Nat} {S : sS} {r : Int64} {S' : sS} {μ : jS} {Q : Option Value ⊕ Nat → jS → Prop} (R : sR S μ) (h : F_201 G t S = some (r, S')) (K : ∀ μ', sR S' μ' → Q (srL r) μ') : jX G jP 201 0 (lv_args 0 [.ref (spl 33 0 0)]) [] μ Q := by
  unfold F_201 at h
  have l0 : jld (lv_args 0 [.ref (spl 33 0 0)]) 0 = some (.ref (spl 33 0 0)) := by rfl
  generalize lv_args 0 [.ref (spl 33 0 0)] = lv at *
  refine jX.lrn l0 (by rfl) (by rfl) (?_ : jX G jP 201 1 lv [.ref (spl 33 0 0)] μ Q)
  refine jX.ic (v := nI 0) (n := 1) (by rfl) (by rfl) (by decide) (?_ : jX G jP 201 2 lv [.int (nI 0), .ref (spl 33 0 0)] μ Q)
  refine jX.spI R (by rfl) (by rfl) (by rfl) (by rfl) (by rfl) (by rfl) (by rfl) (by rfl) (by rfl) (fun μ R => (?_ : jX G jP 201 5 lv [] μ Q))
  refine jX.ic (v := nI 0) (n := 1) (by rfl) (by rfl) (by decide) (?_ : jX G jP 201 6 lv [.int (nI 0)] μ Q)
  refine jX.s1 (k := 1) (pc' := 7) (by rfl) (by rfl) (by rfl) (fun lv l1 kp => (?_ : jX G jP 201 7 lv [] μ Q))
  replace l0 := kp 0 _ l0 (by rfl) (by first | rfl | simp [soR_cat])
  exact F_201_7_ok  K _ (nI 0) _ _ _ l0 l1 R h
/-! 202 StrandRuntimeModel.collect()I -/
def F_202 (G : jG) (t : Nat) (S : sS) : Option (Int32 × sS) := (F_167 G t (siI S 33 0 0 25 (nI 0))).bind (fun q1 => some ((q1.2.1 33 0 0 27), q1.2))
theorem F_202_ok {G : jG} {t : Nat} {S : sS} {r : Int32} {S' : sS} {μ : jS} {Q : Option Value ⊕ Nat → jS → Prop} (R : sR S μ) (h : F_202 G t S = some (r, S')) (K : ∀ μ', sR S' μ' → Q (srI r) μ') : jX G jP 202 0 (lv_args 0 [.ref (spl 33 0 0)]) [] μ Q := by
  unfold F_202 at h
  have l0 : jld (lv_args 0 [.ref (spl 33 0 0)]) 0 = some (.ref (spl 33 0 0)) := by rfl
  generalize lv_args 0 [.ref (spl 33 0 0)] = lv at *
  refine jX.lrn l0 (by rfl) (by rfl) (?_ : jX G jP 202 1 lv [.ref (spl 33 0 0)] μ Q)
  refine jX.ic (v := nI 0) (n := 1) (by rfl) (by rfl) (by decide) (?_ : jX G jP 202 2 lv [.int (nI 0), .ref (spl 33 0 0)] μ Q)
  refine jX.spI R (by rfl) (by rfl) (by rfl) (by rfl) (by rfl) (by rfl) (by rfl) (by rfl) (by rfl) (fun μ R => (?_ : jX G jP 202 5 lv [] μ Q))
  refine jX.lrn l0 (by rfl) (by rfl) (?_ : jX G jP 202 6 lv [.ref (spl 33 0 0)] μ Q)
  obtain ⟨q1, e1, h⟩ := sbd h
  refine jX.cv (by rfl) (by rfl) (by rfl) (by rfl) (by rfl) (by rfl) (by rfl) (R.rec (by rfl) (by rfl)) (Nat.le_of_ble_eq_true rfl) (Nat.le_of_ble_eq_true rfl) (F_167_ok R e1 (fun μ R => ⟨rfl, (?_ : jX G jP 202 9 lv [] μ Q)⟩))
  refine jX.lrn l0 (by rfl) (by rfl) (?_ : jX G jP 202 10 lv [.ref (spl 33 0 0)] μ Q)
  refine jX.sg R (by rfl) (by rfl) (by rfl) (by rfl) (by rfl) (by rfl) (?_ : jX G jP 202 13 lv [.int (q1.2.1 33 0 0 27)] μ Q)
  exact jX.ret (by rfl) (by rfl) (by rfl) (by rfl) (sretv (f := srI) h K R)
/-! 203 StrandRuntimeModel.check()I -/
def F_203 (G : jG) (t : Nat) (S : sS) : Option (Int32 × sS) := some ((nI 0), (siI S 33 0 0 25 (nI 0)))
theorem F_203_ok {G : jG} {t : Nat} {S : sS} {r : Int32} {S' : sS} {μ : jS} {Q : Option Value ⊕ Nat → jS → Prop} (R : sR S μ) (h : F_203 G t S = some (r, S')) (K : ∀ μ', sR S' μ' → Q (srI r) μ') : jX G jP 203 0 (lv_args 0 [.ref (spl 33 0 0)]) [] μ Q := by
  unfold F_203 at h
  have l0 : jld (lv_args 0 [.ref (spl 33 0 0)]) 0 = some (.ref (spl 33 0 0)) := by rfl
  generalize lv_args 0 [.ref (spl 33 0 0)] = lv at *
  refine jX.lrn l0 (by rfl) (by rfl) (?_ : jX G jP 203 1 lv [.ref (spl 33 0 0)] μ Q)
  refine jX.ic (v := nI 0) (n := 1) (by rfl) (by rfl) (by decide) (?_ : jX G jP 203 2 lv [.int (nI 0), .ref (spl 33 0 0)] μ Q)
  refine jX.spI R (by rfl) (by rfl) (by rfl) (by rfl) (by rfl) (by rfl) (by rfl) (by rfl) (by rfl) (fun μ R => (?_ : jX G jP 203 5 lv [] μ Q))
  refine jX.ic (v := nI 0) (n := 1) (by rfl) (by rfl) (by decide) (?_ : jX G jP 203 6 lv [.int (nI 0)] μ Q)
  exact jX.ret (by rfl) (by rfl) (by rfl) (by rfl) (sretv (f := srI) h K R)
