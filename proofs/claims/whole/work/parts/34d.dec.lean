/-! printed by dec.py: what methods 120 to 155 do to the store -/
/-! 120 StrandRuntime$Machine.step()V -/
def F_120_214 (G : jG) (t : Nat) (w0 : Int32) (w1 : (Option (Nat × Nat))) (S : sS) : Option (Unit × sS) := (w1).bind (fun a1 => (F_117 G t a1 w0 S).bind (fun q2 => (F_119 G t (q2.2.1 23 0 0 10) q2.2).bind (fun q3 => some ((), q3.2))))
theorem F_120_214_ok {G : jG} {t : Nat} {r : Unit} {S' : sS} {Q : Option Value ⊕ Nat → jS → Prop} (K : ∀ μ', sR S' μ' → Q (srV r) μ') : ∀ (w0 : Int32) (w1 : (Option (Nat × Nat))) (S : sS) (lv : jL) (μ : jS), jld lv 0 = some (.ref (spl 23 0 0)) → sR S μ → F_120_214 G t w0 w1 S = some (r, S') → jX G jP 120 214 lv [.int w0, soR 25 w1, .ref (spl 23 0 0)] μ Q := by
  intro w0 w1 S lv μ l0 R h
  unfold F_120_214 at h
  obtain ⟨a1, e1, h⟩ := sbd h
  rw [soR_some (t := 25) e1]
  obtain ⟨q2, e2, h⟩ := sbd h
  refine jX.cv (by rfl) (by rfl) (by rfl) (by rfl) (by rfl) (by rfl) (by rfl) (R.rec (by rfl) (by rfl)) (Nat.le_of_ble_eq_true rfl) (Nat.le_of_ble_eq_true rfl) (F_117_ok R e2 (fun μ R => ⟨rfl, (?_ : jX G jP 120 217 lv [] μ Q)⟩))
  refine jX.lrn l0 (by rfl) (by rfl) (?_ : jX G jP 120 218 lv [.ref (spl 23 0 0)] μ Q)
  refine jX.sg R (by rfl) (by rfl) (by rfl) (by rfl) (by rfl) (by rfl) (?_ : jX G jP 120 221 lv [.ref (spl 11 0 0)] μ Q)
  refine jX.lrn l0 (by rfl) (by rfl) (?_ : jX G jP 120 222 lv [.ref (spl 23 0 0), .ref (spl 11 0 0)] μ Q)
  refine jX.sg R (by rfl) (by rfl) (by rfl) (by rfl) (by rfl) (by rfl) (?_ : jX G jP 120 225 lv [.int (q2.2.1 23 0 0 10), .ref (spl 11 0 0)] μ Q)
  obtain ⟨q3, e3, h⟩ := sbd h
  refine jX.cv (by rfl) (by rfl) (by rfl) (by rfl) (by rfl) (by rfl) (by rfl) (R.rec (by rfl) (by rfl)) (Nat.le_of_ble_eq_true rfl) (Nat.le_of_ble_eq_true rfl) (F_119_ok R e3 (fun μ R => ⟨rfl, (?_ : jX G jP 120 228 lv [] μ Q)⟩))
  exact jX.ret (by rfl) (by rfl) (by rfl) (by rfl) (sretv (f := srV) h K R)
def F_120_200 (G : jG) (t : Nat) (v1 : (Option (Nat × Nat))) (v4 : Int32) (S : sS) : Option (Unit × sS) := bif jcmp .ne v4 (nI 32) then (F_120_214 G t (nI 0) v1 S) else (F_120_214 G t (nI 1) v1 S)
theorem F_120_200_ok {G : jG} {t : Nat} {r : Unit} {S' : sS} {Q : Option Value ⊕ Nat → jS → Prop} (K : ∀ μ', sR S' μ' → Q (srV r) μ') : ∀ (v1 : (Option (Nat × Nat))) (v4 : Int32) (S : sS) (lv : jL) (μ : jS), jld lv 0 = some (.ref (spl 23 0 0)) → jld lv 1 = some (soR 25 v1) → jld lv 4 = some (.int v4) → sR S μ → F_120_200 G t v1 v4 S = some (r, S') → jX G jP 120 200 lv [] μ Q := by
  intro v1 v4 S lv μ l0 l1 l4 R h
  unfold F_120_200 at h
  refine jX.lrn l0 (by rfl) (by rfl) (?_ : jX G jP 120 201 lv [.ref (spl 23 0 0)] μ Q)
  refine jX.lon l1 (by rfl) (by rfl) (?_ : jX G jP 120 202 lv [soR 25 v1, .ref (spl 23 0 0)] μ Q)
  refine jX.li l4 (by rfl) (by rfl) (?_ : jX G jP 120 204 lv [.int v4, soR 25 v1, .ref (spl 23 0 0)] μ Q)
  refine jX.ic (v := nI 32) (n := 2) (by rfl) (by rfl) (by decide) (?_ : jX G jP 120 206 lv [.int (nI 32), .int v4, soR 25 v1, .ref (spl 23 0 0)] μ Q)
  rcases bif_or h with ⟨hc, h⟩ | ⟨hc, h⟩
  · refine jX.b2t hc (by rfl) (by rfl) (by rfl) (?_ : jX G jP 120 213 lv [soR 25 v1, .ref (spl 23 0 0)] μ Q)
    refine jX.ic (v := nI 0) (n := 1) (by rfl) (by rfl) (by decide) (?_ : jX G jP 120 214 lv [.int (nI 0), soR 25 v1, .ref (spl 23 0 0)] μ Q)
    exact F_120_214_ok  K (nI 0) v1 _ _ _ l0 R h
  · refine jX.b2f hc (by rfl) (by rfl) (by rfl) (?_ : jX G jP 120 209 lv [soR 25 v1, .ref (spl 23 0 0)] μ Q)
    refine jX.ic (v := nI 1) (n := 1) (by rfl) (by rfl) (by decide) (?_ : jX G jP 120 210 lv [.int (nI 1), soR 25 v1, .ref (spl 23 0 0)] μ Q)
    refine jX.go (by rfl) (by rfl) (by rfl) (?_ : jX G jP 120 214 lv [.int (nI 1), soR 25 v1, .ref (spl 23 0 0)] μ Q)
    exact F_120_214_ok  K (nI 1) v1 _ _ _ l0 R h
def F_120_175 (G : jG) (t : Nat) (v1 : (Option (Nat × Nat))) (v2 : (Nat × Nat)) (v4 : Int32) (v6 : Int32) (w0 : Int32) (S : sS) : Option (Unit × sS) := bif jcmp .eq w0 0 then (F_120_200 G t v1 v4 S) else (jif (sex S.2.2.2.1 27 v2.1 v2.2) (jif (sex S.2.2.2.1 29 v2.1 1) ((F_76 G t (v2.1, 1) v6 S).bind (fun q3 => (v1).bind (fun a4 => jif (sex q3.2.2.2.2.1 25 a4.1 a4.2) ((F_81 G t a4 (nI 2) w0.toInt64 (nI 0) q3.2).bind (fun q6 => F_120_200 G t (some (a4.1, a4.2)) v4 q6.2)))))))
theorem F_120_175_ok {G : jG} {t : Nat} {r : Unit} {S' : sS} {Q : Option Value ⊕ Nat → jS → Prop} (K : ∀ μ', sR S' μ' → Q (srV r) μ') : ∀ (v1 : (Option (Nat × Nat))) (v2 : (Nat × Nat)) (v4 : Int32) (v6 : Int32) (w0 : Int32) (S : sS) (lv : jL) (μ : jS), jld lv 0 = some (.ref (spl 23 0 0)) → jld lv 1 = some (soR 25 v1) → jld lv 2 = some (.ref (spl 27 v2.1 v2.2)) → jld lv 4 = some (.int v4) → jld lv 6 = some (.int v6) → sR S μ → F_120_175 G t v1 v2 v4 v6 w0 S = some (r, S') → jX G jP 120 175 lv [.int w0] μ Q := by
  intro v1 v2 v4 v6 w0 S lv μ l0 l1 l2 l4 l6 R h
  unfold F_120_175 at h
  refine jX.s1 (k := 9) (pc' := 177) (by rfl) (by rfl) (by rfl) (fun lv l9 kp => (?_ : jX G jP 120 177 lv [] μ Q))
  replace l0 := kp 0 _ l0 (by rfl) (by first | rfl | simp [soR_cat])
  replace l1 := kp 1 _ l1 (by rfl) (by first | rfl | simp [soR_cat])
  replace l2 := kp 2 _ l2 (by rfl) (by first | rfl | simp [soR_cat])
  replace l4 := kp 4 _ l4 (by rfl) (by first | rfl | simp [soR_cat])
  replace l6 := kp 6 _ l6 (by rfl) (by first | rfl | simp [soR_cat])
  refine jX.li l9 (by rfl) (by rfl) (?_ : jX G jP 120 179 lv [.int w0] μ Q)
  rcases bif_or h with ⟨hc, h⟩ | ⟨hc, h⟩
  · refine jX.b1t hc (by rfl) (by rfl) (by rfl) (?_ : jX G jP 120 200 lv [] μ Q)
    exact F_120_200_ok  K v1 v4 _ _ _ l0 l1 l4 R h
  · refine jX.b1f hc (by rfl) (by rfl) (by rfl) (?_ : jX G jP 120 182 lv [] μ Q)
    refine jX.lrn l2 (by rfl) (by rfl) (?_ : jX G jP 120 183 lv [.ref (spl 27 v2.1 v2.2)] μ Q)
    obtain ⟨g1, h⟩ := jif_some h
    refine jX.sg R g1 (by rfl) (by rfl) (by rfl) (by rfl) (by rfl) (?_ : jX G jP 120 186 lv [.ref (spl 29 v2.1 1)] μ Q)
    refine jX.li l6 (by rfl) (by rfl) (?_ : jX G jP 120 188 lv [.int v6, .ref (spl 29 v2.1 1)] μ Q)
    obtain ⟨g2, h⟩ := jif_some h
    obtain ⟨q3, e3, h⟩ := sbd h
    refine jX.cv (by rfl) (by rfl) (by rfl) (by rfl) (by rfl) (by rfl) (by rfl) (R.rec g2 (by rfl)) (Nat.le_of_ble_eq_true rfl) (Nat.le_of_ble_eq_true rfl) (F_76_ok R e3 (fun μ R => ⟨rfl, (?_ : jX G jP 120 191 lv [] μ Q)⟩))
    refine jX.lon l1 (by rfl) (by rfl) (?_ : jX G jP 120 192 lv [soR 25 v1] μ Q)
    refine jX.ic (v := nI 2) (n := 1) (by rfl) (by rfl) (by decide) (?_ : jX G jP 120 193 lv [.int (nI 2), soR 25 v1] μ Q)
    refine jX.li l9 (by rfl) (by rfl) (?_ : jX G jP 120 195 lv [.int w0, .int (nI 2), soR 25 v1] μ Q)
    refine jX.go (by rfl) (by rfl) (by rfl) (?_ : jX G jP 120 196 lv [.long w0.toInt64, .int (nI 2), soR 25 v1] μ Q)
    refine jX.ic (v := nI 0) (n := 1) (by rfl) (by rfl) (by decide) (?_ : jX G jP 120 197 lv [.int (nI 0), .long w0.toInt64, .int (nI 2), soR 25 v1] μ Q)
    obtain ⟨a4, e4, h⟩ := sbd h
    rw [soR_some (t := 25) e4]
    rw [soR_some (t := 25) e4] at l1
    obtain ⟨g5, h⟩ := jif_some h
    obtain ⟨q6, e6, h⟩ := sbd h
    refine jX.cv (by rfl) (by rfl) (by rfl) (by rfl) (by rfl) (by rfl) (by rfl) (R.rec g5 (by rfl)) (Nat.le_of_ble_eq_true rfl) (Nat.le_of_ble_eq_true rfl) (F_81_ok R e6 (fun μ R => ⟨rfl, (?_ : jX G jP 120 200 lv [] μ Q)⟩))
    exact F_120_200_ok  K (some (a4.1, a4.2)) v4 _ _ _ l0 l1 l4 R h
def F_120_153 (G : jG) (t : Nat) (v1 : (Option (Nat × Nat))) (v2 : (Nat × Nat)) (v4 : Int32) (v5 : Int32) (v6 : Int32) (w0 : Int32) (S : sS) : Option (Unit × sS) := bif jcmp .eq w0 0 then (F_120_175 G t v1 v2 v4 v6 (-3) S) else ((v1).bind (fun a1 => (F_116 G t v4 v5 a1 v2 S).bind (fun q2 => F_120_175 G t (some (a1.1, a1.2)) v2 v4 v6 q2.1 q2.2)))
theorem F_120_153_ok {G : jG} {t : Nat} {r : Unit} {S' : sS} {Q : Option Value ⊕ Nat → jS → Prop} (K : ∀ μ', sR S' μ' → Q (srV r) μ') : ∀ (v1 : (Option (Nat × Nat))) (v2 : (Nat × Nat)) (v4 : Int32) (v5 : Int32) (v6 : Int32) (w0 : Int32) (S : sS) (lv : jL) (μ : jS), jld lv 0 = some (.ref (spl 23 0 0)) → jld lv 1 = some (soR 25 v1) → jld lv 2 = some (.ref (spl 27 v2.1 v2.2)) → jld lv 4 = some (.int v4) → jld lv 5 = some (.int v5) → jld lv 6 = some (.int v6) → sR S μ → F_120_153 G t v1 v2 v4 v5 v6 w0 S = some (r, S') → jX G jP 120 153 lv [.int w0] μ Q := by
  intro v1 v2 v4 v5 v6 w0 S lv μ l0 l1 l2 l4 l5 l6 R h
  unfold F_120_153 at h
  refine jX.s1 (k := 8) (pc' := 155) (by rfl) (by rfl) (by rfl) (fun lv l8 kp => (?_ : jX G jP 120 155 lv [] μ Q))
  replace l0 := kp 0 _ l0 (by rfl) (by first | rfl | simp [soR_cat])
  replace l1 := kp 1 _ l1 (by rfl) (by first | rfl | simp [soR_cat])
  replace l2 := kp 2 _ l2 (by rfl) (by first | rfl | simp [soR_cat])
  replace l4 := kp 4 _ l4 (by rfl) (by first | rfl | simp [soR_cat])
  replace l5 := kp 5 _ l5 (by rfl) (by first | rfl | simp [soR_cat])
  replace l6 := kp 6 _ l6 (by rfl) (by first | rfl | simp [soR_cat])
  refine jX.li l8 (by rfl) (by rfl) (?_ : jX G jP 120 157 lv [.int w0] μ Q)
  rcases bif_or h with ⟨hc, h⟩ | ⟨hc, h⟩
  · refine jX.b1t hc (by rfl) (by rfl) (by rfl) (?_ : jX G jP 120 173 lv [] μ Q)
    refine jX.ic (v := (-3)) (n := 2) (by rfl) (by rfl) (by decide) (?_ : jX G jP 120 175 lv [.int (-3)] μ Q)
    exact F_120_175_ok  K v1 v2 v4 v6 (-3) _ _ _ l0 l1 l2 l4 l6 R h
  · refine jX.b1f hc (by rfl) (by rfl) (by rfl) (?_ : jX G jP 120 160 lv [] μ Q)
    refine jX.lrn l0 (by rfl) (by rfl) (?_ : jX G jP 120 161 lv [.ref (spl 23 0 0)] μ Q)
    refine jX.li l4 (by rfl) (by rfl) (?_ : jX G jP 120 163 lv [.int v4, .ref (spl 23 0 0)] μ Q)
    refine jX.li l5 (by rfl) (by rfl) (?_ : jX G jP 120 165 lv [.int v5, .int v4, .ref (spl 23 0 0)] μ Q)
    refine jX.lon l1 (by rfl) (by rfl) (?_ : jX G jP 120 166 lv [soR 25 v1, .int v5, .int v4, .ref (spl 23 0 0)] μ Q)
    refine jX.lrn l2 (by rfl) (by rfl) (?_ : jX G jP 120 167 lv [.ref (spl 27 v2.1 v2.2), soR 25 v1, .int v5, .int v4, .ref (spl 23 0 0)] μ Q)
    obtain ⟨a1, e1, h⟩ := sbd h
    rw [soR_some (t := 25) e1]
    rw [soR_some (t := 25) e1] at l1
    obtain ⟨q2, e2, h⟩ := sbd h
    refine jX.c1 (v := .int q2.1) (by rfl) (by rfl) (by rfl) (by rfl) (by rfl) (by rfl) (by rfl) (R.rec (by rfl) (by rfl)) (Nat.le_of_ble_eq_true rfl) (Nat.le_of_ble_eq_true rfl) (F_116_ok R e2 (fun μ R => ⟨rfl, (?_ : jX G jP 120 170 lv [.int q2.1] μ Q)⟩))
    refine jX.go (by rfl) (by rfl) (by rfl) (?_ : jX G jP 120 175 lv [.int q2.1] μ Q)
    exact F_120_175_ok  K (some (a1.1, a1.2)) v2 v4 v6 q2.1 _ _ _ l0 l1 l2 l4 l6 R h
def F_120_152 (G : jG) (t : Nat) (v1 : (Option (Nat × Nat))) (v2 : (Nat × Nat)) (v4 : Int32) (v5 : Int32) (v6 : Int32) (S : sS) : Option (Unit × sS) := F_120_153 G t v1 v2 v4 v5 v6 (nI 0) S
theorem F_120_152_ok {G : jG} {t : Nat} {r : Unit} {S' : sS} {Q : Option Value ⊕ Nat → jS → Prop} (K : ∀ μ', sR S' μ' → Q (srV r) μ') : ∀ (v1 : (Option (Nat × Nat))) (v2 : (Nat × Nat)) (v4 : Int32) (v5 : Int32) (v6 : Int32) (S : sS) (lv : jL) (μ : jS), jld lv 0 = some (.ref (spl 23 0 0)) → jld lv 1 = some (soR 25 v1) → jld lv 2 = some (.ref (spl 27 v2.1 v2.2)) → jld lv 4 = some (.int v4) → jld lv 5 = some (.int v5) → jld lv 6 = some (.int v6) → sR S μ → F_120_152 G t v1 v2 v4 v5 v6 S = some (r, S') → jX G jP 120 152 lv [] μ Q := by
  intro v1 v2 v4 v5 v6 S lv μ l0 l1 l2 l4 l5 l6 R h
  unfold F_120_152 at h
  refine jX.ic (v := nI 0) (n := 1) (by rfl) (by rfl) (by decide) (?_ : jX G jP 120 153 lv [.int (nI 0)] μ Q)
  exact F_120_153_ok  K v1 v2 v4 v5 v6 (nI 0) _ _ _ l0 l1 l2 l4 l5 l6 R h
def F_120_37 (G : jG) (t : Nat) (v1 : (Option (Nat × Nat))) (v2 : (Option (Nat × Nat))) (w0 : Int32) (S : sS) : Option (Unit × sS) := bif jcmp .ne w0 (-1) then (jif (jin w0 1500) (jif (jin w0 1500) ((v2).bind (fun a3 => jif (sex S.2.2.2.1 27 a3.1 a3.2) ((F_75 G t (S.1 6 0 0 w0.toNatClampNeg) (S.1 7 0 0 w0.toNatClampNeg) (siI (siI (siI S 27 a3.1 a3.2 6 ((S.1 27 a3.1 a3.2 6) + (nI 1))) 23 0 0 8 (((siI S 27 a3.1 a3.2 6 ((S.1 27 a3.1 a3.2 6) + (nI 1))).1 23 0 0 8) + (nI 1))) 8 0 0 6 (((siI (siI S 27 a3.1 a3.2 6 ((S.1 27 a3.1 a3.2 6) + (nI 1))) 23 0 0 8 (((siI S 27 a3.1 a3.2 6 ((S.1 27 a3.1 a3.2 6) + (nI 1))).1 23 0 0 8) + (nI 1))).1 8 0 0 6) + (nI 1)))).bind (fun q5 => jif (sex q5.2.2.2.2.1 27 a3.1 a3.2) (jif (sex q5.2.2.2.2.1 29 a3.1 1) (bif jcmp .lt ((q5.2.1 29 a3.1 1 2) - q5.1) 0 then (F_120_152 G t v1 a3 (S.1 6 0 0 w0.toNatClampNeg) (S.1 7 0 0 w0.toNatClampNeg) q5.1 q5.2) else (jif (jin (S.1 6 0 0 w0.toNatClampNeg) (G 2).1) (bif jcmp .gt (((q5.2.1 29 a3.1 1 2) - q5.1) + ((G 2).2 (S.1 6 0 0 w0.toNatClampNeg).toNatClampNeg)) (nI 16) then (F_120_152 G t v1 a3 (S.1 6 0 0 w0.toNatClampNeg) (S.1 7 0 0 w0.toNatClampNeg) q5.1 q5.2) else (F_120_153 G t v1 a3 (S.1 6 0 0 w0.toNatClampNeg) (S.1 7 0 0 w0.toNatClampNeg) q5.1 (nI 1) q5.2))))))))))) else (some ((), (siI S 23 0 0 7 (nI 4))))
theorem F_120_37_ok {G : jG} {t : Nat} {r : Unit} {S' : sS} {Q : Option Value ⊕ Nat → jS → Prop} (K : ∀ μ', sR S' μ' → Q (srV r) μ') : ∀ (v1 : (Option (Nat × Nat))) (v2 : (Option (Nat × Nat))) (w0 : Int32) (S : sS) (lv : jL) (μ : jS), jld lv 0 = some (.ref (spl 23 0 0)) → jld lv 1 = some (soR 25 v1) → jld lv 2 = some (soR 27 v2) → sR S μ → F_120_37 G t v1 v2 w0 S = some (r, S') → jX G jP 120 37 lv [.int w0] μ Q := by
  intro v1 v2 w0 S lv μ l0 l1 l2 R h
  unfold F_120_37 at h
  refine jX.s1 (k := 3) (pc' := 38) (by rfl) (by rfl) (by rfl) (fun lv l3 kp => (?_ : jX G jP 120 38 lv [] μ Q))
  replace l0 := kp 0 _ l0 (by rfl) (by first | rfl | simp [soR_cat])
  replace l1 := kp 1 _ l1 (by rfl) (by first | rfl | simp [soR_cat])
  replace l2 := kp 2 _ l2 (by rfl) (by first | rfl | simp [soR_cat])
  refine jX.lin l3 (by rfl) (by rfl) (?_ : jX G jP 120 39 lv [.int w0] μ Q)
  refine jX.ic (v := (-1)) (n := 1) (by rfl) (by rfl) (by decide) (?_ : jX G jP 120 40 lv [.int (-1), .int w0] μ Q)
  rcases bif_or h with ⟨hc, h⟩ | ⟨hc, h⟩
  · refine jX.b2t hc (by rfl) (by rfl) (by rfl) (?_ : jX G jP 120 49 lv [] μ Q)
    refine jX.lrn l0 (by rfl) (by rfl) (?_ : jX G jP 120 50 lv [.ref (spl 23 0 0)] μ Q)
    refine jX.sg R (by rfl) (by rfl) (by rfl) (by rfl) (by rfl) (by rfl) (?_ : jX G jP 120 53 lv [.ref (spl 1 0 0)] μ Q)
    refine jX.sg R (by rfl) (by rfl) (by rfl) (by rfl) (by rfl) (by rfl) (?_ : jX G jP 120 56 lv [.ref (spl 6 0 0)] μ Q)
    refine jX.lin l3 (by rfl) (by rfl) (?_ : jX G jP 120 57 lv [.int w0, .ref (spl 6 0 0)] μ Q)
    obtain ⟨g1, h⟩ := jif_some h
    refine jX.sai R (by rfl) (by rfl) (by rfl) (by rfl) g1 (?_ : jX G jP 120 58 lv [.int (S.1 6 0 0 w0.toNatClampNeg)] μ Q)
    refine jX.s1 (k := 4) (pc' := 60) (by rfl) (by rfl) (by rfl) (fun lv l4 kp => (?_ : jX G jP 120 60 lv [] μ Q))
    replace l0 := kp 0 _ l0 (by rfl) (by first | rfl | simp [soR_cat])
    replace l1 := kp 1 _ l1 (by rfl) (by first | rfl | simp [soR_cat])
    replace l2 := kp 2 _ l2 (by rfl) (by first | rfl | simp [soR_cat])
    replace l3 := kp 3 _ l3 (by rfl) (by first | rfl | simp [soR_cat])
    refine jX.lrn l0 (by rfl) (by rfl) (?_ : jX G jP 120 61 lv [.ref (spl 23 0 0)] μ Q)
    refine jX.sg R (by rfl) (by rfl) (by rfl) (by rfl) (by rfl) (by rfl) (?_ : jX G jP 120 64 lv [.ref (spl 1 0 0)] μ Q)
    refine jX.sg R (by rfl) (by rfl) (by rfl) (by rfl) (by rfl) (by rfl) (?_ : jX G jP 120 67 lv [.ref (spl 7 0 0)] μ Q)
    refine jX.lin l3 (by rfl) (by rfl) (?_ : jX G jP 120 68 lv [.int w0, .ref (spl 7 0 0)] μ Q)
    obtain ⟨g2, h⟩ := jif_some h
    refine jX.sai R (by rfl) (by rfl) (by rfl) (by rfl) g2 (?_ : jX G jP 120 69 lv [.int (S.1 7 0 0 w0.toNatClampNeg)] μ Q)
    refine jX.s1 (k := 5) (pc' := 71) (by rfl) (by rfl) (by rfl) (fun lv l5 kp => (?_ : jX G jP 120 71 lv [] μ Q))
    replace l0 := kp 0 _ l0 (by rfl) (by first | rfl | simp [soR_cat])
    replace l1 := kp 1 _ l1 (by rfl) (by first | rfl | simp [soR_cat])
    replace l2 := kp 2 _ l2 (by rfl) (by first | rfl | simp [soR_cat])
    replace l4 := kp 4 _ l4 (by rfl) (by first | rfl | simp [soR_cat])
    refine jX.lon l2 (by rfl) (by rfl) (?_ : jX G jP 120 72 lv [soR 27 v2] μ Q)
    obtain ⟨a3, e3, h⟩ := sbd h
    rw [soR_some (t := 27) e3]
    rw [soR_some (t := 27) e3] at l2
    refine jX.go (by rfl) (by rfl) (by rfl) (?_ : jX G jP 120 73 lv [.ref (spl 27 a3.1 a3.2), .ref (spl 27 a3.1 a3.2)] μ Q)
    obtain ⟨g4, h⟩ := jif_some h
    refine jX.sg R g4 (by rfl) (by rfl) (by rfl) (by rfl) (by rfl) (?_ : jX G jP 120 76 lv [.int (S.1 27 a3.1 a3.2 6), .ref (spl 27 a3.1 a3.2)] μ Q)
    refine jX.ic (v := nI 1) (n := 1) (by rfl) (by rfl) (by decide) (?_ : jX G jP 120 77 lv [.int (nI 1), .int (S.1 27 a3.1 a3.2 6), .ref (spl 27 a3.1 a3.2)] μ Q)
    refine jX.go (by rfl) (by rfl) (by rfl) (?_ : jX G jP 120 78 lv [.int ((S.1 27 a3.1 a3.2 6) + (nI 1)), .ref (spl 27 a3.1 a3.2)] μ Q)
    refine jX.spI R g4 (by rfl) (by rfl) (by rfl) (by rfl) (by rfl) (by rfl) (by rfl) (by rfl) (fun μ R => (?_ : jX G jP 120 81 lv [] μ Q))
    refine jX.lrn l0 (by rfl) (by rfl) (?_ : jX G jP 120 82 lv [.ref (spl 23 0 0)] μ Q)
    refine jX.go (by rfl) (by rfl) (by rfl) (?_ : jX G jP 120 83 lv [.ref (spl 23 0 0), .ref (spl 23 0 0)] μ Q)
    refine jX.sg R (by rfl) (by rfl) (by rfl) (by rfl) (by rfl) (by rfl) (?_ : jX G jP 120 86 lv [.int ((siI S 27 a3.1 a3.2 6 ((S.1 27 a3.1 a3.2 6) + (nI 1))).1 23 0 0 8), .ref (spl 23 0 0)] μ Q)
    refine jX.ic (v := nI 1) (n := 1) (by rfl) (by rfl) (by decide) (?_ : jX G jP 120 87 lv [.int (nI 1), .int ((siI S 27 a3.1 a3.2 6 ((S.1 27 a3.1 a3.2 6) + (nI 1))).1 23 0 0 8), .ref (spl 23 0 0)] μ Q)
    refine jX.go (by rfl) (by rfl) (by rfl) (?_ : jX G jP 120 88 lv [.int (((siI S 27 a3.1 a3.2 6 ((S.1 27 a3.1 a3.2 6) + (nI 1))).1 23 0 0 8) + (nI 1)), .ref (spl 23 0 0)] μ Q)
    refine jX.spI R (by rfl) (by rfl) (by rfl) (by rfl) (by rfl) (by rfl) (by rfl) (by rfl) (by rfl) (fun μ R => (?_ : jX G jP 120 91 lv [] μ Q))
    refine jX.lrn l0 (by rfl) (by rfl) (?_ : jX G jP 120 92 lv [.ref (spl 23 0 0)] μ Q)
    refine jX.sg R (by rfl) (by rfl) (by rfl) (by rfl) (by rfl) (by rfl) (?_ : jX G jP 120 95 lv [.ref (spl 8 0 0)] μ Q)
    refine jX.go (by rfl) (by rfl) (by rfl) (?_ : jX G jP 120 96 lv [.ref (spl 8 0 0), .ref (spl 8 0 0)] μ Q)
    refine jX.sg R (by rfl) (by rfl) (by rfl) (by rfl) (by rfl) (by rfl) (?_ : jX G jP 120 99 lv [.int ((siI (siI S 27 a3.1 a3.2 6 ((S.1 27 a3.1 a3.2 6) + (nI 1))) 23 0 0 8 (((siI S 27 a3.1 a3.2 6 ((S.1 27 a3.1 a3.2 6) + (nI 1))).1 23 0 0 8) + (nI 1))).1 8 0 0 6), .ref (spl 8 0 0)] μ Q)
    refine jX.ic (v := nI 1) (n := 1) (by rfl) (by rfl) (by decide) (?_ : jX G jP 120 100 lv [.int (nI 1), .int ((siI (siI S 27 a3.1 a3.2 6 ((S.1 27 a3.1 a3.2 6) + (nI 1))) 23 0 0 8 (((siI S 27 a3.1 a3.2 6 ((S.1 27 a3.1 a3.2 6) + (nI 1))).1 23 0 0 8) + (nI 1))).1 8 0 0 6), .ref (spl 8 0 0)] μ Q)
    refine jX.go (by rfl) (by rfl) (by rfl) (?_ : jX G jP 120 101 lv [.int (((siI (siI S 27 a3.1 a3.2 6 ((S.1 27 a3.1 a3.2 6) + (nI 1))) 23 0 0 8 (((siI S 27 a3.1 a3.2 6 ((S.1 27 a3.1 a3.2 6) + (nI 1))).1 23 0 0 8) + (nI 1))).1 8 0 0 6) + (nI 1)), .ref (spl 8 0 0)] μ Q)
    refine jX.spI R (by rfl) (by rfl) (by rfl) (by rfl) (by rfl) (by rfl) (by rfl) (by rfl) (by rfl) (fun μ R => (?_ : jX G jP 120 104 lv [] μ Q))
    refine jX.lrn l0 (by rfl) (by rfl) (?_ : jX G jP 120 105 lv [.ref (spl 23 0 0)] μ Q)
    refine jX.sg R (by rfl) (by rfl) (by rfl) (by rfl) (by rfl) (by rfl) (?_ : jX G jP 120 108 lv [.ref (spl 1 0 0)] μ Q)
    refine jX.li l4 (by rfl) (by rfl) (?_ : jX G jP 120 110 lv [.int (S.1 6 0 0 w0.toNatClampNeg), .ref (spl 1 0 0)] μ Q)
    refine jX.li l5 (by rfl) (by rfl) (?_ : jX G jP 120 112 lv [.int (S.1 7 0 0 w0.toNatClampNeg), .int (S.1 6 0 0 w0.toNatClampNeg), .ref (spl 1 0 0)] μ Q)
    obtain ⟨q5, e5, h⟩ := sbd h
    refine jX.c1 (v := .int q5.1) (by rfl) (by rfl) (by rfl) (by rfl) (by rfl) (by rfl) (by rfl) (R.rec (by rfl) (by rfl)) (Nat.le_of_ble_eq_true rfl) (Nat.le_of_ble_eq_true rfl) (F_75_ok R e5 (fun μ R => ⟨rfl, (?_ : jX G jP 120 115 lv [.int q5.1] μ Q)⟩))
    refine jX.s1 (k := 6) (pc' := 117) (by rfl) (by rfl) (by rfl) (fun lv l6 kp => (?_ : jX G jP 120 117 lv [] μ Q))
    replace l0 := kp 0 _ l0 (by rfl) (by first | rfl | simp [soR_cat])
    replace l1 := kp 1 _ l1 (by rfl) (by first | rfl | simp [soR_cat])
    replace l2 := kp 2 _ l2 (by rfl) (by first | rfl | simp [soR_cat])
    replace l4 := kp 4 _ l4 (by rfl) (by first | rfl | simp [soR_cat])
    replace l5 := kp 5 _ l5 (by rfl) (by first | rfl | simp [soR_cat])
    refine jX.lrn l2 (by rfl) (by rfl) (?_ : jX G jP 120 118 lv [.ref (spl 27 a3.1 a3.2)] μ Q)
    obtain ⟨g6, h⟩ := jif_some h
    refine jX.sg R g6 (by rfl) (by rfl) (by rfl) (by rfl) (by rfl) (?_ : jX G jP 120 121 lv [.ref (spl 29 a3.1 1)] μ Q)
    obtain ⟨g7, h⟩ := jif_some h
    refine jX.sg R g7 (by rfl) (by rfl) (by rfl) (by rfl) (by rfl) (?_ : jX G jP 120 124 lv [.int (q5.2.1 29 a3.1 1 2)] μ Q)
    refine jX.li l6 (by rfl) (by rfl) (?_ : jX G jP 120 126 lv [.int q5.1, .int (q5.2.1 29 a3.1 1 2)] μ Q)
    refine jX.go (by rfl) (by rfl) (by rfl) (?_ : jX G jP 120 127 lv [.int ((q5.2.1 29 a3.1 1 2) - q5.1)] μ Q)
    refine jX.s1 (k := 7) (pc' := 129) (by rfl) (by rfl) (by rfl) (fun lv l7 kp => (?_ : jX G jP 120 129 lv [] μ Q))
    replace l0 := kp 0 _ l0 (by rfl) (by first | rfl | simp [soR_cat])
    replace l1 := kp 1 _ l1 (by rfl) (by first | rfl | simp [soR_cat])
    replace l2 := kp 2 _ l2 (by rfl) (by first | rfl | simp [soR_cat])
    replace l4 := kp 4 _ l4 (by rfl) (by first | rfl | simp [soR_cat])
    replace l5 := kp 5 _ l5 (by rfl) (by first | rfl | simp [soR_cat])
    replace l6 := kp 6 _ l6 (by rfl) (by first | rfl | simp [soR_cat])
    refine jX.li l7 (by rfl) (by rfl) (?_ : jX G jP 120 131 lv [.int ((q5.2.1 29 a3.1 1 2) - q5.1)] μ Q)
    rcases bif_or h with ⟨hc, h⟩ | ⟨hc, h⟩
    · refine jX.b1t hc (by rfl) (by rfl) (by rfl) (?_ : jX G jP 120 152 lv [] μ Q)
      exact F_120_152_ok  K v1 a3 (S.1 6 0 0 w0.toNatClampNeg) (S.1 7 0 0 w0.toNatClampNeg) q5.1 _ _ _ l0 l1 l2 l4 l5 l6 R h
    · refine jX.b1f hc (by rfl) (by rfl) (by rfl) (?_ : jX G jP 120 134 lv [] μ Q)
      refine jX.li l7 (by rfl) (by rfl) (?_ : jX G jP 120 136 lv [.int ((q5.2.1 29 a3.1 1 2) - q5.1)] μ Q)
      refine jX.go (by rfl) (by rfl) (by rfl) (?_ : jX G jP 120 139 lv [.float 2, .int ((q5.2.1 29 a3.1 1 2) - q5.1)] μ Q)
      refine jX.li l4 (by rfl) (by rfl) (?_ : jX G jP 120 141 lv [.int (S.1 6 0 0 w0.toNatClampNeg), .float 2, .int ((q5.2.1 29 a3.1 1 2) - q5.1)] μ Q)
      obtain ⟨g8, h⟩ := jif_some h
      refine jX.gi g8 (by rfl) (by rfl) (?_ : jX G jP 120 142 lv [.int ((G 2).2 (S.1 6 0 0 w0.toNatClampNeg).toNatClampNeg), .int ((q5.2.1 29 a3.1 1 2) - q5.1)] μ Q)
      refine jX.go (by rfl) (by rfl) (by rfl) (?_ : jX G jP 120 143 lv [.int (((q5.2.1 29 a3.1 1 2) - q5.1) + ((G 2).2 (S.1 6 0 0 w0.toNatClampNeg).toNatClampNeg))] μ Q)
      refine jX.ic (v := nI 16) (n := 2) (by rfl) (by rfl) (by decide) (?_ : jX G jP 120 145 lv [.int (nI 16), .int (((q5.2.1 29 a3.1 1 2) - q5.1) + ((G 2).2 (S.1 6 0 0 w0.toNatClampNeg).toNatClampNeg))] μ Q)
      rcases bif_or h with ⟨hc, h⟩ | ⟨hc, h⟩
      · refine jX.b2t hc (by rfl) (by rfl) (by rfl) (?_ : jX G jP 120 152 lv [] μ Q)
        exact F_120_152_ok  K v1 a3 (S.1 6 0 0 w0.toNatClampNeg) (S.1 7 0 0 w0.toNatClampNeg) q5.1 _ _ _ l0 l1 l2 l4 l5 l6 R h
      · refine jX.b2f hc (by rfl) (by rfl) (by rfl) (?_ : jX G jP 120 148 lv [] μ Q)
        refine jX.ic (v := nI 1) (n := 1) (by rfl) (by rfl) (by decide) (?_ : jX G jP 120 149 lv [.int (nI 1)] μ Q)
        refine jX.go (by rfl) (by rfl) (by rfl) (?_ : jX G jP 120 153 lv [.int (nI 1)] μ Q)
        exact F_120_153_ok  K v1 a3 (S.1 6 0 0 w0.toNatClampNeg) (S.1 7 0 0 w0.toNatClampNeg) q5.1 (nI 1) _ _ _ l0 l1 l2 l4 l5 l6 R h
  · refine jX.b2f hc (by rfl) (by rfl) (by rfl) (?_ : jX G jP 120 43 lv [] μ Q)
    refine jX.lrn l0 (by rfl) (by rfl) (?_ : jX G jP 120 44 lv [.ref (spl 23 0 0)] μ Q)
    refine jX.ic (v := nI 4) (n := 1) (by rfl) (by rfl) (by decide) (?_ : jX G jP 120 45 lv [.int (nI 4), .ref (spl 23 0 0)] μ Q)
    refine jX.spI R (by rfl) (by rfl) (by rfl) (by rfl) (by rfl) (by rfl) (by rfl) (by rfl) (by rfl) (fun μ R => (?_ : jX G jP 120 48 lv [] μ Q))
    exact jX.ret (by rfl) (by rfl) (by rfl) (by rfl) (sretv (f := srV) h K R)
def F_120_20 (G : jG) (t : Nat) (v1 : (Option (Nat × Nat))) (w0 : (Option (Nat × Nat))) (S : sS) : Option (Unit × sS) := sif w0 (F_120_37 G t v1 none (-1) S) (fun a1 => (F_74 G t a1 S).bind (fun q2 => F_120_37 G t v1 (some (a1.1, a1.2)) q2.1 q2.2))
theorem F_120_20_ok {G : jG} {t : Nat} {r : Unit} {S' : sS} {Q : Option Value ⊕ Nat → jS → Prop} (K : ∀ μ', sR S' μ' → Q (srV r) μ') : ∀ (v1 : (Option (Nat × Nat))) (w0 : (Option (Nat × Nat))) (S : sS) (lv : jL) (μ : jS), jld lv 0 = some (.ref (spl 23 0 0)) → jld lv 1 = some (soR 25 v1) → sR S μ → F_120_20 G t v1 w0 S = some (r, S') → jX G jP 120 20 lv [soR 27 w0] μ Q := by
  intro v1 w0 S lv μ l0 l1 R h
  unfold F_120_20 at h
  refine jX.so (k := 2) (pc' := 21) (by rfl) (by rfl) (fun _ => by rfl) (by rfl) (fun lv l2 kp => (?_ : jX G jP 120 21 lv [] μ Q))
  replace l0 := kp 0 _ l0 (by rfl) (by first | rfl | simp [soR_cat])
  replace l1 := kp 1 _ l1 (by rfl) (by first | rfl | simp [soR_cat])
  refine jX.lon l2 (by rfl) (by rfl) (?_ : jX G jP 120 22 lv [soR 27 w0] μ Q)
  rcases sif_or h with ⟨e1, h⟩ | ⟨a1, e1, h⟩
  · rw [soR_none (t := 27) e1]
    rw [soR_none (t := 27) e1] at l2
    refine jX.go (by rfl) (by rfl) (by rfl) (?_ : jX G jP 120 25 lv [] μ Q)
    refine jX.ic (v := (-1)) (n := 1) (by rfl) (by rfl) (by decide) (?_ : jX G jP 120 26 lv [.int (-1)] μ Q)
    refine jX.go (by rfl) (by rfl) (by rfl) (?_ : jX G jP 120 37 lv [.int (-1)] μ Q)
    exact F_120_37_ok  K v1 none (-1) _ _ _ l0 l1 l2 R h
  · rw [soR_some (t := 27) e1]
    rw [soR_some (t := 27) e1] at l2
    refine jX.go (by rfl) (by rfl) (by rfl) (?_ : jX G jP 120 29 lv [] μ Q)
    refine jX.lrn l0 (by rfl) (by rfl) (?_ : jX G jP 120 30 lv [.ref (spl 23 0 0)] μ Q)
    refine jX.sg R (by rfl) (by rfl) (by rfl) (by rfl) (by rfl) (by rfl) (?_ : jX G jP 120 33 lv [.ref (spl 1 0 0)] μ Q)
    refine jX.lrn l2 (by rfl) (by rfl) (?_ : jX G jP 120 34 lv [.ref (spl 27 a1.1 a1.2), .ref (spl 1 0 0)] μ Q)
    obtain ⟨q2, e2, h⟩ := sbd h
    refine jX.c1 (v := .int q2.1) (by rfl) (by rfl) (by rfl) (by rfl) (by rfl) (by rfl) (by rfl) (R.rec (by rfl) (by rfl)) (Nat.le_of_ble_eq_true rfl) (Nat.le_of_ble_eq_true rfl) (F_74_ok R e2 (fun μ R => ⟨rfl, (?_ : jX G jP 120 37 lv [.int q2.1] μ Q)⟩))
    exact F_120_37_ok  K v1 (some (a1.1, a1.2)) q2.1 _ _ _ l0 l1 l2 R h
def F_120 (G : jG) (t : Nat) (S : sS) : Option (Unit × sS) := (F_73 G t S).bind (fun q1 => sif q1.1 (F_120_20 G t none none q1.2) (fun a2 => jif (sex q1.2.2.2.2.1 25 a2.1 a2.2) ((F_66 G t a2 q1.2).bind (fun q4 => F_120_20 G t (some (a2.1, a2.2)) q4.1 q4.2))))
theorem F_120_ok {G : jG} {t : Nat} {S : sS} {r : Unit} {S' : sS} {μ : jS} {Q : Option Value ⊕ Nat → jS → Prop} (R : sR S μ) (h : F_120 G t S = some (r, S')) (K : ∀ μ', sR S' μ' → Q (srV r) μ') : jX G jP 120 0 (lv_args 0 [.ref (spl 23 0 0)]) [] μ Q := by
  unfold F_120 at h
  have l0 : jld (lv_args 0 [.ref (spl 23 0 0)]) 0 = some (.ref (spl 23 0 0)) := by rfl
  generalize lv_args 0 [.ref (spl 23 0 0)] = lv at *
  refine jX.lrn l0 (by rfl) (by rfl) (?_ : jX G jP 120 1 lv [.ref (spl 23 0 0)] μ Q)
  refine jX.sg R (by rfl) (by rfl) (by rfl) (by rfl) (by rfl) (by rfl) (?_ : jX G jP 120 4 lv [.ref (spl 8 0 0)] μ Q)
  obtain ⟨q1, e1, h⟩ := sbd h
  refine jX.c1 (v := soR 25 q1.1) (by rfl) (by rfl) (by rfl) (by rfl) (by rfl) (by rfl) (by rfl) (R.rec (by rfl) (by rfl)) (Nat.le_of_ble_eq_true rfl) (Nat.le_of_ble_eq_true rfl) (F_73_ok R e1 (fun μ R => ⟨rfl, (?_ : jX G jP 120 7 lv [soR 25 q1.1] μ Q)⟩))
  refine jX.so (k := 1) (pc' := 8) (by rfl) (by rfl) (fun _ => by rfl) (by rfl) (fun lv l1 kp => (?_ : jX G jP 120 8 lv [] μ Q))
  replace l0 := kp 0 _ l0 (by rfl) (by first | rfl | simp [soR_cat])
  refine jX.lon l1 (by rfl) (by rfl) (?_ : jX G jP 120 9 lv [soR 25 q1.1] μ Q)
  rcases sif_or h with ⟨e2, h⟩ | ⟨a2, e2, h⟩
  · rw [soR_none (t := 25) e2]
    rw [soR_none (t := 25) e2] at l1
    refine jX.go (by rfl) (by rfl) (by rfl) (?_ : jX G jP 120 12 lv [] μ Q)
    refine jX.go (by rfl) (by rfl) (by rfl) (?_ : jX G jP 120 13 lv [.null] μ Q)
    refine jX.go (by rfl) (by rfl) (by rfl) (?_ : jX G jP 120 20 lv [.null] μ Q)
    exact F_120_20_ok  K none none _ _ _ l0 l1 R h
  · rw [soR_some (t := 25) e2]
    rw [soR_some (t := 25) e2] at l1
    refine jX.go (by rfl) (by rfl) (by rfl) (?_ : jX G jP 120 16 lv [] μ Q)
    refine jX.lrn l1 (by rfl) (by rfl) (?_ : jX G jP 120 17 lv [.ref (spl 25 a2.1 a2.2)] μ Q)
    obtain ⟨g3, h⟩ := jif_some h
    obtain ⟨q4, e4, h⟩ := sbd h
    refine jX.c1 (v := soR 27 q4.1) (by rfl) (by rfl) (by rfl) (by rfl) (by rfl) (by rfl) (by rfl) (R.rec g3 (by rfl)) (Nat.le_of_ble_eq_true rfl) (Nat.le_of_ble_eq_true rfl) (F_66_ok R e4 (fun μ R => ⟨rfl, (?_ : jX G jP 120 20 lv [soR 27 q4.1] μ Q)⟩))
    exact F_120_20_ok  K (some (a2.1, a2.2)) q4.1 _ _ _ l0 l1 R h
/-! 121 StrandRuntime.run(I)I -/
def F_121_41 (G : jG) (t : Nat) : Nat → Int32 → Int32 → sS → Option ((Int32 ⊕ Nat) × sS)
  | 0 => fun _ _ _ => none
  | tt + 1 => fun v1 v2 S => bif jcmp .ge v2 v1 then (some (.inl v2, S)) else (bif jcmp .ne (S.1 23 0 0 7) (nI 1) then (some (.inl v2, S)) else ((F_120 G t S).bind (fun q1 => F_121_41 G t tt v1 (v2 + Int32.ofInt 1) q1.2)))
theorem F_121_41_ok {G : jG} {t : Nat} {r : (Int32 ⊕ Nat)} {S' : sS} {Q : Option Value ⊕ Nat → jS → Prop} (K : ∀ μ', sR S' μ' → Q (sthI r) μ') : ∀ tt : Nat, ∀ (v1 : Int32) (v2 : Int32) (S : sS) (lv : jL) (μ : jS), jld lv 0 = some (.ref (spl 0 0 0)) → jld lv 1 = some (.int v1) → jld lv 2 = some (.int v2) → sR S μ → F_121_41 G t tt v1 v2 S = some (r, S') → jX G jP 121 41 lv [] μ Q := by
  intro tt
  induction tt with
  | zero =>
    intro v1 v2 S lv μ l0 l1 l2 R h
    rw [F_121_41] at h
    cases h
  | succ tt ih =>
    intro v1 v2 S lv μ l0 l1 l2 R h
    rw [F_121_41] at h
    refine jX.lin l2 (by rfl) (by rfl) (?_ : jX G jP 121 42 lv [.int v2] μ Q)
    refine jX.lin l1 (by rfl) (by rfl) (?_ : jX G jP 121 43 lv [.int v1, .int v2] μ Q)
    rcases bif_or h with ⟨hc, h⟩ | ⟨hc, h⟩
    · refine jX.b2t hc (by rfl) (by rfl) (by rfl) (?_ : jX G jP 121 70 lv [] μ Q)
      refine jX.lin l2 (by rfl) (by rfl) (?_ : jX G jP 121 71 lv [.int v2] μ Q)
      exact jX.ret (by rfl) (by rfl) (by rfl) (by rfl) (sretv (f := sthI) h K R)
    · refine jX.b2f hc (by rfl) (by rfl) (by rfl) (?_ : jX G jP 121 46 lv [] μ Q)
      refine jX.lrn l0 (by rfl) (by rfl) (?_ : jX G jP 121 47 lv [.ref (spl 0 0 0)] μ Q)
      refine jX.sg R (by rfl) (by rfl) (by rfl) (by rfl) (by rfl) (by rfl) (?_ : jX G jP 121 50 lv [.ref (spl 23 0 0)] μ Q)
      refine jX.sg R (by rfl) (by rfl) (by rfl) (by rfl) (by rfl) (by rfl) (?_ : jX G jP 121 53 lv [.int (S.1 23 0 0 7)] μ Q)
      refine jX.ic (v := nI 1) (n := 1) (by rfl) (by rfl) (by decide) (?_ : jX G jP 121 54 lv [.int (nI 1), .int (S.1 23 0 0 7)] μ Q)
      rcases bif_or h with ⟨hc, h⟩ | ⟨hc, h⟩
      · refine jX.b2t hc (by rfl) (by rfl) (by rfl) (?_ : jX G jP 121 70 lv [] μ Q)
        refine jX.lin l2 (by rfl) (by rfl) (?_ : jX G jP 121 71 lv [.int v2] μ Q)
        exact jX.ret (by rfl) (by rfl) (by rfl) (by rfl) (sretv (f := sthI) h K R)
      · refine jX.b2f hc (by rfl) (by rfl) (by rfl) (?_ : jX G jP 121 57 lv [] μ Q)
        refine jX.lrn l0 (by rfl) (by rfl) (?_ : jX G jP 121 58 lv [.ref (spl 0 0 0)] μ Q)
        refine jX.sg R (by rfl) (by rfl) (by rfl) (by rfl) (by rfl) (by rfl) (?_ : jX G jP 121 61 lv [.ref (spl 23 0 0)] μ Q)
        obtain ⟨q1, e1, h⟩ := sbd h
        refine jX.cv (by rfl) (by rfl) (by rfl) (by rfl) (by rfl) (by rfl) (by rfl) (R.rec (by rfl) (by rfl)) (Nat.le_of_ble_eq_true rfl) (Nat.le_of_ble_eq_true rfl) (F_120_ok R e1 (fun μ R => ⟨rfl, (?_ : jX G jP 121 64 lv [] μ Q)⟩))
        refine jX.inc l2 (by rfl) (by rfl) (by rfl) (fun lv l2 kp => (?_ : jX G jP 121 67 lv [] μ Q))
        replace l0 := kp 0 _ l0 (by rfl) (by first | rfl | simp [soR_cat])
        replace l1 := kp 1 _ l1 (by rfl) (by first | rfl | simp [soR_cat])
        refine jX.go (by rfl) (by rfl) (by rfl) (?_ : jX G jP 121 41 lv [] μ Q)
        exact ih v1 (v2 + Int32.ofInt 1) _ _ _ l0 l1 l2 R h
def F_121 (G : jG) (t : Nat) (v1 : Int32) (S : sS) : Option ((Int32 ⊕ Nat) × sS) := bif jcmp .lt v1 (nI 1) then (some (.inr 0, sxc S)) else (bif jcmp .le v1 (nI 1000) then (bif jcmp .eq (S.1 23 0 0 7) (nI 1) then (F_121_41 G t t v1 (nI 0) S) else (some (.inr 1, sxc S))) else (some (.inr 0, sxc S)))
theorem F_121_ok {G : jG} {t : Nat} {v1 : Int32} {S : sS} {r : (Int32 ⊕ Nat)} {S' : sS} {μ : jS} {Q : Option Value ⊕ Nat → jS → Prop} (R : sR S μ) (h : F_121 G t v1 S = some (r, S')) (K : ∀ μ', sR S' μ' → Q (sthI r) μ') : jX G jP 121 0 (lv_args 0 [.ref (spl 0 0 0), .int v1]) [] μ Q := by
  unfold F_121 at h
  have l0 : jld (lv_args 0 [.ref (spl 0 0 0), .int v1]) 0 = some (.ref (spl 0 0 0)) := by rfl
  have l1 : jld (lv_args 0 [.ref (spl 0 0 0), .int v1]) 1 = some (.int v1) := by rfl
  generalize lv_args 0 [.ref (spl 0 0 0), .int v1] = lv at *
  refine jX.lin l1 (by rfl) (by rfl) (?_ : jX G jP 121 1 lv [.int v1] μ Q)
  refine jX.ic (v := nI 1) (n := 1) (by rfl) (by rfl) (by decide) (?_ : jX G jP 121 2 lv [.int (nI 1), .int v1] μ Q)
  rcases bif_or h with ⟨hc, h⟩ | ⟨hc, h⟩
  · refine jX.b2t hc (by rfl) (by rfl) (by rfl) (?_ : jX G jP 121 12 lv [] μ Q)
    exact jX.throw (by rfl) (sretv (f := sthI) h K R.xc)
  · refine jX.b2f hc (by rfl) (by rfl) (by rfl) (?_ : jX G jP 121 5 lv [] μ Q)
    refine jX.lin l1 (by rfl) (by rfl) (?_ : jX G jP 121 6 lv [.int v1] μ Q)
    refine jX.ic (v := nI 1000) (n := 3) (by rfl) (by rfl) (by decide) (?_ : jX G jP 121 9 lv [.int (nI 1000), .int v1] μ Q)
    rcases bif_or h with ⟨hc, h⟩ | ⟨hc, h⟩
    · refine jX.b2t hc (by rfl) (by rfl) (by rfl) (?_ : jX G jP 121 20 lv [] μ Q)
      refine jX.lrn l0 (by rfl) (by rfl) (?_ : jX G jP 121 21 lv [.ref (spl 0 0 0)] μ Q)
      refine jX.sg R (by rfl) (by rfl) (by rfl) (by rfl) (by rfl) (by rfl) (?_ : jX G jP 121 24 lv [.ref (spl 23 0 0)] μ Q)
      refine jX.sg R (by rfl) (by rfl) (by rfl) (by rfl) (by rfl) (by rfl) (?_ : jX G jP 121 27 lv [.int (S.1 23 0 0 7)] μ Q)
      refine jX.ic (v := nI 1) (n := 1) (by rfl) (by rfl) (by decide) (?_ : jX G jP 121 28 lv [.int (nI 1), .int (S.1 23 0 0 7)] μ Q)
      rcases bif_or h with ⟨hc, h⟩ | ⟨hc, h⟩
      · refine jX.b2t hc (by rfl) (by rfl) (by rfl) (?_ : jX G jP 121 39 lv [] μ Q)
        refine jX.ic (v := nI 0) (n := 1) (by rfl) (by rfl) (by decide) (?_ : jX G jP 121 40 lv [.int (nI 0)] μ Q)
        refine jX.s1 (k := 2) (pc' := 41) (by rfl) (by rfl) (by rfl) (fun lv l2 kp => (?_ : jX G jP 121 41 lv [] μ Q))
        replace l0 := kp 0 _ l0 (by rfl) (by first | rfl | simp [soR_cat])
        replace l1 := kp 1 _ l1 (by rfl) (by first | rfl | simp [soR_cat])
        exact F_121_41_ok  K _ v1 (nI 0) _ _ _ l0 l1 l2 R h
      · refine jX.b2f hc (by rfl) (by rfl) (by rfl) (?_ : jX G jP 121 31 lv [] μ Q)
        exact jX.throw (by rfl) (sretv (f := sthI) h K R.xc)
    · refine jX.b2f hc (by rfl) (by rfl) (by rfl) (?_ : jX G jP 121 12 lv [] μ Q)
      exact jX.throw (by rfl) (sretv (f := sthI) h K R.xc)
/-! 122 StrandRuntime.state()I -/
def F_122 (G : jG) (t : Nat) (S : sS) : Option (Int32 × sS) := some ((S.1 23 0 0 7), S)
theorem F_122_ok {G : jG} {t : Nat} {S : sS} {r : Int32} {S' : sS} {μ : jS} {Q : Option Value ⊕ Nat → jS → Prop} (R : sR S μ) (h : F_122 G t S = some (r, S')) (K : ∀ μ', sR S' μ' → Q (srI r) μ') : jX G jP 122 0 (lv_args 0 [.ref (spl 0 0 0)]) [] μ Q := by
  unfold F_122 at h
  have l0 : jld (lv_args 0 [.ref (spl 0 0 0)]) 0 = some (.ref (spl 0 0 0)) := by rfl
  generalize lv_args 0 [.ref (spl 0 0 0)] = lv at *
  refine jX.lrn l0 (by rfl) (by rfl) (?_ : jX G jP 122 1 lv [.ref (spl 0 0 0)] μ Q)
  refine jX.sg R (by rfl) (by rfl) (by rfl) (by rfl) (by rfl) (by rfl) (?_ : jX G jP 122 4 lv [.ref (spl 23 0 0)] μ Q)
  refine jX.sg R (by rfl) (by rfl) (by rfl) (by rfl) (by rfl) (by rfl) (?_ : jX G jP 122 7 lv [.int (S.1 23 0 0 7)] μ Q)
  exact jX.ret (by rfl) (by rfl) (by rfl) (by rfl) (sretv (f := srI) h K R)
/-! 123 StrandRuntime$Strand.fact(I)I -/
def F_123 (G : jG) (t : Nat) (v0 : (Nat × Nat)) (v1 : Int32) (S : sS) : Option (Int32 × sS) := jif (sex S.2.2.2.1 25 v0.1 v0.2) ((F_66 G t v0 S).bind (fun q2 => bif jcmp .ne v1 0 then (bif jcmp .ne v1 (nI 6) then (sif q2.1 (some ((nI 0), q2.2)) (fun a3 => bif decide (v1.toInt < 1 ∨ 4 < v1.toInt) then (jif (sex q2.2.2.2.2.1 27 a3.1 a3.2) (jif (sex q2.2.2.2.2.1 29 a3.1 2) (some ((q2.2.1 29 a3.1 2 2), q2.2)))) else (bif decide (v1 = nI 1) then (jif (sex q2.2.2.2.2.1 25 v0.1 v0.2) (some ((q2.2.1 25 v0.1 v0.2 3), q2.2))) else (bif decide (v1 = nI 2) then (jif (sex q2.2.2.2.2.1 27 a3.1 a3.2) (some ((q2.2.1 27 a3.1 a3.2 5), q2.2))) else (bif decide (v1 = nI 3) then (jif (sex q2.2.2.2.2.1 27 a3.1 a3.2) (some ((q2.2.1 27 a3.1 a3.2 6), q2.2))) else (bif decide (v1 = nI 4) then (jif (sex q2.2.2.2.2.1 27 a3.1 a3.2) (jif (sex q2.2.2.2.2.1 29 a3.1 1) (some ((q2.2.1 29 a3.1 1 2), q2.2)))) else (none))))))) else (jif (sex q2.2.2.2.2.1 25 v0.1 v0.2) (some (((q2.2.2.1 25 v0.1 v0.2 7).toInt32), q2.2)))) else (jif (sex q2.2.2.2.2.1 25 v0.1 v0.2) (some ((q2.2.1 25 v0.1 v0.2 4), q2.2)))))
theorem F_123_ok {G : jG} {t : Nat} {v0 : (Nat × Nat)} {v1 : Int32} {S : sS} {r : Int32} {S' : sS} {μ : jS} {Q : Option Value ⊕ Nat → jS → Prop} (R : sR S μ) (h : F_123 G t v0 v1 S = some (r, S')) (K : ∀ μ', sR S' μ' → Q (srI r) μ') : jX G jP 123 0 (lv_args 0 [.ref (spl 25 v0.1 v0.2), .int v1]) [] μ Q := by
  unfold F_123 at h
  have l0 : jld (lv_args 0 [.ref (spl 25 v0.1 v0.2), .int v1]) 0 = some (.ref (spl 25 v0.1 v0.2)) := by rfl
  have l1 : jld (lv_args 0 [.ref (spl 25 v0.1 v0.2), .int v1]) 1 = some (.int v1) := by rfl
  generalize lv_args 0 [.ref (spl 25 v0.1 v0.2), .int v1] = lv at *
  refine jX.lrn l0 (by rfl) (by rfl) (?_ : jX G jP 123 1 lv [.ref (spl 25 v0.1 v0.2)] μ Q)
  obtain ⟨g1, h⟩ := jif_some h
  obtain ⟨q2, e2, h⟩ := sbd h
  refine jX.c1 (v := soR 27 q2.1) (by rfl) (by rfl) (by rfl) (by rfl) (by rfl) (by rfl) (by rfl) (R.rec g1 (by rfl)) (Nat.le_of_ble_eq_true rfl) (Nat.le_of_ble_eq_true rfl) (F_66_ok R e2 (fun μ R => ⟨rfl, (?_ : jX G jP 123 4 lv [soR 27 q2.1] μ Q)⟩))
  refine jX.so (k := 2) (pc' := 5) (by rfl) (by rfl) (fun _ => by rfl) (by rfl) (fun lv l2 kp => (?_ : jX G jP 123 5 lv [] μ Q))
  replace l0 := kp 0 _ l0 (by rfl) (by first | rfl | simp [soR_cat])
  replace l1 := kp 1 _ l1 (by rfl) (by first | rfl | simp [soR_cat])
  refine jX.lin l1 (by rfl) (by rfl) (?_ : jX G jP 123 6 lv [.int v1] μ Q)
  rcases bif_or h with ⟨hc, h⟩ | ⟨hc, h⟩
  · refine jX.b1t hc (by rfl) (by rfl) (by rfl) (?_ : jX G jP 123 14 lv [] μ Q)
    refine jX.lin l1 (by rfl) (by rfl) (?_ : jX G jP 123 15 lv [.int v1] μ Q)
    refine jX.ic (v := nI 6) (n := 2) (by rfl) (by rfl) (by decide) (?_ : jX G jP 123 17 lv [.int (nI 6), .int v1] μ Q)
    rcases bif_or h with ⟨hc, h⟩ | ⟨hc, h⟩
    · refine jX.b2t hc (by rfl) (by rfl) (by rfl) (?_ : jX G jP 123 26 lv [] μ Q)
      refine jX.lon l2 (by rfl) (by rfl) (?_ : jX G jP 123 27 lv [soR 27 q2.1] μ Q)
      rcases sif_or h with ⟨e3, h⟩ | ⟨a3, e3, h⟩
      · rw [soR_none (t := 27) e3]
        rw [soR_none (t := 27) e3] at l2
        refine jX.go (by rfl) (by rfl) (by rfl) (?_ : jX G jP 123 30 lv [] μ Q)
        refine jX.ic (v := nI 0) (n := 1) (by rfl) (by rfl) (by decide) (?_ : jX G jP 123 31 lv [.int (nI 0)] μ Q)
        exact jX.ret (by rfl) (by rfl) (by rfl) (by rfl) (sretv (f := srI) h K R)
      · rw [soR_some (t := 27) e3]
        rw [soR_some (t := 27) e3] at l2
        refine jX.go (by rfl) (by rfl) (by rfl) (?_ : jX G jP 123 32 lv [] μ Q)
        refine jX.lin l1 (by rfl) (by rfl) (?_ : jX G jP 123 33 lv [.int v1] μ Q)
        rcases bif_or h with ⟨hc, h⟩ | ⟨-, h⟩
        · refine jX.swd hc (by rfl) (by rfl) (by rfl) (?_ : jX G jP 123 87 lv [] μ Q)
          refine jX.lrn l2 (by rfl) (by rfl) (?_ : jX G jP 123 88 lv [.ref (spl 27 a3.1 a3.2)] μ Q)
          obtain ⟨g4, h⟩ := jif_some h
          refine jX.sg R g4 (by rfl) (by rfl) (by rfl) (by rfl) (by rfl) (?_ : jX G jP 123 91 lv [.ref (spl 29 a3.1 2)] μ Q)
          obtain ⟨g5, h⟩ := jif_some h
          refine jX.sg R g5 (by rfl) (by rfl) (by rfl) (by rfl) (by rfl) (?_ : jX G jP 123 94 lv [.int (q2.2.1 29 a3.1 2 2)] μ Q)
          exact jX.ret (by rfl) (by rfl) (by rfl) (by rfl) (sretv (f := srI) h K R)
        rcases bif_or h with ⟨hc, h⟩ | ⟨-, h⟩
        · refine jX.swn hc (by rfl) (by rfl) (by rfl) (?_ : jX G jP 123 64 lv [] μ Q)
          refine jX.lrn l0 (by rfl) (by rfl) (?_ : jX G jP 123 65 lv [.ref (spl 25 v0.1 v0.2)] μ Q)
          obtain ⟨g6, h⟩ := jif_some h
          refine jX.sg R g6 (by rfl) (by rfl) (by rfl) (by rfl) (by rfl) (?_ : jX G jP 123 68 lv [.int (q2.2.1 25 v0.1 v0.2 3)] μ Q)
          exact jX.ret (by rfl) (by rfl) (by rfl) (by rfl) (sretv (f := srI) h K R)
        rcases bif_or h with ⟨hc, h⟩ | ⟨-, h⟩
        · refine jX.swn hc (by rfl) (by rfl) (by rfl) (?_ : jX G jP 123 69 lv [] μ Q)
          refine jX.lrn l2 (by rfl) (by rfl) (?_ : jX G jP 123 70 lv [.ref (spl 27 a3.1 a3.2)] μ Q)
          obtain ⟨g7, h⟩ := jif_some h
          refine jX.sg R g7 (by rfl) (by rfl) (by rfl) (by rfl) (by rfl) (?_ : jX G jP 123 73 lv [.int (q2.2.1 27 a3.1 a3.2 5)] μ Q)
          exact jX.ret (by rfl) (by rfl) (by rfl) (by rfl) (sretv (f := srI) h K R)
        rcases bif_or h with ⟨hc, h⟩ | ⟨-, h⟩
        · refine jX.swn hc (by rfl) (by rfl) (by rfl) (?_ : jX G jP 123 74 lv [] μ Q)
          refine jX.lrn l2 (by rfl) (by rfl) (?_ : jX G jP 123 75 lv [.ref (spl 27 a3.1 a3.2)] μ Q)
          obtain ⟨g8, h⟩ := jif_some h
          refine jX.sg R g8 (by rfl) (by rfl) (by rfl) (by rfl) (by rfl) (?_ : jX G jP 123 78 lv [.int (q2.2.1 27 a3.1 a3.2 6)] μ Q)
          exact jX.ret (by rfl) (by rfl) (by rfl) (by rfl) (sretv (f := srI) h K R)
        rcases bif_or h with ⟨hc, h⟩ | ⟨-, h⟩
        · refine jX.swn hc (by rfl) (by rfl) (by rfl) (?_ : jX G jP 123 79 lv [] μ Q)
          refine jX.lrn l2 (by rfl) (by rfl) (?_ : jX G jP 123 80 lv [.ref (spl 27 a3.1 a3.2)] μ Q)
          obtain ⟨g9, h⟩ := jif_some h
          refine jX.sg R g9 (by rfl) (by rfl) (by rfl) (by rfl) (by rfl) (?_ : jX G jP 123 83 lv [.ref (spl 29 a3.1 1)] μ Q)
          obtain ⟨g10, h⟩ := jif_some h
          refine jX.sg R g10 (by rfl) (by rfl) (by rfl) (by rfl) (by rfl) (?_ : jX G jP 123 86 lv [.int (q2.2.1 29 a3.1 1 2)] μ Q)
          exact jX.ret (by rfl) (by rfl) (by rfl) (by rfl) (sretv (f := srI) h K R)
        cases h
    · refine jX.b2f hc (by rfl) (by rfl) (by rfl) (?_ : jX G jP 123 20 lv [] μ Q)
      refine jX.lrn l0 (by rfl) (by rfl) (?_ : jX G jP 123 21 lv [.ref (spl 25 v0.1 v0.2)] μ Q)
      obtain ⟨g11, h⟩ := jif_some h
      refine jX.sg R g11 (by rfl) (by rfl) (by rfl) (by rfl) (by rfl) (?_ : jX G jP 123 24 lv [.long (q2.2.2.1 25 v0.1 v0.2 7)] μ Q)
      refine jX.go (by rfl) (by rfl) (by rfl) (?_ : jX G jP 123 25 lv [.int ((q2.2.2.1 25 v0.1 v0.2 7).toInt32)] μ Q)
      exact jX.ret (by rfl) (by rfl) (by rfl) (by rfl) (sretv (f := srI) h K R)
  · refine jX.b1f hc (by rfl) (by rfl) (by rfl) (?_ : jX G jP 123 9 lv [] μ Q)
    refine jX.lrn l0 (by rfl) (by rfl) (?_ : jX G jP 123 10 lv [.ref (spl 25 v0.1 v0.2)] μ Q)
    obtain ⟨g12, h⟩ := jif_some h
    refine jX.sg R g12 (by rfl) (by rfl) (by rfl) (by rfl) (by rfl) (?_ : jX G jP 123 13 lv [.int (q2.2.1 25 v0.1 v0.2 4)] μ Q)
    exact jX.ret (by rfl) (by rfl) (by rfl) (by rfl) (sretv (f := srI) h K R)
/-! 124 StrandRuntime.strand(II)I -/
def F_124 (G : jG) (t : Nat) (v1 : Int32) (v2 : Int32) (S : sS) : Option ((Int32 ⊕ Nat) × sS) := bif jcmp .lt v1 0 then (some (.inr 2, sxc S)) else (bif jcmp .lt v1 (nI 16) then (bif jcmp .lt v2 0 then (some (.inr 0, sxc S)) else (bif jcmp .le v2 (nI 6) then (jif (jin v1 16) (jif (sex S.2.2.2.1 25 v1.toNatClampNeg 0) ((F_123 G t (v1.toNatClampNeg, 0) v2 S).bind (fun q3 => some (.inl q3.1, q3.2))))) else (some (.inr 0, sxc S)))) else (some (.inr 2, sxc S)))
theorem F_124_ok {G : jG} {t : Nat} {v1 : Int32} {v2 : Int32} {S : sS} {r : (Int32 ⊕ Nat)} {S' : sS} {μ : jS} {Q : Option Value ⊕ Nat → jS → Prop} (R : sR S μ) (h : F_124 G t v1 v2 S = some (r, S')) (K : ∀ μ', sR S' μ' → Q (sthI r) μ') : jX G jP 124 0 (lv_args 0 [.ref (spl 0 0 0), .int v1, .int v2]) [] μ Q := by
  unfold F_124 at h
  have l0 : jld (lv_args 0 [.ref (spl 0 0 0), .int v1, .int v2]) 0 = some (.ref (spl 0 0 0)) := by rfl
  have l1 : jld (lv_args 0 [.ref (spl 0 0 0), .int v1, .int v2]) 1 = some (.int v1) := by rfl
  have l2 : jld (lv_args 0 [.ref (spl 0 0 0), .int v1, .int v2]) 2 = some (.int v2) := by rfl
  generalize lv_args 0 [.ref (spl 0 0 0), .int v1, .int v2] = lv at *
  refine jX.lin l1 (by rfl) (by rfl) (?_ : jX G jP 124 1 lv [.int v1] μ Q)
  rcases bif_or h with ⟨hc, h⟩ | ⟨hc, h⟩
  · refine jX.b1t hc (by rfl) (by rfl) (by rfl) (?_ : jX G jP 124 10 lv [] μ Q)
    exact jX.throw (by rfl) (sretv (f := sthI) h K R.xc)
  · refine jX.b1f hc (by rfl) (by rfl) (by rfl) (?_ : jX G jP 124 4 lv [] μ Q)
    refine jX.lin l1 (by rfl) (by rfl) (?_ : jX G jP 124 5 lv [.int v1] μ Q)
    refine jX.ic (v := nI 16) (n := 2) (by rfl) (by rfl) (by decide) (?_ : jX G jP 124 7 lv [.int (nI 16), .int v1] μ Q)
    rcases bif_or h with ⟨hc, h⟩ | ⟨hc, h⟩
    · refine jX.b2t hc (by rfl) (by rfl) (by rfl) (?_ : jX G jP 124 18 lv [] μ Q)
      refine jX.lin l2 (by rfl) (by rfl) (?_ : jX G jP 124 19 lv [.int v2] μ Q)
      rcases bif_or h with ⟨hc, h⟩ | ⟨hc, h⟩
      · refine jX.b1t hc (by rfl) (by rfl) (by rfl) (?_ : jX G jP 124 28 lv [] μ Q)
        exact jX.throw (by rfl) (sretv (f := sthI) h K R.xc)
      · refine jX.b1f hc (by rfl) (by rfl) (by rfl) (?_ : jX G jP 124 22 lv [] μ Q)
        refine jX.lin l2 (by rfl) (by rfl) (?_ : jX G jP 124 23 lv [.int v2] μ Q)
        refine jX.ic (v := nI 6) (n := 2) (by rfl) (by rfl) (by decide) (?_ : jX G jP 124 25 lv [.int (nI 6), .int v2] μ Q)
        rcases bif_or h with ⟨hc, h⟩ | ⟨hc, h⟩
        · refine jX.b2t hc (by rfl) (by rfl) (by rfl) (?_ : jX G jP 124 36 lv [] μ Q)
          refine jX.lrn l0 (by rfl) (by rfl) (?_ : jX G jP 124 37 lv [.ref (spl 0 0 0)] μ Q)
          refine jX.sg R (by rfl) (by rfl) (by rfl) (by rfl) (by rfl) (by rfl) (?_ : jX G jP 124 40 lv [.ref (spl 8 0 0)] μ Q)
          refine jX.sg R (by rfl) (by rfl) (by rfl) (by rfl) (by rfl) (by rfl) (?_ : jX G jP 124 43 lv [.ref (spl 9 0 0)] μ Q)
          refine jX.lin l1 (by rfl) (by rfl) (?_ : jX G jP 124 44 lv [.int v1, .ref (spl 9 0 0)] μ Q)
          obtain ⟨g1, h⟩ := jif_some h
          refine jX.sar (f := fun q => bif Nat.blt q 16 then some (spl 25 q 0) else none) R (by rfl) (by rfl) (by rfl) (by rfl) g1 (srf_in g1) (?_ : jX G jP 124 45 lv [.ref (spl 25 v1.toNatClampNeg 0)] μ Q)
          refine jX.lin l2 (by rfl) (by rfl) (?_ : jX G jP 124 46 lv [.int v2, .ref (spl 25 v1.toNatClampNeg 0)] μ Q)
          obtain ⟨g2, h⟩ := jif_some h
          obtain ⟨q3, e3, h⟩ := sbd h
          refine jX.c1 (v := .int q3.1) (by rfl) (by rfl) (by rfl) (by rfl) (by rfl) (by rfl) (by rfl) (R.rec g2 (by rfl)) (Nat.le_of_ble_eq_true rfl) (Nat.le_of_ble_eq_true rfl) (F_123_ok R e3 (fun μ R => ⟨rfl, (?_ : jX G jP 124 49 lv [.int q3.1] μ Q)⟩))
          exact jX.ret (by rfl) (by rfl) (by rfl) (by rfl) (sretv (f := sthI) h K R)
        · refine jX.b2f hc (by rfl) (by rfl) (by rfl) (?_ : jX G jP 124 28 lv [] μ Q)
          exact jX.throw (by rfl) (sretv (f := sthI) h K R.xc)
    · refine jX.b2f hc (by rfl) (by rfl) (by rfl) (?_ : jX G jP 124 10 lv [] μ Q)
      exact jX.throw (by rfl) (sretv (f := sthI) h K R.xc)
/-! 125 StrandRuntime$Machine.takeWritten()J -/
def F_125 (G : jG) (t : Nat) (S : sS) : Option (Int64 × sS) := bif jcmp .ne (S.1 23 0 0 6) 0 then (jif (jin (S.1 23 0 0 5) 2000) (jif (decide (¬ (nI 2000) = 0)) (some ((S.2.1 24 0 0 (S.1 23 0 0 5).toNatClampNeg), (siI (siI S 23 0 0 5 (((S.1 23 0 0 5) + (nI 1)) - ((S.1 23 0 0 5) + (nI 1)) / (nI 2000) * (nI 2000))) 23 0 0 6 (((siI S 23 0 0 5 (((S.1 23 0 0 5) + (nI 1)) - ((S.1 23 0 0 5) + (nI 1)) / (nI 2000) * (nI 2000))).1 23 0 0 6) - (nI 1))))))) else (some (0, S))
theorem F_125_ok {G : jG} {t : Nat} {S : sS} {r : Int64} {S' : sS} {μ : jS} {Q : Option Value ⊕ Nat → jS → Prop} (R : sR S μ) (h : F_125 G t S = some (r, S')) (K : ∀ μ', sR S' μ' → Q (srL r) μ') : jX G jP 125 0 (lv_args 0 [.ref (spl 23 0 0)]) [] μ Q := by
  unfold F_125 at h
  have l0 : jld (lv_args 0 [.ref (spl 23 0 0)]) 0 = some (.ref (spl 23 0 0)) := by rfl
  generalize lv_args 0 [.ref (spl 23 0 0)] = lv at *
  refine jX.lrn l0 (by rfl) (by rfl) (?_ : jX G jP 125 1 lv [.ref (spl 23 0 0)] μ Q)
  refine jX.sg R (by rfl) (by rfl) (by rfl) (by rfl) (by rfl) (by rfl) (?_ : jX G jP 125 4 lv [.int (S.1 23 0 0 6)] μ Q)
  rcases bif_or h with ⟨hc, h⟩ | ⟨hc, h⟩
  · refine jX.b1t hc (by rfl) (by rfl) (by rfl) (?_ : jX G jP 125 9 lv [] μ Q)
    refine jX.lrn l0 (by rfl) (by rfl) (?_ : jX G jP 125 10 lv [.ref (spl 23 0 0)] μ Q)
    refine jX.sg R (by rfl) (by rfl) (by rfl) (by rfl) (by rfl) (by rfl) (?_ : jX G jP 125 13 lv [.ref (spl 24 0 0)] μ Q)
    refine jX.lrn l0 (by rfl) (by rfl) (?_ : jX G jP 125 14 lv [.ref (spl 23 0 0), .ref (spl 24 0 0)] μ Q)
    refine jX.sg R (by rfl) (by rfl) (by rfl) (by rfl) (by rfl) (by rfl) (?_ : jX G jP 125 17 lv [.int (S.1 23 0 0 5), .ref (spl 24 0 0)] μ Q)
    obtain ⟨g1, h⟩ := jif_some h
    refine jX.sal R (by rfl) (by rfl) (by rfl) (by rfl) g1 (?_ : jX G jP 125 18 lv [.long (S.2.1 24 0 0 (S.1 23 0 0 5).toNatClampNeg)] μ Q)
    refine jX.s2 (k := 1) (pc' := 19) (by rfl) (by rfl) (by rfl) (fun lv l1 kp => (?_ : jX G jP 125 19 lv [] μ Q))
    replace l0 := kp 0 _ l0 (by rfl) (by first | rfl | simp [soR_cat])
    refine jX.lrn l0 (by rfl) (by rfl) (?_ : jX G jP 125 20 lv [.ref (spl 23 0 0)] μ Q)
    refine jX.lrn l0 (by rfl) (by rfl) (?_ : jX G jP 125 21 lv [.ref (spl 23 0 0), .ref (spl 23 0 0)] μ Q)
    refine jX.sg R (by rfl) (by rfl) (by rfl) (by rfl) (by rfl) (by rfl) (?_ : jX G jP 125 24 lv [.int (S.1 23 0 0 5), .ref (spl 23 0 0)] μ Q)
    refine jX.ic (v := nI 1) (n := 1) (by rfl) (by rfl) (by decide) (?_ : jX G jP 125 25 lv [.int (nI 1), .int (S.1 23 0 0 5), .ref (spl 23 0 0)] μ Q)
    refine jX.go (by rfl) (by rfl) (by rfl) (?_ : jX G jP 125 26 lv [.int ((S.1 23 0 0 5) + (nI 1)), .ref (spl 23 0 0)] μ Q)
    refine jX.ic (v := nI 2000) (n := 3) (by rfl) (by rfl) (by decide) (?_ : jX G jP 125 29 lv [.int (nI 2000), .int ((S.1 23 0 0 5) + (nI 1)), .ref (spl 23 0 0)] μ Q)
    obtain ⟨g2, h⟩ := jif_some h
    refine jX.ir g2 (by rfl) (by rfl) (?_ : jX G jP 125 30 lv [.int (((S.1 23 0 0 5) + (nI 1)) - ((S.1 23 0 0 5) + (nI 1)) / (nI 2000) * (nI 2000)), .ref (spl 23 0 0)] μ Q)
    refine jX.spI R (by rfl) (by rfl) (by rfl) (by rfl) (by rfl) (by rfl) (by rfl) (by rfl) (by rfl) (fun μ R => (?_ : jX G jP 125 33 lv [] μ Q))
    refine jX.lrn l0 (by rfl) (by rfl) (?_ : jX G jP 125 34 lv [.ref (spl 23 0 0)] μ Q)
    refine jX.go (by rfl) (by rfl) (by rfl) (?_ : jX G jP 125 35 lv [.ref (spl 23 0 0), .ref (spl 23 0 0)] μ Q)
    refine jX.sg R (by rfl) (by rfl) (by rfl) (by rfl) (by rfl) (by rfl) (?_ : jX G jP 125 38 lv [.int ((siI S 23 0 0 5 (((S.1 23 0 0 5) + (nI 1)) - ((S.1 23 0 0 5) + (nI 1)) / (nI 2000) * (nI 2000))).1 23 0 0 6), .ref (spl 23 0 0)] μ Q)
    refine jX.ic (v := nI 1) (n := 1) (by rfl) (by rfl) (by decide) (?_ : jX G jP 125 39 lv [.int (nI 1), .int ((siI S 23 0 0 5 (((S.1 23 0 0 5) + (nI 1)) - ((S.1 23 0 0 5) + (nI 1)) / (nI 2000) * (nI 2000))).1 23 0 0 6), .ref (spl 23 0 0)] μ Q)
    refine jX.go (by rfl) (by rfl) (by rfl) (?_ : jX G jP 125 40 lv [.int (((siI S 23 0 0 5 (((S.1 23 0 0 5) + (nI 1)) - ((S.1 23 0 0 5) + (nI 1)) / (nI 2000) * (nI 2000))).1 23 0 0 6) - (nI 1)), .ref (spl 23 0 0)] μ Q)
    refine jX.spI R (by rfl) (by rfl) (by rfl) (by rfl) (by rfl) (by rfl) (by rfl) (by rfl) (by rfl) (fun μ R => (?_ : jX G jP 125 43 lv [] μ Q))
    refine jX.lln l1 (by rfl) (by rfl) (?_ : jX G jP 125 44 lv [.long (S.2.1 24 0 0 (S.1 23 0 0 5).toNatClampNeg)] μ Q)
    exact jX.ret (by rfl) (by rfl) (by rfl) (by rfl) (sretv (f := srL) h K R)
  · refine jX.b1f hc (by rfl) (by rfl) (by rfl) (?_ : jX G jP 125 7 lv [] μ Q)
    refine jX.go (by rfl) (by rfl) (by rfl) (?_ : jX G jP 125 8 lv [.long 0] μ Q)
    exact jX.ret (by rfl) (by rfl) (by rfl) (by rfl) (sretv (f := srL) h K R)
/-! 126 StrandRuntime.take()J -/
def F_126 (G : jG) (t : Nat) (S : sS) : Option (Int64 × sS) := (F_125 G t S).bind (fun q1 => some (q1.1, q1.2))
theorem F_126_ok {G : jG} {t : Nat} {S : sS} {r : Int64} {S' : sS} {μ : jS} {Q : Option Value ⊕ Nat → jS → Prop} (R : sR S μ) (h : F_126 G t S = some (r, S')) (K : ∀ μ', sR S' μ' → Q (srL r) μ') : jX G jP 126 0 (lv_args 0 [.ref (spl 0 0 0)]) [] μ Q := by
  unfold F_126 at h
  have l0 : jld (lv_args 0 [.ref (spl 0 0 0)]) 0 = some (.ref (spl 0 0 0)) := by rfl
  generalize lv_args 0 [.ref (spl 0 0 0)] = lv at *
  refine jX.lrn l0 (by rfl) (by rfl) (?_ : jX G jP 126 1 lv [.ref (spl 0 0 0)] μ Q)
  refine jX.sg R (by rfl) (by rfl) (by rfl) (by rfl) (by rfl) (by rfl) (?_ : jX G jP 126 4 lv [.ref (spl 23 0 0)] μ Q)
  obtain ⟨q1, e1, h⟩ := sbd h
  refine jX.c1 (v := .long q1.1) (by rfl) (by rfl) (by rfl) (by rfl) (by rfl) (by rfl) (by rfl) (R.rec (by rfl) (by rfl)) (Nat.le_of_ble_eq_true rfl) (Nat.le_of_ble_eq_true rfl) (F_125_ok R e1 (fun μ R => ⟨rfl, (?_ : jX G jP 126 7 lv [.long q1.1] μ Q)⟩))
  exact jX.ret (by rfl) (by rfl) (by rfl) (by rfl) (sretv (f := srL) h K R)
/-! 127 StrandRuntimeLaw.begin(LStrandRuntime;I)I -/
def F_127 (G : jG) (t : Nat) (v1 : Int32) (S : sS) : Option (Int32 × sS) := (F_34 G t v1 S).bind (fun q1 => ssm q1.1 (fun y1 => some ((nI 0), q1.2)) (fun x1 => bif Nat.beq x1 0 then (some ((nI 1), q1.2)) else (none)))
theorem F_127_ok {G : jG} {t : Nat} {v1 : Int32} {S : sS} {r : Int32} {S' : sS} {μ : jS} {Q : Option Value ⊕ Nat → jS → Prop} (R : sR S μ) (h : F_127 G t v1 S = some (r, S')) (K : ∀ μ', sR S' μ' → Q (srI r) μ') : jX G jP 127 0 (lv_args 0 [.ref (spl 0 0 0), .int v1]) [] μ Q := by
  unfold F_127 at h
  have l0 : jld (lv_args 0 [.ref (spl 0 0 0), .int v1]) 0 = some (.ref (spl 0 0 0)) := by rfl
  have l1 : jld (lv_args 0 [.ref (spl 0 0 0), .int v1]) 1 = some (.int v1) := by rfl
  generalize lv_args 0 [.ref (spl 0 0 0), .int v1] = lv at *
  refine jX.lrn l0 (by rfl) (by rfl) (?_ : jX G jP 127 1 lv [.ref (spl 0 0 0)] μ Q)
  refine jX.lin l1 (by rfl) (by rfl) (?_ : jX G jP 127 2 lv [.int v1, .ref (spl 0 0 0)] μ Q)
  obtain ⟨q1, e1, h⟩ := sbd h
  refine jX.call (by rfl) (by rfl) (by rfl) (by rfl) (by rfl) (by rfl) (by rfl) (R.rec (by rfl) (by rfl)) (Nat.le_of_ble_eq_true rfl) (Nat.le_of_ble_eq_true rfl) (F_34_ok R e1 (fun μ R => ?_))
  rcases ssm_or h with ⟨y1, f1, h⟩ | ⟨x1, f1, h⟩
  · rw [f1]
    show jX G jP 127 5 lv [] μ Q
    refine jX.go (by rfl) (by rfl) (by rfl) (?_ : jX G jP 127 11 lv [] μ Q)
    refine jX.ic (v := nI 0) (n := 1) (by rfl) (by rfl) (by decide) (?_ : jX G jP 127 12 lv [.int (nI 0)] μ Q)
    exact jX.ret (by rfl) (by rfl) (by rfl) (by rfl) (sretv (f := srI) h K R)
  · rw [f1]
    show ∃ hh z, jP.2.2.1 127 2 x1 = some (hh, z) ∧ jX G jP 127 hh (jdrop lv z) [] μ Q
    rcases bif_or h with ⟨hc, h⟩ | ⟨-, h⟩
    · obtain rfl := Nat.eq_of_beq_eq_true hc
      refine ⟨_, _, rfl, ?_⟩
      generalize jdrop lv 2 = lv
      show jX G jP 127 9 lv [] μ Q
      refine jX.ic (v := nI 1) (n := 1) (by rfl) (by rfl) (by decide) (?_ : jX G jP 127 10 lv [.int (nI 1)] μ Q)
      exact jX.ret (by rfl) (by rfl) (by rfl) (by rfl) (sretv (f := srI) h K R)
    cases h
/-! 128 StrandRuntimeLaw.code(LStrandRuntime;II[J)I -/
def F_128 (G : jG) (t : Nat) (v1 : Int32) (v2 : Int32) (S : sS) : Option (Int32 × sS) := (F_50 G t v1 v2 S).bind (fun q1 => ssm q1.1 (fun y1 => jif (jin (nI 0) 1) (some ((nI 0), (siL q1.2 64 0 0 (nI 0).toNatClampNeg y1.toInt64)))) (fun x1 => bif Nat.beq x1 0 then (some ((nI 1), q1.2)) else (bif Nat.beq x1 1 then (some ((nI 2), q1.2)) else (none))))
theorem F_128_ok {G : jG} {t : Nat} {v1 : Int32} {v2 : Int32} {S : sS} {r : Int32} {S' : sS} {μ : jS} {Q : Option Value ⊕ Nat → jS → Prop} (R : sR S μ) (h : F_128 G t v1 v2 S = some (r, S')) (K : ∀ μ', sR S' μ' → Q (srI r) μ') : jX G jP 128 0 (lv_args 0 [.ref (spl 0 0 0), .int v1, .int v2, .ref (spl 64 0 0)]) [] μ Q := by
  unfold F_128 at h
  have l0 : jld (lv_args 0 [.ref (spl 0 0 0), .int v1, .int v2, .ref (spl 64 0 0)]) 0 = some (.ref (spl 0 0 0)) := by rfl
  have l1 : jld (lv_args 0 [.ref (spl 0 0 0), .int v1, .int v2, .ref (spl 64 0 0)]) 1 = some (.int v1) := by rfl
  have l2 : jld (lv_args 0 [.ref (spl 0 0 0), .int v1, .int v2, .ref (spl 64 0 0)]) 2 = some (.int v2) := by rfl
  have l3 : jld (lv_args 0 [.ref (spl 0 0 0), .int v1, .int v2, .ref (spl 64 0 0)]) 3 = some (.ref (spl 64 0 0)) := by rfl
  generalize lv_args 0 [.ref (spl 0 0 0), .int v1, .int v2, .ref (spl 64 0 0)] = lv at *
  refine jX.lrn l3 (by rfl) (by rfl) (?_ : jX G jP 128 1 lv [.ref (spl 64 0 0)] μ Q)
  refine jX.ic (v := nI 0) (n := 1) (by rfl) (by rfl) (by decide) (?_ : jX G jP 128 2 lv [.int (nI 0), .ref (spl 64 0 0)] μ Q)
  refine jX.lrn l0 (by rfl) (by rfl) (?_ : jX G jP 128 3 lv [.ref (spl 0 0 0), .int (nI 0), .ref (spl 64 0 0)] μ Q)
  refine jX.lin l1 (by rfl) (by rfl) (?_ : jX G jP 128 4 lv [.int v1, .ref (spl 0 0 0), .int (nI 0), .ref (spl 64 0 0)] μ Q)
  refine jX.lin l2 (by rfl) (by rfl) (?_ : jX G jP 128 5 lv [.int v2, .int v1, .ref (spl 0 0 0), .int (nI 0), .ref (spl 64 0 0)] μ Q)
  obtain ⟨q1, e1, h⟩ := sbd h
  refine jX.call (by rfl) (by rfl) (by rfl) (by rfl) (by rfl) (by rfl) (by rfl) (R.rec (by rfl) (by rfl)) (Nat.le_of_ble_eq_true rfl) (Nat.le_of_ble_eq_true rfl) (F_50_ok R e1 (fun μ R => ?_))
  rcases ssm_or h with ⟨y1, f1, h⟩ | ⟨x1, f1, h⟩
  · rw [f1]
    show jX G jP 128 8 lv [.int y1, .int (nI 0), .ref (spl 64 0 0)] μ Q
    refine jX.go (by rfl) (by rfl) (by rfl) (?_ : jX G jP 128 9 lv [.long y1.toInt64, .int (nI 0), .ref (spl 64 0 0)] μ Q)
    obtain ⟨g2, h⟩ := jif_some h
    refine jX.stl R (by rfl) (by rfl) (by rfl) (fun _ => by rfl) g2 (fun μ R => (?_ : jX G jP 128 10 lv [] μ Q))
    refine jX.go (by rfl) (by rfl) (by rfl) (?_ : jX G jP 128 21 lv [] μ Q)
    refine jX.ic (v := nI 0) (n := 1) (by rfl) (by rfl) (by decide) (?_ : jX G jP 128 22 lv [.int (nI 0)] μ Q)
    exact jX.ret (by rfl) (by rfl) (by rfl) (by rfl) (sretv (f := srI) h K R)
  · rw [f1]
    show ∃ hh z, jP.2.2.1 128 5 x1 = some (hh, z) ∧ jX G jP 128 hh (jdrop lv z) [] μ Q
    rcases bif_or h with ⟨hc, h⟩ | ⟨-, h⟩
    · obtain rfl := Nat.eq_of_beq_eq_true hc
      refine ⟨_, _, rfl, ?_⟩
      generalize jdrop lv 4 = lv
      show jX G jP 128 15 lv [] μ Q
      refine jX.ic (v := nI 1) (n := 1) (by rfl) (by rfl) (by decide) (?_ : jX G jP 128 16 lv [.int (nI 1)] μ Q)
      exact jX.ret (by rfl) (by rfl) (by rfl) (by rfl) (sretv (f := srI) h K R)
    rcases bif_or h with ⟨hc, h⟩ | ⟨-, h⟩
    · obtain rfl := Nat.eq_of_beq_eq_true hc
      refine ⟨_, _, rfl, ?_⟩
      generalize jdrop lv 4 = lv
      show jX G jP 128 19 lv [] μ Q
      refine jX.ic (v := nI 2) (n := 1) (by rfl) (by rfl) (by decide) (?_ : jX G jP 128 20 lv [.int (nI 2)] μ Q)
      exact jX.ret (by rfl) (by rfl) (by rfl) (by rfl) (sretv (f := srI) h K R)
    cases h
/-! 129 StrandRuntimeLaw.count(LStrandRuntime;I[J)I -/
def F_129 (G : jG) (t : Nat) (v1 : Int32) (S : sS) : Option (Int32 × sS) := (F_57 G t v1 S).bind (fun q1 => ssm q1.1 (fun y1 => jif (jin (nI 0) 1) (some ((nI 0), (siL q1.2 64 0 0 (nI 0).toNatClampNeg y1.toInt64)))) (fun x1 => bif Nat.beq x1 0 then (some ((nI 1), q1.2)) else (none)))
theorem F_129_ok {G : jG} {t : Nat} {v1 : Int32} {S : sS} {r : Int32} {S' : sS} {μ : jS} {Q : Option Value ⊕ Nat → jS → Prop} (R : sR S μ) (h : F_129 G t v1 S = some (r, S')) (K : ∀ μ', sR S' μ' → Q (srI r) μ') : jX G jP 129 0 (lv_args 0 [.ref (spl 0 0 0), .int v1, .ref (spl 64 0 0)]) [] μ Q := by
  unfold F_129 at h
  have l0 : jld (lv_args 0 [.ref (spl 0 0 0), .int v1, .ref (spl 64 0 0)]) 0 = some (.ref (spl 0 0 0)) := by rfl
  have l1 : jld (lv_args 0 [.ref (spl 0 0 0), .int v1, .ref (spl 64 0 0)]) 1 = some (.int v1) := by rfl
  have l2 : jld (lv_args 0 [.ref (spl 0 0 0), .int v1, .ref (spl 64 0 0)]) 2 = some (.ref (spl 64 0 0)) := by rfl
  generalize lv_args 0 [.ref (spl 0 0 0), .int v1, .ref (spl 64 0 0)] = lv at *
  refine jX.lrn l2 (by rfl) (by rfl) (?_ : jX G jP 129 1 lv [.ref (spl 64 0 0)] μ Q)
  refine jX.ic (v := nI 0) (n := 1) (by rfl) (by rfl) (by decide) (?_ : jX G jP 129 2 lv [.int (nI 0), .ref (spl 64 0 0)] μ Q)
  refine jX.lrn l0 (by rfl) (by rfl) (?_ : jX G jP 129 3 lv [.ref (spl 0 0 0), .int (nI 0), .ref (spl 64 0 0)] μ Q)
  refine jX.lin l1 (by rfl) (by rfl) (?_ : jX G jP 129 4 lv [.int v1, .ref (spl 0 0 0), .int (nI 0), .ref (spl 64 0 0)] μ Q)
  obtain ⟨q1, e1, h⟩ := sbd h
  refine jX.call (by rfl) (by rfl) (by rfl) (by rfl) (by rfl) (by rfl) (by rfl) (R.rec (by rfl) (by rfl)) (Nat.le_of_ble_eq_true rfl) (Nat.le_of_ble_eq_true rfl) (F_57_ok R e1 (fun μ R => ?_))
  rcases ssm_or h with ⟨y1, f1, h⟩ | ⟨x1, f1, h⟩
  · rw [f1]
    show jX G jP 129 7 lv [.int y1, .int (nI 0), .ref (spl 64 0 0)] μ Q
    refine jX.go (by rfl) (by rfl) (by rfl) (?_ : jX G jP 129 8 lv [.long y1.toInt64, .int (nI 0), .ref (spl 64 0 0)] μ Q)
    obtain ⟨g2, h⟩ := jif_some h
    refine jX.stl R (by rfl) (by rfl) (by rfl) (fun _ => by rfl) g2 (fun μ R => (?_ : jX G jP 129 9 lv [] μ Q))
    refine jX.go (by rfl) (by rfl) (by rfl) (?_ : jX G jP 129 15 lv [] μ Q)
    refine jX.ic (v := nI 0) (n := 1) (by rfl) (by rfl) (by decide) (?_ : jX G jP 129 16 lv [.int (nI 0)] μ Q)
    exact jX.ret (by rfl) (by rfl) (by rfl) (by rfl) (sretv (f := srI) h K R)
  · rw [f1]
    show ∃ hh z, jP.2.2.1 129 4 x1 = some (hh, z) ∧ jX G jP 129 hh (jdrop lv z) [] μ Q
    rcases bif_or h with ⟨hc, h⟩ | ⟨-, h⟩
    · obtain rfl := Nat.eq_of_beq_eq_true hc
      refine ⟨_, _, rfl, ?_⟩
      generalize jdrop lv 3 = lv
      show jX G jP 129 13 lv [] μ Q
      refine jX.ic (v := nI 1) (n := 1) (by rfl) (by rfl) (by decide) (?_ : jX G jP 129 14 lv [.int (nI 1)] μ Q)
      exact jX.ret (by rfl) (by rfl) (by rfl) (by rfl) (sretv (f := srI) h K R)
    cases h
/-! 130 StrandRuntimeLaw.function(LStrandRuntime;II[J)I -/
def F_130 (G : jG) (t : Nat) (v1 : Int32) (v2 : Int32) (S : sS) : Option (Int32 × sS) := (F_65 G t v1 v2 S).bind (fun q1 => ssm q1.1 (fun y1 => jif (jin (nI 0) 1) (some ((nI 0), (siL q1.2 64 0 0 (nI 0).toNatClampNeg y1.toInt64)))) (fun x1 => bif Nat.beq x1 0 then (some ((nI 1), q1.2)) else (bif Nat.beq x1 1 then (some ((nI 2), q1.2)) else (none))))
theorem F_130_ok {G : jG} {t : Nat} {v1 : Int32} {v2 : Int32} {S : sS} {r : Int32} {S' : sS} {μ : jS} {Q : Option Value ⊕ Nat → jS → Prop} (R : sR S μ) (h : F_130 G t v1 v2 S = some (r, S')) (K : ∀ μ', sR S' μ' → Q (srI r) μ') : jX G jP 130 0 (lv_args 0 [.ref (spl 0 0 0), .int v1, .int v2, .ref (spl 64 0 0)]) [] μ Q := by
  unfold F_130 at h
  have l0 : jld (lv_args 0 [.ref (spl 0 0 0), .int v1, .int v2, .ref (spl 64 0 0)]) 0 = some (.ref (spl 0 0 0)) := by rfl
  have l1 : jld (lv_args 0 [.ref (spl 0 0 0), .int v1, .int v2, .ref (spl 64 0 0)]) 1 = some (.int v1) := by rfl
  have l2 : jld (lv_args 0 [.ref (spl 0 0 0), .int v1, .int v2, .ref (spl 64 0 0)]) 2 = some (.int v2) := by rfl
  have l3 : jld (lv_args 0 [.ref (spl 0 0 0), .int v1, .int v2, .ref (spl 64 0 0)]) 3 = some (.ref (spl 64 0 0)) := by rfl
  generalize lv_args 0 [.ref (spl 0 0 0), .int v1, .int v2, .ref (spl 64 0 0)] = lv at *
  refine jX.lrn l3 (by rfl) (by rfl) (?_ : jX G jP 130 1 lv [.ref (spl 64 0 0)] μ Q)
  refine jX.ic (v := nI 0) (n := 1) (by rfl) (by rfl) (by decide) (?_ : jX G jP 130 2 lv [.int (nI 0), .ref (spl 64 0 0)] μ Q)
  refine jX.lrn l0 (by rfl) (by rfl) (?_ : jX G jP 130 3 lv [.ref (spl 0 0 0), .int (nI 0), .ref (spl 64 0 0)] μ Q)
  refine jX.lin l1 (by rfl) (by rfl) (?_ : jX G jP 130 4 lv [.int v1, .ref (spl 0 0 0), .int (nI 0), .ref (spl 64 0 0)] μ Q)
  refine jX.lin l2 (by rfl) (by rfl) (?_ : jX G jP 130 5 lv [.int v2, .int v1, .ref (spl 0 0 0), .int (nI 0), .ref (spl 64 0 0)] μ Q)
  obtain ⟨q1, e1, h⟩ := sbd h
  refine jX.call (by rfl) (by rfl) (by rfl) (by rfl) (by rfl) (by rfl) (by rfl) (R.rec (by rfl) (by rfl)) (Nat.le_of_ble_eq_true rfl) (Nat.le_of_ble_eq_true rfl) (F_65_ok R e1 (fun μ R => ?_))
  rcases ssm_or h with ⟨y1, f1, h⟩ | ⟨x1, f1, h⟩
  · rw [f1]
    show jX G jP 130 8 lv [.int y1, .int (nI 0), .ref (spl 64 0 0)] μ Q
    refine jX.go (by rfl) (by rfl) (by rfl) (?_ : jX G jP 130 9 lv [.long y1.toInt64, .int (nI 0), .ref (spl 64 0 0)] μ Q)
    obtain ⟨g2, h⟩ := jif_some h
    refine jX.stl R (by rfl) (by rfl) (by rfl) (fun _ => by rfl) g2 (fun μ R => (?_ : jX G jP 130 10 lv [] μ Q))
    refine jX.go (by rfl) (by rfl) (by rfl) (?_ : jX G jP 130 21 lv [] μ Q)
    refine jX.ic (v := nI 0) (n := 1) (by rfl) (by rfl) (by decide) (?_ : jX G jP 130 22 lv [.int (nI 0)] μ Q)
    exact jX.ret (by rfl) (by rfl) (by rfl) (by rfl) (sretv (f := srI) h K R)
  · rw [f1]
    show ∃ hh z, jP.2.2.1 130 5 x1 = some (hh, z) ∧ jX G jP 130 hh (jdrop lv z) [] μ Q
    rcases bif_or h with ⟨hc, h⟩ | ⟨-, h⟩
    · obtain rfl := Nat.eq_of_beq_eq_true hc
      refine ⟨_, _, rfl, ?_⟩
      generalize jdrop lv 4 = lv
      show jX G jP 130 15 lv [] μ Q
      refine jX.ic (v := nI 1) (n := 1) (by rfl) (by rfl) (by decide) (?_ : jX G jP 130 16 lv [.int (nI 1)] μ Q)
      exact jX.ret (by rfl) (by rfl) (by rfl) (by rfl) (sretv (f := srI) h K R)
    rcases bif_or h with ⟨hc, h⟩ | ⟨-, h⟩
    · obtain rfl := Nat.eq_of_beq_eq_true hc
      refine ⟨_, _, rfl, ?_⟩
      generalize jdrop lv 4 = lv
      show jX G jP 130 19 lv [] μ Q
      refine jX.ic (v := nI 2) (n := 1) (by rfl) (by rfl) (by decide) (?_ : jX G jP 130 20 lv [.int (nI 2)] μ Q)
      exact jX.ret (by rfl) (by rfl) (by rfl) (by rfl) (sretv (f := srI) h K R)
    cases h
/-! 131 StrandRuntimeLaw.kind(LStrandRuntime;II[J)I -/
def F_131 (G : jG) (t : Nat) (v1 : Int32) (v2 : Int32) (S : sS) : Option (Int32 × sS) := (F_69 G t v1 v2 S).bind (fun q1 => ssm q1.1 (fun y1 => jif (jin (nI 0) 1) (some ((nI 0), (siL q1.2 64 0 0 (nI 0).toNatClampNeg y1.toInt64)))) (fun x1 => bif Nat.beq x1 2 then (some ((nI 1), q1.2)) else (none)))
theorem F_131_ok {G : jG} {t : Nat} {v1 : Int32} {v2 : Int32} {S : sS} {r : Int32} {S' : sS} {μ : jS} {Q : Option Value ⊕ Nat → jS → Prop} (R : sR S μ) (h : F_131 G t v1 v2 S = some (r, S')) (K : ∀ μ', sR S' μ' → Q (srI r) μ') : jX G jP 131 0 (lv_args 0 [.ref (spl 0 0 0), .int v1, .int v2, .ref (spl 64 0 0)]) [] μ Q := by
  unfold F_131 at h
  have l0 : jld (lv_args 0 [.ref (spl 0 0 0), .int v1, .int v2, .ref (spl 64 0 0)]) 0 = some (.ref (spl 0 0 0)) := by rfl
  have l1 : jld (lv_args 0 [.ref (spl 0 0 0), .int v1, .int v2, .ref (spl 64 0 0)]) 1 = some (.int v1) := by rfl
  have l2 : jld (lv_args 0 [.ref (spl 0 0 0), .int v1, .int v2, .ref (spl 64 0 0)]) 2 = some (.int v2) := by rfl
  have l3 : jld (lv_args 0 [.ref (spl 0 0 0), .int v1, .int v2, .ref (spl 64 0 0)]) 3 = some (.ref (spl 64 0 0)) := by rfl
  generalize lv_args 0 [.ref (spl 0 0 0), .int v1, .int v2, .ref (spl 64 0 0)] = lv at *
  refine jX.lrn l3 (by rfl) (by rfl) (?_ : jX G jP 131 1 lv [.ref (spl 64 0 0)] μ Q)
  refine jX.ic (v := nI 0) (n := 1) (by rfl) (by rfl) (by decide) (?_ : jX G jP 131 2 lv [.int (nI 0), .ref (spl 64 0 0)] μ Q)
  refine jX.lrn l0 (by rfl) (by rfl) (?_ : jX G jP 131 3 lv [.ref (spl 0 0 0), .int (nI 0), .ref (spl 64 0 0)] μ Q)
  refine jX.lin l1 (by rfl) (by rfl) (?_ : jX G jP 131 4 lv [.int v1, .ref (spl 0 0 0), .int (nI 0), .ref (spl 64 0 0)] μ Q)
  refine jX.lin l2 (by rfl) (by rfl) (?_ : jX G jP 131 5 lv [.int v2, .int v1, .ref (spl 0 0 0), .int (nI 0), .ref (spl 64 0 0)] μ Q)
  obtain ⟨q1, e1, h⟩ := sbd h
  refine jX.call (by rfl) (by rfl) (by rfl) (by rfl) (by rfl) (by rfl) (by rfl) (R.rec (by rfl) (by rfl)) (Nat.le_of_ble_eq_true rfl) (Nat.le_of_ble_eq_true rfl) (F_69_ok R e1 (fun μ R => ?_))
  rcases ssm_or h with ⟨y1, f1, h⟩ | ⟨x1, f1, h⟩
  · rw [f1]
    show jX G jP 131 8 lv [.int y1, .int (nI 0), .ref (spl 64 0 0)] μ Q
    refine jX.go (by rfl) (by rfl) (by rfl) (?_ : jX G jP 131 9 lv [.long y1.toInt64, .int (nI 0), .ref (spl 64 0 0)] μ Q)
    obtain ⟨g2, h⟩ := jif_some h
    refine jX.stl R (by rfl) (by rfl) (by rfl) (fun _ => by rfl) g2 (fun μ R => (?_ : jX G jP 131 10 lv [] μ Q))
    refine jX.go (by rfl) (by rfl) (by rfl) (?_ : jX G jP 131 17 lv [] μ Q)
    refine jX.ic (v := nI 0) (n := 1) (by rfl) (by rfl) (by decide) (?_ : jX G jP 131 18 lv [.int (nI 0)] μ Q)
    exact jX.ret (by rfl) (by rfl) (by rfl) (by rfl) (sretv (f := srI) h K R)
  · rw [f1]
    show ∃ hh z, jP.2.2.1 131 5 x1 = some (hh, z) ∧ jX G jP 131 hh (jdrop lv z) [] μ Q
    rcases bif_or h with ⟨hc, h⟩ | ⟨-, h⟩
    · obtain rfl := Nat.eq_of_beq_eq_true hc
      refine ⟨_, _, rfl, ?_⟩
      generalize jdrop lv 4 = lv
      show jX G jP 131 15 lv [] μ Q
      refine jX.ic (v := nI 1) (n := 1) (by rfl) (by rfl) (by decide) (?_ : jX G jP 131 16 lv [.int (nI 1)] μ Q)
      exact jX.ret (by rfl) (by rfl) (by rfl) (by rfl) (sretv (f := srI) h K R)
    cases h
/-! 136 StrandRuntimeModel.function(II)I -/
def F_136_46 (G : jG) (t : Nat) (v1 : Int32) (v2 : Int32) (w0 : Int32) (S : sS) : Option (Int32 × sS) := bif jcmp .le ((siI S 33 0 0 25 w0).1 33 0 0 25) 0 then (jif (jin ((siI S 33 0 0 25 w0).1 33 0 0 13) 32) (jif (jin ((siI (siI S 33 0 0 25 w0) 37 0 0 ((siI S 33 0 0 25 w0).1 33 0 0 13).toNatClampNeg v1).1 33 0 0 13) 32) (jif (jin ((siI (siI (siI S 33 0 0 25 w0) 37 0 0 ((siI S 33 0 0 25 w0).1 33 0 0 13).toNatClampNeg v1) 38 0 0 ((siI (siI S 33 0 0 25 w0) 37 0 0 ((siI S 33 0 0 25 w0).1 33 0 0 13).toNatClampNeg v1).1 33 0 0 13).toNatClampNeg v2).1 33 0 0 13) 32) (jif (jin ((siI (siI (siI (siI S 33 0 0 25 w0) 37 0 0 ((siI S 33 0 0 25 w0).1 33 0 0 13).toNatClampNeg v1) 38 0 0 ((siI (siI S 33 0 0 25 w0) 37 0 0 ((siI S 33 0 0 25 w0).1 33 0 0 13).toNatClampNeg v1).1 33 0 0 13).toNatClampNeg v2) 39 0 0 ((siI (siI (siI S 33 0 0 25 w0) 37 0 0 ((siI S 33 0 0 25 w0).1 33 0 0 13).toNatClampNeg v1) 38 0 0 ((siI (siI S 33 0 0 25 w0) 37 0 0 ((siI S 33 0 0 25 w0).1 33 0 0 13).toNatClampNeg v1).1 33 0 0 13).toNatClampNeg v2).1 33 0 0 13).toNatClampNeg ((siI (siI (siI S 33 0 0 25 w0) 37 0 0 ((siI S 33 0 0 25 w0).1 33 0 0 13).toNatClampNeg v1) 38 0 0 ((siI (siI S 33 0 0 25 w0) 37 0 0 ((siI S 33 0 0 25 w0).1 33 0 0 13).toNatClampNeg v1).1 33 0 0 13).toNatClampNeg v2).1 33 0 0 14)).1 33 0 0 13) 32) (some ((((siI (siI (siI (siI (siI (siI S 33 0 0 25 w0) 37 0 0 ((siI S 33 0 0 25 w0).1 33 0 0 13).toNatClampNeg v1) 38 0 0 ((siI (siI S 33 0 0 25 w0) 37 0 0 ((siI S 33 0 0 25 w0).1 33 0 0 13).toNatClampNeg v1).1 33 0 0 13).toNatClampNeg v2) 39 0 0 ((siI (siI (siI S 33 0 0 25 w0) 37 0 0 ((siI S 33 0 0 25 w0).1 33 0 0 13).toNatClampNeg v1) 38 0 0 ((siI (siI S 33 0 0 25 w0) 37 0 0 ((siI S 33 0 0 25 w0).1 33 0 0 13).toNatClampNeg v1).1 33 0 0 13).toNatClampNeg v2).1 33 0 0 13).toNatClampNeg ((siI (siI (siI S 33 0 0 25 w0) 37 0 0 ((siI S 33 0 0 25 w0).1 33 0 0 13).toNatClampNeg v1) 38 0 0 ((siI (siI S 33 0 0 25 w0) 37 0 0 ((siI S 33 0 0 25 w0).1 33 0 0 13).toNatClampNeg v1).1 33 0 0 13).toNatClampNeg v2).1 33 0 0 14)) 40 0 0 ((siI (siI (siI (siI S 33 0 0 25 w0) 37 0 0 ((siI S 33 0 0 25 w0).1 33 0 0 13).toNatClampNeg v1) 38 0 0 ((siI (siI S 33 0 0 25 w0) 37 0 0 ((siI S 33 0 0 25 w0).1 33 0 0 13).toNatClampNeg v1).1 33 0 0 13).toNatClampNeg v2) 39 0 0 ((siI (siI (siI S 33 0 0 25 w0) 37 0 0 ((siI S 33 0 0 25 w0).1 33 0 0 13).toNatClampNeg v1) 38 0 0 ((siI (siI S 33 0 0 25 w0) 37 0 0 ((siI S 33 0 0 25 w0).1 33 0 0 13).toNatClampNeg v1).1 33 0 0 13).toNatClampNeg v2).1 33 0 0 13).toNatClampNeg ((siI (siI (siI S 33 0 0 25 w0) 37 0 0 ((siI S 33 0 0 25 w0).1 33 0 0 13).toNatClampNeg v1) 38 0 0 ((siI (siI S 33 0 0 25 w0) 37 0 0 ((siI S 33 0 0 25 w0).1 33 0 0 13).toNatClampNeg v1).1 33 0 0 13).toNatClampNeg v2).1 33 0 0 14)).1 33 0 0 13).toNatClampNeg (nI 0)) 33 0 0 13 (((siI (siI (siI (siI (siI S 33 0 0 25 w0) 37 0 0 ((siI S 33 0 0 25 w0).1 33 0 0 13).toNatClampNeg v1) 38 0 0 ((siI (siI S 33 0 0 25 w0) 37 0 0 ((siI S 33 0 0 25 w0).1 33 0 0 13).toNatClampNeg v1).1 33 0 0 13).toNatClampNeg v2) 39 0 0 ((siI (siI (siI S 33 0 0 25 w0) 37 0 0 ((siI S 33 0 0 25 w0).1 33 0 0 13).toNatClampNeg v1) 38 0 0 ((siI (siI S 33 0 0 25 w0) 37 0 0 ((siI S 33 0 0 25 w0).1 33 0 0 13).toNatClampNeg v1).1 33 0 0 13).toNatClampNeg v2).1 33 0 0 13).toNatClampNeg ((siI (siI (siI S 33 0 0 25 w0) 37 0 0 ((siI S 33 0 0 25 w0).1 33 0 0 13).toNatClampNeg v1) 38 0 0 ((siI (siI S 33 0 0 25 w0) 37 0 0 ((siI S 33 0 0 25 w0).1 33 0 0 13).toNatClampNeg v1).1 33 0 0 13).toNatClampNeg v2).1 33 0 0 14)) 40 0 0 ((siI (siI (siI (siI S 33 0 0 25 w0) 37 0 0 ((siI S 33 0 0 25 w0).1 33 0 0 13).toNatClampNeg v1) 38 0 0 ((siI (siI S 33 0 0 25 w0) 37 0 0 ((siI S 33 0 0 25 w0).1 33 0 0 13).toNatClampNeg v1).1 33 0 0 13).toNatClampNeg v2) 39 0 0 ((siI (siI (siI S 33 0 0 25 w0) 37 0 0 ((siI S 33 0 0 25 w0).1 33 0 0 13).toNatClampNeg v1) 38 0 0 ((siI (siI S 33 0 0 25 w0) 37 0 0 ((siI S 33 0 0 25 w0).1 33 0 0 13).toNatClampNeg v1).1 33 0 0 13).toNatClampNeg v2).1 33 0 0 13).toNatClampNeg ((siI (siI (siI S 33 0 0 25 w0) 37 0 0 ((siI S 33 0 0 25 w0).1 33 0 0 13).toNatClampNeg v1) 38 0 0 ((siI (siI S 33 0 0 25 w0) 37 0 0 ((siI S 33 0 0 25 w0).1 33 0 0 13).toNatClampNeg v1).1 33 0 0 13).toNatClampNeg v2).1 33 0 0 14)).1 33 0 0 13).toNatClampNeg (nI 0)).1 33 0 0 13) + (nI 1))).1 33 0 0 13) - (nI 1)), (siI (siI (siI (siI (siI (siI S 33 0 0 25 w0) 37 0 0 ((siI S 33 0 0 25 w0).1 33 0 0 13).toNatClampNeg v1) 38 0 0 ((siI (siI S 33 0 0 25 w0) 37 0 0 ((siI S 33 0 0 25 w0).1 33 0 0 13).toNatClampNeg v1).1 33 0 0 13).toNatClampNeg v2) 39 0 0 ((siI (siI (siI S 33 0 0 25 w0) 37 0 0 ((siI S 33 0 0 25 w0).1 33 0 0 13).toNatClampNeg v1) 38 0 0 ((siI (siI S 33 0 0 25 w0) 37 0 0 ((siI S 33 0 0 25 w0).1 33 0 0 13).toNatClampNeg v1).1 33 0 0 13).toNatClampNeg v2).1 33 0 0 13).toNatClampNeg ((siI (siI (siI S 33 0 0 25 w0) 37 0 0 ((siI S 33 0 0 25 w0).1 33 0 0 13).toNatClampNeg v1) 38 0 0 ((siI (siI S 33 0 0 25 w0) 37 0 0 ((siI S 33 0 0 25 w0).1 33 0 0 13).toNatClampNeg v1).1 33 0 0 13).toNatClampNeg v2).1 33 0 0 14)) 40 0 0 ((siI (siI (siI (siI S 33 0 0 25 w0) 37 0 0 ((siI S 33 0 0 25 w0).1 33 0 0 13).toNatClampNeg v1) 38 0 0 ((siI (siI S 33 0 0 25 w0) 37 0 0 ((siI S 33 0 0 25 w0).1 33 0 0 13).toNatClampNeg v1).1 33 0 0 13).toNatClampNeg v2) 39 0 0 ((siI (siI (siI S 33 0 0 25 w0) 37 0 0 ((siI S 33 0 0 25 w0).1 33 0 0 13).toNatClampNeg v1) 38 0 0 ((siI (siI S 33 0 0 25 w0) 37 0 0 ((siI S 33 0 0 25 w0).1 33 0 0 13).toNatClampNeg v1).1 33 0 0 13).toNatClampNeg v2).1 33 0 0 13).toNatClampNeg ((siI (siI (siI S 33 0 0 25 w0) 37 0 0 ((siI S 33 0 0 25 w0).1 33 0 0 13).toNatClampNeg v1) 38 0 0 ((siI (siI S 33 0 0 25 w0) 37 0 0 ((siI S 33 0 0 25 w0).1 33 0 0 13).toNatClampNeg v1).1 33 0 0 13).toNatClampNeg v2).1 33 0 0 14)).1 33 0 0 13).toNatClampNeg (nI 0)) 33 0 0 13 (((siI (siI (siI (siI (siI S 33 0 0 25 w0) 37 0 0 ((siI S 33 0 0 25 w0).1 33 0 0 13).toNatClampNeg v1) 38 0 0 ((siI (siI S 33 0 0 25 w0) 37 0 0 ((siI S 33 0 0 25 w0).1 33 0 0 13).toNatClampNeg v1).1 33 0 0 13).toNatClampNeg v2) 39 0 0 ((siI (siI (siI S 33 0 0 25 w0) 37 0 0 ((siI S 33 0 0 25 w0).1 33 0 0 13).toNatClampNeg v1) 38 0 0 ((siI (siI S 33 0 0 25 w0) 37 0 0 ((siI S 33 0 0 25 w0).1 33 0 0 13).toNatClampNeg v1).1 33 0 0 13).toNatClampNeg v2).1 33 0 0 13).toNatClampNeg ((siI (siI (siI S 33 0 0 25 w0) 37 0 0 ((siI S 33 0 0 25 w0).1 33 0 0 13).toNatClampNeg v1) 38 0 0 ((siI (siI S 33 0 0 25 w0) 37 0 0 ((siI S 33 0 0 25 w0).1 33 0 0 13).toNatClampNeg v1).1 33 0 0 13).toNatClampNeg v2).1 33 0 0 14)) 40 0 0 ((siI (siI (siI (siI S 33 0 0 25 w0) 37 0 0 ((siI S 33 0 0 25 w0).1 33 0 0 13).toNatClampNeg v1) 38 0 0 ((siI (siI S 33 0 0 25 w0) 37 0 0 ((siI S 33 0 0 25 w0).1 33 0 0 13).toNatClampNeg v1).1 33 0 0 13).toNatClampNeg v2) 39 0 0 ((siI (siI (siI S 33 0 0 25 w0) 37 0 0 ((siI S 33 0 0 25 w0).1 33 0 0 13).toNatClampNeg v1) 38 0 0 ((siI (siI S 33 0 0 25 w0) 37 0 0 ((siI S 33 0 0 25 w0).1 33 0 0 13).toNatClampNeg v1).1 33 0 0 13).toNatClampNeg v2).1 33 0 0 13).toNatClampNeg ((siI (siI (siI S 33 0 0 25 w0) 37 0 0 ((siI S 33 0 0 25 w0).1 33 0 0 13).toNatClampNeg v1) 38 0 0 ((siI (siI S 33 0 0 25 w0) 37 0 0 ((siI S 33 0 0 25 w0).1 33 0 0 13).toNatClampNeg v1).1 33 0 0 13).toNatClampNeg v2).1 33 0 0 14)).1 33 0 0 13).toNatClampNeg (nI 0)).1 33 0 0 13) + (nI 1))))))))) else (some ((nI 0), (siI S 33 0 0 25 w0)))
theorem F_136_46_ok {G : jG} {t : Nat} {r : Int32} {S' : sS} {Q : Option Value ⊕ Nat → jS → Prop} (K : ∀ μ', sR S' μ' → Q (srI r) μ') : ∀ (v1 : Int32) (v2 : Int32) (w0 : Int32) (S : sS) (lv : jL) (μ : jS), jld lv 0 = some (.ref (spl 33 0 0)) → jld lv 1 = some (.int v1) → jld lv 2 = some (.int v2) → sR S μ → F_136_46 G t v1 v2 w0 S = some (r, S') → jX G jP 136 46 lv [.int w0, .ref (spl 33 0 0)] μ Q := by
  intro v1 v2 w0 S lv μ l0 l1 l2 R h
  unfold F_136_46 at h
  refine jX.spI R (by rfl) (by rfl) (by rfl) (by rfl) (by rfl) (by rfl) (by rfl) (by rfl) (by rfl) (fun μ R => (?_ : jX G jP 136 49 lv [] μ Q))
  refine jX.lrn l0 (by rfl) (by rfl) (?_ : jX G jP 136 50 lv [.ref (spl 33 0 0)] μ Q)
  refine jX.sg R (by rfl) (by rfl) (by rfl) (by rfl) (by rfl) (by rfl) (?_ : jX G jP 136 53 lv [.int ((siI S 33 0 0 25 w0).1 33 0 0 25)] μ Q)
  rcases bif_or h with ⟨hc, h⟩ | ⟨hc, h⟩
  · refine jX.b1t hc (by rfl) (by rfl) (by rfl) (?_ : jX G jP 136 58 lv [] μ Q)
    refine jX.lrn l0 (by rfl) (by rfl) (?_ : jX G jP 136 59 lv [.ref (spl 33 0 0)] μ Q)
    refine jX.sg R (by rfl) (by rfl) (by rfl) (by rfl) (by rfl) (by rfl) (?_ : jX G jP 136 62 lv [.ref (spl 37 0 0)] μ Q)
    refine jX.lrn l0 (by rfl) (by rfl) (?_ : jX G jP 136 63 lv [.ref (spl 33 0 0), .ref (spl 37 0 0)] μ Q)
    refine jX.sg R (by rfl) (by rfl) (by rfl) (by rfl) (by rfl) (by rfl) (?_ : jX G jP 136 66 lv [.int ((siI S 33 0 0 25 w0).1 33 0 0 13), .ref (spl 37 0 0)] μ Q)
    refine jX.lin l1 (by rfl) (by rfl) (?_ : jX G jP 136 67 lv [.int v1, .int ((siI S 33 0 0 25 w0).1 33 0 0 13), .ref (spl 37 0 0)] μ Q)
    obtain ⟨g1, h⟩ := jif_some h
    refine jX.sti R (by rfl) (by rfl) (by rfl) (fun _ => by rfl) g1 (fun μ R => (?_ : jX G jP 136 68 lv [] μ Q))
    refine jX.lrn l0 (by rfl) (by rfl) (?_ : jX G jP 136 69 lv [.ref (spl 33 0 0)] μ Q)
    refine jX.sg R (by rfl) (by rfl) (by rfl) (by rfl) (by rfl) (by rfl) (?_ : jX G jP 136 72 lv [.ref (spl 38 0 0)] μ Q)
    refine jX.lrn l0 (by rfl) (by rfl) (?_ : jX G jP 136 73 lv [.ref (spl 33 0 0), .ref (spl 38 0 0)] μ Q)
    refine jX.sg R (by rfl) (by rfl) (by rfl) (by rfl) (by rfl) (by rfl) (?_ : jX G jP 136 76 lv [.int ((siI (siI S 33 0 0 25 w0) 37 0 0 ((siI S 33 0 0 25 w0).1 33 0 0 13).toNatClampNeg v1).1 33 0 0 13), .ref (spl 38 0 0)] μ Q)
    refine jX.lin l2 (by rfl) (by rfl) (?_ : jX G jP 136 77 lv [.int v2, .int ((siI (siI S 33 0 0 25 w0) 37 0 0 ((siI S 33 0 0 25 w0).1 33 0 0 13).toNatClampNeg v1).1 33 0 0 13), .ref (spl 38 0 0)] μ Q)
    obtain ⟨g2, h⟩ := jif_some h
    refine jX.sti R (by rfl) (by rfl) (by rfl) (fun _ => by rfl) g2 (fun μ R => (?_ : jX G jP 136 78 lv [] μ Q))
    refine jX.lrn l0 (by rfl) (by rfl) (?_ : jX G jP 136 79 lv [.ref (spl 33 0 0)] μ Q)
    refine jX.sg R (by rfl) (by rfl) (by rfl) (by rfl) (by rfl) (by rfl) (?_ : jX G jP 136 82 lv [.ref (spl 39 0 0)] μ Q)
    refine jX.lrn l0 (by rfl) (by rfl) (?_ : jX G jP 136 83 lv [.ref (spl 33 0 0), .ref (spl 39 0 0)] μ Q)
    refine jX.sg R (by rfl) (by rfl) (by rfl) (by rfl) (by rfl) (by rfl) (?_ : jX G jP 136 86 lv [.int ((siI (siI (siI S 33 0 0 25 w0) 37 0 0 ((siI S 33 0 0 25 w0).1 33 0 0 13).toNatClampNeg v1) 38 0 0 ((siI (siI S 33 0 0 25 w0) 37 0 0 ((siI S 33 0 0 25 w0).1 33 0 0 13).toNatClampNeg v1).1 33 0 0 13).toNatClampNeg v2).1 33 0 0 13), .ref (spl 39 0 0)] μ Q)
    refine jX.lrn l0 (by rfl) (by rfl) (?_ : jX G jP 136 87 lv [.ref (spl 33 0 0), .int ((siI (siI (siI S 33 0 0 25 w0) 37 0 0 ((siI S 33 0 0 25 w0).1 33 0 0 13).toNatClampNeg v1) 38 0 0 ((siI (siI S 33 0 0 25 w0) 37 0 0 ((siI S 33 0 0 25 w0).1 33 0 0 13).toNatClampNeg v1).1 33 0 0 13).toNatClampNeg v2).1 33 0 0 13), .ref (spl 39 0 0)] μ Q)
    refine jX.sg R (by rfl) (by rfl) (by rfl) (by rfl) (by rfl) (by rfl) (?_ : jX G jP 136 90 lv [.int ((siI (siI (siI S 33 0 0 25 w0) 37 0 0 ((siI S 33 0 0 25 w0).1 33 0 0 13).toNatClampNeg v1) 38 0 0 ((siI (siI S 33 0 0 25 w0) 37 0 0 ((siI S 33 0 0 25 w0).1 33 0 0 13).toNatClampNeg v1).1 33 0 0 13).toNatClampNeg v2).1 33 0 0 14), .int ((siI (siI (siI S 33 0 0 25 w0) 37 0 0 ((siI S 33 0 0 25 w0).1 33 0 0 13).toNatClampNeg v1) 38 0 0 ((siI (siI S 33 0 0 25 w0) 37 0 0 ((siI S 33 0 0 25 w0).1 33 0 0 13).toNatClampNeg v1).1 33 0 0 13).toNatClampNeg v2).1 33 0 0 13), .ref (spl 39 0 0)] μ Q)
    obtain ⟨g3, h⟩ := jif_some h
    refine jX.sti R (by rfl) (by rfl) (by rfl) (fun _ => by rfl) g3 (fun μ R => (?_ : jX G jP 136 91 lv [] μ Q))
    refine jX.lrn l0 (by rfl) (by rfl) (?_ : jX G jP 136 92 lv [.ref (spl 33 0 0)] μ Q)
    refine jX.sg R (by rfl) (by rfl) (by rfl) (by rfl) (by rfl) (by rfl) (?_ : jX G jP 136 95 lv [.ref (spl 40 0 0)] μ Q)
    refine jX.lrn l0 (by rfl) (by rfl) (?_ : jX G jP 136 96 lv [.ref (spl 33 0 0), .ref (spl 40 0 0)] μ Q)
    refine jX.sg R (by rfl) (by rfl) (by rfl) (by rfl) (by rfl) (by rfl) (?_ : jX G jP 136 99 lv [.int ((siI (siI (siI (siI S 33 0 0 25 w0) 37 0 0 ((siI S 33 0 0 25 w0).1 33 0 0 13).toNatClampNeg v1) 38 0 0 ((siI (siI S 33 0 0 25 w0) 37 0 0 ((siI S 33 0 0 25 w0).1 33 0 0 13).toNatClampNeg v1).1 33 0 0 13).toNatClampNeg v2) 39 0 0 ((siI (siI (siI S 33 0 0 25 w0) 37 0 0 ((siI S 33 0 0 25 w0).1 33 0 0 13).toNatClampNeg v1) 38 0 0 ((siI (siI S 33 0 0 25 w0) 37 0 0 ((siI S 33 0 0 25 w0).1 33 0 0 13).toNatClampNeg v1).1 33 0 0 13).toNatClampNeg v2).1 33 0 0 13).toNatClampNeg ((siI (siI (siI S 33 0 0 25 w0) 37 0 0 ((siI S 33 0 0 25 w0).1 33 0 0 13).toNatClampNeg v1) 38 0 0 ((siI (siI S 33 0 0 25 w0) 37 0 0 ((siI S 33 0 0 25 w0).1 33 0 0 13).toNatClampNeg v1).1 33 0 0 13).toNatClampNeg v2).1 33 0 0 14)).1 33 0 0 13), .ref (spl 40 0 0)] μ Q)
    refine jX.ic (v := nI 0) (n := 1) (by rfl) (by rfl) (by decide) (?_ : jX G jP 136 100 lv [.int (nI 0), .int ((siI (siI (siI (siI S 33 0 0 25 w0) 37 0 0 ((siI S 33 0 0 25 w0).1 33 0 0 13).toNatClampNeg v1) 38 0 0 ((siI (siI S 33 0 0 25 w0) 37 0 0 ((siI S 33 0 0 25 w0).1 33 0 0 13).toNatClampNeg v1).1 33 0 0 13).toNatClampNeg v2) 39 0 0 ((siI (siI (siI S 33 0 0 25 w0) 37 0 0 ((siI S 33 0 0 25 w0).1 33 0 0 13).toNatClampNeg v1) 38 0 0 ((siI (siI S 33 0 0 25 w0) 37 0 0 ((siI S 33 0 0 25 w0).1 33 0 0 13).toNatClampNeg v1).1 33 0 0 13).toNatClampNeg v2).1 33 0 0 13).toNatClampNeg ((siI (siI (siI S 33 0 0 25 w0) 37 0 0 ((siI S 33 0 0 25 w0).1 33 0 0 13).toNatClampNeg v1) 38 0 0 ((siI (siI S 33 0 0 25 w0) 37 0 0 ((siI S 33 0 0 25 w0).1 33 0 0 13).toNatClampNeg v1).1 33 0 0 13).toNatClampNeg v2).1 33 0 0 14)).1 33 0 0 13), .ref (spl 40 0 0)] μ Q)
    obtain ⟨g4, h⟩ := jif_some h
    refine jX.sti R (by rfl) (by rfl) (by rfl) (fun _ => by rfl) g4 (fun μ R => (?_ : jX G jP 136 101 lv [] μ Q))
    refine jX.lrn l0 (by rfl) (by rfl) (?_ : jX G jP 136 102 lv [.ref (spl 33 0 0)] μ Q)
    refine jX.go (by rfl) (by rfl) (by rfl) (?_ : jX G jP 136 103 lv [.ref (spl 33 0 0), .ref (spl 33 0 0)] μ Q)
    refine jX.sg R (by rfl) (by rfl) (by rfl) (by rfl) (by rfl) (by rfl) (?_ : jX G jP 136 106 lv [.int ((siI (siI (siI (siI (siI S 33 0 0 25 w0) 37 0 0 ((siI S 33 0 0 25 w0).1 33 0 0 13).toNatClampNeg v1) 38 0 0 ((siI (siI S 33 0 0 25 w0) 37 0 0 ((siI S 33 0 0 25 w0).1 33 0 0 13).toNatClampNeg v1).1 33 0 0 13).toNatClampNeg v2) 39 0 0 ((siI (siI (siI S 33 0 0 25 w0) 37 0 0 ((siI S 33 0 0 25 w0).1 33 0 0 13).toNatClampNeg v1) 38 0 0 ((siI (siI S 33 0 0 25 w0) 37 0 0 ((siI S 33 0 0 25 w0).1 33 0 0 13).toNatClampNeg v1).1 33 0 0 13).toNatClampNeg v2).1 33 0 0 13).toNatClampNeg ((siI (siI (siI S 33 0 0 25 w0) 37 0 0 ((siI S 33 0 0 25 w0).1 33 0 0 13).toNatClampNeg v1) 38 0 0 ((siI (siI S 33 0 0 25 w0) 37 0 0 ((siI S 33 0 0 25 w0).1 33 0 0 13).toNatClampNeg v1).1 33 0 0 13).toNatClampNeg v2).1 33 0 0 14)) 40 0 0 ((siI (siI (siI (siI S 33 0 0 25 w0) 37 0 0 ((siI S 33 0 0 25 w0).1 33 0 0 13).toNatClampNeg v1) 38 0 0 ((siI (siI S 33 0 0 25 w0) 37 0 0 ((siI S 33 0 0 25 w0).1 33 0 0 13).toNatClampNeg v1).1 33 0 0 13).toNatClampNeg v2) 39 0 0 ((siI (siI (siI S 33 0 0 25 w0) 37 0 0 ((siI S 33 0 0 25 w0).1 33 0 0 13).toNatClampNeg v1) 38 0 0 ((siI (siI S 33 0 0 25 w0) 37 0 0 ((siI S 33 0 0 25 w0).1 33 0 0 13).toNatClampNeg v1).1 33 0 0 13).toNatClampNeg v2).1 33 0 0 13).toNatClampNeg ((siI (siI (siI S 33 0 0 25 w0) 37 0 0 ((siI S 33 0 0 25 w0).1 33 0 0 13).toNatClampNeg v1) 38 0 0 ((siI (siI S 33 0 0 25 w0) 37 0 0 ((siI S 33 0 0 25 w0).1 33 0 0 13).toNatClampNeg v1).1 33 0 0 13).toNatClampNeg v2).1 33 0 0 14)).1 33 0 0 13).toNatClampNeg (nI 0)).1 33 0 0 13), .ref (spl 33 0 0)] μ Q)
    refine jX.ic (v := nI 1) (n := 1) (by rfl) (by rfl) (by decide) (?_ : jX G jP 136 107 lv [.int (nI 1), .int ((siI (siI (siI (siI (siI S 33 0 0 25 w0) 37 0 0 ((siI S 33 0 0 25 w0).1 33 0 0 13).toNatClampNeg v1) 38 0 0 ((siI (siI S 33 0 0 25 w0) 37 0 0 ((siI S 33 0 0 25 w0).1 33 0 0 13).toNatClampNeg v1).1 33 0 0 13).toNatClampNeg v2) 39 0 0 ((siI (siI (siI S 33 0 0 25 w0) 37 0 0 ((siI S 33 0 0 25 w0).1 33 0 0 13).toNatClampNeg v1) 38 0 0 ((siI (siI S 33 0 0 25 w0) 37 0 0 ((siI S 33 0 0 25 w0).1 33 0 0 13).toNatClampNeg v1).1 33 0 0 13).toNatClampNeg v2).1 33 0 0 13).toNatClampNeg ((siI (siI (siI S 33 0 0 25 w0) 37 0 0 ((siI S 33 0 0 25 w0).1 33 0 0 13).toNatClampNeg v1) 38 0 0 ((siI (siI S 33 0 0 25 w0) 37 0 0 ((siI S 33 0 0 25 w0).1 33 0 0 13).toNatClampNeg v1).1 33 0 0 13).toNatClampNeg v2).1 33 0 0 14)) 40 0 0 ((siI (siI (siI (siI S 33 0 0 25 w0) 37 0 0 ((siI S 33 0 0 25 w0).1 33 0 0 13).toNatClampNeg v1) 38 0 0 ((siI (siI S 33 0 0 25 w0) 37 0 0 ((siI S 33 0 0 25 w0).1 33 0 0 13).toNatClampNeg v1).1 33 0 0 13).toNatClampNeg v2) 39 0 0 ((siI (siI (siI S 33 0 0 25 w0) 37 0 0 ((siI S 33 0 0 25 w0).1 33 0 0 13).toNatClampNeg v1) 38 0 0 ((siI (siI S 33 0 0 25 w0) 37 0 0 ((siI S 33 0 0 25 w0).1 33 0 0 13).toNatClampNeg v1).1 33 0 0 13).toNatClampNeg v2).1 33 0 0 13).toNatClampNeg ((siI (siI (siI S 33 0 0 25 w0) 37 0 0 ((siI S 33 0 0 25 w0).1 33 0 0 13).toNatClampNeg v1) 38 0 0 ((siI (siI S 33 0 0 25 w0) 37 0 0 ((siI S 33 0 0 25 w0).1 33 0 0 13).toNatClampNeg v1).1 33 0 0 13).toNatClampNeg v2).1 33 0 0 14)).1 33 0 0 13).toNatClampNeg (nI 0)).1 33 0 0 13), .ref (spl 33 0 0)] μ Q)
    refine jX.go (by rfl) (by rfl) (by rfl) (?_ : jX G jP 136 108 lv [.int (((siI (siI (siI (siI (siI S 33 0 0 25 w0) 37 0 0 ((siI S 33 0 0 25 w0).1 33 0 0 13).toNatClampNeg v1) 38 0 0 ((siI (siI S 33 0 0 25 w0) 37 0 0 ((siI S 33 0 0 25 w0).1 33 0 0 13).toNatClampNeg v1).1 33 0 0 13).toNatClampNeg v2) 39 0 0 ((siI (siI (siI S 33 0 0 25 w0) 37 0 0 ((siI S 33 0 0 25 w0).1 33 0 0 13).toNatClampNeg v1) 38 0 0 ((siI (siI S 33 0 0 25 w0) 37 0 0 ((siI S 33 0 0 25 w0).1 33 0 0 13).toNatClampNeg v1).1 33 0 0 13).toNatClampNeg v2).1 33 0 0 13).toNatClampNeg ((siI (siI (siI S 33 0 0 25 w0) 37 0 0 ((siI S 33 0 0 25 w0).1 33 0 0 13).toNatClampNeg v1) 38 0 0 ((siI (siI S 33 0 0 25 w0) 37 0 0 ((siI S 33 0 0 25 w0).1 33 0 0 13).toNatClampNeg v1).1 33 0 0 13).toNatClampNeg v2).1 33 0 0 14)) 40 0 0 ((siI (siI (siI (siI S 33 0 0 25 w0) 37 0 0 ((siI S 33 0 0 25 w0).1 33 0 0 13).toNatClampNeg v1) 38 0 0 ((siI (siI S 33 0 0 25 w0) 37 0 0 ((siI S 33 0 0 25 w0).1 33 0 0 13).toNatClampNeg v1).1 33 0 0 13).toNatClampNeg v2) 39 0 0 ((siI (siI (siI S 33 0 0 25 w0) 37 0 0 ((siI S 33 0 0 25 w0).1 33 0 0 13).toNatClampNeg v1) 38 0 0 ((siI (siI S 33 0 0 25 w0) 37 0 0 ((siI S 33 0 0 25 w0).1 33 0 0 13).toNatClampNeg v1).1 33 0 0 13).toNatClampNeg v2).1 33 0 0 13).toNatClampNeg ((siI (siI (siI S 33 0 0 25 w0) 37 0 0 ((siI S 33 0 0 25 w0).1 33 0 0 13).toNatClampNeg v1) 38 0 0 ((siI (siI S 33 0 0 25 w0) 37 0 0 ((siI S 33 0 0 25 w0).1 33 0 0 13).toNatClampNeg v1).1 33 0 0 13).toNatClampNeg v2).1 33 0 0 14)).1 33 0 0 13).toNatClampNeg (nI 0)).1 33 0 0 13) + (nI 1)), .ref (spl 33 0 0)] μ Q)
    refine jX.spI R (by rfl) (by rfl) (by rfl) (by rfl) (by rfl) (by rfl) (by rfl) (by rfl) (by rfl) (fun μ R => (?_ : jX G jP 136 111 lv [] μ Q))
    refine jX.lrn l0 (by rfl) (by rfl) (?_ : jX G jP 136 112 lv [.ref (spl 33 0 0)] μ Q)
    refine jX.sg R (by rfl) (by rfl) (by rfl) (by rfl) (by rfl) (by rfl) (?_ : jX G jP 136 115 lv [.int ((siI (siI (siI (siI (siI (siI S 33 0 0 25 w0) 37 0 0 ((siI S 33 0 0 25 w0).1 33 0 0 13).toNatClampNeg v1) 38 0 0 ((siI (siI S 33 0 0 25 w0) 37 0 0 ((siI S 33 0 0 25 w0).1 33 0 0 13).toNatClampNeg v1).1 33 0 0 13).toNatClampNeg v2) 39 0 0 ((siI (siI (siI S 33 0 0 25 w0) 37 0 0 ((siI S 33 0 0 25 w0).1 33 0 0 13).toNatClampNeg v1) 38 0 0 ((siI (siI S 33 0 0 25 w0) 37 0 0 ((siI S 33 0 0 25 w0).1 33 0 0 13).toNatClampNeg v1).1 33 0 0 13).toNatClampNeg v2).1 33 0 0 13).toNatClampNeg ((siI (siI (siI S 33 0 0 25 w0) 37 0 0 ((siI S 33 0 0 25 w0).1 33 0 0 13).toNatClampNeg v1) 38 0 0 ((siI (siI S 33 0 0 25 w0) 37 0 0 ((siI S 33 0 0 25 w0).1 33 0 0 13).toNatClampNeg v1).1 33 0 0 13).toNatClampNeg v2).1 33 0 0 14)) 40 0 0 ((siI (siI (siI (siI S 33 0 0 25 w0) 37 0 0 ((siI S 33 0 0 25 w0).1 33 0 0 13).toNatClampNeg v1) 38 0 0 ((siI (siI S 33 0 0 25 w0) 37 0 0 ((siI S 33 0 0 25 w0).1 33 0 0 13).toNatClampNeg v1).1 33 0 0 13).toNatClampNeg v2) 39 0 0 ((siI (siI (siI S 33 0 0 25 w0) 37 0 0 ((siI S 33 0 0 25 w0).1 33 0 0 13).toNatClampNeg v1) 38 0 0 ((siI (siI S 33 0 0 25 w0) 37 0 0 ((siI S 33 0 0 25 w0).1 33 0 0 13).toNatClampNeg v1).1 33 0 0 13).toNatClampNeg v2).1 33 0 0 13).toNatClampNeg ((siI (siI (siI S 33 0 0 25 w0) 37 0 0 ((siI S 33 0 0 25 w0).1 33 0 0 13).toNatClampNeg v1) 38 0 0 ((siI (siI S 33 0 0 25 w0) 37 0 0 ((siI S 33 0 0 25 w0).1 33 0 0 13).toNatClampNeg v1).1 33 0 0 13).toNatClampNeg v2).1 33 0 0 14)).1 33 0 0 13).toNatClampNeg (nI 0)) 33 0 0 13 (((siI (siI (siI (siI (siI S 33 0 0 25 w0) 37 0 0 ((siI S 33 0 0 25 w0).1 33 0 0 13).toNatClampNeg v1) 38 0 0 ((siI (siI S 33 0 0 25 w0) 37 0 0 ((siI S 33 0 0 25 w0).1 33 0 0 13).toNatClampNeg v1).1 33 0 0 13).toNatClampNeg v2) 39 0 0 ((siI (siI (siI S 33 0 0 25 w0) 37 0 0 ((siI S 33 0 0 25 w0).1 33 0 0 13).toNatClampNeg v1) 38 0 0 ((siI (siI S 33 0 0 25 w0) 37 0 0 ((siI S 33 0 0 25 w0).1 33 0 0 13).toNatClampNeg v1).1 33 0 0 13).toNatClampNeg v2).1 33 0 0 13).toNatClampNeg ((siI (siI (siI S 33 0 0 25 w0) 37 0 0 ((siI S 33 0 0 25 w0).1 33 0 0 13).toNatClampNeg v1) 38 0 0 ((siI (siI S 33 0 0 25 w0) 37 0 0 ((siI S 33 0 0 25 w0).1 33 0 0 13).toNatClampNeg v1).1 33 0 0 13).toNatClampNeg v2).1 33 0 0 14)) 40 0 0 ((siI (siI (siI (siI S 33 0 0 25 w0) 37 0 0 ((siI S 33 0 0 25 w0).1 33 0 0 13).toNatClampNeg v1) 38 0 0 ((siI (siI S 33 0 0 25 w0) 37 0 0 ((siI S 33 0 0 25 w0).1 33 0 0 13).toNatClampNeg v1).1 33 0 0 13).toNatClampNeg v2) 39 0 0 ((siI (siI (siI S 33 0 0 25 w0) 37 0 0 ((siI S 33 0 0 25 w0).1 33 0 0 13).toNatClampNeg v1) 38 0 0 ((siI (siI S 33 0 0 25 w0) 37 0 0 ((siI S 33 0 0 25 w0).1 33 0 0 13).toNatClampNeg v1).1 33 0 0 13).toNatClampNeg v2).1 33 0 0 13).toNatClampNeg ((siI (siI (siI S 33 0 0 25 w0) 37 0 0 ((siI S 33 0 0 25 w0).1 33 0 0 13).toNatClampNeg v1) 38 0 0 ((siI (siI S 33 0 0 25 w0) 37 0 0 ((siI S 33 0 0 25 w0).1 33 0 0 13).toNatClampNeg v1).1 33 0 0 13).toNatClampNeg v2).1 33 0 0 14)).1 33 0 0 13).toNatClampNeg (nI 0)).1 33 0 0 13) + (nI 1))).1 33 0 0 13)] μ Q)
    refine jX.ic (v := nI 1) (n := 1) (by rfl) (by rfl) (by decide) (?_ : jX G jP 136 116 lv [.int (nI 1), .int ((siI (siI (siI (siI (siI (siI S 33 0 0 25 w0) 37 0 0 ((siI S 33 0 0 25 w0).1 33 0 0 13).toNatClampNeg v1) 38 0 0 ((siI (siI S 33 0 0 25 w0) 37 0 0 ((siI S 33 0 0 25 w0).1 33 0 0 13).toNatClampNeg v1).1 33 0 0 13).toNatClampNeg v2) 39 0 0 ((siI (siI (siI S 33 0 0 25 w0) 37 0 0 ((siI S 33 0 0 25 w0).1 33 0 0 13).toNatClampNeg v1) 38 0 0 ((siI (siI S 33 0 0 25 w0) 37 0 0 ((siI S 33 0 0 25 w0).1 33 0 0 13).toNatClampNeg v1).1 33 0 0 13).toNatClampNeg v2).1 33 0 0 13).toNatClampNeg ((siI (siI (siI S 33 0 0 25 w0) 37 0 0 ((siI S 33 0 0 25 w0).1 33 0 0 13).toNatClampNeg v1) 38 0 0 ((siI (siI S 33 0 0 25 w0) 37 0 0 ((siI S 33 0 0 25 w0).1 33 0 0 13).toNatClampNeg v1).1 33 0 0 13).toNatClampNeg v2).1 33 0 0 14)) 40 0 0 ((siI (siI (siI (siI S 33 0 0 25 w0) 37 0 0 ((siI S 33 0 0 25 w0).1 33 0 0 13).toNatClampNeg v1) 38 0 0 ((siI (siI S 33 0 0 25 w0) 37 0 0 ((siI S 33 0 0 25 w0).1 33 0 0 13).toNatClampNeg v1).1 33 0 0 13).toNatClampNeg v2) 39 0 0 ((siI (siI (siI S 33 0 0 25 w0) 37 0 0 ((siI S 33 0 0 25 w0).1 33 0 0 13).toNatClampNeg v1) 38 0 0 ((siI (siI S 33 0 0 25 w0) 37 0 0 ((siI S 33 0 0 25 w0).1 33 0 0 13).toNatClampNeg v1).1 33 0 0 13).toNatClampNeg v2).1 33 0 0 13).toNatClampNeg ((siI (siI (siI S 33 0 0 25 w0) 37 0 0 ((siI S 33 0 0 25 w0).1 33 0 0 13).toNatClampNeg v1) 38 0 0 ((siI (siI S 33 0 0 25 w0) 37 0 0 ((siI S 33 0 0 25 w0).1 33 0 0 13).toNatClampNeg v1).1 33 0 0 13).toNatClampNeg v2).1 33 0 0 14)).1 33 0 0 13).toNatClampNeg (nI 0)) 33 0 0 13 (((siI (siI (siI (siI (siI S 33 0 0 25 w0) 37 0 0 ((siI S 33 0 0 25 w0).1 33 0 0 13).toNatClampNeg v1) 38 0 0 ((siI (siI S 33 0 0 25 w0) 37 0 0 ((siI S 33 0 0 25 w0).1 33 0 0 13).toNatClampNeg v1).1 33 0 0 13).toNatClampNeg v2) 39 0 0 ((siI (siI (siI S 33 0 0 25 w0) 37 0 0 ((siI S 33 0 0 25 w0).1 33 0 0 13).toNatClampNeg v1) 38 0 0 ((siI (siI S 33 0 0 25 w0) 37 0 0 ((siI S 33 0 0 25 w0).1 33 0 0 13).toNatClampNeg v1).1 33 0 0 13).toNatClampNeg v2).1 33 0 0 13).toNatClampNeg ((siI (siI (siI S 33 0 0 25 w0) 37 0 0 ((siI S 33 0 0 25 w0).1 33 0 0 13).toNatClampNeg v1) 38 0 0 ((siI (siI S 33 0 0 25 w0) 37 0 0 ((siI S 33 0 0 25 w0).1 33 0 0 13).toNatClampNeg v1).1 33 0 0 13).toNatClampNeg v2).1 33 0 0 14)) 40 0 0 ((siI (siI (siI (siI S 33 0 0 25 w0) 37 0 0 ((siI S 33 0 0 25 w0).1 33 0 0 13).toNatClampNeg v1) 38 0 0 ((siI (siI S 33 0 0 25 w0) 37 0 0 ((siI S 33 0 0 25 w0).1 33 0 0 13).toNatClampNeg v1).1 33 0 0 13).toNatClampNeg v2) 39 0 0 ((siI (siI (siI S 33 0 0 25 w0) 37 0 0 ((siI S 33 0 0 25 w0).1 33 0 0 13).toNatClampNeg v1) 38 0 0 ((siI (siI S 33 0 0 25 w0) 37 0 0 ((siI S 33 0 0 25 w0).1 33 0 0 13).toNatClampNeg v1).1 33 0 0 13).toNatClampNeg v2).1 33 0 0 13).toNatClampNeg ((siI (siI (siI S 33 0 0 25 w0) 37 0 0 ((siI S 33 0 0 25 w0).1 33 0 0 13).toNatClampNeg v1) 38 0 0 ((siI (siI S 33 0 0 25 w0) 37 0 0 ((siI S 33 0 0 25 w0).1 33 0 0 13).toNatClampNeg v1).1 33 0 0 13).toNatClampNeg v2).1 33 0 0 14)).1 33 0 0 13).toNatClampNeg (nI 0)).1 33 0 0 13) + (nI 1))).1 33 0 0 13)] μ Q)
    refine jX.go (by rfl) (by rfl) (by rfl) (?_ : jX G jP 136 117 lv [.int (((siI (siI (siI (siI (siI (siI S 33 0 0 25 w0) 37 0 0 ((siI S 33 0 0 25 w0).1 33 0 0 13).toNatClampNeg v1) 38 0 0 ((siI (siI S 33 0 0 25 w0) 37 0 0 ((siI S 33 0 0 25 w0).1 33 0 0 13).toNatClampNeg v1).1 33 0 0 13).toNatClampNeg v2) 39 0 0 ((siI (siI (siI S 33 0 0 25 w0) 37 0 0 ((siI S 33 0 0 25 w0).1 33 0 0 13).toNatClampNeg v1) 38 0 0 ((siI (siI S 33 0 0 25 w0) 37 0 0 ((siI S 33 0 0 25 w0).1 33 0 0 13).toNatClampNeg v1).1 33 0 0 13).toNatClampNeg v2).1 33 0 0 13).toNatClampNeg ((siI (siI (siI S 33 0 0 25 w0) 37 0 0 ((siI S 33 0 0 25 w0).1 33 0 0 13).toNatClampNeg v1) 38 0 0 ((siI (siI S 33 0 0 25 w0) 37 0 0 ((siI S 33 0 0 25 w0).1 33 0 0 13).toNatClampNeg v1).1 33 0 0 13).toNatClampNeg v2).1 33 0 0 14)) 40 0 0 ((siI (siI (siI (siI S 33 0 0 25 w0) 37 0 0 ((siI S 33 0 0 25 w0).1 33 0 0 13).toNatClampNeg v1) 38 0 0 ((siI (siI S 33 0 0 25 w0) 37 0 0 ((siI S 33 0 0 25 w0).1 33 0 0 13).toNatClampNeg v1).1 33 0 0 13).toNatClampNeg v2) 39 0 0 ((siI (siI (siI S 33 0 0 25 w0) 37 0 0 ((siI S 33 0 0 25 w0).1 33 0 0 13).toNatClampNeg v1) 38 0 0 ((siI (siI S 33 0 0 25 w0) 37 0 0 ((siI S 33 0 0 25 w0).1 33 0 0 13).toNatClampNeg v1).1 33 0 0 13).toNatClampNeg v2).1 33 0 0 13).toNatClampNeg ((siI (siI (siI S 33 0 0 25 w0) 37 0 0 ((siI S 33 0 0 25 w0).1 33 0 0 13).toNatClampNeg v1) 38 0 0 ((siI (siI S 33 0 0 25 w0) 37 0 0 ((siI S 33 0 0 25 w0).1 33 0 0 13).toNatClampNeg v1).1 33 0 0 13).toNatClampNeg v2).1 33 0 0 14)).1 33 0 0 13).toNatClampNeg (nI 0)) 33 0 0 13 (((siI (siI (siI (siI (siI S 33 0 0 25 w0) 37 0 0 ((siI S 33 0 0 25 w0).1 33 0 0 13).toNatClampNeg v1) 38 0 0 ((siI (siI S 33 0 0 25 w0) 37 0 0 ((siI S 33 0 0 25 w0).1 33 0 0 13).toNatClampNeg v1).1 33 0 0 13).toNatClampNeg v2) 39 0 0 ((siI (siI (siI S 33 0 0 25 w0) 37 0 0 ((siI S 33 0 0 25 w0).1 33 0 0 13).toNatClampNeg v1) 38 0 0 ((siI (siI S 33 0 0 25 w0) 37 0 0 ((siI S 33 0 0 25 w0).1 33 0 0 13).toNatClampNeg v1).1 33 0 0 13).toNatClampNeg v2).1 33 0 0 13).toNatClampNeg ((siI (siI (siI S 33 0 0 25 w0) 37 0 0 ((siI S 33 0 0 25 w0).1 33 0 0 13).toNatClampNeg v1) 38 0 0 ((siI (siI S 33 0 0 25 w0) 37 0 0 ((siI S 33 0 0 25 w0).1 33 0 0 13).toNatClampNeg v1).1 33 0 0 13).toNatClampNeg v2).1 33 0 0 14)) 40 0 0 ((siI (siI (siI (siI S 33 0 0 25 w0) 37 0 0 ((siI S 33 0 0 25 w0).1 33 0 0 13).toNatClampNeg v1) 38 0 0 ((siI (siI S 33 0 0 25 w0) 37 0 0 ((siI S 33 0 0 25 w0).1 33 0 0 13).toNatClampNeg v1).1 33 0 0 13).toNatClampNeg v2) 39 0 0 ((siI (siI (siI S 33 0 0 25 w0) 37 0 0 ((siI S 33 0 0 25 w0).1 33 0 0 13).toNatClampNeg v1) 38 0 0 ((siI (siI S 33 0 0 25 w0) 37 0 0 ((siI S 33 0 0 25 w0).1 33 0 0 13).toNatClampNeg v1).1 33 0 0 13).toNatClampNeg v2).1 33 0 0 13).toNatClampNeg ((siI (siI (siI S 33 0 0 25 w0) 37 0 0 ((siI S 33 0 0 25 w0).1 33 0 0 13).toNatClampNeg v1) 38 0 0 ((siI (siI S 33 0 0 25 w0) 37 0 0 ((siI S 33 0 0 25 w0).1 33 0 0 13).toNatClampNeg v1).1 33 0 0 13).toNatClampNeg v2).1 33 0 0 14)).1 33 0 0 13).toNatClampNeg (nI 0)).1 33 0 0 13) + (nI 1))).1 33 0 0 13) - (nI 1))] μ Q)
    exact jX.ret (by rfl) (by rfl) (by rfl) (by rfl) (sretv (f := srI) h K R)
  · refine jX.b1f hc (by rfl) (by rfl) (by rfl) (?_ : jX G jP 136 56 lv [] μ Q)
    refine jX.ic (v := nI 0) (n := 1) (by rfl) (by rfl) (by decide) (?_ : jX G jP 136 57 lv [.int (nI 0)] μ Q)
    exact jX.ret (by rfl) (by rfl) (by rfl) (by rfl) (sretv (f := srI) h K R)
def F_136_21 (G : jG) (t : Nat) (v1 : Int32) (v2 : Int32) (S : sS) : Option (Int32 × sS) := F_136_46 G t v1 v2 (nI 1) S
theorem F_136_21_ok {G : jG} {t : Nat} {r : Int32} {S' : sS} {Q : Option Value ⊕ Nat → jS → Prop} (K : ∀ μ', sR S' μ' → Q (srI r) μ') : ∀ (v1 : Int32) (v2 : Int32) (S : sS) (lv : jL) (μ : jS), jld lv 0 = some (.ref (spl 33 0 0)) → jld lv 1 = some (.int v1) → jld lv 2 = some (.int v2) → sR S μ → F_136_21 G t v1 v2 S = some (r, S') → jX G jP 136 21 lv [.ref (spl 33 0 0)] μ Q := by
  intro v1 v2 S lv μ l0 l1 l2 R h
  unfold F_136_21 at h
  refine jX.ic (v := nI 1) (n := 1) (by rfl) (by rfl) (by decide) (?_ : jX G jP 136 22 lv [.int (nI 1), .ref (spl 33 0 0)] μ Q)
  refine jX.go (by rfl) (by rfl) (by rfl) (?_ : jX G jP 136 46 lv [.int (nI 1), .ref (spl 33 0 0)] μ Q)
  exact F_136_46_ok  K v1 v2 (nI 1) _ _ _ l0 l1 l2 R h
def F_136_41 (G : jG) (t : Nat) (v1 : Int32) (v2 : Int32) (S : sS) : Option (Int32 × sS) := F_136_46 G t v1 v2 (nI 2) S
theorem F_136_41_ok {G : jG} {t : Nat} {r : Int32} {S' : sS} {Q : Option Value ⊕ Nat → jS → Prop} (K : ∀ μ', sR S' μ' → Q (srI r) μ') : ∀ (v1 : Int32) (v2 : Int32) (S : sS) (lv : jL) (μ : jS), jld lv 0 = some (.ref (spl 33 0 0)) → jld lv 1 = some (.int v1) → jld lv 2 = some (.int v2) → sR S μ → F_136_41 G t v1 v2 S = some (r, S') → jX G jP 136 41 lv [.ref (spl 33 0 0)] μ Q := by
  intro v1 v2 S lv μ l0 l1 l2 R h
  unfold F_136_41 at h
  refine jX.ic (v := nI 2) (n := 1) (by rfl) (by rfl) (by decide) (?_ : jX G jP 136 42 lv [.int (nI 2), .ref (spl 33 0 0)] μ Q)
  refine jX.go (by rfl) (by rfl) (by rfl) (?_ : jX G jP 136 46 lv [.int (nI 2), .ref (spl 33 0 0)] μ Q)
  exact F_136_46_ok  K v1 v2 (nI 2) _ _ _ l0 l1 l2 R h
def F_136 (G : jG) (t : Nat) (v1 : Int32) (v2 : Int32) (S : sS) : Option (Int32 × sS) := bif jcmp .lt v1 0 then (F_136_21 G t v1 v2 S) else (bif jcmp .gt v1 (nI 4) then (F_136_21 G t v1 v2 S) else (bif jcmp .lt v2 v1 then (F_136_21 G t v1 v2 S) else (bif jcmp .le v2 (nI 12) then (bif jcmp .eq (S.1 33 0 0 13) (nI 32) then (F_136_41 G t v1 v2 S) else (bif jcmp .eq (S.1 33 0 0 29) 0 then (F_136_46 G t v1 v2 (nI 0) S) else (F_136_41 G t v1 v2 S))) else (F_136_21 G t v1 v2 S))))
theorem F_136_ok {G : jG} {t : Nat} {v1 : Int32} {v2 : Int32} {S : sS} {r : Int32} {S' : sS} {μ : jS} {Q : Option Value ⊕ Nat → jS → Prop} (R : sR S μ) (h : F_136 G t v1 v2 S = some (r, S')) (K : ∀ μ', sR S' μ' → Q (srI r) μ') : jX G jP 136 0 (lv_args 0 [.ref (spl 33 0 0), .int v1, .int v2]) [] μ Q := by
  unfold F_136 at h
  have l0 : jld (lv_args 0 [.ref (spl 33 0 0), .int v1, .int v2]) 0 = some (.ref (spl 33 0 0)) := by rfl
  have l1 : jld (lv_args 0 [.ref (spl 33 0 0), .int v1, .int v2]) 1 = some (.int v1) := by rfl
  have l2 : jld (lv_args 0 [.ref (spl 33 0 0), .int v1, .int v2]) 2 = some (.int v2) := by rfl
  generalize lv_args 0 [.ref (spl 33 0 0), .int v1, .int v2] = lv at *
  refine jX.lrn l0 (by rfl) (by rfl) (?_ : jX G jP 136 1 lv [.ref (spl 33 0 0)] μ Q)
  refine jX.lin l1 (by rfl) (by rfl) (?_ : jX G jP 136 2 lv [.int v1, .ref (spl 33 0 0)] μ Q)
  rcases bif_or h with ⟨hc, h⟩ | ⟨hc, h⟩
  · refine jX.b1t hc (by rfl) (by rfl) (by rfl) (?_ : jX G jP 136 21 lv [.ref (spl 33 0 0)] μ Q)
    exact F_136_21_ok  K v1 v2 _ _ _ l0 l1 l2 R h
  · refine jX.b1f hc (by rfl) (by rfl) (by rfl) (?_ : jX G jP 136 5 lv [.ref (spl 33 0 0)] μ Q)
    refine jX.lin l1 (by rfl) (by rfl) (?_ : jX G jP 136 6 lv [.int v1, .ref (spl 33 0 0)] μ Q)
    refine jX.ic (v := nI 4) (n := 1) (by rfl) (by rfl) (by decide) (?_ : jX G jP 136 7 lv [.int (nI 4), .int v1, .ref (spl 33 0 0)] μ Q)
    rcases bif_or h with ⟨hc, h⟩ | ⟨hc, h⟩
    · refine jX.b2t hc (by rfl) (by rfl) (by rfl) (?_ : jX G jP 136 21 lv [.ref (spl 33 0 0)] μ Q)
      exact F_136_21_ok  K v1 v2 _ _ _ l0 l1 l2 R h
    · refine jX.b2f hc (by rfl) (by rfl) (by rfl) (?_ : jX G jP 136 10 lv [.ref (spl 33 0 0)] μ Q)
      refine jX.lin l2 (by rfl) (by rfl) (?_ : jX G jP 136 11 lv [.int v2, .ref (spl 33 0 0)] μ Q)
      refine jX.lin l1 (by rfl) (by rfl) (?_ : jX G jP 136 12 lv [.int v1, .int v2, .ref (spl 33 0 0)] μ Q)
      rcases bif_or h with ⟨hc, h⟩ | ⟨hc, h⟩
      · refine jX.b2t hc (by rfl) (by rfl) (by rfl) (?_ : jX G jP 136 21 lv [.ref (spl 33 0 0)] μ Q)
        exact F_136_21_ok  K v1 v2 _ _ _ l0 l1 l2 R h
      · refine jX.b2f hc (by rfl) (by rfl) (by rfl) (?_ : jX G jP 136 15 lv [.ref (spl 33 0 0)] μ Q)
        refine jX.lin l2 (by rfl) (by rfl) (?_ : jX G jP 136 16 lv [.int v2, .ref (spl 33 0 0)] μ Q)
        refine jX.ic (v := nI 12) (n := 2) (by rfl) (by rfl) (by decide) (?_ : jX G jP 136 18 lv [.int (nI 12), .int v2, .ref (spl 33 0 0)] μ Q)
        rcases bif_or h with ⟨hc, h⟩ | ⟨hc, h⟩
        · refine jX.b2t hc (by rfl) (by rfl) (by rfl) (?_ : jX G jP 136 25 lv [.ref (spl 33 0 0)] μ Q)
          refine jX.lrn l0 (by rfl) (by rfl) (?_ : jX G jP 136 26 lv [.ref (spl 33 0 0), .ref (spl 33 0 0)] μ Q)
          refine jX.sg R (by rfl) (by rfl) (by rfl) (by rfl) (by rfl) (by rfl) (?_ : jX G jP 136 29 lv [.int (S.1 33 0 0 13), .ref (spl 33 0 0)] μ Q)
          refine jX.ic (v := nI 32) (n := 2) (by rfl) (by rfl) (by decide) (?_ : jX G jP 136 31 lv [.int (nI 32), .int (S.1 33 0 0 13), .ref (spl 33 0 0)] μ Q)
          rcases bif_or h with ⟨hc, h⟩ | ⟨hc, h⟩
          · refine jX.b2t hc (by rfl) (by rfl) (by rfl) (?_ : jX G jP 136 41 lv [.ref (spl 33 0 0)] μ Q)
            exact F_136_41_ok  K v1 v2 _ _ _ l0 l1 l2 R h
          · refine jX.b2f hc (by rfl) (by rfl) (by rfl) (?_ : jX G jP 136 34 lv [.ref (spl 33 0 0)] μ Q)
            refine jX.lrn l0 (by rfl) (by rfl) (?_ : jX G jP 136 35 lv [.ref (spl 33 0 0), .ref (spl 33 0 0)] μ Q)
            refine jX.sg R (by rfl) (by rfl) (by rfl) (by rfl) (by rfl) (by rfl) (?_ : jX G jP 136 38 lv [.int (S.1 33 0 0 29), .ref (spl 33 0 0)] μ Q)
            rcases bif_or h with ⟨hc, h⟩ | ⟨hc, h⟩
            · refine jX.b1t hc (by rfl) (by rfl) (by rfl) (?_ : jX G jP 136 45 lv [.ref (spl 33 0 0)] μ Q)
              refine jX.ic (v := nI 0) (n := 1) (by rfl) (by rfl) (by decide) (?_ : jX G jP 136 46 lv [.int (nI 0), .ref (spl 33 0 0)] μ Q)
              exact F_136_46_ok  K v1 v2 (nI 0) _ _ _ l0 l1 l2 R h
            · refine jX.b1f hc (by rfl) (by rfl) (by rfl) (?_ : jX G jP 136 41 lv [.ref (spl 33 0 0)] μ Q)
              exact F_136_41_ok  K v1 v2 _ _ _ l0 l1 l2 R h
        · refine jX.b2f hc (by rfl) (by rfl) (by rfl) (?_ : jX G jP 136 21 lv [.ref (spl 33 0 0)] μ Q)
          exact F_136_21_ok  K v1 v2 _ _ _ l0 l1 l2 R h
/-! 137 StrandRuntimeModel.thrown()I -/
def F_137 (G : jG) (t : Nat) (S : sS) : Option (Int32 × sS) := some ((S.1 33 0 0 25), S)
theorem F_137_ok {G : jG} {t : Nat} {S : sS} {r : Int32} {S' : sS} {μ : jS} {Q : Option Value ⊕ Nat → jS → Prop} (R : sR S μ) (h : F_137 G t S = some (r, S')) (K : ∀ μ', sR S' μ' → Q (srI r) μ') : jX G jP 137 0 (lv_args 0 [.ref (spl 33 0 0)]) [] μ Q := by
  unfold F_137 at h
  have l0 : jld (lv_args 0 [.ref (spl 33 0 0)]) 0 = some (.ref (spl 33 0 0)) := by rfl
  generalize lv_args 0 [.ref (spl 33 0 0)] = lv at *
  refine jX.lrn l0 (by rfl) (by rfl) (?_ : jX G jP 137 1 lv [.ref (spl 33 0 0)] μ Q)
  refine jX.sg R (by rfl) (by rfl) (by rfl) (by rfl) (by rfl) (by rfl) (?_ : jX G jP 137 4 lv [.int (S.1 33 0 0 25)] μ Q)
  exact jX.ret (by rfl) (by rfl) (by rfl) (by rfl) (sretv (f := srI) h K R)
/-! 138 StrandRuntimeModel.isCode(II)Z -/
def F_138_162 (G : jG) (t : Nat) (S : sS) : Option (Int32 × sS) := some ((nI 1), S)
theorem F_138_162_ok {G : jG} {t : Nat} {r : Int32} {S' : sS} {Q : Option Value ⊕ Nat → jS → Prop} (K : ∀ μ', sR S' μ' → Q (srI r) μ') : ∀ (S : sS) (lv : jL) (μ : jS), sR S μ → F_138_162 G t S = some (r, S') → jX G jP 138 162 lv [] μ Q := by
  intro S lv μ R h
  unfold F_138_162 at h
  refine jX.ic (v := nI 1) (n := 1) (by rfl) (by rfl) (by decide) (?_ : jX G jP 138 163 lv [.int (nI 1)] μ Q)
  refine jX.go (by rfl) (by rfl) (by rfl) (?_ : jX G jP 138 167 lv [.int (nI 1)] μ Q)
  exact jX.ret (by rfl) (by rfl) (by rfl) (by rfl) (sretv (f := srI) h K R)
def F_138_136 (G : jG) (t : Nat) (v2 : Int32) (S : sS) : Option (Int32 × sS) := bif jcmp .eq (S.1 33 0 0 13) 0 then (F_138_162 G t S) else (bif jcmp .lt v2 0 then (some ((nI 0), S)) else (jif (jin ((S.1 33 0 0 13) - (nI 1)) 32) (bif jcmp .ge v2 (S.1 38 0 0 ((S.1 33 0 0 13) - (nI 1)).toNatClampNeg) then (some ((nI 0), S)) else (F_138_162 G t S))))
theorem F_138_136_ok {G : jG} {t : Nat} {r : Int32} {S' : sS} {Q : Option Value ⊕ Nat → jS → Prop} (K : ∀ μ', sR S' μ' → Q (srI r) μ') : ∀ (v2 : Int32) (S : sS) (lv : jL) (μ : jS), jld lv 0 = some (.ref (spl 33 0 0)) → jld lv 2 = some (.int v2) → sR S μ → F_138_136 G t v2 S = some (r, S') → jX G jP 138 136 lv [] μ Q := by
  intro v2 S lv μ l0 l2 R h
  unfold F_138_136 at h
  refine jX.lrn l0 (by rfl) (by rfl) (?_ : jX G jP 138 137 lv [.ref (spl 33 0 0)] μ Q)
  refine jX.sg R (by rfl) (by rfl) (by rfl) (by rfl) (by rfl) (by rfl) (?_ : jX G jP 138 140 lv [.int (S.1 33 0 0 13)] μ Q)
  rcases bif_or h with ⟨hc, h⟩ | ⟨hc, h⟩
  · refine jX.b1t hc (by rfl) (by rfl) (by rfl) (?_ : jX G jP 138 162 lv [] μ Q)
    exact F_138_162_ok  K  _ _ _  R h
  · refine jX.b1f hc (by rfl) (by rfl) (by rfl) (?_ : jX G jP 138 143 lv [] μ Q)
    refine jX.lin l2 (by rfl) (by rfl) (?_ : jX G jP 138 144 lv [.int v2] μ Q)
    rcases bif_or h with ⟨hc, h⟩ | ⟨hc, h⟩
    · refine jX.b1t hc (by rfl) (by rfl) (by rfl) (?_ : jX G jP 138 166 lv [] μ Q)
      refine jX.ic (v := nI 0) (n := 1) (by rfl) (by rfl) (by decide) (?_ : jX G jP 138 167 lv [.int (nI 0)] μ Q)
      exact jX.ret (by rfl) (by rfl) (by rfl) (by rfl) (sretv (f := srI) h K R)
    · refine jX.b1f hc (by rfl) (by rfl) (by rfl) (?_ : jX G jP 138 147 lv [] μ Q)
      refine jX.lin l2 (by rfl) (by rfl) (?_ : jX G jP 138 148 lv [.int v2] μ Q)
      refine jX.lrn l0 (by rfl) (by rfl) (?_ : jX G jP 138 149 lv [.ref (spl 33 0 0), .int v2] μ Q)
      refine jX.sg R (by rfl) (by rfl) (by rfl) (by rfl) (by rfl) (by rfl) (?_ : jX G jP 138 152 lv [.ref (spl 38 0 0), .int v2] μ Q)
      refine jX.lrn l0 (by rfl) (by rfl) (?_ : jX G jP 138 153 lv [.ref (spl 33 0 0), .ref (spl 38 0 0), .int v2] μ Q)
      refine jX.sg R (by rfl) (by rfl) (by rfl) (by rfl) (by rfl) (by rfl) (?_ : jX G jP 138 156 lv [.int (S.1 33 0 0 13), .ref (spl 38 0 0), .int v2] μ Q)
      refine jX.ic (v := nI 1) (n := 1) (by rfl) (by rfl) (by decide) (?_ : jX G jP 138 157 lv [.int (nI 1), .int (S.1 33 0 0 13), .ref (spl 38 0 0), .int v2] μ Q)
      refine jX.go (by rfl) (by rfl) (by rfl) (?_ : jX G jP 138 158 lv [.int ((S.1 33 0 0 13) - (nI 1)), .ref (spl 38 0 0), .int v2] μ Q)
      obtain ⟨g1, h⟩ := jif_some h
      refine jX.sai R (by rfl) (by rfl) (by rfl) (by rfl) g1 (?_ : jX G jP 138 159 lv [.int (S.1 38 0 0 ((S.1 33 0 0 13) - (nI 1)).toNatClampNeg), .int v2] μ Q)
      rcases bif_or h with ⟨hc, h⟩ | ⟨hc, h⟩
      · refine jX.b2t hc (by rfl) (by rfl) (by rfl) (?_ : jX G jP 138 166 lv [] μ Q)
        refine jX.ic (v := nI 0) (n := 1) (by rfl) (by rfl) (by decide) (?_ : jX G jP 138 167 lv [.int (nI 0)] μ Q)
        exact jX.ret (by rfl) (by rfl) (by rfl) (by rfl) (sretv (f := srI) h K R)
      · refine jX.b2f hc (by rfl) (by rfl) (by rfl) (?_ : jX G jP 138 162 lv [] μ Q)
        exact F_138_162_ok  K  _ _ _  R h
def F_138_168 (G : jG) (t : Nat) (v2 : Int32) (S : sS) : Option (Int32 × sS) := bif jcmp .lt v2 0 then (some ((nI 0), S)) else (bif jcmp .ge v2 (nI 16) then (some ((nI 0), S)) else (some ((nI 1), S)))
theorem F_138_168_ok {G : jG} {t : Nat} {r : Int32} {S' : sS} {Q : Option Value ⊕ Nat → jS → Prop} (K : ∀ μ', sR S' μ' → Q (srI r) μ') : ∀ (v2 : Int32) (S : sS) (lv : jL) (μ : jS), jld lv 2 = some (.int v2) → sR S μ → F_138_168 G t v2 S = some (r, S') → jX G jP 138 168 lv [] μ Q := by
  intro v2 S lv μ l2 R h
  unfold F_138_168 at h
  refine jX.lin l2 (by rfl) (by rfl) (?_ : jX G jP 138 169 lv [.int v2] μ Q)
  rcases bif_or h with ⟨hc, h⟩ | ⟨hc, h⟩
  · refine jX.b1t hc (by rfl) (by rfl) (by rfl) (?_ : jX G jP 138 182 lv [] μ Q)
    refine jX.ic (v := nI 0) (n := 1) (by rfl) (by rfl) (by decide) (?_ : jX G jP 138 183 lv [.int (nI 0)] μ Q)
    exact jX.ret (by rfl) (by rfl) (by rfl) (by rfl) (sretv (f := srI) h K R)
  · refine jX.b1f hc (by rfl) (by rfl) (by rfl) (?_ : jX G jP 138 172 lv [] μ Q)
    refine jX.lin l2 (by rfl) (by rfl) (?_ : jX G jP 138 173 lv [.int v2] μ Q)
    refine jX.ic (v := nI 16) (n := 2) (by rfl) (by rfl) (by decide) (?_ : jX G jP 138 175 lv [.int (nI 16), .int v2] μ Q)
    rcases bif_or h with ⟨hc, h⟩ | ⟨hc, h⟩
    · refine jX.b2t hc (by rfl) (by rfl) (by rfl) (?_ : jX G jP 138 182 lv [] μ Q)
      refine jX.ic (v := nI 0) (n := 1) (by rfl) (by rfl) (by decide) (?_ : jX G jP 138 183 lv [.int (nI 0)] μ Q)
      exact jX.ret (by rfl) (by rfl) (by rfl) (by rfl) (sretv (f := srI) h K R)
    · refine jX.b2f hc (by rfl) (by rfl) (by rfl) (?_ : jX G jP 138 178 lv [] μ Q)
      refine jX.ic (v := nI 1) (n := 1) (by rfl) (by rfl) (by decide) (?_ : jX G jP 138 179 lv [.int (nI 1)] μ Q)
      refine jX.go (by rfl) (by rfl) (by rfl) (?_ : jX G jP 138 183 lv [.int (nI 1)] μ Q)
      exact jX.ret (by rfl) (by rfl) (by rfl) (by rfl) (sretv (f := srI) h K R)
def F_138_200 (G : jG) (t : Nat) (v2 : Int32) (S : sS) : Option (Int32 × sS) := bif jcmp .lt v2 0 then (some ((nI 0), S)) else (bif jcmp .gt v2 (nI 15) then (some ((nI 0), S)) else (some ((nI 1), S)))
theorem F_138_200_ok {G : jG} {t : Nat} {r : Int32} {S' : sS} {Q : Option Value ⊕ Nat → jS → Prop} (K : ∀ μ', sR S' μ' → Q (srI r) μ') : ∀ (v2 : Int32) (S : sS) (lv : jL) (μ : jS), jld lv 2 = some (.int v2) → sR S μ → F_138_200 G t v2 S = some (r, S') → jX G jP 138 200 lv [] μ Q := by
  intro v2 S lv μ l2 R h
  unfold F_138_200 at h
  refine jX.lin l2 (by rfl) (by rfl) (?_ : jX G jP 138 201 lv [.int v2] μ Q)
  rcases bif_or h with ⟨hc, h⟩ | ⟨hc, h⟩
  · refine jX.b1t hc (by rfl) (by rfl) (by rfl) (?_ : jX G jP 138 214 lv [] μ Q)
    refine jX.ic (v := nI 0) (n := 1) (by rfl) (by rfl) (by decide) (?_ : jX G jP 138 215 lv [.int (nI 0)] μ Q)
    exact jX.ret (by rfl) (by rfl) (by rfl) (by rfl) (sretv (f := srI) h K R)
  · refine jX.b1f hc (by rfl) (by rfl) (by rfl) (?_ : jX G jP 138 204 lv [] μ Q)
    refine jX.lin l2 (by rfl) (by rfl) (?_ : jX G jP 138 205 lv [.int v2] μ Q)
    refine jX.ic (v := nI 15) (n := 2) (by rfl) (by rfl) (by decide) (?_ : jX G jP 138 207 lv [.int (nI 15), .int v2] μ Q)
    rcases bif_or h with ⟨hc, h⟩ | ⟨hc, h⟩
    · refine jX.b2t hc (by rfl) (by rfl) (by rfl) (?_ : jX G jP 138 214 lv [] μ Q)
      refine jX.ic (v := nI 0) (n := 1) (by rfl) (by rfl) (by decide) (?_ : jX G jP 138 215 lv [.int (nI 0)] μ Q)
      exact jX.ret (by rfl) (by rfl) (by rfl) (by rfl) (sretv (f := srI) h K R)
    · refine jX.b2f hc (by rfl) (by rfl) (by rfl) (?_ : jX G jP 138 210 lv [] μ Q)
      refine jX.ic (v := nI 1) (n := 1) (by rfl) (by rfl) (by decide) (?_ : jX G jP 138 211 lv [.int (nI 1)] μ Q)
      refine jX.go (by rfl) (by rfl) (by rfl) (?_ : jX G jP 138 215 lv [.int (nI 1)] μ Q)
      exact jX.ret (by rfl) (by rfl) (by rfl) (by rfl) (sretv (f := srI) h K R)
def F_138_254 (G : jG) (t : Nat) (S : sS) : Option (Int32 × sS) := some ((nI 1), S)
theorem F_138_254_ok {G : jG} {t : Nat} {r : Int32} {S' : sS} {Q : Option Value ⊕ Nat → jS → Prop} (K : ∀ μ', sR S' μ' → Q (srI r) μ') : ∀ (S : sS) (lv : jL) (μ : jS), sR S μ → F_138_254 G t S = some (r, S') → jX G jP 138 254 lv [] μ Q := by
  intro S lv μ R h
  unfold F_138_254 at h
  refine jX.ic (v := nI 1) (n := 1) (by rfl) (by rfl) (by decide) (?_ : jX G jP 138 255 lv [.int (nI 1)] μ Q)
  refine jX.go (by rfl) (by rfl) (by rfl) (?_ : jX G jP 138 259 lv [.int (nI 1)] μ Q)
  exact jX.ret (by rfl) (by rfl) (by rfl) (by rfl) (sretv (f := srI) h K R)
def F_138_242 (G : jG) (t : Nat) (v2 : Int32) (S : sS) : Option (Int32 × sS) := bif jcmp .lt v2 (nI 9) then (some ((nI 0), S)) else (bif jcmp .gt v2 (nI 12) then (some ((nI 0), S)) else (F_138_254 G t S))
theorem F_138_242_ok {G : jG} {t : Nat} {r : Int32} {S' : sS} {Q : Option Value ⊕ Nat → jS → Prop} (K : ∀ μ', sR S' μ' → Q (srI r) μ') : ∀ (v2 : Int32) (S : sS) (lv : jL) (μ : jS), jld lv 2 = some (.int v2) → sR S μ → F_138_242 G t v2 S = some (r, S') → jX G jP 138 242 lv [] μ Q := by
  intro v2 S lv μ l2 R h
  unfold F_138_242 at h
  refine jX.lin l2 (by rfl) (by rfl) (?_ : jX G jP 138 243 lv [.int v2] μ Q)
  refine jX.ic (v := nI 9) (n := 2) (by rfl) (by rfl) (by decide) (?_ : jX G jP 138 245 lv [.int (nI 9), .int v2] μ Q)
  rcases bif_or h with ⟨hc, h⟩ | ⟨hc, h⟩
  · refine jX.b2t hc (by rfl) (by rfl) (by rfl) (?_ : jX G jP 138 258 lv [] μ Q)
    refine jX.ic (v := nI 0) (n := 1) (by rfl) (by rfl) (by decide) (?_ : jX G jP 138 259 lv [.int (nI 0)] μ Q)
    exact jX.ret (by rfl) (by rfl) (by rfl) (by rfl) (sretv (f := srI) h K R)
  · refine jX.b2f hc (by rfl) (by rfl) (by rfl) (?_ : jX G jP 138 248 lv [] μ Q)
    refine jX.lin l2 (by rfl) (by rfl) (?_ : jX G jP 138 249 lv [.int v2] μ Q)
    refine jX.ic (v := nI 12) (n := 2) (by rfl) (by rfl) (by decide) (?_ : jX G jP 138 251 lv [.int (nI 12), .int v2] μ Q)
    rcases bif_or h with ⟨hc, h⟩ | ⟨hc, h⟩
    · refine jX.b2t hc (by rfl) (by rfl) (by rfl) (?_ : jX G jP 138 258 lv [] μ Q)
      refine jX.ic (v := nI 0) (n := 1) (by rfl) (by rfl) (by decide) (?_ : jX G jP 138 259 lv [.int (nI 0)] μ Q)
      exact jX.ret (by rfl) (by rfl) (by rfl) (by rfl) (sretv (f := srI) h K R)
    · refine jX.b2f hc (by rfl) (by rfl) (by rfl) (?_ : jX G jP 138 254 lv [] μ Q)
      exact F_138_254_ok  K  _ _ _  R h
def F_138_260 (G : jG) (t : Nat) (v1 : Int32) (S : sS) : Option (Int32 × sS) := bif jcmp .lt v1 0 then (some ((nI 0), S)) else (bif jcmp .gt v1 (nI 36) then (some ((nI 0), S)) else (some ((nI 1), S)))
theorem F_138_260_ok {G : jG} {t : Nat} {r : Int32} {S' : sS} {Q : Option Value ⊕ Nat → jS → Prop} (K : ∀ μ', sR S' μ' → Q (srI r) μ') : ∀ (v1 : Int32) (S : sS) (lv : jL) (μ : jS), jld lv 1 = some (.int v1) → sR S μ → F_138_260 G t v1 S = some (r, S') → jX G jP 138 260 lv [] μ Q := by
  intro v1 S lv μ l1 R h
  unfold F_138_260 at h
  refine jX.lin l1 (by rfl) (by rfl) (?_ : jX G jP 138 261 lv [.int v1] μ Q)
  rcases bif_or h with ⟨hc, h⟩ | ⟨hc, h⟩
  · refine jX.b1t hc (by rfl) (by rfl) (by rfl) (?_ : jX G jP 138 274 lv [] μ Q)
    refine jX.ic (v := nI 0) (n := 1) (by rfl) (by rfl) (by decide) (?_ : jX G jP 138 275 lv [.int (nI 0)] μ Q)
    exact jX.ret (by rfl) (by rfl) (by rfl) (by rfl) (sretv (f := srI) h K R)
  · refine jX.b1f hc (by rfl) (by rfl) (by rfl) (?_ : jX G jP 138 264 lv [] μ Q)
    refine jX.lin l1 (by rfl) (by rfl) (?_ : jX G jP 138 265 lv [.int v1] μ Q)
    refine jX.ic (v := nI 36) (n := 2) (by rfl) (by rfl) (by decide) (?_ : jX G jP 138 267 lv [.int (nI 36), .int v1] μ Q)
    rcases bif_or h with ⟨hc, h⟩ | ⟨hc, h⟩
    · refine jX.b2t hc (by rfl) (by rfl) (by rfl) (?_ : jX G jP 138 274 lv [] μ Q)
      refine jX.ic (v := nI 0) (n := 1) (by rfl) (by rfl) (by decide) (?_ : jX G jP 138 275 lv [.int (nI 0)] μ Q)
      exact jX.ret (by rfl) (by rfl) (by rfl) (by rfl) (sretv (f := srI) h K R)
    · refine jX.b2f hc (by rfl) (by rfl) (by rfl) (?_ : jX G jP 138 270 lv [] μ Q)
      refine jX.ic (v := nI 1) (n := 1) (by rfl) (by rfl) (by decide) (?_ : jX G jP 138 271 lv [.int (nI 1)] μ Q)
      refine jX.go (by rfl) (by rfl) (by rfl) (?_ : jX G jP 138 275 lv [.int (nI 1)] μ Q)
      exact jX.ret (by rfl) (by rfl) (by rfl) (by rfl) (sretv (f := srI) h K R)
def F_138 (G : jG) (t : Nat) (v1 : Int32) (v2 : Int32) (S : sS) : Option (Int32 × sS) := bif decide (v1.toInt < 2 ∨ 31 < v1.toInt) then (F_138_260 G t v1 S) else (bif decide (v1 = nI 2) then (F_138_136 G t v2 S) else (bif decide (v1 = nI 3) then (F_138_136 G t v2 S) else (bif decide (v1 = nI 4) then (F_138_168 G t v2 S) else (bif decide (v1 = nI 5) then (F_138_168 G t v2 S) else (bif decide (v1 = nI 6) then (F_138_260 G t v1 S) else (bif decide (v1 = nI 7) then (F_138_260 G t v1 S) else (bif decide (v1 = nI 8) then (F_138_260 G t v1 S) else (bif decide (v1 = nI 9) then (F_138_260 G t v1 S) else (bif decide (v1 = nI 10) then (F_138_260 G t v1 S) else (bif decide (v1 = nI 11) then (F_138_260 G t v1 S) else (bif decide (v1 = nI 12) then (F_138_260 G t v1 S) else (bif decide (v1 = nI 13) then (F_138_260 G t v1 S) else (bif decide (v1 = nI 14) then (F_138_260 G t v1 S) else (bif decide (v1 = nI 15) then (F_138_260 G t v1 S) else (bif decide (v1 = nI 16) then (F_138_260 G t v1 S) else (bif decide (v1 = nI 17) then (F_138_260 G t v1 S) else (bif decide (v1 = nI 18) then (F_138_260 G t v1 S) else (bif decide (v1 = nI 19) then (F_138_260 G t v1 S) else (bif decide (v1 = nI 20) then (F_138_260 G t v1 S) else (bif decide (v1 = nI 21) then (bif jcmp .lt v2 0 then (some ((nI 0), S)) else (bif jcmp .gt v2 (nI 16) then (some ((nI 0), S)) else (some ((nI 1), S)))) else (bif decide (v1 = nI 22) then (F_138_200 G t v2 S) else (bif decide (v1 = nI 23) then (F_138_200 G t v2 S) else (bif decide (v1 = nI 24) then (F_138_260 G t v1 S) else (bif decide (v1 = nI 25) then (F_138_260 G t v1 S) else (bif decide (v1 = nI 26) then (F_138_260 G t v1 S) else (bif decide (v1 = nI 27) then (bif jcmp .lt v2 0 then (some ((nI 0), S)) else (bif jcmp .gt v2 (nI 8) then (some ((nI 0), S)) else (some ((nI 1), S)))) else (bif decide (v1 = nI 28) then (F_138_260 G t v1 S) else (bif decide (v1 = nI 29) then (F_138_260 G t v1 S) else (bif decide (v1 = nI 30) then (F_138_260 G t v1 S) else (bif decide (v1 = nI 31) then (bif jcmp .lt v2 (nI 1) then (F_138_242 G t v2 S) else (bif jcmp .le v2 (nI 4) then (F_138_254 G t S) else (F_138_242 G t v2 S))) else (none)))))))))))))))))))))))))))))))
theorem F_138_ok {G : jG} {t : Nat} {v1 : Int32} {v2 : Int32} {S : sS} {r : Int32} {S' : sS} {μ : jS} {Q : Option Value ⊕ Nat → jS → Prop} (R : sR S μ) (h : F_138 G t v1 v2 S = some (r, S')) (K : ∀ μ', sR S' μ' → Q (srI r) μ') : jX G jP 138 0 (lv_args 0 [.ref (spl 33 0 0), .int v1, .int v2]) [] μ Q := by
  unfold F_138 at h
  have l0 : jld (lv_args 0 [.ref (spl 33 0 0), .int v1, .int v2]) 0 = some (.ref (spl 33 0 0)) := by rfl
  have l1 : jld (lv_args 0 [.ref (spl 33 0 0), .int v1, .int v2]) 1 = some (.int v1) := by rfl
  have l2 : jld (lv_args 0 [.ref (spl 33 0 0), .int v1, .int v2]) 2 = some (.int v2) := by rfl
  generalize lv_args 0 [.ref (spl 33 0 0), .int v1, .int v2] = lv at *
  refine jX.lin l1 (by rfl) (by rfl) (?_ : jX G jP 138 1 lv [.int v1] μ Q)
  rcases bif_or h with ⟨hc, h⟩ | ⟨-, h⟩
  · refine jX.swd hc (by rfl) (by rfl) (by rfl) (?_ : jX G jP 138 260 lv [] μ Q)
    exact F_138_260_ok  K v1 _ _ _ l1 R h
  rcases bif_or h with ⟨hc, h⟩ | ⟨-, h⟩
  · refine jX.swn hc (by rfl) (by rfl) (by rfl) (?_ : jX G jP 138 136 lv [] μ Q)
    exact F_138_136_ok  K v2 _ _ _ l0 l2 R h
  rcases bif_or h with ⟨hc, h⟩ | ⟨-, h⟩
  · refine jX.swn hc (by rfl) (by rfl) (by rfl) (?_ : jX G jP 138 136 lv [] μ Q)
    exact F_138_136_ok  K v2 _ _ _ l0 l2 R h
  rcases bif_or h with ⟨hc, h⟩ | ⟨-, h⟩
  · refine jX.swn hc (by rfl) (by rfl) (by rfl) (?_ : jX G jP 138 168 lv [] μ Q)
    exact F_138_168_ok  K v2 _ _ _ l2 R h
  rcases bif_or h with ⟨hc, h⟩ | ⟨-, h⟩
  · refine jX.swn hc (by rfl) (by rfl) (by rfl) (?_ : jX G jP 138 168 lv [] μ Q)
    exact F_138_168_ok  K v2 _ _ _ l2 R h
  rcases bif_or h with ⟨hc, h⟩ | ⟨-, h⟩
  · refine jX.swn hc (by rfl) (by rfl) (by rfl) (?_ : jX G jP 138 260 lv [] μ Q)
    exact F_138_260_ok  K v1 _ _ _ l1 R h
  rcases bif_or h with ⟨hc, h⟩ | ⟨-, h⟩
  · refine jX.swn hc (by rfl) (by rfl) (by rfl) (?_ : jX G jP 138 260 lv [] μ Q)
    exact F_138_260_ok  K v1 _ _ _ l1 R h
  rcases bif_or h with ⟨hc, h⟩ | ⟨-, h⟩
  · refine jX.swn hc (by rfl) (by rfl) (by rfl) (?_ : jX G jP 138 260 lv [] μ Q)
    exact F_138_260_ok  K v1 _ _ _ l1 R h
  rcases bif_or h with ⟨hc, h⟩ | ⟨-, h⟩
  · refine jX.swn hc (by rfl) (by rfl) (by rfl) (?_ : jX G jP 138 260 lv [] μ Q)
    exact F_138_260_ok  K v1 _ _ _ l1 R h
  rcases bif_or h with ⟨hc, h⟩ | ⟨-, h⟩
  · refine jX.swn hc (by rfl) (by rfl) (by rfl) (?_ : jX G jP 138 260 lv [] μ Q)
    exact F_138_260_ok  K v1 _ _ _ l1 R h
  rcases bif_or h with ⟨hc, h⟩ | ⟨-, h⟩
  · refine jX.swn hc (by rfl) (by rfl) (by rfl) (?_ : jX G jP 138 260 lv [] μ Q)
    exact F_138_260_ok  K v1 _ _ _ l1 R h
  rcases bif_or h with ⟨hc, h⟩ | ⟨-, h⟩
  · refine jX.swn hc (by rfl) (by rfl) (by rfl) (?_ : jX G jP 138 260 lv [] μ Q)
    exact F_138_260_ok  K v1 _ _ _ l1 R h
  rcases bif_or h with ⟨hc, h⟩ | ⟨-, h⟩
  · refine jX.swn hc (by rfl) (by rfl) (by rfl) (?_ : jX G jP 138 260 lv [] μ Q)
    exact F_138_260_ok  K v1 _ _ _ l1 R h
  rcases bif_or h with ⟨hc, h⟩ | ⟨-, h⟩
  · refine jX.swn hc (by rfl) (by rfl) (by rfl) (?_ : jX G jP 138 260 lv [] μ Q)
    exact F_138_260_ok  K v1 _ _ _ l1 R h
  rcases bif_or h with ⟨hc, h⟩ | ⟨-, h⟩
  · refine jX.swn hc (by rfl) (by rfl) (by rfl) (?_ : jX G jP 138 260 lv [] μ Q)
    exact F_138_260_ok  K v1 _ _ _ l1 R h
  rcases bif_or h with ⟨hc, h⟩ | ⟨-, h⟩
  · refine jX.swn hc (by rfl) (by rfl) (by rfl) (?_ : jX G jP 138 260 lv [] μ Q)
    exact F_138_260_ok  K v1 _ _ _ l1 R h
  rcases bif_or h with ⟨hc, h⟩ | ⟨-, h⟩
  · refine jX.swn hc (by rfl) (by rfl) (by rfl) (?_ : jX G jP 138 260 lv [] μ Q)
    exact F_138_260_ok  K v1 _ _ _ l1 R h
  rcases bif_or h with ⟨hc, h⟩ | ⟨-, h⟩
  · refine jX.swn hc (by rfl) (by rfl) (by rfl) (?_ : jX G jP 138 260 lv [] μ Q)
    exact F_138_260_ok  K v1 _ _ _ l1 R h
  rcases bif_or h with ⟨hc, h⟩ | ⟨-, h⟩
  · refine jX.swn hc (by rfl) (by rfl) (by rfl) (?_ : jX G jP 138 260 lv [] μ Q)
    exact F_138_260_ok  K v1 _ _ _ l1 R h
  rcases bif_or h with ⟨hc, h⟩ | ⟨-, h⟩
  · refine jX.swn hc (by rfl) (by rfl) (by rfl) (?_ : jX G jP 138 260 lv [] μ Q)
    exact F_138_260_ok  K v1 _ _ _ l1 R h
  rcases bif_or h with ⟨hc, h⟩ | ⟨-, h⟩
  · refine jX.swn hc (by rfl) (by rfl) (by rfl) (?_ : jX G jP 138 184 lv [] μ Q)
    refine jX.lin l2 (by rfl) (by rfl) (?_ : jX G jP 138 185 lv [.int v2] μ Q)
    rcases bif_or h with ⟨hc, h⟩ | ⟨hc, h⟩
    · refine jX.b1t hc (by rfl) (by rfl) (by rfl) (?_ : jX G jP 138 198 lv [] μ Q)
      refine jX.ic (v := nI 0) (n := 1) (by rfl) (by rfl) (by decide) (?_ : jX G jP 138 199 lv [.int (nI 0)] μ Q)
      exact jX.ret (by rfl) (by rfl) (by rfl) (by rfl) (sretv (f := srI) h K R)
    · refine jX.b1f hc (by rfl) (by rfl) (by rfl) (?_ : jX G jP 138 188 lv [] μ Q)
      refine jX.lin l2 (by rfl) (by rfl) (?_ : jX G jP 138 189 lv [.int v2] μ Q)
      refine jX.ic (v := nI 16) (n := 2) (by rfl) (by rfl) (by decide) (?_ : jX G jP 138 191 lv [.int (nI 16), .int v2] μ Q)
      rcases bif_or h with ⟨hc, h⟩ | ⟨hc, h⟩
      · refine jX.b2t hc (by rfl) (by rfl) (by rfl) (?_ : jX G jP 138 198 lv [] μ Q)
        refine jX.ic (v := nI 0) (n := 1) (by rfl) (by rfl) (by decide) (?_ : jX G jP 138 199 lv [.int (nI 0)] μ Q)
        exact jX.ret (by rfl) (by rfl) (by rfl) (by rfl) (sretv (f := srI) h K R)
      · refine jX.b2f hc (by rfl) (by rfl) (by rfl) (?_ : jX G jP 138 194 lv [] μ Q)
        refine jX.ic (v := nI 1) (n := 1) (by rfl) (by rfl) (by decide) (?_ : jX G jP 138 195 lv [.int (nI 1)] μ Q)
        refine jX.go (by rfl) (by rfl) (by rfl) (?_ : jX G jP 138 199 lv [.int (nI 1)] μ Q)
        exact jX.ret (by rfl) (by rfl) (by rfl) (by rfl) (sretv (f := srI) h K R)
  rcases bif_or h with ⟨hc, h⟩ | ⟨-, h⟩
  · refine jX.swn hc (by rfl) (by rfl) (by rfl) (?_ : jX G jP 138 200 lv [] μ Q)
    exact F_138_200_ok  K v2 _ _ _ l2 R h
  rcases bif_or h with ⟨hc, h⟩ | ⟨-, h⟩
  · refine jX.swn hc (by rfl) (by rfl) (by rfl) (?_ : jX G jP 138 200 lv [] μ Q)
    exact F_138_200_ok  K v2 _ _ _ l2 R h
  rcases bif_or h with ⟨hc, h⟩ | ⟨-, h⟩
  · refine jX.swn hc (by rfl) (by rfl) (by rfl) (?_ : jX G jP 138 260 lv [] μ Q)
    exact F_138_260_ok  K v1 _ _ _ l1 R h
  rcases bif_or h with ⟨hc, h⟩ | ⟨-, h⟩
  · refine jX.swn hc (by rfl) (by rfl) (by rfl) (?_ : jX G jP 138 260 lv [] μ Q)
    exact F_138_260_ok  K v1 _ _ _ l1 R h
  rcases bif_or h with ⟨hc, h⟩ | ⟨-, h⟩
  · refine jX.swn hc (by rfl) (by rfl) (by rfl) (?_ : jX G jP 138 260 lv [] μ Q)
    exact F_138_260_ok  K v1 _ _ _ l1 R h
  rcases bif_or h with ⟨hc, h⟩ | ⟨-, h⟩
  · refine jX.swn hc (by rfl) (by rfl) (by rfl) (?_ : jX G jP 138 216 lv [] μ Q)
    refine jX.lin l2 (by rfl) (by rfl) (?_ : jX G jP 138 217 lv [.int v2] μ Q)
    rcases bif_or h with ⟨hc, h⟩ | ⟨hc, h⟩
    · refine jX.b1t hc (by rfl) (by rfl) (by rfl) (?_ : jX G jP 138 230 lv [] μ Q)
      refine jX.ic (v := nI 0) (n := 1) (by rfl) (by rfl) (by decide) (?_ : jX G jP 138 231 lv [.int (nI 0)] μ Q)
      exact jX.ret (by rfl) (by rfl) (by rfl) (by rfl) (sretv (f := srI) h K R)
    · refine jX.b1f hc (by rfl) (by rfl) (by rfl) (?_ : jX G jP 138 220 lv [] μ Q)
      refine jX.lin l2 (by rfl) (by rfl) (?_ : jX G jP 138 221 lv [.int v2] μ Q)
      refine jX.ic (v := nI 8) (n := 2) (by rfl) (by rfl) (by decide) (?_ : jX G jP 138 223 lv [.int (nI 8), .int v2] μ Q)
      rcases bif_or h with ⟨hc, h⟩ | ⟨hc, h⟩
      · refine jX.b2t hc (by rfl) (by rfl) (by rfl) (?_ : jX G jP 138 230 lv [] μ Q)
        refine jX.ic (v := nI 0) (n := 1) (by rfl) (by rfl) (by decide) (?_ : jX G jP 138 231 lv [.int (nI 0)] μ Q)
        exact jX.ret (by rfl) (by rfl) (by rfl) (by rfl) (sretv (f := srI) h K R)
      · refine jX.b2f hc (by rfl) (by rfl) (by rfl) (?_ : jX G jP 138 226 lv [] μ Q)
        refine jX.ic (v := nI 1) (n := 1) (by rfl) (by rfl) (by decide) (?_ : jX G jP 138 227 lv [.int (nI 1)] μ Q)
        refine jX.go (by rfl) (by rfl) (by rfl) (?_ : jX G jP 138 231 lv [.int (nI 1)] μ Q)
        exact jX.ret (by rfl) (by rfl) (by rfl) (by rfl) (sretv (f := srI) h K R)
  rcases bif_or h with ⟨hc, h⟩ | ⟨-, h⟩
  · refine jX.swn hc (by rfl) (by rfl) (by rfl) (?_ : jX G jP 138 260 lv [] μ Q)
    exact F_138_260_ok  K v1 _ _ _ l1 R h
  rcases bif_or h with ⟨hc, h⟩ | ⟨-, h⟩
  · refine jX.swn hc (by rfl) (by rfl) (by rfl) (?_ : jX G jP 138 260 lv [] μ Q)
    exact F_138_260_ok  K v1 _ _ _ l1 R h
  rcases bif_or h with ⟨hc, h⟩ | ⟨-, h⟩
  · refine jX.swn hc (by rfl) (by rfl) (by rfl) (?_ : jX G jP 138 260 lv [] μ Q)
    exact F_138_260_ok  K v1 _ _ _ l1 R h
  rcases bif_or h with ⟨hc, h⟩ | ⟨-, h⟩
  · refine jX.swn hc (by rfl) (by rfl) (by rfl) (?_ : jX G jP 138 232 lv [] μ Q)
    refine jX.lin l2 (by rfl) (by rfl) (?_ : jX G jP 138 233 lv [.int v2] μ Q)
    refine jX.ic (v := nI 1) (n := 1) (by rfl) (by rfl) (by decide) (?_ : jX G jP 138 234 lv [.int (nI 1), .int v2] μ Q)
    rcases bif_or h with ⟨hc, h⟩ | ⟨hc, h⟩
    · refine jX.b2t hc (by rfl) (by rfl) (by rfl) (?_ : jX G jP 138 242 lv [] μ Q)
      exact F_138_242_ok  K v2 _ _ _ l2 R h
    · refine jX.b2f hc (by rfl) (by rfl) (by rfl) (?_ : jX G jP 138 237 lv [] μ Q)
      refine jX.lin l2 (by rfl) (by rfl) (?_ : jX G jP 138 238 lv [.int v2] μ Q)
      refine jX.ic (v := nI 4) (n := 1) (by rfl) (by rfl) (by decide) (?_ : jX G jP 138 239 lv [.int (nI 4), .int v2] μ Q)
      rcases bif_or h with ⟨hc, h⟩ | ⟨hc, h⟩
      · refine jX.b2t hc (by rfl) (by rfl) (by rfl) (?_ : jX G jP 138 254 lv [] μ Q)
        exact F_138_254_ok  K  _ _ _  R h
      · refine jX.b2f hc (by rfl) (by rfl) (by rfl) (?_ : jX G jP 138 242 lv [] μ Q)
        exact F_138_242_ok  K v2 _ _ _ l2 R h
  cases h
/-! 139 StrandRuntimeModel.code(II)I -/
def F_139_57 (G : jG) (t : Nat) (v1 : Int32) (v2 : Int32) (w0 : Int32) (S : sS) : Option (Int32 × sS) := bif jcmp .le ((siI S 33 0 0 25 w0).1 33 0 0 25) 0 then (jif (jin ((siI S 33 0 0 25 w0).1 33 0 0 14) 1500) (jif (jin ((siI (siI S 33 0 0 25 w0) 41 0 0 ((siI S 33 0 0 25 w0).1 33 0 0 14).toNatClampNeg v1).1 33 0 0 14) 1500) (jif (jin (((siI (siI (siI (siI S 33 0 0 25 w0) 41 0 0 ((siI S 33 0 0 25 w0).1 33 0 0 14).toNatClampNeg v1) 42 0 0 ((siI (siI S 33 0 0 25 w0) 41 0 0 ((siI S 33 0 0 25 w0).1 33 0 0 14).toNatClampNeg v1).1 33 0 0 14).toNatClampNeg v2) 33 0 0 14 (((siI (siI (siI S 33 0 0 25 w0) 41 0 0 ((siI S 33 0 0 25 w0).1 33 0 0 14).toNatClampNeg v1) 42 0 0 ((siI (siI S 33 0 0 25 w0) 41 0 0 ((siI S 33 0 0 25 w0).1 33 0 0 14).toNatClampNeg v1).1 33 0 0 14).toNatClampNeg v2).1 33 0 0 14) + (nI 1))).1 33 0 0 13) - (nI 1)) 32) (jif (jin (((siI (siI (siI (siI S 33 0 0 25 w0) 41 0 0 ((siI S 33 0 0 25 w0).1 33 0 0 14).toNatClampNeg v1) 42 0 0 ((siI (siI S 33 0 0 25 w0) 41 0 0 ((siI S 33 0 0 25 w0).1 33 0 0 14).toNatClampNeg v1).1 33 0 0 14).toNatClampNeg v2) 33 0 0 14 (((siI (siI (siI S 33 0 0 25 w0) 41 0 0 ((siI S 33 0 0 25 w0).1 33 0 0 14).toNatClampNeg v1) 42 0 0 ((siI (siI S 33 0 0 25 w0) 41 0 0 ((siI S 33 0 0 25 w0).1 33 0 0 14).toNatClampNeg v1).1 33 0 0 14).toNatClampNeg v2).1 33 0 0 14) + (nI 1))).1 33 0 0 13) - (nI 1)) 32) (jif (jin (((siI (siI (siI (siI (siI S 33 0 0 25 w0) 41 0 0 ((siI S 33 0 0 25 w0).1 33 0 0 14).toNatClampNeg v1) 42 0 0 ((siI (siI S 33 0 0 25 w0) 41 0 0 ((siI S 33 0 0 25 w0).1 33 0 0 14).toNatClampNeg v1).1 33 0 0 14).toNatClampNeg v2) 33 0 0 14 (((siI (siI (siI S 33 0 0 25 w0) 41 0 0 ((siI S 33 0 0 25 w0).1 33 0 0 14).toNatClampNeg v1) 42 0 0 ((siI (siI S 33 0 0 25 w0) 41 0 0 ((siI S 33 0 0 25 w0).1 33 0 0 14).toNatClampNeg v1).1 33 0 0 14).toNatClampNeg v2).1 33 0 0 14) + (nI 1))) 40 0 0 (((siI (siI (siI (siI S 33 0 0 25 w0) 41 0 0 ((siI S 33 0 0 25 w0).1 33 0 0 14).toNatClampNeg v1) 42 0 0 ((siI (siI S 33 0 0 25 w0) 41 0 0 ((siI S 33 0 0 25 w0).1 33 0 0 14).toNatClampNeg v1).1 33 0 0 14).toNatClampNeg v2) 33 0 0 14 (((siI (siI (siI S 33 0 0 25 w0) 41 0 0 ((siI S 33 0 0 25 w0).1 33 0 0 14).toNatClampNeg v1) 42 0 0 ((siI (siI S 33 0 0 25 w0) 41 0 0 ((siI S 33 0 0 25 w0).1 33 0 0 14).toNatClampNeg v1).1 33 0 0 14).toNatClampNeg v2).1 33 0 0 14) + (nI 1))).1 33 0 0 13) - (nI 1)).toNatClampNeg (((siI (siI (siI (siI S 33 0 0 25 w0) 41 0 0 ((siI S 33 0 0 25 w0).1 33 0 0 14).toNatClampNeg v1) 42 0 0 ((siI (siI S 33 0 0 25 w0) 41 0 0 ((siI S 33 0 0 25 w0).1 33 0 0 14).toNatClampNeg v1).1 33 0 0 14).toNatClampNeg v2) 33 0 0 14 (((siI (siI (siI S 33 0 0 25 w0) 41 0 0 ((siI S 33 0 0 25 w0).1 33 0 0 14).toNatClampNeg v1) 42 0 0 ((siI (siI S 33 0 0 25 w0) 41 0 0 ((siI S 33 0 0 25 w0).1 33 0 0 14).toNatClampNeg v1).1 33 0 0 14).toNatClampNeg v2).1 33 0 0 14) + (nI 1))).1 40 0 0 (((siI (siI (siI (siI S 33 0 0 25 w0) 41 0 0 ((siI S 33 0 0 25 w0).1 33 0 0 14).toNatClampNeg v1) 42 0 0 ((siI (siI S 33 0 0 25 w0) 41 0 0 ((siI S 33 0 0 25 w0).1 33 0 0 14).toNatClampNeg v1).1 33 0 0 14).toNatClampNeg v2) 33 0 0 14 (((siI (siI (siI S 33 0 0 25 w0) 41 0 0 ((siI S 33 0 0 25 w0).1 33 0 0 14).toNatClampNeg v1) 42 0 0 ((siI (siI S 33 0 0 25 w0) 41 0 0 ((siI S 33 0 0 25 w0).1 33 0 0 14).toNatClampNeg v1).1 33 0 0 14).toNatClampNeg v2).1 33 0 0 14) + (nI 1))).1 33 0 0 13) - (nI 1)).toNatClampNeg) + (nI 1))).1 33 0 0 13) - (nI 1)) 32) (some ((((siI (siI (siI (siI (siI S 33 0 0 25 w0) 41 0 0 ((siI S 33 0 0 25 w0).1 33 0 0 14).toNatClampNeg v1) 42 0 0 ((siI (siI S 33 0 0 25 w0) 41 0 0 ((siI S 33 0 0 25 w0).1 33 0 0 14).toNatClampNeg v1).1 33 0 0 14).toNatClampNeg v2) 33 0 0 14 (((siI (siI (siI S 33 0 0 25 w0) 41 0 0 ((siI S 33 0 0 25 w0).1 33 0 0 14).toNatClampNeg v1) 42 0 0 ((siI (siI S 33 0 0 25 w0) 41 0 0 ((siI S 33 0 0 25 w0).1 33 0 0 14).toNatClampNeg v1).1 33 0 0 14).toNatClampNeg v2).1 33 0 0 14) + (nI 1))) 40 0 0 (((siI (siI (siI (siI S 33 0 0 25 w0) 41 0 0 ((siI S 33 0 0 25 w0).1 33 0 0 14).toNatClampNeg v1) 42 0 0 ((siI (siI S 33 0 0 25 w0) 41 0 0 ((siI S 33 0 0 25 w0).1 33 0 0 14).toNatClampNeg v1).1 33 0 0 14).toNatClampNeg v2) 33 0 0 14 (((siI (siI (siI S 33 0 0 25 w0) 41 0 0 ((siI S 33 0 0 25 w0).1 33 0 0 14).toNatClampNeg v1) 42 0 0 ((siI (siI S 33 0 0 25 w0) 41 0 0 ((siI S 33 0 0 25 w0).1 33 0 0 14).toNatClampNeg v1).1 33 0 0 14).toNatClampNeg v2).1 33 0 0 14) + (nI 1))).1 33 0 0 13) - (nI 1)).toNatClampNeg (((siI (siI (siI (siI S 33 0 0 25 w0) 41 0 0 ((siI S 33 0 0 25 w0).1 33 0 0 14).toNatClampNeg v1) 42 0 0 ((siI (siI S 33 0 0 25 w0) 41 0 0 ((siI S 33 0 0 25 w0).1 33 0 0 14).toNatClampNeg v1).1 33 0 0 14).toNatClampNeg v2) 33 0 0 14 (((siI (siI (siI S 33 0 0 25 w0) 41 0 0 ((siI S 33 0 0 25 w0).1 33 0 0 14).toNatClampNeg v1) 42 0 0 ((siI (siI S 33 0 0 25 w0) 41 0 0 ((siI S 33 0 0 25 w0).1 33 0 0 14).toNatClampNeg v1).1 33 0 0 14).toNatClampNeg v2).1 33 0 0 14) + (nI 1))).1 40 0 0 (((siI (siI (siI (siI S 33 0 0 25 w0) 41 0 0 ((siI S 33 0 0 25 w0).1 33 0 0 14).toNatClampNeg v1) 42 0 0 ((siI (siI S 33 0 0 25 w0) 41 0 0 ((siI S 33 0 0 25 w0).1 33 0 0 14).toNatClampNeg v1).1 33 0 0 14).toNatClampNeg v2) 33 0 0 14 (((siI (siI (siI S 33 0 0 25 w0) 41 0 0 ((siI S 33 0 0 25 w0).1 33 0 0 14).toNatClampNeg v1) 42 0 0 ((siI (siI S 33 0 0 25 w0) 41 0 0 ((siI S 33 0 0 25 w0).1 33 0 0 14).toNatClampNeg v1).1 33 0 0 14).toNatClampNeg v2).1 33 0 0 14) + (nI 1))).1 33 0 0 13) - (nI 1)).toNatClampNeg) + (nI 1))).1 40 0 0 (((siI (siI (siI (siI (siI S 33 0 0 25 w0) 41 0 0 ((siI S 33 0 0 25 w0).1 33 0 0 14).toNatClampNeg v1) 42 0 0 ((siI (siI S 33 0 0 25 w0) 41 0 0 ((siI S 33 0 0 25 w0).1 33 0 0 14).toNatClampNeg v1).1 33 0 0 14).toNatClampNeg v2) 33 0 0 14 (((siI (siI (siI S 33 0 0 25 w0) 41 0 0 ((siI S 33 0 0 25 w0).1 33 0 0 14).toNatClampNeg v1) 42 0 0 ((siI (siI S 33 0 0 25 w0) 41 0 0 ((siI S 33 0 0 25 w0).1 33 0 0 14).toNatClampNeg v1).1 33 0 0 14).toNatClampNeg v2).1 33 0 0 14) + (nI 1))) 40 0 0 (((siI (siI (siI (siI S 33 0 0 25 w0) 41 0 0 ((siI S 33 0 0 25 w0).1 33 0 0 14).toNatClampNeg v1) 42 0 0 ((siI (siI S 33 0 0 25 w0) 41 0 0 ((siI S 33 0 0 25 w0).1 33 0 0 14).toNatClampNeg v1).1 33 0 0 14).toNatClampNeg v2) 33 0 0 14 (((siI (siI (siI S 33 0 0 25 w0) 41 0 0 ((siI S 33 0 0 25 w0).1 33 0 0 14).toNatClampNeg v1) 42 0 0 ((siI (siI S 33 0 0 25 w0) 41 0 0 ((siI S 33 0 0 25 w0).1 33 0 0 14).toNatClampNeg v1).1 33 0 0 14).toNatClampNeg v2).1 33 0 0 14) + (nI 1))).1 33 0 0 13) - (nI 1)).toNatClampNeg (((siI (siI (siI (siI S 33 0 0 25 w0) 41 0 0 ((siI S 33 0 0 25 w0).1 33 0 0 14).toNatClampNeg v1) 42 0 0 ((siI (siI S 33 0 0 25 w0) 41 0 0 ((siI S 33 0 0 25 w0).1 33 0 0 14).toNatClampNeg v1).1 33 0 0 14).toNatClampNeg v2) 33 0 0 14 (((siI (siI (siI S 33 0 0 25 w0) 41 0 0 ((siI S 33 0 0 25 w0).1 33 0 0 14).toNatClampNeg v1) 42 0 0 ((siI (siI S 33 0 0 25 w0) 41 0 0 ((siI S 33 0 0 25 w0).1 33 0 0 14).toNatClampNeg v1).1 33 0 0 14).toNatClampNeg v2).1 33 0 0 14) + (nI 1))).1 40 0 0 (((siI (siI (siI (siI S 33 0 0 25 w0) 41 0 0 ((siI S 33 0 0 25 w0).1 33 0 0 14).toNatClampNeg v1) 42 0 0 ((siI (siI S 33 0 0 25 w0) 41 0 0 ((siI S 33 0 0 25 w0).1 33 0 0 14).toNatClampNeg v1).1 33 0 0 14).toNatClampNeg v2) 33 0 0 14 (((siI (siI (siI S 33 0 0 25 w0) 41 0 0 ((siI S 33 0 0 25 w0).1 33 0 0 14).toNatClampNeg v1) 42 0 0 ((siI (siI S 33 0 0 25 w0) 41 0 0 ((siI S 33 0 0 25 w0).1 33 0 0 14).toNatClampNeg v1).1 33 0 0 14).toNatClampNeg v2).1 33 0 0 14) + (nI 1))).1 33 0 0 13) - (nI 1)).toNatClampNeg) + (nI 1))).1 33 0 0 13) - (nI 1)).toNatClampNeg) - (nI 1)), (siI (siI (siI (siI (siI S 33 0 0 25 w0) 41 0 0 ((siI S 33 0 0 25 w0).1 33 0 0 14).toNatClampNeg v1) 42 0 0 ((siI (siI S 33 0 0 25 w0) 41 0 0 ((siI S 33 0 0 25 w0).1 33 0 0 14).toNatClampNeg v1).1 33 0 0 14).toNatClampNeg v2) 33 0 0 14 (((siI (siI (siI S 33 0 0 25 w0) 41 0 0 ((siI S 33 0 0 25 w0).1 33 0 0 14).toNatClampNeg v1) 42 0 0 ((siI (siI S 33 0 0 25 w0) 41 0 0 ((siI S 33 0 0 25 w0).1 33 0 0 14).toNatClampNeg v1).1 33 0 0 14).toNatClampNeg v2).1 33 0 0 14) + (nI 1))) 40 0 0 (((siI (siI (siI (siI S 33 0 0 25 w0) 41 0 0 ((siI S 33 0 0 25 w0).1 33 0 0 14).toNatClampNeg v1) 42 0 0 ((siI (siI S 33 0 0 25 w0) 41 0 0 ((siI S 33 0 0 25 w0).1 33 0 0 14).toNatClampNeg v1).1 33 0 0 14).toNatClampNeg v2) 33 0 0 14 (((siI (siI (siI S 33 0 0 25 w0) 41 0 0 ((siI S 33 0 0 25 w0).1 33 0 0 14).toNatClampNeg v1) 42 0 0 ((siI (siI S 33 0 0 25 w0) 41 0 0 ((siI S 33 0 0 25 w0).1 33 0 0 14).toNatClampNeg v1).1 33 0 0 14).toNatClampNeg v2).1 33 0 0 14) + (nI 1))).1 33 0 0 13) - (nI 1)).toNatClampNeg (((siI (siI (siI (siI S 33 0 0 25 w0) 41 0 0 ((siI S 33 0 0 25 w0).1 33 0 0 14).toNatClampNeg v1) 42 0 0 ((siI (siI S 33 0 0 25 w0) 41 0 0 ((siI S 33 0 0 25 w0).1 33 0 0 14).toNatClampNeg v1).1 33 0 0 14).toNatClampNeg v2) 33 0 0 14 (((siI (siI (siI S 33 0 0 25 w0) 41 0 0 ((siI S 33 0 0 25 w0).1 33 0 0 14).toNatClampNeg v1) 42 0 0 ((siI (siI S 33 0 0 25 w0) 41 0 0 ((siI S 33 0 0 25 w0).1 33 0 0 14).toNatClampNeg v1).1 33 0 0 14).toNatClampNeg v2).1 33 0 0 14) + (nI 1))).1 40 0 0 (((siI (siI (siI (siI S 33 0 0 25 w0) 41 0 0 ((siI S 33 0 0 25 w0).1 33 0 0 14).toNatClampNeg v1) 42 0 0 ((siI (siI S 33 0 0 25 w0) 41 0 0 ((siI S 33 0 0 25 w0).1 33 0 0 14).toNatClampNeg v1).1 33 0 0 14).toNatClampNeg v2) 33 0 0 14 (((siI (siI (siI S 33 0 0 25 w0) 41 0 0 ((siI S 33 0 0 25 w0).1 33 0 0 14).toNatClampNeg v1) 42 0 0 ((siI (siI S 33 0 0 25 w0) 41 0 0 ((siI S 33 0 0 25 w0).1 33 0 0 14).toNatClampNeg v1).1 33 0 0 14).toNatClampNeg v2).1 33 0 0 14) + (nI 1))).1 33 0 0 13) - (nI 1)).toNatClampNeg) + (nI 1)))))))))) else (some ((nI 0), (siI S 33 0 0 25 w0)))
theorem F_139_57_ok {G : jG} {t : Nat} {r : Int32} {S' : sS} {Q : Option Value ⊕ Nat → jS → Prop} (K : ∀ μ', sR S' μ' → Q (srI r) μ') : ∀ (v1 : Int32) (v2 : Int32) (w0 : Int32) (S : sS) (lv : jL) (μ : jS), jld lv 0 = some (.ref (spl 33 0 0)) → jld lv 1 = some (.int v1) → jld lv 2 = some (.int v2) → sR S μ → F_139_57 G t v1 v2 w0 S = some (r, S') → jX G jP 139 57 lv [.int w0, .ref (spl 33 0 0)] μ Q := by
  intro v1 v2 w0 S lv μ l0 l1 l2 R h
  unfold F_139_57 at h
  refine jX.spI R (by rfl) (by rfl) (by rfl) (by rfl) (by rfl) (by rfl) (by rfl) (by rfl) (by rfl) (fun μ R => (?_ : jX G jP 139 60 lv [] μ Q))
  refine jX.lrn l0 (by rfl) (by rfl) (?_ : jX G jP 139 61 lv [.ref (spl 33 0 0)] μ Q)
  refine jX.sg R (by rfl) (by rfl) (by rfl) (by rfl) (by rfl) (by rfl) (?_ : jX G jP 139 64 lv [.int ((siI S 33 0 0 25 w0).1 33 0 0 25)] μ Q)
  rcases bif_or h with ⟨hc, h⟩ | ⟨hc, h⟩
  · refine jX.b1t hc (by rfl) (by rfl) (by rfl) (?_ : jX G jP 139 69 lv [] μ Q)
    refine jX.lrn l0 (by rfl) (by rfl) (?_ : jX G jP 139 70 lv [.ref (spl 33 0 0)] μ Q)
    refine jX.sg R (by rfl) (by rfl) (by rfl) (by rfl) (by rfl) (by rfl) (?_ : jX G jP 139 73 lv [.ref (spl 41 0 0)] μ Q)
    refine jX.lrn l0 (by rfl) (by rfl) (?_ : jX G jP 139 74 lv [.ref (spl 33 0 0), .ref (spl 41 0 0)] μ Q)
    refine jX.sg R (by rfl) (by rfl) (by rfl) (by rfl) (by rfl) (by rfl) (?_ : jX G jP 139 77 lv [.int ((siI S 33 0 0 25 w0).1 33 0 0 14), .ref (spl 41 0 0)] μ Q)
    refine jX.lin l1 (by rfl) (by rfl) (?_ : jX G jP 139 78 lv [.int v1, .int ((siI S 33 0 0 25 w0).1 33 0 0 14), .ref (spl 41 0 0)] μ Q)
    obtain ⟨g1, h⟩ := jif_some h
    refine jX.sti R (by rfl) (by rfl) (by rfl) (fun _ => by rfl) g1 (fun μ R => (?_ : jX G jP 139 79 lv [] μ Q))
    refine jX.lrn l0 (by rfl) (by rfl) (?_ : jX G jP 139 80 lv [.ref (spl 33 0 0)] μ Q)
    refine jX.sg R (by rfl) (by rfl) (by rfl) (by rfl) (by rfl) (by rfl) (?_ : jX G jP 139 83 lv [.ref (spl 42 0 0)] μ Q)
    refine jX.lrn l0 (by rfl) (by rfl) (?_ : jX G jP 139 84 lv [.ref (spl 33 0 0), .ref (spl 42 0 0)] μ Q)
    refine jX.sg R (by rfl) (by rfl) (by rfl) (by rfl) (by rfl) (by rfl) (?_ : jX G jP 139 87 lv [.int ((siI (siI S 33 0 0 25 w0) 41 0 0 ((siI S 33 0 0 25 w0).1 33 0 0 14).toNatClampNeg v1).1 33 0 0 14), .ref (spl 42 0 0)] μ Q)
    refine jX.lin l2 (by rfl) (by rfl) (?_ : jX G jP 139 88 lv [.int v2, .int ((siI (siI S 33 0 0 25 w0) 41 0 0 ((siI S 33 0 0 25 w0).1 33 0 0 14).toNatClampNeg v1).1 33 0 0 14), .ref (spl 42 0 0)] μ Q)
    obtain ⟨g2, h⟩ := jif_some h
    refine jX.sti R (by rfl) (by rfl) (by rfl) (fun _ => by rfl) g2 (fun μ R => (?_ : jX G jP 139 89 lv [] μ Q))
    refine jX.lrn l0 (by rfl) (by rfl) (?_ : jX G jP 139 90 lv [.ref (spl 33 0 0)] μ Q)
    refine jX.go (by rfl) (by rfl) (by rfl) (?_ : jX G jP 139 91 lv [.ref (spl 33 0 0), .ref (spl 33 0 0)] μ Q)
    refine jX.sg R (by rfl) (by rfl) (by rfl) (by rfl) (by rfl) (by rfl) (?_ : jX G jP 139 94 lv [.int ((siI (siI (siI S 33 0 0 25 w0) 41 0 0 ((siI S 33 0 0 25 w0).1 33 0 0 14).toNatClampNeg v1) 42 0 0 ((siI (siI S 33 0 0 25 w0) 41 0 0 ((siI S 33 0 0 25 w0).1 33 0 0 14).toNatClampNeg v1).1 33 0 0 14).toNatClampNeg v2).1 33 0 0 14), .ref (spl 33 0 0)] μ Q)
    refine jX.ic (v := nI 1) (n := 1) (by rfl) (by rfl) (by decide) (?_ : jX G jP 139 95 lv [.int (nI 1), .int ((siI (siI (siI S 33 0 0 25 w0) 41 0 0 ((siI S 33 0 0 25 w0).1 33 0 0 14).toNatClampNeg v1) 42 0 0 ((siI (siI S 33 0 0 25 w0) 41 0 0 ((siI S 33 0 0 25 w0).1 33 0 0 14).toNatClampNeg v1).1 33 0 0 14).toNatClampNeg v2).1 33 0 0 14), .ref (spl 33 0 0)] μ Q)
    refine jX.go (by rfl) (by rfl) (by rfl) (?_ : jX G jP 139 96 lv [.int (((siI (siI (siI S 33 0 0 25 w0) 41 0 0 ((siI S 33 0 0 25 w0).1 33 0 0 14).toNatClampNeg v1) 42 0 0 ((siI (siI S 33 0 0 25 w0) 41 0 0 ((siI S 33 0 0 25 w0).1 33 0 0 14).toNatClampNeg v1).1 33 0 0 14).toNatClampNeg v2).1 33 0 0 14) + (nI 1)), .ref (spl 33 0 0)] μ Q)
    refine jX.spI R (by rfl) (by rfl) (by rfl) (by rfl) (by rfl) (by rfl) (by rfl) (by rfl) (by rfl) (fun μ R => (?_ : jX G jP 139 99 lv [] μ Q))
    refine jX.lrn l0 (by rfl) (by rfl) (?_ : jX G jP 139 100 lv [.ref (spl 33 0 0)] μ Q)
    refine jX.sg R (by rfl) (by rfl) (by rfl) (by rfl) (by rfl) (by rfl) (?_ : jX G jP 139 103 lv [.ref (spl 40 0 0)] μ Q)
    refine jX.lrn l0 (by rfl) (by rfl) (?_ : jX G jP 139 104 lv [.ref (spl 33 0 0), .ref (spl 40 0 0)] μ Q)
    refine jX.sg R (by rfl) (by rfl) (by rfl) (by rfl) (by rfl) (by rfl) (?_ : jX G jP 139 107 lv [.int ((siI (siI (siI (siI S 33 0 0 25 w0) 41 0 0 ((siI S 33 0 0 25 w0).1 33 0 0 14).toNatClampNeg v1) 42 0 0 ((siI (siI S 33 0 0 25 w0) 41 0 0 ((siI S 33 0 0 25 w0).1 33 0 0 14).toNatClampNeg v1).1 33 0 0 14).toNatClampNeg v2) 33 0 0 14 (((siI (siI (siI S 33 0 0 25 w0) 41 0 0 ((siI S 33 0 0 25 w0).1 33 0 0 14).toNatClampNeg v1) 42 0 0 ((siI (siI S 33 0 0 25 w0) 41 0 0 ((siI S 33 0 0 25 w0).1 33 0 0 14).toNatClampNeg v1).1 33 0 0 14).toNatClampNeg v2).1 33 0 0 14) + (nI 1))).1 33 0 0 13), .ref (spl 40 0 0)] μ Q)
    refine jX.ic (v := nI 1) (n := 1) (by rfl) (by rfl) (by decide) (?_ : jX G jP 139 108 lv [.int (nI 1), .int ((siI (siI (siI (siI S 33 0 0 25 w0) 41 0 0 ((siI S 33 0 0 25 w0).1 33 0 0 14).toNatClampNeg v1) 42 0 0 ((siI (siI S 33 0 0 25 w0) 41 0 0 ((siI S 33 0 0 25 w0).1 33 0 0 14).toNatClampNeg v1).1 33 0 0 14).toNatClampNeg v2) 33 0 0 14 (((siI (siI (siI S 33 0 0 25 w0) 41 0 0 ((siI S 33 0 0 25 w0).1 33 0 0 14).toNatClampNeg v1) 42 0 0 ((siI (siI S 33 0 0 25 w0) 41 0 0 ((siI S 33 0 0 25 w0).1 33 0 0 14).toNatClampNeg v1).1 33 0 0 14).toNatClampNeg v2).1 33 0 0 14) + (nI 1))).1 33 0 0 13), .ref (spl 40 0 0)] μ Q)
    refine jX.go (by rfl) (by rfl) (by rfl) (?_ : jX G jP 139 109 lv [.int (((siI (siI (siI (siI S 33 0 0 25 w0) 41 0 0 ((siI S 33 0 0 25 w0).1 33 0 0 14).toNatClampNeg v1) 42 0 0 ((siI (siI S 33 0 0 25 w0) 41 0 0 ((siI S 33 0 0 25 w0).1 33 0 0 14).toNatClampNeg v1).1 33 0 0 14).toNatClampNeg v2) 33 0 0 14 (((siI (siI (siI S 33 0 0 25 w0) 41 0 0 ((siI S 33 0 0 25 w0).1 33 0 0 14).toNatClampNeg v1) 42 0 0 ((siI (siI S 33 0 0 25 w0) 41 0 0 ((siI S 33 0 0 25 w0).1 33 0 0 14).toNatClampNeg v1).1 33 0 0 14).toNatClampNeg v2).1 33 0 0 14) + (nI 1))).1 33 0 0 13) - (nI 1)), .ref (spl 40 0 0)] μ Q)
    refine jX.go (by rfl) (by rfl) (by rfl) (?_ : jX G jP 139 110 lv [.int (((siI (siI (siI (siI S 33 0 0 25 w0) 41 0 0 ((siI S 33 0 0 25 w0).1 33 0 0 14).toNatClampNeg v1) 42 0 0 ((siI (siI S 33 0 0 25 w0) 41 0 0 ((siI S 33 0 0 25 w0).1 33 0 0 14).toNatClampNeg v1).1 33 0 0 14).toNatClampNeg v2) 33 0 0 14 (((siI (siI (siI S 33 0 0 25 w0) 41 0 0 ((siI S 33 0 0 25 w0).1 33 0 0 14).toNatClampNeg v1) 42 0 0 ((siI (siI S 33 0 0 25 w0) 41 0 0 ((siI S 33 0 0 25 w0).1 33 0 0 14).toNatClampNeg v1).1 33 0 0 14).toNatClampNeg v2).1 33 0 0 14) + (nI 1))).1 33 0 0 13) - (nI 1)), .ref (spl 40 0 0), .int (((siI (siI (siI (siI S 33 0 0 25 w0) 41 0 0 ((siI S 33 0 0 25 w0).1 33 0 0 14).toNatClampNeg v1) 42 0 0 ((siI (siI S 33 0 0 25 w0) 41 0 0 ((siI S 33 0 0 25 w0).1 33 0 0 14).toNatClampNeg v1).1 33 0 0 14).toNatClampNeg v2) 33 0 0 14 (((siI (siI (siI S 33 0 0 25 w0) 41 0 0 ((siI S 33 0 0 25 w0).1 33 0 0 14).toNatClampNeg v1) 42 0 0 ((siI (siI S 33 0 0 25 w0) 41 0 0 ((siI S 33 0 0 25 w0).1 33 0 0 14).toNatClampNeg v1).1 33 0 0 14).toNatClampNeg v2).1 33 0 0 14) + (nI 1))).1 33 0 0 13) - (nI 1)), .ref (spl 40 0 0)] μ Q)
    obtain ⟨g3, h⟩ := jif_some h
    refine jX.sai R (by rfl) (by rfl) (by rfl) (by rfl) g3 (?_ : jX G jP 139 111 lv [.int ((siI (siI (siI (siI S 33 0 0 25 w0) 41 0 0 ((siI S 33 0 0 25 w0).1 33 0 0 14).toNatClampNeg v1) 42 0 0 ((siI (siI S 33 0 0 25 w0) 41 0 0 ((siI S 33 0 0 25 w0).1 33 0 0 14).toNatClampNeg v1).1 33 0 0 14).toNatClampNeg v2) 33 0 0 14 (((siI (siI (siI S 33 0 0 25 w0) 41 0 0 ((siI S 33 0 0 25 w0).1 33 0 0 14).toNatClampNeg v1) 42 0 0 ((siI (siI S 33 0 0 25 w0) 41 0 0 ((siI S 33 0 0 25 w0).1 33 0 0 14).toNatClampNeg v1).1 33 0 0 14).toNatClampNeg v2).1 33 0 0 14) + (nI 1))).1 40 0 0 (((siI (siI (siI (siI S 33 0 0 25 w0) 41 0 0 ((siI S 33 0 0 25 w0).1 33 0 0 14).toNatClampNeg v1) 42 0 0 ((siI (siI S 33 0 0 25 w0) 41 0 0 ((siI S 33 0 0 25 w0).1 33 0 0 14).toNatClampNeg v1).1 33 0 0 14).toNatClampNeg v2) 33 0 0 14 (((siI (siI (siI S 33 0 0 25 w0) 41 0 0 ((siI S 33 0 0 25 w0).1 33 0 0 14).toNatClampNeg v1) 42 0 0 ((siI (siI S 33 0 0 25 w0) 41 0 0 ((siI S 33 0 0 25 w0).1 33 0 0 14).toNatClampNeg v1).1 33 0 0 14).toNatClampNeg v2).1 33 0 0 14) + (nI 1))).1 33 0 0 13) - (nI 1)).toNatClampNeg), .int (((siI (siI (siI (siI S 33 0 0 25 w0) 41 0 0 ((siI S 33 0 0 25 w0).1 33 0 0 14).toNatClampNeg v1) 42 0 0 ((siI (siI S 33 0 0 25 w0) 41 0 0 ((siI S 33 0 0 25 w0).1 33 0 0 14).toNatClampNeg v1).1 33 0 0 14).toNatClampNeg v2) 33 0 0 14 (((siI (siI (siI S 33 0 0 25 w0) 41 0 0 ((siI S 33 0 0 25 w0).1 33 0 0 14).toNatClampNeg v1) 42 0 0 ((siI (siI S 33 0 0 25 w0) 41 0 0 ((siI S 33 0 0 25 w0).1 33 0 0 14).toNatClampNeg v1).1 33 0 0 14).toNatClampNeg v2).1 33 0 0 14) + (nI 1))).1 33 0 0 13) - (nI 1)), .ref (spl 40 0 0)] μ Q)
    refine jX.ic (v := nI 1) (n := 1) (by rfl) (by rfl) (by decide) (?_ : jX G jP 139 112 lv [.int (nI 1), .int ((siI (siI (siI (siI S 33 0 0 25 w0) 41 0 0 ((siI S 33 0 0 25 w0).1 33 0 0 14).toNatClampNeg v1) 42 0 0 ((siI (siI S 33 0 0 25 w0) 41 0 0 ((siI S 33 0 0 25 w0).1 33 0 0 14).toNatClampNeg v1).1 33 0 0 14).toNatClampNeg v2) 33 0 0 14 (((siI (siI (siI S 33 0 0 25 w0) 41 0 0 ((siI S 33 0 0 25 w0).1 33 0 0 14).toNatClampNeg v1) 42 0 0 ((siI (siI S 33 0 0 25 w0) 41 0 0 ((siI S 33 0 0 25 w0).1 33 0 0 14).toNatClampNeg v1).1 33 0 0 14).toNatClampNeg v2).1 33 0 0 14) + (nI 1))).1 40 0 0 (((siI (siI (siI (siI S 33 0 0 25 w0) 41 0 0 ((siI S 33 0 0 25 w0).1 33 0 0 14).toNatClampNeg v1) 42 0 0 ((siI (siI S 33 0 0 25 w0) 41 0 0 ((siI S 33 0 0 25 w0).1 33 0 0 14).toNatClampNeg v1).1 33 0 0 14).toNatClampNeg v2) 33 0 0 14 (((siI (siI (siI S 33 0 0 25 w0) 41 0 0 ((siI S 33 0 0 25 w0).1 33 0 0 14).toNatClampNeg v1) 42 0 0 ((siI (siI S 33 0 0 25 w0) 41 0 0 ((siI S 33 0 0 25 w0).1 33 0 0 14).toNatClampNeg v1).1 33 0 0 14).toNatClampNeg v2).1 33 0 0 14) + (nI 1))).1 33 0 0 13) - (nI 1)).toNatClampNeg), .int (((siI (siI (siI (siI S 33 0 0 25 w0) 41 0 0 ((siI S 33 0 0 25 w0).1 33 0 0 14).toNatClampNeg v1) 42 0 0 ((siI (siI S 33 0 0 25 w0) 41 0 0 ((siI S 33 0 0 25 w0).1 33 0 0 14).toNatClampNeg v1).1 33 0 0 14).toNatClampNeg v2) 33 0 0 14 (((siI (siI (siI S 33 0 0 25 w0) 41 0 0 ((siI S 33 0 0 25 w0).1 33 0 0 14).toNatClampNeg v1) 42 0 0 ((siI (siI S 33 0 0 25 w0) 41 0 0 ((siI S 33 0 0 25 w0).1 33 0 0 14).toNatClampNeg v1).1 33 0 0 14).toNatClampNeg v2).1 33 0 0 14) + (nI 1))).1 33 0 0 13) - (nI 1)), .ref (spl 40 0 0)] μ Q)
    refine jX.go (by rfl) (by rfl) (by rfl) (?_ : jX G jP 139 113 lv [.int (((siI (siI (siI (siI S 33 0 0 25 w0) 41 0 0 ((siI S 33 0 0 25 w0).1 33 0 0 14).toNatClampNeg v1) 42 0 0 ((siI (siI S 33 0 0 25 w0) 41 0 0 ((siI S 33 0 0 25 w0).1 33 0 0 14).toNatClampNeg v1).1 33 0 0 14).toNatClampNeg v2) 33 0 0 14 (((siI (siI (siI S 33 0 0 25 w0) 41 0 0 ((siI S 33 0 0 25 w0).1 33 0 0 14).toNatClampNeg v1) 42 0 0 ((siI (siI S 33 0 0 25 w0) 41 0 0 ((siI S 33 0 0 25 w0).1 33 0 0 14).toNatClampNeg v1).1 33 0 0 14).toNatClampNeg v2).1 33 0 0 14) + (nI 1))).1 40 0 0 (((siI (siI (siI (siI S 33 0 0 25 w0) 41 0 0 ((siI S 33 0 0 25 w0).1 33 0 0 14).toNatClampNeg v1) 42 0 0 ((siI (siI S 33 0 0 25 w0) 41 0 0 ((siI S 33 0 0 25 w0).1 33 0 0 14).toNatClampNeg v1).1 33 0 0 14).toNatClampNeg v2) 33 0 0 14 (((siI (siI (siI S 33 0 0 25 w0) 41 0 0 ((siI S 33 0 0 25 w0).1 33 0 0 14).toNatClampNeg v1) 42 0 0 ((siI (siI S 33 0 0 25 w0) 41 0 0 ((siI S 33 0 0 25 w0).1 33 0 0 14).toNatClampNeg v1).1 33 0 0 14).toNatClampNeg v2).1 33 0 0 14) + (nI 1))).1 33 0 0 13) - (nI 1)).toNatClampNeg) + (nI 1)), .int (((siI (siI (siI (siI S 33 0 0 25 w0) 41 0 0 ((siI S 33 0 0 25 w0).1 33 0 0 14).toNatClampNeg v1) 42 0 0 ((siI (siI S 33 0 0 25 w0) 41 0 0 ((siI S 33 0 0 25 w0).1 33 0 0 14).toNatClampNeg v1).1 33 0 0 14).toNatClampNeg v2) 33 0 0 14 (((siI (siI (siI S 33 0 0 25 w0) 41 0 0 ((siI S 33 0 0 25 w0).1 33 0 0 14).toNatClampNeg v1) 42 0 0 ((siI (siI S 33 0 0 25 w0) 41 0 0 ((siI S 33 0 0 25 w0).1 33 0 0 14).toNatClampNeg v1).1 33 0 0 14).toNatClampNeg v2).1 33 0 0 14) + (nI 1))).1 33 0 0 13) - (nI 1)), .ref (spl 40 0 0)] μ Q)
    obtain ⟨g4, h⟩ := jif_some h
    refine jX.sti R (by rfl) (by rfl) (by rfl) (fun _ => by rfl) g4 (fun μ R => (?_ : jX G jP 139 114 lv [] μ Q))
    refine jX.lrn l0 (by rfl) (by rfl) (?_ : jX G jP 139 115 lv [.ref (spl 33 0 0)] μ Q)
    refine jX.sg R (by rfl) (by rfl) (by rfl) (by rfl) (by rfl) (by rfl) (?_ : jX G jP 139 118 lv [.ref (spl 40 0 0)] μ Q)
    refine jX.lrn l0 (by rfl) (by rfl) (?_ : jX G jP 139 119 lv [.ref (spl 33 0 0), .ref (spl 40 0 0)] μ Q)
    refine jX.sg R (by rfl) (by rfl) (by rfl) (by rfl) (by rfl) (by rfl) (?_ : jX G jP 139 122 lv [.int ((siI (siI (siI (siI (siI S 33 0 0 25 w0) 41 0 0 ((siI S 33 0 0 25 w0).1 33 0 0 14).toNatClampNeg v1) 42 0 0 ((siI (siI S 33 0 0 25 w0) 41 0 0 ((siI S 33 0 0 25 w0).1 33 0 0 14).toNatClampNeg v1).1 33 0 0 14).toNatClampNeg v2) 33 0 0 14 (((siI (siI (siI S 33 0 0 25 w0) 41 0 0 ((siI S 33 0 0 25 w0).1 33 0 0 14).toNatClampNeg v1) 42 0 0 ((siI (siI S 33 0 0 25 w0) 41 0 0 ((siI S 33 0 0 25 w0).1 33 0 0 14).toNatClampNeg v1).1 33 0 0 14).toNatClampNeg v2).1 33 0 0 14) + (nI 1))) 40 0 0 (((siI (siI (siI (siI S 33 0 0 25 w0) 41 0 0 ((siI S 33 0 0 25 w0).1 33 0 0 14).toNatClampNeg v1) 42 0 0 ((siI (siI S 33 0 0 25 w0) 41 0 0 ((siI S 33 0 0 25 w0).1 33 0 0 14).toNatClampNeg v1).1 33 0 0 14).toNatClampNeg v2) 33 0 0 14 (((siI (siI (siI S 33 0 0 25 w0) 41 0 0 ((siI S 33 0 0 25 w0).1 33 0 0 14).toNatClampNeg v1) 42 0 0 ((siI (siI S 33 0 0 25 w0) 41 0 0 ((siI S 33 0 0 25 w0).1 33 0 0 14).toNatClampNeg v1).1 33 0 0 14).toNatClampNeg v2).1 33 0 0 14) + (nI 1))).1 33 0 0 13) - (nI 1)).toNatClampNeg (((siI (siI (siI (siI S 33 0 0 25 w0) 41 0 0 ((siI S 33 0 0 25 w0).1 33 0 0 14).toNatClampNeg v1) 42 0 0 ((siI (siI S 33 0 0 25 w0) 41 0 0 ((siI S 33 0 0 25 w0).1 33 0 0 14).toNatClampNeg v1).1 33 0 0 14).toNatClampNeg v2) 33 0 0 14 (((siI (siI (siI S 33 0 0 25 w0) 41 0 0 ((siI S 33 0 0 25 w0).1 33 0 0 14).toNatClampNeg v1) 42 0 0 ((siI (siI S 33 0 0 25 w0) 41 0 0 ((siI S 33 0 0 25 w0).1 33 0 0 14).toNatClampNeg v1).1 33 0 0 14).toNatClampNeg v2).1 33 0 0 14) + (nI 1))).1 40 0 0 (((siI (siI (siI (siI S 33 0 0 25 w0) 41 0 0 ((siI S 33 0 0 25 w0).1 33 0 0 14).toNatClampNeg v1) 42 0 0 ((siI (siI S 33 0 0 25 w0) 41 0 0 ((siI S 33 0 0 25 w0).1 33 0 0 14).toNatClampNeg v1).1 33 0 0 14).toNatClampNeg v2) 33 0 0 14 (((siI (siI (siI S 33 0 0 25 w0) 41 0 0 ((siI S 33 0 0 25 w0).1 33 0 0 14).toNatClampNeg v1) 42 0 0 ((siI (siI S 33 0 0 25 w0) 41 0 0 ((siI S 33 0 0 25 w0).1 33 0 0 14).toNatClampNeg v1).1 33 0 0 14).toNatClampNeg v2).1 33 0 0 14) + (nI 1))).1 33 0 0 13) - (nI 1)).toNatClampNeg) + (nI 1))).1 33 0 0 13), .ref (spl 40 0 0)] μ Q)
    refine jX.ic (v := nI 1) (n := 1) (by rfl) (by rfl) (by decide) (?_ : jX G jP 139 123 lv [.int (nI 1), .int ((siI (siI (siI (siI (siI S 33 0 0 25 w0) 41 0 0 ((siI S 33 0 0 25 w0).1 33 0 0 14).toNatClampNeg v1) 42 0 0 ((siI (siI S 33 0 0 25 w0) 41 0 0 ((siI S 33 0 0 25 w0).1 33 0 0 14).toNatClampNeg v1).1 33 0 0 14).toNatClampNeg v2) 33 0 0 14 (((siI (siI (siI S 33 0 0 25 w0) 41 0 0 ((siI S 33 0 0 25 w0).1 33 0 0 14).toNatClampNeg v1) 42 0 0 ((siI (siI S 33 0 0 25 w0) 41 0 0 ((siI S 33 0 0 25 w0).1 33 0 0 14).toNatClampNeg v1).1 33 0 0 14).toNatClampNeg v2).1 33 0 0 14) + (nI 1))) 40 0 0 (((siI (siI (siI (siI S 33 0 0 25 w0) 41 0 0 ((siI S 33 0 0 25 w0).1 33 0 0 14).toNatClampNeg v1) 42 0 0 ((siI (siI S 33 0 0 25 w0) 41 0 0 ((siI S 33 0 0 25 w0).1 33 0 0 14).toNatClampNeg v1).1 33 0 0 14).toNatClampNeg v2) 33 0 0 14 (((siI (siI (siI S 33 0 0 25 w0) 41 0 0 ((siI S 33 0 0 25 w0).1 33 0 0 14).toNatClampNeg v1) 42 0 0 ((siI (siI S 33 0 0 25 w0) 41 0 0 ((siI S 33 0 0 25 w0).1 33 0 0 14).toNatClampNeg v1).1 33 0 0 14).toNatClampNeg v2).1 33 0 0 14) + (nI 1))).1 33 0 0 13) - (nI 1)).toNatClampNeg (((siI (siI (siI (siI S 33 0 0 25 w0) 41 0 0 ((siI S 33 0 0 25 w0).1 33 0 0 14).toNatClampNeg v1) 42 0 0 ((siI (siI S 33 0 0 25 w0) 41 0 0 ((siI S 33 0 0 25 w0).1 33 0 0 14).toNatClampNeg v1).1 33 0 0 14).toNatClampNeg v2) 33 0 0 14 (((siI (siI (siI S 33 0 0 25 w0) 41 0 0 ((siI S 33 0 0 25 w0).1 33 0 0 14).toNatClampNeg v1) 42 0 0 ((siI (siI S 33 0 0 25 w0) 41 0 0 ((siI S 33 0 0 25 w0).1 33 0 0 14).toNatClampNeg v1).1 33 0 0 14).toNatClampNeg v2).1 33 0 0 14) + (nI 1))).1 40 0 0 (((siI (siI (siI (siI S 33 0 0 25 w0) 41 0 0 ((siI S 33 0 0 25 w0).1 33 0 0 14).toNatClampNeg v1) 42 0 0 ((siI (siI S 33 0 0 25 w0) 41 0 0 ((siI S 33 0 0 25 w0).1 33 0 0 14).toNatClampNeg v1).1 33 0 0 14).toNatClampNeg v2) 33 0 0 14 (((siI (siI (siI S 33 0 0 25 w0) 41 0 0 ((siI S 33 0 0 25 w0).1 33 0 0 14).toNatClampNeg v1) 42 0 0 ((siI (siI S 33 0 0 25 w0) 41 0 0 ((siI S 33 0 0 25 w0).1 33 0 0 14).toNatClampNeg v1).1 33 0 0 14).toNatClampNeg v2).1 33 0 0 14) + (nI 1))).1 33 0 0 13) - (nI 1)).toNatClampNeg) + (nI 1))).1 33 0 0 13), .ref (spl 40 0 0)] μ Q)
    refine jX.go (by rfl) (by rfl) (by rfl) (?_ : jX G jP 139 124 lv [.int (((siI (siI (siI (siI (siI S 33 0 0 25 w0) 41 0 0 ((siI S 33 0 0 25 w0).1 33 0 0 14).toNatClampNeg v1) 42 0 0 ((siI (siI S 33 0 0 25 w0) 41 0 0 ((siI S 33 0 0 25 w0).1 33 0 0 14).toNatClampNeg v1).1 33 0 0 14).toNatClampNeg v2) 33 0 0 14 (((siI (siI (siI S 33 0 0 25 w0) 41 0 0 ((siI S 33 0 0 25 w0).1 33 0 0 14).toNatClampNeg v1) 42 0 0 ((siI (siI S 33 0 0 25 w0) 41 0 0 ((siI S 33 0 0 25 w0).1 33 0 0 14).toNatClampNeg v1).1 33 0 0 14).toNatClampNeg v2).1 33 0 0 14) + (nI 1))) 40 0 0 (((siI (siI (siI (siI S 33 0 0 25 w0) 41 0 0 ((siI S 33 0 0 25 w0).1 33 0 0 14).toNatClampNeg v1) 42 0 0 ((siI (siI S 33 0 0 25 w0) 41 0 0 ((siI S 33 0 0 25 w0).1 33 0 0 14).toNatClampNeg v1).1 33 0 0 14).toNatClampNeg v2) 33 0 0 14 (((siI (siI (siI S 33 0 0 25 w0) 41 0 0 ((siI S 33 0 0 25 w0).1 33 0 0 14).toNatClampNeg v1) 42 0 0 ((siI (siI S 33 0 0 25 w0) 41 0 0 ((siI S 33 0 0 25 w0).1 33 0 0 14).toNatClampNeg v1).1 33 0 0 14).toNatClampNeg v2).1 33 0 0 14) + (nI 1))).1 33 0 0 13) - (nI 1)).toNatClampNeg (((siI (siI (siI (siI S 33 0 0 25 w0) 41 0 0 ((siI S 33 0 0 25 w0).1 33 0 0 14).toNatClampNeg v1) 42 0 0 ((siI (siI S 33 0 0 25 w0) 41 0 0 ((siI S 33 0 0 25 w0).1 33 0 0 14).toNatClampNeg v1).1 33 0 0 14).toNatClampNeg v2) 33 0 0 14 (((siI (siI (siI S 33 0 0 25 w0) 41 0 0 ((siI S 33 0 0 25 w0).1 33 0 0 14).toNatClampNeg v1) 42 0 0 ((siI (siI S 33 0 0 25 w0) 41 0 0 ((siI S 33 0 0 25 w0).1 33 0 0 14).toNatClampNeg v1).1 33 0 0 14).toNatClampNeg v2).1 33 0 0 14) + (nI 1))).1 40 0 0 (((siI (siI (siI (siI S 33 0 0 25 w0) 41 0 0 ((siI S 33 0 0 25 w0).1 33 0 0 14).toNatClampNeg v1) 42 0 0 ((siI (siI S 33 0 0 25 w0) 41 0 0 ((siI S 33 0 0 25 w0).1 33 0 0 14).toNatClampNeg v1).1 33 0 0 14).toNatClampNeg v2) 33 0 0 14 (((siI (siI (siI S 33 0 0 25 w0) 41 0 0 ((siI S 33 0 0 25 w0).1 33 0 0 14).toNatClampNeg v1) 42 0 0 ((siI (siI S 33 0 0 25 w0) 41 0 0 ((siI S 33 0 0 25 w0).1 33 0 0 14).toNatClampNeg v1).1 33 0 0 14).toNatClampNeg v2).1 33 0 0 14) + (nI 1))).1 33 0 0 13) - (nI 1)).toNatClampNeg) + (nI 1))).1 33 0 0 13) - (nI 1)), .ref (spl 40 0 0)] μ Q)
    obtain ⟨g5, h⟩ := jif_some h
    refine jX.sai R (by rfl) (by rfl) (by rfl) (by rfl) g5 (?_ : jX G jP 139 125 lv [.int ((siI (siI (siI (siI (siI S 33 0 0 25 w0) 41 0 0 ((siI S 33 0 0 25 w0).1 33 0 0 14).toNatClampNeg v1) 42 0 0 ((siI (siI S 33 0 0 25 w0) 41 0 0 ((siI S 33 0 0 25 w0).1 33 0 0 14).toNatClampNeg v1).1 33 0 0 14).toNatClampNeg v2) 33 0 0 14 (((siI (siI (siI S 33 0 0 25 w0) 41 0 0 ((siI S 33 0 0 25 w0).1 33 0 0 14).toNatClampNeg v1) 42 0 0 ((siI (siI S 33 0 0 25 w0) 41 0 0 ((siI S 33 0 0 25 w0).1 33 0 0 14).toNatClampNeg v1).1 33 0 0 14).toNatClampNeg v2).1 33 0 0 14) + (nI 1))) 40 0 0 (((siI (siI (siI (siI S 33 0 0 25 w0) 41 0 0 ((siI S 33 0 0 25 w0).1 33 0 0 14).toNatClampNeg v1) 42 0 0 ((siI (siI S 33 0 0 25 w0) 41 0 0 ((siI S 33 0 0 25 w0).1 33 0 0 14).toNatClampNeg v1).1 33 0 0 14).toNatClampNeg v2) 33 0 0 14 (((siI (siI (siI S 33 0 0 25 w0) 41 0 0 ((siI S 33 0 0 25 w0).1 33 0 0 14).toNatClampNeg v1) 42 0 0 ((siI (siI S 33 0 0 25 w0) 41 0 0 ((siI S 33 0 0 25 w0).1 33 0 0 14).toNatClampNeg v1).1 33 0 0 14).toNatClampNeg v2).1 33 0 0 14) + (nI 1))).1 33 0 0 13) - (nI 1)).toNatClampNeg (((siI (siI (siI (siI S 33 0 0 25 w0) 41 0 0 ((siI S 33 0 0 25 w0).1 33 0 0 14).toNatClampNeg v1) 42 0 0 ((siI (siI S 33 0 0 25 w0) 41 0 0 ((siI S 33 0 0 25 w0).1 33 0 0 14).toNatClampNeg v1).1 33 0 0 14).toNatClampNeg v2) 33 0 0 14 (((siI (siI (siI S 33 0 0 25 w0) 41 0 0 ((siI S 33 0 0 25 w0).1 33 0 0 14).toNatClampNeg v1) 42 0 0 ((siI (siI S 33 0 0 25 w0) 41 0 0 ((siI S 33 0 0 25 w0).1 33 0 0 14).toNatClampNeg v1).1 33 0 0 14).toNatClampNeg v2).1 33 0 0 14) + (nI 1))).1 40 0 0 (((siI (siI (siI (siI S 33 0 0 25 w0) 41 0 0 ((siI S 33 0 0 25 w0).1 33 0 0 14).toNatClampNeg v1) 42 0 0 ((siI (siI S 33 0 0 25 w0) 41 0 0 ((siI S 33 0 0 25 w0).1 33 0 0 14).toNatClampNeg v1).1 33 0 0 14).toNatClampNeg v2) 33 0 0 14 (((siI (siI (siI S 33 0 0 25 w0) 41 0 0 ((siI S 33 0 0 25 w0).1 33 0 0 14).toNatClampNeg v1) 42 0 0 ((siI (siI S 33 0 0 25 w0) 41 0 0 ((siI S 33 0 0 25 w0).1 33 0 0 14).toNatClampNeg v1).1 33 0 0 14).toNatClampNeg v2).1 33 0 0 14) + (nI 1))).1 33 0 0 13) - (nI 1)).toNatClampNeg) + (nI 1))).1 40 0 0 (((siI (siI (siI (siI (siI S 33 0 0 25 w0) 41 0 0 ((siI S 33 0 0 25 w0).1 33 0 0 14).toNatClampNeg v1) 42 0 0 ((siI (siI S 33 0 0 25 w0) 41 0 0 ((siI S 33 0 0 25 w0).1 33 0 0 14).toNatClampNeg v1).1 33 0 0 14).toNatClampNeg v2) 33 0 0 14 (((siI (siI (siI S 33 0 0 25 w0) 41 0 0 ((siI S 33 0 0 25 w0).1 33 0 0 14).toNatClampNeg v1) 42 0 0 ((siI (siI S 33 0 0 25 w0) 41 0 0 ((siI S 33 0 0 25 w0).1 33 0 0 14).toNatClampNeg v1).1 33 0 0 14).toNatClampNeg v2).1 33 0 0 14) + (nI 1))) 40 0 0 (((siI (siI (siI (siI S 33 0 0 25 w0) 41 0 0 ((siI S 33 0 0 25 w0).1 33 0 0 14).toNatClampNeg v1) 42 0 0 ((siI (siI S 33 0 0 25 w0) 41 0 0 ((siI S 33 0 0 25 w0).1 33 0 0 14).toNatClampNeg v1).1 33 0 0 14).toNatClampNeg v2) 33 0 0 14 (((siI (siI (siI S 33 0 0 25 w0) 41 0 0 ((siI S 33 0 0 25 w0).1 33 0 0 14).toNatClampNeg v1) 42 0 0 ((siI (siI S 33 0 0 25 w0) 41 0 0 ((siI S 33 0 0 25 w0).1 33 0 0 14).toNatClampNeg v1).1 33 0 0 14).toNatClampNeg v2).1 33 0 0 14) + (nI 1))).1 33 0 0 13) - (nI 1)).toNatClampNeg (((siI (siI (siI (siI S 33 0 0 25 w0) 41 0 0 ((siI S 33 0 0 25 w0).1 33 0 0 14).toNatClampNeg v1) 42 0 0 ((siI (siI S 33 0 0 25 w0) 41 0 0 ((siI S 33 0 0 25 w0).1 33 0 0 14).toNatClampNeg v1).1 33 0 0 14).toNatClampNeg v2) 33 0 0 14 (((siI (siI (siI S 33 0 0 25 w0) 41 0 0 ((siI S 33 0 0 25 w0).1 33 0 0 14).toNatClampNeg v1) 42 0 0 ((siI (siI S 33 0 0 25 w0) 41 0 0 ((siI S 33 0 0 25 w0).1 33 0 0 14).toNatClampNeg v1).1 33 0 0 14).toNatClampNeg v2).1 33 0 0 14) + (nI 1))).1 40 0 0 (((siI (siI (siI (siI S 33 0 0 25 w0) 41 0 0 ((siI S 33 0 0 25 w0).1 33 0 0 14).toNatClampNeg v1) 42 0 0 ((siI (siI S 33 0 0 25 w0) 41 0 0 ((siI S 33 0 0 25 w0).1 33 0 0 14).toNatClampNeg v1).1 33 0 0 14).toNatClampNeg v2) 33 0 0 14 (((siI (siI (siI S 33 0 0 25 w0) 41 0 0 ((siI S 33 0 0 25 w0).1 33 0 0 14).toNatClampNeg v1) 42 0 0 ((siI (siI S 33 0 0 25 w0) 41 0 0 ((siI S 33 0 0 25 w0).1 33 0 0 14).toNatClampNeg v1).1 33 0 0 14).toNatClampNeg v2).1 33 0 0 14) + (nI 1))).1 33 0 0 13) - (nI 1)).toNatClampNeg) + (nI 1))).1 33 0 0 13) - (nI 1)).toNatClampNeg)] μ Q)
    refine jX.ic (v := nI 1) (n := 1) (by rfl) (by rfl) (by decide) (?_ : jX G jP 139 126 lv [.int (nI 1), .int ((siI (siI (siI (siI (siI S 33 0 0 25 w0) 41 0 0 ((siI S 33 0 0 25 w0).1 33 0 0 14).toNatClampNeg v1) 42 0 0 ((siI (siI S 33 0 0 25 w0) 41 0 0 ((siI S 33 0 0 25 w0).1 33 0 0 14).toNatClampNeg v1).1 33 0 0 14).toNatClampNeg v2) 33 0 0 14 (((siI (siI (siI S 33 0 0 25 w0) 41 0 0 ((siI S 33 0 0 25 w0).1 33 0 0 14).toNatClampNeg v1) 42 0 0 ((siI (siI S 33 0 0 25 w0) 41 0 0 ((siI S 33 0 0 25 w0).1 33 0 0 14).toNatClampNeg v1).1 33 0 0 14).toNatClampNeg v2).1 33 0 0 14) + (nI 1))) 40 0 0 (((siI (siI (siI (siI S 33 0 0 25 w0) 41 0 0 ((siI S 33 0 0 25 w0).1 33 0 0 14).toNatClampNeg v1) 42 0 0 ((siI (siI S 33 0 0 25 w0) 41 0 0 ((siI S 33 0 0 25 w0).1 33 0 0 14).toNatClampNeg v1).1 33 0 0 14).toNatClampNeg v2) 33 0 0 14 (((siI (siI (siI S 33 0 0 25 w0) 41 0 0 ((siI S 33 0 0 25 w0).1 33 0 0 14).toNatClampNeg v1) 42 0 0 ((siI (siI S 33 0 0 25 w0) 41 0 0 ((siI S 33 0 0 25 w0).1 33 0 0 14).toNatClampNeg v1).1 33 0 0 14).toNatClampNeg v2).1 33 0 0 14) + (nI 1))).1 33 0 0 13) - (nI 1)).toNatClampNeg (((siI (siI (siI (siI S 33 0 0 25 w0) 41 0 0 ((siI S 33 0 0 25 w0).1 33 0 0 14).toNatClampNeg v1) 42 0 0 ((siI (siI S 33 0 0 25 w0) 41 0 0 ((siI S 33 0 0 25 w0).1 33 0 0 14).toNatClampNeg v1).1 33 0 0 14).toNatClampNeg v2) 33 0 0 14 (((siI (siI (siI S 33 0 0 25 w0) 41 0 0 ((siI S 33 0 0 25 w0).1 33 0 0 14).toNatClampNeg v1) 42 0 0 ((siI (siI S 33 0 0 25 w0) 41 0 0 ((siI S 33 0 0 25 w0).1 33 0 0 14).toNatClampNeg v1).1 33 0 0 14).toNatClampNeg v2).1 33 0 0 14) + (nI 1))).1 40 0 0 (((siI (siI (siI (siI S 33 0 0 25 w0) 41 0 0 ((siI S 33 0 0 25 w0).1 33 0 0 14).toNatClampNeg v1) 42 0 0 ((siI (siI S 33 0 0 25 w0) 41 0 0 ((siI S 33 0 0 25 w0).1 33 0 0 14).toNatClampNeg v1).1 33 0 0 14).toNatClampNeg v2) 33 0 0 14 (((siI (siI (siI S 33 0 0 25 w0) 41 0 0 ((siI S 33 0 0 25 w0).1 33 0 0 14).toNatClampNeg v1) 42 0 0 ((siI (siI S 33 0 0 25 w0) 41 0 0 ((siI S 33 0 0 25 w0).1 33 0 0 14).toNatClampNeg v1).1 33 0 0 14).toNatClampNeg v2).1 33 0 0 14) + (nI 1))).1 33 0 0 13) - (nI 1)).toNatClampNeg) + (nI 1))).1 40 0 0 (((siI (siI (siI (siI (siI S 33 0 0 25 w0) 41 0 0 ((siI S 33 0 0 25 w0).1 33 0 0 14).toNatClampNeg v1) 42 0 0 ((siI (siI S 33 0 0 25 w0) 41 0 0 ((siI S 33 0 0 25 w0).1 33 0 0 14).toNatClampNeg v1).1 33 0 0 14).toNatClampNeg v2) 33 0 0 14 (((siI (siI (siI S 33 0 0 25 w0) 41 0 0 ((siI S 33 0 0 25 w0).1 33 0 0 14).toNatClampNeg v1) 42 0 0 ((siI (siI S 33 0 0 25 w0) 41 0 0 ((siI S 33 0 0 25 w0).1 33 0 0 14).toNatClampNeg v1).1 33 0 0 14).toNatClampNeg v2).1 33 0 0 14) + (nI 1))) 40 0 0 (((siI (siI (siI (siI S 33 0 0 25 w0) 41 0 0 ((siI S 33 0 0 25 w0).1 33 0 0 14).toNatClampNeg v1) 42 0 0 ((siI (siI S 33 0 0 25 w0) 41 0 0 ((siI S 33 0 0 25 w0).1 33 0 0 14).toNatClampNeg v1).1 33 0 0 14).toNatClampNeg v2) 33 0 0 14 (((siI (siI (siI S 33 0 0 25 w0) 41 0 0 ((siI S 33 0 0 25 w0).1 33 0 0 14).toNatClampNeg v1) 42 0 0 ((siI (siI S 33 0 0 25 w0) 41 0 0 ((siI S 33 0 0 25 w0).1 33 0 0 14).toNatClampNeg v1).1 33 0 0 14).toNatClampNeg v2).1 33 0 0 14) + (nI 1))).1 33 0 0 13) - (nI 1)).toNatClampNeg (((siI (siI (siI (siI S 33 0 0 25 w0) 41 0 0 ((siI S 33 0 0 25 w0).1 33 0 0 14).toNatClampNeg v1) 42 0 0 ((siI (siI S 33 0 0 25 w0) 41 0 0 ((siI S 33 0 0 25 w0).1 33 0 0 14).toNatClampNeg v1).1 33 0 0 14).toNatClampNeg v2) 33 0 0 14 (((siI (siI (siI S 33 0 0 25 w0) 41 0 0 ((siI S 33 0 0 25 w0).1 33 0 0 14).toNatClampNeg v1) 42 0 0 ((siI (siI S 33 0 0 25 w0) 41 0 0 ((siI S 33 0 0 25 w0).1 33 0 0 14).toNatClampNeg v1).1 33 0 0 14).toNatClampNeg v2).1 33 0 0 14) + (nI 1))).1 40 0 0 (((siI (siI (siI (siI S 33 0 0 25 w0) 41 0 0 ((siI S 33 0 0 25 w0).1 33 0 0 14).toNatClampNeg v1) 42 0 0 ((siI (siI S 33 0 0 25 w0) 41 0 0 ((siI S 33 0 0 25 w0).1 33 0 0 14).toNatClampNeg v1).1 33 0 0 14).toNatClampNeg v2) 33 0 0 14 (((siI (siI (siI S 33 0 0 25 w0) 41 0 0 ((siI S 33 0 0 25 w0).1 33 0 0 14).toNatClampNeg v1) 42 0 0 ((siI (siI S 33 0 0 25 w0) 41 0 0 ((siI S 33 0 0 25 w0).1 33 0 0 14).toNatClampNeg v1).1 33 0 0 14).toNatClampNeg v2).1 33 0 0 14) + (nI 1))).1 33 0 0 13) - (nI 1)).toNatClampNeg) + (nI 1))).1 33 0 0 13) - (nI 1)).toNatClampNeg)] μ Q)
    refine jX.go (by rfl) (by rfl) (by rfl) (?_ : jX G jP 139 127 lv [.int (((siI (siI (siI (siI (siI S 33 0 0 25 w0) 41 0 0 ((siI S 33 0 0 25 w0).1 33 0 0 14).toNatClampNeg v1) 42 0 0 ((siI (siI S 33 0 0 25 w0) 41 0 0 ((siI S 33 0 0 25 w0).1 33 0 0 14).toNatClampNeg v1).1 33 0 0 14).toNatClampNeg v2) 33 0 0 14 (((siI (siI (siI S 33 0 0 25 w0) 41 0 0 ((siI S 33 0 0 25 w0).1 33 0 0 14).toNatClampNeg v1) 42 0 0 ((siI (siI S 33 0 0 25 w0) 41 0 0 ((siI S 33 0 0 25 w0).1 33 0 0 14).toNatClampNeg v1).1 33 0 0 14).toNatClampNeg v2).1 33 0 0 14) + (nI 1))) 40 0 0 (((siI (siI (siI (siI S 33 0 0 25 w0) 41 0 0 ((siI S 33 0 0 25 w0).1 33 0 0 14).toNatClampNeg v1) 42 0 0 ((siI (siI S 33 0 0 25 w0) 41 0 0 ((siI S 33 0 0 25 w0).1 33 0 0 14).toNatClampNeg v1).1 33 0 0 14).toNatClampNeg v2) 33 0 0 14 (((siI (siI (siI S 33 0 0 25 w0) 41 0 0 ((siI S 33 0 0 25 w0).1 33 0 0 14).toNatClampNeg v1) 42 0 0 ((siI (siI S 33 0 0 25 w0) 41 0 0 ((siI S 33 0 0 25 w0).1 33 0 0 14).toNatClampNeg v1).1 33 0 0 14).toNatClampNeg v2).1 33 0 0 14) + (nI 1))).1 33 0 0 13) - (nI 1)).toNatClampNeg (((siI (siI (siI (siI S 33 0 0 25 w0) 41 0 0 ((siI S 33 0 0 25 w0).1 33 0 0 14).toNatClampNeg v1) 42 0 0 ((siI (siI S 33 0 0 25 w0) 41 0 0 ((siI S 33 0 0 25 w0).1 33 0 0 14).toNatClampNeg v1).1 33 0 0 14).toNatClampNeg v2) 33 0 0 14 (((siI (siI (siI S 33 0 0 25 w0) 41 0 0 ((siI S 33 0 0 25 w0).1 33 0 0 14).toNatClampNeg v1) 42 0 0 ((siI (siI S 33 0 0 25 w0) 41 0 0 ((siI S 33 0 0 25 w0).1 33 0 0 14).toNatClampNeg v1).1 33 0 0 14).toNatClampNeg v2).1 33 0 0 14) + (nI 1))).1 40 0 0 (((siI (siI (siI (siI S 33 0 0 25 w0) 41 0 0 ((siI S 33 0 0 25 w0).1 33 0 0 14).toNatClampNeg v1) 42 0 0 ((siI (siI S 33 0 0 25 w0) 41 0 0 ((siI S 33 0 0 25 w0).1 33 0 0 14).toNatClampNeg v1).1 33 0 0 14).toNatClampNeg v2) 33 0 0 14 (((siI (siI (siI S 33 0 0 25 w0) 41 0 0 ((siI S 33 0 0 25 w0).1 33 0 0 14).toNatClampNeg v1) 42 0 0 ((siI (siI S 33 0 0 25 w0) 41 0 0 ((siI S 33 0 0 25 w0).1 33 0 0 14).toNatClampNeg v1).1 33 0 0 14).toNatClampNeg v2).1 33 0 0 14) + (nI 1))).1 33 0 0 13) - (nI 1)).toNatClampNeg) + (nI 1))).1 40 0 0 (((siI (siI (siI (siI (siI S 33 0 0 25 w0) 41 0 0 ((siI S 33 0 0 25 w0).1 33 0 0 14).toNatClampNeg v1) 42 0 0 ((siI (siI S 33 0 0 25 w0) 41 0 0 ((siI S 33 0 0 25 w0).1 33 0 0 14).toNatClampNeg v1).1 33 0 0 14).toNatClampNeg v2) 33 0 0 14 (((siI (siI (siI S 33 0 0 25 w0) 41 0 0 ((siI S 33 0 0 25 w0).1 33 0 0 14).toNatClampNeg v1) 42 0 0 ((siI (siI S 33 0 0 25 w0) 41 0 0 ((siI S 33 0 0 25 w0).1 33 0 0 14).toNatClampNeg v1).1 33 0 0 14).toNatClampNeg v2).1 33 0 0 14) + (nI 1))) 40 0 0 (((siI (siI (siI (siI S 33 0 0 25 w0) 41 0 0 ((siI S 33 0 0 25 w0).1 33 0 0 14).toNatClampNeg v1) 42 0 0 ((siI (siI S 33 0 0 25 w0) 41 0 0 ((siI S 33 0 0 25 w0).1 33 0 0 14).toNatClampNeg v1).1 33 0 0 14).toNatClampNeg v2) 33 0 0 14 (((siI (siI (siI S 33 0 0 25 w0) 41 0 0 ((siI S 33 0 0 25 w0).1 33 0 0 14).toNatClampNeg v1) 42 0 0 ((siI (siI S 33 0 0 25 w0) 41 0 0 ((siI S 33 0 0 25 w0).1 33 0 0 14).toNatClampNeg v1).1 33 0 0 14).toNatClampNeg v2).1 33 0 0 14) + (nI 1))).1 33 0 0 13) - (nI 1)).toNatClampNeg (((siI (siI (siI (siI S 33 0 0 25 w0) 41 0 0 ((siI S 33 0 0 25 w0).1 33 0 0 14).toNatClampNeg v1) 42 0 0 ((siI (siI S 33 0 0 25 w0) 41 0 0 ((siI S 33 0 0 25 w0).1 33 0 0 14).toNatClampNeg v1).1 33 0 0 14).toNatClampNeg v2) 33 0 0 14 (((siI (siI (siI S 33 0 0 25 w0) 41 0 0 ((siI S 33 0 0 25 w0).1 33 0 0 14).toNatClampNeg v1) 42 0 0 ((siI (siI S 33 0 0 25 w0) 41 0 0 ((siI S 33 0 0 25 w0).1 33 0 0 14).toNatClampNeg v1).1 33 0 0 14).toNatClampNeg v2).1 33 0 0 14) + (nI 1))).1 40 0 0 (((siI (siI (siI (siI S 33 0 0 25 w0) 41 0 0 ((siI S 33 0 0 25 w0).1 33 0 0 14).toNatClampNeg v1) 42 0 0 ((siI (siI S 33 0 0 25 w0) 41 0 0 ((siI S 33 0 0 25 w0).1 33 0 0 14).toNatClampNeg v1).1 33 0 0 14).toNatClampNeg v2) 33 0 0 14 (((siI (siI (siI S 33 0 0 25 w0) 41 0 0 ((siI S 33 0 0 25 w0).1 33 0 0 14).toNatClampNeg v1) 42 0 0 ((siI (siI S 33 0 0 25 w0) 41 0 0 ((siI S 33 0 0 25 w0).1 33 0 0 14).toNatClampNeg v1).1 33 0 0 14).toNatClampNeg v2).1 33 0 0 14) + (nI 1))).1 33 0 0 13) - (nI 1)).toNatClampNeg) + (nI 1))).1 33 0 0 13) - (nI 1)).toNatClampNeg) - (nI 1))] μ Q)
    exact jX.ret (by rfl) (by rfl) (by rfl) (by rfl) (sretv (f := srI) h K R)
  · refine jX.b1f hc (by rfl) (by rfl) (by rfl) (?_ : jX G jP 139 67 lv [] μ Q)
    refine jX.ic (v := nI 0) (n := 1) (by rfl) (by rfl) (by decide) (?_ : jX G jP 139 68 lv [.int (nI 0)] μ Q)
    exact jX.ret (by rfl) (by rfl) (by rfl) (by rfl) (sretv (f := srI) h K R)
def F_139_11 (G : jG) (t : Nat) (v1 : Int32) (v2 : Int32) (S : sS) : Option (Int32 × sS) := F_139_57 G t v1 v2 (nI 1) S
theorem F_139_11_ok {G : jG} {t : Nat} {r : Int32} {S' : sS} {Q : Option Value ⊕ Nat → jS → Prop} (K : ∀ μ', sR S' μ' → Q (srI r) μ') : ∀ (v1 : Int32) (v2 : Int32) (S : sS) (lv : jL) (μ : jS), jld lv 0 = some (.ref (spl 33 0 0)) → jld lv 1 = some (.int v1) → jld lv 2 = some (.int v2) → sR S μ → F_139_11 G t v1 v2 S = some (r, S') → jX G jP 139 11 lv [.ref (spl 33 0 0)] μ Q := by
  intro v1 v2 S lv μ l0 l1 l2 R h
  unfold F_139_11 at h
  refine jX.ic (v := nI 1) (n := 1) (by rfl) (by rfl) (by decide) (?_ : jX G jP 139 12 lv [.int (nI 1), .ref (spl 33 0 0)] μ Q)
  refine jX.go (by rfl) (by rfl) (by rfl) (?_ : jX G jP 139 57 lv [.int (nI 1), .ref (spl 33 0 0)] μ Q)
  exact F_139_57_ok  K v1 v2 (nI 1) _ _ _ l0 l1 l2 R h
def F_139_39 (G : jG) (t : Nat) (v1 : Int32) (v2 : Int32) (S : sS) : Option (Int32 × sS) := F_139_57 G t v1 v2 (nI 2) S
theorem F_139_39_ok {G : jG} {t : Nat} {r : Int32} {S' : sS} {Q : Option Value ⊕ Nat → jS → Prop} (K : ∀ μ', sR S' μ' → Q (srI r) μ') : ∀ (v1 : Int32) (v2 : Int32) (S : sS) (lv : jL) (μ : jS), jld lv 0 = some (.ref (spl 33 0 0)) → jld lv 1 = some (.int v1) → jld lv 2 = some (.int v2) → sR S μ → F_139_39 G t v1 v2 S = some (r, S') → jX G jP 139 39 lv [.ref (spl 33 0 0)] μ Q := by
  intro v1 v2 S lv μ l0 l1 l2 R h
  unfold F_139_39 at h
  refine jX.ic (v := nI 2) (n := 1) (by rfl) (by rfl) (by decide) (?_ : jX G jP 139 40 lv [.int (nI 2), .ref (spl 33 0 0)] μ Q)
  refine jX.go (by rfl) (by rfl) (by rfl) (?_ : jX G jP 139 57 lv [.int (nI 2), .ref (spl 33 0 0)] μ Q)
  exact F_139_57_ok  K v1 v2 (nI 2) _ _ _ l0 l1 l2 R h
def F_139 (G : jG) (t : Nat) (v1 : Int32) (v2 : Int32) (S : sS) : Option (Int32 × sS) := bif jcmp .lt v1 0 then (F_139_11 G t v1 v2 S) else (bif jcmp .le v1 (nI 36) then (bif jcmp .eq (S.1 33 0 0 13) 0 then (F_139_39 G t v1 v2 S) else (bif jcmp .eq (S.1 33 0 0 14) (nI 1500) then (F_139_39 G t v1 v2 S) else (bif jcmp .eq (S.1 33 0 0 29) 0 then ((F_138 G t v1 v2 S).bind (fun q1 => bif jcmp .ne q1.1 0 then (F_139_57 G t v1 v2 (nI 0) q1.2) else (F_139_57 G t v1 v2 (nI 1) q1.2))) else (F_139_39 G t v1 v2 S)))) else (F_139_11 G t v1 v2 S))
theorem F_139_ok {G : jG} {t : Nat} {v1 : Int32} {v2 : Int32} {S : sS} {r : Int32} {S' : sS} {μ : jS} {Q : Option Value ⊕ Nat → jS → Prop} (R : sR S μ) (h : F_139 G t v1 v2 S = some (r, S')) (K : ∀ μ', sR S' μ' → Q (srI r) μ') : jX G jP 139 0 (lv_args 0 [.ref (spl 33 0 0), .int v1, .int v2]) [] μ Q := by
  unfold F_139 at h
  have l0 : jld (lv_args 0 [.ref (spl 33 0 0), .int v1, .int v2]) 0 = some (.ref (spl 33 0 0)) := by rfl
  have l1 : jld (lv_args 0 [.ref (spl 33 0 0), .int v1, .int v2]) 1 = some (.int v1) := by rfl
  have l2 : jld (lv_args 0 [.ref (spl 33 0 0), .int v1, .int v2]) 2 = some (.int v2) := by rfl
  generalize lv_args 0 [.ref (spl 33 0 0), .int v1, .int v2] = lv at *
  refine jX.lrn l0 (by rfl) (by rfl) (?_ : jX G jP 139 1 lv [.ref (spl 33 0 0)] μ Q)
  refine jX.lin l1 (by rfl) (by rfl) (?_ : jX G jP 139 2 lv [.int v1, .ref (spl 33 0 0)] μ Q)
  rcases bif_or h with ⟨hc, h⟩ | ⟨hc, h⟩
  · refine jX.b1t hc (by rfl) (by rfl) (by rfl) (?_ : jX G jP 139 11 lv [.ref (spl 33 0 0)] μ Q)
    exact F_139_11_ok  K v1 v2 _ _ _ l0 l1 l2 R h
  · refine jX.b1f hc (by rfl) (by rfl) (by rfl) (?_ : jX G jP 139 5 lv [.ref (spl 33 0 0)] μ Q)
    refine jX.lin l1 (by rfl) (by rfl) (?_ : jX G jP 139 6 lv [.int v1, .ref (spl 33 0 0)] μ Q)
    refine jX.ic (v := nI 36) (n := 2) (by rfl) (by rfl) (by decide) (?_ : jX G jP 139 8 lv [.int (nI 36), .int v1, .ref (spl 33 0 0)] μ Q)
    rcases bif_or h with ⟨hc, h⟩ | ⟨hc, h⟩
    · refine jX.b2t hc (by rfl) (by rfl) (by rfl) (?_ : jX G jP 139 15 lv [.ref (spl 33 0 0)] μ Q)
      refine jX.lrn l0 (by rfl) (by rfl) (?_ : jX G jP 139 16 lv [.ref (spl 33 0 0), .ref (spl 33 0 0)] μ Q)
      refine jX.sg R (by rfl) (by rfl) (by rfl) (by rfl) (by rfl) (by rfl) (?_ : jX G jP 139 19 lv [.int (S.1 33 0 0 13), .ref (spl 33 0 0)] μ Q)
      rcases bif_or h with ⟨hc, h⟩ | ⟨hc, h⟩
      · refine jX.b1t hc (by rfl) (by rfl) (by rfl) (?_ : jX G jP 139 39 lv [.ref (spl 33 0 0)] μ Q)
        exact F_139_39_ok  K v1 v2 _ _ _ l0 l1 l2 R h
      · refine jX.b1f hc (by rfl) (by rfl) (by rfl) (?_ : jX G jP 139 22 lv [.ref (spl 33 0 0)] μ Q)
        refine jX.lrn l0 (by rfl) (by rfl) (?_ : jX G jP 139 23 lv [.ref (spl 33 0 0), .ref (spl 33 0 0)] μ Q)
        refine jX.sg R (by rfl) (by rfl) (by rfl) (by rfl) (by rfl) (by rfl) (?_ : jX G jP 139 26 lv [.int (S.1 33 0 0 14), .ref (spl 33 0 0)] μ Q)
        refine jX.ic (v := nI 1500) (n := 3) (by rfl) (by rfl) (by decide) (?_ : jX G jP 139 29 lv [.int (nI 1500), .int (S.1 33 0 0 14), .ref (spl 33 0 0)] μ Q)
        rcases bif_or h with ⟨hc, h⟩ | ⟨hc, h⟩
        · refine jX.b2t hc (by rfl) (by rfl) (by rfl) (?_ : jX G jP 139 39 lv [.ref (spl 33 0 0)] μ Q)
          exact F_139_39_ok  K v1 v2 _ _ _ l0 l1 l2 R h
        · refine jX.b2f hc (by rfl) (by rfl) (by rfl) (?_ : jX G jP 139 32 lv [.ref (spl 33 0 0)] μ Q)
          refine jX.lrn l0 (by rfl) (by rfl) (?_ : jX G jP 139 33 lv [.ref (spl 33 0 0), .ref (spl 33 0 0)] μ Q)
          refine jX.sg R (by rfl) (by rfl) (by rfl) (by rfl) (by rfl) (by rfl) (?_ : jX G jP 139 36 lv [.int (S.1 33 0 0 29), .ref (spl 33 0 0)] μ Q)
          rcases bif_or h with ⟨hc, h⟩ | ⟨hc, h⟩
          · refine jX.b1t hc (by rfl) (by rfl) (by rfl) (?_ : jX G jP 139 43 lv [.ref (spl 33 0 0)] μ Q)
            refine jX.lrn l0 (by rfl) (by rfl) (?_ : jX G jP 139 44 lv [.ref (spl 33 0 0), .ref (spl 33 0 0)] μ Q)
            refine jX.lin l1 (by rfl) (by rfl) (?_ : jX G jP 139 45 lv [.int v1, .ref (spl 33 0 0), .ref (spl 33 0 0)] μ Q)
            refine jX.lin l2 (by rfl) (by rfl) (?_ : jX G jP 139 46 lv [.int v2, .int v1, .ref (spl 33 0 0), .ref (spl 33 0 0)] μ Q)
            obtain ⟨q1, e1, h⟩ := sbd h
            refine jX.c1 (v := .int q1.1) (by rfl) (by rfl) (by rfl) (by rfl) (by rfl) (by rfl) (by rfl) (R.rec (by rfl) (by rfl)) (Nat.le_of_ble_eq_true rfl) (Nat.le_of_ble_eq_true rfl) (F_138_ok R e1 (fun μ R => ⟨rfl, (?_ : jX G jP 139 49 lv [.int q1.1, .ref (spl 33 0 0)] μ Q)⟩))
            rcases bif_or h with ⟨hc, h⟩ | ⟨hc, h⟩
            · refine jX.b1t hc (by rfl) (by rfl) (by rfl) (?_ : jX G jP 139 56 lv [.ref (spl 33 0 0)] μ Q)
              refine jX.ic (v := nI 0) (n := 1) (by rfl) (by rfl) (by decide) (?_ : jX G jP 139 57 lv [.int (nI 0), .ref (spl 33 0 0)] μ Q)
              exact F_139_57_ok  K v1 v2 (nI 0) _ _ _ l0 l1 l2 R h
            · refine jX.b1f hc (by rfl) (by rfl) (by rfl) (?_ : jX G jP 139 52 lv [.ref (spl 33 0 0)] μ Q)
              refine jX.ic (v := nI 1) (n := 1) (by rfl) (by rfl) (by decide) (?_ : jX G jP 139 53 lv [.int (nI 1), .ref (spl 33 0 0)] μ Q)
              refine jX.go (by rfl) (by rfl) (by rfl) (?_ : jX G jP 139 57 lv [.int (nI 1), .ref (spl 33 0 0)] μ Q)
              exact F_139_57_ok  K v1 v2 (nI 1) _ _ _ l0 l1 l2 R h
          · refine jX.b1f hc (by rfl) (by rfl) (by rfl) (?_ : jX G jP 139 39 lv [.ref (spl 33 0 0)] μ Q)
            exact F_139_39_ok  K v1 v2 _ _ _ l0 l1 l2 R h
    · refine jX.b2f hc (by rfl) (by rfl) (by rfl) (?_ : jX G jP 139 11 lv [.ref (spl 33 0 0)] μ Q)
      exact F_139_11_ok  K v1 v2 _ _ _ l0 l1 l2 R h
/-! 140 StrandRuntimeModel.isWhole()Z -/
def F_140_193 (G : jG) (t : Nat) (k2 : Int32 → sS → Option (Int32 × sS)) (k71 : Int32 → Int32 → sS → Option (Int32 × sS)) (v1 : Int32) (v3 : Int32) (S : sS) : Option (Int32 × sS) := k71 v1 (v3 + Int32.ofInt 1) S
theorem F_140_193_ok {G : jG} {t : Nat} {k2 : Int32 → sS → Option (Int32 × sS)} {k71 : Int32 → Int32 → sS → Option (Int32 × sS)} {r : Int32} {S' : sS} {Q : Option Value ⊕ Nat → jS → Prop} (hk2 : ∀ (v1 : Int32) (S : sS) (lv : jL) (μ : jS), jld lv 0 = some (.ref (spl 33 0 0)) → jld lv 1 = some (.int v1) → sR S μ → k2 v1 S = some (r, S') → jX G jP 140 2 lv [] μ Q) (hk71 : ∀ (v1 : Int32) (v3 : Int32) (S : sS) (lv : jL) (μ : jS), jld lv 0 = some (.ref (spl 33 0 0)) → jld lv 1 = some (.int v1) → jld lv 3 = some (.int v3) → sR S μ → k71 v1 v3 S = some (r, S') → jX G jP 140 71 lv [] μ Q) (K : ∀ μ', sR S' μ' → Q (srI r) μ') : ∀ (v1 : Int32) (v3 : Int32) (S : sS) (lv : jL) (μ : jS), jld lv 0 = some (.ref (spl 33 0 0)) → jld lv 1 = some (.int v1) → jld lv 3 = some (.int v3) → sR S μ → F_140_193 G t k2 k71 v1 v3 S = some (r, S') → jX G jP 140 193 lv [] μ Q := by
  intro v1 v3 S lv μ l0 l1 l3 R h
  unfold F_140_193 at h
  refine jX.inc l3 (by rfl) (by rfl) (by rfl) (fun lv l3 kp => (?_ : jX G jP 140 196 lv [] μ Q))
  replace l0 := kp 0 _ l0 (by rfl) (by first | rfl | simp [soR_cat])
  replace l1 := kp 1 _ l1 (by rfl) (by first | rfl | simp [soR_cat])
  refine jX.go (by rfl) (by rfl) (by rfl) (?_ : jX G jP 140 71 lv [] μ Q)
  exact hk71 v1 (v3 + Int32.ofInt 1) _ _ _ l0 l1 l3 R h
def F_140_173 (G : jG) (t : Nat) (k2 : Int32 → sS → Option (Int32 × sS)) (k71 : Int32 → Int32 → sS → Option (Int32 × sS)) (v1 : Int32) (v3 : Int32) (v4 : Int32) (v5 : Int32) (S : sS) : Option (Int32 × sS) := bif jcmp .ne v4 (nI 34) then (F_140_193 G t k2 k71 v1 v3 S) else (jif (jin v5 32) (bif jcmp .eq (S.1 37 0 0 v5.toNatClampNeg) (nI 1) then (F_140_193 G t k2 k71 v1 v3 S) else (some ((nI 0), S))))
theorem F_140_173_ok {G : jG} {t : Nat} {k2 : Int32 → sS → Option (Int32 × sS)} {k71 : Int32 → Int32 → sS → Option (Int32 × sS)} {r : Int32} {S' : sS} {Q : Option Value ⊕ Nat → jS → Prop} (hk2 : ∀ (v1 : Int32) (S : sS) (lv : jL) (μ : jS), jld lv 0 = some (.ref (spl 33 0 0)) → jld lv 1 = some (.int v1) → sR S μ → k2 v1 S = some (r, S') → jX G jP 140 2 lv [] μ Q) (hk71 : ∀ (v1 : Int32) (v3 : Int32) (S : sS) (lv : jL) (μ : jS), jld lv 0 = some (.ref (spl 33 0 0)) → jld lv 1 = some (.int v1) → jld lv 3 = some (.int v3) → sR S μ → k71 v1 v3 S = some (r, S') → jX G jP 140 71 lv [] μ Q) (K : ∀ μ', sR S' μ' → Q (srI r) μ') : ∀ (v1 : Int32) (v3 : Int32) (v4 : Int32) (v5 : Int32) (S : sS) (lv : jL) (μ : jS), jld lv 0 = some (.ref (spl 33 0 0)) → jld lv 1 = some (.int v1) → jld lv 3 = some (.int v3) → jld lv 4 = some (.int v4) → jld lv 5 = some (.int v5) → sR S μ → F_140_173 G t k2 k71 v1 v3 v4 v5 S = some (r, S') → jX G jP 140 173 lv [] μ Q := by
  intro v1 v3 v4 v5 S lv μ l0 l1 l3 l4 l5 R h
  unfold F_140_173 at h
  refine jX.li l4 (by rfl) (by rfl) (?_ : jX G jP 140 175 lv [.int v4] μ Q)
  refine jX.ic (v := nI 34) (n := 2) (by rfl) (by rfl) (by decide) (?_ : jX G jP 140 177 lv [.int (nI 34), .int v4] μ Q)
  rcases bif_or h with ⟨hc, h⟩ | ⟨hc, h⟩
  · refine jX.b2t hc (by rfl) (by rfl) (by rfl) (?_ : jX G jP 140 193 lv [] μ Q)
    exact F_140_193_ok hk2 hk71 K v1 v3 _ _ _ l0 l1 l3 R h
  · refine jX.b2f hc (by rfl) (by rfl) (by rfl) (?_ : jX G jP 140 180 lv [] μ Q)
    refine jX.lrn l0 (by rfl) (by rfl) (?_ : jX G jP 140 181 lv [.ref (spl 33 0 0)] μ Q)
    refine jX.sg R (by rfl) (by rfl) (by rfl) (by rfl) (by rfl) (by rfl) (?_ : jX G jP 140 184 lv [.ref (spl 37 0 0)] μ Q)
    refine jX.li l5 (by rfl) (by rfl) (?_ : jX G jP 140 186 lv [.int v5, .ref (spl 37 0 0)] μ Q)
    obtain ⟨g1, h⟩ := jif_some h
    refine jX.sai R (by rfl) (by rfl) (by rfl) (by rfl) g1 (?_ : jX G jP 140 187 lv [.int (S.1 37 0 0 v5.toNatClampNeg)] μ Q)
    refine jX.ic (v := nI 1) (n := 1) (by rfl) (by rfl) (by decide) (?_ : jX G jP 140 188 lv [.int (nI 1), .int (S.1 37 0 0 v5.toNatClampNeg)] μ Q)
    rcases bif_or h with ⟨hc, h⟩ | ⟨hc, h⟩
    · refine jX.b2t hc (by rfl) (by rfl) (by rfl) (?_ : jX G jP 140 193 lv [] μ Q)
      exact F_140_193_ok hk2 hk71 K v1 v3 _ _ _ l0 l1 l3 R h
    · refine jX.b2f hc (by rfl) (by rfl) (by rfl) (?_ : jX G jP 140 191 lv [] μ Q)
      refine jX.ic (v := nI 0) (n := 1) (by rfl) (by rfl) (by decide) (?_ : jX G jP 140 192 lv [.int (nI 0)] μ Q)
      exact jX.ret (by rfl) (by rfl) (by rfl) (by rfl) (sretv (f := srI) h K R)
def F_140_157 (G : jG) (t : Nat) (k2 : Int32 → sS → Option (Int32 × sS)) (k71 : Int32 → Int32 → sS → Option (Int32 × sS)) (v1 : Int32) (v3 : Int32) (v4 : Int32) (v5 : Int32) (S : sS) : Option (Int32 × sS) := bif jcmp .lt v5 0 then (some ((nI 0), S)) else (bif jcmp .lt v5 (S.1 33 0 0 13) then (F_140_173 G t k2 k71 v1 v3 v4 v5 S) else (some ((nI 0), S)))
theorem F_140_157_ok {G : jG} {t : Nat} {k2 : Int32 → sS → Option (Int32 × sS)} {k71 : Int32 → Int32 → sS → Option (Int32 × sS)} {r : Int32} {S' : sS} {Q : Option Value ⊕ Nat → jS → Prop} (hk2 : ∀ (v1 : Int32) (S : sS) (lv : jL) (μ : jS), jld lv 0 = some (.ref (spl 33 0 0)) → jld lv 1 = some (.int v1) → sR S μ → k2 v1 S = some (r, S') → jX G jP 140 2 lv [] μ Q) (hk71 : ∀ (v1 : Int32) (v3 : Int32) (S : sS) (lv : jL) (μ : jS), jld lv 0 = some (.ref (spl 33 0 0)) → jld lv 1 = some (.int v1) → jld lv 3 = some (.int v3) → sR S μ → k71 v1 v3 S = some (r, S') → jX G jP 140 71 lv [] μ Q) (K : ∀ μ', sR S' μ' → Q (srI r) μ') : ∀ (v1 : Int32) (v3 : Int32) (v4 : Int32) (v5 : Int32) (S : sS) (lv : jL) (μ : jS), jld lv 0 = some (.ref (spl 33 0 0)) → jld lv 1 = some (.int v1) → jld lv 3 = some (.int v3) → jld lv 4 = some (.int v4) → jld lv 5 = some (.int v5) → sR S μ → F_140_157 G t k2 k71 v1 v3 v4 v5 S = some (r, S') → jX G jP 140 157 lv [] μ Q := by
  intro v1 v3 v4 v5 S lv μ l0 l1 l3 l4 l5 R h
  unfold F_140_157 at h
  refine jX.li l5 (by rfl) (by rfl) (?_ : jX G jP 140 159 lv [.int v5] μ Q)
  rcases bif_or h with ⟨hc, h⟩ | ⟨hc, h⟩
  · refine jX.b1t hc (by rfl) (by rfl) (by rfl) (?_ : jX G jP 140 171 lv [] μ Q)
    refine jX.ic (v := nI 0) (n := 1) (by rfl) (by rfl) (by decide) (?_ : jX G jP 140 172 lv [.int (nI 0)] μ Q)
    exact jX.ret (by rfl) (by rfl) (by rfl) (by rfl) (sretv (f := srI) h K R)
  · refine jX.b1f hc (by rfl) (by rfl) (by rfl) (?_ : jX G jP 140 162 lv [] μ Q)
    refine jX.li l5 (by rfl) (by rfl) (?_ : jX G jP 140 164 lv [.int v5] μ Q)
    refine jX.lrn l0 (by rfl) (by rfl) (?_ : jX G jP 140 165 lv [.ref (spl 33 0 0), .int v5] μ Q)
    refine jX.sg R (by rfl) (by rfl) (by rfl) (by rfl) (by rfl) (by rfl) (?_ : jX G jP 140 168 lv [.int (S.1 33 0 0 13), .int v5] μ Q)
    rcases bif_or h with ⟨hc, h⟩ | ⟨hc, h⟩
    · refine jX.b2t hc (by rfl) (by rfl) (by rfl) (?_ : jX G jP 140 173 lv [] μ Q)
      exact F_140_173_ok hk2 hk71 K v1 v3 v4 v5 _ _ _ l0 l1 l3 l4 l5 R h
    · refine jX.b2f hc (by rfl) (by rfl) (by rfl) (?_ : jX G jP 140 171 lv [] μ Q)
      refine jX.ic (v := nI 0) (n := 1) (by rfl) (by rfl) (by decide) (?_ : jX G jP 140 172 lv [.int (nI 0)] μ Q)
      exact jX.ret (by rfl) (by rfl) (by rfl) (by rfl) (sretv (f := srI) h K R)
def F_140_136 (G : jG) (t : Nat) (k2 : Int32 → sS → Option (Int32 × sS)) (k71 : Int32 → Int32 → sS → Option (Int32 × sS)) (v1 : Int32) (v3 : Int32) (v4 : Int32) (v5 : Int32) (S : sS) : Option (Int32 × sS) := bif jcmp .eq v4 (nI 18) then (F_140_157 G t k2 k71 v1 v3 v4 v5 S) else (bif jcmp .eq v4 (nI 20) then (F_140_157 G t k2 k71 v1 v3 v4 v5 S) else (bif jcmp .ne v4 (nI 34) then (F_140_173 G t k2 k71 v1 v3 v4 v5 S) else (F_140_157 G t k2 k71 v1 v3 v4 v5 S)))
theorem F_140_136_ok {G : jG} {t : Nat} {k2 : Int32 → sS → Option (Int32 × sS)} {k71 : Int32 → Int32 → sS → Option (Int32 × sS)} {r : Int32} {S' : sS} {Q : Option Value ⊕ Nat → jS → Prop} (hk2 : ∀ (v1 : Int32) (S : sS) (lv : jL) (μ : jS), jld lv 0 = some (.ref (spl 33 0 0)) → jld lv 1 = some (.int v1) → sR S μ → k2 v1 S = some (r, S') → jX G jP 140 2 lv [] μ Q) (hk71 : ∀ (v1 : Int32) (v3 : Int32) (S : sS) (lv : jL) (μ : jS), jld lv 0 = some (.ref (spl 33 0 0)) → jld lv 1 = some (.int v1) → jld lv 3 = some (.int v3) → sR S μ → k71 v1 v3 S = some (r, S') → jX G jP 140 71 lv [] μ Q) (K : ∀ μ', sR S' μ' → Q (srI r) μ') : ∀ (v1 : Int32) (v3 : Int32) (v4 : Int32) (v5 : Int32) (S : sS) (lv : jL) (μ : jS), jld lv 0 = some (.ref (spl 33 0 0)) → jld lv 1 = some (.int v1) → jld lv 3 = some (.int v3) → jld lv 4 = some (.int v4) → jld lv 5 = some (.int v5) → sR S μ → F_140_136 G t k2 k71 v1 v3 v4 v5 S = some (r, S') → jX G jP 140 136 lv [] μ Q := by
  intro v1 v3 v4 v5 S lv μ l0 l1 l3 l4 l5 R h
  unfold F_140_136 at h
  refine jX.li l4 (by rfl) (by rfl) (?_ : jX G jP 140 138 lv [.int v4] μ Q)
  refine jX.ic (v := nI 18) (n := 2) (by rfl) (by rfl) (by decide) (?_ : jX G jP 140 140 lv [.int (nI 18), .int v4] μ Q)
  rcases bif_or h with ⟨hc, h⟩ | ⟨hc, h⟩
  · refine jX.b2t hc (by rfl) (by rfl) (by rfl) (?_ : jX G jP 140 157 lv [] μ Q)
    exact F_140_157_ok hk2 hk71 K v1 v3 v4 v5 _ _ _ l0 l1 l3 l4 l5 R h
  · refine jX.b2f hc (by rfl) (by rfl) (by rfl) (?_ : jX G jP 140 143 lv [] μ Q)
    refine jX.li l4 (by rfl) (by rfl) (?_ : jX G jP 140 145 lv [.int v4] μ Q)
    refine jX.ic (v := nI 20) (n := 2) (by rfl) (by rfl) (by decide) (?_ : jX G jP 140 147 lv [.int (nI 20), .int v4] μ Q)
    rcases bif_or h with ⟨hc, h⟩ | ⟨hc, h⟩
    · refine jX.b2t hc (by rfl) (by rfl) (by rfl) (?_ : jX G jP 140 157 lv [] μ Q)
      exact F_140_157_ok hk2 hk71 K v1 v3 v4 v5 _ _ _ l0 l1 l3 l4 l5 R h
    · refine jX.b2f hc (by rfl) (by rfl) (by rfl) (?_ : jX G jP 140 150 lv [] μ Q)
      refine jX.li l4 (by rfl) (by rfl) (?_ : jX G jP 140 152 lv [.int v4] μ Q)
      refine jX.ic (v := nI 34) (n := 2) (by rfl) (by rfl) (by decide) (?_ : jX G jP 140 154 lv [.int (nI 34), .int v4] μ Q)
      rcases bif_or h with ⟨hc, h⟩ | ⟨hc, h⟩
      · refine jX.b2t hc (by rfl) (by rfl) (by rfl) (?_ : jX G jP 140 173 lv [] μ Q)
        exact F_140_173_ok hk2 hk71 K v1 v3 v4 v5 _ _ _ l0 l1 l3 l4 l5 R h
      · refine jX.b2f hc (by rfl) (by rfl) (by rfl) (?_ : jX G jP 140 157 lv [] μ Q)
        exact F_140_157_ok hk2 hk71 K v1 v3 v4 v5 _ _ _ l0 l1 l3 l4 l5 R h
def F_140_118 (G : jG) (t : Nat) (k2 : Int32 → sS → Option (Int32 × sS)) (k71 : Int32 → Int32 → sS → Option (Int32 × sS)) (v1 : Int32) (v3 : Int32) (v4 : Int32) (v5 : Int32) (S : sS) : Option (Int32 × sS) := bif jcmp .lt v5 0 then (some ((nI 0), S)) else (jif (jin v1 32) (bif jcmp .lt v5 (S.1 40 0 0 v1.toNatClampNeg) then (F_140_136 G t k2 k71 v1 v3 v4 v5 S) else (some ((nI 0), S))))
theorem F_140_118_ok {G : jG} {t : Nat} {k2 : Int32 → sS → Option (Int32 × sS)} {k71 : Int32 → Int32 → sS → Option (Int32 × sS)} {r : Int32} {S' : sS} {Q : Option Value ⊕ Nat → jS → Prop} (hk2 : ∀ (v1 : Int32) (S : sS) (lv : jL) (μ : jS), jld lv 0 = some (.ref (spl 33 0 0)) → jld lv 1 = some (.int v1) → sR S μ → k2 v1 S = some (r, S') → jX G jP 140 2 lv [] μ Q) (hk71 : ∀ (v1 : Int32) (v3 : Int32) (S : sS) (lv : jL) (μ : jS), jld lv 0 = some (.ref (spl 33 0 0)) → jld lv 1 = some (.int v1) → jld lv 3 = some (.int v3) → sR S μ → k71 v1 v3 S = some (r, S') → jX G jP 140 71 lv [] μ Q) (K : ∀ μ', sR S' μ' → Q (srI r) μ') : ∀ (v1 : Int32) (v3 : Int32) (v4 : Int32) (v5 : Int32) (S : sS) (lv : jL) (μ : jS), jld lv 0 = some (.ref (spl 33 0 0)) → jld lv 1 = some (.int v1) → jld lv 3 = some (.int v3) → jld lv 4 = some (.int v4) → jld lv 5 = some (.int v5) → sR S μ → F_140_118 G t k2 k71 v1 v3 v4 v5 S = some (r, S') → jX G jP 140 118 lv [] μ Q := by
  intro v1 v3 v4 v5 S lv μ l0 l1 l3 l4 l5 R h
  unfold F_140_118 at h
  refine jX.li l5 (by rfl) (by rfl) (?_ : jX G jP 140 120 lv [.int v5] μ Q)
  rcases bif_or h with ⟨hc, h⟩ | ⟨hc, h⟩
  · refine jX.b1t hc (by rfl) (by rfl) (by rfl) (?_ : jX G jP 140 134 lv [] μ Q)
    refine jX.ic (v := nI 0) (n := 1) (by rfl) (by rfl) (by decide) (?_ : jX G jP 140 135 lv [.int (nI 0)] μ Q)
    exact jX.ret (by rfl) (by rfl) (by rfl) (by rfl) (sretv (f := srI) h K R)
  · refine jX.b1f hc (by rfl) (by rfl) (by rfl) (?_ : jX G jP 140 123 lv [] μ Q)
    refine jX.li l5 (by rfl) (by rfl) (?_ : jX G jP 140 125 lv [.int v5] μ Q)
    refine jX.lrn l0 (by rfl) (by rfl) (?_ : jX G jP 140 126 lv [.ref (spl 33 0 0), .int v5] μ Q)
    refine jX.sg R (by rfl) (by rfl) (by rfl) (by rfl) (by rfl) (by rfl) (?_ : jX G jP 140 129 lv [.ref (spl 40 0 0), .int v5] μ Q)
    refine jX.lin l1 (by rfl) (by rfl) (?_ : jX G jP 140 130 lv [.int v1, .ref (spl 40 0 0), .int v5] μ Q)
    obtain ⟨g1, h⟩ := jif_some h
    refine jX.sai R (by rfl) (by rfl) (by rfl) (by rfl) g1 (?_ : jX G jP 140 131 lv [.int (S.1 40 0 0 v1.toNatClampNeg), .int v5] μ Q)
    rcases bif_or h with ⟨hc, h⟩ | ⟨hc, h⟩
    · refine jX.b2t hc (by rfl) (by rfl) (by rfl) (?_ : jX G jP 140 136 lv [] μ Q)
      exact F_140_136_ok hk2 hk71 K v1 v3 v4 v5 _ _ _ l0 l1 l3 l4 l5 R h
    · refine jX.b2f hc (by rfl) (by rfl) (by rfl) (?_ : jX G jP 140 134 lv [] μ Q)
      refine jX.ic (v := nI 0) (n := 1) (by rfl) (by rfl) (by decide) (?_ : jX G jP 140 135 lv [.int (nI 0)] μ Q)
      exact jX.ret (by rfl) (by rfl) (by rfl) (by rfl) (sretv (f := srI) h K R)
def F_140_71 (G : jG) (t : Nat) (k2 : Int32 → sS → Option (Int32 × sS)) : Nat → Int32 → Int32 → sS → Option (Int32 × sS)
  | 0 => fun _ _ _ => none
  | tt + 1 => fun v1 v3 S => jif (jin v1 32) (jif (jin v1 32) (bif jcmp .ge v3 ((S.1 39 0 0 v1.toNatClampNeg) + (S.1 40 0 0 v1.toNatClampNeg)) then (k2 (v1 + Int32.ofInt 1) S) else (jif (jin v3 1500) (jif (jin v3 1500) (bif jcmp .eq (S.1 41 0 0 v3.toNatClampNeg) (nI 16) then (F_140_118 G t k2 (F_140_71 G t k2 tt) v1 v3 (S.1 41 0 0 v3.toNatClampNeg) (S.1 42 0 0 v3.toNatClampNeg) S) else (bif jcmp .ne (S.1 41 0 0 v3.toNatClampNeg) (nI 17) then (F_140_136 G t k2 (F_140_71 G t k2 tt) v1 v3 (S.1 41 0 0 v3.toNatClampNeg) (S.1 42 0 0 v3.toNatClampNeg) S) else (F_140_118 G t k2 (F_140_71 G t k2 tt) v1 v3 (S.1 41 0 0 v3.toNatClampNeg) (S.1 42 0 0 v3.toNatClampNeg) S)))))))
theorem F_140_71_ok {G : jG} {t : Nat} {k2 : Int32 → sS → Option (Int32 × sS)} {r : Int32} {S' : sS} {Q : Option Value ⊕ Nat → jS → Prop} (hk2 : ∀ (v1 : Int32) (S : sS) (lv : jL) (μ : jS), jld lv 0 = some (.ref (spl 33 0 0)) → jld lv 1 = some (.int v1) → sR S μ → k2 v1 S = some (r, S') → jX G jP 140 2 lv [] μ Q) (K : ∀ μ', sR S' μ' → Q (srI r) μ') : ∀ tt : Nat, ∀ (v1 : Int32) (v3 : Int32) (S : sS) (lv : jL) (μ : jS), jld lv 0 = some (.ref (spl 33 0 0)) → jld lv 1 = some (.int v1) → jld lv 3 = some (.int v3) → sR S μ → F_140_71 G t k2 tt v1 v3 S = some (r, S') → jX G jP 140 71 lv [] μ Q := by
  intro tt
  induction tt with
  | zero =>
    intro v1 v3 S lv μ l0 l1 l3 R h
    rw [F_140_71] at h
    cases h
  | succ tt ih =>
    intro v1 v3 S lv μ l0 l1 l3 R h
    rw [F_140_71] at h
    refine jX.lin l3 (by rfl) (by rfl) (?_ : jX G jP 140 72 lv [.int v3] μ Q)
    refine jX.lrn l0 (by rfl) (by rfl) (?_ : jX G jP 140 73 lv [.ref (spl 33 0 0), .int v3] μ Q)
    refine jX.sg R (by rfl) (by rfl) (by rfl) (by rfl) (by rfl) (by rfl) (?_ : jX G jP 140 76 lv [.ref (spl 39 0 0), .int v3] μ Q)
    refine jX.lin l1 (by rfl) (by rfl) (?_ : jX G jP 140 77 lv [.int v1, .ref (spl 39 0 0), .int v3] μ Q)
    obtain ⟨g1, h⟩ := jif_some h
    refine jX.sai R (by rfl) (by rfl) (by rfl) (by rfl) g1 (?_ : jX G jP 140 78 lv [.int (S.1 39 0 0 v1.toNatClampNeg), .int v3] μ Q)
    refine jX.lrn l0 (by rfl) (by rfl) (?_ : jX G jP 140 79 lv [.ref (spl 33 0 0), .int (S.1 39 0 0 v1.toNatClampNeg), .int v3] μ Q)
    refine jX.sg R (by rfl) (by rfl) (by rfl) (by rfl) (by rfl) (by rfl) (?_ : jX G jP 140 82 lv [.ref (spl 40 0 0), .int (S.1 39 0 0 v1.toNatClampNeg), .int v3] μ Q)
    refine jX.lin l1 (by rfl) (by rfl) (?_ : jX G jP 140 83 lv [.int v1, .ref (spl 40 0 0), .int (S.1 39 0 0 v1.toNatClampNeg), .int v3] μ Q)
    obtain ⟨g2, h⟩ := jif_some h
    refine jX.sai R (by rfl) (by rfl) (by rfl) (by rfl) g2 (?_ : jX G jP 140 84 lv [.int (S.1 40 0 0 v1.toNatClampNeg), .int (S.1 39 0 0 v1.toNatClampNeg), .int v3] μ Q)
    refine jX.go (by rfl) (by rfl) (by rfl) (?_ : jX G jP 140 85 lv [.int ((S.1 39 0 0 v1.toNatClampNeg) + (S.1 40 0 0 v1.toNatClampNeg)), .int v3] μ Q)
    rcases bif_or h with ⟨hc, h⟩ | ⟨hc, h⟩
    · refine jX.b2t hc (by rfl) (by rfl) (by rfl) (?_ : jX G jP 140 199 lv [] μ Q)
      refine jX.inc l1 (by rfl) (by rfl) (by rfl) (fun lv l1 kp => (?_ : jX G jP 140 202 lv [] μ Q))
      replace l0 := kp 0 _ l0 (by rfl) (by first | rfl | simp [soR_cat])
      refine jX.go (by rfl) (by rfl) (by rfl) (?_ : jX G jP 140 2 lv [] μ Q)
      exact hk2 (v1 + Int32.ofInt 1) _ _ _ l0 l1 R h
    · refine jX.b2f hc (by rfl) (by rfl) (by rfl) (?_ : jX G jP 140 88 lv [] μ Q)
      refine jX.lrn l0 (by rfl) (by rfl) (?_ : jX G jP 140 89 lv [.ref (spl 33 0 0)] μ Q)
      refine jX.sg R (by rfl) (by rfl) (by rfl) (by rfl) (by rfl) (by rfl) (?_ : jX G jP 140 92 lv [.ref (spl 41 0 0)] μ Q)
      refine jX.lin l3 (by rfl) (by rfl) (?_ : jX G jP 140 93 lv [.int v3, .ref (spl 41 0 0)] μ Q)
      obtain ⟨g3, h⟩ := jif_some h
      refine jX.sai R (by rfl) (by rfl) (by rfl) (by rfl) g3 (?_ : jX G jP 140 94 lv [.int (S.1 41 0 0 v3.toNatClampNeg)] μ Q)
      refine jX.s1 (k := 4) (pc' := 96) (by rfl) (by rfl) (by rfl) (fun lv l4 kp => (?_ : jX G jP 140 96 lv [] μ Q))
      replace l0 := kp 0 _ l0 (by rfl) (by first | rfl | simp [soR_cat])
      replace l1 := kp 1 _ l1 (by rfl) (by first | rfl | simp [soR_cat])
      replace l3 := kp 3 _ l3 (by rfl) (by first | rfl | simp [soR_cat])
      refine jX.lrn l0 (by rfl) (by rfl) (?_ : jX G jP 140 97 lv [.ref (spl 33 0 0)] μ Q)
      refine jX.sg R (by rfl) (by rfl) (by rfl) (by rfl) (by rfl) (by rfl) (?_ : jX G jP 140 100 lv [.ref (spl 42 0 0)] μ Q)
      refine jX.lin l3 (by rfl) (by rfl) (?_ : jX G jP 140 101 lv [.int v3, .ref (spl 42 0 0)] μ Q)
      obtain ⟨g4, h⟩ := jif_some h
      refine jX.sai R (by rfl) (by rfl) (by rfl) (by rfl) g4 (?_ : jX G jP 140 102 lv [.int (S.1 42 0 0 v3.toNatClampNeg)] μ Q)
      refine jX.s1 (k := 5) (pc' := 104) (by rfl) (by rfl) (by rfl) (fun lv l5 kp => (?_ : jX G jP 140 104 lv [] μ Q))
      replace l0 := kp 0 _ l0 (by rfl) (by first | rfl | simp [soR_cat])
      replace l1 := kp 1 _ l1 (by rfl) (by first | rfl | simp [soR_cat])
      replace l3 := kp 3 _ l3 (by rfl) (by first | rfl | simp [soR_cat])
      replace l4 := kp 4 _ l4 (by rfl) (by first | rfl | simp [soR_cat])
      refine jX.li l4 (by rfl) (by rfl) (?_ : jX G jP 140 106 lv [.int (S.1 41 0 0 v3.toNatClampNeg)] μ Q)
      refine jX.ic (v := nI 16) (n := 2) (by rfl) (by rfl) (by decide) (?_ : jX G jP 140 108 lv [.int (nI 16), .int (S.1 41 0 0 v3.toNatClampNeg)] μ Q)
      rcases bif_or h with ⟨hc, h⟩ | ⟨hc, h⟩
      · refine jX.b2t hc (by rfl) (by rfl) (by rfl) (?_ : jX G jP 140 118 lv [] μ Q)
        exact F_140_118_ok hk2 ih K v1 v3 (S.1 41 0 0 v3.toNatClampNeg) (S.1 42 0 0 v3.toNatClampNeg) _ _ _ l0 l1 l3 l4 l5 R h
      · refine jX.b2f hc (by rfl) (by rfl) (by rfl) (?_ : jX G jP 140 111 lv [] μ Q)
        refine jX.li l4 (by rfl) (by rfl) (?_ : jX G jP 140 113 lv [.int (S.1 41 0 0 v3.toNatClampNeg)] μ Q)
        refine jX.ic (v := nI 17) (n := 2) (by rfl) (by rfl) (by decide) (?_ : jX G jP 140 115 lv [.int (nI 17), .int (S.1 41 0 0 v3.toNatClampNeg)] μ Q)
        rcases bif_or h with ⟨hc, h⟩ | ⟨hc, h⟩
        · refine jX.b2t hc (by rfl) (by rfl) (by rfl) (?_ : jX G jP 140 136 lv [] μ Q)
          exact F_140_136_ok hk2 ih K v1 v3 (S.1 41 0 0 v3.toNatClampNeg) (S.1 42 0 0 v3.toNatClampNeg) _ _ _ l0 l1 l3 l4 l5 R h
        · refine jX.b2f hc (by rfl) (by rfl) (by rfl) (?_ : jX G jP 140 118 lv [] μ Q)
          exact F_140_118_ok hk2 ih K v1 v3 (S.1 41 0 0 v3.toNatClampNeg) (S.1 42 0 0 v3.toNatClampNeg) _ _ _ l0 l1 l3 l4 l5 R h
def F_140_64 (G : jG) (t : Nat) (k2 : Int32 → sS → Option (Int32 × sS)) (v1 : Int32) (S : sS) : Option (Int32 × sS) := jif (jin v1 32) (F_140_71 G t k2 t v1 (S.1 39 0 0 v1.toNatClampNeg) S)
theorem F_140_64_ok {G : jG} {t : Nat} {k2 : Int32 → sS → Option (Int32 × sS)} {r : Int32} {S' : sS} {Q : Option Value ⊕ Nat → jS → Prop} (hk2 : ∀ (v1 : Int32) (S : sS) (lv : jL) (μ : jS), jld lv 0 = some (.ref (spl 33 0 0)) → jld lv 1 = some (.int v1) → sR S μ → k2 v1 S = some (r, S') → jX G jP 140 2 lv [] μ Q) (K : ∀ μ', sR S' μ' → Q (srI r) μ') : ∀ (v1 : Int32) (S : sS) (lv : jL) (μ : jS), jld lv 0 = some (.ref (spl 33 0 0)) → jld lv 1 = some (.int v1) → sR S μ → F_140_64 G t k2 v1 S = some (r, S') → jX G jP 140 64 lv [] μ Q := by
  intro v1 S lv μ l0 l1 R h
  unfold F_140_64 at h
  refine jX.lrn l0 (by rfl) (by rfl) (?_ : jX G jP 140 65 lv [.ref (spl 33 0 0)] μ Q)
  refine jX.sg R (by rfl) (by rfl) (by rfl) (by rfl) (by rfl) (by rfl) (?_ : jX G jP 140 68 lv [.ref (spl 39 0 0)] μ Q)
  refine jX.lin l1 (by rfl) (by rfl) (?_ : jX G jP 140 69 lv [.int v1, .ref (spl 39 0 0)] μ Q)
  obtain ⟨g1, h⟩ := jif_some h
  refine jX.sai R (by rfl) (by rfl) (by rfl) (by rfl) g1 (?_ : jX G jP 140 70 lv [.int (S.1 39 0 0 v1.toNatClampNeg)] μ Q)
  refine jX.s1 (k := 3) (pc' := 71) (by rfl) (by rfl) (by rfl) (fun lv l3 kp => (?_ : jX G jP 140 71 lv [] μ Q))
  replace l0 := kp 0 _ l0 (by rfl) (by first | rfl | simp [soR_cat])
  replace l1 := kp 1 _ l1 (by rfl) (by first | rfl | simp [soR_cat])
  exact F_140_71_ok hk2 K _ v1 (S.1 39 0 0 v1.toNatClampNeg) _ _ _ l0 l1 l3 R h
def F_140_43 (G : jG) (t : Nat) (k2 : Int32 → sS → Option (Int32 × sS)) (v1 : Int32) (w0 : Int32) (S : sS) : Option (Int32 × sS) := bif jcmp .eq w0 (nI 16) then (F_140_64 G t k2 v1 S) else (bif jcmp .eq w0 (nI 19) then (F_140_64 G t k2 v1 S) else (bif jcmp .eq w0 (nI 35) then (F_140_64 G t k2 v1 S) else (some ((nI 0), S))))
theorem F_140_43_ok {G : jG} {t : Nat} {k2 : Int32 → sS → Option (Int32 × sS)} {r : Int32} {S' : sS} {Q : Option Value ⊕ Nat → jS → Prop} (hk2 : ∀ (v1 : Int32) (S : sS) (lv : jL) (μ : jS), jld lv 0 = some (.ref (spl 33 0 0)) → jld lv 1 = some (.int v1) → sR S μ → k2 v1 S = some (r, S') → jX G jP 140 2 lv [] μ Q) (K : ∀ μ', sR S' μ' → Q (srI r) μ') : ∀ (v1 : Int32) (w0 : Int32) (S : sS) (lv : jL) (μ : jS), jld lv 0 = some (.ref (spl 33 0 0)) → jld lv 1 = some (.int v1) → sR S μ → F_140_43 G t k2 v1 w0 S = some (r, S') → jX G jP 140 43 lv [.int w0] μ Q := by
  intro v1 w0 S lv μ l0 l1 R h
  unfold F_140_43 at h
  refine jX.s1 (k := 2) (pc' := 44) (by rfl) (by rfl) (by rfl) (fun lv l2 kp => (?_ : jX G jP 140 44 lv [] μ Q))
  replace l0 := kp 0 _ l0 (by rfl) (by first | rfl | simp [soR_cat])
  replace l1 := kp 1 _ l1 (by rfl) (by first | rfl | simp [soR_cat])
  refine jX.lin l2 (by rfl) (by rfl) (?_ : jX G jP 140 45 lv [.int w0] μ Q)
  refine jX.ic (v := nI 16) (n := 2) (by rfl) (by rfl) (by decide) (?_ : jX G jP 140 47 lv [.int (nI 16), .int w0] μ Q)
  rcases bif_or h with ⟨hc, h⟩ | ⟨hc, h⟩
  · refine jX.b2t hc (by rfl) (by rfl) (by rfl) (?_ : jX G jP 140 64 lv [] μ Q)
    exact F_140_64_ok hk2 K v1 _ _ _ l0 l1 R h
  · refine jX.b2f hc (by rfl) (by rfl) (by rfl) (?_ : jX G jP 140 50 lv [] μ Q)
    refine jX.lin l2 (by rfl) (by rfl) (?_ : jX G jP 140 51 lv [.int w0] μ Q)
    refine jX.ic (v := nI 19) (n := 2) (by rfl) (by rfl) (by decide) (?_ : jX G jP 140 53 lv [.int (nI 19), .int w0] μ Q)
    rcases bif_or h with ⟨hc, h⟩ | ⟨hc, h⟩
    · refine jX.b2t hc (by rfl) (by rfl) (by rfl) (?_ : jX G jP 140 64 lv [] μ Q)
      exact F_140_64_ok hk2 K v1 _ _ _ l0 l1 R h
    · refine jX.b2f hc (by rfl) (by rfl) (by rfl) (?_ : jX G jP 140 56 lv [] μ Q)
      refine jX.lin l2 (by rfl) (by rfl) (?_ : jX G jP 140 57 lv [.int w0] μ Q)
      refine jX.ic (v := nI 35) (n := 2) (by rfl) (by rfl) (by decide) (?_ : jX G jP 140 59 lv [.int (nI 35), .int w0] μ Q)
      rcases bif_or h with ⟨hc, h⟩ | ⟨hc, h⟩
      · refine jX.b2t hc (by rfl) (by rfl) (by rfl) (?_ : jX G jP 140 64 lv [] μ Q)
        exact F_140_64_ok hk2 K v1 _ _ _ l0 l1 R h
      · refine jX.b2f hc (by rfl) (by rfl) (by rfl) (?_ : jX G jP 140 62 lv [] μ Q)
        refine jX.ic (v := nI 0) (n := 1) (by rfl) (by rfl) (by decide) (?_ : jX G jP 140 63 lv [.int (nI 0)] μ Q)
        exact jX.ret (by rfl) (by rfl) (by rfl) (by rfl) (sretv (f := srI) h K R)
def F_140_2 (G : jG) (t : Nat) : Nat → Int32 → sS → Option (Int32 × sS)
  | 0 => fun _ _ => none
  | tt + 1 => fun v1 S => bif jcmp .ge v1 (S.1 33 0 0 13) then (some ((nI 1), S)) else (jif (jin v1 32) (bif jcmp .ne (S.1 40 0 0 v1.toNatClampNeg) 0 then (jif (jin v1 32) (jif (jin v1 32) (jif (jin (((S.1 39 0 0 v1.toNatClampNeg) + (S.1 40 0 0 v1.toNatClampNeg)) - (nI 1)) 1500) (F_140_43 G t (F_140_2 G t tt) v1 (S.1 41 0 0 (((S.1 39 0 0 v1.toNatClampNeg) + (S.1 40 0 0 v1.toNatClampNeg)) - (nI 1)).toNatClampNeg) S)))) else (F_140_43 G t (F_140_2 G t tt) v1 (-1) S)))
theorem F_140_2_ok {G : jG} {t : Nat} {r : Int32} {S' : sS} {Q : Option Value ⊕ Nat → jS → Prop} (K : ∀ μ', sR S' μ' → Q (srI r) μ') : ∀ tt : Nat, ∀ (v1 : Int32) (S : sS) (lv : jL) (μ : jS), jld lv 0 = some (.ref (spl 33 0 0)) → jld lv 1 = some (.int v1) → sR S μ → F_140_2 G t tt v1 S = some (r, S') → jX G jP 140 2 lv [] μ Q := by
  intro tt
  induction tt with
  | zero =>
    intro v1 S lv μ l0 l1 R h
    rw [F_140_2] at h
    cases h
  | succ tt ih =>
    intro v1 S lv μ l0 l1 R h
    rw [F_140_2] at h
    refine jX.lin l1 (by rfl) (by rfl) (?_ : jX G jP 140 3 lv [.int v1] μ Q)
    refine jX.lrn l0 (by rfl) (by rfl) (?_ : jX G jP 140 4 lv [.ref (spl 33 0 0), .int v1] μ Q)
    refine jX.sg R (by rfl) (by rfl) (by rfl) (by rfl) (by rfl) (by rfl) (?_ : jX G jP 140 7 lv [.int (S.1 33 0 0 13), .int v1] μ Q)
    rcases bif_or h with ⟨hc, h⟩ | ⟨hc, h⟩
    · refine jX.b2t hc (by rfl) (by rfl) (by rfl) (?_ : jX G jP 140 205 lv [] μ Q)
      refine jX.ic (v := nI 1) (n := 1) (by rfl) (by rfl) (by decide) (?_ : jX G jP 140 206 lv [.int (nI 1)] μ Q)
      exact jX.ret (by rfl) (by rfl) (by rfl) (by rfl) (sretv (f := srI) h K R)
    · refine jX.b2f hc (by rfl) (by rfl) (by rfl) (?_ : jX G jP 140 10 lv [] μ Q)
      refine jX.lrn l0 (by rfl) (by rfl) (?_ : jX G jP 140 11 lv [.ref (spl 33 0 0)] μ Q)
      refine jX.sg R (by rfl) (by rfl) (by rfl) (by rfl) (by rfl) (by rfl) (?_ : jX G jP 140 14 lv [.ref (spl 40 0 0)] μ Q)
      refine jX.lin l1 (by rfl) (by rfl) (?_ : jX G jP 140 15 lv [.int v1, .ref (spl 40 0 0)] μ Q)
      obtain ⟨g1, h⟩ := jif_some h
      refine jX.sai R (by rfl) (by rfl) (by rfl) (by rfl) g1 (?_ : jX G jP 140 16 lv [.int (S.1 40 0 0 v1.toNatClampNeg)] μ Q)
      rcases bif_or h with ⟨hc, h⟩ | ⟨hc, h⟩
      · refine jX.b1t hc (by rfl) (by rfl) (by rfl) (?_ : jX G jP 140 23 lv [] μ Q)
        refine jX.lrn l0 (by rfl) (by rfl) (?_ : jX G jP 140 24 lv [.ref (spl 33 0 0)] μ Q)
        refine jX.sg R (by rfl) (by rfl) (by rfl) (by rfl) (by rfl) (by rfl) (?_ : jX G jP 140 27 lv [.ref (spl 41 0 0)] μ Q)
        refine jX.lrn l0 (by rfl) (by rfl) (?_ : jX G jP 140 28 lv [.ref (spl 33 0 0), .ref (spl 41 0 0)] μ Q)
        refine jX.sg R (by rfl) (by rfl) (by rfl) (by rfl) (by rfl) (by rfl) (?_ : jX G jP 140 31 lv [.ref (spl 39 0 0), .ref (spl 41 0 0)] μ Q)
        refine jX.lin l1 (by rfl) (by rfl) (?_ : jX G jP 140 32 lv [.int v1, .ref (spl 39 0 0), .ref (spl 41 0 0)] μ Q)
        obtain ⟨g2, h⟩ := jif_some h
        refine jX.sai R (by rfl) (by rfl) (by rfl) (by rfl) g2 (?_ : jX G jP 140 33 lv [.int (S.1 39 0 0 v1.toNatClampNeg), .ref (spl 41 0 0)] μ Q)
        refine jX.lrn l0 (by rfl) (by rfl) (?_ : jX G jP 140 34 lv [.ref (spl 33 0 0), .int (S.1 39 0 0 v1.toNatClampNeg), .ref (spl 41 0 0)] μ Q)
        refine jX.sg R (by rfl) (by rfl) (by rfl) (by rfl) (by rfl) (by rfl) (?_ : jX G jP 140 37 lv [.ref (spl 40 0 0), .int (S.1 39 0 0 v1.toNatClampNeg), .ref (spl 41 0 0)] μ Q)
        refine jX.lin l1 (by rfl) (by rfl) (?_ : jX G jP 140 38 lv [.int v1, .ref (spl 40 0 0), .int (S.1 39 0 0 v1.toNatClampNeg), .ref (spl 41 0 0)] μ Q)
        obtain ⟨g3, h⟩ := jif_some h
        refine jX.sai R (by rfl) (by rfl) (by rfl) (by rfl) g3 (?_ : jX G jP 140 39 lv [.int (S.1 40 0 0 v1.toNatClampNeg), .int (S.1 39 0 0 v1.toNatClampNeg), .ref (spl 41 0 0)] μ Q)
        refine jX.go (by rfl) (by rfl) (by rfl) (?_ : jX G jP 140 40 lv [.int ((S.1 39 0 0 v1.toNatClampNeg) + (S.1 40 0 0 v1.toNatClampNeg)), .ref (spl 41 0 0)] μ Q)
        refine jX.ic (v := nI 1) (n := 1) (by rfl) (by rfl) (by decide) (?_ : jX G jP 140 41 lv [.int (nI 1), .int ((S.1 39 0 0 v1.toNatClampNeg) + (S.1 40 0 0 v1.toNatClampNeg)), .ref (spl 41 0 0)] μ Q)
        refine jX.go (by rfl) (by rfl) (by rfl) (?_ : jX G jP 140 42 lv [.int (((S.1 39 0 0 v1.toNatClampNeg) + (S.1 40 0 0 v1.toNatClampNeg)) - (nI 1)), .ref (spl 41 0 0)] μ Q)
        obtain ⟨g4, h⟩ := jif_some h
        refine jX.sai R (by rfl) (by rfl) (by rfl) (by rfl) g4 (?_ : jX G jP 140 43 lv [.int (S.1 41 0 0 (((S.1 39 0 0 v1.toNatClampNeg) + (S.1 40 0 0 v1.toNatClampNeg)) - (nI 1)).toNatClampNeg)] μ Q)
        exact F_140_43_ok ih K v1 (S.1 41 0 0 (((S.1 39 0 0 v1.toNatClampNeg) + (S.1 40 0 0 v1.toNatClampNeg)) - (nI 1)).toNatClampNeg) _ _ _ l0 l1 R h
      · refine jX.b1f hc (by rfl) (by rfl) (by rfl) (?_ : jX G jP 140 19 lv [] μ Q)
        refine jX.ic (v := (-1)) (n := 1) (by rfl) (by rfl) (by decide) (?_ : jX G jP 140 20 lv [.int (-1)] μ Q)
        refine jX.go (by rfl) (by rfl) (by rfl) (?_ : jX G jP 140 43 lv [.int (-1)] μ Q)
        exact F_140_43_ok ih K v1 (-1) _ _ _ l0 l1 R h
def F_140 (G : jG) (t : Nat) (S : sS) : Option (Int32 × sS) := F_140_2 G t t (nI 0) S
theorem F_140_ok {G : jG} {t : Nat} {S : sS} {r : Int32} {S' : sS} {μ : jS} {Q : Option Value ⊕ Nat → jS → Prop} (R : sR S μ) (h : F_140 G t S = some (r, S')) (K : ∀ μ', sR S' μ' → Q (srI r) μ') : jX G jP 140 0 (lv_args 0 [.ref (spl 33 0 0)]) [] μ Q := by
  unfold F_140 at h
  have l0 : jld (lv_args 0 [.ref (spl 33 0 0)]) 0 = some (.ref (spl 33 0 0)) := by rfl
  generalize lv_args 0 [.ref (spl 33 0 0)] = lv at *
  refine jX.ic (v := nI 0) (n := 1) (by rfl) (by rfl) (by decide) (?_ : jX G jP 140 1 lv [.int (nI 0)] μ Q)
  refine jX.s1 (k := 1) (pc' := 2) (by rfl) (by rfl) (by rfl) (fun lv l1 kp => (?_ : jX G jP 140 2 lv [] μ Q))
  replace l0 := kp 0 _ l0 (by rfl) (by first | rfl | simp [soR_cat])
  exact F_140_2_ok  K _ (nI 0) _ _ _ l0 l1 R h
/-! 141 StrandRuntimeModel.reset()V -/
def F_141_46 (G : jG) (t : Nat) : Nat → Int32 → sS → Option (Unit × sS)
  | 0 => fun _ _ => none
  | tt + 1 => fun v1 S => bif jcmp .ge v1 (nI 16) then (some ((), (siI (siI (siI (siI (siI (siI (siI (siI S 33 0 0 15 (nI 0)) 33 0 0 16 (-1)) 33 0 0 20 (nI 0)) 33 0 0 21 (nI 0)) 33 0 0 22 (nI 0)) 33 0 0 23 (nI 0)) 33 0 0 24 (nI 0)) 33 0 0 17 (nI 0)))) else (jif (jin v1 16) (jif (jin v1 16) (F_141_46 G t tt (v1 + Int32.ofInt 1) (siL (siI S 36 0 0 v1.toNatClampNeg (nI 0)) 43 0 0 v1.toNatClampNeg 0))))
theorem F_141_46_ok {G : jG} {t : Nat} {r : Unit} {S' : sS} {Q : Option Value ⊕ Nat → jS → Prop} (K : ∀ μ', sR S' μ' → Q (srV r) μ') : ∀ tt : Nat, ∀ (v1 : Int32) (S : sS) (lv : jL) (μ : jS), jld lv 0 = some (.ref (spl 33 0 0)) → jld lv 1 = some (.int v1) → sR S μ → F_141_46 G t tt v1 S = some (r, S') → jX G jP 141 46 lv [] μ Q := by
  intro tt
  induction tt with
  | zero =>
    intro v1 S lv μ l0 l1 R h
    rw [F_141_46] at h
    cases h
  | succ tt ih =>
    intro v1 S lv μ l0 l1 R h
    rw [F_141_46] at h
    refine jX.lin l1 (by rfl) (by rfl) (?_ : jX G jP 141 47 lv [.int v1] μ Q)
    refine jX.ic (v := nI 16) (n := 2) (by rfl) (by rfl) (by decide) (?_ : jX G jP 141 49 lv [.int (nI 16), .int v1] μ Q)
    rcases bif_or h with ⟨hc, h⟩ | ⟨hc, h⟩
    · refine jX.b2t hc (by rfl) (by rfl) (by rfl) (?_ : jX G jP 141 72 lv [] μ Q)
      refine jX.lrn l0 (by rfl) (by rfl) (?_ : jX G jP 141 73 lv [.ref (spl 33 0 0)] μ Q)
      refine jX.ic (v := nI 0) (n := 1) (by rfl) (by rfl) (by decide) (?_ : jX G jP 141 74 lv [.int (nI 0), .ref (spl 33 0 0)] μ Q)
      refine jX.spI R (by rfl) (by rfl) (by rfl) (by rfl) (by rfl) (by rfl) (by rfl) (by rfl) (by rfl) (fun μ R => (?_ : jX G jP 141 77 lv [] μ Q))
      refine jX.lrn l0 (by rfl) (by rfl) (?_ : jX G jP 141 78 lv [.ref (spl 33 0 0)] μ Q)
      refine jX.ic (v := (-1)) (n := 1) (by rfl) (by rfl) (by decide) (?_ : jX G jP 141 79 lv [.int (-1), .ref (spl 33 0 0)] μ Q)
      refine jX.spI R (by rfl) (by rfl) (by rfl) (by rfl) (by rfl) (by rfl) (by rfl) (by rfl) (by rfl) (fun μ R => (?_ : jX G jP 141 82 lv [] μ Q))
      refine jX.lrn l0 (by rfl) (by rfl) (?_ : jX G jP 141 83 lv [.ref (spl 33 0 0)] μ Q)
      refine jX.ic (v := nI 0) (n := 1) (by rfl) (by rfl) (by decide) (?_ : jX G jP 141 84 lv [.int (nI 0), .ref (spl 33 0 0)] μ Q)
      refine jX.spI R (by rfl) (by rfl) (by rfl) (by rfl) (by rfl) (by rfl) (by rfl) (by rfl) (by rfl) (fun μ R => (?_ : jX G jP 141 87 lv [] μ Q))
      refine jX.lrn l0 (by rfl) (by rfl) (?_ : jX G jP 141 88 lv [.ref (spl 33 0 0)] μ Q)
      refine jX.ic (v := nI 0) (n := 1) (by rfl) (by rfl) (by decide) (?_ : jX G jP 141 89 lv [.int (nI 0), .ref (spl 33 0 0)] μ Q)
      refine jX.spI R (by rfl) (by rfl) (by rfl) (by rfl) (by rfl) (by rfl) (by rfl) (by rfl) (by rfl) (fun μ R => (?_ : jX G jP 141 92 lv [] μ Q))
      refine jX.lrn l0 (by rfl) (by rfl) (?_ : jX G jP 141 93 lv [.ref (spl 33 0 0)] μ Q)
      refine jX.ic (v := nI 0) (n := 1) (by rfl) (by rfl) (by decide) (?_ : jX G jP 141 94 lv [.int (nI 0), .ref (spl 33 0 0)] μ Q)
      refine jX.spI R (by rfl) (by rfl) (by rfl) (by rfl) (by rfl) (by rfl) (by rfl) (by rfl) (by rfl) (fun μ R => (?_ : jX G jP 141 97 lv [] μ Q))
      refine jX.lrn l0 (by rfl) (by rfl) (?_ : jX G jP 141 98 lv [.ref (spl 33 0 0)] μ Q)
      refine jX.ic (v := nI 0) (n := 1) (by rfl) (by rfl) (by decide) (?_ : jX G jP 141 99 lv [.int (nI 0), .ref (spl 33 0 0)] μ Q)
      refine jX.spI R (by rfl) (by rfl) (by rfl) (by rfl) (by rfl) (by rfl) (by rfl) (by rfl) (by rfl) (fun μ R => (?_ : jX G jP 141 102 lv [] μ Q))
      refine jX.lrn l0 (by rfl) (by rfl) (?_ : jX G jP 141 103 lv [.ref (spl 33 0 0)] μ Q)
      refine jX.ic (v := nI 0) (n := 1) (by rfl) (by rfl) (by decide) (?_ : jX G jP 141 104 lv [.int (nI 0), .ref (spl 33 0 0)] μ Q)
      refine jX.spI R (by rfl) (by rfl) (by rfl) (by rfl) (by rfl) (by rfl) (by rfl) (by rfl) (by rfl) (fun μ R => (?_ : jX G jP 141 107 lv [] μ Q))
      refine jX.lrn l0 (by rfl) (by rfl) (?_ : jX G jP 141 108 lv [.ref (spl 33 0 0)] μ Q)
      refine jX.ic (v := nI 0) (n := 1) (by rfl) (by rfl) (by decide) (?_ : jX G jP 141 109 lv [.int (nI 0), .ref (spl 33 0 0)] μ Q)
      refine jX.spI R (by rfl) (by rfl) (by rfl) (by rfl) (by rfl) (by rfl) (by rfl) (by rfl) (by rfl) (fun μ R => (?_ : jX G jP 141 112 lv [] μ Q))
      exact jX.ret (by rfl) (by rfl) (by rfl) (by rfl) (sretv (f := srV) h K R)
    · refine jX.b2f hc (by rfl) (by rfl) (by rfl) (?_ : jX G jP 141 52 lv [] μ Q)
      refine jX.lrn l0 (by rfl) (by rfl) (?_ : jX G jP 141 53 lv [.ref (spl 33 0 0)] μ Q)
      refine jX.sg R (by rfl) (by rfl) (by rfl) (by rfl) (by rfl) (by rfl) (?_ : jX G jP 141 56 lv [.ref (spl 36 0 0)] μ Q)
      refine jX.lin l1 (by rfl) (by rfl) (?_ : jX G jP 141 57 lv [.int v1, .ref (spl 36 0 0)] μ Q)
      refine jX.ic (v := nI 0) (n := 1) (by rfl) (by rfl) (by decide) (?_ : jX G jP 141 58 lv [.int (nI 0), .int v1, .ref (spl 36 0 0)] μ Q)
      obtain ⟨g1, h⟩ := jif_some h
      refine jX.sti R (by rfl) (by rfl) (by rfl) (fun _ => by rfl) g1 (fun μ R => (?_ : jX G jP 141 59 lv [] μ Q))
      refine jX.lrn l0 (by rfl) (by rfl) (?_ : jX G jP 141 60 lv [.ref (spl 33 0 0)] μ Q)
      refine jX.sg R (by rfl) (by rfl) (by rfl) (by rfl) (by rfl) (by rfl) (?_ : jX G jP 141 63 lv [.ref (spl 43 0 0)] μ Q)
      refine jX.lin l1 (by rfl) (by rfl) (?_ : jX G jP 141 64 lv [.int v1, .ref (spl 43 0 0)] μ Q)
      refine jX.go (by rfl) (by rfl) (by rfl) (?_ : jX G jP 141 65 lv [.long 0, .int v1, .ref (spl 43 0 0)] μ Q)
      obtain ⟨g2, h⟩ := jif_some h
      refine jX.stl R (by rfl) (by rfl) (by rfl) (fun _ => by rfl) g2 (fun μ R => (?_ : jX G jP 141 66 lv [] μ Q))
      refine jX.inc l1 (by rfl) (by rfl) (by rfl) (fun lv l1 kp => (?_ : jX G jP 141 69 lv [] μ Q))
      replace l0 := kp 0 _ l0 (by rfl) (by first | rfl | simp [soR_cat])
      refine jX.go (by rfl) (by rfl) (by rfl) (?_ : jX G jP 141 46 lv [] μ Q)
      exact ih (v1 + Int32.ofInt 1) _ _ _ l0 l1 R h
def F_141_2 (G : jG) (t : Nat) : Nat → Int32 → sS → Option (Unit × sS)
  | 0 => fun _ _ => none
  | tt + 1 => fun v1 S => bif jcmp .ge v1 (nI 16) then (F_141_46 G t t (nI 0) S) else (jif (jin v1 16) (jif (sex S.2.2.2.1 54 v1.toNatClampNeg 0) (jif (jin v1 16) (jif (jin v1 16) (F_141_2 G t tt (v1 + Int32.ofInt 1) (siI (siI (siI S 54 v1.toNatClampNeg 0 0 (nI 0)) 54 v1.toNatClampNeg 0 1 (nI 0)) 54 v1.toNatClampNeg 0 2 (nI 0)))))))
theorem F_141_2_ok {G : jG} {t : Nat} {r : Unit} {S' : sS} {Q : Option Value ⊕ Nat → jS → Prop} (K : ∀ μ', sR S' μ' → Q (srV r) μ') : ∀ tt : Nat, ∀ (v1 : Int32) (S : sS) (lv : jL) (μ : jS), jld lv 0 = some (.ref (spl 33 0 0)) → jld lv 1 = some (.int v1) → sR S μ → F_141_2 G t tt v1 S = some (r, S') → jX G jP 141 2 lv [] μ Q := by
  intro tt
  induction tt with
  | zero =>
    intro v1 S lv μ l0 l1 R h
    rw [F_141_2] at h
    cases h
  | succ tt ih =>
    intro v1 S lv μ l0 l1 R h
    rw [F_141_2] at h
    refine jX.lin l1 (by rfl) (by rfl) (?_ : jX G jP 141 3 lv [.int v1] μ Q)
    refine jX.ic (v := nI 16) (n := 2) (by rfl) (by rfl) (by decide) (?_ : jX G jP 141 5 lv [.int (nI 16), .int v1] μ Q)
    rcases bif_or h with ⟨hc, h⟩ | ⟨hc, h⟩
    · refine jX.b2t hc (by rfl) (by rfl) (by rfl) (?_ : jX G jP 141 44 lv [] μ Q)
      refine jX.ic (v := nI 0) (n := 1) (by rfl) (by rfl) (by decide) (?_ : jX G jP 141 45 lv [.int (nI 0)] μ Q)
      refine jX.s1 (k := 1) (pc' := 46) (by rfl) (by rfl) (by rfl) (fun lv l1 kp => (?_ : jX G jP 141 46 lv [] μ Q))
      replace l0 := kp 0 _ l0 (by rfl) (by first | rfl | simp [soR_cat])
      exact F_141_46_ok  K _ (nI 0) _ _ _ l0 l1 R h
    · refine jX.b2f hc (by rfl) (by rfl) (by rfl) (?_ : jX G jP 141 8 lv [] μ Q)
      refine jX.lrn l0 (by rfl) (by rfl) (?_ : jX G jP 141 9 lv [.ref (spl 33 0 0)] μ Q)
      refine jX.sg R (by rfl) (by rfl) (by rfl) (by rfl) (by rfl) (by rfl) (?_ : jX G jP 141 12 lv [.ref (spl 35 0 0)] μ Q)
      refine jX.lin l1 (by rfl) (by rfl) (?_ : jX G jP 141 13 lv [.int v1, .ref (spl 35 0 0)] μ Q)
      obtain ⟨g1, h⟩ := jif_some h
      refine jX.sar (f := fun q => bif Nat.blt q 16 then some (spl 54 q 0) else none) R (by rfl) (by rfl) (by rfl) (by rfl) g1 (srf_in g1) (?_ : jX G jP 141 14 lv [.ref (spl 54 v1.toNatClampNeg 0)] μ Q)
      refine jX.ic (v := nI 0) (n := 1) (by rfl) (by rfl) (by decide) (?_ : jX G jP 141 15 lv [.int (nI 0), .ref (spl 54 v1.toNatClampNeg 0)] μ Q)
      obtain ⟨g2, h⟩ := jif_some h
      refine jX.spI R g2 (by rfl) (by rfl) (by rfl) (by rfl) (by rfl) (by rfl) (by rfl) (by rfl) (fun μ R => (?_ : jX G jP 141 18 lv [] μ Q))
      refine jX.lrn l0 (by rfl) (by rfl) (?_ : jX G jP 141 19 lv [.ref (spl 33 0 0)] μ Q)
      refine jX.sg R (by rfl) (by rfl) (by rfl) (by rfl) (by rfl) (by rfl) (?_ : jX G jP 141 22 lv [.ref (spl 35 0 0)] μ Q)
      refine jX.lin l1 (by rfl) (by rfl) (?_ : jX G jP 141 23 lv [.int v1, .ref (spl 35 0 0)] μ Q)
      obtain ⟨g3, h⟩ := jif_some h
      refine jX.sar (f := fun q => bif Nat.blt q 16 then some (spl 54 q 0) else none) R (by rfl) (by rfl) (by rfl) (by rfl) g3 (srf_in g3) (?_ : jX G jP 141 24 lv [.ref (spl 54 v1.toNatClampNeg 0)] μ Q)
      refine jX.ic (v := nI 0) (n := 1) (by rfl) (by rfl) (by decide) (?_ : jX G jP 141 25 lv [.int (nI 0), .ref (spl 54 v1.toNatClampNeg 0)] μ Q)
      refine jX.spI R g2 (by rfl) (by rfl) (by rfl) (by rfl) (by rfl) (by rfl) (by rfl) (by rfl) (fun μ R => (?_ : jX G jP 141 28 lv [] μ Q))
      refine jX.lrn l0 (by rfl) (by rfl) (?_ : jX G jP 141 29 lv [.ref (spl 33 0 0)] μ Q)
      refine jX.sg R (by rfl) (by rfl) (by rfl) (by rfl) (by rfl) (by rfl) (?_ : jX G jP 141 32 lv [.ref (spl 35 0 0)] μ Q)
      refine jX.lin l1 (by rfl) (by rfl) (?_ : jX G jP 141 33 lv [.int v1, .ref (spl 35 0 0)] μ Q)
      obtain ⟨g4, h⟩ := jif_some h
      refine jX.sar (f := fun q => bif Nat.blt q 16 then some (spl 54 q 0) else none) R (by rfl) (by rfl) (by rfl) (by rfl) g4 (srf_in g4) (?_ : jX G jP 141 34 lv [.ref (spl 54 v1.toNatClampNeg 0)] μ Q)
      refine jX.ic (v := nI 0) (n := 1) (by rfl) (by rfl) (by decide) (?_ : jX G jP 141 35 lv [.int (nI 0), .ref (spl 54 v1.toNatClampNeg 0)] μ Q)
      refine jX.spI R g2 (by rfl) (by rfl) (by rfl) (by rfl) (by rfl) (by rfl) (by rfl) (by rfl) (fun μ R => (?_ : jX G jP 141 38 lv [] μ Q))
      refine jX.inc l1 (by rfl) (by rfl) (by rfl) (fun lv l1 kp => (?_ : jX G jP 141 41 lv [] μ Q))
      replace l0 := kp 0 _ l0 (by rfl) (by first | rfl | simp [soR_cat])
      refine jX.go (by rfl) (by rfl) (by rfl) (?_ : jX G jP 141 2 lv [] μ Q)
      exact ih (v1 + Int32.ofInt 1) _ _ _ l0 l1 R h
def F_141 (G : jG) (t : Nat) (S : sS) : Option (Unit × sS) := F_141_2 G t t (nI 0) S
theorem F_141_ok {G : jG} {t : Nat} {S : sS} {r : Unit} {S' : sS} {μ : jS} {Q : Option Value ⊕ Nat → jS → Prop} (R : sR S μ) (h : F_141 G t S = some (r, S')) (K : ∀ μ', sR S' μ' → Q (srV r) μ') : jX G jP 141 0 (lv_args 0 [.ref (spl 33 0 0)]) [] μ Q := by
  unfold F_141 at h
  have l0 : jld (lv_args 0 [.ref (spl 33 0 0)]) 0 = some (.ref (spl 33 0 0)) := by rfl
  generalize lv_args 0 [.ref (spl 33 0 0)] = lv at *
  refine jX.ic (v := nI 0) (n := 1) (by rfl) (by rfl) (by decide) (?_ : jX G jP 141 1 lv [.int (nI 0)] μ Q)
  refine jX.s1 (k := 1) (pc' := 2) (by rfl) (by rfl) (by rfl) (fun lv l1 kp => (?_ : jX G jP 141 2 lv [] μ Q))
  replace l0 := kp 0 _ l0 (by rfl) (by first | rfl | simp [soR_cat])
  exact F_141_2_ok  K _ (nI 0) _ _ _ l0 l1 R h
/-! 142 StrandRuntimeModel.enter(LStrandRuntimeModel$Strand;IZ)V -/
def F_142_60 (G : jG) (t : Nat) : Nat → (Nat × Nat) → Int32 → sS → Option (Unit × sS)
  | 0 => fun _ _ _ => none
  | tt + 1 => fun v4 v5 S => bif jcmp .ge v5 (nI 12) then (some ((), S)) else (jif (sex S.2.2.2.1 56 v4.1 v4.2) (jif (sex S.2.2.2.1 57 v4.1 v4.2) (jif (jin v5 12) (jif (sex (siI S 57 v4.1 v4.2 v5.toNatClampNeg (nI 0)).2.2.2.1 61 v4.1 v4.2) (jif (jin v5 12) (F_142_60 G t tt v4 (v5 + Int32.ofInt 1) (siL (siI S 57 v4.1 v4.2 v5.toNatClampNeg (nI 0)) 61 v4.1 v4.2 v5.toNatClampNeg 0)))))))
theorem F_142_60_ok {G : jG} {t : Nat} {r : Unit} {S' : sS} {Q : Option Value ⊕ Nat → jS → Prop} (K : ∀ μ', sR S' μ' → Q (srV r) μ') : ∀ tt : Nat, ∀ (v4 : (Nat × Nat)) (v5 : Int32) (S : sS) (lv : jL) (μ : jS), jld lv 4 = some (.ref (spl 56 v4.1 v4.2)) → jld lv 5 = some (.int v5) → sR S μ → F_142_60 G t tt v4 v5 S = some (r, S') → jX G jP 142 60 lv [] μ Q := by
  intro tt
  induction tt with
  | zero =>
    intro v4 v5 S lv μ l4 l5 R h
    rw [F_142_60] at h
    cases h
  | succ tt ih =>
    intro v4 v5 S lv μ l4 l5 R h
    rw [F_142_60] at h
    refine jX.li l5 (by rfl) (by rfl) (?_ : jX G jP 142 62 lv [.int v5] μ Q)
    refine jX.ic (v := nI 12) (n := 2) (by rfl) (by rfl) (by decide) (?_ : jX G jP 142 64 lv [.int (nI 12), .int v5] μ Q)
    rcases bif_or h with ⟨hc, h⟩ | ⟨hc, h⟩
    · refine jX.b2t hc (by rfl) (by rfl) (by rfl) (?_ : jX G jP 142 91 lv [] μ Q)
      exact jX.ret (by rfl) (by rfl) (by rfl) (by rfl) (sretv (f := srV) h K R)
    · refine jX.b2f hc (by rfl) (by rfl) (by rfl) (?_ : jX G jP 142 67 lv [] μ Q)
      refine jX.lr l4 (by rfl) (by rfl) (?_ : jX G jP 142 69 lv [.ref (spl 56 v4.1 v4.2)] μ Q)
      obtain ⟨g1, h⟩ := jif_some h
      refine jX.sg R g1 (by rfl) (by rfl) (by rfl) (by rfl) (by rfl) (?_ : jX G jP 142 72 lv [.ref (spl 57 v4.1 v4.2)] μ Q)
      refine jX.li l5 (by rfl) (by rfl) (?_ : jX G jP 142 74 lv [.int v5, .ref (spl 57 v4.1 v4.2)] μ Q)
      refine jX.ic (v := nI 0) (n := 1) (by rfl) (by rfl) (by decide) (?_ : jX G jP 142 75 lv [.int (nI 0), .int v5, .ref (spl 57 v4.1 v4.2)] μ Q)
      obtain ⟨g2, h⟩ := jif_some h
      obtain ⟨g3, h⟩ := jif_some h
      refine jX.sti R g2 (by rfl) (by rfl) (fun _ => by rfl) g3 (fun μ R => (?_ : jX G jP 142 76 lv [] μ Q))
      refine jX.lr l4 (by rfl) (by rfl) (?_ : jX G jP 142 78 lv [.ref (spl 56 v4.1 v4.2)] μ Q)
      refine jX.sg R g1 (by rfl) (by rfl) (by rfl) (by rfl) (by rfl) (?_ : jX G jP 142 81 lv [.ref (spl 61 v4.1 v4.2)] μ Q)
      refine jX.li l5 (by rfl) (by rfl) (?_ : jX G jP 142 83 lv [.int v5, .ref (spl 61 v4.1 v4.2)] μ Q)
      refine jX.go (by rfl) (by rfl) (by rfl) (?_ : jX G jP 142 84 lv [.long 0, .int v5, .ref (spl 61 v4.1 v4.2)] μ Q)
      obtain ⟨g4, h⟩ := jif_some h
      obtain ⟨g5, h⟩ := jif_some h
      refine jX.stl R g4 (by rfl) (by rfl) (fun _ => by rfl) g5 (fun μ R => (?_ : jX G jP 142 85 lv [] μ Q))
      refine jX.inc l5 (by rfl) (by rfl) (by rfl) (fun lv l5 kp => (?_ : jX G jP 142 88 lv [] μ Q))
      replace l4 := kp 4 _ l4 (by rfl) (by first | rfl | simp [soR_cat])
      refine jX.go (by rfl) (by rfl) (by rfl) (?_ : jX G jP 142 60 lv [] μ Q)
      exact ih v4 (v5 + Int32.ofInt 1) _ _ _ l4 l5 R h
def F_142 (G : jG) (t : Nat) (v1 : (Nat × Nat)) (v2 : Int32) (v3 : Int32) (S : sS) : Option (Unit × sS) := jif (sex S.2.2.2.1 54 v1.1 v1.2) (jif (sex S.2.2.2.1 55 v1.1 0) (jif (jin (S.1 54 v1.1 v1.2 1) 30) (jif (sex (siI S 54 v1.1 v1.2 1 ((S.1 54 v1.1 v1.2 1) + (nI 1))).2.2.2.1 56 v1.1 ((S.1 54 v1.1 v1.2 1).toNatClampNeg)) (jif (jfit 1 (.int v3)) (F_142_60 G t t (v1.1, (S.1 54 v1.1 v1.2 1).toNatClampNeg) (nI 0) (siI (siI (siI (siI (siI (siI (siI S 54 v1.1 v1.2 1 ((S.1 54 v1.1 v1.2 1) + (nI 1))) 56 v1.1 ((S.1 54 v1.1 v1.2 1).toNatClampNeg) 0 v2) 56 v1.1 ((S.1 54 v1.1 v1.2 1).toNatClampNeg) 1 (nI 0)) 56 v1.1 ((S.1 54 v1.1 v1.2 1).toNatClampNeg) 2 (nI 0)) 56 v1.1 ((S.1 54 v1.1 v1.2 1).toNatClampNeg) 3 (nI 0)) 56 v1.1 ((S.1 54 v1.1 v1.2 1).toNatClampNeg) 4 (nI 0)) 56 v1.1 ((S.1 54 v1.1 v1.2 1).toNatClampNeg) 5 v3))))))
theorem F_142_ok {G : jG} {t : Nat} {v1 : (Nat × Nat)} {v2 : Int32} {v3 : Int32} {S : sS} {r : Unit} {S' : sS} {μ : jS} {Q : Option Value ⊕ Nat → jS → Prop} (R : sR S μ) (h : F_142 G t v1 v2 v3 S = some (r, S')) (K : ∀ μ', sR S' μ' → Q (srV r) μ') : jX G jP 142 0 (lv_args 0 [.ref (spl 33 0 0), .ref (spl 54 v1.1 v1.2), .int v2, .int v3]) [] μ Q := by
  unfold F_142 at h
  have l1 : jld (lv_args 0 [.ref (spl 33 0 0), .ref (spl 54 v1.1 v1.2), .int v2, .int v3]) 1 = some (.ref (spl 54 v1.1 v1.2)) := by rfl
  have l2 : jld (lv_args 0 [.ref (spl 33 0 0), .ref (spl 54 v1.1 v1.2), .int v2, .int v3]) 2 = some (.int v2) := by rfl
  have l3 : jld (lv_args 0 [.ref (spl 33 0 0), .ref (spl 54 v1.1 v1.2), .int v2, .int v3]) 3 = some (.int v3) := by rfl
  generalize lv_args 0 [.ref (spl 33 0 0), .ref (spl 54 v1.1 v1.2), .int v2, .int v3] = lv at *
  refine jX.lrn l1 (by rfl) (by rfl) (?_ : jX G jP 142 1 lv [.ref (spl 54 v1.1 v1.2)] μ Q)
  obtain ⟨g1, h⟩ := jif_some h
  refine jX.sg R g1 (by rfl) (by rfl) (by rfl) (by rfl) (by rfl) (?_ : jX G jP 142 4 lv [.ref (spl 55 v1.1 0)] μ Q)
  refine jX.lrn l1 (by rfl) (by rfl) (?_ : jX G jP 142 5 lv [.ref (spl 54 v1.1 v1.2), .ref (spl 55 v1.1 0)] μ Q)
  refine jX.sg R g1 (by rfl) (by rfl) (by rfl) (by rfl) (by rfl) (?_ : jX G jP 142 8 lv [.int (S.1 54 v1.1 v1.2 1), .ref (spl 55 v1.1 0)] μ Q)
  obtain ⟨g2, h⟩ := jif_some h
  obtain ⟨g3, h⟩ := jif_some h
  refine jX.sar (f := fun q => bif Nat.blt q 30 then some (spl 56 v1.1 q) else none) R g2 (by rfl) (by rfl) (by rfl) g3 (srf_in g3) (?_ : jX G jP 142 9 lv [.ref (spl 56 v1.1 ((S.1 54 v1.1 v1.2 1).toNatClampNeg))] μ Q)
  refine jX.s1 (k := 4) (pc' := 11) (by rfl) (by rfl) (by rfl) (fun lv l4 kp => (?_ : jX G jP 142 11 lv [] μ Q))
  replace l1 := kp 1 _ l1 (by rfl) (by first | rfl | simp [soR_cat])
  replace l2 := kp 2 _ l2 (by rfl) (by first | rfl | simp [soR_cat])
  replace l3 := kp 3 _ l3 (by rfl) (by first | rfl | simp [soR_cat])
  refine jX.lrn l1 (by rfl) (by rfl) (?_ : jX G jP 142 12 lv [.ref (spl 54 v1.1 v1.2)] μ Q)
  refine jX.go (by rfl) (by rfl) (by rfl) (?_ : jX G jP 142 13 lv [.ref (spl 54 v1.1 v1.2), .ref (spl 54 v1.1 v1.2)] μ Q)
  refine jX.sg R g1 (by rfl) (by rfl) (by rfl) (by rfl) (by rfl) (?_ : jX G jP 142 16 lv [.int (S.1 54 v1.1 v1.2 1), .ref (spl 54 v1.1 v1.2)] μ Q)
  refine jX.ic (v := nI 1) (n := 1) (by rfl) (by rfl) (by decide) (?_ : jX G jP 142 17 lv [.int (nI 1), .int (S.1 54 v1.1 v1.2 1), .ref (spl 54 v1.1 v1.2)] μ Q)
  refine jX.go (by rfl) (by rfl) (by rfl) (?_ : jX G jP 142 18 lv [.int ((S.1 54 v1.1 v1.2 1) + (nI 1)), .ref (spl 54 v1.1 v1.2)] μ Q)
  refine jX.spI R g1 (by rfl) (by rfl) (by rfl) (by rfl) (by rfl) (by rfl) (by rfl) (by rfl) (fun μ R => (?_ : jX G jP 142 21 lv [] μ Q))
  refine jX.lr l4 (by rfl) (by rfl) (?_ : jX G jP 142 23 lv [.ref (spl 56 v1.1 ((S.1 54 v1.1 v1.2 1).toNatClampNeg))] μ Q)
  refine jX.lin l2 (by rfl) (by rfl) (?_ : jX G jP 142 24 lv [.int v2, .ref (spl 56 v1.1 ((S.1 54 v1.1 v1.2 1).toNatClampNeg))] μ Q)
  obtain ⟨g4, h⟩ := jif_some h
  refine jX.spI R g4 (by rfl) (by rfl) (by rfl) (by rfl) (by rfl) (by rfl) (by rfl) (by rfl) (fun μ R => (?_ : jX G jP 142 27 lv [] μ Q))
  refine jX.lr l4 (by rfl) (by rfl) (?_ : jX G jP 142 29 lv [.ref (spl 56 v1.1 ((S.1 54 v1.1 v1.2 1).toNatClampNeg))] μ Q)
  refine jX.ic (v := nI 0) (n := 1) (by rfl) (by rfl) (by decide) (?_ : jX G jP 142 30 lv [.int (nI 0), .ref (spl 56 v1.1 ((S.1 54 v1.1 v1.2 1).toNatClampNeg))] μ Q)
  refine jX.spI R g4 (by rfl) (by rfl) (by rfl) (by rfl) (by rfl) (by rfl) (by rfl) (by rfl) (fun μ R => (?_ : jX G jP 142 33 lv [] μ Q))
  refine jX.lr l4 (by rfl) (by rfl) (?_ : jX G jP 142 35 lv [.ref (spl 56 v1.1 ((S.1 54 v1.1 v1.2 1).toNatClampNeg))] μ Q)
  refine jX.ic (v := nI 0) (n := 1) (by rfl) (by rfl) (by decide) (?_ : jX G jP 142 36 lv [.int (nI 0), .ref (spl 56 v1.1 ((S.1 54 v1.1 v1.2 1).toNatClampNeg))] μ Q)
  refine jX.spI R g4 (by rfl) (by rfl) (by rfl) (by rfl) (by rfl) (by rfl) (by rfl) (by rfl) (fun μ R => (?_ : jX G jP 142 39 lv [] μ Q))
  refine jX.lr l4 (by rfl) (by rfl) (?_ : jX G jP 142 41 lv [.ref (spl 56 v1.1 ((S.1 54 v1.1 v1.2 1).toNatClampNeg))] μ Q)
  refine jX.ic (v := nI 0) (n := 1) (by rfl) (by rfl) (by decide) (?_ : jX G jP 142 42 lv [.int (nI 0), .ref (spl 56 v1.1 ((S.1 54 v1.1 v1.2 1).toNatClampNeg))] μ Q)
  refine jX.spI R g4 (by rfl) (by rfl) (by rfl) (by rfl) (by rfl) (by rfl) (by rfl) (by rfl) (fun μ R => (?_ : jX G jP 142 45 lv [] μ Q))
  refine jX.lr l4 (by rfl) (by rfl) (?_ : jX G jP 142 47 lv [.ref (spl 56 v1.1 ((S.1 54 v1.1 v1.2 1).toNatClampNeg))] μ Q)
  refine jX.ic (v := nI 0) (n := 1) (by rfl) (by rfl) (by decide) (?_ : jX G jP 142 48 lv [.int (nI 0), .ref (spl 56 v1.1 ((S.1 54 v1.1 v1.2 1).toNatClampNeg))] μ Q)
  refine jX.spI R g4 (by rfl) (by rfl) (by rfl) (by rfl) (by rfl) (by rfl) (by rfl) (by rfl) (fun μ R => (?_ : jX G jP 142 51 lv [] μ Q))
  refine jX.lr l4 (by rfl) (by rfl) (?_ : jX G jP 142 53 lv [.ref (spl 56 v1.1 ((S.1 54 v1.1 v1.2 1).toNatClampNeg))] μ Q)
  refine jX.lin l3 (by rfl) (by rfl) (?_ : jX G jP 142 54 lv [.int v3, .ref (spl 56 v1.1 ((S.1 54 v1.1 v1.2 1).toNatClampNeg))] μ Q)
  obtain ⟨g5, h⟩ := jif_some h
  refine jX.spI R g4 (by rfl) (by rfl) (by rfl) (by rfl) (by rfl) (by rfl) g5 (by rfl) (fun μ R => (?_ : jX G jP 142 57 lv [] μ Q))
  refine jX.ic (v := nI 0) (n := 1) (by rfl) (by rfl) (by decide) (?_ : jX G jP 142 58 lv [.int (nI 0)] μ Q)
  refine jX.s1 (k := 5) (pc' := 60) (by rfl) (by rfl) (by rfl) (fun lv l5 kp => (?_ : jX G jP 142 60 lv [] μ Q))
  replace l4 := kp 4 _ l4 (by rfl) (by first | rfl | simp [soR_cat])
  exact F_142_60_ok  K _ (v1.1, (S.1 54 v1.1 v1.2 1).toNatClampNeg) (nI 0) _ _ _ l4 l5 R h
/-! 143 StrandRuntimeModel.begin(I)V -/
def F_143_34 (G : jG) (t : Nat) (v1 : Int32) (w0 : Int32) (S : sS) : Option (Unit × sS) := bif jcmp .le ((siI S 33 0 0 25 w0).1 33 0 0 25) 0 then ((F_141 G t (siI S 33 0 0 25 w0)).bind (fun q1 => jif (jin (nI 0) 16) ((F_142 G t ((nI 0).toNatClampNeg, 0) v1 (nI 0) (siI (siI q1.2 33 0 0 29 (nI 1)) 33 0 0 17 (nI 1))).bind (fun q3 => jif (jin (nI 0) 16) (jif (sex q3.2.2.2.2.1 54 ((nI 0).toNatClampNeg) 0) (some ((), (siI (siI (siI q3.2 54 ((nI 0).toNatClampNeg) 0 0 (nI 1)) 33 0 0 22 (nI 1)) 33 0 0 16 (nI 0))))))))) else (some ((), (siI S 33 0 0 25 w0)))
theorem F_143_34_ok {G : jG} {t : Nat} {r : Unit} {S' : sS} {Q : Option Value ⊕ Nat → jS → Prop} (K : ∀ μ', sR S' μ' → Q (srV r) μ') : ∀ (v1 : Int32) (w0 : Int32) (S : sS) (lv : jL) (μ : jS), jld lv 0 = some (.ref (spl 33 0 0)) → jld lv 1 = some (.int v1) → sR S μ → F_143_34 G t v1 w0 S = some (r, S') → jX G jP 143 34 lv [.int w0, .ref (spl 33 0 0)] μ Q := by
  intro v1 w0 S lv μ l0 l1 R h
  unfold F_143_34 at h
  refine jX.spI R (by rfl) (by rfl) (by rfl) (by rfl) (by rfl) (by rfl) (by rfl) (by rfl) (by rfl) (fun μ R => (?_ : jX G jP 143 37 lv [] μ Q))
  refine jX.lrn l0 (by rfl) (by rfl) (?_ : jX G jP 143 38 lv [.ref (spl 33 0 0)] μ Q)
  refine jX.sg R (by rfl) (by rfl) (by rfl) (by rfl) (by rfl) (by rfl) (?_ : jX G jP 143 41 lv [.int ((siI S 33 0 0 25 w0).1 33 0 0 25)] μ Q)
  rcases bif_or h with ⟨hc, h⟩ | ⟨hc, h⟩
  · refine jX.b1t hc (by rfl) (by rfl) (by rfl) (?_ : jX G jP 143 45 lv [] μ Q)
    refine jX.lrn l0 (by rfl) (by rfl) (?_ : jX G jP 143 46 lv [.ref (spl 33 0 0)] μ Q)
    obtain ⟨q1, e1, h⟩ := sbd h
    refine jX.cv (by rfl) (by rfl) (by rfl) (by rfl) (by rfl) (by rfl) (by rfl) (R.rec (by rfl) (by rfl)) (Nat.le_of_ble_eq_true rfl) (Nat.le_of_ble_eq_true rfl) (F_141_ok R e1 (fun μ R => ⟨rfl, (?_ : jX G jP 143 49 lv [] μ Q)⟩))
    refine jX.lrn l0 (by rfl) (by rfl) (?_ : jX G jP 143 50 lv [.ref (spl 33 0 0)] μ Q)
    refine jX.ic (v := nI 1) (n := 1) (by rfl) (by rfl) (by decide) (?_ : jX G jP 143 51 lv [.int (nI 1), .ref (spl 33 0 0)] μ Q)
    refine jX.spI R (by rfl) (by rfl) (by rfl) (by rfl) (by rfl) (by rfl) (by rfl) (by rfl) (by rfl) (fun μ R => (?_ : jX G jP 143 54 lv [] μ Q))
    refine jX.lrn l0 (by rfl) (by rfl) (?_ : jX G jP 143 55 lv [.ref (spl 33 0 0)] μ Q)
    refine jX.ic (v := nI 1) (n := 1) (by rfl) (by rfl) (by decide) (?_ : jX G jP 143 56 lv [.int (nI 1), .ref (spl 33 0 0)] μ Q)
    refine jX.spI R (by rfl) (by rfl) (by rfl) (by rfl) (by rfl) (by rfl) (by rfl) (by rfl) (by rfl) (fun μ R => (?_ : jX G jP 143 59 lv [] μ Q))
    refine jX.lrn l0 (by rfl) (by rfl) (?_ : jX G jP 143 60 lv [.ref (spl 33 0 0)] μ Q)
    refine jX.lrn l0 (by rfl) (by rfl) (?_ : jX G jP 143 61 lv [.ref (spl 33 0 0), .ref (spl 33 0 0)] μ Q)
    refine jX.sg R (by rfl) (by rfl) (by rfl) (by rfl) (by rfl) (by rfl) (?_ : jX G jP 143 64 lv [.ref (spl 35 0 0), .ref (spl 33 0 0)] μ Q)
    refine jX.ic (v := nI 0) (n := 1) (by rfl) (by rfl) (by decide) (?_ : jX G jP 143 65 lv [.int (nI 0), .ref (spl 35 0 0), .ref (spl 33 0 0)] μ Q)
    obtain ⟨g2, h⟩ := jif_some h
    refine jX.sar (f := fun q => bif Nat.blt q 16 then some (spl 54 q 0) else none) R (by rfl) (by rfl) (by rfl) (by rfl) g2 (srf_in g2) (?_ : jX G jP 143 66 lv [.ref (spl 54 ((nI 0).toNatClampNeg) 0), .ref (spl 33 0 0)] μ Q)
    refine jX.lin l1 (by rfl) (by rfl) (?_ : jX G jP 143 67 lv [.int v1, .ref (spl 54 ((nI 0).toNatClampNeg) 0), .ref (spl 33 0 0)] μ Q)
    refine jX.ic (v := nI 0) (n := 1) (by rfl) (by rfl) (by decide) (?_ : jX G jP 143 68 lv [.int (nI 0), .int v1, .ref (spl 54 ((nI 0).toNatClampNeg) 0), .ref (spl 33 0 0)] μ Q)
    obtain ⟨q3, e3, h⟩ := sbd h
    refine jX.cv (by rfl) (by rfl) (by rfl) (by rfl) (by rfl) (by rfl) (by rfl) (R.rec (by rfl) (by rfl)) (Nat.le_of_ble_eq_true rfl) (Nat.le_of_ble_eq_true rfl) (F_142_ok R e3 (fun μ R => ⟨rfl, (?_ : jX G jP 143 71 lv [] μ Q)⟩))
    refine jX.lrn l0 (by rfl) (by rfl) (?_ : jX G jP 143 72 lv [.ref (spl 33 0 0)] μ Q)
    refine jX.sg R (by rfl) (by rfl) (by rfl) (by rfl) (by rfl) (by rfl) (?_ : jX G jP 143 75 lv [.ref (spl 35 0 0)] μ Q)
    refine jX.ic (v := nI 0) (n := 1) (by rfl) (by rfl) (by decide) (?_ : jX G jP 143 76 lv [.int (nI 0), .ref (spl 35 0 0)] μ Q)
    obtain ⟨g4, h⟩ := jif_some h
    refine jX.sar (f := fun q => bif Nat.blt q 16 then some (spl 54 q 0) else none) R (by rfl) (by rfl) (by rfl) (by rfl) g4 (srf_in g4) (?_ : jX G jP 143 77 lv [.ref (spl 54 ((nI 0).toNatClampNeg) 0)] μ Q)
    refine jX.ic (v := nI 1) (n := 1) (by rfl) (by rfl) (by decide) (?_ : jX G jP 143 78 lv [.int (nI 1), .ref (spl 54 ((nI 0).toNatClampNeg) 0)] μ Q)
    obtain ⟨g5, h⟩ := jif_some h
    refine jX.spI R g5 (by rfl) (by rfl) (by rfl) (by rfl) (by rfl) (by rfl) (by rfl) (by rfl) (fun μ R => (?_ : jX G jP 143 81 lv [] μ Q))
    refine jX.lrn l0 (by rfl) (by rfl) (?_ : jX G jP 143 82 lv [.ref (spl 33 0 0)] μ Q)
    refine jX.ic (v := nI 1) (n := 1) (by rfl) (by rfl) (by decide) (?_ : jX G jP 143 83 lv [.int (nI 1), .ref (spl 33 0 0)] μ Q)
    refine jX.spI R (by rfl) (by rfl) (by rfl) (by rfl) (by rfl) (by rfl) (by rfl) (by rfl) (by rfl) (fun μ R => (?_ : jX G jP 143 86 lv [] μ Q))
    refine jX.lrn l0 (by rfl) (by rfl) (?_ : jX G jP 143 87 lv [.ref (spl 33 0 0)] μ Q)
    refine jX.ic (v := nI 0) (n := 1) (by rfl) (by rfl) (by decide) (?_ : jX G jP 143 88 lv [.int (nI 0), .ref (spl 33 0 0)] μ Q)
    refine jX.spI R (by rfl) (by rfl) (by rfl) (by rfl) (by rfl) (by rfl) (by rfl) (by rfl) (by rfl) (fun μ R => (?_ : jX G jP 143 91 lv [] μ Q))
    exact jX.ret (by rfl) (by rfl) (by rfl) (by rfl) (sretv (f := srV) h K R)
  · refine jX.b1f hc (by rfl) (by rfl) (by rfl) (?_ : jX G jP 143 44 lv [] μ Q)
    exact jX.ret (by rfl) (by rfl) (by rfl) (by rfl) (sretv (f := srV) h K R)
def F_143_29 (G : jG) (t : Nat) (v1 : Int32) (S : sS) : Option (Unit × sS) := F_143_34 G t v1 (nI 1) S
theorem F_143_29_ok {G : jG} {t : Nat} {r : Unit} {S' : sS} {Q : Option Value ⊕ Nat → jS → Prop} (K : ∀ μ', sR S' μ' → Q (srV r) μ') : ∀ (v1 : Int32) (S : sS) (lv : jL) (μ : jS), jld lv 0 = some (.ref (spl 33 0 0)) → jld lv 1 = some (.int v1) → sR S μ → F_143_29 G t v1 S = some (r, S') → jX G jP 143 29 lv [.ref (spl 33 0 0)] μ Q := by
  intro v1 S lv μ l0 l1 R h
  unfold F_143_29 at h
  refine jX.ic (v := nI 1) (n := 1) (by rfl) (by rfl) (by decide) (?_ : jX G jP 143 30 lv [.int (nI 1), .ref (spl 33 0 0)] μ Q)
  refine jX.go (by rfl) (by rfl) (by rfl) (?_ : jX G jP 143 34 lv [.int (nI 1), .ref (spl 33 0 0)] μ Q)
  exact F_143_34_ok  K v1 (nI 1) _ _ _ l0 l1 R h
def F_143 (G : jG) (t : Nat) (v1 : Int32) (S : sS) : Option (Unit × sS) := bif jcmp .lt v1 0 then (F_143_29 G t v1 S) else (bif jcmp .ge v1 (S.1 33 0 0 13) then (F_143_29 G t v1 S) else (jif (jin v1 32) (bif jcmp .ne (S.1 37 0 0 v1.toNatClampNeg) 0 then (F_143_29 G t v1 S) else ((F_140 G t S).bind (fun q2 => bif jcmp .ne q2.1 0 then (F_143_34 G t v1 (nI 0) q2.2) else (F_143_29 G t v1 q2.2))))))
theorem F_143_ok {G : jG} {t : Nat} {v1 : Int32} {S : sS} {r : Unit} {S' : sS} {μ : jS} {Q : Option Value ⊕ Nat → jS → Prop} (R : sR S μ) (h : F_143 G t v1 S = some (r, S')) (K : ∀ μ', sR S' μ' → Q (srV r) μ') : jX G jP 143 0 (lv_args 0 [.ref (spl 33 0 0), .int v1]) [] μ Q := by
  unfold F_143 at h
  have l0 : jld (lv_args 0 [.ref (spl 33 0 0), .int v1]) 0 = some (.ref (spl 33 0 0)) := by rfl
  have l1 : jld (lv_args 0 [.ref (spl 33 0 0), .int v1]) 1 = some (.int v1) := by rfl
  generalize lv_args 0 [.ref (spl 33 0 0), .int v1] = lv at *
  refine jX.lrn l0 (by rfl) (by rfl) (?_ : jX G jP 143 1 lv [.ref (spl 33 0 0)] μ Q)
  refine jX.lin l1 (by rfl) (by rfl) (?_ : jX G jP 143 2 lv [.int v1, .ref (spl 33 0 0)] μ Q)
  rcases bif_or h with ⟨hc, h⟩ | ⟨hc, h⟩
  · refine jX.b1t hc (by rfl) (by rfl) (by rfl) (?_ : jX G jP 143 29 lv [.ref (spl 33 0 0)] μ Q)
    exact F_143_29_ok  K v1 _ _ _ l0 l1 R h
  · refine jX.b1f hc (by rfl) (by rfl) (by rfl) (?_ : jX G jP 143 5 lv [.ref (spl 33 0 0)] μ Q)
    refine jX.lin l1 (by rfl) (by rfl) (?_ : jX G jP 143 6 lv [.int v1, .ref (spl 33 0 0)] μ Q)
    refine jX.lrn l0 (by rfl) (by rfl) (?_ : jX G jP 143 7 lv [.ref (spl 33 0 0), .int v1, .ref (spl 33 0 0)] μ Q)
    refine jX.sg R (by rfl) (by rfl) (by rfl) (by rfl) (by rfl) (by rfl) (?_ : jX G jP 143 10 lv [.int (S.1 33 0 0 13), .int v1, .ref (spl 33 0 0)] μ Q)
    rcases bif_or h with ⟨hc, h⟩ | ⟨hc, h⟩
    · refine jX.b2t hc (by rfl) (by rfl) (by rfl) (?_ : jX G jP 143 29 lv [.ref (spl 33 0 0)] μ Q)
      exact F_143_29_ok  K v1 _ _ _ l0 l1 R h
    · refine jX.b2f hc (by rfl) (by rfl) (by rfl) (?_ : jX G jP 143 13 lv [.ref (spl 33 0 0)] μ Q)
      refine jX.lrn l0 (by rfl) (by rfl) (?_ : jX G jP 143 14 lv [.ref (spl 33 0 0), .ref (spl 33 0 0)] μ Q)
      refine jX.sg R (by rfl) (by rfl) (by rfl) (by rfl) (by rfl) (by rfl) (?_ : jX G jP 143 17 lv [.ref (spl 37 0 0), .ref (spl 33 0 0)] μ Q)
      refine jX.lin l1 (by rfl) (by rfl) (?_ : jX G jP 143 18 lv [.int v1, .ref (spl 37 0 0), .ref (spl 33 0 0)] μ Q)
      obtain ⟨g1, h⟩ := jif_some h
      refine jX.sai R (by rfl) (by rfl) (by rfl) (by rfl) g1 (?_ : jX G jP 143 19 lv [.int (S.1 37 0 0 v1.toNatClampNeg), .ref (spl 33 0 0)] μ Q)
      rcases bif_or h with ⟨hc, h⟩ | ⟨hc, h⟩
      · refine jX.b1t hc (by rfl) (by rfl) (by rfl) (?_ : jX G jP 143 29 lv [.ref (spl 33 0 0)] μ Q)
        exact F_143_29_ok  K v1 _ _ _ l0 l1 R h
      · refine jX.b1f hc (by rfl) (by rfl) (by rfl) (?_ : jX G jP 143 22 lv [.ref (spl 33 0 0)] μ Q)
        refine jX.lrn l0 (by rfl) (by rfl) (?_ : jX G jP 143 23 lv [.ref (spl 33 0 0), .ref (spl 33 0 0)] μ Q)
        obtain ⟨q2, e2, h⟩ := sbd h
        refine jX.c1 (v := .int q2.1) (by rfl) (by rfl) (by rfl) (by rfl) (by rfl) (by rfl) (by rfl) (R.rec (by rfl) (by rfl)) (Nat.le_of_ble_eq_true rfl) (Nat.le_of_ble_eq_true rfl) (F_140_ok R e2 (fun μ R => ⟨rfl, (?_ : jX G jP 143 26 lv [.int q2.1, .ref (spl 33 0 0)] μ Q)⟩))
        rcases bif_or h with ⟨hc, h⟩ | ⟨hc, h⟩
        · refine jX.b1t hc (by rfl) (by rfl) (by rfl) (?_ : jX G jP 143 33 lv [.ref (spl 33 0 0)] μ Q)
          refine jX.ic (v := nI 0) (n := 1) (by rfl) (by rfl) (by decide) (?_ : jX G jP 143 34 lv [.int (nI 0), .ref (spl 33 0 0)] μ Q)
          exact F_143_34_ok  K v1 (nI 0) _ _ _ l0 l1 R h
        · refine jX.b1f hc (by rfl) (by rfl) (by rfl) (?_ : jX G jP 143 29 lv [.ref (spl 33 0 0)] μ Q)
          exact F_143_29_ok  K v1 _ _ _ l0 l1 R h
/-! 144 StrandRuntimeModel.clear()I -/
def F_144 (G : jG) (t : Nat) (S : sS) : Option (Int32 × sS) := (F_141 G t (siI S 33 0 0 25 (nI 0))).bind (fun q1 => some (((siI S 33 0 0 25 (nI 0)).1 33 0 0 13), (siI (siI (siI q1.2 33 0 0 13 (nI 0)) 33 0 0 14 (nI 0)) 33 0 0 29 (nI 0))))
theorem F_144_ok {G : jG} {t : Nat} {S : sS} {r : Int32} {S' : sS} {μ : jS} {Q : Option Value ⊕ Nat → jS → Prop} (R : sR S μ) (h : F_144 G t S = some (r, S')) (K : ∀ μ', sR S' μ' → Q (srI r) μ') : jX G jP 144 0 (lv_args 0 [.ref (spl 33 0 0)]) [] μ Q := by
  unfold F_144 at h
  have l0 : jld (lv_args 0 [.ref (spl 33 0 0)]) 0 = some (.ref (spl 33 0 0)) := by rfl
  generalize lv_args 0 [.ref (spl 33 0 0)] = lv at *
  refine jX.lrn l0 (by rfl) (by rfl) (?_ : jX G jP 144 1 lv [.ref (spl 33 0 0)] μ Q)
  refine jX.ic (v := nI 0) (n := 1) (by rfl) (by rfl) (by decide) (?_ : jX G jP 144 2 lv [.int (nI 0), .ref (spl 33 0 0)] μ Q)
  refine jX.spI R (by rfl) (by rfl) (by rfl) (by rfl) (by rfl) (by rfl) (by rfl) (by rfl) (by rfl) (fun μ R => (?_ : jX G jP 144 5 lv [] μ Q))
  refine jX.lrn l0 (by rfl) (by rfl) (?_ : jX G jP 144 6 lv [.ref (spl 33 0 0)] μ Q)
  refine jX.sg R (by rfl) (by rfl) (by rfl) (by rfl) (by rfl) (by rfl) (?_ : jX G jP 144 9 lv [.int ((siI S 33 0 0 25 (nI 0)).1 33 0 0 13)] μ Q)
  refine jX.s1 (k := 1) (pc' := 10) (by rfl) (by rfl) (by rfl) (fun lv l1 kp => (?_ : jX G jP 144 10 lv [] μ Q))
  replace l0 := kp 0 _ l0 (by rfl) (by first | rfl | simp [soR_cat])
  refine jX.lrn l0 (by rfl) (by rfl) (?_ : jX G jP 144 11 lv [.ref (spl 33 0 0)] μ Q)
  obtain ⟨q1, e1, h⟩ := sbd h
  refine jX.cv (by rfl) (by rfl) (by rfl) (by rfl) (by rfl) (by rfl) (by rfl) (R.rec (by rfl) (by rfl)) (Nat.le_of_ble_eq_true rfl) (Nat.le_of_ble_eq_true rfl) (F_141_ok R e1 (fun μ R => ⟨rfl, (?_ : jX G jP 144 14 lv [] μ Q)⟩))
  refine jX.lrn l0 (by rfl) (by rfl) (?_ : jX G jP 144 15 lv [.ref (spl 33 0 0)] μ Q)
  refine jX.ic (v := nI 0) (n := 1) (by rfl) (by rfl) (by decide) (?_ : jX G jP 144 16 lv [.int (nI 0), .ref (spl 33 0 0)] μ Q)
  refine jX.spI R (by rfl) (by rfl) (by rfl) (by rfl) (by rfl) (by rfl) (by rfl) (by rfl) (by rfl) (fun μ R => (?_ : jX G jP 144 19 lv [] μ Q))
  refine jX.lrn l0 (by rfl) (by rfl) (?_ : jX G jP 144 20 lv [.ref (spl 33 0 0)] μ Q)
  refine jX.ic (v := nI 0) (n := 1) (by rfl) (by rfl) (by decide) (?_ : jX G jP 144 21 lv [.int (nI 0), .ref (spl 33 0 0)] μ Q)
  refine jX.spI R (by rfl) (by rfl) (by rfl) (by rfl) (by rfl) (by rfl) (by rfl) (by rfl) (by rfl) (fun μ R => (?_ : jX G jP 144 24 lv [] μ Q))
  refine jX.lrn l0 (by rfl) (by rfl) (?_ : jX G jP 144 25 lv [.ref (spl 33 0 0)] μ Q)
  refine jX.ic (v := nI 0) (n := 1) (by rfl) (by rfl) (by decide) (?_ : jX G jP 144 26 lv [.int (nI 0), .ref (spl 33 0 0)] μ Q)
  refine jX.spI R (by rfl) (by rfl) (by rfl) (by rfl) (by rfl) (by rfl) (by rfl) (by rfl) (by rfl) (fun μ R => (?_ : jX G jP 144 29 lv [] μ Q))
  refine jX.lin l1 (by rfl) (by rfl) (?_ : jX G jP 144 30 lv [.int ((siI S 33 0 0 25 (nI 0)).1 33 0 0 13)] μ Q)
  exact jX.ret (by rfl) (by rfl) (by rfl) (by rfl) (sretv (f := srI) h K R)
/-! 145 StrandRuntimeLaw.quantum(LStrandRuntime;I[J)I -/
def F_145 (G : jG) (t : Nat) (v1 : Int32) (S : sS) : Option (Int32 × sS) := (F_72 G t v1 S).bind (fun q1 => ssm q1.1 (fun y1 => jif (jin (nI 0) 1) (some ((nI 0), (siL q1.2 64 0 0 (nI 0).toNatClampNeg y1.toInt64)))) (fun x1 => bif Nat.beq x1 0 then (some ((nI 1), q1.2)) else (none)))
theorem F_145_ok {G : jG} {t : Nat} {v1 : Int32} {S : sS} {r : Int32} {S' : sS} {μ : jS} {Q : Option Value ⊕ Nat → jS → Prop} (R : sR S μ) (h : F_145 G t v1 S = some (r, S')) (K : ∀ μ', sR S' μ' → Q (srI r) μ') : jX G jP 145 0 (lv_args 0 [.ref (spl 0 0 0), .int v1, .ref (spl 64 0 0)]) [] μ Q := by
  unfold F_145 at h
  have l0 : jld (lv_args 0 [.ref (spl 0 0 0), .int v1, .ref (spl 64 0 0)]) 0 = some (.ref (spl 0 0 0)) := by rfl
  have l1 : jld (lv_args 0 [.ref (spl 0 0 0), .int v1, .ref (spl 64 0 0)]) 1 = some (.int v1) := by rfl
  have l2 : jld (lv_args 0 [.ref (spl 0 0 0), .int v1, .ref (spl 64 0 0)]) 2 = some (.ref (spl 64 0 0)) := by rfl
  generalize lv_args 0 [.ref (spl 0 0 0), .int v1, .ref (spl 64 0 0)] = lv at *
  refine jX.lrn l2 (by rfl) (by rfl) (?_ : jX G jP 145 1 lv [.ref (spl 64 0 0)] μ Q)
  refine jX.ic (v := nI 0) (n := 1) (by rfl) (by rfl) (by decide) (?_ : jX G jP 145 2 lv [.int (nI 0), .ref (spl 64 0 0)] μ Q)
  refine jX.lrn l0 (by rfl) (by rfl) (?_ : jX G jP 145 3 lv [.ref (spl 0 0 0), .int (nI 0), .ref (spl 64 0 0)] μ Q)
  refine jX.lin l1 (by rfl) (by rfl) (?_ : jX G jP 145 4 lv [.int v1, .ref (spl 0 0 0), .int (nI 0), .ref (spl 64 0 0)] μ Q)
  obtain ⟨q1, e1, h⟩ := sbd h
  refine jX.call (by rfl) (by rfl) (by rfl) (by rfl) (by rfl) (by rfl) (by rfl) (R.rec (by rfl) (by rfl)) (Nat.le_of_ble_eq_true rfl) (Nat.le_of_ble_eq_true rfl) (F_72_ok R e1 (fun μ R => ?_))
  rcases ssm_or h with ⟨y1, f1, h⟩ | ⟨x1, f1, h⟩
  · rw [f1]
    show jX G jP 145 7 lv [.int y1, .int (nI 0), .ref (spl 64 0 0)] μ Q
    refine jX.go (by rfl) (by rfl) (by rfl) (?_ : jX G jP 145 8 lv [.long y1.toInt64, .int (nI 0), .ref (spl 64 0 0)] μ Q)
    obtain ⟨g2, h⟩ := jif_some h
    refine jX.stl R (by rfl) (by rfl) (by rfl) (fun _ => by rfl) g2 (fun μ R => (?_ : jX G jP 145 9 lv [] μ Q))
    refine jX.go (by rfl) (by rfl) (by rfl) (?_ : jX G jP 145 15 lv [] μ Q)
    refine jX.ic (v := nI 0) (n := 1) (by rfl) (by rfl) (by decide) (?_ : jX G jP 145 16 lv [.int (nI 0)] μ Q)
    exact jX.ret (by rfl) (by rfl) (by rfl) (by rfl) (sretv (f := srI) h K R)
  · rw [f1]
    show ∃ hh z, jP.2.2.1 145 4 x1 = some (hh, z) ∧ jX G jP 145 hh (jdrop lv z) [] μ Q
    rcases bif_or h with ⟨hc, h⟩ | ⟨-, h⟩
    · obtain rfl := Nat.eq_of_beq_eq_true hc
      refine ⟨_, _, rfl, ?_⟩
      generalize jdrop lv 3 = lv
      show jX G jP 145 13 lv [] μ Q
      refine jX.ic (v := nI 1) (n := 1) (by rfl) (by rfl) (by decide) (?_ : jX G jP 145 14 lv [.int (nI 1)] μ Q)
      exact jX.ret (by rfl) (by rfl) (by rfl) (by rfl) (sretv (f := srI) h K R)
    cases h
/-! 146 StrandRuntimeModel.quantum(I)I -/
def F_146_17 (G : jG) (t : Nat) (v1 : Int32) (w0 : Int32) (S : sS) : Option (Int32 × sS) := bif jcmp .le ((siI S 33 0 0 25 w0).1 33 0 0 25) 0 then (some (((siI S 33 0 0 25 w0).1 33 0 0 18), (siI (siI S 33 0 0 25 w0) 33 0 0 18 v1))) else (some ((nI 0), (siI S 33 0 0 25 w0)))
theorem F_146_17_ok {G : jG} {t : Nat} {r : Int32} {S' : sS} {Q : Option Value ⊕ Nat → jS → Prop} (K : ∀ μ', sR S' μ' → Q (srI r) μ') : ∀ (v1 : Int32) (w0 : Int32) (S : sS) (lv : jL) (μ : jS), jld lv 0 = some (.ref (spl 33 0 0)) → jld lv 1 = some (.int v1) → sR S μ → F_146_17 G t v1 w0 S = some (r, S') → jX G jP 146 17 lv [.int w0, .ref (spl 33 0 0)] μ Q := by
  intro v1 w0 S lv μ l0 l1 R h
  unfold F_146_17 at h
  refine jX.spI R (by rfl) (by rfl) (by rfl) (by rfl) (by rfl) (by rfl) (by rfl) (by rfl) (by rfl) (fun μ R => (?_ : jX G jP 146 20 lv [] μ Q))
  refine jX.lrn l0 (by rfl) (by rfl) (?_ : jX G jP 146 21 lv [.ref (spl 33 0 0)] μ Q)
  refine jX.sg R (by rfl) (by rfl) (by rfl) (by rfl) (by rfl) (by rfl) (?_ : jX G jP 146 24 lv [.int ((siI S 33 0 0 25 w0).1 33 0 0 25)] μ Q)
  rcases bif_or h with ⟨hc, h⟩ | ⟨hc, h⟩
  · refine jX.b1t hc (by rfl) (by rfl) (by rfl) (?_ : jX G jP 146 29 lv [] μ Q)
    refine jX.lrn l0 (by rfl) (by rfl) (?_ : jX G jP 146 30 lv [.ref (spl 33 0 0)] μ Q)
    refine jX.sg R (by rfl) (by rfl) (by rfl) (by rfl) (by rfl) (by rfl) (?_ : jX G jP 146 33 lv [.int ((siI S 33 0 0 25 w0).1 33 0 0 18)] μ Q)
    refine jX.s1 (k := 2) (pc' := 34) (by rfl) (by rfl) (by rfl) (fun lv l2 kp => (?_ : jX G jP 146 34 lv [] μ Q))
    replace l0 := kp 0 _ l0 (by rfl) (by first | rfl | simp [soR_cat])
    replace l1 := kp 1 _ l1 (by rfl) (by first | rfl | simp [soR_cat])
    refine jX.lrn l0 (by rfl) (by rfl) (?_ : jX G jP 146 35 lv [.ref (spl 33 0 0)] μ Q)
    refine jX.lin l1 (by rfl) (by rfl) (?_ : jX G jP 146 36 lv [.int v1, .ref (spl 33 0 0)] μ Q)
    refine jX.spI R (by rfl) (by rfl) (by rfl) (by rfl) (by rfl) (by rfl) (by rfl) (by rfl) (by rfl) (fun μ R => (?_ : jX G jP 146 39 lv [] μ Q))
    refine jX.lin l2 (by rfl) (by rfl) (?_ : jX G jP 146 40 lv [.int ((siI S 33 0 0 25 w0).1 33 0 0 18)] μ Q)
    exact jX.ret (by rfl) (by rfl) (by rfl) (by rfl) (sretv (f := srI) h K R)
  · refine jX.b1f hc (by rfl) (by rfl) (by rfl) (?_ : jX G jP 146 27 lv [] μ Q)
    refine jX.ic (v := nI 0) (n := 1) (by rfl) (by rfl) (by decide) (?_ : jX G jP 146 28 lv [.int (nI 0)] μ Q)
    exact jX.ret (by rfl) (by rfl) (by rfl) (by rfl) (sretv (f := srI) h K R)
def F_146_12 (G : jG) (t : Nat) (v1 : Int32) (S : sS) : Option (Int32 × sS) := F_146_17 G t v1 (nI 1) S
theorem F_146_12_ok {G : jG} {t : Nat} {r : Int32} {S' : sS} {Q : Option Value ⊕ Nat → jS → Prop} (K : ∀ μ', sR S' μ' → Q (srI r) μ') : ∀ (v1 : Int32) (S : sS) (lv : jL) (μ : jS), jld lv 0 = some (.ref (spl 33 0 0)) → jld lv 1 = some (.int v1) → sR S μ → F_146_12 G t v1 S = some (r, S') → jX G jP 146 12 lv [.ref (spl 33 0 0)] μ Q := by
  intro v1 S lv μ l0 l1 R h
  unfold F_146_12 at h
  refine jX.ic (v := nI 1) (n := 1) (by rfl) (by rfl) (by decide) (?_ : jX G jP 146 13 lv [.int (nI 1), .ref (spl 33 0 0)] μ Q)
  refine jX.go (by rfl) (by rfl) (by rfl) (?_ : jX G jP 146 17 lv [.int (nI 1), .ref (spl 33 0 0)] μ Q)
  exact F_146_17_ok  K v1 (nI 1) _ _ _ l0 l1 R h
def F_146 (G : jG) (t : Nat) (v1 : Int32) (S : sS) : Option (Int32 × sS) := bif jcmp .lt v1 (nI 1) then (F_146_12 G t v1 S) else (bif jcmp .le v1 (nI 100) then (F_146_17 G t v1 (nI 0) S) else (F_146_12 G t v1 S))
theorem F_146_ok {G : jG} {t : Nat} {v1 : Int32} {S : sS} {r : Int32} {S' : sS} {μ : jS} {Q : Option Value ⊕ Nat → jS → Prop} (R : sR S μ) (h : F_146 G t v1 S = some (r, S')) (K : ∀ μ', sR S' μ' → Q (srI r) μ') : jX G jP 146 0 (lv_args 0 [.ref (spl 33 0 0), .int v1]) [] μ Q := by
  unfold F_146 at h
  have l0 : jld (lv_args 0 [.ref (spl 33 0 0), .int v1]) 0 = some (.ref (spl 33 0 0)) := by rfl
  have l1 : jld (lv_args 0 [.ref (spl 33 0 0), .int v1]) 1 = some (.int v1) := by rfl
  generalize lv_args 0 [.ref (spl 33 0 0), .int v1] = lv at *
  refine jX.lrn l0 (by rfl) (by rfl) (?_ : jX G jP 146 1 lv [.ref (spl 33 0 0)] μ Q)
  refine jX.lin l1 (by rfl) (by rfl) (?_ : jX G jP 146 2 lv [.int v1, .ref (spl 33 0 0)] μ Q)
  refine jX.ic (v := nI 1) (n := 1) (by rfl) (by rfl) (by decide) (?_ : jX G jP 146 3 lv [.int (nI 1), .int v1, .ref (spl 33 0 0)] μ Q)
  rcases bif_or h with ⟨hc, h⟩ | ⟨hc, h⟩
  · refine jX.b2t hc (by rfl) (by rfl) (by rfl) (?_ : jX G jP 146 12 lv [.ref (spl 33 0 0)] μ Q)
    exact F_146_12_ok  K v1 _ _ _ l0 l1 R h
  · refine jX.b2f hc (by rfl) (by rfl) (by rfl) (?_ : jX G jP 146 6 lv [.ref (spl 33 0 0)] μ Q)
    refine jX.lin l1 (by rfl) (by rfl) (?_ : jX G jP 146 7 lv [.int v1, .ref (spl 33 0 0)] μ Q)
    refine jX.ic (v := nI 100) (n := 2) (by rfl) (by rfl) (by decide) (?_ : jX G jP 146 9 lv [.int (nI 100), .int v1, .ref (spl 33 0 0)] μ Q)
    rcases bif_or h with ⟨hc, h⟩ | ⟨hc, h⟩
    · refine jX.b2t hc (by rfl) (by rfl) (by rfl) (?_ : jX G jP 146 16 lv [.ref (spl 33 0 0)] μ Q)
      refine jX.ic (v := nI 0) (n := 1) (by rfl) (by rfl) (by decide) (?_ : jX G jP 146 17 lv [.int (nI 0), .ref (spl 33 0 0)] μ Q)
      exact F_146_17_ok  K v1 (nI 0) _ _ _ l0 l1 R h
    · refine jX.b2f hc (by rfl) (by rfl) (by rfl) (?_ : jX G jP 146 12 lv [.ref (spl 33 0 0)] μ Q)
      exact F_146_12_ok  K v1 _ _ _ l0 l1 R h
/-! 147 StrandRuntimeLaw.pace(LStrandRuntime;I[J)I -/
def F_147 (G : jG) (t : Nat) (v1 : Int32) (S : sS) : Option (Int32 × sS) := (F_71 G t v1 S).bind (fun q1 => ssm q1.1 (fun y1 => jif (jin (nI 0) 1) (some ((nI 0), (siL q1.2 64 0 0 (nI 0).toNatClampNeg y1.toInt64)))) (fun x1 => bif Nat.beq x1 0 then (some ((nI 1), q1.2)) else (none)))
theorem F_147_ok {G : jG} {t : Nat} {v1 : Int32} {S : sS} {r : Int32} {S' : sS} {μ : jS} {Q : Option Value ⊕ Nat → jS → Prop} (R : sR S μ) (h : F_147 G t v1 S = some (r, S')) (K : ∀ μ', sR S' μ' → Q (srI r) μ') : jX G jP 147 0 (lv_args 0 [.ref (spl 0 0 0), .int v1, .ref (spl 64 0 0)]) [] μ Q := by
  unfold F_147 at h
  have l0 : jld (lv_args 0 [.ref (spl 0 0 0), .int v1, .ref (spl 64 0 0)]) 0 = some (.ref (spl 0 0 0)) := by rfl
  have l1 : jld (lv_args 0 [.ref (spl 0 0 0), .int v1, .ref (spl 64 0 0)]) 1 = some (.int v1) := by rfl
  have l2 : jld (lv_args 0 [.ref (spl 0 0 0), .int v1, .ref (spl 64 0 0)]) 2 = some (.ref (spl 64 0 0)) := by rfl
  generalize lv_args 0 [.ref (spl 0 0 0), .int v1, .ref (spl 64 0 0)] = lv at *
  refine jX.lrn l2 (by rfl) (by rfl) (?_ : jX G jP 147 1 lv [.ref (spl 64 0 0)] μ Q)
  refine jX.ic (v := nI 0) (n := 1) (by rfl) (by rfl) (by decide) (?_ : jX G jP 147 2 lv [.int (nI 0), .ref (spl 64 0 0)] μ Q)
  refine jX.lrn l0 (by rfl) (by rfl) (?_ : jX G jP 147 3 lv [.ref (spl 0 0 0), .int (nI 0), .ref (spl 64 0 0)] μ Q)
  refine jX.lin l1 (by rfl) (by rfl) (?_ : jX G jP 147 4 lv [.int v1, .ref (spl 0 0 0), .int (nI 0), .ref (spl 64 0 0)] μ Q)
  obtain ⟨q1, e1, h⟩ := sbd h
  refine jX.call (by rfl) (by rfl) (by rfl) (by rfl) (by rfl) (by rfl) (by rfl) (R.rec (by rfl) (by rfl)) (Nat.le_of_ble_eq_true rfl) (Nat.le_of_ble_eq_true rfl) (F_71_ok R e1 (fun μ R => ?_))
  rcases ssm_or h with ⟨y1, f1, h⟩ | ⟨x1, f1, h⟩
  · rw [f1]
    show jX G jP 147 7 lv [.int y1, .int (nI 0), .ref (spl 64 0 0)] μ Q
    refine jX.go (by rfl) (by rfl) (by rfl) (?_ : jX G jP 147 8 lv [.long y1.toInt64, .int (nI 0), .ref (spl 64 0 0)] μ Q)
    obtain ⟨g2, h⟩ := jif_some h
    refine jX.stl R (by rfl) (by rfl) (by rfl) (fun _ => by rfl) g2 (fun μ R => (?_ : jX G jP 147 9 lv [] μ Q))
    refine jX.go (by rfl) (by rfl) (by rfl) (?_ : jX G jP 147 15 lv [] μ Q)
    refine jX.ic (v := nI 0) (n := 1) (by rfl) (by rfl) (by decide) (?_ : jX G jP 147 16 lv [.int (nI 0)] μ Q)
    exact jX.ret (by rfl) (by rfl) (by rfl) (by rfl) (sretv (f := srI) h K R)
  · rw [f1]
    show ∃ hh z, jP.2.2.1 147 4 x1 = some (hh, z) ∧ jX G jP 147 hh (jdrop lv z) [] μ Q
    rcases bif_or h with ⟨hc, h⟩ | ⟨-, h⟩
    · obtain rfl := Nat.eq_of_beq_eq_true hc
      refine ⟨_, _, rfl, ?_⟩
      generalize jdrop lv 3 = lv
      show jX G jP 147 13 lv [] μ Q
      refine jX.ic (v := nI 1) (n := 1) (by rfl) (by rfl) (by decide) (?_ : jX G jP 147 14 lv [.int (nI 1)] μ Q)
      exact jX.ret (by rfl) (by rfl) (by rfl) (by rfl) (sretv (f := srI) h K R)
    cases h
/-! 148 StrandRuntimeModel.pace(I)I -/
def F_148_16 (G : jG) (t : Nat) (v1 : Int32) (w0 : Int32) (S : sS) : Option (Int32 × sS) := bif jcmp .le ((siI S 33 0 0 25 w0).1 33 0 0 25) 0 then (some (((siI S 33 0 0 25 w0).1 33 0 0 19), (siI (siI S 33 0 0 25 w0) 33 0 0 19 v1))) else (some ((nI 0), (siI S 33 0 0 25 w0)))
theorem F_148_16_ok {G : jG} {t : Nat} {r : Int32} {S' : sS} {Q : Option Value ⊕ Nat → jS → Prop} (K : ∀ μ', sR S' μ' → Q (srI r) μ') : ∀ (v1 : Int32) (w0 : Int32) (S : sS) (lv : jL) (μ : jS), jld lv 0 = some (.ref (spl 33 0 0)) → jld lv 1 = some (.int v1) → sR S μ → F_148_16 G t v1 w0 S = some (r, S') → jX G jP 148 16 lv [.int w0, .ref (spl 33 0 0)] μ Q := by
  intro v1 w0 S lv μ l0 l1 R h
  unfold F_148_16 at h
  refine jX.spI R (by rfl) (by rfl) (by rfl) (by rfl) (by rfl) (by rfl) (by rfl) (by rfl) (by rfl) (fun μ R => (?_ : jX G jP 148 19 lv [] μ Q))
  refine jX.lrn l0 (by rfl) (by rfl) (?_ : jX G jP 148 20 lv [.ref (spl 33 0 0)] μ Q)
  refine jX.sg R (by rfl) (by rfl) (by rfl) (by rfl) (by rfl) (by rfl) (?_ : jX G jP 148 23 lv [.int ((siI S 33 0 0 25 w0).1 33 0 0 25)] μ Q)
  rcases bif_or h with ⟨hc, h⟩ | ⟨hc, h⟩
  · refine jX.b1t hc (by rfl) (by rfl) (by rfl) (?_ : jX G jP 148 28 lv [] μ Q)
    refine jX.lrn l0 (by rfl) (by rfl) (?_ : jX G jP 148 29 lv [.ref (spl 33 0 0)] μ Q)
    refine jX.sg R (by rfl) (by rfl) (by rfl) (by rfl) (by rfl) (by rfl) (?_ : jX G jP 148 32 lv [.int ((siI S 33 0 0 25 w0).1 33 0 0 19)] μ Q)
    refine jX.s1 (k := 2) (pc' := 33) (by rfl) (by rfl) (by rfl) (fun lv l2 kp => (?_ : jX G jP 148 33 lv [] μ Q))
    replace l0 := kp 0 _ l0 (by rfl) (by first | rfl | simp [soR_cat])
    replace l1 := kp 1 _ l1 (by rfl) (by first | rfl | simp [soR_cat])
    refine jX.lrn l0 (by rfl) (by rfl) (?_ : jX G jP 148 34 lv [.ref (spl 33 0 0)] μ Q)
    refine jX.lin l1 (by rfl) (by rfl) (?_ : jX G jP 148 35 lv [.int v1, .ref (spl 33 0 0)] μ Q)
    refine jX.spI R (by rfl) (by rfl) (by rfl) (by rfl) (by rfl) (by rfl) (by rfl) (by rfl) (by rfl) (fun μ R => (?_ : jX G jP 148 38 lv [] μ Q))
    refine jX.lin l2 (by rfl) (by rfl) (?_ : jX G jP 148 39 lv [.int ((siI S 33 0 0 25 w0).1 33 0 0 19)] μ Q)
    exact jX.ret (by rfl) (by rfl) (by rfl) (by rfl) (sretv (f := srI) h K R)
  · refine jX.b1f hc (by rfl) (by rfl) (by rfl) (?_ : jX G jP 148 26 lv [] μ Q)
    refine jX.ic (v := nI 0) (n := 1) (by rfl) (by rfl) (by decide) (?_ : jX G jP 148 27 lv [.int (nI 0)] μ Q)
    exact jX.ret (by rfl) (by rfl) (by rfl) (by rfl) (sretv (f := srI) h K R)
def F_148_11 (G : jG) (t : Nat) (v1 : Int32) (S : sS) : Option (Int32 × sS) := F_148_16 G t v1 (nI 1) S
theorem F_148_11_ok {G : jG} {t : Nat} {r : Int32} {S' : sS} {Q : Option Value ⊕ Nat → jS → Prop} (K : ∀ μ', sR S' μ' → Q (srI r) μ') : ∀ (v1 : Int32) (S : sS) (lv : jL) (μ : jS), jld lv 0 = some (.ref (spl 33 0 0)) → jld lv 1 = some (.int v1) → sR S μ → F_148_11 G t v1 S = some (r, S') → jX G jP 148 11 lv [.ref (spl 33 0 0)] μ Q := by
  intro v1 S lv μ l0 l1 R h
  unfold F_148_11 at h
  refine jX.ic (v := nI 1) (n := 1) (by rfl) (by rfl) (by decide) (?_ : jX G jP 148 12 lv [.int (nI 1), .ref (spl 33 0 0)] μ Q)
  refine jX.go (by rfl) (by rfl) (by rfl) (?_ : jX G jP 148 16 lv [.int (nI 1), .ref (spl 33 0 0)] μ Q)
  exact F_148_16_ok  K v1 (nI 1) _ _ _ l0 l1 R h
def F_148 (G : jG) (t : Nat) (v1 : Int32) (S : sS) : Option (Int32 × sS) := bif jcmp .lt v1 0 then (F_148_11 G t v1 S) else (bif jcmp .le v1 (nI 50) then (F_148_16 G t v1 (nI 0) S) else (F_148_11 G t v1 S))
theorem F_148_ok {G : jG} {t : Nat} {v1 : Int32} {S : sS} {r : Int32} {S' : sS} {μ : jS} {Q : Option Value ⊕ Nat → jS → Prop} (R : sR S μ) (h : F_148 G t v1 S = some (r, S')) (K : ∀ μ', sR S' μ' → Q (srI r) μ') : jX G jP 148 0 (lv_args 0 [.ref (spl 33 0 0), .int v1]) [] μ Q := by
  unfold F_148 at h
  have l0 : jld (lv_args 0 [.ref (spl 33 0 0), .int v1]) 0 = some (.ref (spl 33 0 0)) := by rfl
  have l1 : jld (lv_args 0 [.ref (spl 33 0 0), .int v1]) 1 = some (.int v1) := by rfl
  generalize lv_args 0 [.ref (spl 33 0 0), .int v1] = lv at *
  refine jX.lrn l0 (by rfl) (by rfl) (?_ : jX G jP 148 1 lv [.ref (spl 33 0 0)] μ Q)
  refine jX.lin l1 (by rfl) (by rfl) (?_ : jX G jP 148 2 lv [.int v1, .ref (spl 33 0 0)] μ Q)
  rcases bif_or h with ⟨hc, h⟩ | ⟨hc, h⟩
  · refine jX.b1t hc (by rfl) (by rfl) (by rfl) (?_ : jX G jP 148 11 lv [.ref (spl 33 0 0)] μ Q)
    exact F_148_11_ok  K v1 _ _ _ l0 l1 R h
  · refine jX.b1f hc (by rfl) (by rfl) (by rfl) (?_ : jX G jP 148 5 lv [.ref (spl 33 0 0)] μ Q)
    refine jX.lin l1 (by rfl) (by rfl) (?_ : jX G jP 148 6 lv [.int v1, .ref (spl 33 0 0)] μ Q)
    refine jX.ic (v := nI 50) (n := 2) (by rfl) (by rfl) (by decide) (?_ : jX G jP 148 8 lv [.int (nI 50), .int v1, .ref (spl 33 0 0)] μ Q)
    rcases bif_or h with ⟨hc, h⟩ | ⟨hc, h⟩
    · refine jX.b2t hc (by rfl) (by rfl) (by rfl) (?_ : jX G jP 148 15 lv [.ref (spl 33 0 0)] μ Q)
      refine jX.ic (v := nI 0) (n := 1) (by rfl) (by rfl) (by decide) (?_ : jX G jP 148 16 lv [.int (nI 0), .ref (spl 33 0 0)] μ Q)
      exact F_148_16_ok  K v1 (nI 0) _ _ _ l0 l1 R h
    · refine jX.b2f hc (by rfl) (by rfl) (by rfl) (?_ : jX G jP 148 11 lv [.ref (spl 33 0 0)] μ Q)
      exact F_148_11_ok  K v1 _ _ _ l0 l1 R h
/-! 149 StrandRuntimeLaw.run(LStrandRuntime;I[J)I -/
def F_149 (G : jG) (t : Nat) (v1 : Int32) (S : sS) : Option (Int32 × sS) := (F_121 G t v1 S).bind (fun q1 => ssm q1.1 (fun y1 => jif (jin (nI 0) 1) (some ((nI 0), (siL q1.2 64 0 0 (nI 0).toNatClampNeg y1.toInt64)))) (fun x1 => bif Nat.beq x1 0 then (some ((nI 1), q1.2)) else (bif Nat.beq x1 1 then (some ((nI 2), q1.2)) else (none))))
theorem F_149_ok {G : jG} {t : Nat} {v1 : Int32} {S : sS} {r : Int32} {S' : sS} {μ : jS} {Q : Option Value ⊕ Nat → jS → Prop} (R : sR S μ) (h : F_149 G t v1 S = some (r, S')) (K : ∀ μ', sR S' μ' → Q (srI r) μ') : jX G jP 149 0 (lv_args 0 [.ref (spl 0 0 0), .int v1, .ref (spl 64 0 0)]) [] μ Q := by
  unfold F_149 at h
  have l0 : jld (lv_args 0 [.ref (spl 0 0 0), .int v1, .ref (spl 64 0 0)]) 0 = some (.ref (spl 0 0 0)) := by rfl
  have l1 : jld (lv_args 0 [.ref (spl 0 0 0), .int v1, .ref (spl 64 0 0)]) 1 = some (.int v1) := by rfl
  have l2 : jld (lv_args 0 [.ref (spl 0 0 0), .int v1, .ref (spl 64 0 0)]) 2 = some (.ref (spl 64 0 0)) := by rfl
  generalize lv_args 0 [.ref (spl 0 0 0), .int v1, .ref (spl 64 0 0)] = lv at *
  refine jX.lrn l2 (by rfl) (by rfl) (?_ : jX G jP 149 1 lv [.ref (spl 64 0 0)] μ Q)
  refine jX.ic (v := nI 0) (n := 1) (by rfl) (by rfl) (by decide) (?_ : jX G jP 149 2 lv [.int (nI 0), .ref (spl 64 0 0)] μ Q)
  refine jX.lrn l0 (by rfl) (by rfl) (?_ : jX G jP 149 3 lv [.ref (spl 0 0 0), .int (nI 0), .ref (spl 64 0 0)] μ Q)
  refine jX.lin l1 (by rfl) (by rfl) (?_ : jX G jP 149 4 lv [.int v1, .ref (spl 0 0 0), .int (nI 0), .ref (spl 64 0 0)] μ Q)
  obtain ⟨q1, e1, h⟩ := sbd h
  refine jX.call (by rfl) (by rfl) (by rfl) (by rfl) (by rfl) (by rfl) (by rfl) (R.rec (by rfl) (by rfl)) (Nat.le_of_ble_eq_true rfl) (Nat.le_of_ble_eq_true rfl) (F_121_ok R e1 (fun μ R => ?_))
  rcases ssm_or h with ⟨y1, f1, h⟩ | ⟨x1, f1, h⟩
  · rw [f1]
    show jX G jP 149 7 lv [.int y1, .int (nI 0), .ref (spl 64 0 0)] μ Q
    refine jX.go (by rfl) (by rfl) (by rfl) (?_ : jX G jP 149 8 lv [.long y1.toInt64, .int (nI 0), .ref (spl 64 0 0)] μ Q)
    obtain ⟨g2, h⟩ := jif_some h
    refine jX.stl R (by rfl) (by rfl) (by rfl) (fun _ => by rfl) g2 (fun μ R => (?_ : jX G jP 149 9 lv [] μ Q))
    refine jX.go (by rfl) (by rfl) (by rfl) (?_ : jX G jP 149 18 lv [] μ Q)
    refine jX.ic (v := nI 0) (n := 1) (by rfl) (by rfl) (by decide) (?_ : jX G jP 149 19 lv [.int (nI 0)] μ Q)
    exact jX.ret (by rfl) (by rfl) (by rfl) (by rfl) (sretv (f := srI) h K R)
  · rw [f1]
    show ∃ hh z, jP.2.2.1 149 4 x1 = some (hh, z) ∧ jX G jP 149 hh (jdrop lv z) [] μ Q
    rcases bif_or h with ⟨hc, h⟩ | ⟨-, h⟩
    · obtain rfl := Nat.eq_of_beq_eq_true hc
      refine ⟨_, _, rfl, ?_⟩
      generalize jdrop lv 3 = lv
      show jX G jP 149 13 lv [] μ Q
      refine jX.ic (v := nI 1) (n := 1) (by rfl) (by rfl) (by decide) (?_ : jX G jP 149 14 lv [.int (nI 1)] μ Q)
      exact jX.ret (by rfl) (by rfl) (by rfl) (by rfl) (sretv (f := srI) h K R)
    rcases bif_or h with ⟨hc, h⟩ | ⟨-, h⟩
    · obtain rfl := Nat.eq_of_beq_eq_true hc
      refine ⟨_, _, rfl, ?_⟩
      generalize jdrop lv 3 = lv
      show jX G jP 149 16 lv [] μ Q
      refine jX.ic (v := nI 2) (n := 1) (by rfl) (by rfl) (by decide) (?_ : jX G jP 149 17 lv [.int (nI 2)] μ Q)
      exact jX.ret (by rfl) (by rfl) (by rfl) (by rfl) (sretv (f := srI) h K R)
    cases h
/-! 150 StrandRuntimeModel.now()LStrandRuntimeModel$Strand; -/
def F_150 (G : jG) (t : Nat) (S : sS) : Option ((Option (Nat × Nat)) × sS) := jif (jin (S.1 33 0 0 16) 16) (some (some ((S.1 33 0 0 16).toNatClampNeg, 0), S))
theorem F_150_ok {G : jG} {t : Nat} {S : sS} {r : (Option (Nat × Nat))} {S' : sS} {μ : jS} {Q : Option Value ⊕ Nat → jS → Prop} (R : sR S μ) (h : F_150 G t S = some (r, S')) (K : ∀ μ', sR S' μ' → Q ((srO 54) r) μ') : jX G jP 150 0 (lv_args 0 [.ref (spl 33 0 0)]) [] μ Q := by
  unfold F_150 at h
  have l0 : jld (lv_args 0 [.ref (spl 33 0 0)]) 0 = some (.ref (spl 33 0 0)) := by rfl
  generalize lv_args 0 [.ref (spl 33 0 0)] = lv at *
  refine jX.lrn l0 (by rfl) (by rfl) (?_ : jX G jP 150 1 lv [.ref (spl 33 0 0)] μ Q)
  refine jX.sg R (by rfl) (by rfl) (by rfl) (by rfl) (by rfl) (by rfl) (?_ : jX G jP 150 4 lv [.ref (spl 35 0 0)] μ Q)
  refine jX.lrn l0 (by rfl) (by rfl) (?_ : jX G jP 150 5 lv [.ref (spl 33 0 0), .ref (spl 35 0 0)] μ Q)
  refine jX.sg R (by rfl) (by rfl) (by rfl) (by rfl) (by rfl) (by rfl) (?_ : jX G jP 150 8 lv [.int (S.1 33 0 0 16), .ref (spl 35 0 0)] μ Q)
  obtain ⟨g1, h⟩ := jif_some h
  refine jX.sar (f := fun q => bif Nat.blt q 16 then some (spl 54 q 0) else none) R (by rfl) (by rfl) (by rfl) (by rfl) g1 (srf_in g1) (?_ : jX G jP 150 9 lv [.ref (spl 54 ((S.1 33 0 0 16).toNatClampNeg) 0)] μ Q)
  exact jX.ret (by rfl) (by rfl) (by rfl) (by rfl) (sretv (f := (srO 54)) h K R)
/-! 151 StrandRuntimeModel.top(LStrandRuntimeModel$Strand;)LStrandRuntimeModel$Frame; -/
def F_151 (G : jG) (t : Nat) (v0 : (Nat × Nat)) (S : sS) : Option ((Option (Nat × Nat)) × sS) := jif (sex S.2.2.2.1 54 v0.1 v0.2) (jif (sex S.2.2.2.1 55 v0.1 0) (jif (jin ((S.1 54 v0.1 v0.2 1) - (nI 1)) 30) (some (some (v0.1, ((S.1 54 v0.1 v0.2 1) - (nI 1)).toNatClampNeg), S))))
theorem F_151_ok {G : jG} {t : Nat} {v0 : (Nat × Nat)} {S : sS} {r : (Option (Nat × Nat))} {S' : sS} {μ : jS} {Q : Option Value ⊕ Nat → jS → Prop} (R : sR S μ) (h : F_151 G t v0 S = some (r, S')) (K : ∀ μ', sR S' μ' → Q ((srO 56) r) μ') : jX G jP 151 0 (lv_args 0 [.ref (spl 54 v0.1 v0.2)]) [] μ Q := by
  unfold F_151 at h
  have l0 : jld (lv_args 0 [.ref (spl 54 v0.1 v0.2)]) 0 = some (.ref (spl 54 v0.1 v0.2)) := by rfl
  generalize lv_args 0 [.ref (spl 54 v0.1 v0.2)] = lv at *
  refine jX.lrn l0 (by rfl) (by rfl) (?_ : jX G jP 151 1 lv [.ref (spl 54 v0.1 v0.2)] μ Q)
  obtain ⟨g1, h⟩ := jif_some h
  refine jX.sg R g1 (by rfl) (by rfl) (by rfl) (by rfl) (by rfl) (?_ : jX G jP 151 4 lv [.ref (spl 55 v0.1 0)] μ Q)
  refine jX.lrn l0 (by rfl) (by rfl) (?_ : jX G jP 151 5 lv [.ref (spl 54 v0.1 v0.2), .ref (spl 55 v0.1 0)] μ Q)
  refine jX.sg R g1 (by rfl) (by rfl) (by rfl) (by rfl) (by rfl) (?_ : jX G jP 151 8 lv [.int (S.1 54 v0.1 v0.2 1), .ref (spl 55 v0.1 0)] μ Q)
  refine jX.ic (v := nI 1) (n := 1) (by rfl) (by rfl) (by decide) (?_ : jX G jP 151 9 lv [.int (nI 1), .int (S.1 54 v0.1 v0.2 1), .ref (spl 55 v0.1 0)] μ Q)
  refine jX.go (by rfl) (by rfl) (by rfl) (?_ : jX G jP 151 10 lv [.int ((S.1 54 v0.1 v0.2 1) - (nI 1)), .ref (spl 55 v0.1 0)] μ Q)
  obtain ⟨g2, h⟩ := jif_some h
  obtain ⟨g3, h⟩ := jif_some h
  refine jX.sar (f := fun q => bif Nat.blt q 30 then some (spl 56 v0.1 q) else none) R g2 (by rfl) (by rfl) (by rfl) g3 (srf_in g3) (?_ : jX G jP 151 11 lv [.ref (spl 56 v0.1 (((S.1 54 v0.1 v0.2 1) - (nI 1)).toNatClampNeg))] μ Q)
  exact jX.ret (by rfl) (by rfl) (by rfl) (by rfl) (sretv (f := (srO 56)) h K R)
/-! 152 StrandRuntimeModel.takes(II)I -/
def F_152 (G : jG) (t : Nat) (v1 : Int32) (v2 : Int32) (S : sS) : Option (Int32 × sS) := bif decide (v1.toInt < 3 ∨ 35 < v1.toInt) then (some ((nI 0), S)) else (bif decide (v1 = nI 3) then (some ((nI 1), S)) else (bif decide (v1 = nI 4) then (some ((nI 0), S)) else (bif decide (v1 = nI 5) then (some ((nI 1), S)) else (bif decide (v1 = nI 6) then (some ((nI 1), S)) else (bif decide (v1 = nI 7) then (some ((nI 1), S)) else (bif decide (v1 = nI 8) then (some ((nI 2), S)) else (bif decide (v1 = nI 9) then (some ((nI 2), S)) else (bif decide (v1 = nI 10) then (some ((nI 2), S)) else (bif decide (v1 = nI 11) then (some ((nI 2), S)) else (bif decide (v1 = nI 12) then (some ((nI 2), S)) else (bif decide (v1 = nI 13) then (some ((nI 2), S)) else (bif decide (v1 = nI 14) then (some ((nI 2), S)) else (bif decide (v1 = nI 15) then (some ((nI 1), S)) else (bif decide (v1 = nI 16) then (some ((nI 0), S)) else (bif decide (v1 = nI 17) then (some ((nI 1), S)) else (bif decide (v1 = nI 18) then (jif (jin v2 32) (some ((S.1 37 0 0 v2.toNatClampNeg), S))) else (bif decide (v1 = nI 19) then (some ((nI 1), S)) else (bif decide (v1 = nI 20) then (jif (jin v2 32) (some ((S.1 37 0 0 v2.toNatClampNeg), S))) else (bif decide (v1 = nI 21) then (some ((nI 0), S)) else (bif decide (v1 = nI 22) then (some ((nI 1), S)) else (bif decide (v1 = nI 23) then (some ((nI 2), S)) else (bif decide (v1 = nI 24) then (some ((nI 2), S)) else (bif decide (v1 = nI 25) then (some ((nI 3), S)) else (bif decide (v1 = nI 26) then (some ((nI 1), S)) else (bif decide (v1 = nI 27) then (some ((nI 0), S)) else (bif decide (v1 = nI 28) then (some ((nI 2), S)) else (bif decide (v1 = nI 29) then (some ((nI 1), S)) else (bif decide (v1 = nI 30) then (some ((nI 1), S)) else (bif decide (v1 = nI 31) then (some (((nI 3) * (v2 &&& (nI 7))), S)) else (bif decide (v1 = nI 32) then (some ((nI 0), S)) else (bif decide (v1 = nI 33) then (some ((nI 1), S)) else (bif decide (v1 = nI 34) then (some ((nI 1), S)) else (bif decide (v1 = nI 35) then (some ((nI 1), S)) else (none))))))))))))))))))))))))))))))))))
theorem F_152_ok {G : jG} {t : Nat} {v1 : Int32} {v2 : Int32} {S : sS} {r : Int32} {S' : sS} {μ : jS} {Q : Option Value ⊕ Nat → jS → Prop} (R : sR S μ) (h : F_152 G t v1 v2 S = some (r, S')) (K : ∀ μ', sR S' μ' → Q (srI r) μ') : jX G jP 152 0 (lv_args 0 [.ref (spl 33 0 0), .int v1, .int v2]) [] μ Q := by
  unfold F_152 at h
  have l0 : jld (lv_args 0 [.ref (spl 33 0 0), .int v1, .int v2]) 0 = some (.ref (spl 33 0 0)) := by rfl
  have l1 : jld (lv_args 0 [.ref (spl 33 0 0), .int v1, .int v2]) 1 = some (.int v1) := by rfl
  have l2 : jld (lv_args 0 [.ref (spl 33 0 0), .int v1, .int v2]) 2 = some (.int v2) := by rfl
  generalize lv_args 0 [.ref (spl 33 0 0), .int v1, .int v2] = lv at *
  refine jX.lin l1 (by rfl) (by rfl) (?_ : jX G jP 152 1 lv [.int v1] μ Q)
  rcases bif_or h with ⟨hc, h⟩ | ⟨-, h⟩
  · refine jX.swd hc (by rfl) (by rfl) (by rfl) (?_ : jX G jP 152 168 lv [] μ Q)
    refine jX.ic (v := nI 0) (n := 1) (by rfl) (by rfl) (by decide) (?_ : jX G jP 152 169 lv [.int (nI 0)] μ Q)
    exact jX.ret (by rfl) (by rfl) (by rfl) (by rfl) (sretv (f := srI) h K R)
  rcases bif_or h with ⟨hc, h⟩ | ⟨-, h⟩
  · refine jX.swn hc (by rfl) (by rfl) (by rfl) (?_ : jX G jP 152 148 lv [] μ Q)
    refine jX.ic (v := nI 1) (n := 1) (by rfl) (by rfl) (by decide) (?_ : jX G jP 152 149 lv [.int (nI 1)] μ Q)
    exact jX.ret (by rfl) (by rfl) (by rfl) (by rfl) (sretv (f := srI) h K R)
  rcases bif_or h with ⟨hc, h⟩ | ⟨-, h⟩
  · refine jX.swn hc (by rfl) (by rfl) (by rfl) (?_ : jX G jP 152 168 lv [] μ Q)
    refine jX.ic (v := nI 0) (n := 1) (by rfl) (by rfl) (by decide) (?_ : jX G jP 152 169 lv [.int (nI 0)] μ Q)
    exact jX.ret (by rfl) (by rfl) (by rfl) (by rfl) (sretv (f := srI) h K R)
  rcases bif_or h with ⟨hc, h⟩ | ⟨-, h⟩
  · refine jX.swn hc (by rfl) (by rfl) (by rfl) (?_ : jX G jP 152 148 lv [] μ Q)
    refine jX.ic (v := nI 1) (n := 1) (by rfl) (by rfl) (by decide) (?_ : jX G jP 152 149 lv [.int (nI 1)] μ Q)
    exact jX.ret (by rfl) (by rfl) (by rfl) (by rfl) (sretv (f := srI) h K R)
  rcases bif_or h with ⟨hc, h⟩ | ⟨-, h⟩
  · refine jX.swn hc (by rfl) (by rfl) (by rfl) (?_ : jX G jP 152 148 lv [] μ Q)
    refine jX.ic (v := nI 1) (n := 1) (by rfl) (by rfl) (by decide) (?_ : jX G jP 152 149 lv [.int (nI 1)] μ Q)
    exact jX.ret (by rfl) (by rfl) (by rfl) (by rfl) (sretv (f := srI) h K R)
  rcases bif_or h with ⟨hc, h⟩ | ⟨-, h⟩
  · refine jX.swn hc (by rfl) (by rfl) (by rfl) (?_ : jX G jP 152 148 lv [] μ Q)
    refine jX.ic (v := nI 1) (n := 1) (by rfl) (by rfl) (by decide) (?_ : jX G jP 152 149 lv [.int (nI 1)] μ Q)
    exact jX.ret (by rfl) (by rfl) (by rfl) (by rfl) (sretv (f := srI) h K R)
  rcases bif_or h with ⟨hc, h⟩ | ⟨-, h⟩
  · refine jX.swn hc (by rfl) (by rfl) (by rfl) (?_ : jX G jP 152 150 lv [] μ Q)
    refine jX.ic (v := nI 2) (n := 1) (by rfl) (by rfl) (by decide) (?_ : jX G jP 152 151 lv [.int (nI 2)] μ Q)
    exact jX.ret (by rfl) (by rfl) (by rfl) (by rfl) (sretv (f := srI) h K R)
  rcases bif_or h with ⟨hc, h⟩ | ⟨-, h⟩
  · refine jX.swn hc (by rfl) (by rfl) (by rfl) (?_ : jX G jP 152 150 lv [] μ Q)
    refine jX.ic (v := nI 2) (n := 1) (by rfl) (by rfl) (by decide) (?_ : jX G jP 152 151 lv [.int (nI 2)] μ Q)
    exact jX.ret (by rfl) (by rfl) (by rfl) (by rfl) (sretv (f := srI) h K R)
  rcases bif_or h with ⟨hc, h⟩ | ⟨-, h⟩
  · refine jX.swn hc (by rfl) (by rfl) (by rfl) (?_ : jX G jP 152 150 lv [] μ Q)
    refine jX.ic (v := nI 2) (n := 1) (by rfl) (by rfl) (by decide) (?_ : jX G jP 152 151 lv [.int (nI 2)] μ Q)
    exact jX.ret (by rfl) (by rfl) (by rfl) (by rfl) (sretv (f := srI) h K R)
  rcases bif_or h with ⟨hc, h⟩ | ⟨-, h⟩
  · refine jX.swn hc (by rfl) (by rfl) (by rfl) (?_ : jX G jP 152 150 lv [] μ Q)
    refine jX.ic (v := nI 2) (n := 1) (by rfl) (by rfl) (by decide) (?_ : jX G jP 152 151 lv [.int (nI 2)] μ Q)
    exact jX.ret (by rfl) (by rfl) (by rfl) (by rfl) (sretv (f := srI) h K R)
  rcases bif_or h with ⟨hc, h⟩ | ⟨-, h⟩
  · refine jX.swn hc (by rfl) (by rfl) (by rfl) (?_ : jX G jP 152 150 lv [] μ Q)
    refine jX.ic (v := nI 2) (n := 1) (by rfl) (by rfl) (by decide) (?_ : jX G jP 152 151 lv [.int (nI 2)] μ Q)
    exact jX.ret (by rfl) (by rfl) (by rfl) (by rfl) (sretv (f := srI) h K R)
  rcases bif_or h with ⟨hc, h⟩ | ⟨-, h⟩
  · refine jX.swn hc (by rfl) (by rfl) (by rfl) (?_ : jX G jP 152 150 lv [] μ Q)
    refine jX.ic (v := nI 2) (n := 1) (by rfl) (by rfl) (by decide) (?_ : jX G jP 152 151 lv [.int (nI 2)] μ Q)
    exact jX.ret (by rfl) (by rfl) (by rfl) (by rfl) (sretv (f := srI) h K R)
  rcases bif_or h with ⟨hc, h⟩ | ⟨-, h⟩
  · refine jX.swn hc (by rfl) (by rfl) (by rfl) (?_ : jX G jP 152 150 lv [] μ Q)
    refine jX.ic (v := nI 2) (n := 1) (by rfl) (by rfl) (by decide) (?_ : jX G jP 152 151 lv [.int (nI 2)] μ Q)
    exact jX.ret (by rfl) (by rfl) (by rfl) (by rfl) (sretv (f := srI) h K R)
  rcases bif_or h with ⟨hc, h⟩ | ⟨-, h⟩
  · refine jX.swn hc (by rfl) (by rfl) (by rfl) (?_ : jX G jP 152 148 lv [] μ Q)
    refine jX.ic (v := nI 1) (n := 1) (by rfl) (by rfl) (by decide) (?_ : jX G jP 152 149 lv [.int (nI 1)] μ Q)
    exact jX.ret (by rfl) (by rfl) (by rfl) (by rfl) (sretv (f := srI) h K R)
  rcases bif_or h with ⟨hc, h⟩ | ⟨-, h⟩
  · refine jX.swn hc (by rfl) (by rfl) (by rfl) (?_ : jX G jP 152 168 lv [] μ Q)
    refine jX.ic (v := nI 0) (n := 1) (by rfl) (by rfl) (by decide) (?_ : jX G jP 152 169 lv [.int (nI 0)] μ Q)
    exact jX.ret (by rfl) (by rfl) (by rfl) (by rfl) (sretv (f := srI) h K R)
  rcases bif_or h with ⟨hc, h⟩ | ⟨-, h⟩
  · refine jX.swn hc (by rfl) (by rfl) (by rfl) (?_ : jX G jP 152 148 lv [] μ Q)
    refine jX.ic (v := nI 1) (n := 1) (by rfl) (by rfl) (by decide) (?_ : jX G jP 152 149 lv [.int (nI 1)] μ Q)
    exact jX.ret (by rfl) (by rfl) (by rfl) (by rfl) (sretv (f := srI) h K R)
  rcases bif_or h with ⟨hc, h⟩ | ⟨-, h⟩
  · refine jX.swn hc (by rfl) (by rfl) (by rfl) (?_ : jX G jP 152 154 lv [] μ Q)
    refine jX.lrn l0 (by rfl) (by rfl) (?_ : jX G jP 152 155 lv [.ref (spl 33 0 0)] μ Q)
    refine jX.sg R (by rfl) (by rfl) (by rfl) (by rfl) (by rfl) (by rfl) (?_ : jX G jP 152 158 lv [.ref (spl 37 0 0)] μ Q)
    refine jX.lin l2 (by rfl) (by rfl) (?_ : jX G jP 152 159 lv [.int v2, .ref (spl 37 0 0)] μ Q)
    obtain ⟨g1, h⟩ := jif_some h
    refine jX.sai R (by rfl) (by rfl) (by rfl) (by rfl) g1 (?_ : jX G jP 152 160 lv [.int (S.1 37 0 0 v2.toNatClampNeg)] μ Q)
    exact jX.ret (by rfl) (by rfl) (by rfl) (by rfl) (sretv (f := srI) h K R)
  rcases bif_or h with ⟨hc, h⟩ | ⟨-, h⟩
  · refine jX.swn hc (by rfl) (by rfl) (by rfl) (?_ : jX G jP 152 148 lv [] μ Q)
    refine jX.ic (v := nI 1) (n := 1) (by rfl) (by rfl) (by decide) (?_ : jX G jP 152 149 lv [.int (nI 1)] μ Q)
    exact jX.ret (by rfl) (by rfl) (by rfl) (by rfl) (sretv (f := srI) h K R)
  rcases bif_or h with ⟨hc, h⟩ | ⟨-, h⟩
  · refine jX.swn hc (by rfl) (by rfl) (by rfl) (?_ : jX G jP 152 154 lv [] μ Q)
    refine jX.lrn l0 (by rfl) (by rfl) (?_ : jX G jP 152 155 lv [.ref (spl 33 0 0)] μ Q)
    refine jX.sg R (by rfl) (by rfl) (by rfl) (by rfl) (by rfl) (by rfl) (?_ : jX G jP 152 158 lv [.ref (spl 37 0 0)] μ Q)
    refine jX.lin l2 (by rfl) (by rfl) (?_ : jX G jP 152 159 lv [.int v2, .ref (spl 37 0 0)] μ Q)
    obtain ⟨g2, h⟩ := jif_some h
    refine jX.sai R (by rfl) (by rfl) (by rfl) (by rfl) g2 (?_ : jX G jP 152 160 lv [.int (S.1 37 0 0 v2.toNatClampNeg)] μ Q)
    exact jX.ret (by rfl) (by rfl) (by rfl) (by rfl) (sretv (f := srI) h K R)
  rcases bif_or h with ⟨hc, h⟩ | ⟨-, h⟩
  · refine jX.swn hc (by rfl) (by rfl) (by rfl) (?_ : jX G jP 152 168 lv [] μ Q)
    refine jX.ic (v := nI 0) (n := 1) (by rfl) (by rfl) (by decide) (?_ : jX G jP 152 169 lv [.int (nI 0)] μ Q)
    exact jX.ret (by rfl) (by rfl) (by rfl) (by rfl) (sretv (f := srI) h K R)
  rcases bif_or h with ⟨hc, h⟩ | ⟨-, h⟩
  · refine jX.swn hc (by rfl) (by rfl) (by rfl) (?_ : jX G jP 152 148 lv [] μ Q)
    refine jX.ic (v := nI 1) (n := 1) (by rfl) (by rfl) (by decide) (?_ : jX G jP 152 149 lv [.int (nI 1)] μ Q)
    exact jX.ret (by rfl) (by rfl) (by rfl) (by rfl) (sretv (f := srI) h K R)
  rcases bif_or h with ⟨hc, h⟩ | ⟨-, h⟩
  · refine jX.swn hc (by rfl) (by rfl) (by rfl) (?_ : jX G jP 152 150 lv [] μ Q)
    refine jX.ic (v := nI 2) (n := 1) (by rfl) (by rfl) (by decide) (?_ : jX G jP 152 151 lv [.int (nI 2)] μ Q)
    exact jX.ret (by rfl) (by rfl) (by rfl) (by rfl) (sretv (f := srI) h K R)
  rcases bif_or h with ⟨hc, h⟩ | ⟨-, h⟩
  · refine jX.swn hc (by rfl) (by rfl) (by rfl) (?_ : jX G jP 152 150 lv [] μ Q)
    refine jX.ic (v := nI 2) (n := 1) (by rfl) (by rfl) (by decide) (?_ : jX G jP 152 151 lv [.int (nI 2)] μ Q)
    exact jX.ret (by rfl) (by rfl) (by rfl) (by rfl) (sretv (f := srI) h K R)
  rcases bif_or h with ⟨hc, h⟩ | ⟨-, h⟩
  · refine jX.swn hc (by rfl) (by rfl) (by rfl) (?_ : jX G jP 152 152 lv [] μ Q)
    refine jX.ic (v := nI 3) (n := 1) (by rfl) (by rfl) (by decide) (?_ : jX G jP 152 153 lv [.int (nI 3)] μ Q)
    exact jX.ret (by rfl) (by rfl) (by rfl) (by rfl) (sretv (f := srI) h K R)
  rcases bif_or h with ⟨hc, h⟩ | ⟨-, h⟩
  · refine jX.swn hc (by rfl) (by rfl) (by rfl) (?_ : jX G jP 152 148 lv [] μ Q)
    refine jX.ic (v := nI 1) (n := 1) (by rfl) (by rfl) (by decide) (?_ : jX G jP 152 149 lv [.int (nI 1)] μ Q)
    exact jX.ret (by rfl) (by rfl) (by rfl) (by rfl) (sretv (f := srI) h K R)
  rcases bif_or h with ⟨hc, h⟩ | ⟨-, h⟩
  · refine jX.swn hc (by rfl) (by rfl) (by rfl) (?_ : jX G jP 152 168 lv [] μ Q)
    refine jX.ic (v := nI 0) (n := 1) (by rfl) (by rfl) (by decide) (?_ : jX G jP 152 169 lv [.int (nI 0)] μ Q)
    exact jX.ret (by rfl) (by rfl) (by rfl) (by rfl) (sretv (f := srI) h K R)
  rcases bif_or h with ⟨hc, h⟩ | ⟨-, h⟩
  · refine jX.swn hc (by rfl) (by rfl) (by rfl) (?_ : jX G jP 152 150 lv [] μ Q)
    refine jX.ic (v := nI 2) (n := 1) (by rfl) (by rfl) (by decide) (?_ : jX G jP 152 151 lv [.int (nI 2)] μ Q)
    exact jX.ret (by rfl) (by rfl) (by rfl) (by rfl) (sretv (f := srI) h K R)
  rcases bif_or h with ⟨hc, h⟩ | ⟨-, h⟩
  · refine jX.swn hc (by rfl) (by rfl) (by rfl) (?_ : jX G jP 152 148 lv [] μ Q)
    refine jX.ic (v := nI 1) (n := 1) (by rfl) (by rfl) (by decide) (?_ : jX G jP 152 149 lv [.int (nI 1)] μ Q)
    exact jX.ret (by rfl) (by rfl) (by rfl) (by rfl) (sretv (f := srI) h K R)
  rcases bif_or h with ⟨hc, h⟩ | ⟨-, h⟩
  · refine jX.swn hc (by rfl) (by rfl) (by rfl) (?_ : jX G jP 152 148 lv [] μ Q)
    refine jX.ic (v := nI 1) (n := 1) (by rfl) (by rfl) (by decide) (?_ : jX G jP 152 149 lv [.int (nI 1)] μ Q)
    exact jX.ret (by rfl) (by rfl) (by rfl) (by rfl) (sretv (f := srI) h K R)
  rcases bif_or h with ⟨hc, h⟩ | ⟨-, h⟩
  · refine jX.swn hc (by rfl) (by rfl) (by rfl) (?_ : jX G jP 152 161 lv [] μ Q)
    refine jX.ic (v := nI 3) (n := 1) (by rfl) (by rfl) (by decide) (?_ : jX G jP 152 162 lv [.int (nI 3)] μ Q)
    refine jX.lin l2 (by rfl) (by rfl) (?_ : jX G jP 152 163 lv [.int v2, .int (nI 3)] μ Q)
    refine jX.ic (v := nI 7) (n := 2) (by rfl) (by rfl) (by decide) (?_ : jX G jP 152 165 lv [.int (nI 7), .int v2, .int (nI 3)] μ Q)
    refine jX.go (by rfl) (by rfl) (by rfl) (?_ : jX G jP 152 166 lv [.int (v2 &&& (nI 7)), .int (nI 3)] μ Q)
    refine jX.go (by rfl) (by rfl) (by rfl) (?_ : jX G jP 152 167 lv [.int ((nI 3) * (v2 &&& (nI 7)))] μ Q)
    exact jX.ret (by rfl) (by rfl) (by rfl) (by rfl) (sretv (f := srI) h K R)
  rcases bif_or h with ⟨hc, h⟩ | ⟨-, h⟩
  · refine jX.swn hc (by rfl) (by rfl) (by rfl) (?_ : jX G jP 152 168 lv [] μ Q)
    refine jX.ic (v := nI 0) (n := 1) (by rfl) (by rfl) (by decide) (?_ : jX G jP 152 169 lv [.int (nI 0)] μ Q)
    exact jX.ret (by rfl) (by rfl) (by rfl) (by rfl) (sretv (f := srI) h K R)
  rcases bif_or h with ⟨hc, h⟩ | ⟨-, h⟩
  · refine jX.swn hc (by rfl) (by rfl) (by rfl) (?_ : jX G jP 152 148 lv [] μ Q)
    refine jX.ic (v := nI 1) (n := 1) (by rfl) (by rfl) (by decide) (?_ : jX G jP 152 149 lv [.int (nI 1)] μ Q)
    exact jX.ret (by rfl) (by rfl) (by rfl) (by rfl) (sretv (f := srI) h K R)
  rcases bif_or h with ⟨hc, h⟩ | ⟨-, h⟩
  · refine jX.swn hc (by rfl) (by rfl) (by rfl) (?_ : jX G jP 152 148 lv [] μ Q)
    refine jX.ic (v := nI 1) (n := 1) (by rfl) (by rfl) (by decide) (?_ : jX G jP 152 149 lv [.int (nI 1)] μ Q)
    exact jX.ret (by rfl) (by rfl) (by rfl) (by rfl) (sretv (f := srI) h K R)
  rcases bif_or h with ⟨hc, h⟩ | ⟨-, h⟩
  · refine jX.swn hc (by rfl) (by rfl) (by rfl) (?_ : jX G jP 152 148 lv [] μ Q)
    refine jX.ic (v := nI 1) (n := 1) (by rfl) (by rfl) (by decide) (?_ : jX G jP 152 149 lv [.int (nI 1)] μ Q)
    exact jX.ret (by rfl) (by rfl) (by rfl) (by rfl) (sretv (f := srI) h K R)
  cases h
/-! 153 StrandRuntimeModel.gives(I)I -/
def F_153 (G : jG) (t : Nat) (v0 : Int32) (S : sS) : Option (Int32 × sS) := bif decide (v0.toInt < 0 ∨ 36 < v0.toInt) then (some ((nI 0), S)) else (bif decide (v0 = nI 0) then (some ((nI 1), S)) else (bif decide (v0 = nI 1) then (some ((nI 1), S)) else (bif decide (v0 = nI 2) then (some ((nI 1), S)) else (bif decide (v0 = nI 3) then (some ((nI 0), S)) else (bif decide (v0 = nI 4) then (some ((nI 1), S)) else (bif decide (v0 = nI 5) then (some ((nI 0), S)) else (bif decide (v0 = nI 6) then (some ((nI 2), S)) else (bif decide (v0 = nI 7) then (some ((nI 0), S)) else (bif decide (v0 = nI 8) then (some ((nI 2), S)) else (bif decide (v0 = nI 9) then (some ((nI 1), S)) else (bif decide (v0 = nI 10) then (some ((nI 1), S)) else (bif decide (v0 = nI 11) then (some ((nI 1), S)) else (bif decide (v0 = nI 12) then (some ((nI 1), S)) else (bif decide (v0 = nI 13) then (some ((nI 1), S)) else (bif decide (v0 = nI 14) then (some ((nI 1), S)) else (bif decide (v0 = nI 15) then (some ((nI 1), S)) else (bif decide (v0 = nI 16) then (some ((nI 0), S)) else (bif decide (v0 = nI 17) then (some ((nI 0), S)) else (bif decide (v0 = nI 18) then (some ((nI 1), S)) else (bif decide (v0 = nI 19) then (some ((nI 0), S)) else (bif decide (v0 = nI 20) then (some ((nI 0), S)) else (bif decide (v0 = nI 21) then (some ((nI 1), S)) else (bif decide (v0 = nI 22) then (some ((nI 1), S)) else (bif decide (v0 = nI 23) then (some ((nI 0), S)) else (bif decide (v0 = nI 24) then (some ((nI 1), S)) else (bif decide (v0 = nI 25) then (some ((nI 0), S)) else (bif decide (v0 = nI 26) then (some ((nI 1), S)) else (bif decide (v0 = nI 27) then (some ((nI 1), S)) else (bif decide (v0 = nI 28) then (some ((nI 0), S)) else (bif decide (v0 = nI 29) then (some ((nI 2), S)) else (bif decide (v0 = nI 30) then (some ((nI 0), S)) else (bif decide (v0 = nI 31) then (some ((nI 2), S)) else (bif decide (v0 = nI 32) then (some ((nI 0), S)) else (bif decide (v0 = nI 33) then (some ((nI 0), S)) else (bif decide (v0 = nI 34) then (some ((nI 0), S)) else (bif decide (v0 = nI 35) then (some ((nI 0), S)) else (bif decide (v0 = nI 36) then (some ((nI 1), S)) else (none))))))))))))))))))))))))))))))))))))))
theorem F_153_ok {G : jG} {t : Nat} {v0 : Int32} {S : sS} {r : Int32} {S' : sS} {μ : jS} {Q : Option Value ⊕ Nat → jS → Prop} (R : sR S μ) (h : F_153 G t v0 S = some (r, S')) (K : ∀ μ', sR S' μ' → Q (srI r) μ') : jX G jP 153 0 (lv_args 0 [.int v0]) [] μ Q := by
  unfold F_153 at h
  have l0 : jld (lv_args 0 [.int v0]) 0 = some (.int v0) := by rfl
  generalize lv_args 0 [.int v0] = lv at *
  refine jX.lin l0 (by rfl) (by rfl) (?_ : jX G jP 153 1 lv [.int v0] μ Q)
  rcases bif_or h with ⟨hc, h⟩ | ⟨-, h⟩
  · refine jX.swd hc (by rfl) (by rfl) (by rfl) (?_ : jX G jP 153 168 lv [] μ Q)
    refine jX.ic (v := nI 0) (n := 1) (by rfl) (by rfl) (by decide) (?_ : jX G jP 153 169 lv [.int (nI 0)] μ Q)
    exact jX.ret (by rfl) (by rfl) (by rfl) (by rfl) (sretv (f := srI) h K R)
  rcases bif_or h with ⟨hc, h⟩ | ⟨-, h⟩
  · refine jX.swn hc (by rfl) (by rfl) (by rfl) (?_ : jX G jP 153 164 lv [] μ Q)
    refine jX.ic (v := nI 1) (n := 1) (by rfl) (by rfl) (by decide) (?_ : jX G jP 153 165 lv [.int (nI 1)] μ Q)
    exact jX.ret (by rfl) (by rfl) (by rfl) (by rfl) (sretv (f := srI) h K R)
  rcases bif_or h with ⟨hc, h⟩ | ⟨-, h⟩
  · refine jX.swn hc (by rfl) (by rfl) (by rfl) (?_ : jX G jP 153 164 lv [] μ Q)
    refine jX.ic (v := nI 1) (n := 1) (by rfl) (by rfl) (by decide) (?_ : jX G jP 153 165 lv [.int (nI 1)] μ Q)
    exact jX.ret (by rfl) (by rfl) (by rfl) (by rfl) (sretv (f := srI) h K R)
  rcases bif_or h with ⟨hc, h⟩ | ⟨-, h⟩
  · refine jX.swn hc (by rfl) (by rfl) (by rfl) (?_ : jX G jP 153 164 lv [] μ Q)
    refine jX.ic (v := nI 1) (n := 1) (by rfl) (by rfl) (by decide) (?_ : jX G jP 153 165 lv [.int (nI 1)] μ Q)
    exact jX.ret (by rfl) (by rfl) (by rfl) (by rfl) (sretv (f := srI) h K R)
  rcases bif_or h with ⟨hc, h⟩ | ⟨-, h⟩
  · refine jX.swn hc (by rfl) (by rfl) (by rfl) (?_ : jX G jP 153 168 lv [] μ Q)
    refine jX.ic (v := nI 0) (n := 1) (by rfl) (by rfl) (by decide) (?_ : jX G jP 153 169 lv [.int (nI 0)] μ Q)
    exact jX.ret (by rfl) (by rfl) (by rfl) (by rfl) (sretv (f := srI) h K R)
  rcases bif_or h with ⟨hc, h⟩ | ⟨-, h⟩
  · refine jX.swn hc (by rfl) (by rfl) (by rfl) (?_ : jX G jP 153 164 lv [] μ Q)
    refine jX.ic (v := nI 1) (n := 1) (by rfl) (by rfl) (by decide) (?_ : jX G jP 153 165 lv [.int (nI 1)] μ Q)
    exact jX.ret (by rfl) (by rfl) (by rfl) (by rfl) (sretv (f := srI) h K R)
  rcases bif_or h with ⟨hc, h⟩ | ⟨-, h⟩
  · refine jX.swn hc (by rfl) (by rfl) (by rfl) (?_ : jX G jP 153 168 lv [] μ Q)
    refine jX.ic (v := nI 0) (n := 1) (by rfl) (by rfl) (by decide) (?_ : jX G jP 153 169 lv [.int (nI 0)] μ Q)
    exact jX.ret (by rfl) (by rfl) (by rfl) (by rfl) (sretv (f := srI) h K R)
  rcases bif_or h with ⟨hc, h⟩ | ⟨-, h⟩
  · refine jX.swn hc (by rfl) (by rfl) (by rfl) (?_ : jX G jP 153 166 lv [] μ Q)
    refine jX.ic (v := nI 2) (n := 1) (by rfl) (by rfl) (by decide) (?_ : jX G jP 153 167 lv [.int (nI 2)] μ Q)
    exact jX.ret (by rfl) (by rfl) (by rfl) (by rfl) (sretv (f := srI) h K R)
  rcases bif_or h with ⟨hc, h⟩ | ⟨-, h⟩
  · refine jX.swn hc (by rfl) (by rfl) (by rfl) (?_ : jX G jP 153 168 lv [] μ Q)
    refine jX.ic (v := nI 0) (n := 1) (by rfl) (by rfl) (by decide) (?_ : jX G jP 153 169 lv [.int (nI 0)] μ Q)
    exact jX.ret (by rfl) (by rfl) (by rfl) (by rfl) (sretv (f := srI) h K R)
  rcases bif_or h with ⟨hc, h⟩ | ⟨-, h⟩
  · refine jX.swn hc (by rfl) (by rfl) (by rfl) (?_ : jX G jP 153 166 lv [] μ Q)
    refine jX.ic (v := nI 2) (n := 1) (by rfl) (by rfl) (by decide) (?_ : jX G jP 153 167 lv [.int (nI 2)] μ Q)
    exact jX.ret (by rfl) (by rfl) (by rfl) (by rfl) (sretv (f := srI) h K R)
  rcases bif_or h with ⟨hc, h⟩ | ⟨-, h⟩
  · refine jX.swn hc (by rfl) (by rfl) (by rfl) (?_ : jX G jP 153 164 lv [] μ Q)
    refine jX.ic (v := nI 1) (n := 1) (by rfl) (by rfl) (by decide) (?_ : jX G jP 153 165 lv [.int (nI 1)] μ Q)
    exact jX.ret (by rfl) (by rfl) (by rfl) (by rfl) (sretv (f := srI) h K R)
  rcases bif_or h with ⟨hc, h⟩ | ⟨-, h⟩
  · refine jX.swn hc (by rfl) (by rfl) (by rfl) (?_ : jX G jP 153 164 lv [] μ Q)
    refine jX.ic (v := nI 1) (n := 1) (by rfl) (by rfl) (by decide) (?_ : jX G jP 153 165 lv [.int (nI 1)] μ Q)
    exact jX.ret (by rfl) (by rfl) (by rfl) (by rfl) (sretv (f := srI) h K R)
  rcases bif_or h with ⟨hc, h⟩ | ⟨-, h⟩
  · refine jX.swn hc (by rfl) (by rfl) (by rfl) (?_ : jX G jP 153 164 lv [] μ Q)
    refine jX.ic (v := nI 1) (n := 1) (by rfl) (by rfl) (by decide) (?_ : jX G jP 153 165 lv [.int (nI 1)] μ Q)
    exact jX.ret (by rfl) (by rfl) (by rfl) (by rfl) (sretv (f := srI) h K R)
  rcases bif_or h with ⟨hc, h⟩ | ⟨-, h⟩
  · refine jX.swn hc (by rfl) (by rfl) (by rfl) (?_ : jX G jP 153 164 lv [] μ Q)
    refine jX.ic (v := nI 1) (n := 1) (by rfl) (by rfl) (by decide) (?_ : jX G jP 153 165 lv [.int (nI 1)] μ Q)
    exact jX.ret (by rfl) (by rfl) (by rfl) (by rfl) (sretv (f := srI) h K R)
  rcases bif_or h with ⟨hc, h⟩ | ⟨-, h⟩
  · refine jX.swn hc (by rfl) (by rfl) (by rfl) (?_ : jX G jP 153 164 lv [] μ Q)
    refine jX.ic (v := nI 1) (n := 1) (by rfl) (by rfl) (by decide) (?_ : jX G jP 153 165 lv [.int (nI 1)] μ Q)
    exact jX.ret (by rfl) (by rfl) (by rfl) (by rfl) (sretv (f := srI) h K R)
  rcases bif_or h with ⟨hc, h⟩ | ⟨-, h⟩
  · refine jX.swn hc (by rfl) (by rfl) (by rfl) (?_ : jX G jP 153 164 lv [] μ Q)
    refine jX.ic (v := nI 1) (n := 1) (by rfl) (by rfl) (by decide) (?_ : jX G jP 153 165 lv [.int (nI 1)] μ Q)
    exact jX.ret (by rfl) (by rfl) (by rfl) (by rfl) (sretv (f := srI) h K R)
  rcases bif_or h with ⟨hc, h⟩ | ⟨-, h⟩
  · refine jX.swn hc (by rfl) (by rfl) (by rfl) (?_ : jX G jP 153 164 lv [] μ Q)
    refine jX.ic (v := nI 1) (n := 1) (by rfl) (by rfl) (by decide) (?_ : jX G jP 153 165 lv [.int (nI 1)] μ Q)
    exact jX.ret (by rfl) (by rfl) (by rfl) (by rfl) (sretv (f := srI) h K R)
  rcases bif_or h with ⟨hc, h⟩ | ⟨-, h⟩
  · refine jX.swn hc (by rfl) (by rfl) (by rfl) (?_ : jX G jP 153 168 lv [] μ Q)
    refine jX.ic (v := nI 0) (n := 1) (by rfl) (by rfl) (by decide) (?_ : jX G jP 153 169 lv [.int (nI 0)] μ Q)
    exact jX.ret (by rfl) (by rfl) (by rfl) (by rfl) (sretv (f := srI) h K R)
  rcases bif_or h with ⟨hc, h⟩ | ⟨-, h⟩
  · refine jX.swn hc (by rfl) (by rfl) (by rfl) (?_ : jX G jP 153 168 lv [] μ Q)
    refine jX.ic (v := nI 0) (n := 1) (by rfl) (by rfl) (by decide) (?_ : jX G jP 153 169 lv [.int (nI 0)] μ Q)
    exact jX.ret (by rfl) (by rfl) (by rfl) (by rfl) (sretv (f := srI) h K R)
  rcases bif_or h with ⟨hc, h⟩ | ⟨-, h⟩
  · refine jX.swn hc (by rfl) (by rfl) (by rfl) (?_ : jX G jP 153 164 lv [] μ Q)
    refine jX.ic (v := nI 1) (n := 1) (by rfl) (by rfl) (by decide) (?_ : jX G jP 153 165 lv [.int (nI 1)] μ Q)
    exact jX.ret (by rfl) (by rfl) (by rfl) (by rfl) (sretv (f := srI) h K R)
  rcases bif_or h with ⟨hc, h⟩ | ⟨-, h⟩
  · refine jX.swn hc (by rfl) (by rfl) (by rfl) (?_ : jX G jP 153 168 lv [] μ Q)
    refine jX.ic (v := nI 0) (n := 1) (by rfl) (by rfl) (by decide) (?_ : jX G jP 153 169 lv [.int (nI 0)] μ Q)
    exact jX.ret (by rfl) (by rfl) (by rfl) (by rfl) (sretv (f := srI) h K R)
  rcases bif_or h with ⟨hc, h⟩ | ⟨-, h⟩
  · refine jX.swn hc (by rfl) (by rfl) (by rfl) (?_ : jX G jP 153 168 lv [] μ Q)
    refine jX.ic (v := nI 0) (n := 1) (by rfl) (by rfl) (by decide) (?_ : jX G jP 153 169 lv [.int (nI 0)] μ Q)
    exact jX.ret (by rfl) (by rfl) (by rfl) (by rfl) (sretv (f := srI) h K R)
  rcases bif_or h with ⟨hc, h⟩ | ⟨-, h⟩
  · refine jX.swn hc (by rfl) (by rfl) (by rfl) (?_ : jX G jP 153 164 lv [] μ Q)
    refine jX.ic (v := nI 1) (n := 1) (by rfl) (by rfl) (by decide) (?_ : jX G jP 153 165 lv [.int (nI 1)] μ Q)
    exact jX.ret (by rfl) (by rfl) (by rfl) (by rfl) (sretv (f := srI) h K R)
  rcases bif_or h with ⟨hc, h⟩ | ⟨-, h⟩
  · refine jX.swn hc (by rfl) (by rfl) (by rfl) (?_ : jX G jP 153 164 lv [] μ Q)
    refine jX.ic (v := nI 1) (n := 1) (by rfl) (by rfl) (by decide) (?_ : jX G jP 153 165 lv [.int (nI 1)] μ Q)
    exact jX.ret (by rfl) (by rfl) (by rfl) (by rfl) (sretv (f := srI) h K R)
  rcases bif_or h with ⟨hc, h⟩ | ⟨-, h⟩
  · refine jX.swn hc (by rfl) (by rfl) (by rfl) (?_ : jX G jP 153 168 lv [] μ Q)
    refine jX.ic (v := nI 0) (n := 1) (by rfl) (by rfl) (by decide) (?_ : jX G jP 153 169 lv [.int (nI 0)] μ Q)
    exact jX.ret (by rfl) (by rfl) (by rfl) (by rfl) (sretv (f := srI) h K R)
  rcases bif_or h with ⟨hc, h⟩ | ⟨-, h⟩
  · refine jX.swn hc (by rfl) (by rfl) (by rfl) (?_ : jX G jP 153 164 lv [] μ Q)
    refine jX.ic (v := nI 1) (n := 1) (by rfl) (by rfl) (by decide) (?_ : jX G jP 153 165 lv [.int (nI 1)] μ Q)
    exact jX.ret (by rfl) (by rfl) (by rfl) (by rfl) (sretv (f := srI) h K R)
  rcases bif_or h with ⟨hc, h⟩ | ⟨-, h⟩
  · refine jX.swn hc (by rfl) (by rfl) (by rfl) (?_ : jX G jP 153 168 lv [] μ Q)
    refine jX.ic (v := nI 0) (n := 1) (by rfl) (by rfl) (by decide) (?_ : jX G jP 153 169 lv [.int (nI 0)] μ Q)
    exact jX.ret (by rfl) (by rfl) (by rfl) (by rfl) (sretv (f := srI) h K R)
  rcases bif_or h with ⟨hc, h⟩ | ⟨-, h⟩
  · refine jX.swn hc (by rfl) (by rfl) (by rfl) (?_ : jX G jP 153 164 lv [] μ Q)
    refine jX.ic (v := nI 1) (n := 1) (by rfl) (by rfl) (by decide) (?_ : jX G jP 153 165 lv [.int (nI 1)] μ Q)
    exact jX.ret (by rfl) (by rfl) (by rfl) (by rfl) (sretv (f := srI) h K R)
  rcases bif_or h with ⟨hc, h⟩ | ⟨-, h⟩
  · refine jX.swn hc (by rfl) (by rfl) (by rfl) (?_ : jX G jP 153 164 lv [] μ Q)
    refine jX.ic (v := nI 1) (n := 1) (by rfl) (by rfl) (by decide) (?_ : jX G jP 153 165 lv [.int (nI 1)] μ Q)
    exact jX.ret (by rfl) (by rfl) (by rfl) (by rfl) (sretv (f := srI) h K R)
  rcases bif_or h with ⟨hc, h⟩ | ⟨-, h⟩
  · refine jX.swn hc (by rfl) (by rfl) (by rfl) (?_ : jX G jP 153 168 lv [] μ Q)
    refine jX.ic (v := nI 0) (n := 1) (by rfl) (by rfl) (by decide) (?_ : jX G jP 153 169 lv [.int (nI 0)] μ Q)
    exact jX.ret (by rfl) (by rfl) (by rfl) (by rfl) (sretv (f := srI) h K R)
  rcases bif_or h with ⟨hc, h⟩ | ⟨-, h⟩
  · refine jX.swn hc (by rfl) (by rfl) (by rfl) (?_ : jX G jP 153 166 lv [] μ Q)
    refine jX.ic (v := nI 2) (n := 1) (by rfl) (by rfl) (by decide) (?_ : jX G jP 153 167 lv [.int (nI 2)] μ Q)
    exact jX.ret (by rfl) (by rfl) (by rfl) (by rfl) (sretv (f := srI) h K R)
  rcases bif_or h with ⟨hc, h⟩ | ⟨-, h⟩
  · refine jX.swn hc (by rfl) (by rfl) (by rfl) (?_ : jX G jP 153 168 lv [] μ Q)
    refine jX.ic (v := nI 0) (n := 1) (by rfl) (by rfl) (by decide) (?_ : jX G jP 153 169 lv [.int (nI 0)] μ Q)
    exact jX.ret (by rfl) (by rfl) (by rfl) (by rfl) (sretv (f := srI) h K R)
  rcases bif_or h with ⟨hc, h⟩ | ⟨-, h⟩
  · refine jX.swn hc (by rfl) (by rfl) (by rfl) (?_ : jX G jP 153 166 lv [] μ Q)
    refine jX.ic (v := nI 2) (n := 1) (by rfl) (by rfl) (by decide) (?_ : jX G jP 153 167 lv [.int (nI 2)] μ Q)
    exact jX.ret (by rfl) (by rfl) (by rfl) (by rfl) (sretv (f := srI) h K R)
  rcases bif_or h with ⟨hc, h⟩ | ⟨-, h⟩
  · refine jX.swn hc (by rfl) (by rfl) (by rfl) (?_ : jX G jP 153 168 lv [] μ Q)
    refine jX.ic (v := nI 0) (n := 1) (by rfl) (by rfl) (by decide) (?_ : jX G jP 153 169 lv [.int (nI 0)] μ Q)
    exact jX.ret (by rfl) (by rfl) (by rfl) (by rfl) (sretv (f := srI) h K R)
  rcases bif_or h with ⟨hc, h⟩ | ⟨-, h⟩
  · refine jX.swn hc (by rfl) (by rfl) (by rfl) (?_ : jX G jP 153 168 lv [] μ Q)
    refine jX.ic (v := nI 0) (n := 1) (by rfl) (by rfl) (by decide) (?_ : jX G jP 153 169 lv [.int (nI 0)] μ Q)
    exact jX.ret (by rfl) (by rfl) (by rfl) (by rfl) (sretv (f := srI) h K R)
  rcases bif_or h with ⟨hc, h⟩ | ⟨-, h⟩
  · refine jX.swn hc (by rfl) (by rfl) (by rfl) (?_ : jX G jP 153 168 lv [] μ Q)
    refine jX.ic (v := nI 0) (n := 1) (by rfl) (by rfl) (by decide) (?_ : jX G jP 153 169 lv [.int (nI 0)] μ Q)
    exact jX.ret (by rfl) (by rfl) (by rfl) (by rfl) (sretv (f := srI) h K R)
  rcases bif_or h with ⟨hc, h⟩ | ⟨-, h⟩
  · refine jX.swn hc (by rfl) (by rfl) (by rfl) (?_ : jX G jP 153 168 lv [] μ Q)
    refine jX.ic (v := nI 0) (n := 1) (by rfl) (by rfl) (by decide) (?_ : jX G jP 153 169 lv [.int (nI 0)] μ Q)
    exact jX.ret (by rfl) (by rfl) (by rfl) (by rfl) (sretv (f := srI) h K R)
  rcases bif_or h with ⟨hc, h⟩ | ⟨-, h⟩
  · refine jX.swn hc (by rfl) (by rfl) (by rfl) (?_ : jX G jP 153 164 lv [] μ Q)
    refine jX.ic (v := nI 1) (n := 1) (by rfl) (by rfl) (by decide) (?_ : jX G jP 153 165 lv [.int (nI 1)] μ Q)
    exact jX.ret (by rfl) (by rfl) (by rfl) (by rfl) (sretv (f := srI) h K R)
  cases h
/-! 154 StrandRuntimeModel.settle(LStrandRuntimeModel$Strand;)V -/
def F_154_181 (G : jG) (t : Nat) (w0 : Int32) (w1 : (Nat × Nat)) (S : sS) : Option (Unit × sS) := jif (sex S.2.2.2.1 54 w1.1 w1.2) (some ((), (siI S 54 w1.1 w1.2 2 w0)))
theorem F_154_181_ok {G : jG} {t : Nat} {r : Unit} {S' : sS} {Q : Option Value ⊕ Nat → jS → Prop} (K : ∀ μ', sR S' μ' → Q (srV r) μ') : ∀ (w0 : Int32) (w1 : (Nat × Nat)) (S : sS) (lv : jL) (μ : jS), sR S μ → F_154_181 G t w0 w1 S = some (r, S') → jX G jP 154 181 lv [.int w0, .ref (spl 54 w1.1 w1.2)] μ Q := by
  intro w0 w1 S lv μ R h
  unfold F_154_181 at h
  obtain ⟨g1, h⟩ := jif_some h
  refine jX.spI R g1 (by rfl) (by rfl) (by rfl) (by rfl) (by rfl) (by rfl) (by rfl) (by rfl) (fun μ R => (?_ : jX G jP 154 184 lv [] μ Q))
  exact jX.ret (by rfl) (by rfl) (by rfl) (by rfl) (sretv (f := srV) h K R)
def F_154_145 (G : jG) (t : Nat) (v1 : (Nat × Nat)) (v2 : (Nat × Nat)) (w0 : Int32) (w1 : (Nat × Nat)) (S : sS) : Option (Unit × sS) := jif (sex S.2.2.2.1 54 w1.1 w1.2) (jif (sex (siI S 54 w1.1 w1.2 0 w0).2.2.2.1 56 v2.1 v2.2) (bif jcmp .ne ((siI S 54 w1.1 w1.2 0 w0).1 56 v2.1 v2.2 4) (nI 2) then (bif jcmp .ne ((siI S 54 w1.1 w1.2 0 w0).1 56 v2.1 v2.2 7) 0 then (F_154_181 G t (nI 0) v1 (siI S 54 w1.1 w1.2 0 w0)) else (F_154_181 G t (((siI S 54 w1.1 w1.2 0 w0).2.1 56 v2.1 v2.2 8).toInt32) v1 (siI S 54 w1.1 w1.2 0 w0))) else (F_154_181 G t (((siI S 54 w1.1 w1.2 0 w0).2.1 56 v2.1 v2.2 6).toInt32) v1 (siI S 54 w1.1 w1.2 0 w0))))
theorem F_154_145_ok {G : jG} {t : Nat} {r : Unit} {S' : sS} {Q : Option Value ⊕ Nat → jS → Prop} (K : ∀ μ', sR S' μ' → Q (srV r) μ') : ∀ (v1 : (Nat × Nat)) (v2 : (Nat × Nat)) (w0 : Int32) (w1 : (Nat × Nat)) (S : sS) (lv : jL) (μ : jS), jld lv 1 = some (.ref (spl 54 v1.1 v1.2)) → jld lv 2 = some (.ref (spl 56 v2.1 v2.2)) → sR S μ → F_154_145 G t v1 v2 w0 w1 S = some (r, S') → jX G jP 154 145 lv [.int w0, .ref (spl 54 w1.1 w1.2)] μ Q := by
  intro v1 v2 w0 w1 S lv μ l1 l2 R h
  unfold F_154_145 at h
  obtain ⟨g1, h⟩ := jif_some h
  refine jX.spI R g1 (by rfl) (by rfl) (by rfl) (by rfl) (by rfl) (by rfl) (by rfl) (by rfl) (fun μ R => (?_ : jX G jP 154 148 lv [] μ Q))
  refine jX.lrn l1 (by rfl) (by rfl) (?_ : jX G jP 154 149 lv [.ref (spl 54 v1.1 v1.2)] μ Q)
  refine jX.lrn l2 (by rfl) (by rfl) (?_ : jX G jP 154 150 lv [.ref (spl 56 v2.1 v2.2), .ref (spl 54 v1.1 v1.2)] μ Q)
  obtain ⟨g2, h⟩ := jif_some h
  refine jX.sg R g2 (by rfl) (by rfl) (by rfl) (by rfl) (by rfl) (?_ : jX G jP 154 153 lv [.int ((siI S 54 w1.1 w1.2 0 w0).1 56 v2.1 v2.2 4), .ref (spl 54 v1.1 v1.2)] μ Q)
  refine jX.ic (v := nI 2) (n := 1) (by rfl) (by rfl) (by decide) (?_ : jX G jP 154 154 lv [.int (nI 2), .int ((siI S 54 w1.1 w1.2 0 w0).1 56 v2.1 v2.2 4), .ref (spl 54 v1.1 v1.2)] μ Q)
  rcases bif_or h with ⟨hc, h⟩ | ⟨hc, h⟩
  · refine jX.b2t hc (by rfl) (by rfl) (by rfl) (?_ : jX G jP 154 165 lv [.ref (spl 54 v1.1 v1.2)] μ Q)
    refine jX.lrn l2 (by rfl) (by rfl) (?_ : jX G jP 154 166 lv [.ref (spl 56 v2.1 v2.2), .ref (spl 54 v1.1 v1.2)] μ Q)
    refine jX.sg R g2 (by rfl) (by rfl) (by rfl) (by rfl) (by rfl) (?_ : jX G jP 154 169 lv [.int ((siI S 54 w1.1 w1.2 0 w0).1 56 v2.1 v2.2 7), .ref (spl 54 v1.1 v1.2)] μ Q)
    rcases bif_or h with ⟨hc, h⟩ | ⟨hc, h⟩
    · refine jX.b1t hc (by rfl) (by rfl) (by rfl) (?_ : jX G jP 154 180 lv [.ref (spl 54 v1.1 v1.2)] μ Q)
      refine jX.ic (v := nI 0) (n := 1) (by rfl) (by rfl) (by decide) (?_ : jX G jP 154 181 lv [.int (nI 0), .ref (spl 54 v1.1 v1.2)] μ Q)
      exact F_154_181_ok  K (nI 0) v1 _ _ _  R h
    · refine jX.b1f hc (by rfl) (by rfl) (by rfl) (?_ : jX G jP 154 172 lv [.ref (spl 54 v1.1 v1.2)] μ Q)
      refine jX.lrn l2 (by rfl) (by rfl) (?_ : jX G jP 154 173 lv [.ref (spl 56 v2.1 v2.2), .ref (spl 54 v1.1 v1.2)] μ Q)
      refine jX.sg R g2 (by rfl) (by rfl) (by rfl) (by rfl) (by rfl) (?_ : jX G jP 154 176 lv [.long ((siI S 54 w1.1 w1.2 0 w0).2.1 56 v2.1 v2.2 8), .ref (spl 54 v1.1 v1.2)] μ Q)
      refine jX.go (by rfl) (by rfl) (by rfl) (?_ : jX G jP 154 177 lv [.int (((siI S 54 w1.1 w1.2 0 w0).2.1 56 v2.1 v2.2 8).toInt32), .ref (spl 54 v1.1 v1.2)] μ Q)
      refine jX.go (by rfl) (by rfl) (by rfl) (?_ : jX G jP 154 181 lv [.int (((siI S 54 w1.1 w1.2 0 w0).2.1 56 v2.1 v2.2 8).toInt32), .ref (spl 54 v1.1 v1.2)] μ Q)
      exact F_154_181_ok  K (((siI S 54 w1.1 w1.2 0 w0).2.1 56 v2.1 v2.2 8).toInt32) v1 _ _ _  R h
  · refine jX.b2f hc (by rfl) (by rfl) (by rfl) (?_ : jX G jP 154 157 lv [.ref (spl 54 v1.1 v1.2)] μ Q)
    refine jX.lrn l2 (by rfl) (by rfl) (?_ : jX G jP 154 158 lv [.ref (spl 56 v2.1 v2.2), .ref (spl 54 v1.1 v1.2)] μ Q)
    refine jX.sg R g2 (by rfl) (by rfl) (by rfl) (by rfl) (by rfl) (?_ : jX G jP 154 161 lv [.long ((siI S 54 w1.1 w1.2 0 w0).2.1 56 v2.1 v2.2 6), .ref (spl 54 v1.1 v1.2)] μ Q)
    refine jX.go (by rfl) (by rfl) (by rfl) (?_ : jX G jP 154 162 lv [.int (((siI S 54 w1.1 w1.2 0 w0).2.1 56 v2.1 v2.2 6).toInt32), .ref (spl 54 v1.1 v1.2)] μ Q)
    refine jX.go (by rfl) (by rfl) (by rfl) (?_ : jX G jP 154 181 lv [.int (((siI S 54 w1.1 w1.2 0 w0).2.1 56 v2.1 v2.2 6).toInt32), .ref (spl 54 v1.1 v1.2)] μ Q)
    exact F_154_181_ok  K (((siI S 54 w1.1 w1.2 0 w0).2.1 56 v2.1 v2.2 6).toInt32) v1 _ _ _  R h
def F_154_257 (G : jG) (t : Nat) (k0 : (Nat × Nat) → sS → Option (Unit × sS)) (v1 : (Nat × Nat)) (S : sS) : Option (Unit × sS) := k0 v1 S
theorem F_154_257_ok {G : jG} {t : Nat} {k0 : (Nat × Nat) → sS → Option (Unit × sS)} {r : Unit} {S' : sS} {Q : Option Value ⊕ Nat → jS → Prop} (hk0 : ∀ (v1 : (Nat × Nat)) (S : sS) (lv : jL) (μ : jS), jld lv 0 = some (.ref (spl 33 0 0)) → jld lv 1 = some (.ref (spl 54 v1.1 v1.2)) → sR S μ → k0 v1 S = some (r, S') → jX G jP 154 0 lv [] μ Q) (K : ∀ μ', sR S' μ' → Q (srV r) μ') : ∀ (v1 : (Nat × Nat)) (S : sS) (lv : jL) (μ : jS), jld lv 0 = some (.ref (spl 33 0 0)) → jld lv 1 = some (.ref (spl 54 v1.1 v1.2)) → sR S μ → F_154_257 G t k0 v1 S = some (r, S') → jX G jP 154 257 lv [] μ Q := by
  intro v1 S lv μ l0 l1 R h
  unfold F_154_257 at h
  refine jX.go (by rfl) (by rfl) (by rfl) (?_ : jX G jP 154 0 lv [] μ Q)
  exact hk0 v1 _ _ _ l0 l1 R h
def F_154_0 (G : jG) (t : Nat) : Nat → (Nat × Nat) → sS → Option (Unit × sS)
  | 0 => fun _ _ => none
  | tt + 1 => fun v1 S => jif (sex S.2.2.2.1 54 v1.1 v1.2) (bif jcmp .le (S.1 54 v1.1 v1.2 1) 0 then (some ((), S)) else ((F_151 G t v1 S).bind (fun q2 => (q2.1).bind (fun a3 => jif (sex q2.2.2.2.2.1 56 a3.1 a3.2) (bif jcmp .ne (q2.2.1 56 a3.1 a3.2 4) 0 then (bif jcmp .le (q2.2.1 56 a3.1 a3.2 3) 0 then (jif (sex q2.2.2.2.2.1 54 v1.1 v1.2) (bif jcmp .ne ((siI q2.2 54 v1.1 v1.2 1 ((q2.2.1 54 v1.1 v1.2 1) - (nI 1))).1 54 v1.1 v1.2 1) 0 then ((F_151 G t v1 (siI q2.2 54 v1.1 v1.2 1 ((q2.2.1 54 v1.1 v1.2 1) - (nI 1)))).bind (fun q6 => jif (sex q6.2.2.2.2.1 56 a3.1 a3.2) (bif jcmp .ne (q6.2.1 56 a3.1 a3.2 4) (nI 2) then (bif jcmp .ne (q6.2.1 56 a3.1 a3.2 5) 0 then (F_154_257 G t (F_154_0 G t tt) v1 q6.2) else ((q6.1).bind (fun a8 => jif (sex q6.2.2.2.2.1 56 a8.1 a8.2) (jif (sex q6.2.2.2.2.1 58 a8.1 a8.2) (jif (jin (q6.2.1 56 a8.1 a8.2 2) 16) (jif (sex (siI q6.2 58 a8.1 a8.2 (q6.2.1 56 a8.1 a8.2 2).toNatClampNeg (q6.2.1 56 a3.1 a3.2 7)).2.2.2.1 62 a8.1 a8.2) (jif (jin ((siI q6.2 58 a8.1 a8.2 (q6.2.1 56 a8.1 a8.2 2).toNatClampNeg (q6.2.1 56 a3.1 a3.2 7)).1 56 a8.1 a8.2 2) 16) (F_154_257 G t (F_154_0 G t tt) v1 (siI (siL (siI q6.2 58 a8.1 a8.2 (q6.2.1 56 a8.1 a8.2 2).toNatClampNeg (q6.2.1 56 a3.1 a3.2 7)) 62 a8.1 a8.2 ((siI q6.2 58 a8.1 a8.2 (q6.2.1 56 a8.1 a8.2 2).toNatClampNeg (q6.2.1 56 a3.1 a3.2 7)).1 56 a8.1 a8.2 2).toNatClampNeg ((siI q6.2 58 a8.1 a8.2 (q6.2.1 56 a8.1 a8.2 2).toNatClampNeg (q6.2.1 56 a3.1 a3.2 7)).2.1 56 a3.1 a3.2 8)) 56 a8.1 a8.2 2 (((siL (siI q6.2 58 a8.1 a8.2 (q6.2.1 56 a8.1 a8.2 2).toNatClampNeg (q6.2.1 56 a3.1 a3.2 7)) 62 a8.1 a8.2 ((siI q6.2 58 a8.1 a8.2 (q6.2.1 56 a8.1 a8.2 2).toNatClampNeg (q6.2.1 56 a3.1 a3.2 7)).1 56 a8.1 a8.2 2).toNatClampNeg ((siI q6.2 58 a8.1 a8.2 (q6.2.1 56 a8.1 a8.2 2).toNatClampNeg (q6.2.1 56 a3.1 a3.2 7)).2.1 56 a3.1 a3.2 8)).1 56 a8.1 a8.2 2) + (nI 1))))))))))) else ((q6.1).bind (fun a14 => jif (sex q6.2.2.2.2.1 56 a14.1 a14.2) (F_154_257 G t (F_154_0 G t tt) v1 (siL (siI q6.2 56 a14.1 a14.2 4 (nI 2)) 56 a14.1 a14.2 6 ((siI q6.2 56 a14.1 a14.2 4 (nI 2)).2.1 56 a3.1 a3.2 6)))))))) else (bif jcmp .ne ((siI q2.2 54 v1.1 v1.2 1 ((q2.2.1 54 v1.1 v1.2 1) - (nI 1))).1 56 a3.1 a3.2 4) (nI 1) then (F_154_145 G t v1 a3 (nI 6) v1 (siI q2.2 54 v1.1 v1.2 1 ((q2.2.1 54 v1.1 v1.2 1) - (nI 1)))) else (F_154_145 G t v1 a3 (nI 5) v1 (siI q2.2 54 v1.1 v1.2 1 ((q2.2.1 54 v1.1 v1.2 1) - (nI 1))))))) else (jif (sex (siI q2.2 56 a3.1 a3.2 3 ((q2.2.1 56 a3.1 a3.2 3) - (nI 1))).2.2.2.1 54 v1.1 v1.2) (bif jcmp .ne ((siI q2.2 56 a3.1 a3.2 3 ((q2.2.1 56 a3.1 a3.2 3) - (nI 1))).1 54 v1.1 v1.2 1) (nI 30) then (jif (sex (siI q2.2 56 a3.1 a3.2 3 ((q2.2.1 56 a3.1 a3.2 3) - (nI 1))).2.2.2.1 60 a3.1 a3.2) (jif (jin ((siI q2.2 56 a3.1 a3.2 3 ((q2.2.1 56 a3.1 a3.2 3) - (nI 1))).1 56 a3.1 a3.2 3) 6) ((F_142 G t v1 ((siI q2.2 56 a3.1 a3.2 3 ((q2.2.1 56 a3.1 a3.2 3) - (nI 1))).1 60 a3.1 a3.2 ((siI q2.2 56 a3.1 a3.2 3 ((q2.2.1 56 a3.1 a3.2 3) - (nI 1))).1 56 a3.1 a3.2 3).toNatClampNeg) (nI 1) (siI q2.2 56 a3.1 a3.2 3 ((q2.2.1 56 a3.1 a3.2 3) - (nI 1)))).bind (fun q19 => (F_151 G t v1 q19.2).bind (fun q20 => (q20.1).bind (fun a21 => jif (sex q20.2.2.2.2.1 56 a21.1 a21.2) (jif (sex q20.2.2.2.2.1 56 a3.1 a3.2) (jif (sex q20.2.2.2.2.1 59 a3.1 a3.2) (jif (jin (q20.2.1 56 a3.1 a3.2 3) 6) (jif (sex q20.2.2.2.2.1 57 a21.1 a21.2) (jif (jin (nI 0) 12) ((F_151 G t v1 (siI q20.2 57 a21.1 a21.2 (nI 0).toNatClampNeg (q20.2.1 59 a3.1 a3.2 (q20.2.1 56 a3.1 a3.2 3).toNatClampNeg))).bind (fun q28 => (q28.1).bind (fun a29 => jif (sex q28.2.2.2.2.1 56 a29.1 a29.2) (jif (sex q28.2.2.2.2.1 56 a3.1 a3.2) (jif (sex q28.2.2.2.2.1 63 a3.1 a3.2) (jif (jin (q28.2.1 56 a3.1 a3.2 3) 6) (jif (sex q28.2.2.2.2.1 61 a29.1 a29.2) (jif (jin (nI 0) 12) (some ((), (siL q28.2 61 a29.1 a29.2 (nI 0).toNatClampNeg (q28.2.2.1 63 a3.1 a3.2 (q28.2.1 56 a3.1 a3.2 3).toNatClampNeg))))))))))))))))))))))) else (F_154_0 G t tt v1 (siL (siI (siI q2.2 56 a3.1 a3.2 3 ((q2.2.1 56 a3.1 a3.2 3) - (nI 1))) 56 a3.1 a3.2 4 (nI 2)) 56 a3.1 a3.2 6 (-3)))))) else (some ((), q2.2)))))))
theorem F_154_0_ok {G : jG} {t : Nat} {r : Unit} {S' : sS} {Q : Option Value ⊕ Nat → jS → Prop} (K : ∀ μ', sR S' μ' → Q (srV r) μ') : ∀ tt : Nat, ∀ (v1 : (Nat × Nat)) (S : sS) (lv : jL) (μ : jS), jld lv 0 = some (.ref (spl 33 0 0)) → jld lv 1 = some (.ref (spl 54 v1.1 v1.2)) → sR S μ → F_154_0 G t tt v1 S = some (r, S') → jX G jP 154 0 lv [] μ Q := by
  intro tt
  induction tt with
  | zero =>
    intro v1 S lv μ l0 l1 R h
    rw [F_154_0] at h
    cases h
  | succ tt ih =>
    intro v1 S lv μ l0 l1 R h
    rw [F_154_0] at h
    refine jX.lrn l1 (by rfl) (by rfl) (?_ : jX G jP 154 1 lv [.ref (spl 54 v1.1 v1.2)] μ Q)
    obtain ⟨g1, h⟩ := jif_some h
    refine jX.sg R g1 (by rfl) (by rfl) (by rfl) (by rfl) (by rfl) (?_ : jX G jP 154 4 lv [.int (S.1 54 v1.1 v1.2 1)] μ Q)
    rcases bif_or h with ⟨hc, h⟩ | ⟨hc, h⟩
    · refine jX.b1t hc (by rfl) (by rfl) (by rfl) (?_ : jX G jP 154 260 lv [] μ Q)
      exact jX.ret (by rfl) (by rfl) (by rfl) (by rfl) (sretv (f := srV) h K R)
    · refine jX.b1f hc (by rfl) (by rfl) (by rfl) (?_ : jX G jP 154 7 lv [] μ Q)
      refine jX.lrn l1 (by rfl) (by rfl) (?_ : jX G jP 154 8 lv [.ref (spl 54 v1.1 v1.2)] μ Q)
      obtain ⟨q2, e2, h⟩ := sbd h
      refine jX.c1 (v := soR 56 q2.1) (by rfl) (by rfl) (by rfl) (by rfl) (by rfl) (by rfl) (by rfl) (by rfl) (Nat.le_of_ble_eq_true rfl) (Nat.le_of_ble_eq_true rfl) (F_151_ok R e2 (fun μ R => ⟨rfl, (?_ : jX G jP 154 11 lv [soR 56 q2.1] μ Q)⟩))
      refine jX.so (k := 2) (pc' := 12) (by rfl) (by rfl) (fun _ => by rfl) (by rfl) (fun lv l2 kp => (?_ : jX G jP 154 12 lv [] μ Q))
      replace l0 := kp 0 _ l0 (by rfl) (by first | rfl | simp [soR_cat])
      replace l1 := kp 1 _ l1 (by rfl) (by first | rfl | simp [soR_cat])
      refine jX.lon l2 (by rfl) (by rfl) (?_ : jX G jP 154 13 lv [soR 56 q2.1] μ Q)
      obtain ⟨a3, e3, h⟩ := sbd h
      rw [soR_some (t := 56) e3]
      rw [soR_some (t := 56) e3] at l2
      obtain ⟨g4, h⟩ := jif_some h
      refine jX.sg R g4 (by rfl) (by rfl) (by rfl) (by rfl) (by rfl) (?_ : jX G jP 154 16 lv [.int (q2.2.1 56 a3.1 a3.2 4)] μ Q)
      rcases bif_or h with ⟨hc, h⟩ | ⟨hc, h⟩
      · refine jX.b1t hc (by rfl) (by rfl) (by rfl) (?_ : jX G jP 154 20 lv [] μ Q)
        refine jX.lrn l2 (by rfl) (by rfl) (?_ : jX G jP 154 21 lv [.ref (spl 56 a3.1 a3.2)] μ Q)
        refine jX.sg R g4 (by rfl) (by rfl) (by rfl) (by rfl) (by rfl) (?_ : jX G jP 154 24 lv [.int (q2.2.1 56 a3.1 a3.2 3)] μ Q)
        rcases bif_or h with ⟨hc, h⟩ | ⟨hc, h⟩
        · refine jX.b1t hc (by rfl) (by rfl) (by rfl) (?_ : jX G jP 154 113 lv [] μ Q)
          refine jX.lrn l1 (by rfl) (by rfl) (?_ : jX G jP 154 114 lv [.ref (spl 54 v1.1 v1.2)] μ Q)
          refine jX.go (by rfl) (by rfl) (by rfl) (?_ : jX G jP 154 115 lv [.ref (spl 54 v1.1 v1.2), .ref (spl 54 v1.1 v1.2)] μ Q)
          obtain ⟨g5, h⟩ := jif_some h
          refine jX.sg R g5 (by rfl) (by rfl) (by rfl) (by rfl) (by rfl) (?_ : jX G jP 154 118 lv [.int (q2.2.1 54 v1.1 v1.2 1), .ref (spl 54 v1.1 v1.2)] μ Q)
          refine jX.ic (v := nI 1) (n := 1) (by rfl) (by rfl) (by decide) (?_ : jX G jP 154 119 lv [.int (nI 1), .int (q2.2.1 54 v1.1 v1.2 1), .ref (spl 54 v1.1 v1.2)] μ Q)
          refine jX.go (by rfl) (by rfl) (by rfl) (?_ : jX G jP 154 120 lv [.int ((q2.2.1 54 v1.1 v1.2 1) - (nI 1)), .ref (spl 54 v1.1 v1.2)] μ Q)
          refine jX.spI R g5 (by rfl) (by rfl) (by rfl) (by rfl) (by rfl) (by rfl) (by rfl) (by rfl) (fun μ R => (?_ : jX G jP 154 123 lv [] μ Q))
          refine jX.lrn l1 (by rfl) (by rfl) (?_ : jX G jP 154 124 lv [.ref (spl 54 v1.1 v1.2)] μ Q)
          refine jX.sg R g5 (by rfl) (by rfl) (by rfl) (by rfl) (by rfl) (?_ : jX G jP 154 127 lv [.int ((siI q2.2 54 v1.1 v1.2 1 ((q2.2.1 54 v1.1 v1.2 1) - (nI 1))).1 54 v1.1 v1.2 1)] μ Q)
          rcases bif_or h with ⟨hc, h⟩ | ⟨hc, h⟩
          · refine jX.b1t hc (by rfl) (by rfl) (by rfl) (?_ : jX G jP 154 185 lv [] μ Q)
            refine jX.lrn l1 (by rfl) (by rfl) (?_ : jX G jP 154 186 lv [.ref (spl 54 v1.1 v1.2)] μ Q)
            obtain ⟨q6, e6, h⟩ := sbd h
            refine jX.c1 (v := soR 56 q6.1) (by rfl) (by rfl) (by rfl) (by rfl) (by rfl) (by rfl) (by rfl) (by rfl) (Nat.le_of_ble_eq_true rfl) (Nat.le_of_ble_eq_true rfl) (F_151_ok R e6 (fun μ R => ⟨rfl, (?_ : jX G jP 154 189 lv [soR 56 q6.1] μ Q)⟩))
            refine jX.so (k := 3) (pc' := 190) (by rfl) (by rfl) (fun _ => by rfl) (by rfl) (fun lv l3 kp => (?_ : jX G jP 154 190 lv [] μ Q))
            replace l0 := kp 0 _ l0 (by rfl) (by first | rfl | simp [soR_cat])
            replace l1 := kp 1 _ l1 (by rfl) (by first | rfl | simp [soR_cat])
            replace l2 := kp 2 _ l2 (by rfl) (by first | rfl | simp [soR_cat])
            refine jX.lrn l2 (by rfl) (by rfl) (?_ : jX G jP 154 191 lv [.ref (spl 56 a3.1 a3.2)] μ Q)
            obtain ⟨g7, h⟩ := jif_some h
            refine jX.sg R g7 (by rfl) (by rfl) (by rfl) (by rfl) (by rfl) (?_ : jX G jP 154 194 lv [.int (q6.2.1 56 a3.1 a3.2 4)] μ Q)
            refine jX.ic (v := nI 2) (n := 1) (by rfl) (by rfl) (by decide) (?_ : jX G jP 154 195 lv [.int (nI 2), .int (q6.2.1 56 a3.1 a3.2 4)] μ Q)
            rcases bif_or h with ⟨hc, h⟩ | ⟨hc, h⟩
            · refine jX.b2t hc (by rfl) (by rfl) (by rfl) (?_ : jX G jP 154 214 lv [] μ Q)
              refine jX.lrn l2 (by rfl) (by rfl) (?_ : jX G jP 154 215 lv [.ref (spl 56 a3.1 a3.2)] μ Q)
              refine jX.sg R g7 (by rfl) (by rfl) (by rfl) (by rfl) (by rfl) (?_ : jX G jP 154 218 lv [.int (q6.2.1 56 a3.1 a3.2 5)] μ Q)
              rcases bif_or h with ⟨hc, h⟩ | ⟨hc, h⟩
              · refine jX.b1t hc (by rfl) (by rfl) (by rfl) (?_ : jX G jP 154 257 lv [] μ Q)
                exact F_154_257_ok ih K v1 _ _ _ l0 l1 R h
              · refine jX.b1f hc (by rfl) (by rfl) (by rfl) (?_ : jX G jP 154 221 lv [] μ Q)
                refine jX.lon l3 (by rfl) (by rfl) (?_ : jX G jP 154 222 lv [soR 56 q6.1] μ Q)
                obtain ⟨a8, e8, h⟩ := sbd h
                rw [soR_some (t := 56) e8]
                rw [soR_some (t := 56) e8] at l3
                obtain ⟨g9, h⟩ := jif_some h
                refine jX.sg R g9 (by rfl) (by rfl) (by rfl) (by rfl) (by rfl) (?_ : jX G jP 154 225 lv [.ref (spl 58 a8.1 a8.2)] μ Q)
                refine jX.lrn l3 (by rfl) (by rfl) (?_ : jX G jP 154 226 lv [.ref (spl 56 a8.1 a8.2), .ref (spl 58 a8.1 a8.2)] μ Q)
                refine jX.sg R g9 (by rfl) (by rfl) (by rfl) (by rfl) (by rfl) (?_ : jX G jP 154 229 lv [.int (q6.2.1 56 a8.1 a8.2 2), .ref (spl 58 a8.1 a8.2)] μ Q)
                refine jX.lrn l2 (by rfl) (by rfl) (?_ : jX G jP 154 230 lv [.ref (spl 56 a3.1 a3.2), .int (q6.2.1 56 a8.1 a8.2 2), .ref (spl 58 a8.1 a8.2)] μ Q)
                refine jX.sg R g7 (by rfl) (by rfl) (by rfl) (by rfl) (by rfl) (?_ : jX G jP 154 233 lv [.int (q6.2.1 56 a3.1 a3.2 7), .int (q6.2.1 56 a8.1 a8.2 2), .ref (spl 58 a8.1 a8.2)] μ Q)
                obtain ⟨g10, h⟩ := jif_some h
                obtain ⟨g11, h⟩ := jif_some h
                refine jX.sti R g10 (by rfl) (by rfl) (fun _ => by rfl) g11 (fun μ R => (?_ : jX G jP 154 234 lv [] μ Q))
                refine jX.lrn l3 (by rfl) (by rfl) (?_ : jX G jP 154 235 lv [.ref (spl 56 a8.1 a8.2)] μ Q)
                refine jX.sg R g9 (by rfl) (by rfl) (by rfl) (by rfl) (by rfl) (?_ : jX G jP 154 238 lv [.ref (spl 62 a8.1 a8.2)] μ Q)
                refine jX.lrn l3 (by rfl) (by rfl) (?_ : jX G jP 154 239 lv [.ref (spl 56 a8.1 a8.2), .ref (spl 62 a8.1 a8.2)] μ Q)
                refine jX.sg R g9 (by rfl) (by rfl) (by rfl) (by rfl) (by rfl) (?_ : jX G jP 154 242 lv [.int ((siI q6.2 58 a8.1 a8.2 (q6.2.1 56 a8.1 a8.2 2).toNatClampNeg (q6.2.1 56 a3.1 a3.2 7)).1 56 a8.1 a8.2 2), .ref (spl 62 a8.1 a8.2)] μ Q)
                refine jX.lrn l2 (by rfl) (by rfl) (?_ : jX G jP 154 243 lv [.ref (spl 56 a3.1 a3.2), .int ((siI q6.2 58 a8.1 a8.2 (q6.2.1 56 a8.1 a8.2 2).toNatClampNeg (q6.2.1 56 a3.1 a3.2 7)).1 56 a8.1 a8.2 2), .ref (spl 62 a8.1 a8.2)] μ Q)
                refine jX.sg R g7 (by rfl) (by rfl) (by rfl) (by rfl) (by rfl) (?_ : jX G jP 154 246 lv [.long ((siI q6.2 58 a8.1 a8.2 (q6.2.1 56 a8.1 a8.2 2).toNatClampNeg (q6.2.1 56 a3.1 a3.2 7)).2.1 56 a3.1 a3.2 8), .int ((siI q6.2 58 a8.1 a8.2 (q6.2.1 56 a8.1 a8.2 2).toNatClampNeg (q6.2.1 56 a3.1 a3.2 7)).1 56 a8.1 a8.2 2), .ref (spl 62 a8.1 a8.2)] μ Q)
                obtain ⟨g12, h⟩ := jif_some h
                obtain ⟨g13, h⟩ := jif_some h
                refine jX.stl R g12 (by rfl) (by rfl) (fun _ => by rfl) g13 (fun μ R => (?_ : jX G jP 154 247 lv [] μ Q))
                refine jX.lrn l3 (by rfl) (by rfl) (?_ : jX G jP 154 248 lv [.ref (spl 56 a8.1 a8.2)] μ Q)
                refine jX.go (by rfl) (by rfl) (by rfl) (?_ : jX G jP 154 249 lv [.ref (spl 56 a8.1 a8.2), .ref (spl 56 a8.1 a8.2)] μ Q)
                refine jX.sg R g9 (by rfl) (by rfl) (by rfl) (by rfl) (by rfl) (?_ : jX G jP 154 252 lv [.int ((siL (siI q6.2 58 a8.1 a8.2 (q6.2.1 56 a8.1 a8.2 2).toNatClampNeg (q6.2.1 56 a3.1 a3.2 7)) 62 a8.1 a8.2 ((siI q6.2 58 a8.1 a8.2 (q6.2.1 56 a8.1 a8.2 2).toNatClampNeg (q6.2.1 56 a3.1 a3.2 7)).1 56 a8.1 a8.2 2).toNatClampNeg ((siI q6.2 58 a8.1 a8.2 (q6.2.1 56 a8.1 a8.2 2).toNatClampNeg (q6.2.1 56 a3.1 a3.2 7)).2.1 56 a3.1 a3.2 8)).1 56 a8.1 a8.2 2), .ref (spl 56 a8.1 a8.2)] μ Q)
                refine jX.ic (v := nI 1) (n := 1) (by rfl) (by rfl) (by decide) (?_ : jX G jP 154 253 lv [.int (nI 1), .int ((siL (siI q6.2 58 a8.1 a8.2 (q6.2.1 56 a8.1 a8.2 2).toNatClampNeg (q6.2.1 56 a3.1 a3.2 7)) 62 a8.1 a8.2 ((siI q6.2 58 a8.1 a8.2 (q6.2.1 56 a8.1 a8.2 2).toNatClampNeg (q6.2.1 56 a3.1 a3.2 7)).1 56 a8.1 a8.2 2).toNatClampNeg ((siI q6.2 58 a8.1 a8.2 (q6.2.1 56 a8.1 a8.2 2).toNatClampNeg (q6.2.1 56 a3.1 a3.2 7)).2.1 56 a3.1 a3.2 8)).1 56 a8.1 a8.2 2), .ref (spl 56 a8.1 a8.2)] μ Q)
                refine jX.go (by rfl) (by rfl) (by rfl) (?_ : jX G jP 154 254 lv [.int (((siL (siI q6.2 58 a8.1 a8.2 (q6.2.1 56 a8.1 a8.2 2).toNatClampNeg (q6.2.1 56 a3.1 a3.2 7)) 62 a8.1 a8.2 ((siI q6.2 58 a8.1 a8.2 (q6.2.1 56 a8.1 a8.2 2).toNatClampNeg (q6.2.1 56 a3.1 a3.2 7)).1 56 a8.1 a8.2 2).toNatClampNeg ((siI q6.2 58 a8.1 a8.2 (q6.2.1 56 a8.1 a8.2 2).toNatClampNeg (q6.2.1 56 a3.1 a3.2 7)).2.1 56 a3.1 a3.2 8)).1 56 a8.1 a8.2 2) + (nI 1)), .ref (spl 56 a8.1 a8.2)] μ Q)
                refine jX.spI R g9 (by rfl) (by rfl) (by rfl) (by rfl) (by rfl) (by rfl) (by rfl) (by rfl) (fun μ R => (?_ : jX G jP 154 257 lv [] μ Q))
                exact F_154_257_ok ih K v1 _ _ _ l0 l1 R h
            · refine jX.b2f hc (by rfl) (by rfl) (by rfl) (?_ : jX G jP 154 198 lv [] μ Q)
              refine jX.lon l3 (by rfl) (by rfl) (?_ : jX G jP 154 199 lv [soR 56 q6.1] μ Q)
              refine jX.ic (v := nI 2) (n := 1) (by rfl) (by rfl) (by decide) (?_ : jX G jP 154 200 lv [.int (nI 2), soR 56 q6.1] μ Q)
              obtain ⟨a14, e14, h⟩ := sbd h
              rw [soR_some (t := 56) e14]
              rw [soR_some (t := 56) e14] at l3
              obtain ⟨g15, h⟩ := jif_some h
              refine jX.spI R g15 (by rfl) (by rfl) (by rfl) (by rfl) (by rfl) (by rfl) (by rfl) (by rfl) (fun μ R => (?_ : jX G jP 154 203 lv [] μ Q))
              refine jX.lrn l3 (by rfl) (by rfl) (?_ : jX G jP 154 204 lv [.ref (spl 56 a14.1 a14.2)] μ Q)
              refine jX.lrn l2 (by rfl) (by rfl) (?_ : jX G jP 154 205 lv [.ref (spl 56 a3.1 a3.2), .ref (spl 56 a14.1 a14.2)] μ Q)
              refine jX.sg R g7 (by rfl) (by rfl) (by rfl) (by rfl) (by rfl) (?_ : jX G jP 154 208 lv [.long ((siI q6.2 56 a14.1 a14.2 4 (nI 2)).2.1 56 a3.1 a3.2 6), .ref (spl 56 a14.1 a14.2)] μ Q)
              refine jX.spL R g15 (by rfl) (by rfl) (by rfl) (by rfl) (by rfl) (by rfl) (by rfl) (by rfl) (fun μ R => (?_ : jX G jP 154 211 lv [] μ Q))
              refine jX.go (by rfl) (by rfl) (by rfl) (?_ : jX G jP 154 257 lv [] μ Q)
              exact F_154_257_ok ih K v1 _ _ _ l0 l1 R h
          · refine jX.b1f hc (by rfl) (by rfl) (by rfl) (?_ : jX G jP 154 130 lv [] μ Q)
            refine jX.lrn l1 (by rfl) (by rfl) (?_ : jX G jP 154 131 lv [.ref (spl 54 v1.1 v1.2)] μ Q)
            refine jX.lrn l2 (by rfl) (by rfl) (?_ : jX G jP 154 132 lv [.ref (spl 56 a3.1 a3.2), .ref (spl 54 v1.1 v1.2)] μ Q)
            refine jX.sg R g4 (by rfl) (by rfl) (by rfl) (by rfl) (by rfl) (?_ : jX G jP 154 135 lv [.int ((siI q2.2 54 v1.1 v1.2 1 ((q2.2.1 54 v1.1 v1.2 1) - (nI 1))).1 56 a3.1 a3.2 4), .ref (spl 54 v1.1 v1.2)] μ Q)
            refine jX.ic (v := nI 1) (n := 1) (by rfl) (by rfl) (by decide) (?_ : jX G jP 154 136 lv [.int (nI 1), .int ((siI q2.2 54 v1.1 v1.2 1 ((q2.2.1 54 v1.1 v1.2 1) - (nI 1))).1 56 a3.1 a3.2 4), .ref (spl 54 v1.1 v1.2)] μ Q)
            rcases bif_or h with ⟨hc, h⟩ | ⟨hc, h⟩
            · refine jX.b2t hc (by rfl) (by rfl) (by rfl) (?_ : jX G jP 154 143 lv [.ref (spl 54 v1.1 v1.2)] μ Q)
              refine jX.ic (v := nI 6) (n := 2) (by rfl) (by rfl) (by decide) (?_ : jX G jP 154 145 lv [.int (nI 6), .ref (spl 54 v1.1 v1.2)] μ Q)
              exact F_154_145_ok  K v1 a3 (nI 6) v1 _ _ _ l1 l2 R h
            · refine jX.b2f hc (by rfl) (by rfl) (by rfl) (?_ : jX G jP 154 139 lv [.ref (spl 54 v1.1 v1.2)] μ Q)
              refine jX.ic (v := nI 5) (n := 1) (by rfl) (by rfl) (by decide) (?_ : jX G jP 154 140 lv [.int (nI 5), .ref (spl 54 v1.1 v1.2)] μ Q)
              refine jX.go (by rfl) (by rfl) (by rfl) (?_ : jX G jP 154 145 lv [.int (nI 5), .ref (spl 54 v1.1 v1.2)] μ Q)
              exact F_154_145_ok  K v1 a3 (nI 5) v1 _ _ _ l1 l2 R h
        · refine jX.b1f hc (by rfl) (by rfl) (by rfl) (?_ : jX G jP 154 27 lv [] μ Q)
          refine jX.lrn l2 (by rfl) (by rfl) (?_ : jX G jP 154 28 lv [.ref (spl 56 a3.1 a3.2)] μ Q)
          refine jX.go (by rfl) (by rfl) (by rfl) (?_ : jX G jP 154 29 lv [.ref (spl 56 a3.1 a3.2), .ref (spl 56 a3.1 a3.2)] μ Q)
          refine jX.sg R g4 (by rfl) (by rfl) (by rfl) (by rfl) (by rfl) (?_ : jX G jP 154 32 lv [.int (q2.2.1 56 a3.1 a3.2 3), .ref (spl 56 a3.1 a3.2)] μ Q)
          refine jX.ic (v := nI 1) (n := 1) (by rfl) (by rfl) (by decide) (?_ : jX G jP 154 33 lv [.int (nI 1), .int (q2.2.1 56 a3.1 a3.2 3), .ref (spl 56 a3.1 a3.2)] μ Q)
          refine jX.go (by rfl) (by rfl) (by rfl) (?_ : jX G jP 154 34 lv [.int ((q2.2.1 56 a3.1 a3.2 3) - (nI 1)), .ref (spl 56 a3.1 a3.2)] μ Q)
          refine jX.spI R g4 (by rfl) (by rfl) (by rfl) (by rfl) (by rfl) (by rfl) (by rfl) (by rfl) (fun μ R => (?_ : jX G jP 154 37 lv [] μ Q))
          refine jX.lrn l1 (by rfl) (by rfl) (?_ : jX G jP 154 38 lv [.ref (spl 54 v1.1 v1.2)] μ Q)
          obtain ⟨g16, h⟩ := jif_some h
          refine jX.sg R g16 (by rfl) (by rfl) (by rfl) (by rfl) (by rfl) (?_ : jX G jP 154 41 lv [.int ((siI q2.2 56 a3.1 a3.2 3 ((q2.2.1 56 a3.1 a3.2 3) - (nI 1))).1 54 v1.1 v1.2 1)] μ Q)
          refine jX.ic (v := nI 30) (n := 2) (by rfl) (by rfl) (by decide) (?_ : jX G jP 154 43 lv [.int (nI 30), .int ((siI q2.2 56 a3.1 a3.2 3 ((q2.2.1 56 a3.1 a3.2 3) - (nI 1))).1 54 v1.1 v1.2 1)] μ Q)
          rcases bif_or h with ⟨hc, h⟩ | ⟨hc, h⟩
          · refine jX.b2t hc (by rfl) (by rfl) (by rfl) (?_ : jX G jP 154 61 lv [] μ Q)
            refine jX.lrn l0 (by rfl) (by rfl) (?_ : jX G jP 154 62 lv [.ref (spl 33 0 0)] μ Q)
            refine jX.lrn l1 (by rfl) (by rfl) (?_ : jX G jP 154 63 lv [.ref (spl 54 v1.1 v1.2), .ref (spl 33 0 0)] μ Q)
            refine jX.lrn l2 (by rfl) (by rfl) (?_ : jX G jP 154 64 lv [.ref (spl 56 a3.1 a3.2), .ref (spl 54 v1.1 v1.2), .ref (spl 33 0 0)] μ Q)
            refine jX.sg R g4 (by rfl) (by rfl) (by rfl) (by rfl) (by rfl) (?_ : jX G jP 154 67 lv [.ref (spl 60 a3.1 a3.2), .ref (spl 54 v1.1 v1.2), .ref (spl 33 0 0)] μ Q)
            refine jX.lrn l2 (by rfl) (by rfl) (?_ : jX G jP 154 68 lv [.ref (spl 56 a3.1 a3.2), .ref (spl 60 a3.1 a3.2), .ref (spl 54 v1.1 v1.2), .ref (spl 33 0 0)] μ Q)
            refine jX.sg R g4 (by rfl) (by rfl) (by rfl) (by rfl) (by rfl) (?_ : jX G jP 154 71 lv [.int ((siI q2.2 56 a3.1 a3.2 3 ((q2.2.1 56 a3.1 a3.2 3) - (nI 1))).1 56 a3.1 a3.2 3), .ref (spl 60 a3.1 a3.2), .ref (spl 54 v1.1 v1.2), .ref (spl 33 0 0)] μ Q)
            obtain ⟨g17, h⟩ := jif_some h
            obtain ⟨g18, h⟩ := jif_some h
            refine jX.sai R g17 (by rfl) (by rfl) (by rfl) g18 (?_ : jX G jP 154 72 lv [.int ((siI q2.2 56 a3.1 a3.2 3 ((q2.2.1 56 a3.1 a3.2 3) - (nI 1))).1 60 a3.1 a3.2 ((siI q2.2 56 a3.1 a3.2 3 ((q2.2.1 56 a3.1 a3.2 3) - (nI 1))).1 56 a3.1 a3.2 3).toNatClampNeg), .ref (spl 54 v1.1 v1.2), .ref (spl 33 0 0)] μ Q)
            refine jX.ic (v := nI 1) (n := 1) (by rfl) (by rfl) (by decide) (?_ : jX G jP 154 73 lv [.int (nI 1), .int ((siI q2.2 56 a3.1 a3.2 3 ((q2.2.1 56 a3.1 a3.2 3) - (nI 1))).1 60 a3.1 a3.2 ((siI q2.2 56 a3.1 a3.2 3 ((q2.2.1 56 a3.1 a3.2 3) - (nI 1))).1 56 a3.1 a3.2 3).toNatClampNeg), .ref (spl 54 v1.1 v1.2), .ref (spl 33 0 0)] μ Q)
            obtain ⟨q19, e19, h⟩ := sbd h
            refine jX.cv (by rfl) (by rfl) (by rfl) (by rfl) (by rfl) (by rfl) (by rfl) (R.rec (by rfl) (by rfl)) (Nat.le_of_ble_eq_true rfl) (Nat.le_of_ble_eq_true rfl) (F_142_ok R e19 (fun μ R => ⟨rfl, (?_ : jX G jP 154 76 lv [] μ Q)⟩))
            refine jX.lrn l1 (by rfl) (by rfl) (?_ : jX G jP 154 77 lv [.ref (spl 54 v1.1 v1.2)] μ Q)
            obtain ⟨q20, e20, h⟩ := sbd h
            refine jX.c1 (v := soR 56 q20.1) (by rfl) (by rfl) (by rfl) (by rfl) (by rfl) (by rfl) (by rfl) (by rfl) (Nat.le_of_ble_eq_true rfl) (Nat.le_of_ble_eq_true rfl) (F_151_ok R e20 (fun μ R => ⟨rfl, (?_ : jX G jP 154 80 lv [soR 56 q20.1] μ Q)⟩))
            obtain ⟨a21, e21, h⟩ := sbd h
            rw [soR_some (t := 56) e21]
            obtain ⟨g22, h⟩ := jif_some h
            refine jX.sg R g22 (by rfl) (by rfl) (by rfl) (by rfl) (by rfl) (?_ : jX G jP 154 83 lv [.ref (spl 57 a21.1 a21.2)] μ Q)
            refine jX.ic (v := nI 0) (n := 1) (by rfl) (by rfl) (by decide) (?_ : jX G jP 154 84 lv [.int (nI 0), .ref (spl 57 a21.1 a21.2)] μ Q)
            refine jX.lrn l2 (by rfl) (by rfl) (?_ : jX G jP 154 85 lv [.ref (spl 56 a3.1 a3.2), .int (nI 0), .ref (spl 57 a21.1 a21.2)] μ Q)
            obtain ⟨g23, h⟩ := jif_some h
            refine jX.sg R g23 (by rfl) (by rfl) (by rfl) (by rfl) (by rfl) (?_ : jX G jP 154 88 lv [.ref (spl 59 a3.1 a3.2), .int (nI 0), .ref (spl 57 a21.1 a21.2)] μ Q)
            refine jX.lrn l2 (by rfl) (by rfl) (?_ : jX G jP 154 89 lv [.ref (spl 56 a3.1 a3.2), .ref (spl 59 a3.1 a3.2), .int (nI 0), .ref (spl 57 a21.1 a21.2)] μ Q)
            refine jX.sg R g23 (by rfl) (by rfl) (by rfl) (by rfl) (by rfl) (?_ : jX G jP 154 92 lv [.int (q20.2.1 56 a3.1 a3.2 3), .ref (spl 59 a3.1 a3.2), .int (nI 0), .ref (spl 57 a21.1 a21.2)] μ Q)
            obtain ⟨g24, h⟩ := jif_some h
            obtain ⟨g25, h⟩ := jif_some h
            refine jX.sai R g24 (by rfl) (by rfl) (by rfl) g25 (?_ : jX G jP 154 93 lv [.int (q20.2.1 59 a3.1 a3.2 (q20.2.1 56 a3.1 a3.2 3).toNatClampNeg), .int (nI 0), .ref (spl 57 a21.1 a21.2)] μ Q)
            obtain ⟨g26, h⟩ := jif_some h
            obtain ⟨g27, h⟩ := jif_some h
            refine jX.sti R g26 (by rfl) (by rfl) (fun _ => by rfl) g27 (fun μ R => (?_ : jX G jP 154 94 lv [] μ Q))
            refine jX.lrn l1 (by rfl) (by rfl) (?_ : jX G jP 154 95 lv [.ref (spl 54 v1.1 v1.2)] μ Q)
            obtain ⟨q28, e28, h⟩ := sbd h
            refine jX.c1 (v := soR 56 q28.1) (by rfl) (by rfl) (by rfl) (by rfl) (by rfl) (by rfl) (by rfl) (by rfl) (Nat.le_of_ble_eq_true rfl) (Nat.le_of_ble_eq_true rfl) (F_151_ok R e28 (fun μ R => ⟨rfl, (?_ : jX G jP 154 98 lv [soR 56 q28.1] μ Q)⟩))
            obtain ⟨a29, e29, h⟩ := sbd h
            rw [soR_some (t := 56) e29]
            obtain ⟨g30, h⟩ := jif_some h
            refine jX.sg R g30 (by rfl) (by rfl) (by rfl) (by rfl) (by rfl) (?_ : jX G jP 154 101 lv [.ref (spl 61 a29.1 a29.2)] μ Q)
            refine jX.ic (v := nI 0) (n := 1) (by rfl) (by rfl) (by decide) (?_ : jX G jP 154 102 lv [.int (nI 0), .ref (spl 61 a29.1 a29.2)] μ Q)
            refine jX.lrn l2 (by rfl) (by rfl) (?_ : jX G jP 154 103 lv [.ref (spl 56 a3.1 a3.2), .int (nI 0), .ref (spl 61 a29.1 a29.2)] μ Q)
            obtain ⟨g31, h⟩ := jif_some h
            refine jX.sg R g31 (by rfl) (by rfl) (by rfl) (by rfl) (by rfl) (?_ : jX G jP 154 106 lv [.ref (spl 63 a3.1 a3.2), .int (nI 0), .ref (spl 61 a29.1 a29.2)] μ Q)
            refine jX.lrn l2 (by rfl) (by rfl) (?_ : jX G jP 154 107 lv [.ref (spl 56 a3.1 a3.2), .ref (spl 63 a3.1 a3.2), .int (nI 0), .ref (spl 61 a29.1 a29.2)] μ Q)
            refine jX.sg R g31 (by rfl) (by rfl) (by rfl) (by rfl) (by rfl) (?_ : jX G jP 154 110 lv [.int (q28.2.1 56 a3.1 a3.2 3), .ref (spl 63 a3.1 a3.2), .int (nI 0), .ref (spl 61 a29.1 a29.2)] μ Q)
            obtain ⟨g32, h⟩ := jif_some h
            obtain ⟨g33, h⟩ := jif_some h
            refine jX.sal R g32 (by rfl) (by rfl) (by rfl) g33 (?_ : jX G jP 154 111 lv [.long (q28.2.2.1 63 a3.1 a3.2 (q28.2.1 56 a3.1 a3.2 3).toNatClampNeg), .int (nI 0), .ref (spl 61 a29.1 a29.2)] μ Q)
            obtain ⟨g34, h⟩ := jif_some h
            obtain ⟨g35, h⟩ := jif_some h
            refine jX.stl R g34 (by rfl) (by rfl) (fun _ => by rfl) g35 (fun μ R => (?_ : jX G jP 154 112 lv [] μ Q))
            exact jX.ret (by rfl) (by rfl) (by rfl) (by rfl) (sretv (f := srV) h K R)
          · refine jX.b2f hc (by rfl) (by rfl) (by rfl) (?_ : jX G jP 154 46 lv [] μ Q)
            refine jX.lrn l2 (by rfl) (by rfl) (?_ : jX G jP 154 47 lv [.ref (spl 56 a3.1 a3.2)] μ Q)
            refine jX.ic (v := nI 2) (n := 1) (by rfl) (by rfl) (by decide) (?_ : jX G jP 154 48 lv [.int (nI 2), .ref (spl 56 a3.1 a3.2)] μ Q)
            refine jX.spI R g4 (by rfl) (by rfl) (by rfl) (by rfl) (by rfl) (by rfl) (by rfl) (by rfl) (fun μ R => (?_ : jX G jP 154 51 lv [] μ Q))
            refine jX.lrn l2 (by rfl) (by rfl) (?_ : jX G jP 154 52 lv [.ref (spl 56 a3.1 a3.2)] μ Q)
            refine jX.go (by rfl) (by rfl) (by rfl) (?_ : jX G jP 154 55 lv [.long (-3), .ref (spl 56 a3.1 a3.2)] μ Q)
            refine jX.spL R g4 (by rfl) (by rfl) (by rfl) (by rfl) (by rfl) (by rfl) (by rfl) (by rfl) (fun μ R => (?_ : jX G jP 154 58 lv [] μ Q))
            refine jX.go (by rfl) (by rfl) (by rfl) (?_ : jX G jP 154 0 lv [] μ Q)
            exact ih v1 _ _ _ l0 l1 R h
      · refine jX.b1f hc (by rfl) (by rfl) (by rfl) (?_ : jX G jP 154 19 lv [] μ Q)
        exact jX.ret (by rfl) (by rfl) (by rfl) (by rfl) (sretv (f := srV) h K R)
def F_154 (G : jG) (t : Nat) (v1 : (Nat × Nat)) (S : sS) : Option (Unit × sS) := F_154_0 G t t v1 S
theorem F_154_ok {G : jG} {t : Nat} {v1 : (Nat × Nat)} {S : sS} {r : Unit} {S' : sS} {μ : jS} {Q : Option Value ⊕ Nat → jS → Prop} (R : sR S μ) (h : F_154 G t v1 S = some (r, S')) (K : ∀ μ', sR S' μ' → Q (srV r) μ') : jX G jP 154 0 (lv_args 0 [.ref (spl 33 0 0), .ref (spl 54 v1.1 v1.2)]) [] μ Q := by
  unfold F_154 at h
  have l0 : jld (lv_args 0 [.ref (spl 33 0 0), .ref (spl 54 v1.1 v1.2)]) 0 = some (.ref (spl 33 0 0)) := by rfl
  have l1 : jld (lv_args 0 [.ref (spl 33 0 0), .ref (spl 54 v1.1 v1.2)]) 1 = some (.ref (spl 54 v1.1 v1.2)) := by rfl
  generalize lv_args 0 [.ref (spl 33 0 0), .ref (spl 54 v1.1 v1.2)] = lv at *
  exact F_154_0_ok  K _ v1 _ _ _ l0 l1 R h
/-! 155 StrandRuntimeModel.panic(LStrandRuntimeModel$Strand;J)V -/
def F_155 (G : jG) (t : Nat) (v1 : (Nat × Nat)) (v2 : Int64) (S : sS) : Option (Unit × sS) := (F_151 G t v1 S).bind (fun q1 => (q1.1).bind (fun a2 => jif (sex q1.2.2.2.2.1 56 a2.1 a2.2) ((F_154 G t v1 (siL (siI q1.2 56 a2.1 a2.2 4 (nI 2)) 56 a2.1 a2.2 6 v2)).bind (fun q4 => some ((), q4.2)))))
theorem F_155_ok {G : jG} {t : Nat} {v1 : (Nat × Nat)} {v2 : Int64} {S : sS} {r : Unit} {S' : sS} {μ : jS} {Q : Option Value ⊕ Nat → jS → Prop} (R : sR S μ) (h : F_155 G t v1 v2 S = some (r, S')) (K : ∀ μ', sR S' μ' → Q (srV r) μ') : jX G jP 155 0 (lv_args 0 [.ref (spl 33 0 0), .ref (spl 54 v1.1 v1.2), .long v2]) [] μ Q := by
  unfold F_155 at h
  have l0 : jld (lv_args 0 [.ref (spl 33 0 0), .ref (spl 54 v1.1 v1.2), .long v2]) 0 = some (.ref (spl 33 0 0)) := by rfl
  have l1 : jld (lv_args 0 [.ref (spl 33 0 0), .ref (spl 54 v1.1 v1.2), .long v2]) 1 = some (.ref (spl 54 v1.1 v1.2)) := by rfl
  have l2 : jld (lv_args 0 [.ref (spl 33 0 0), .ref (spl 54 v1.1 v1.2), .long v2]) 2 = some (.long v2) := by rfl
  generalize lv_args 0 [.ref (spl 33 0 0), .ref (spl 54 v1.1 v1.2), .long v2] = lv at *
  refine jX.lrn l1 (by rfl) (by rfl) (?_ : jX G jP 155 1 lv [.ref (spl 54 v1.1 v1.2)] μ Q)
  obtain ⟨q1, e1, h⟩ := sbd h
  refine jX.c1 (v := soR 56 q1.1) (by rfl) (by rfl) (by rfl) (by rfl) (by rfl) (by rfl) (by rfl) (by rfl) (Nat.le_of_ble_eq_true rfl) (Nat.le_of_ble_eq_true rfl) (F_151_ok R e1 (fun μ R => ⟨rfl, (?_ : jX G jP 155 4 lv [soR 56 q1.1] μ Q)⟩))
  refine jX.so (k := 4) (pc' := 6) (by rfl) (by rfl) (fun _ => by rfl) (by rfl) (fun lv l4 kp => (?_ : jX G jP 155 6 lv [] μ Q))
  replace l0 := kp 0 _ l0 (by rfl) (by first | rfl | simp [soR_cat])
  replace l1 := kp 1 _ l1 (by rfl) (by first | rfl | simp [soR_cat])
  replace l2 := kp 2 _ l2 (by rfl) (by first | rfl | simp [soR_cat])
  refine jX.lo l4 (by rfl) (by rfl) (?_ : jX G jP 155 8 lv [soR 56 q1.1] μ Q)
  refine jX.ic (v := nI 2) (n := 1) (by rfl) (by rfl) (by decide) (?_ : jX G jP 155 9 lv [.int (nI 2), soR 56 q1.1] μ Q)
  obtain ⟨a2, e2, h⟩ := sbd h
  rw [soR_some (t := 56) e2]
  rw [soR_some (t := 56) e2] at l4
  obtain ⟨g3, h⟩ := jif_some h
  refine jX.spI R g3 (by rfl) (by rfl) (by rfl) (by rfl) (by rfl) (by rfl) (by rfl) (by rfl) (fun μ R => (?_ : jX G jP 155 12 lv [] μ Q))
  refine jX.lr l4 (by rfl) (by rfl) (?_ : jX G jP 155 14 lv [.ref (spl 56 a2.1 a2.2)] μ Q)
  refine jX.lln l2 (by rfl) (by rfl) (?_ : jX G jP 155 15 lv [.long v2, .ref (spl 56 a2.1 a2.2)] μ Q)
  refine jX.spL R g3 (by rfl) (by rfl) (by rfl) (by rfl) (by rfl) (by rfl) (by rfl) (by rfl) (fun μ R => (?_ : jX G jP 155 18 lv [] μ Q))
  refine jX.lrn l0 (by rfl) (by rfl) (?_ : jX G jP 155 19 lv [.ref (spl 33 0 0)] μ Q)
  refine jX.lrn l1 (by rfl) (by rfl) (?_ : jX G jP 155 20 lv [.ref (spl 54 v1.1 v1.2), .ref (spl 33 0 0)] μ Q)
  obtain ⟨q4, e4, h⟩ := sbd h
  refine jX.cv (by rfl) (by rfl) (by rfl) (by rfl) (by rfl) (by rfl) (by rfl) (R.rec (by rfl) (by rfl)) (Nat.le_of_ble_eq_true rfl) (Nat.le_of_ble_eq_true rfl) (F_154_ok R e4 (fun μ R => ⟨rfl, (?_ : jX G jP 155 23 lv [] μ Q)⟩))
  exact jX.ret (by rfl) (by rfl) (by rfl) (by rfl) (sretv (f := srV) h K R)
