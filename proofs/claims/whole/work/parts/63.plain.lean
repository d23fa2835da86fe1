/-! Plain instructions: moves. -/
/-! the reference's frame but for its operands -/
def tk (T T' : sS) (r d : Nat) : Prop := (∀ t, 56 ≤ t → t ≤ 63 → t ≠ 56 → t ≠ 58 → t ≠ 62 → T'.1 t r d = T.1 t r d ∧ T'.2.1 t r d = T.2.1 t r d) ∧ (∀ k, k ≠ 2 → T'.1 56 r d k = T.1 56 r d k) ∧ T'.2.1 56 r d = T.2.1 56 r d
theorem tk.trans {T T' T'' : sS} {r d : Nat} (h : tk T T' r d) (h' : tk T' T'' r d) : tk T T'' r d := ⟨fun t a b c e f => ⟨(h'.1 t a b c e f).1.trans (h.1 t a b c e f).1, (h'.1 t a b c e f).2.trans (h.1 t a b c e f).2⟩, fun k z => (h'.2.1 k z).trans (h.2.1 k z), h'.2.2.trans h.2.2⟩
theorem tk.pops (T : sS) (r d n k : Nat) : tk T (mpS T r d n k) r d := ⟨fun t a b c e f => ⟨mpS_I _ _ _ _ (by omega) (by omega) _, mpS_L _ _ _ _ (by omega) _⟩, fun j z => mpS_56 _ _ _ _ z _, mpS_L _ _ _ _ (by omega) _⟩
theorem tk.push (T : sS) (r d n : Nat) (kk : Int32) (v : Int64) : tk T (mpu T r d n kk v) r d := by
  refine ⟨fun t a b c e f => ⟨?_, ?_⟩, fun j z => ?_, ?_⟩
  · unfold mpu
    rw [siI_ne _ _ _ (by omega), gL1, siI_ne _ _ _ (by omega)]
  · unfold mpu
    rw [gI2, siL_ne _ _ _ (by omega), gI2]
  · unfold mpu
    rw [gI, if_neg (by omega), gL1, siI_ne _ _ _ (by omega)]
  · unfold mpu
    rw [gI2, siL_ne _ _ _ (by omega), gI2]
set_option maxHeartbeats 4000000 in
set_option linter.unusedSimpArgs false in
theorem mpu_r (T : sS) (r d n : Nat) (kk : Int32) (v : Int64) (i : Nat) : (mpu T r d n kk v).1 58 r d i = (if i = n then kk else T.1 58 r d i) ∧ (mpu T r d n kk v).2.1 62 r d i = (if i = n then v else T.2.1 62 r d i) ∧ (mpu T r d n kk v).1 56 r d 2 = nI (n + 1) ∧ (mpu T r d n kk v).1 54 r 0 1 = T.1 54 r 0 1 := by
  unfold mpu
  by_cases c : i = n
  · subst c
    simp (disch := first | assumption | omega) only [gI, gI2, gL, gL1, gL2, jcLT, jcGE, jcGT, jcLE, jcEQ, jcNE, dEQ, nIt, lgNE, lgEQ, lgGE, lgLT, lgGT, lgLE, jinT, nIc, nI0, nI1, nIo, nIs, nI_add, nIm, nIn0, szl0, szl1, szl2, szl3, szl4, szl5, Nat.add_sub_assoc, Nat.add_zero, Nat.reduceSub, Nat.reduceAdd, Nat.reduceMul, Nat.reduceEqDiff,  jifT, bdS, sifN, sifS, omN, omS, cdI, x25, x26, x27, x28, x29, x30, x31, x32, xr0, xr1, xr2, xr3, xr4, xr5, if_pos, if_neg, true_and, and_true, false_and, and_false, and_self, Bool.and_true, if_true, if_false, reduceIte, cond_true, cond_false, not_true_eq_false, not_false_eq_true]
  · simp (disch := first | assumption | omega) only [gI, gI2, gL, gL1, gL2, jcLT, jcGE, jcGT, jcLE, jcEQ, jcNE, dEQ, nIt, lgNE, lgEQ, lgGE, lgLT, lgGT, lgLE, jinT, nIc, nI0, nI1, nIo, nIs, nI_add, nIm, nIn0, szl0, szl1, szl2, szl3, szl4, szl5, Nat.add_sub_assoc, Nat.add_zero, Nat.reduceSub, Nat.reduceAdd, Nat.reduceMul, Nat.reduceEqDiff,  jifT, bdS, sifN, sifS, omN, omS, cdI, x25, x26, x27, x28, x29, x30, x31, x32, xr0, xr1, xr2, xr3, xr4, xr5, if_pos, if_neg, true_and, and_true, false_and, and_false, and_self, Bool.and_true, if_true, if_false, reduceIte, cond_true, cond_false, not_true_eq_false, not_false_eq_true]
theorem mpS_r (T : sS) (r d n k : Nat) : (mpS T r d n k).1 58 r d = T.1 58 r d ∧ (mpS T r d n k).2.1 62 r d = T.2.1 62 r d ∧ (mpS T r d n k).1 54 r 0 = T.1 54 r 0 := ⟨mpS_I _ _ _ _ (by omega) (by omega) _, mpS_L _ _ _ _ (by omega) _, mpS_I _ _ _ _ (by omega) (by omega) _⟩
section PLA
variable {φ : Nat → Nat} {D : Nat → Prop} {F N : Nat} {P : aP} {S S' T T' : sS} {A : aS} {r d p f pc n m e b k : Nat} {G : jG} {t : Nat}
/-! the operands alone change -/
theorem frR.ops (h : frR φ D F P S p T r d f pc n m e b) (aS : agr (fun t i j => 29 ≤ t ∧ t ≤ 31 ∧ i = p ∧ j = 1) S S') (hM1 : S'.2.2.2.1.1 p = true) (hk : tk T T' r d)
    {n' : Nat} (hn : n' ≤ 16) (h1 : S'.1 29 p 1 2 = nI n') (h2 : T'.1 56 r d 2 = nI n') (hv : ∀ i, i < n' → vr φ D (S'.2.1 30 p 1 i) (S'.1 31 p 1 i) (T'.1 58 r d i) (T'.2.1 62 r d i)) : frR φ D F P S' p T' r d f pc n' m e b := by
  obtain ⟨hM, ⟨f1, f2, f3⟩, ⟨p1, p2, p3⟩, ⟨o1, o2, o3, o4⟩, ⟨d1, d2, d3, d4⟩, ⟨l1, l2⟩, ⟨e1, e2, e3, e4, e5⟩⟩ := h
  obtain ⟨hT, h56, h56L⟩ := hk
  unfold frR
  rw [(aS 27 p 0 (by omega)).1, (aS 28 p 0 (by omega)).1, (aS 29 p 0 (by omega)).1, (aS 29 p 2 (by omega)).1, (aS 29 p 3 (by omega)).1, (aS 31 p 0 (by omega)).1, (aS 31 p 2 (by omega)).1, (aS 31 p 3 (by omega)).1, (aS 30 p 0 (by omega)).2, (aS 30 p 2 (by omega)).2, (aS 30 p 3 (by omega)).2,
    h56 0 (by omega), h56 1 (by omega), h56 3 (by omega), h56 4 (by omega), h56 5 (by omega), h56 7 (by omega), h56L, (hT 57 (by omega) (by omega) (by omega) (by omega) (by omega)).1, (hT 59 (by omega) (by omega) (by omega) (by omega) (by omega)).1, (hT 60 (by omega) (by omega) (by omega) (by omega) (by omega)).1, (hT 61 (by omega) (by omega) (by omega) (by omega) (by omega)).2, (hT 63 (by omega) (by omega) (by omega) (by omega) (by omega)).2]
  exact ⟨hM1, ⟨f1, f2, f3⟩, ⟨p1, p2, p3⟩, ⟨h1, h2, hn, hv⟩, ⟨d1, d2, d3, d4⟩, ⟨l1, l2⟩, ⟨e1, e2, e3, e4, e5⟩⟩
theorem rp_ag (S : sS) (p n : Nat) (x : Int64) (g : Int32) : agr (fun t i j => 27 ≤ t ∧ t ≤ 31 ∧ i = p ∧ j < 4) S (rpush S p 1 n x g) := agr.i (agr.i (agr.l (agr.refl _ _) _ _ (by omega)) _ _ (by omega)) _ _ (by omega)
theorem mu_ag (T : sS) (r d n : Nat) (k : Int32) (v : Int64) : agr (fun t i j => (56 ≤ t ∧ t ≤ 63 ∧ i = r ∧ j = d) ∨ (46 ≤ t ∧ t ≤ 50)) T (mpu T r d n k v) := agr.i (agr.l (agr.i (agr.refl _ _) _ _ (by omega)) _ _ (by omega)) _ _ (by omega)
theorem cx.rd (h : cx φ D F N P S T A r d p f pc n m) : S.2.2.2.1.1 p = true ∧ S.1 29 p 1 2 = nI n ∧ T.1 56 r d 2 = nI n ∧ n ≤ 16 ∧ r < 16 ∧ T.1 54 r 0 1 = nI (d + 1) ∧ d < 30 := ⟨h.fr.1, h.fr.2.2.2.1.1, h.fr.2.2.2.1.2.1, h.fr.2.2.2.1.2.2.1, h.2.2.1, h.d3.2⟩
/-! a push on both sides -/
theorem cx.psh (h : cx φ D F N P S T A r d p f pc n m) (hpc : pc < P.2.2.2.1 f) (hn : n < 16) {x v : Int64} {g kk : Int32} (hv : vr φ D x g kk v) {kt : Nat} {X : Option (Int32 × sS)} {W : Option (Unit × sS)} (hX : X = some (nI 0, rpush S p 1 n x g)) (hW : W = some ((), mpu T r d n kk v)) : insR φ D F N P S T A r p G t kt X W :=
  ⟨_, _, cD_ok hX, hW, h.ok (rp_ag _ _ _ _ _) rfl (mu_ag _ _ _ _ _ _) rfl (h.fr.push hn hv) hpc⟩
theorem i_0 (h : cx φ D F N P S T A r d p f pc n m) (hpc : pc < P.2.2.2.1 f) (hn : n < 16) (a : Int32) : insR φ D F N P S T A r p G t 0 (X_0 G t r p a S) (W_0 G t r d a T) := by
  obtain ⟨hM, o1, o2, _, hr, d2, d3⟩ := h.rd
  refine h.psh hpc hn (Or.inl ⟨rfl, rfl, rfl⟩) (x_0 a hM o1 hn) ?_
  unfold W_0
  rw [e_157 hr d3 hn d2 o2]
  rfl
theorem i_1 (h : cx φ D F N P S T A r d p f pc n m) (hpc : pc < P.2.2.2.1 f) (hn : n < 16) (a : Int32) : insR φ D F N P S T A r p G t 0 (X_1 G t r p a S) (W_1 G t r d a T) := by
  obtain ⟨hM, o1, o2, _, hr, d2, d3⟩ := h.rd
  refine h.psh hpc hn (v := 0) (Or.inr (Or.inl ⟨rfl, rfl, rfl⟩)) (x_1 a hM o1 hn) ?_
  unfold W_1
  rw [e_157 hr d3 hn d2 o2]
  rfl
set_option maxHeartbeats 4000000 in
set_option linter.unusedSimpArgs false in
theorem i_2 (h : cx φ D F N P S T A r d p f pc n m) (hpc : pc < P.2.2.2.1 f) (hn : n < 16) {j : Nat} (hl : P.2.1 f ≤ 12) (hj : j < P.2.1 f) : insR φ D F N P S T A r p G t 0 (X_2 G t r p (nI j) S) (W_2 G t r d (nI j) T) := by
  obtain ⟨hM, o1, o2, _, hr, d2, d3⟩ := h.rd
  have fr := h.fr
  have l1 := fr.2.2.2.2.2.1.1
  have l2 := fr.2.2.2.2.2.1.2
  refine h.psh hpc hn (l2 j hj) (x_2 hM o1 hn l1 hl hj) ?_
  have e := e_157 (G := G) (t := t) (k := T.1 57 r d j) (v := T.2.1 61 r d j) hr d3 hn d2 o2
  clear fr l1 l2 h
  unfold W_2
  simp (disch := first | assumption | omega) only [gI, gI2, gL, gL1, gL2, jcLT, jcGE, jcGT, jcLE, jcEQ, jcNE, dEQ, nIt, lgNE, lgEQ, lgGE, lgLT, lgGT, lgLE, jinT, nIc, nI0, nI1, nIo, nIs, nI_add, nIm, nIn0, szl0, szl1, szl2, szl3, szl4, szl5, Nat.add_sub_assoc, Nat.add_zero, Nat.reduceSub, Nat.reduceAdd, Nat.reduceMul, Nat.reduceEqDiff,  jifT, bdS, sifN, sifS, omN, omS, cdI, x25, x26, x27, x28, x29, x30, x31, x32, xr0, xr1, xr2, xr3, xr4, xr5, if_pos, if_neg, true_and, and_true, false_and, and_false, and_self, Bool.and_true, if_true, if_false, reduceIte, cond_true, cond_false, not_true_eq_false, not_false_eq_true, x51, x52, x53, x54, x55, x56, x57, x58, x59, x60, x61, x62, x63, e]
set_option maxHeartbeats 4000000 in
set_option linter.unusedSimpArgs false in
theorem i_4 (h : cx φ D F N P S T A r d p f pc n m) (hpc : pc < P.2.2.2.1 f) (hn : n < 16) {j : Nat} (hj : j < 16) : insR φ D F N P S T A r p G t 0 (X_4 G t r p (nI j) S) (W_4 G t r d (nI j) T) := by
  obtain ⟨hM, o1, o2, _, hr, d2, d3⟩ := h.rd
  obtain ⟨g1, g2⟩ := h.1.2.2.1
  refine h.psh hpc hn (g2 j hj) (x_4 hM o1 hn g1 hj) ?_
  have e := e_157 (G := G) (t := t) (k := T.1 36 0 0 j) (v := T.2.1 43 0 0 j) hr d3 hn d2 o2
  clear g2 h
  unfold W_4
  simp (disch := first | assumption | omega) only [gI, gI2, gL, gL1, gL2, jcLT, jcGE, jcGT, jcLE, jcEQ, jcNE, dEQ, nIt, lgNE, lgEQ, lgGE, lgLT, lgGT, lgLE, jinT, nIc, nI0, nI1, nIo, nIs, nI_add, nIm, nIn0, szl0, szl1, szl2, szl3, szl4, szl5, Nat.add_sub_assoc, Nat.add_zero, Nat.reduceSub, Nat.reduceAdd, Nat.reduceMul, Nat.reduceEqDiff,  jifT, bdS, sifN, sifS, omN, omS, cdI, x25, x26, x27, x28, x29, x30, x31, x32, xr0, xr1, xr2, xr3, xr4, xr5, if_pos, if_neg, true_and, and_true, false_and, and_false, and_self, Bool.and_true, if_true, if_false, reduceIte, cond_true, cond_false, not_true_eq_false, not_false_eq_true, x51, x52, x53, x54, x55, x56, x57, x58, x59, x60, x61, x62, x63, e]
theorem i_7 (ht : 1000 < t) (h : cx φ D F N P S T A r d p f pc (k + 1) m) (hpc : pc < P.2.2.2.1 f) (a : Int32) : insR φ D F N P S T A r p G t 1 (X_7 G t r p a S) (W_7 G t r d a T) := by
  obtain ⟨hM, o1, o2, hn, hr, d2, d3⟩ := h.rd
  refine ⟨_, _, cD_ok (x_7 a hM o1 (by omega)), ?_, h.ok (dr_ag S p k) rfl (mp_ag T r d (k + 1) 1) (mpS_2 _ _ _ _ _) (h.fr.pops 1) hpc⟩
  unfold W_7
  rw [e_156 (by omega) hr d3 hn d2 o2 (by omega)]
  rfl
/-! k values are popped and one is pushed on both sides -/
theorem cx.repl (h : cx φ D F N P S T A r d p f pc n m) (hpc : pc < P.2.2.2.1 f) {k : Nat} (hk : k ≤ n) (hn : n - k < 16) {x v : Int64} {g kk : Int32} (hv : vr φ D x g kk v) {kt : Nat} {X : Option (Int32 × sS)} {W : Option (Unit × sS)} (hX : X = some (nI 0, rpush (siI S 29 p 1 2 (nI (n - k))) p 1 (n - k) x g)) (hW : W = some ((), mpu (mpS T r d n k) r d (n - k) kk v)) : insR φ D F N P S T A r p G t kt X W :=
  ⟨_, _, cD_ok hX, hW, h.ok ((dr_ag S p (n - k)).trans (rp_ag _ _ _ _ _)) rfl ((mp_ag T r d n k).trans (mu_ag _ _ _ _ _ _)) (mpS_2 _ _ _ _ _) ((h.fr.pops k).push hn hv) hpc⟩
/-! the reference pops k, then pushes -/
theorem e_157p {kk : Int32} {v : Int64} (ht : 1000 < t) (hr : r < 16) (d3 : d < 30) (hn : n ≤ 16) (d2 : T.1 54 r 0 1 = nI (d + 1)) (o2 : T.1 56 r d 2 = nI n) (hk : n - k < 16) : F_157 G t (r, 0) kk v (mpS T r d n k) = some (nI 1, mpu (mpS T r d n k) r d (n - k) kk v) :=
  e_157 hr d3 hk (by rw [mpS_I _ _ _ _ (by omega) (by omega)]; exact d2) (mpS_sz o2 k)
set_option maxHeartbeats 4000000 in
set_option linter.unusedSimpArgs false in
theorem i_6 (ht : 1000 < t) (h : cx φ D F N P S T A r d p f pc (k + 1) m) (hpc : pc < P.2.2.2.1 f) (hk : k < 15) (a : Int32) : insR φ D F N P S T A r p G t 1 (X_6 G t r p a S) (W_6 G t r d a T) := by
  obtain ⟨hM, o1, o2, hn, hr, d2, d3⟩ := h.rd
  have fr := h.fr
  have o4 := fr.2.2.2.1.2.2.2
  have hv := o4 k (by omega)
  obtain ⟨v1, v2⟩ := mpS_v T r d (k + 1) (i := 0) 1 (by omega)
  have q0 := e_156 (G := G) (t := t) (k := 1) (by omega) hr d3 hn d2 o2 (by omega)
  have q1 := e_157p (G := G) (kk := T.1 58 r d k) (v := T.2.1 62 r d k) (k := 1) ht hr d3 hn d2 o2 (by omega)
  have q2 := e_157 (G := G) (t := t) (T := mpu (mpS T r d (k + 1) 1) r d k (T.1 58 r d k) (T.2.1 62 r d k)) (k := T.1 58 r d k) (v := T.2.1 62 r d k) hr d3 (show k + 1 < 16 by omega) (by rw [(mpu_r _ _ _ _ _ _ 0).2.2.2, (mpS_r _ _ _ _ _).2.2]; exact d2) (mpu_r _ _ _ _ _ _ 0).2.2.1
  have v3 : (mpu (mpS T r d (k + 1) 1) r d k (T.1 58 r d k) (T.2.1 62 r d k)).1 47 0 0 0 = T.1 58 r d k := by
    unfold mpu; rw [siI_ne _ _ _ (by omega), gL1, siI_ne _ _ _ (by omega)]; exact v1
  have v4 : (mpu (mpS T r d (k + 1) 1) r d k (T.1 58 r d k) (T.2.1 62 r d k)).2.1 48 0 0 0 = T.2.1 62 r d k := by
    unfold mpu; rw [gI2, siL_ne _ _ _ (by omega), gI2]; exact v2
  refine ⟨_, mpu (mpu (mpS T r d (k + 1) 1) r d k (T.1 58 r d k) (T.2.1 62 r d k)) r d (k + 1) (T.1 58 r d k) (T.2.1 62 r d k), cD_ok (x_6 a hM o1 (by omega)), ?_, h.ok (rp_ag _ _ _ _ _) rfl ((mp_ag T r d (k + 1) 1).trans ((mu_ag _ _ _ _ _ _).trans (mu_ag _ _ _ _ _ _))) (mpS_2 _ _ _ _ _) (pc' := pc) (n' := k + 2) (m' := m) ?_ hpc⟩
  · clear h fr o4 hv
    unfold W_6
    simp (disch := first | assumption | omega) only [gI, gI2, gL, gL1, gL2, jcLT, jcGE, jcGT, jcLE, jcEQ, jcNE, dEQ, nIt, lgNE, lgEQ, lgGE, lgLT, lgGT, lgLE, jinT, nIc, nI0, nI1, nIo, nIs, nI_add, nIm, nIn0, szl0, szl1, szl2, szl3, szl4, szl5, Nat.add_sub_assoc, Nat.add_zero, Nat.reduceSub, Nat.reduceAdd, Nat.reduceMul, Nat.reduceEqDiff,  jifT, bdS, sifN, sifS, omN, omS, cdI, x25, x26, x27, x28, x29, x30, x31, x32, xr0, xr1, xr2, xr3, xr4, xr5, if_pos, if_neg, true_and, and_true, false_and, and_false, and_self, Bool.and_true, if_true, if_false, reduceIte, cond_true, cond_false, not_true_eq_false, not_false_eq_true, x51, x52, x53, x54, x55, x56, x57, x58, x59, x60, x61, x62, x63, q0, v1, v2, q1, v3, v4, q2, Nat.zero_add]
  · refine fr.ops (agr.i (agr.i (agr.l (agr.refl _ _) _ _ (by omega)) _ _ (by omega)) _ _ (by omega)) hM ((tk.pops _ _ _ _ _).trans ((tk.push _ _ _ _ _ _).trans (tk.push _ _ _ _ _ _))) (by omega) (siI_at _ _ _ _ _ _) (mpu_r _ _ _ _ _ _ 0).2.2.1 (fun i hi => ?_)
    rw [(mpu_r _ _ _ _ _ _ i).1, (mpu_r _ _ _ _ _ _ i).2.1, (mpu_r _ _ _ _ _ _ i).1, (mpu_r _ _ _ _ _ _ i).2.1, (mpS_r _ _ _ _ _).1, (mpS_r _ _ _ _ _).2.1]
    clear h fr q0 q1 q2 v1 v2 v3 v4
    by_cases c : i = k + 1
    · subst c
      simp (disch := first | assumption | omega) only [gI, gI2, gL, gL1, gL2, jcLT, jcGE, jcGT, jcLE, jcEQ, jcNE, dEQ, nIt, lgNE, lgEQ, lgGE, lgLT, lgGT, lgLE, jinT, nIc, nI0, nI1, nIo, nIs, nI_add, nIm, nIn0, szl0, szl1, szl2, szl3, szl4, szl5, Nat.add_sub_assoc, Nat.add_zero, Nat.reduceSub, Nat.reduceAdd, Nat.reduceMul, Nat.reduceEqDiff,  jifT, bdS, sifN, sifS, omN, omS, cdI, x25, x26, x27, x28, x29, x30, x31, x32, xr0, xr1, xr2, xr3, xr4, xr5, if_pos, if_neg, true_and, and_true, false_and, and_false, and_self, Bool.and_true, if_true, if_false, reduceIte, cond_true, cond_false, not_true_eq_false, not_false_eq_true]
      exact hv
    · by_cases c2 : i = k
      · subst c2
        simp (disch := first | assumption | omega) only [gI, gI2, gL, gL1, gL2, jcLT, jcGE, jcGT, jcLE, jcEQ, jcNE, dEQ, nIt, lgNE, lgEQ, lgGE, lgLT, lgGT, lgLE, jinT, nIc, nI0, nI1, nIo, nIs, nI_add, nIm, nIn0, szl0, szl1, szl2, szl3, szl4, szl5, Nat.add_sub_assoc, Nat.add_zero, Nat.reduceSub, Nat.reduceAdd, Nat.reduceMul, Nat.reduceEqDiff,  jifT, bdS, sifN, sifS, omN, omS, cdI, x25, x26, x27, x28, x29, x30, x31, x32, xr0, xr1, xr2, xr3, xr4, xr5, if_pos, if_neg, true_and, and_true, false_and, and_false, and_self, Bool.and_true, if_true, if_false, reduceIte, cond_true, cond_false, not_true_eq_false, not_false_eq_true]
        exact hv
      · simp (disch := first | assumption | omega) only [gI, gI2, gL, gL1, gL2, jcLT, jcGE, jcGT, jcLE, jcEQ, jcNE, dEQ, nIt, lgNE, lgEQ, lgGE, lgLT, lgGT, lgLE, jinT, nIc, nI0, nI1, nIo, nIs, nI_add, nIm, nIn0, szl0, szl1, szl2, szl3, szl4, szl5, Nat.add_sub_assoc, Nat.add_zero, Nat.reduceSub, Nat.reduceAdd, Nat.reduceMul, Nat.reduceEqDiff,  jifT, bdS, sifN, sifS, omN, omS, cdI, x25, x26, x27, x28, x29, x30, x31, x32, xr0, xr1, xr2, xr3, xr4, xr5, if_pos, if_neg, true_and, and_true, false_and, and_false, and_self, Bool.and_true, if_true, if_false, reduceIte, cond_true, cond_false, not_true_eq_false, not_false_eq_true]
        exact o4 i (by omega)
set_option maxHeartbeats 4000000 in
set_option linter.unusedSimpArgs false in
theorem i_8 (ht : 1000 < t) (h : cx φ D F N P S T A r d p f pc (k + 2) m) (hpc : pc < P.2.2.2.1 f) (a : Int32) : insR φ D F N P S T A r p G t 2 (X_8 G t r p a S) (W_8 G t r d a T) := by
  obtain ⟨hM, o1, o2, hn, hr, d2, d3⟩ := h.rd
  have fr := h.fr
  have o4 := fr.2.2.2.1.2.2.2
  have hv := o4 k (by omega)
  have hv' := o4 (k + 1) (by omega)
  obtain ⟨v1, v2⟩ := mpS_v T r d (k + 2) (i := 0) 2 (by omega)
  obtain ⟨u1, u2⟩ := mpS_v T r d (k + 2) (i := 1) 2 (by omega)
  have q0 := e_156 (G := G) (t := t) (k := 2) (by omega) hr d3 hn d2 o2 (by omega)
  have q1 := e_157p (G := G) (kk := T.1 58 r d (k + 1)) (v := T.2.1 62 r d (k + 1)) (k := 2) ht hr d3 hn d2 o2 (by omega)
  have q2 := e_157 (G := G) (t := t) (T := mpu (mpS T r d (k + 2) 2) r d k (T.1 58 r d (k + 1)) (T.2.1 62 r d (k + 1))) (k := T.1 58 r d k) (v := T.2.1 62 r d k) hr d3 (show k + 1 < 16 by omega) (by rw [(mpu_r _ _ _ _ _ _ 0).2.2.2, (mpS_r _ _ _ _ _).2.2]; exact d2) (mpu_r _ _ _ _ _ _ 0).2.2.1
  have v3 : (mpu (mpS T r d (k + 2) 2) r d k (T.1 58 r d (k + 1)) (T.2.1 62 r d (k + 1))).1 47 0 0 1 = T.1 58 r d k := by
    unfold mpu; rw [siI_ne _ _ _ (by omega), gL1, siI_ne _ _ _ (by omega)]; exact u1
  have v4 : (mpu (mpS T r d (k + 2) 2) r d k (T.1 58 r d (k + 1)) (T.2.1 62 r d (k + 1))).2.1 48 0 0 1 = T.2.1 62 r d k := by
    unfold mpu; rw [gI2, siL_ne _ _ _ (by omega), gI2]; exact u2
  refine ⟨_, mpu (mpu (mpS T r d (k + 2) 2) r d k (T.1 58 r d (k + 1)) (T.2.1 62 r d (k + 1))) r d (k + 1) (T.1 58 r d k) (T.2.1 62 r d k), cD_ok (x_8 a hM o1 (by omega)), ?_, h.ok (agr.i (agr.l (agr.i (agr.l (agr.refl _ _) _ _ (by omega)) _ _ (by omega)) _ _ (by omega)) _ _ (by omega)) rfl ((mp_ag T r d (k + 2) 2).trans ((mu_ag _ _ _ _ _ _).trans (mu_ag _ _ _ _ _ _))) (mpS_2 _ _ _ _ _) (pc' := pc) (n' := k + 2) (m' := m) ?_ hpc⟩
  · clear h fr o4 hv hv'
    unfold W_8
    simp (disch := first | assumption | omega) only [gI, gI2, gL, gL1, gL2, jcLT, jcGE, jcGT, jcLE, jcEQ, jcNE, dEQ, nIt, lgNE, lgEQ, lgGE, lgLT, lgGT, lgLE, jinT, nIc, nI0, nI1, nIo, nIs, nI_add, nIm, nIn0, szl0, szl1, szl2, szl3, szl4, szl5, Nat.add_sub_assoc, Nat.add_zero, Nat.reduceSub, Nat.reduceAdd, Nat.reduceMul, Nat.reduceEqDiff,  jifT, bdS, sifN, sifS, omN, omS, cdI, x25, x26, x27, x28, x29, x30, x31, x32, xr0, xr1, xr2, xr3, xr4, xr5, if_pos, if_neg, true_and, and_true, false_and, and_false, and_self, Bool.and_true, if_true, if_false, reduceIte, cond_true, cond_false, not_true_eq_false, not_false_eq_true, x51, x52, x53, x54, x55, x56, x57, x58, x59, x60, x61, x62, x63, q0, v1, v2, q1, v3, v4, q2, Nat.zero_add]
  · refine fr.ops (agr.i (agr.l (agr.i (agr.l (agr.refl _ _) _ _ (by omega)) _ _ (by omega)) _ _ (by omega)) _ _ (by omega)) hM ((tk.pops _ _ _ _ _).trans ((tk.push _ _ _ _ _ _).trans (tk.push _ _ _ _ _ _))) (by omega) ?_ (mpu_r _ _ _ _ _ _ 0).2.2.1 (fun i hi => ?_)
    · clear h fr o4 q0 q1 q2 v1 v2 v3 v4 u1 u2
      simp (disch := first | assumption | omega) only [gI, gI2, gL, gL1, gL2, jcLT, jcGE, jcGT, jcLE, jcEQ, jcNE, dEQ, nIt, lgNE, lgEQ, lgGE, lgLT, lgGT, lgLE, jinT, nIc, nI0, nI1, nIo, nIs, nI_add, nIm, nIn0, szl0, szl1, szl2, szl3, szl4, szl5, Nat.add_sub_assoc, Nat.add_zero, Nat.reduceSub, Nat.reduceAdd, Nat.reduceMul, Nat.reduceEqDiff,  jifT, bdS, sifN, sifS, omN, omS, cdI, x25, x26, x27, x28, x29, x30, x31, x32, xr0, xr1, xr2, xr3, xr4, xr5, if_pos, if_neg, true_and, and_true, false_and, and_false, and_self, Bool.and_true, if_true, if_false, reduceIte, cond_true, cond_false, not_true_eq_false, not_false_eq_true, o1]
    · rw [(mpu_r _ _ _ _ _ _ i).1, (mpu_r _ _ _ _ _ _ i).2.1, (mpu_r _ _ _ _ _ _ i).1, (mpu_r _ _ _ _ _ _ i).2.1, (mpS_r _ _ _ _ _).1, (mpS_r _ _ _ _ _).2.1]
      clear h fr q0 q1 q2 v1 v2 v3 v4 u1 u2
      by_cases c : i = k + 1
      · subst c
        simp (disch := first | assumption | omega) only [gI, gI2, gL, gL1, gL2, jcLT, jcGE, jcGT, jcLE, jcEQ, jcNE, dEQ, nIt, lgNE, lgEQ, lgGE, lgLT, lgGT, lgLE, jinT, nIc, nI0, nI1, nIo, nIs, nI_add, nIm, nIn0, szl0, szl1, szl2, szl3, szl4, szl5, Nat.add_sub_assoc, Nat.add_zero, Nat.reduceSub, Nat.reduceAdd, Nat.reduceMul, Nat.reduceEqDiff,  jifT, bdS, sifN, sifS, omN, omS, cdI, x25, x26, x27, x28, x29, x30, x31, x32, xr0, xr1, xr2, xr3, xr4, xr5, if_pos, if_neg, true_and, and_true, false_and, and_false, and_self, Bool.and_true, if_true, if_false, reduceIte, cond_true, cond_false, not_true_eq_false, not_false_eq_true]
        exact hv
      · by_cases c2 : i = k
        · subst c2
          simp (disch := first | assumption | omega) only [gI, gI2, gL, gL1, gL2, jcLT, jcGE, jcGT, jcLE, jcEQ, jcNE, dEQ, nIt, lgNE, lgEQ, lgGE, lgLT, lgGT, lgLE, jinT, nIc, nI0, nI1, nIo, nIs, nI_add, nIm, nIn0, szl0, szl1, szl2, szl3, szl4, szl5, Nat.add_sub_assoc, Nat.add_zero, Nat.reduceSub, Nat.reduceAdd, Nat.reduceMul, Nat.reduceEqDiff,  jifT, bdS, sifN, sifS, omN, omS, cdI, x25, x26, x27, x28, x29, x30, x31, x32, xr0, xr1, xr2, xr3, xr4, xr5, if_pos, if_neg, true_and, and_true, false_and, and_false, and_self, Bool.and_true, if_true, if_false, reduceIte, cond_true, cond_false, not_true_eq_false, not_false_eq_true]
          exact hv'
        · simp (disch := first | assumption | omega) only [gI, gI2, gL, gL1, gL2, jcLT, jcGE, jcGT, jcLE, jcEQ, jcNE, dEQ, nIt, lgNE, lgEQ, lgGE, lgLT, lgGT, lgLE, jinT, nIc, nI0, nI1, nIo, nIs, nI_add, nIm, nIn0, szl0, szl1, szl2, szl3, szl4, szl5, Nat.add_sub_assoc, Nat.add_zero, Nat.reduceSub, Nat.reduceAdd, Nat.reduceMul, Nat.reduceEqDiff,  jifT, bdS, sifN, sifS, omN, omS, cdI, x25, x26, x27, x28, x29, x30, x31, x32, xr0, xr1, xr2, xr3, xr4, xr5, if_pos, if_neg, true_and, and_true, false_and, and_false, and_self, Bool.and_true, if_true, if_false, reduceIte, cond_true, cond_false, not_true_eq_false, not_false_eq_true]
          exact o4 i (by omega)
end PLA
