/-! Recovery. -/
section REC
variable {φ : Nat → Nat} {D : Nat → Prop} {F N : Nat} {P : aP} {S S' T T' : sS} {A : aS} {r d p f pc n m e b k : Nat} {G : jG} {t : Nat}
set_option maxHeartbeats 4000000 in
set_option linter.unusedSimpArgs false in
theorem x_36a {a : Int32} (hr : r < 16) (hM : S.2.2.2.1.1 p = true) (o1 : S.1 29 p 1 2 = nI n) (hn : n < 16) (h3 : S.1 25 r 0 3 = nI 1) (hp : S.2.2.1.1 r 0 = some p) : X_36 G t r p a S = some (nI 0, rpush S p 1 n 0 (nI 1)) := by
  unfold X_36
  simp (disch := first | assumption | omega) only [gI, gI2, gL, gL1, gL2, jcLT, jcGE, jcGT, jcLE, jcEQ, jcNE, dEQ, nIt, lgNE, lgEQ, lgGE, lgLT, lgGT, lgLE, jinT, nIc, nI0, nI1, nIo, nIs, nI_add, nIm, nIn0, szl0, szl1, szl2, szl3, szl4, szl5, Nat.add_sub_assoc, Nat.add_zero, Nat.reduceSub, Nat.reduceAdd, Nat.reduceMul, Nat.reduceEqDiff,  jifT, bdS, sifN, sifS, omN, omS, cdI, x25, x26, x27, x28, x29, x30, x31, x32, xr0, xr1, xr2, xr3, xr4, xr5, if_pos, if_neg, true_and, and_true, false_and, and_false, and_self, Bool.and_true, if_true, if_false, reduceIte, cond_true, cond_false, not_true_eq_false, not_false_eq_true, F_109, F_66, F_109_33, F_109_72, F_78, h3, hp, hM, o1]
  rfl
set_option maxHeartbeats 4000000 in
set_option linter.unusedSimpArgs false in
theorem x_36b {a : Int32} {q : Nat} (hr : r < 16) (hM : S.2.2.2.1.1 p = true) (o1 : S.1 29 p 1 2 = nI n) (hn : n < 16) (h3 : S.1 25 r 0 3 = nI (d + 2)) (hd : d < 29) (hp : S.2.2.1.1 r (d + 1) = some p) (hq : S.2.2.1.1 r d = some q) (mq : S.2.2.2.1.1 q = true) (eq : S.1 27 q 0 7 = nI e) (he : e < 2) : X_36 G t r p a S = some (nI 0, rpush S p 1 n 0 (nI 1)) := by
  unfold X_36
  simp (disch := first | assumption | omega) only [gI, gI2, gL, gL1, gL2, jcLT, jcGE, jcGT, jcLE, jcEQ, jcNE, dEQ, nIt, lgNE, lgEQ, lgGE, lgLT, lgGT, lgLE, jinT, nIc, nI0, nI1, nIo, nIs, nI_add, nIm, nIn0, szl0, szl1, szl2, szl3, szl4, szl5, Nat.add_sub_assoc, Nat.add_zero, Nat.reduceSub, Nat.reduceAdd, Nat.reduceMul, Nat.reduceEqDiff,  jifT, bdS, sifN, sifS, omN, omS, cdI, x25, x26, x27, x28, x29, x30, x31, x32, xr0, xr1, xr2, xr3, xr4, xr5, if_pos, if_neg, true_and, and_true, false_and, and_false, and_self, Bool.and_true, if_true, if_false, reduceIte, cond_true, cond_false, not_true_eq_false, not_false_eq_true, F_109, F_66, F_109_33, F_109_72, F_78, h3, hp, hM, o1, hq, mq, eq]
  rfl
set_option maxHeartbeats 4000000 in
set_option linter.unusedSimpArgs false in
theorem x_36c {a : Int32} {q : Nat} (hr : r < 16) (hM : S.2.2.2.1.1 p = true) (o1 : S.1 29 p 1 2 = nI n) (hn : n < 16) (h3 : S.1 25 r 0 3 = nI (d + 2)) (hd : d < 29) (hp : S.2.2.1.1 r (d + 1) = some p) (hq : S.2.2.1.1 r d = some q) (mq : S.2.2.2.1.1 q = true) (eq : S.1 27 q 0 7 = nI 2) (oq : S.1 29 q 3 2 = nI 1) : X_36 G t r p a S = some (nI 0, endS (rpush S p 1 n (S.2.1 30 q 3 0) (nI 0)) q 1 0 (nI 0)) := by
  have e8 : F_78 G t (p, 1) (S.2.1 30 q 3 0) (nI 0) S = some ((), rpush S p 1 n (S.2.1 30 q 3 0) (nI 0)) := f_78 (sz := n) ⟨xr1 hM, o1, show n ≤ 16 by omega⟩ hn
  have e9 := f_79 (G := G) (t := t) (S := rpush S p 1 n (S.2.1 30 q 3 0) (nI 0)) (p := q) (e := 1) (x := 0) (g := nI 0) mq
  have e7 : (rpush S p 1 n (S.2.1 30 q 3 0) (nI 0)).2.2 = S.2.2 := rfl
  unfold X_36
  simp (disch := first | assumption | omega) only [gI, gI2, gL, gL1, gL2, jcLT, jcGE, jcGT, jcLE, jcEQ, jcNE, dEQ, nIt, lgNE, lgEQ, lgGE, lgLT, lgGT, lgLE, jinT, nIc, nI0, nI1, nIo, nIs, nI_add, nIm, nIn0, szl0, szl1, szl2, szl3, szl4, szl5, Nat.add_sub_assoc, Nat.add_zero, Nat.reduceSub, Nat.reduceAdd, Nat.reduceMul, Nat.reduceEqDiff,  jifT, bdS, sifN, sifS, omN, omS, cdI, x25, x26, x27, x28, x29, x30, x31, x32, xr0, xr1, xr2, xr3, xr4, xr5, if_pos, if_neg, true_and, and_true, false_and, and_false, and_self, Bool.and_true, if_true, if_false, reduceIte, cond_true, cond_false, not_true_eq_false, not_false_eq_true, F_109, F_66, F_109_33, F_109_72, F_26, h3, hp, hM, o1, hq, mq, eq, oq, e8, e9, e7]
set_option maxHeartbeats 4000000 in
set_option linter.unusedSimpArgs false in
theorem w_36a {a : Int32} (hr : r < 16) (hd : d < 30) {T1 : sS} (b0 : T.1 56 r d 5 = nI 0) (q1 : F_157 G t (r, 0) (nI 1) 0 T = some (nI 1, T1)) : W_36 G t r d a T = some ((), T1) := by
  unfold W_36
  simp (disch := first | assumption | omega) only [gI, gI2, gL, gL1, gL2, jcLT, jcGE, jcGT, jcLE, jcEQ, jcNE, dEQ, nIt, lgNE, lgEQ, lgGE, lgLT, lgGT, lgLE, jinT, nIc, nI0, nI1, nIo, nIs, nI_add, nIm, nIn0, szl0, szl1, szl2, szl3, szl4, szl5, Nat.add_sub_assoc, Nat.add_zero, Nat.reduceSub, Nat.reduceAdd, Nat.reduceMul, Nat.reduceEqDiff,  jifT, bdS, sifN, sifS, omN, omS, cdI, x25, x26, x27, x28, x29, x30, x31, x32, xr0, xr1, xr2, xr3, xr4, xr5, if_pos, if_neg, true_and, and_true, false_and, and_false, and_self, Bool.and_true, if_true, if_false, reduceIte, cond_true, cond_false, not_true_eq_false, not_false_eq_true, x51, x52, x53, x54, x55, x56, x57, x58, x59, x60, x61, x62, x63, F_187, F_187_22, F_187_38, b0, q1]
set_option maxHeartbeats 4000000 in
set_option linter.unusedSimpArgs false in
theorem w_36b {a : Int32} (hr : r < 16) (hd : d < 29) {T1 : sS} (h3 : T.1 54 r 0 1 = nI (d + 2)) (b0 : T.1 56 r (d + 1) 5 = nI 1) (eq : T.1 56 r d 4 = nI e) (he : e < 2) (q1 : F_157 G t (r, 0) (nI 1) 0 T = some (nI 1, T1)) : W_36 G t r (d + 1) a T = some ((), T1) := by
  unfold W_36
  simp (disch := first | assumption | omega) only [gI, gI2, gL, gL1, gL2, jcLT, jcGE, jcGT, jcLE, jcEQ, jcNE, dEQ, nIt, lgNE, lgEQ, lgGE, lgLT, lgGT, lgLE, jinT, nIc, nI0, nI1, nIo, nIs, nI_add, nIm, nIn0, szl0, szl1, szl2, szl3, szl4, szl5, Nat.add_sub_assoc, Nat.add_zero, Nat.reduceSub, Nat.reduceAdd, Nat.reduceMul, Nat.reduceEqDiff,  jifT, bdS, sifN, sifS, omN, omS, cdI, x25, x26, x27, x28, x29, x30, x31, x32, xr0, xr1, xr2, xr3, xr4, xr5, if_pos, if_neg, true_and, and_true, false_and, and_false, and_self, Bool.and_true, if_true, if_false, reduceIte, cond_true, cond_false, not_true_eq_false, not_false_eq_true, x51, x52, x53, x54, x55, x56, x57, x58, x59, x60, x61, x62, x63, F_187, F_187_22, F_187_38, b0, h3, eq, q1]
set_option maxHeartbeats 4000000 in
set_option linter.unusedSimpArgs false in
theorem w_36c {a : Int32} (hr : r < 16) (hd : d < 29) {T1 : sS} (h3 : T.1 54 r 0 1 = nI (d + 2)) (b0 : T.1 56 r (d + 1) 5 = nI 1) (eq : T.1 56 r d 4 = nI 2) (q1 : F_157 G t (r, 0) (nI 0) (T.2.1 56 r d 6) T = some (nI 1, T1)) : W_36 G t r (d + 1) a T = some ((), siL (siI (siI T1 56 r d 4 (nI 1)) 56 r d 7 (nI 0)) 56 r d 8 0) := by
  unfold W_36
  simp (disch := first | assumption | omega) only [gI, gI2, gL, gL1, gL2, jcLT, jcGE, jcGT, jcLE, jcEQ, jcNE, dEQ, nIt, lgNE, lgEQ, lgGE, lgLT, lgGT, lgLE, jinT, nIc, nI0, nI1, nIo, nIs, nI_add, nIm, nIn0, szl0, szl1, szl2, szl3, szl4, szl5, Nat.add_sub_assoc, Nat.add_zero, Nat.reduceSub, Nat.reduceAdd, Nat.reduceMul, Nat.reduceEqDiff,  jifT, bdS, sifN, sifS, omN, omS, cdI, x25, x26, x27, x28, x29, x30, x31, x32, xr0, xr1, xr2, xr3, xr4, xr5, if_pos, if_neg, true_and, and_true, false_and, and_false, and_self, Bool.and_true, if_true, if_false, reduceIte, cond_true, cond_false, not_true_eq_false, not_false_eq_true, x51, x52, x53, x54, x55, x56, x57, x58, x59, x60, x61, x62, x63, F_187, F_187_22, F_187_38, b0, h3, eq, q1]
set_option maxHeartbeats 4000000 in
set_option linter.unusedSimpArgs false in
theorem i_36 (h : cx φ D F N P S T A r d p f pc n m) (hpc : pc < P.2.2.2.1 f) (hn : n < 16) (a : Int32) : insR φ D F N P S T A r p G t 0 (X_36 G t r p a S) (W_36 G t r d a T) := by
  obtain ⟨hM, o1, o2, _, hr, d2, d3⟩ := h.rd
  have d1 := h.d3.1
  have hp := h.2.2.2.2.2.1
  have e3 := h.fr.2.2.2.2.2.2.2.2.1
  have q1 : F_157 G t (r, 0) (nI 1) 0 T = some (nI 1, mpu T r d n (nI 1) 0) := e_157 hr d3 hn d2 o2
  have hnil : vr φ D 0 (nI 1) (nI 1) 0 := Or.inr (Or.inl ⟨rfl, rfl, rfl⟩)
  cases d with
  | zero => exact h.psh hpc hn hnil (x_36a hr hM o1 hn d1 hp) (w_36a hr d3 e3 q1)
  | succ d =>
    obtain ⟨q, hq, frq⟩ := h.st.fr (d := d) (by omega)
    have hqp : q ≠ p := fun z => by
      subst z
      have := (h.1.2.2.2.2.2.2.2.2.2.2.1 _ _ _ _ _ hq hp).2
      omega
    generalize hfq : A.2.2.1 r d = fq at frq
    obtain ⟨f', pc', n', m', e'⟩ := fq
    dsimp only at frq
    rw [dfb_s, hfq] at e3
    dsimp only at e3
    have eS := frq.2.2.2.2.2.2.1
    have eT := frq.2.2.2.2.2.2.2.1
    have e5 := frq.2.2.2.2.2.2.2.2.2.2
    by_cases c0 : e' = 0
    · subst c0
      rw [if_pos rfl] at e3
      exact h.psh hpc hn hnil (x_36b hr hM o1 hn d1 (by omega) hp hq frq.1 eS (by omega)) (w_36a hr d3 e3 q1)
    · rw [if_neg c0] at e3
      by_cases c1 : e' = 1
      · subst c1
        exact h.psh hpc hn hnil (x_36b hr hM o1 hn d1 (by omega) hp hq frq.1 eS (by omega)) (w_36b hr (by omega) d2 e3 eT (by omega) q1)
      · have c2 : e' = 2 := by omega
        subst c2
        have z : S.1 29 q 3 2 = nI 1 ∧ S.2.1 30 q 3 0 = T.2.1 56 r d 6 := by
          rcases e5 with z | z | z
          · omega
          · omega
          · exact ⟨z.2.1, z.2.2.1⟩
        have q2 : F_157 G t (r, 0) (nI 0) (T.2.1 56 r d 6) T = some (nI 1, mpu T r (d + 1) n (nI 0) (T.2.1 56 r d 6)) := e_157 hr d3 hn d2 o2
        have ec := x_36c (G := G) (t := t) (a := a) hr hM o1 hn d1 (by omega) hp hq frq.1 eS z.1
        rw [z.2] at ec
        have ew := w_36c (a := a) hr (by omega) d2 e3 eT q2
        obtain ⟨h1, h2, h3, h4, h5, h6, h7⟩ := id h
        obtain ⟨w1, k1, m1, ow1⟩ := h1.frm h3 h4 h5 h6 (rp_ag S p n (T.2.1 56 r d 6) (nI 0)) rfl (mu_ag T r (d + 1) n (nI 0) (T.2.1 56 r d 6)) rfl (h.fr.push hn (Or.inl ⟨rfl, rfl, rfl⟩))
        have R1 := w1.2.1 r hr
        rw [aset_1, aset_2, aset_3] at R1
        obtain ⟨q', hq', frq'⟩ := R1.fr (d := d) (by omega)
        have eqq : q' = q := by
          have : S.2.2.1.1 r d = some q' := hq'
          rw [hq] at this
          exact (Option.some.inj this).symm
        subst eqq
        rw [fset_ne _ (by omega), hfq, dfb_set _ (by omega)] at frq'
        have aS2 : agr (fun t i j => (t = 25 ∧ i = r ∧ j = 0) ∨ (27 ≤ t ∧ t ≤ 31 ∧ i = q' ∧ j < 4)) (rpush S p 1 n (T.2.1 56 r d 6) (nI 0)) (endS (rpush S p 1 n (T.2.1 56 r d 6) (nI 0)) q' 1 0 (nI 0)) := (endS_ag _ _ _ _ _).mono (fun t i j z => by omega)
        have aT2 : agr (fun t i j => (56 ≤ t ∧ t ≤ 63 ∧ i = r ∧ j = d)) (mpu T r (d + 1) n (nI 0) (T.2.1 56 r d 6)) (siL (siI (siI (mpu T r (d + 1) n (nI 0) (T.2.1 56 r d 6)) 56 r d 4 (nI 1)) 56 r d 7 (nI 0)) 56 r d 8 0) := agr.l (agr.i (agr.i (agr.refl _ _) _ _ (by omega)) _ _ (by omega)) _ _ (by omega)
        have R2 := R1.chg ow1 (S' := endS (rpush S p 1 n (T.2.1 56 r d 6) (nI 0)) q' 1 0 (nI 0)) (T' := siL (siI (siI (mpu T r (d + 1) n (nI 0) (T.2.1 56 r d 6)) 56 r d 4 (nI 1)) 56 r d 7 (nI 0)) 56 r d 8 0) rfl hq' aS2 (aT2.mono (fun t i j z => by omega)) (st' := 1) (dp' := d + 2) (fs' := fset (fset (A.2.2.1 r) (d + 1) (f, pc, n + 1, m, 0)) d (f', pc', n', m', 1)) (R1.sc.keep (endS_ag _ _ _ _ _ 25 r 0 (by omega)).1 (endS_ag _ _ _ _ _ 25 r 0 (by omega)).2 (aT2 54 r 0 (by omega)).1) (by omega) (fun y _ hy => fset_ne _ hy) (fun y hy hy2 => by
            by_cases cy : y ≤ d
            · exact dfb_set _ cy
            · have : y = d + 1 := by omega
              subst this
              rw [dfb_s, dfb_s, fset_at, fset_ne _ (by omega), hfq]
              rfl) (fun _ => by
            rw [fset_at, dfb_set _ (Nat.le_refl _), dfb_set _ (by omega)]
            exact frq'.end1 (Or.inl ⟨rfl, rfl, rfl⟩)) (fun _ z => by
            rw [fset_at] at z
            cases z)
        have k2 : kp (rpush S p 1 n (T.2.1 56 r d 6) (nI 0)) (endS (rpush S p 1 n (T.2.1 56 r d 6) (nI 0)) q' 1 0 (nI 0)) r := kp.fr ow1 hq' (aS2.mono (fun t i j z => by omega)) rfl (fun k' _ _ => by rw [(endS_ag _ _ _ _ _ 25 r 0 (by omega)).1])
        have m2 : km (mpu T r (d + 1) n (nI 0) (T.2.1 56 r d 6)) (siL (siI (siI (mpu T r (d + 1) n (nI 0) (T.2.1 56 r d 6)) 56 r d 4 (nI 1)) 56 r d 7 (nI 0)) 56 r d 8 0) r := ⟨aT2.mono (fun t i j z => by omega), fun k' z => by rw [(aT2 33 0 0 (by omega)).1], by rw [(aT2 33 0 0 (by omega)).2], rfl, by rw [(aT2 54 r 0 (by omega)).2]⟩
        have w2 := w1.one hr k2 m2 (ow1.same rfl) R2 (by omega)
        have ea : aset (aset A r 1 (d + 1 + 1) (fset (A.2.2.1 r) (d + 1) (f, pc, n + 1, m, 0))) r 1 (d + 2) (fset (fset (A.2.2.1 r) (d + 1) (f, pc, n + 1, m, 0)) d (f', pc', n', m', 1)) = aset A r 1 (d + 2) (fset (fset (A.2.2.1 r) (d + 1) (f, pc, n + 1, m, 0)) d (f', pc', n', m', 1)) := by
          unfold aset
          refine Prod.ext (funext fun y => ?_) (Prod.ext (funext fun y => ?_) (Prod.ext (funext fun y => ?_) rfl))
          all_goals
            by_cases c : y = r
            · subst c; simp only [va_up_self]
            · simp only [va_up_ne _ _ c]
        rw [ea] at w2
        refine ⟨_, _, cD_ok ec, ew, 1, d + 2, _, w2, fun y hy => ?_, Or.inl ⟨rfl, by omega⟩, k1.trans k2, m1.trans m2, fun x hx => hx.same rfl⟩
        have : y = d + 1 := by omega
        subst this
        rw [fset_ne _ (by omega), fset_at]
        exact ⟨rfl, hpc⟩
end REC
