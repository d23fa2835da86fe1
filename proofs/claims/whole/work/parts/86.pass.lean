/-! Passing a value on: to who waits, or to the channel. -/
section PAS
variable {φ : Nat → Nat} {D : Nat → Prop} {F N : Nat} {P : aP} {S S' T T' : sS} {A : aS} {r d p f pc n m e b k y : Nat} {G : jG} {t : Nat}
/-! caseOf of the reference, where strands lined up meanwhile -/
set_option maxHeartbeats 4000000 in
set_option linter.unusedSimpArgs false in
theorem wR.e173 (h : wR φ D F N P S T A) (ht : 100 < t) {s : Nat} (hs : s < 16) (hy : D y) (hkd : T.1 51 (φ y) 0 0 = nI 3) {snd : Nat} (hsn : snd ≤ 1) (h4 : A.1 s = 4) (aT : agr (fun t i j => t = 33 ∨ t = 45 ∨ (t = 54 ∧ i = s) ∨ (56 ≤ t ∧ t ≤ 63 ∧ i ≠ s)) T T') (t3 : T'.1 54 s 0 1 = T.1 54 s 0 1) : F_173 G t (s, 0) (nI (φ y)) (nI snd) T' = some (oI (cO S A s y snd (1 - snd)), T') := by
  have R := h.2.1 s hs
  obtain ⟨hE, inj⟩ := h.2.2.2.2.1
  have hD := h.2.2.2.1
  obtain ⟨d, e⟩ : ∃ d, A.2.1 s = d + 1 := ⟨A.2.1 s - 1, by have := R.2.2.2.1; omega⟩
  obtain ⟨p, hp, fr⟩ := R.fr (d := d) (by omega)
  rw [R.2.2.1.2.1, e] at t3
  have h30 := R.2.2.1.2.2
  rw [e] at h30
  rw [cO_e e hp]
  obtain ⟨_, wt⟩ := h.2.2.2.2.2.2.1.2 s hs (by omega) (by omega)
  obtain ⟨_, _, wt4⟩ := wt d e
  generalize hfd : A.2.2.1 s d = fd at fr wt4
  obtain ⟨f, pc, n, m, ee⟩ := fd
  dsimp only at fr wt4 ⊢
  obtain ⟨c, c1, c2, c3, c5, c6, ⟨q, c7, c8⟩, p', c9, c10⟩ := wt4 h4
  have : p' = p := by rw [hp] at c9; exact (Option.some.inj c9).symm
  subst this
  rw [c3, nI_clamp (by omega), h4]
  obtain ⟨pf, _, pg, pq, _⟩ := h.1.1
  have hf := fr.2.1.2.2
  obtain ⟨_, _, pg4, pg5⟩ := pg f hf
  have hpc := fr.2.2.1
  rw [c7] at hpc
  have hb : P.2.2.1 f + q < N := by omega
  have pa := (pq _ hb).2.2
  have e56 := (aT 56 s d (by omega)).1
  refine f_173 (G := G) (t := t) (S := S) (p := p') (f := f) (pc := q) (q := 0) (fi := P.2.2.1 f) ht hs (by omega) t3 (by rw [e56]; exact fr.2.1.2.1) (by omega) (by rw [e56]; exact hpc.2.1) (by rw [(aT 39 0 0 (by omega)).1]; exact pg4.2) (by omega) (by rw [(aT 42 0 0 (by omega)).1, pa]; exact c8) c2 (by rw [e56]; exact fr.2.2.2.1.2.1) fr.2.2.2.1.2.2.1 c5 (fun i hi => ?_) c10 (fun x hx => (hD x hx).keep (hk.refl S) (fun t x y => aT t _ 0 (by omega))) hE inj hy (by rw [(aT 51 (φ y) 0 (by omega)).1]; exact hkd) hsn
  rw [(aT 58 s d (by omega)).1, (aT 62 s d (by omega)).2]
  exact fr.2.2.2.1.2.2.2 i hi
/-! how many operands who waits is rid of -/
def dw (st c : Nat) : Nat := if st = 4 then 3 * c else if st = 2 then 2 else 1
set_option maxHeartbeats 4000000 in
set_option linter.unusedSimpArgs false in
theorem f_91 {s st c pp : Nat} (hs : s < 16) (hst : S.1 25 s 0 4 = nI st) (hst2 : 2 ≤ st ∧ st ≤ 4) (hc : st = 4 → S.1 25 s 0 6 = nI c ∧ c ≤ 4) (hM : S.2.2.2.1.1 pp = true) (o1 : S.1 29 pp 1 2 = nI n) (hn : n ≤ 16) : F_91 G t (s, 0) (pp, 1) S = some ((), siI S 29 pp 1 2 (nI (n - dw st c))) := by
  have e := fun q (hq : q < 2147483648) => f76d (G := G) (t := t) (k := q) hM o1 hn hq
  unfold F_91 dw
  by_cases c4 : st = 4
  · subst c4
    obtain ⟨h1, h2⟩ := hc rfl
    have e := e (3 * c) (by omega)
    rw [← nIml] at e
    rw [if_pos rfl]
    simp (disch := first | assumption | omega) only [gI, gI2, gL, gL1, gL2, jcLT, jcGE, jcGT, jcLE, jcEQ, jcNE, dEQ, nIt, lgNE, lgEQ, lgGE, lgLT, lgGT, lgLE, jinT, nIc, nI0, nI1, nIo, nIs, nI_add, nIm, nIn0, szl0, szl1, szl2, szl3, szl4, szl5, Nat.add_sub_assoc, Nat.add_zero, Nat.reduceSub, Nat.reduceAdd, Nat.reduceMul, Nat.reduceEqDiff,  jifT, bdS, sifN, sifS, omN, omS, cdI, x25, x26, x27, x28, x29, x30, x31, x32, xr0, xr1, xr2, xr3, xr4, xr5, if_pos, if_neg, true_and, and_true, false_and, and_false, and_self, Bool.and_true, if_true, if_false, reduceIte, cond_true, cond_false, not_true_eq_false, not_false_eq_true, hst, hM, h1, e]
  · by_cases c2 : st = 2
    · subst c2
      have e := e 2 (by omega)
      rw [if_neg (by omega), if_pos rfl]
      simp (disch := first | assumption | omega) only [gI, gI2, gL, gL1, gL2, jcLT, jcGE, jcGT, jcLE, jcEQ, jcNE, dEQ, nIt, lgNE, lgEQ, lgGE, lgLT, lgGT, lgLE, jinT, nIc, nI0, nI1, nIo, nIs, nI_add, nIm, nIn0, szl0, szl1, szl2, szl3, szl4, szl5, Nat.add_sub_assoc, Nat.add_zero, Nat.reduceSub, Nat.reduceAdd, Nat.reduceMul, Nat.reduceEqDiff,  jifT, bdS, sifN, sifS, omN, omS, cdI, x25, x26, x27, x28, x29, x30, x31, x32, xr0, xr1, xr2, xr3, xr4, xr5, if_pos, if_neg, true_and, and_true, false_and, and_false, and_self, Bool.and_true, if_true, if_false, reduceIte, cond_true, cond_false, not_true_eq_false, not_false_eq_true, hst, F_91_35, hM, e]
    · have : st = 3 := by omega
      subst this
      have e := e 1 (by omega)
      rw [if_neg (by omega), if_neg (by omega)]
      simp (disch := first | assumption | omega) only [gI, gI2, gL, gL1, gL2, jcLT, jcGE, jcGT, jcLE, jcEQ, jcNE, dEQ, nIt, lgNE, lgEQ, lgGE, lgLT, lgGT, lgLE, jinT, nIc, nI0, nI1, nIo, nIs, nI_add, nIm, nIn0, szl0, szl1, szl2, szl3, szl4, szl5, Nat.add_sub_assoc, Nat.add_zero, Nat.reduceSub, Nat.reduceAdd, Nat.reduceMul, Nat.reduceEqDiff,  jifT, bdS, sifN, sifS, omN, omS, cdI, x25, x26, x27, x28, x29, x30, x31, x32, xr0, xr1, xr2, xr3, xr4, xr5, if_pos, if_neg, true_and, and_true, false_and, and_false, and_self, Bool.and_true, if_true, if_false, reduceIte, cond_true, cond_false, not_true_eq_false, not_false_eq_true, hst, F_91_35, hM, e]
/-! to a strand that waits: at is the value's place among the operands at p -/
set_option maxHeartbeats 4000000 in
set_option linter.unusedSimpArgs false in
theorem e92 {s st c pp dd k1 q1 q2 n2 at_ : Nat} {v1 : Nat × Nat} {o : Option Nat} {fl : Nat} (hs : s < 16) (e90 : F_90 G t (nI (y + 2)) (nI 0) (nI 1) S = some (some (s, 0), S)) (h3 : S.1 25 s 0 3 = nI (dd + 1)) (hdd : dd < 30) (hp : S.2.2.1.1 s dd = some pp) (hMp : S.2.2.2.1.1 pp = true) (hst : S.1 25 s 0 4 = nI st) (hst2 : 2 ≤ st ∧ st ≤ 4) (hc : st = 4 → S.1 25 s 0 6 = nI c ∧ c ≤ 4) (o1 : S.1 29 pp 1 2 = nI n) (hn : n ≤ 16) (hdw : dw st c ≤ n) (hdw2 : n - dw st c ≤ 14) (e89 : st = 4 → F_89 G t (s, 0) (nI (y + 2)) (nI 0) (nI 1) S = some (nI fl, S)) (hfl : st ≠ 4 → fl = 1) (hM : S.2.2.2.1.1 p = true) (hpp : p ≠ pp) (o1' : S.1 29 p 1 2 = nI n2) (hn2 : n2 ≤ 16) (hat : at_ < n2) (ha : S.1 8 0 0 3 = nI q1) (hb : S.1 8 0 0 4 = nI q2) (ha1 : q1 < 16) (hb1 : q2 < 16) (hz : S.1 25 s 0 1 = nI s) :
    F_92 G t v1 (nI (y + 2)) (p, 1) (nI at_) S = some (nI 1, luS (rpush (rpush (siI S 29 pp 1 2 (nI (n - dw st c))) pp 1 (n - dw st c) (S.2.1 30 p 1 at_) (S.1 31 p 1 at_)) pp 1 (n - dw st c + 1) (nI fl).toInt64 (nI 0)) s q1 q2) := by
  have e1 := f_91 (G := G) (t := t) hs hst hst2 hc hMp o1 hn
  have rw1 : rwS (siI S 29 pp 1 2 (nI (n - dw st c))) p 1 n2 := ⟨xr1 hM, by rw [siI_ne _ _ _ (by omega)]; exact o1', hn2⟩
  have e2 := f_26 (G := G) (t := t) rw1 (i := at_) hat
  have e3 := f_27 (G := G) (t := t) rw1 (i := at_) hat
  rw [siI_ne _ _ _ (by omega)] at e3
  rw [gI2] at e2
  have e4 : F_78 G t (pp, 1) (S.2.1 30 p 1 at_) (S.1 31 p 1 at_) (siI S 29 pp 1 2 (nI (n - dw st c))) = some ((), rpush (siI S 29 pp 1 2 (nI (n - dw st c))) pp 1 (n - dw st c) (S.2.1 30 p 1 at_) (S.1 31 p 1 at_)) := f_78 ⟨xr1 hMp, siI_at _ _ _ _ _ _, show n - dw st c ≤ 16 by omega⟩ (show n - dw st c < 16 by omega)
  have e5 : F_78 G t (pp, 1) (nI fl).toInt64 (nI 0) (rpush (siI S 29 pp 1 2 (nI (n - dw st c))) pp 1 (n - dw st c) (S.2.1 30 p 1 at_) (S.1 31 p 1 at_)) = some ((), rpush (rpush (siI S 29 pp 1 2 (nI (n - dw st c))) pp 1 (n - dw st c) (S.2.1 30 p 1 at_) (S.1 31 p 1 at_)) pp 1 (n - dw st c + 1) (nI fl).toInt64 (nI 0)) := f_78 ⟨xr1 hMp, siI_at _ _ _ _ _ _, show n - dw st c + 1 ≤ 16 by omega⟩ (show n - dw st c + 1 < 16 by omega)
  have ag : agr (fun t i j => 27 ≤ t ∧ t ≤ 31 ∧ i = pp ∧ j < 4) S (rpush (rpush (siI S 29 pp 1 2 (nI (n - dw st c))) pp 1 (n - dw st c) (S.2.1 30 p 1 at_) (S.1 31 p 1 at_)) pp 1 (n - dw st c + 1) (nI fl).toInt64 (nI 0)) := ((dr_ag _ _ _).trans (rp_ag _ _ _ _ _)).trans (rp_ag _ _ _ _ _)
  have e6 := f_30 (G := G) (t := t) (S := rpush (rpush (siI S 29 pp 1 2 (nI (n - dw st c))) pp 1 (n - dw st c) (S.2.1 30 p 1 at_) (S.1 31 p 1 at_)) pp 1 (n - dw st c + 1) (nI fl).toInt64 (nI 0)) (s := s) (a := q1) (q := q2) hs (by rw [(ag 8 0 0 (by omega)).1]; exact ha) (by rw [(ag 8 0 0 (by omega)).1]; exact hb) ha1 hb1 (by rw [(ag 25 s 0 (by omega)).1]; exact hz)
  have e7 : (rpush (siI S 29 pp 1 2 (nI (n - dw st c))) pp 1 (n - dw st c) (S.2.1 30 p 1 at_) (S.1 31 p 1 at_)).2.2 = S.2.2 := rfl
  have e52 : F_92_52 G t (p, 1) (nI at_) (s, 0) (pp, 0) (nI fl) S = some (nI 1, luS (rpush (rpush (siI S 29 pp 1 2 (nI (n - dw st c))) pp 1 (n - dw st c) (S.2.1 30 p 1 at_) (S.1 31 p 1 at_)) pp 1 (n - dw st c + 1) (nI fl).toInt64 (nI 0)) s q1 q2) := by
    unfold F_92_52
    clear ag e89 hfl hc rw1
    simp (disch := first | assumption | omega) only [gI, gI2, gL, gL1, gL2, jcLT, jcGE, jcGT, jcLE, jcEQ, jcNE, dEQ, nIt, lgNE, lgEQ, lgGE, lgLT, lgGT, lgLE, jinT, nIc, nI0, nI1, nIo, nIs, nI_add, nIm, nIn0, szl0, szl1, szl2, szl3, szl4, szl5, Nat.add_sub_assoc, Nat.add_zero, Nat.reduceSub, Nat.reduceAdd, Nat.reduceMul, Nat.reduceEqDiff,  jifT, bdS, sifN, sifS, omN, omS, cdI, x25, x26, x27, x28, x29, x30, x31, x32, xr0, xr1, xr2, xr3, xr4, xr5, if_pos, if_neg, true_and, and_true, false_and, and_false, and_self, Bool.and_true, if_true, if_false, reduceIte, cond_true, cond_false, not_true_eq_false, not_false_eq_true, hMp, hM, e1, e2, e3, e4, e5, e6, e7]
  unfold F_92
  clear ag rw1 e1 e2 e3 e4 e5 e6 e7
  by_cases c4 : st = 4
  · have e89 := e89 c4
    subst c4
    simp (disch := first | assumption | omega) only [gI, gI2, gL, gL1, gL2, jcLT, jcGE, jcGT, jcLE, jcEQ, jcNE, dEQ, nIt, lgNE, lgEQ, lgGE, lgLT, lgGT, lgLE, jinT, nIc, nI0, nI1, nIo, nIs, nI_add, nIm, nIn0, szl0, szl1, szl2, szl3, szl4, szl5, Nat.add_sub_assoc, Nat.add_zero, Nat.reduceSub, Nat.reduceAdd, Nat.reduceMul, Nat.reduceEqDiff,  jifT, bdS, sifN, sifS, omN, omS, cdI, x25, x26, x27, x28, x29, x30, x31, x32, xr0, xr1, xr2, xr3, xr4, xr5, if_pos, if_neg, true_and, and_true, false_and, and_false, and_self, Bool.and_true, if_true, if_false, reduceIte, cond_true, cond_false, not_true_eq_false, not_false_eq_true, e90, F_66, h3, hp, F_92_23, hst, e89, e52]
  · have hfl := hfl c4
    subst hfl
    simp (disch := first | assumption | omega) only [gI, gI2, gL, gL1, gL2, jcLT, jcGE, jcGT, jcLE, jcEQ, jcNE, dEQ, nIt, lgNE, lgEQ, lgGE, lgLT, lgGT, lgLE, jinT, nIc, nI0, nI1, nIo, nIs, nI_add, nIm, nIn0, szl0, szl1, szl2, szl3, szl4, szl5, Nat.add_sub_assoc, Nat.add_zero, Nat.reduceSub, Nat.reduceAdd, Nat.reduceMul, Nat.reduceEqDiff,  jifT, bdS, sifN, sifS, omN, omS, cdI, x25, x26, x27, x28, x29, x30, x31, x32, xr0, xr1, xr2, xr3, xr4, xr5, if_pos, if_neg, true_and, and_true, false_and, and_false, and_self, Bool.and_true, if_true, if_false, reduceIte, cond_true, cond_false, not_true_eq_false, not_false_eq_true, e90, F_66, h3, hp, F_92_23, hst, e52]
/-! to the channel, or not at all -/
set_option maxHeartbeats 4000000 in
set_option linter.unusedSimpArgs false in
theorem e92n {p1 w z n2 at_ : Nat} (e90 : F_90 G t (nI (y + 2)) (nI 0) (nI 1) S = some (none, S)) (hM1 : S.2.2.2.1.2 p1 = true) (hw : S.1 29 p1 4 2 = nI w) (hz : S.1 32 p1 0 2 = nI z) (hz2 : z ≤ 16) (hwz : w ≤ z) (hM : S.2.2.2.1.1 p = true) (o1' : S.1 29 p 1 2 = nI n2) (hn2 : n2 ≤ 16) (hat : at_ < n2) :
    F_92 G t (p1, 0) (nI (y + 2)) (p, 1) (nI at_) S = if w < z then some (nI 1, rpush S p1 4 w (S.2.1 30 p 1 at_) (S.1 31 p 1 at_)) else some (nI 0, S) := by
  have rw1 : rwS S p 1 n2 := ⟨xr1 hM, o1', hn2⟩
  have e2 := f_26 (G := G) (t := t) rw1 (i := at_) hat
  have e3 := f_27 (G := G) (t := t) rw1 (i := at_) hat
  unfold F_92
  by_cases c : w < z
  · have e4 : F_78 G t (p1, 4) (S.2.1 30 p 1 at_) (S.1 31 p 1 at_) S = some ((), rpush S p1 4 w (S.2.1 30 p 1 at_) (S.1 31 p 1 at_)) := f_78 ⟨xr4 hM1, hw, show w ≤ 16 by omega⟩ (show w < 16 by omega)
    rw [if_pos c]
    simp (disch := first | assumption | omega) only [gI, gI2, gL, gL1, gL2, jcLT, jcGE, jcGT, jcLE, jcEQ, jcNE, dEQ, nIt, lgNE, lgEQ, lgGE, lgLT, lgGT, lgLE, jinT, nIc, nI0, nI1, nIo, nIs, nI_add, nIm, nIn0, szl0, szl1, szl2, szl3, szl4, szl5, Nat.add_sub_assoc, Nat.add_zero, Nat.reduceSub, Nat.reduceAdd, Nat.reduceMul, Nat.reduceEqDiff,  jifT, bdS, sifN, sifS, omN, omS, cdI, x25, x26, x27, x28, x29, x30, x31, x32, xr0, xr1, xr2, xr3, xr4, xr5, if_pos, if_neg, true_and, and_true, false_and, and_false, and_self, Bool.and_true, if_true, if_false, reduceIte, cond_true, cond_false, not_true_eq_false, not_false_eq_true, e90, F_92_23, hM1, hw, hz, hM, e2, e3, e4]
  · rw [if_neg c]
    simp (disch := first | assumption | omega) only [gI, gI2, gL, gL1, gL2, jcLT, jcGE, jcGT, jcLE, jcEQ, jcNE, dEQ, nIt, lgNE, lgEQ, lgGE, lgLT, lgGT, lgLE, jinT, nIc, nI0, nI1, nIo, nIs, nI_add, nIm, nIn0, szl0, szl1, szl2, szl3, szl4, szl5, Nat.add_sub_assoc, Nat.add_zero, Nat.reduceSub, Nat.reduceAdd, Nat.reduceMul, Nat.reduceEqDiff,  jifT, bdS, sifN, sifS, omN, omS, cdI, x25, x26, x27, x28, x29, x30, x31, x32, xr0, xr1, xr2, xr3, xr4, xr5, if_pos, if_neg, true_and, and_true, false_and, and_false, and_self, Bool.and_true, if_true, if_false, reduceIte, cond_true, cond_false, not_true_eq_false, not_false_eq_true, e90, F_92_23, hM1, hw, hz]
/-! the reference: a strand that waits to receive goes on -/
set_option maxHeartbeats 4000000 in
set_option linter.unusedSimpArgs false in
theorem e179 {s st c dd q fl : Nat} {kk : Int32} {v : Int64} {cc v7 : Int32} (hs : s < 16) (hdd : dd < 30) (h3 : T.1 54 s 0 1 = nI (dd + 1)) (hst : T.1 54 s 0 0 = nI st) (hst2 : st = 3 ∨ st = 4) (hq : T.1 33 0 0 15 = nI q) (hq2 : q < 16) (o2 : T.1 56 s dd 2 = nI n) (hn : n ≤ 16) (hdw : dw st c ≤ n) (hdw2 : n - dw st c ≤ 14) (h4 : st = 4 → F_173 G t (s, 0) cc (nI 0) (rdT T s q) = some (nI fl, rdT T s q) ∧ c ≤ 4 ∧ ∃ f fi pc, T.1 56 s dd 0 = nI f ∧ f < 32 ∧ T.1 39 0 0 f = nI fi ∧ T.1 56 s dd 1 = nI (pc + 1) ∧ fi + pc < 1500 ∧ T.1 42 0 0 (fi + pc) &&& nI 7 = nI c) (h3' : st = 3 → v7 = nI fl) :
    F_179 G t (nI s) cc (nI 0) kk v v7 T = some ((), mpu (mpu (siI (rdT T s q) 56 s dd 2 (nI (n - dw st c))) s dd (n - dw st c) kk v) s dd (n - dw st c + 1) (nI 0) (nI fl).toInt64) := by
  have e1 := f_163 (G := G) (t := t) hs hq (by omega)
  have r56 : ∀ k', (rdT T s q).1 56 s dd k' = T.1 56 s dd k' := fun k' => by unfold rdT; rw [siI_ne _ _ _ (by omega), siI_ne _ _ _ (by omega), siI_ne _ _ _ (by omega)]
  have r54 : (rdT T s q).1 54 s 0 1 = nI (dd + 1) := by unfold rdT; rw [siI_ne _ _ _ (by omega), siI_ne _ _ _ (by omega), gI, if_neg (by omega)]; exact h3
  have r540 : (rdT T s q).1 54 s 0 0 = nI 1 := by unfold rdT; rw [siI_ne _ _ _ (by omega), siI_ne _ _ _ (by omega), siI_at]
  have r39 : ∀ k', (rdT T s q).1 39 0 0 k' = T.1 39 0 0 k' := fun k' => by unfold rdT; rw [siI_ne _ _ _ (by omega), siI_ne _ _ _ (by omega), siI_ne _ _ _ (by omega)]
  have r42 : ∀ k', (rdT T s q).1 42 0 0 k' = T.1 42 0 0 k' := fun k' => by unfold rdT; rw [siI_ne _ _ _ (by omega), siI_ne _ _ _ (by omega), siI_ne _ _ _ (by omega)]
  have p1 := fun (kk : Int32) (v : Int64) => e_157 (G := G) (t := t) (T := siI (rdT T s q) 56 s dd 2 (nI (n - dw st c))) (s := s) (d := dd) (n := n - dw st c) (k := kk) (v := v) hs hdd (by omega) (by rw [siI_ne _ _ _ (by omega)]; exact r54) (siI_at _ _ _ _ _ _)
  have p2 := fun (kk : Int32) (v : Int64) (x : Int64) => e_157 (G := G) (t := t) (T := mpu (siI (rdT T s q) 56 s dd 2 (nI (n - dw st c))) s dd (n - dw st c) kk v) (s := s) (d := dd) (n := n - dw st c + 1) (k := nI 0) (v := x) hs hdd (by omega) (by rw [(mpu_r _ _ _ _ _ _ 0).2.2.2, siI_ne _ _ _ (by omega)]; exact r54) (mpu_r _ _ _ _ _ _ 0).2.2.1
  have r5 : ∀ x, (mpu (mpu (siI (rdT T s q) 56 s dd 2 (nI (n - dw st c))) s dd (n - dw st c) kk v) s dd (n - dw st c + 1) (nI 0) x).1 54 s 0 0 = nI 1 := fun x => by
    rw [(mu_ag _ _ _ _ _ _ 54 s 0 (by omega)).1, (mu_ag _ _ _ _ _ _ 54 s 0 (by omega)).1, siI_ne _ _ _ (by omega)]
    exact r540
  unfold F_179
  rcases hst2 with rfl | rfl
  · have h7 := h3' rfl
    subst h7
    have edw : dw 3 c = 1 := rfl
    have p1 := p1 kk v
    have p2 := p2 kk v (nI fl).toInt64
    have r5 := r5 (nI fl).toInt64
    rw [edw] at hdw hdw2 p1 p2 r5 ⊢
    clear h4 h3' r39 r42 r540
    simp (disch := first | assumption | omega) only [gI, gI2, gL, gL1, gL2, jcLT, jcGE, jcGT, jcLE, jcEQ, jcNE, dEQ, nIt, lgNE, lgEQ, lgGE, lgLT, lgGT, lgLE, jinT, nIc, nI0, nI1, nIo, nIs, nI_add, nIm, nIn0, szl0, szl1, szl2, szl3, szl4, szl5, Nat.add_sub_assoc, Nat.add_zero, Nat.reduceSub, Nat.reduceAdd, Nat.reduceMul, Nat.reduceEqDiff,  jifT, bdS, sifN, sifS, omN, omS, cdI, x25, x26, x27, x28, x29, x30, x31, x32, xr0, xr1, xr2, xr3, xr4, xr5, if_pos, if_neg, true_and, and_true, false_and, and_false, and_self, Bool.and_true, if_true, if_false, reduceIte, cond_true, cond_false, not_true_eq_false, not_false_eq_true, x51, x52, x53, x54, x55, x56, x57, x58, x59, x60, x61, x62, x63, F_151, h3, hst, e1, r56, o2, p1, p2, F_179_183, F_178, r5]
  · obtain ⟨a1, a2, f, fi, pc, b1, b2, b3, b4, b5, b6⟩ := h4 rfl
    have edw : dw 4 c = 3 * c := rfl
    have p1 := p1 kk v
    have p2 := p2 kk v (nI fl).toInt64
    have r5 := r5 (nI fl).toInt64
    rw [edw] at hdw hdw2 p1 p2 r5 ⊢
    have q1 : fi + (pc + 1) - 1 = fi + pc := by omega
    have q3 : nI n - nI 3 * nI c = nI (n - 3 * c) := by rw [nIml, pk_sub hdw]
    clear h4 h3' r540
    simp (disch := first | assumption | omega) only [gI, gI2, gL, gL1, gL2, jcLT, jcGE, jcGT, jcLE, jcEQ, jcNE, dEQ, nIt, lgNE, lgEQ, lgGE, lgLT, lgGT, lgLE, jinT, nIc, nI0, nI1, nIo, nIs, nI_add, nIm, nIn0, szl0, szl1, szl2, szl3, szl4, szl5, Nat.add_sub_assoc, Nat.add_zero, Nat.reduceSub, Nat.reduceAdd, Nat.reduceMul, Nat.reduceEqDiff,  jifT, bdS, sifN, sifS, omN, omS, cdI, x25, x26, x27, x28, x29, x30, x31, x32, xr0, xr1, xr2, xr3, xr4, xr5, if_pos, if_neg, true_and, and_true, false_and, and_false, and_self, Bool.and_true, if_true, if_false, reduceIte, cond_true, cond_false, not_true_eq_false, not_false_eq_true, x51, x52, x53, x54, x55, x56, x57, x58, x59, x60, x61, x62, x63, F_151, h3, hst, e1, a1, r56, r39, r42, b1, b3, b4, q1, b6, o2, q3, F_179_98, F_179_108, p1, p2, F_179_125, F_179_183, F_178, r5]
end PAS
