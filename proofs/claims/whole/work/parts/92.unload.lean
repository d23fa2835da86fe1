/-! A sender that waits: what it sends is taken, it goes on. -/
section UNL
variable {φ : Nat → Nat} {D : Nat → Prop} {F N : Nat} {P : aP} {S S' T T' : sS} {A : aS} {r d p f pc n m e b k y : Nat} {G : jG} {t : Nat}
/-! where what is sent stands -/
def sdA (st c n k : Nat) : Nat := if st = 4 then n - 3 * c + 3 * k + 2 else n - 1
/-! the sender when it goes on: the class, from the store X with its value taken -/
def goS (X : sS) (pp n st c k : Nat) : sS := if st = 4 then rpush (rpush (siI X 29 pp 1 2 (nI (n - 3 * c))) pp 1 (n - 3 * c) 0 (nI 0)) pp 1 (n - 3 * c + 1) (nI k).toInt64 (nI 0) else siI X 29 pp 1 2 (nI (n - 2))
def goT (T : sS) (s dd q n st c k : Nat) : sS := if st = 4 then mpu (mpu (siI (rdT T s q) 56 s dd 2 (nI (n - 3 * c))) s dd (n - 3 * c) (nI 0) 0) s dd (n - 3 * c + 1) (nI 0) (nI k).toInt64 else siI (rdT T s q) 56 s dd 2 (nI (n - 2))
/-! the class's unload -/
set_option maxHeartbeats 4000000 in
set_option linter.unusedSimpArgs false in
theorem e98 {s st c pp dd q1 q2 ip ik wi : Nat} (hs : s < 16) (h3 : S.1 25 s 0 3 = nI (dd + 1)) (hdd : dd < 30) (hp : S.2.2.1.1 s dd = some pp) (hMp : S.2.2.2.1.1 pp = true) (hst : S.1 25 s 0 4 = nI st) (hst2 : st = 2 ∨ st = 4) (hc : st = 4 → S.1 25 s 0 6 = nI c ∧ 1 ≤ c ∧ c ≤ 4 ∧ 3 * c ≤ n ∧ n ≤ 14 + 3 * c ∧ k < c) (h2 : st = 2 → 2 ≤ n) (o1 : S.1 29 pp 1 2 = nI n) (hn : n ≤ 16) (e89 : F_89 G t (s, 0) (nI (y + 2)) (nI 1) (nI 0) S = some (nI k, S)) (hk : k < 16) (hI : srx S.2.2.2.1 ip ik = true) (hIw : S.1 29 ip ik 2 = nI wi) (hIw2 : wi < srl ik) (hne : ¬ (ip = pp ∧ ik = 1)) (ha : S.1 8 0 0 3 = nI q1) (hb : S.1 8 0 0 4 = nI q2) (ha1 : q1 < 16) (hb1 : q2 < 16) (hz : S.1 25 s 0 1 = nI s) :
    F_98 G t (s, 0) (nI (y + 2)) (ip, ik) S = some ((), luS (goS (rpush S ip ik wi (S.2.1 30 pp 1 (sdA st c n k)) (S.1 31 pp 1 (sdA st c n k))) pp n st c k) s q1 q2) := by
  have hbk := srl_le ik
  have rw1 : rwS S pp 1 n := ⟨xr1 hMp, o1, hn⟩
  have hat : sdA st c n k < n := by
    unfold sdA
    rcases hst2 with z | z
    · rw [if_neg (by omega)]; have := h2 z; omega
    · rw [if_pos z]; have := hc z; omega
  have e1 := f_26 (G := G) (t := t) rw1 hat
  have e2 := f_27 (G := G) (t := t) rw1 hat
  generalize hx : S.2.1 30 pp 1 (sdA st c n k) = x at e1
  generalize hg : S.1 31 pp 1 (sdA st c n k) = g at e2
  have e3 : F_78 G t (ip, ik) x g S = some ((), rpush S ip ik wi x g) := f_78 ⟨hI, hIw, by omega⟩ hIw2
  have agI : agr (fun t i j => 29 ≤ t ∧ t ≤ 31 ∧ i = ip ∧ j = ik) S (rpush S ip ik wi x g) := agr.i (agr.i (agr.l (agr.refl _ _) _ _ (by omega)) _ _ (by omega)) _ _ (by omega)
  have st' : (rpush S ip ik wi x g).1 25 s 0 4 = nI st := by rw [(agI 25 s 0 (by omega)).1]; exact hst
  have o1' : (rpush S ip ik wi x g).1 29 pp 1 2 = nI n := by rw [(agI 29 pp 1 (by omega)).1]; exact o1
  have e4 := f_91 (G := G) (t := t) (S := rpush S ip ik wi x g) (s := s) (st := st) (c := c) (pp := pp) (n := n) hs st' (by omega) (fun z => ⟨by rw [(agI 25 s 0 (by omega)).1]; exact (hc z).1, (hc z).2.2.1⟩) hMp o1' hn
  rcases hst2 with z | z
  · subst z
    have hn2 := h2 rfl
    have esd : sdA 2 c n k = n - 1 := rfl
    have edw : dw 2 c = 2 := rfl
    have ego : goS (rpush S ip ik wi x g) pp n 2 c k = siI (rpush S ip ik wi x g) 29 pp 1 2 (nI (n - 2)) := rfl
    rw [esd] at e1 e2
    rw [edw] at e4
    rw [ego]
    have e5 := f_30 (G := G) (t := t) (S := siI (rpush S ip ik wi x g) 29 pp 1 2 (nI (n - 2))) (s := s) (a := q1) (q := q2) hs (by rw [siI_ne _ _ _ (by omega), (agI 8 0 0 (by omega)).1]; exact ha) (by rw [siI_ne _ _ _ (by omega), (agI 8 0 0 (by omega)).1]; exact hb) ha1 hb1 (by rw [siI_ne _ _ _ (by omega), (agI 25 s 0 (by omega)).1]; exact hz)
    have e70 : F_98_70 G t (s, 0) (ip, ik) (pp, 1) (nI k) (nI 0) (nI (n - 1)) S = some ((), luS (siI (rpush S ip ik wi x g) 29 pp 1 2 (nI (n - 2))) s q1 q2) := by
      unfold F_98_70
      clear agI rw1 hc h2 hat esd ego e89
      simp (disch := first | assumption | omega) only [gI, gI2, gL, gL1, gL2, jcLT, jcGE, jcGT, jcLE, jcEQ, jcNE, dEQ, nIt, lgNE, lgEQ, lgGE, lgLT, lgGT, lgLE, jinT, nIc, nI0, nI1, nIo, nIs, nI_add, nIm, nIn0, szl0, szl1, szl2, szl3, szl4, szl5, Nat.add_sub_assoc, Nat.add_zero, Nat.reduceSub, Nat.reduceAdd, Nat.reduceMul, Nat.reduceEqDiff,  jifT, bdS, sifN, sifS, omN, omS, cdI, x25, x26, x27, x28, x29, x30, x31, x32, xr0, xr1, xr2, xr3, xr4, xr5, if_pos, if_neg, true_and, and_true, false_and, and_false, and_self, Bool.and_true, if_true, if_false, reduceIte, cond_true, cond_false, not_true_eq_false, not_false_eq_true, hMp, hI, e1, e2, e3, e4, F_98_118, e5]
    unfold F_98
    clear agI rw1 hc h2 hat esd ego e1 e2 e3 e4 e5
    simp (disch := first | assumption | omega) only [gI, gI2, gL, gL1, gL2, jcLT, jcGE, jcGT, jcLE, jcEQ, jcNE, dEQ, nIt, lgNE, lgEQ, lgGE, lgLT, lgGT, lgLE, jinT, nIc, nI0, nI1, nIo, nIs, nI_add, nIm, nIn0, szl0, szl1, szl2, szl3, szl4, szl5, Nat.add_sub_assoc, Nat.add_zero, Nat.reduceSub, Nat.reduceAdd, Nat.reduceMul, Nat.reduceEqDiff,  jifT, bdS, sifN, sifS, omN, omS, cdI, x25, x26, x27, x28, x29, x30, x31, x32, xr0, xr1, xr2, xr3, xr4, xr5, if_pos, if_neg, true_and, and_true, false_and, and_false, and_self, Bool.and_true, if_true, if_false, reduceIte, cond_true, cond_false, not_true_eq_false, not_false_eq_true, F_66, h3, hp, hMp, e89, hst, F_98_42, o1, e70]
  · subst z
    obtain ⟨c1, c2, c3, c4, c5, c6⟩ := hc rfl
    have esd : sdA 4 c n k = n - 3 * c + 3 * k + 2 := rfl
    have edw : dw 4 c = 3 * c := rfl
    have ego : goS (rpush S ip ik wi x g) pp n 4 c k = rpush (rpush (siI (rpush S ip ik wi x g) 29 pp 1 2 (nI (n - 3 * c))) pp 1 (n - 3 * c) 0 (nI 0)) pp 1 (n - 3 * c + 1) (nI k).toInt64 (nI 0) := rfl
    rw [esd] at e1 e2
    rw [edw] at e4
    rw [ego]
    have e6 : F_78 G t (pp, 1) 0 (nI 0) (siI (rpush S ip ik wi x g) 29 pp 1 2 (nI (n - 3 * c))) = some ((), rpush (siI (rpush S ip ik wi x g) 29 pp 1 2 (nI (n - 3 * c))) pp 1 (n - 3 * c) 0 (nI 0)) := f_78 ⟨xr1 hMp, siI_at _ _ _ _ _ _, show n - 3 * c ≤ 16 by omega⟩ (show n - 3 * c < 16 by omega)
    have e7 : F_78 G t (pp, 1) (nI k).toInt64 (nI 0) (rpush (siI (rpush S ip ik wi x g) 29 pp 1 2 (nI (n - 3 * c))) pp 1 (n - 3 * c) 0 (nI 0)) = some ((), rpush (rpush (siI (rpush S ip ik wi x g) 29 pp 1 2 (nI (n - 3 * c))) pp 1 (n - 3 * c) 0 (nI 0)) pp 1 (n - 3 * c + 1) (nI k).toInt64 (nI 0)) := f_78 ⟨xr1 hMp, siI_at _ _ _ _ _ _, show n - 3 * c + 1 ≤ 16 by omega⟩ (show n - 3 * c + 1 < 16 by omega)
    have agF : agr (fun t i j => 27 ≤ t ∧ t ≤ 31) S (rpush (rpush (siI (rpush S ip ik wi x g) 29 pp 1 2 (nI (n - 3 * c))) pp 1 (n - 3 * c) 0 (nI 0)) pp 1 (n - 3 * c + 1) (nI k).toInt64 (nI 0)) := (((agI.mono (fun t i j z => by omega)).trans ((dr_ag _ _ _).mono (fun t i j z => by omega))).trans ((rp_ag _ _ _ _ _).mono (fun t i j z => by omega))).trans ((rp_ag _ _ _ _ _).mono (fun t i j z => by omega))
    have e5 := f_30 (G := G) (t := t) (S := rpush (rpush (siI (rpush S ip ik wi x g) 29 pp 1 2 (nI (n - 3 * c))) pp 1 (n - 3 * c) 0 (nI 0)) pp 1 (n - 3 * c + 1) (nI k).toInt64 (nI 0)) (s := s) (a := q1) (q := q2) hs (by rw [(agF 8 0 0 (by omega)).1]; exact ha) (by rw [(agF 8 0 0 (by omega)).1]; exact hb) ha1 hb1 (by rw [(agF 25 s 0 (by omega)).1]; exact hz)
    have e8 : (rpush (siI (rpush S ip ik wi x g) 29 pp 1 2 (nI (n - 3 * c))) pp 1 (n - 3 * c) 0 (nI 0)).2.2 = S.2.2 := rfl
    have e70 : F_98_70 G t (s, 0) (ip, ik) (pp, 1) (nI k) (nI 1) (nI (n - 3 * c + 3 * k + 2)) S = some ((), luS (rpush (rpush (siI (rpush S ip ik wi x g) 29 pp 1 2 (nI (n - 3 * c))) pp 1 (n - 3 * c) 0 (nI 0)) pp 1 (n - 3 * c + 1) (nI k).toInt64 (nI 0)) s q1 q2) := by
      unfold F_98_70
      clear agI agF rw1 hc h2 hat esd ego e89
      have e9 : (rpush S ip ik wi x g).2.2 = S.2.2 := rfl
      simp (disch := first | assumption | omega) only [gI, gI2, gL, gL1, gL2, jcLT, jcGE, jcGT, jcLE, jcEQ, jcNE, dEQ, nIt, lgNE, lgEQ, lgGE, lgLT, lgGT, lgLE, jinT, nIc, nI0, nI1, nIo, nIs, nI_add, nIm, nIn0, szl0, szl1, szl2, szl3, szl4, szl5, Nat.add_sub_assoc, Nat.add_zero, Nat.reduceSub, Nat.reduceAdd, Nat.reduceMul, Nat.reduceEqDiff,  jifT, bdS, sifN, sifS, omN, omS, cdI, x25, x26, x27, x28, x29, x30, x31, x32, xr0, xr1, xr2, xr3, xr4, xr5, if_pos, if_neg, true_and, and_true, false_and, and_false, and_self, Bool.and_true, if_true, if_false, reduceIte, cond_true, cond_false, not_true_eq_false, not_false_eq_true, hMp, hI, e1, e2, e3, e4, e6, e7, e8, e9, F_98_118, e5]
    have q3 : nI n - nI 3 * nI (c - k) = nI (n - 3 * c + 3 * k) := by
      rw [nIml, pk_sub (by omega)]
      congr 1
      omega
    unfold F_98
    clear agI agF rw1 hc h2 hat esd ego e1 e2 e3 e4 e5 e6 e7 e8
    simp (disch := first | assumption | omega) only [gI, gI2, gL, gL1, gL2, jcLT, jcGE, jcGT, jcLE, jcEQ, jcNE, dEQ, nIt, lgNE, lgEQ, lgGE, lgLT, lgGT, lgLE, jinT, nIc, nI0, nI1, nIo, nIs, nI_add, nIm, nIn0, szl0, szl1, szl2, szl3, szl4, szl5, Nat.add_sub_assoc, Nat.add_zero, Nat.reduceSub, Nat.reduceAdd, Nat.reduceMul, Nat.reduceEqDiff,  jifT, bdS, sifN, sifS, omN, omS, cdI, x25, x26, x27, x28, x29, x30, x31, x32, xr0, xr1, xr2, xr3, xr4, xr5, if_pos, if_neg, true_and, and_true, false_and, and_false, and_self, Bool.and_true, if_true, if_false, reduceIte, cond_true, cond_false, not_true_eq_false, not_false_eq_true, F_66, h3, hp, hMp, e89, hst, F_98_42, F_88, o1, c1, q3, e70]
/-! the reference's gives -/
set_option maxHeartbeats 4000000 in
set_option linter.unusedSimpArgs false in
theorem e182 {s st c dd : Nat} {cc : Int32} (hs : s < 16) (hdd : dd < 30) (h3 : T.1 54 s 0 1 = nI (dd + 1)) (hst : T.1 54 s 0 0 = nI st) (hst2 : st = 2 ∨ st = 4) (o2 : T.1 56 s dd 2 = nI n) (hn : n ≤ 16) (h2 : st = 2 → 2 ≤ n) (h4 : st = 4 → F_173 G t (s, 0) cc (nI 1) T = some (nI k, T) ∧ k < c ∧ c ≤ 4 ∧ 3 * c ≤ n ∧ ∃ f fi pc, T.1 56 s dd 0 = nI f ∧ f < 32 ∧ T.1 39 0 0 f = nI fi ∧ T.1 56 s dd 1 = nI (pc + 1) ∧ fi + pc < 1500 ∧ T.1 42 0 0 (fi + pc) &&& nI 7 = nI c) :
    F_182 G t (nI s) cc T = some ((), siL (siI T 33 0 0 33 (T.1 58 s dd (sdA st c n k))) 33 0 0 34 (T.2.1 62 s dd (sdA st c n k))) := by
  unfold F_182
  rcases hst2 with z | z
  · subst z
    have hn2 := h2 rfl
    have esd : sdA 2 c n k = n - 1 := rfl
    rw [esd]
    clear h4 h2 esd
    simp (disch := first | assumption | omega) only [gI, gI2, gL, gL1, gL2, jcLT, jcGE, jcGT, jcLE, jcEQ, jcNE, dEQ, nIt, lgNE, lgEQ, lgGE, lgLT, lgGT, lgLE, jinT, nIc, nI0, nI1, nIo, nIs, nI_add, nIm, nIn0, szl0, szl1, szl2, szl3, szl4, szl5, Nat.add_sub_assoc, Nat.add_zero, Nat.reduceSub, Nat.reduceAdd, Nat.reduceMul, Nat.reduceEqDiff,  jifT, bdS, sifN, sifS, omN, omS, cdI, x25, x26, x27, x28, x29, x30, x31, x32, xr0, xr1, xr2, xr3, xr4, xr5, if_pos, if_neg, true_and, and_true, false_and, and_false, and_self, Bool.and_true, if_true, if_false, reduceIte, cond_true, cond_false, not_true_eq_false, not_false_eq_true, x51, x52, x53, x54, x55, x56, x57, x58, x59, x60, x61, x62, x63, F_151, h3, hst, o2]
  · subst z
    obtain ⟨a1, a2, a3, a4, f, fi, pc, b1, b2, b3, b4, b5, b6⟩ := h4 rfl
    have esd : sdA 4 c n k = n - 3 * c + 3 * k + 2 := rfl
    rw [esd]
    have q1 : fi + (pc + 1) - 1 = fi + pc := by omega
    have q3 : nI n - nI 3 * nI (c - k) = nI (n - 3 * c + 3 * k) := by
      rw [nIml, pk_sub (by omega)]
      congr 1
      omega
    clear h4 h2 esd
    simp (disch := first | assumption | omega) only [gI, gI2, gL, gL1, gL2, jcLT, jcGE, jcGT, jcLE, jcEQ, jcNE, dEQ, nIt, lgNE, lgEQ, lgGE, lgLT, lgGT, lgLE, jinT, nIc, nI0, nI1, nIo, nIs, nI_add, nIm, nIn0, szl0, szl1, szl2, szl3, szl4, szl5, Nat.add_sub_assoc, Nat.add_zero, Nat.reduceSub, Nat.reduceAdd, Nat.reduceMul, Nat.reduceEqDiff,  jifT, bdS, sifN, sifS, omN, omS, cdI, x25, x26, x27, x28, x29, x30, x31, x32, xr0, xr1, xr2, xr3, xr4, xr5, if_pos, if_neg, true_and, and_true, false_and, and_false, and_self, Bool.and_true, if_true, if_false, reduceIte, cond_true, cond_false, not_true_eq_false, not_false_eq_true, x51, x52, x53, x54, x55, x56, x57, x58, x59, x60, x61, x62, x63, F_151, h3, hst, o2, b1, b3, b4, q1, a1, b6, q3]
/-! the reference: a sender goes on -/
set_option maxHeartbeats 4000000 in
set_option linter.unusedSimpArgs false in
theorem e179s {s st c dd q : Nat} {cc : Int32} (hs : s < 16) (hdd : dd < 30) (h3 : T.1 54 s 0 1 = nI (dd + 1)) (hst : T.1 54 s 0 0 = nI st) (hst2 : st = 2 ∨ st = 4) (hq : T.1 33 0 0 15 = nI q) (hq2 : q < 16) (o2 : T.1 56 s dd 2 = nI n) (hn : n ≤ 16) (h2 : st = 2 → 2 ≤ n) (h4 : st = 4 → F_173 G t (s, 0) cc (nI 1) (rdT T s q) = some (nI k, rdT T s q) ∧ c ≤ 4 ∧ 3 * c ≤ n ∧ n ≤ 14 + 3 * c ∧ ∃ f fi pc, T.1 56 s dd 0 = nI f ∧ f < 32 ∧ T.1 39 0 0 f = nI fi ∧ T.1 56 s dd 1 = nI (pc + 1) ∧ fi + pc < 1500 ∧ T.1 42 0 0 (fi + pc) &&& nI 7 = nI c) :
    F_179 G t (nI s) cc (nI 1) (nI 0) 0 (nI 0) T = some ((), goT T s dd q n st c k) := by
  have e1 := f_163 (G := G) (t := t) hs hq (by omega)
  have r56 : ∀ k', (rdT T s q).1 56 s dd k' = T.1 56 s dd k' := fun k' => by unfold rdT; rw [siI_ne _ _ _ (by omega), siI_ne _ _ _ (by omega), siI_ne _ _ _ (by omega)]
  have r54 : (rdT T s q).1 54 s 0 1 = nI (dd + 1) := by unfold rdT; rw [siI_ne _ _ _ (by omega), siI_ne _ _ _ (by omega), gI, if_neg (by omega)]; exact h3
  have r540 : (rdT T s q).1 54 s 0 0 = nI 1 := by unfold rdT; rw [siI_ne _ _ _ (by omega), siI_ne _ _ _ (by omega), siI_at]
  have r39 : ∀ k', (rdT T s q).1 39 0 0 k' = T.1 39 0 0 k' := fun k' => by unfold rdT; rw [siI_ne _ _ _ (by omega), siI_ne _ _ _ (by omega), siI_ne _ _ _ (by omega)]
  have r42 : ∀ k', (rdT T s q).1 42 0 0 k' = T.1 42 0 0 k' := fun k' => by unfold rdT; rw [siI_ne _ _ _ (by omega), siI_ne _ _ _ (by omega), siI_ne _ _ _ (by omega)]
  unfold F_179
  rcases hst2 with z | z
  · subst z
    have hn2 := h2 rfl
    have ego : goT T s dd q n 2 c k = siI (rdT T s q) 56 s dd 2 (nI (n - 2)) := rfl
    rw [ego]
    have r5 : (siI (rdT T s q) 56 s dd 2 (nI (n - 2))).1 54 s 0 0 = nI 1 := by rw [siI_ne _ _ _ (by omega)]; exact r540
    clear h4 h2 r39 r42 ego
    simp (disch := first | assumption | omega) only [gI, gI2, gL, gL1, gL2, jcLT, jcGE, jcGT, jcLE, jcEQ, jcNE, dEQ, nIt, lgNE, lgEQ, lgGE, lgLT, lgGT, lgLE, jinT, nIc, nI0, nI1, nIo, nIs, nI_add, nIm, nIn0, szl0, szl1, szl2, szl3, szl4, szl5, Nat.add_sub_assoc, Nat.add_zero, Nat.reduceSub, Nat.reduceAdd, Nat.reduceMul, Nat.reduceEqDiff,  jifT, bdS, sifN, sifS, omN, omS, cdI, x25, x26, x27, x28, x29, x30, x31, x32, xr0, xr1, xr2, xr3, xr4, xr5, if_pos, if_neg, true_and, and_true, false_and, and_false, and_self, Bool.and_true, if_true, if_false, reduceIte, cond_true, cond_false, not_true_eq_false, not_false_eq_true, x51, x52, x53, x54, x55, x56, x57, x58, x59, x60, x61, x62, x63, F_151, h3, hst, e1, r56, o2, F_179_183, F_178, r540]
  · subst z
    obtain ⟨a1, a2, a3, a4, f, fi, pc, b1, b2, b3, b4, b5, b6⟩ := h4 rfl
    have ego : goT T s dd q n 4 c k = mpu (mpu (siI (rdT T s q) 56 s dd 2 (nI (n - 3 * c))) s dd (n - 3 * c) (nI 0) 0) s dd (n - 3 * c + 1) (nI 0) (nI k).toInt64 := rfl
    rw [ego]
    have p1 := e_157 (G := G) (t := t) (T := siI (rdT T s q) 56 s dd 2 (nI (n - 3 * c))) (s := s) (d := dd) (n := n - 3 * c) (k := nI 0) (v := 0) hs hdd (by omega) (by rw [siI_ne _ _ _ (by omega)]; exact r54) (siI_at _ _ _ _ _ _)
    have p2 := e_157 (G := G) (t := t) (T := mpu (siI (rdT T s q) 56 s dd 2 (nI (n - 3 * c))) s dd (n - 3 * c) (nI 0) 0) (s := s) (d := dd) (n := n - 3 * c + 1) (k := nI 0) (v := (nI k).toInt64) hs hdd (by omega) (by rw [(mpu_r _ _ _ _ _ _ 0).2.2.2, siI_ne _ _ _ (by omega)]; exact r54) (mpu_r _ _ _ _ _ _ 0).2.2.1
    have r5 : (mpu (mpu (siI (rdT T s q) 56 s dd 2 (nI (n - 3 * c))) s dd (n - 3 * c) (nI 0) 0) s dd (n - 3 * c + 1) (nI 0) (nI k).toInt64).1 54 s 0 0 = nI 1 := by
      rw [(mu_ag _ _ _ _ _ _ 54 s 0 (by omega)).1, (mu_ag _ _ _ _ _ _ 54 s 0 (by omega)).1, siI_ne _ _ _ (by omega)]
      exact r540
    have q1 : fi + (pc + 1) - 1 = fi + pc := by omega
    have q3 : nI n - nI 3 * nI c = nI (n - 3 * c) := by rw [nIml, pk_sub a3]
    clear h4 h2 r540 ego
    simp (disch := first | assumption | omega) only [gI, gI2, gL, gL1, gL2, jcLT, jcGE, jcGT, jcLE, jcEQ, jcNE, dEQ, nIt, lgNE, lgEQ, lgGE, lgLT, lgGT, lgLE, jinT, nIc, nI0, nI1, nIo, nIs, nI_add, nIm, nIn0, szl0, szl1, szl2, szl3, szl4, szl5, Nat.add_sub_assoc, Nat.add_zero, Nat.reduceSub, Nat.reduceAdd, Nat.reduceMul, Nat.reduceEqDiff,  jifT, bdS, sifN, sifS, omN, omS, cdI, x25, x26, x27, x28, x29, x30, x31, x32, xr0, xr1, xr2, xr3, xr4, xr5, if_pos, if_neg, true_and, and_true, false_and, and_false, and_self, Bool.and_true, if_true, if_false, reduceIte, cond_true, cond_false, not_true_eq_false, not_false_eq_true, x51, x52, x53, x54, x55, x56, x57, x58, x59, x60, x61, x62, x63, F_151, h3, hst, e1, a1, r56, r39, r42, b1, b3, b4, q1, b6, o2, q3, F_179_98, F_179_108, p1, p2, F_179_125, F_179_183, F_178, r5]
end UNL
