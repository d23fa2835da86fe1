/-! The turn, in all its cases. -/
section TRN2
variable {φ φ' : Nat → Nat} {D D' : Nat → Prop} {F N : Nat} {P : aP} {S S' T T' T1 : sS} {A : aS} {r s d p f pc n m e b k y g q o : Nat} {G : jG} {t j : Nat} {a : Int32}
theorem nI_ne1 {x : Nat} (h : x < 2147483648) : jcmp .ne (nI x) (-1) = true := decide_eq_true (fun z => by
  have := congrArg Int32.toInt z
  rw [nI_toInt h, show (-1 : Int32).toInt = -1 from by decide] at this
  omega)
/-! the run is over: h why -/
def endR (φ : Nat → Nat) (D : Nat → Prop) (F N : Nat) (P : aP) (S T : sS) (A : aS) : Prop := wR φ D F N P S T A ∧ gcR D S ∧ (whR F P ∧ whS F P) ∧ S.1 8 0 0 5 = -1 ∧ (S.1 23 0 0 7 = nI 2 ∨ S.1 23 0 0 7 = nI 3 ∨ S.1 23 0 0 7 = nI 4)
def aftR (φ : Nat → Nat) (D : Nat → Prop) (F N : Nat) (P : aP) (S T : sS) (A : aS) : Prop := (∃ r, runR φ D F N P S T A r) ∨ endR φ D F N P S T A
theorem wR.over {v : Nat} (w : wR φ D F N P S T A) (aS : agr (fun t i j => t = 8 ∨ t = 23) S S') (hX : S'.2.2 = S.2.2) (h8 : ∀ k, k ≠ 5 → k ≠ 6 → S'.1 8 0 0 k = S.1 8 0 0 k) (h23 : ∀ k, k ≠ 7 → S'.1 23 0 0 k = S.1 23 0 0 k) (aT : agr (fun t i j => t = 33) T T') (hT : ∀ k, k ≠ 16 → k ≠ 17 → k ≠ 20 → T'.1 33 0 0 k = T.1 33 0 0 k) (hL : T'.2 = T.2) (e5 : S'.1 8 0 0 5 = T'.1 33 0 0 16) (e6 : S'.1 8 0 0 6 = T'.1 33 0 0 20) (e7 : S'.1 23 0 0 7 = T'.1 33 0 0 17) : wR φ D F N P S' T' A ∧ hk S S' := by
  refine w.sca aS hX (fun k hk => h8 k (by omega) (by omega)) (fun k hk => h23 k (by omega)) aT (fun k hk => hT k (by omega) (by omega) (by omega)) (by rw [hL]) ?_
  obtain ⟨c1, c2, c3, c4, c5, c6, c7, c8⟩ := w.2.2.2.2.2.2.2.1
  refine ⟨e5, e6, ?_, ?_, ?_, ?_, ?_, e7⟩
  · rw [h8 7 (by omega) (by omega), hT 22 (by omega) (by omega) (by omega)]; exact c3
  · rw [(aS 11 0 0 (by omega)).1, hT 23 (by omega) (by omega) (by omega)]; exact c4
  · rw [h23 8 (by omega), hT 21 (by omega) (by omega) (by omega)]; exact c5
  · rw [h23 9 (by omega), hT 18 (by omega) (by omega) (by omega)]; exact c6
  · rw [h23 10 (by omega), hT 19 (by omega) (by omega) (by omega)]; exact c7
set_option maxHeartbeats 4000000 in
set_option linter.unusedSimpArgs false in
theorem pas_on (ht : 100 < t) (w : wR φ D F N P S T A) (gc : gcR D S) (tp : ∀ s, s < 16 → tpR P (A.2.1 s) (A.2.2.1 s)) (nd : A.2.2.2.1.Nodup) (me : ∀ s, s ∈ A.2.2.2.1 ↔ s < 16 ∧ A.1 s = 1) (h0 : A.1 0 ≠ 0 ∧ A.1 0 < 5) (wh : whR F P ∧ whS F P) (h7 : S.1 23 0 0 7 = nI 1) :
    ∃ S' T' A', F_117_99 G t S = some ((), S') ∧ F_190_185 G t T = some ((), T') ∧ S'.2.2 = S.2.2 ∧ A'.2.2.2.2 = A.2.2.2.2 ∧ aftR φ D F N P S' T' A' := by
  obtain ⟨a, b1, b2, b3, b4, b5, b6⟩ := id w.2.2.2.2.2.1
  rcases hQ : A.2.2.2.1 with _ | ⟨x, Q⟩
  · rw [hQ] at b3 b4
    have e1 := f_32z (G := G) (t := t) b3
    have e2 := f_189z (G := G) (t := t) b4
    obtain ⟨w2, k2⟩ := w.over (S' := siI (siI (siI S 8 0 0 6 (nI 0)) 8 0 0 5 (-1)) 23 0 0 7 (nI 4)) (T' := siI (siI (siI T 33 0 0 20 (nI 0)) 33 0 0 16 (-1)) 33 0 0 17 (nI 4)) (agr.i (agr.i (agr.i (agr.refl _ _) _ _ (by omega)) _ _ (by omega)) _ _ (by omega)) rfl (fun k h1 h2 => by simp [gI, h1, h2]) (fun k h1 => by simp [gI, h1]) (agr.i (agr.i (agr.i (agr.refl _ _) _ _ (by omega)) _ _ (by omega)) _ _ (by omega)) (fun k h1 h2 h3 => by simp [gI, h1, h2, h3]) rfl (by simp [gI]) (by simp [gI]) (by simp [gI]) (v := 0)
    refine ⟨siI (siI (siI S 8 0 0 6 (nI 0)) 8 0 0 5 (-1)) 23 0 0 7 (nI 4), siI (siI (siI T 33 0 0 20 (nI 0)) 33 0 0 16 (-1)) 33 0 0 17 (nI 4), A, ?_, ?_, rfl, rfl, Or.inr ⟨w2, gc.keep k2, wh, ?_, Or.inr (Or.inr ?_)⟩⟩
    · unfold F_117_99
      rw [e1, bdS]
      dsimp only
      rw [show (siI (siI S 8 0 0 6 (nI 0)) 8 0 0 5 (-1)).1 8 0 0 5 = -1 from siI_at _ _ _ _ _ _, show jcmp .ne (-1) (-1) = false from by decide, cond_false]
    · unfold F_190_185
      rw [e2, bdS]
    · simp [gI]
    · simp [gI]
  · have hx := (me x).mp (by rw [hQ]; exact List.mem_cons_self)
    have hb := b6 0 x (by rw [hQ]; rfl)
    rw [hQ, List.length_cons] at b3 b4 b5
    have e1 := f_32 (G := G) (t := t) (x := x) (L := Q.length) b3 (by omega) b1 b2 (by
      have := hb.1
      rw [Nat.add_zero, Nat.mod_eq_of_lt b2] at this
      exact this)
    have e2 := f_189 (G := G) (t := t) (x := x) (L := Q.length) ht b4 (by omega) hb.2
    obtain ⟨w2, k2⟩ := w.nxt hQ b1 b2
    rw [hQ] at nd me
    obtain ⟨n1, n2⟩ := List.nodup_cons.mp nd
    have h5 : (nxS S x a Q.length).1 8 0 0 5 = nI x := by
      unfold nxS
      simp [gI]
    refine ⟨nxS S x a Q.length, nxT T x Q.length, (A.1, A.2.1, A.2.2.1, Q, A.2.2.2.2), ?_, ?_, rfl, rfl, Or.inl ⟨x, w2, gc.keep k2, ⟨fun s hs _ => tp s hs, n2, fun s => ?_, h0.1⟩, wh, hx.1, hx.2, h5, ?_, h0.2⟩⟩
    · unfold F_117_99
      rw [e1, bdS]
      dsimp only
      rw [h5]
      rw [nI_ne1 (by have := hx.1; omega), cond_true]
    · unfold F_190_185
      rw [e2, bdS]
    · show s ∈ Q ↔ s < 16 ∧ A.1 s = 1 ∧ s ≠ x
      have := me s
      rw [List.mem_cons] at this
      constructor
      · intro z
        have y := this.mp (Or.inr z)
        exact ⟨y.1, y.2, fun c => n1 (c ▸ z)⟩
      · rintro ⟨z1, z2, z3⟩
        rcases this.mpr ⟨z1, z2⟩ with c | c
        · exact absurd c z3
        · exact c
    · unfold nxS
      rw [siI_ne _ _ _ (by omega), siI_ne _ _ _ (by omega), siI_ne _ _ _ (by omega), siI_ne _ _ _ (by omega)]
      exact h7
def mtl (G : jG) (t r : Nat) (T : sS) : Option (Unit × sS) := jif (jin (nI 0) 16) (jif (sex T.2.2.2.1 54 ((nI 0).toNatClampNeg) 0) (bif jcmp .lt (T.1 54 ((nI 0).toNatClampNeg) 0 0) (nI 5) then (jif (sex T.2.2.2.1 54 r 0) (bif jcmp .ne (T.1 54 r 0 0) (nI 1) then (F_190_154 G t (r, 0) T) else (bif jcmp .ne (T.1 33 0 0 38) 0 then (F_190_154 G t (r, 0) T) else (bif jcmp .ge (T.1 33 0 0 20) (T.1 33 0 0 18) then (F_190_154 G t (r, 0) T) else (some ((), T)))))) else (jif (jin (nI 0) 16) (bif jcmp .ne (T.1 54 ((nI 0).toNatClampNeg) 0 0) (nI 5) then (F_190_118 G t (nI 3) T) else (F_190_118 G t (nI 2) T)))))
/-! the turn is passed -/
set_option maxHeartbeats 4000000 in
set_option linter.unusedSimpArgs false in
theorem pas_by (ht : 100 < t) (w : wR φ D F N P S T A) (gc : gcR D S) (iq : iqR P A r True) (wh : whR F P ∧ whS F P) (hr : r < 16) (h5 : S.1 8 0 0 5 = nI r) (h7 : S.1 23 0 0 7 = nI 1) (h0 : A.1 0 < 5) :
    ∃ S' T' A', F_117_83 G t (r, 0) S = some ((), S') ∧ F_190_154 G t (r, 0) T = some ((), T') ∧ S'.2.2 = S.2.2 ∧ A'.2.2.2.2 = A.2.2.2.2 ∧ aftR φ D F N P S' T' A' := by
  have st := w.2.1 r hr
  obtain ⟨s1, ⟨s2, s2', s3⟩, _, s4, _⟩ := id st
  obtain ⟨q1, q2, q3, q9⟩ := iq
  by_cases c : A.1 r = 1
  · obtain ⟨a, b1, b2, b3, b4, b5, b6⟩ := id w.2.2.2.2.2.1
    have hl : A.2.2.2.1.length < 16 := by
      have := nd_len 16 (r :: A.2.2.2.1) (List.nodup_cons.mpr ⟨fun c => ((q3 r).mp c).2.2 rfl, q2⟩) (fun y hy => by
        rcases List.mem_cons.mp hy with rfl | hy
        · exact hr
        · exact ((q3 y).mp hy).1)
      rw [List.length_cons] at this
      omega
    have e30 := f_30 (G := G) (t := t) hr b1 b3 b2 hl s1
    obtain ⟨w2, k2⟩ := w.line hr (by
      have : A.2.1 r ≠ 0 := fun z => by
        have := s4.mp z
        omega
      omega) (by omega) b1 b2 hl
    have eT : rdT T r A.2.2.2.1.length = siI (siI T 45 0 0 A.2.2.2.1.length (T.1 33 0 0 16)) 33 0 0 15 (nI (A.2.2.2.1.length + 1)) := by
      unfold rdT
      rw [siI_id T 54 r 0 0 (by rw [s2', c]), ← w.2.2.2.2.2.2.2.1.1, h5]
    obtain ⟨S', T', A', x1, x2, x3, x4, x5⟩ := pas_on (G := G) ht w2 (gc.keep k2) (fun s hs => q1 s hs (Or.inr trivial)) (by
      show (A.2.2.2.1 ++ [r]).Nodup
      rw [List.nodup_append]
      refine ⟨q2, List.nodup_cons.mpr ⟨List.not_mem_nil, List.nodup_nil⟩, fun a ha b hb => ?_⟩
      rw [List.mem_singleton] at hb
      subst hb
      intro c'
      subst c'
      exact ((q3 a).mp ha).2.2 rfl) (fun s => by
      show s ∈ A.2.2.2.1 ++ [r] ↔ s < 16 ∧ va_up A.1 r 1 s = 1
      rw [List.mem_append, List.mem_singleton]
      by_cases c' : s = r
      · subst c'
        rw [va_up_self]
        exact ⟨fun _ => ⟨hr, rfl⟩, fun _ => Or.inr rfl⟩
      · rw [va_up_ne _ _ c']
        exact ⟨fun z => z.elim (fun z => ⟨((q3 s).mp z).1, ((q3 s).mp z).2.1⟩) (fun z => absurd z c'), fun z => Or.inl ((q3 s).mpr ⟨z.1, z.2, c'⟩)⟩) (by
      show va_up A.1 r 1 0 ≠ 0 ∧ va_up A.1 r 1 0 < 5
      by_cases c' : 0 = r
      · subst c'
        rw [va_up_self]
        omega
      · rw [va_up_ne _ _ c']
        exact ⟨q9, h0⟩) wh (by
      unfold luS
      rw [siI_ne _ _ _ (by omega), siI_ne _ _ _ (by omega), siI_ne _ _ _ (by omega)]
      exact h7)
    refine ⟨S', T', A', ?_, ?_, x3.trans rfl, x4, x5⟩
    · rw [c] at s2
      clear w gc q1 q3 wh st w2 k2 x5 b6
      unfold F_117_83
      simp (disch := first | assumption | omega) only [gI, gI2, gL, gL1, gL2, jcLT, jcGE, jcGT, jcLE, jcEQ, jcNE, dEQ, nIt, lgNE, lgEQ, lgGE, lgLT, lgGT, lgLE, jinT, nIc, nI0, nI1, nIo, nIs, nI_add, nIm, nIn0, szl0, szl1, szl2, szl3, szl4, szl5, Nat.add_sub_assoc, Nat.add_zero, Nat.reduceSub, Nat.reduceAdd, Nat.reduceMul, Nat.reduceEqDiff,  jifT, bdS, sifN, sifS, omN, omS, cdI, x25, x26, x27, x28, x29, x30, x31, x32, xr0, xr1, xr2, xr3, xr4, xr5, if_pos, if_neg, true_and, and_true, false_and, and_false, and_self, Bool.and_true, if_true, if_false, reduceIte, cond_true, cond_false, not_true_eq_false, not_false_eq_true, s2, e30]
      exact x1
    · rw [eT] at x2
      rw [c] at s2'
      clear w gc q1 q3 wh st w2 k2 x5 b6
      unfold F_190_154
      simp (disch := first | assumption | omega) only [gI, gI2, gL, gL1, gL2, jcLT, jcGE, jcGT, jcLE, jcEQ, jcNE, dEQ, nIt, lgNE, lgEQ, lgGE, lgLT, lgGT, lgLE, jinT, nIc, nI0, nI1, nIo, nIs, nI_add, nIm, nIn0, szl0, szl1, szl2, szl3, szl4, szl5, Nat.add_sub_assoc, Nat.add_zero, Nat.reduceSub, Nat.reduceAdd, Nat.reduceMul, Nat.reduceEqDiff,  jifT, bdS, sifN, sifS, omN, omS, cdI, x25, x26, x27, x28, x29, x30, x31, x32, xr0, xr1, xr2, xr3, xr4, xr5, if_pos, if_neg, true_and, and_true, false_and, and_false, and_self, Bool.and_true, if_true, if_false, reduceIte, cond_true, cond_false, not_true_eq_false, not_false_eq_true, x51, x52, x53, x54, x55, x56, x57, x58, x59, x60, x61, x62, x63, s2', b4]
      exact x2
  · obtain ⟨S', T', A', x1, x2, x3, x4, x5⟩ := pas_on (G := G) ht w gc (fun s hs => q1 s hs (Or.inr trivial)) q2 (fun s => by
      rw [q3]
      exact ⟨fun z => ⟨z.1, z.2.1⟩, fun z => ⟨z.1, z.2, fun c' => c (c' ▸ z.2)⟩⟩) ⟨q9, h0⟩ wh h7
    refine ⟨S', T', A', ?_, ?_, x3, x4, x5⟩
    · clear w gc q1 q3 wh st x5
      unfold F_117_83
      simp (disch := first | assumption | omega) only [gI, gI2, gL, gL1, gL2, jcLT, jcGE, jcGT, jcLE, jcEQ, jcNE, dEQ, nIt, lgNE, lgEQ, lgGE, lgLT, lgGT, lgLE, jinT, nIc, nI0, nI1, nIo, nIs, nI_add, nIm, nIn0, szl0, szl1, szl2, szl3, szl4, szl5, Nat.add_sub_assoc, Nat.add_zero, Nat.reduceSub, Nat.reduceAdd, Nat.reduceMul, Nat.reduceEqDiff,  jifT, bdS, sifN, sifS, omN, omS, cdI, x25, x26, x27, x28, x29, x30, x31, x32, xr0, xr1, xr2, xr3, xr4, xr5, if_pos, if_neg, true_and, and_true, false_and, and_false, and_self, Bool.and_true, if_true, if_false, reduceIte, cond_true, cond_false, not_true_eq_false, not_false_eq_true, s2]
      exact x1
    · clear w gc q1 q3 wh st x5
      unfold F_190_154
      simp (disch := first | assumption | omega) only [gI, gI2, gL, gL1, gL2, jcLT, jcGE, jcGT, jcLE, jcEQ, jcNE, dEQ, nIt, lgNE, lgEQ, lgGE, lgLT, lgGT, lgLE, jinT, nIc, nI0, nI1, nIo, nIs, nI_add, nIm, nIn0, szl0, szl1, szl2, szl3, szl4, szl5, Nat.add_sub_assoc, Nat.add_zero, Nat.reduceSub, Nat.reduceAdd, Nat.reduceMul, Nat.reduceEqDiff,  jifT, bdS, sifN, sifS, omN, omS, cdI, x25, x26, x27, x28, x29, x30, x31, x32, xr0, xr1, xr2, xr3, xr4, xr5, if_pos, if_neg, true_and, and_true, false_and, and_false, and_self, Bool.and_true, if_true, if_false, reduceIte, cond_true, cond_false, not_true_eq_false, not_false_eq_true, x51, x52, x53, x54, x55, x56, x57, x58, x59, x60, x61, x62, x63, s2']
      exact x2
set_option maxHeartbeats 4000000 in
set_option linter.unusedSimpArgs false in
theorem turn (ht : 100 < t) (w : wR φ D F N P S T A) (gc : gcR D S) (iq : iqR P A r True) (wh : whR F P ∧ whS F P) (hr : r < 16) (hy : y ≤ 1) (h38 : T.1 33 0 0 38 = nI y) (h5 : S.1 8 0 0 5 = nI r) (h7 : S.1 23 0 0 7 = nI 1) :
    ∃ S' T' A', F_117 G t (r, 0) (nI y) S = some ((), S') ∧ mtl G t r T = some ((), T') ∧ S'.2.2 = S.2.2 ∧ A'.2.2.2.2 = A.2.2.2.2 ∧ aftR φ D F N P S' T' A' := by
  obtain ⟨_, ⟨z2, z2', z3⟩, _⟩ := id (w.2.1 0 (by omega))
  obtain ⟨_, ⟨s2, s2', s3⟩, _⟩ := id (w.2.1 r hr)
  have q9 := iq.2.2.2
  have sc := w.2.2.2.2.2.2.2.1
  have c6 := sc.2.1
  have c9 := sc.2.2.2.2.2.1
  by_cases c : A.1 0 < 5
  · have e22 : F_22 G t (0, 0) S = some (nI 1, S) := by
      clear w gc iq wh sc
      unfold F_22
      simp (disch := first | assumption | omega) only [gI, gI2, gL, gL1, gL2, jcLT, jcGE, jcGT, jcLE, jcEQ, jcNE, dEQ, nIt, lgNE, lgEQ, lgGE, lgLT, lgGT, lgLE, jinT, nIc, nI0, nI1, nIo, nIs, nI_add, nIm, nIn0, szl0, szl1, szl2, szl3, szl4, szl5, Nat.add_sub_assoc, Nat.add_zero, Nat.reduceSub, Nat.reduceAdd, Nat.reduceMul, Nat.reduceEqDiff,  jifT, bdS, sifN, sifS, omN, omS, cdI, x25, x26, x27, x28, x29, x30, x31, x32, xr0, xr1, xr2, xr3, xr4, xr5, if_pos, if_neg, true_and, and_true, false_and, and_false, and_self, Bool.and_true, if_true, if_false, reduceIte, cond_true, cond_false, not_true_eq_false, not_false_eq_true, z2]
    obtain ⟨S', T', A', x1, x2, x3, x4, x5⟩ := pas_by (G := G) ht w gc iq wh hr h5 h7 c
    by_cases stay : A.1 r = 1 ∧ y = 0 ∧ S.1 8 0 0 6 < S.1 23 0 0 9
    · obtain ⟨a1, a2, a3⟩ := stay
      subst a2
      rw [a1] at s2 s2'
      have j1 : jcmp .lt (S.1 8 0 0 6) (S.1 23 0 0 9) = true := decide_eq_true a3
      have j2 : jcmp .ge (T.1 33 0 0 20) (T.1 33 0 0 18) = false := by
        rw [← c6, ← c9]
        exact decide_eq_false (Int32.not_le.mpr a3)
      refine ⟨S, T, A, ?_, ?_, rfl, rfl, Or.inl ⟨r, w, gc, iq, wh, hr, a1, h5, h7, c⟩⟩
      · clear w gc iq wh sc x1 x2 x5
        unfold F_117
        simp (disch := first | assumption | omega) only [gI, gI2, gL, gL1, gL2, jcLT, jcGE, jcGT, jcLE, jcEQ, jcNE, dEQ, nIt, lgNE, lgEQ, lgGE, lgLT, lgGT, lgLE, jinT, nIc, nI0, nI1, nIo, nIs, nI_add, nIm, nIn0, szl0, szl1, szl2, szl3, szl4, szl5, Nat.add_sub_assoc, Nat.add_zero, Nat.reduceSub, Nat.reduceAdd, Nat.reduceMul, Nat.reduceEqDiff,  jifT, bdS, sifN, sifS, omN, omS, cdI, x25, x26, x27, x28, x29, x30, x31, x32, xr0, xr1, xr2, xr3, xr4, xr5, if_pos, if_neg, true_and, and_true, false_and, and_false, and_self, Bool.and_true, if_true, if_false, reduceIte, cond_true, cond_false, not_true_eq_false, not_false_eq_true, e22, j1, s2, F_117_67]
      · clear w gc iq wh sc x1 x2 x5 e22
        unfold mtl
        simp (disch := first | assumption | omega) only [gI, gI2, gL, gL1, gL2, jcLT, jcGE, jcGT, jcLE, jcEQ, jcNE, dEQ, nIt, lgNE, lgEQ, lgGE, lgLT, lgGT, lgLE, jinT, nIc, nI0, nI1, nIo, nIs, nI_add, nIm, nIn0, szl0, szl1, szl2, szl3, szl4, szl5, Nat.add_sub_assoc, Nat.add_zero, Nat.reduceSub, Nat.reduceAdd, Nat.reduceMul, Nat.reduceEqDiff,  jifT, bdS, sifN, sifS, omN, omS, cdI, x25, x26, x27, x28, x29, x30, x31, x32, xr0, xr1, xr2, xr3, xr4, xr5, if_pos, if_neg, true_and, and_true, false_and, and_false, and_self, Bool.and_true, if_true, if_false, reduceIte, cond_true, cond_false, not_true_eq_false, not_false_eq_true, x51, x52, x53, x54, x55, x56, x57, x58, x59, x60, x61, x62, x63, z2', s2', h38, j2]
    · refine ⟨S', T', A', ?_, ?_, x3, x4, x5⟩
      · have e67 : ∀ w0 : Nat, w0 ≤ 1 → (A.1 r ≠ 1 ∨ w0 = 1) → F_117_67 G t (r, 0) (nI w0) S = some ((), S') := fun w0 h1 h2 => by
          clear w gc iq wh sc x2 x5 e22
          unfold F_117_67
          by_cases cr : A.1 r = 1
          · have : w0 = 1 := by omega
            subst this
            rw [cr] at s2
            simp (disch := first | assumption | omega) only [gI, gI2, gL, gL1, gL2, jcLT, jcGE, jcGT, jcLE, jcEQ, jcNE, dEQ, nIt, lgNE, lgEQ, lgGE, lgLT, lgGT, lgLE, jinT, nIc, nI0, nI1, nIo, nIs, nI_add, nIm, nIn0, szl0, szl1, szl2, szl3, szl4, szl5, Nat.add_sub_assoc, Nat.add_zero, Nat.reduceSub, Nat.reduceAdd, Nat.reduceMul, Nat.reduceEqDiff,  jifT, bdS, sifN, sifS, omN, omS, cdI, x25, x26, x27, x28, x29, x30, x31, x32, xr0, xr1, xr2, xr3, xr4, xr5, if_pos, if_neg, true_and, and_true, false_and, and_false, and_self, Bool.and_true, if_true, if_false, reduceIte, cond_true, cond_false, not_true_eq_false, not_false_eq_true, s2]
            exact x1
          · simp (disch := first | assumption | omega) only [gI, gI2, gL, gL1, gL2, jcLT, jcGE, jcGT, jcLE, jcEQ, jcNE, dEQ, nIt, lgNE, lgEQ, lgGE, lgLT, lgGT, lgLE, jinT, nIc, nI0, nI1, nIo, nIs, nI_add, nIm, nIn0, szl0, szl1, szl2, szl3, szl4, szl5, Nat.add_sub_assoc, Nat.add_zero, Nat.reduceSub, Nat.reduceAdd, Nat.reduceMul, Nat.reduceEqDiff,  jifT, bdS, sifN, sifS, omN, omS, cdI, x25, x26, x27, x28, x29, x30, x31, x32, xr0, xr1, xr2, xr3, xr4, xr5, if_pos, if_neg, true_and, and_true, false_and, and_false, and_self, Bool.and_true, if_true, if_false, reduceIte, cond_true, cond_false, not_true_eq_false, not_false_eq_true, s2]
            exact x1
        have e62 : F_117_62 G t (r, 0) S = some ((), S') := e67 1 (by omega) (Or.inr rfl)
        by_cases cy : y = 0
        · subst cy
          by_cases c3 : S.1 8 0 0 6 < S.1 23 0 0 9
          · have j1 : jcmp .lt (S.1 8 0 0 6) (S.1 23 0 0 9) = true := decide_eq_true c3
            have cr : A.1 r ≠ 1 := fun z => stay ⟨z, rfl, c3⟩
            have e := e67 0 (by omega) (Or.inl cr)
            clear w gc iq wh sc x1 x2 x5 e67
            unfold F_117
            simp (disch := first | assumption | omega) only [gI, gI2, gL, gL1, gL2, jcLT, jcGE, jcGT, jcLE, jcEQ, jcNE, dEQ, nIt, lgNE, lgEQ, lgGE, lgLT, lgGT, lgLE, jinT, nIc, nI0, nI1, nIo, nIs, nI_add, nIm, nIn0, szl0, szl1, szl2, szl3, szl4, szl5, Nat.add_sub_assoc, Nat.add_zero, Nat.reduceSub, Nat.reduceAdd, Nat.reduceMul, Nat.reduceEqDiff,  jifT, bdS, sifN, sifS, omN, omS, cdI, x25, x26, x27, x28, x29, x30, x31, x32, xr0, xr1, xr2, xr3, xr4, xr5, if_pos, if_neg, true_and, and_true, false_and, and_false, and_self, Bool.and_true, if_true, if_false, reduceIte, cond_true, cond_false, not_true_eq_false, not_false_eq_true, e22, j1, e]
          · have j1 : jcmp .lt (S.1 8 0 0 6) (S.1 23 0 0 9) = false := decide_eq_false c3
            clear w gc iq wh sc x1 x2 x5 e67
            unfold F_117
            simp (disch := first | assumption | omega) only [gI, gI2, gL, gL1, gL2, jcLT, jcGE, jcGT, jcLE, jcEQ, jcNE, dEQ, nIt, lgNE, lgEQ, lgGE, lgLT, lgGT, lgLE, jinT, nIc, nI0, nI1, nIo, nIs, nI_add, nIm, nIn0, szl0, szl1, szl2, szl3, szl4, szl5, Nat.add_sub_assoc, Nat.add_zero, Nat.reduceSub, Nat.reduceAdd, Nat.reduceMul, Nat.reduceEqDiff,  jifT, bdS, sifN, sifS, omN, omS, cdI, x25, x26, x27, x28, x29, x30, x31, x32, xr0, xr1, xr2, xr3, xr4, xr5, if_pos, if_neg, true_and, and_true, false_and, and_false, and_self, Bool.and_true, if_true, if_false, reduceIte, cond_true, cond_false, not_true_eq_false, not_false_eq_true, e22, j1, e62]
        · have : y = 1 := by omega
          subst this
          clear w gc iq wh sc x1 x2 x5 e67
          unfold F_117
          simp (disch := first | assumption | omega) only [gI, gI2, gL, gL1, gL2, jcLT, jcGE, jcGT, jcLE, jcEQ, jcNE, dEQ, nIt, lgNE, lgEQ, lgGE, lgLT, lgGT, lgLE, jinT, nIc, nI0, nI1, nIo, nIs, nI_add, nIm, nIn0, szl0, szl1, szl2, szl3, szl4, szl5, Nat.add_sub_assoc, Nat.add_zero, Nat.reduceSub, Nat.reduceAdd, Nat.reduceMul, Nat.reduceEqDiff,  jifT, bdS, sifN, sifS, omN, omS, cdI, x25, x26, x27, x28, x29, x30, x31, x32, xr0, xr1, xr2, xr3, xr4, xr5, if_pos, if_neg, true_and, and_true, false_and, and_false, and_self, Bool.and_true, if_true, if_false, reduceIte, cond_true, cond_false, not_true_eq_false, not_false_eq_true, e22, e62]
      · by_cases cr : A.1 r = 1
        · rw [cr] at s2'
          by_cases cy : y = 0
          · subst cy
            have j2 : jcmp .ge (T.1 33 0 0 20) (T.1 33 0 0 18) = true := by
              rw [← c6, ← c9]
              exact decide_eq_true (Int32.not_lt.mp (fun z => stay ⟨cr, rfl, z⟩))
            clear w gc iq wh sc x1 x5 e22
            unfold mtl
            simp (disch := first | assumption | omega) only [gI, gI2, gL, gL1, gL2, jcLT, jcGE, jcGT, jcLE, jcEQ, jcNE, dEQ, nIt, lgNE, lgEQ, lgGE, lgLT, lgGT, lgLE, jinT, nIc, nI0, nI1, nIo, nIs, nI_add, nIm, nIn0, szl0, szl1, szl2, szl3, szl4, szl5, Nat.add_sub_assoc, Nat.add_zero, Nat.reduceSub, Nat.reduceAdd, Nat.reduceMul, Nat.reduceEqDiff,  jifT, bdS, sifN, sifS, omN, omS, cdI, x25, x26, x27, x28, x29, x30, x31, x32, xr0, xr1, xr2, xr3, xr4, xr5, if_pos, if_neg, true_and, and_true, false_and, and_false, and_self, Bool.and_true, if_true, if_false, reduceIte, cond_true, cond_false, not_true_eq_false, not_false_eq_true, x51, x52, x53, x54, x55, x56, x57, x58, x59, x60, x61, x62, x63, z2', s2', h38, j2, x2]
          · have : y = 1 := by omega
            subst this
            clear w gc iq wh sc x1 x5 e22
            unfold mtl
            simp (disch := first | assumption | omega) only [gI, gI2, gL, gL1, gL2, jcLT, jcGE, jcGT, jcLE, jcEQ, jcNE, dEQ, nIt, lgNE, lgEQ, lgGE, lgLT, lgGT, lgLE, jinT, nIc, nI0, nI1, nIo, nIs, nI_add, nIm, nIn0, szl0, szl1, szl2, szl3, szl4, szl5, Nat.add_sub_assoc, Nat.add_zero, Nat.reduceSub, Nat.reduceAdd, Nat.reduceMul, Nat.reduceEqDiff,  jifT, bdS, sifN, sifS, omN, omS, cdI, x25, x26, x27, x28, x29, x30, x31, x32, xr0, xr1, xr2, xr3, xr4, xr5, if_pos, if_neg, true_and, and_true, false_and, and_false, and_self, Bool.and_true, if_true, if_false, reduceIte, cond_true, cond_false, not_true_eq_false, not_false_eq_true, x51, x52, x53, x54, x55, x56, x57, x58, x59, x60, x61, x62, x63, z2', s2', h38, x2]
        · clear w gc iq wh sc x1 x5 e22
          unfold mtl
          simp (disch := first | assumption | omega) only [gI, gI2, gL, gL1, gL2, jcLT, jcGE, jcGT, jcLE, jcEQ, jcNE, dEQ, nIt, lgNE, lgEQ, lgGE, lgLT, lgGT, lgLE, jinT, nIc, nI0, nI1, nIo, nIs, nI_add, nIm, nIn0, szl0, szl1, szl2, szl3, szl4, szl5, Nat.add_sub_assoc, Nat.add_zero, Nat.reduceSub, Nat.reduceAdd, Nat.reduceMul, Nat.reduceEqDiff,  jifT, bdS, sifN, sifS, omN, omS, cdI, x25, x26, x27, x28, x29, x30, x31, x32, xr0, xr1, xr2, xr3, xr4, xr5, if_pos, if_neg, true_and, and_true, false_and, and_false, and_self, Bool.and_true, if_true, if_false, reduceIte, cond_true, cond_false, not_true_eq_false, not_false_eq_true, x51, x52, x53, x54, x55, x56, x57, x58, x59, x60, x61, x62, x63, z2', s2', h38, x2]
  · have hv : A.1 0 = 5 ∨ A.1 0 = 6 := by omega
    have e22 : F_22 G t (0, 0) S = some (nI 0, S) := by
      clear w gc iq wh sc
      unfold F_22
      rcases hv with z | z
      · rw [z] at z2
        simp (disch := first | assumption | omega) only [gI, gI2, gL, gL1, gL2, jcLT, jcGE, jcGT, jcLE, jcEQ, jcNE, dEQ, nIt, lgNE, lgEQ, lgGE, lgLT, lgGT, lgLE, jinT, nIc, nI0, nI1, nIo, nIs, nI_add, nIm, nIn0, szl0, szl1, szl2, szl3, szl4, szl5, Nat.add_sub_assoc, Nat.add_zero, Nat.reduceSub, Nat.reduceAdd, Nat.reduceMul, Nat.reduceEqDiff,  jifT, bdS, sifN, sifS, omN, omS, cdI, x25, x26, x27, x28, x29, x30, x31, x32, xr0, xr1, xr2, xr3, xr4, xr5, if_pos, if_neg, true_and, and_true, false_and, and_false, and_self, Bool.and_true, if_true, if_false, reduceIte, cond_true, cond_false, not_true_eq_false, not_false_eq_true, z2]
      · rw [z] at z2
        simp (disch := first | assumption | omega) only [gI, gI2, gL, gL1, gL2, jcLT, jcGE, jcGT, jcLE, jcEQ, jcNE, dEQ, nIt, lgNE, lgEQ, lgGE, lgLT, lgGT, lgLE, jinT, nIc, nI0, nI1, nIo, nIs, nI_add, nIm, nIn0, szl0, szl1, szl2, szl3, szl4, szl5, Nat.add_sub_assoc, Nat.add_zero, Nat.reduceSub, Nat.reduceAdd, Nat.reduceMul, Nat.reduceEqDiff,  jifT, bdS, sifN, sifS, omN, omS, cdI, x25, x26, x27, x28, x29, x30, x31, x32, xr0, xr1, xr2, xr3, xr4, xr5, if_pos, if_neg, true_and, and_true, false_and, and_false, and_self, Bool.and_true, if_true, if_false, reduceIte, cond_true, cond_false, not_true_eq_false, not_false_eq_true, z2]
    have W : ∀ v : Nat, wR φ D F N P (siI (siI S 23 0 0 7 (nI v)) 8 0 0 5 (-1)) (siI (siI T 33 0 0 17 (nI v)) 33 0 0 16 (-1)) A ∧ hk S (siI (siI S 23 0 0 7 (nI v)) 8 0 0 5 (-1)) := fun v =>
      w.over (agr.i (agr.i (agr.refl _ _) _ _ (by omega)) _ _ (by omega)) rfl (fun k h1 h2 => by simp [gI, h1]) (fun k h1 => by simp [gI, h1]) (agr.i (agr.i (agr.refl _ _) _ _ (by omega)) _ _ (by omega)) (fun k h1 h2 h3 => by simp [gI, h1, h2]) rfl (by simp [gI]) (by simp [gI]; exact c6) (by simp [gI]) (v := 0)
    rcases hv with z | z
    · rw [z] at z2 z2'
      refine ⟨siI (siI S 23 0 0 7 (nI 2)) 8 0 0 5 (-1), siI (siI T 33 0 0 17 (nI 2)) 33 0 0 16 (-1), A, ?_, ?_, rfl, rfl, Or.inr ⟨(W 2).1, gc.keep (W 2).2, wh, by simp [gI], Or.inl (by simp [gI])⟩⟩
      · clear w gc iq wh sc W
        unfold F_117
        simp (disch := first | assumption | omega) only [gI, gI2, gL, gL1, gL2, jcLT, jcGE, jcGT, jcLE, jcEQ, jcNE, dEQ, nIt, lgNE, lgEQ, lgGE, lgLT, lgGT, lgLE, jinT, nIc, nI0, nI1, nIo, nIs, nI_add, nIm, nIn0, szl0, szl1, szl2, szl3, szl4, szl5, Nat.add_sub_assoc, Nat.add_zero, Nat.reduceSub, Nat.reduceAdd, Nat.reduceMul, Nat.reduceEqDiff,  jifT, bdS, sifN, sifS, omN, omS, cdI, x25, x26, x27, x28, x29, x30, x31, x32, xr0, xr1, xr2, xr3, xr4, xr5, if_pos, if_neg, true_and, and_true, false_and, and_false, and_self, Bool.and_true, if_true, if_false, reduceIte, cond_true, cond_false, not_true_eq_false, not_false_eq_true, e22, z2, F_117_32]
      · clear w gc iq wh sc W e22
        unfold mtl
        simp (disch := first | assumption | omega) only [gI, gI2, gL, gL1, gL2, jcLT, jcGE, jcGT, jcLE, jcEQ, jcNE, dEQ, nIt, lgNE, lgEQ, lgGE, lgLT, lgGT, lgLE, jinT, nIc, nI0, nI1, nIo, nIs, nI_add, nIm, nIn0, szl0, szl1, szl2, szl3, szl4, szl5, Nat.add_sub_assoc, Nat.add_zero, Nat.reduceSub, Nat.reduceAdd, Nat.reduceMul, Nat.reduceEqDiff,  jifT, bdS, sifN, sifS, omN, omS, cdI, x25, x26, x27, x28, x29, x30, x31, x32, xr0, xr1, xr2, xr3, xr4, xr5, if_pos, if_neg, true_and, and_true, false_and, and_false, and_self, Bool.and_true, if_true, if_false, reduceIte, cond_true, cond_false, not_true_eq_false, not_false_eq_true, x51, x52, x53, x54, x55, x56, x57, x58, x59, x60, x61, x62, x63, z2', F_190_118]
    · rw [z] at z2 z2'
      refine ⟨siI (siI S 23 0 0 7 (nI 3)) 8 0 0 5 (-1), siI (siI T 33 0 0 17 (nI 3)) 33 0 0 16 (-1), A, ?_, ?_, rfl, rfl, Or.inr ⟨(W 3).1, gc.keep (W 3).2, wh, by simp [gI], Or.inr (Or.inl (by simp [gI]))⟩⟩
      · clear w gc iq wh sc W
        unfold F_117
        simp (disch := first | assumption | omega) only [gI, gI2, gL, gL1, gL2, jcLT, jcGE, jcGT, jcLE, jcEQ, jcNE, dEQ, nIt, lgNE, lgEQ, lgGE, lgLT, lgGT, lgLE, jinT, nIc, nI0, nI1, nIo, nIs, nI_add, nIm, nIn0, szl0, szl1, szl2, szl3, szl4, szl5, Nat.add_sub_assoc, Nat.add_zero, Nat.reduceSub, Nat.reduceAdd, Nat.reduceMul, Nat.reduceEqDiff,  jifT, bdS, sifN, sifS, omN, omS, cdI, x25, x26, x27, x28, x29, x30, x31, x32, xr0, xr1, xr2, xr3, xr4, xr5, if_pos, if_neg, true_and, and_true, false_and, and_false, and_self, Bool.and_true, if_true, if_false, reduceIte, cond_true, cond_false, not_true_eq_false, not_false_eq_true, e22, z2, F_117_32]
      · clear w gc iq wh sc W e22
        unfold mtl
        simp (disch := first | assumption | omega) only [gI, gI2, gL, gL1, gL2, jcLT, jcGE, jcGT, jcLE, jcEQ, jcNE, dEQ, nIt, lgNE, lgEQ, lgGE, lgLT, lgGT, lgLE, jinT, nIc, nI0, nI1, nIo, nIs, nI_add, nIm, nIn0, szl0, szl1, szl2, szl3, szl4, szl5, Nat.add_sub_assoc, Nat.add_zero, Nat.reduceSub, Nat.reduceAdd, Nat.reduceMul, Nat.reduceEqDiff,  jifT, bdS, sifN, sifS, omN, omS, cdI, x25, x26, x27, x28, x29, x30, x31, x32, xr0, xr1, xr2, xr3, xr4, xr5, if_pos, if_neg, true_and, and_true, false_and, and_false, and_self, Bool.and_true, if_true, if_false, reduceIte, cond_true, cond_false, not_true_eq_false, not_false_eq_true, x51, x52, x53, x54, x55, x56, x57, x58, x59, x60, x61, x62, x63, z2', F_190_118]
end TRN2
