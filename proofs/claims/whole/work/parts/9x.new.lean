/-! NEW as an instruction. -/
section NEW3
variable {φ φ' : Nat → Nat} {D D' : Nat → Prop} {F N : Nat} {P : aP} {S S' T T' T1 : sS} {A : aS} {r s d p f pc n m e b k y : Nat} {G : jG} {t j : Nat}
theorem wR.tmk (w : wR φ D F N P S T A) (mo : moA T T') : wR φ D F N P S T' A := by
  obtain ⟨h1, h2, h3, h4⟩ := mo
  refine w.heap (fun _ _ _ _ _ => ⟨rfl, rfl⟩) (fun _ _ _ _ _ _ _ _ _ => ⟨rfl, rfl⟩) (fun _ _ _ => ⟨rfl, rfl⟩) rfl (fun _ z => z) w.2.2.2.2.2.2.2.2.2 (fun t i j z => ⟨h1 t i j (by omega) (by omega) (by omega), by rw [h2]⟩) (fun k z z' => h4 k (by omega) (by omega) (by omega)) (by rw [h2]) (by rw [h4 23 (by omega) (by omega) (by omega)]; exact w.2.2.2.2.2.2.2.1.2.2.2.1) (fun y hy r => ⟨w.rtD hy r, rfl⟩) (fun x hx => ?_) w.2.2.2.2.1
  obtain ⟨p', k1, z, w', cc, o⟩ := w.2.2.2.1 x hx
  refine ⟨p', k1, z, w', cc, ?_⟩
  rw [h3 _ _ 0 (by omega), h3 _ _ 1 (by omega), h3 _ _ 2 (by omega), h3 _ _ 4 (by omega), h1 52 _ _ (by omega) (by omega) (by omega), h2]
  exact o
set_option maxHeartbeats 4000000 in
set_option linter.unusedSimpArgs false in
theorem cx.new0 {z U : Nat} (ht : 2000 < t) (h : cx φ D F N P S T A r d p f pc n m) (gc : gcR D S) (iq : iqR P A r False) (hy : T.1 33 0 0 38 = nI 0) (hpc : pc < P.2.2.2.1 f) (hn : n < 16) (hk : k = 2 ∨ k = 3) (hz : z ≤ 16) (hz3 : k = 3 → z ≤ 8) (h9 : S.1 11 0 0 9 = nI U) (hU2 : U ≤ 1200) (hU : U + (k + z) ≤ 1200) :
    insY D F N P S T A r p G t 0 0 (F_116_194 G t (nI z) (p, 1) (nI k) S) (F_188_691 G t (nI z) (nI k) (r, 0) T) := by
  have w := h.1
  obtain ⟨bl, b1, b2, b3⟩ := reL (A := A) gc (fun x hx => w.reD hx)
  obtain ⟨U', u1, u2, u3⟩ := gc.sum b1 (fun x hx => w.reD ((b2 x).mp hx))
  have : U = U' := (nI_eq (by omega) (by omega)).mp (by rw [← h9, u1])
  subst this
  obtain ⟨x, q, S', c, O, L, e83, e86, hx, hD, M, gc'⟩ := gc.make (G := G) (t := t) w.2.2.2.2.2.2.2.2.2 hk hz hz3 (by omega) h9 hU2 hU
  obtain ⟨i, T1, i1, i2, i3, i4⟩ := (w.f168 (G := G) ht gc hk hz b1 b2 b3 (by omega)).1 (by omega)
  have w1 := w.make M hx hD i4 i1 i2 rfl hk hz hz3
  have h' : cx (va_up φ x i) (fun h => reC S A.2.1 h ∨ h = x) F N P S' T1 A r d p f pc n m := ⟨w1, h.2.1, h.2.2.1, h.2.2.2.1, h.2.2.2.2.1, by rw [M.1.1]; exact h.2.2.2.2.2.1, h.2.2.2.2.2.2⟩
  obtain ⟨hM, o1, o2, _, hr, d2, d3⟩ := h'.rd
  have v : vr (va_up φ x i) (fun h => reC S A.2.1 h ∨ h = x) 0 (nI (x + 2)) (nI 2) (Int64.ofNat i) := Or.inr (Or.inr ⟨x, Or.inr rfl, rfl, rfl, rfl, by rw [va_up_self]⟩)
  have e78 := f_78 (G := G) (t := t) (S := S') (p := p) (k := 1) (sz := n) (x := 0) (g := nI (x + 2)) ⟨xr1 hM, o1, show n ≤ 16 by omega⟩ (show n < 16 by omega)
  have e157 := e_157 (G := G) (t := t) (T := T1) (k := nI 2) (v := Int64.ofNat i) hr d3 hn d2 o2
  refine ((h'.psh (G := G) (t := t) (kt := 0) (X := F_116_194 G t (nI z) (p, 1) (nI k) S) (W := F_188_691 G t (nI z) (nI k) (r, 0) T) hpc hn v ?_ ?_).y (gc'.less (fun y hy => hy.imp (fun z => w.reD z) id)) iq hr ?_).of (M.2.2.2.2.2.2.2.2)
  · unfold F_116_194
    clear h gc iq w h' w1 M gc' i4 i2 v b2
    rw [e83, bdS]
    dsimp only
    rw [show jcmp .ne (nI 1) 0 = true from by decide, cond_true, e86, bdS]
    dsimp only
    rw [jif_true (show sex S'.2.2.2.1 29 p 1 = true from xr1 hM), e78]
    rfl
  · unfold F_188_691 F_169
    rw [i3]
    have l := l64 (n := i) (by omega)
    clear h gc iq w h' w1 M gc' i4 i2 v b2
    simp (disch := first | assumption | omega) only [gI, gI2, gL, gL1, gL2, jcLT, jcGE, jcGT, jcLE, jcEQ, jcNE, dEQ, nIt, lgNE, lgEQ, lgGE, lgLT, lgGT, lgLE, jinT, nIc, nI0, nI1, nIo, nIs, nI_add, nIm, nIn0, szl0, szl1, szl2, szl3, szl4, szl5, Nat.add_sub_assoc, Nat.add_zero, Nat.reduceSub, Nat.reduceAdd, Nat.reduceMul, Nat.reduceEqDiff,  jifT, bdS, sifN, sifS, omN, omS, cdI, x25, x26, x27, x28, x29, x30, x31, x32, xr0, xr1, xr2, xr3, xr4, xr5, if_pos, if_neg, true_and, and_true, false_and, and_false, and_self, Bool.and_true, if_true, if_false, reduceIte, cond_true, cond_false, not_true_eq_false, not_false_eq_true, x51, x52, x53, x54, x55, x56, x57, x58, x59, x60, x61, x62, x63, l, e157]
  · rw [i4.2.2.2.2.2.2.1 38 (by omega) (by omega) (by omega) (by omega)]
    exact hy
set_option maxHeartbeats 4000000 in
set_option linter.unusedSimpArgs false in
theorem cx.new {z : Nat} (ht : 2000 < t) (h : cx φ D F N P S T A r d p f pc n m) (gc : gcR D S) (iq : iqR P A r False) (hy : T.1 33 0 0 38 = nI 0) (hpc : pc < P.2.2.2.1 f) (hn : n < 16) (hk : k = 2 ∨ k = 3) (hz : z ≤ 16) (hz3 : k = 3 → z ≤ 8) :
    insY D F N P S T A r p G t 0 0 (F_116_172 G t (nI z) (p, 1) (nI k) S) (F_188_691 G t (nI z) (nI k) (r, 0) T) := by
  have w := h.1
  obtain ⟨U, u1, u2, u3⟩ := gc.sum (bl := []) List.nodup_nil (fun x hx => by cases hx)
  obtain ⟨L, l1, l2⟩ : ∃ L, S.1 11 0 0 7 = nI L ∧ L ≤ 600 := by
    obtain ⟨kd, cl, co, fl, gl, ro, sw, g1, g2, g3, g4, _⟩ := id gc
    exact ⟨_, g2.1, nd_len 600 _ g2.2.2.1 (fun y hy => ((g2.2.2.2 y).mp hy).1)⟩
  have e83 := f_83 (G := G) (t := t) (z := z) u1 u2 l1 l2 hk hz
  by_cases c : U + (k + z) ≤ 1200
  · have r0 := h.new0 (G := G) ht gc iq hy hpc hn hk hz hz3 u1 u2 c
    have e : F_116_172 G t (nI z) (p, 1) (nI k) S = F_116_194 G t (nI z) (p, 1) (nI k) S := by
      obtain ⟨x, q, S', c', O, L', e1, _⟩ := gc.make (G := G) (t := t) w.2.2.2.2.2.2.2.2.2 hk hz hz3 (by omega) u1 u2 c
      unfold F_116_172
      rw [e1, bdS]
      rfl
    rw [e]
    exact r0
  · rw [if_neg (fun q => c q.1)] at e83
    obtain ⟨S1, bl, e52, w1, gc1, x1, b1, b2, s9, s9', s8, re1, ag, ec⟩ := w.f52 (G := G) (t := t) (by omega) gc
    have e : F_116_172 G t (nI z) (p, 1) (nI k) S = F_116_194 G t (nI z) (p, 1) (nI k) S1 := by
      unfold F_116_172
      rw [e83, bdS]
      dsimp only
      rw [show jcmp .ne (nI 0) 0 = false from by decide, cond_false, e52, bdS]
    rw [e]
    have h1 : cx φ (reC S A.2.1) F N P S1 T A r d p f pc n m := ⟨w1, h.2.1, h.2.2.1, h.2.2.2.1, h.2.2.2.2.1, by rw [x1]; exact h.2.2.2.2.2.1, h.2.2.2.2.2.2⟩
    have rm : ∀ x, rmR S x → rmR S1 x := fun x hx => hx.same x1
    by_cases c2 : suL (clC S) bl + (k + z) ≤ 1200
    · exact (h1.new0 (G := G) ht gc1 iq hy hpc hn hk hz hz3 s9 s9' c2).of rm
    · obtain ⟨L1, l3, l4⟩ : ∃ L, S1.1 11 0 0 7 = nI L ∧ L ≤ 600 := by
        obtain ⟨kd, cl, co, fl, gl, ro, sw, g1, g2, g3, g4, _⟩ := id gc1
        exact ⟨_, g2.1, nd_len 600 _ g2.2.2.1 (fun y hy => ((g2.2.2.2 y).mp hy).1)⟩
      have e83' := f_83 (G := G) (t := t) (z := z) s9 s9' l3 l4 hk hz
      rw [if_neg (fun q => c2 q.1)] at e83'
      obtain ⟨T1, mo, e168⟩ := (w1.f168 (G := G) ht gc1 hk hz (bl := bl) b1 (fun x => by rw [b2, re1]) (by
        have := nd_len 600 bl b1 (fun y hy => w.D6 y (w.reD ((b2 y).mp hy)))
        exact this) (by rw [suL_cong (fun x _ => ec x)]; exact s9')).2 (by rw [suL_cong (fun x _ => ec x)]; exact c2)
      have h2 : cx φ (reC S A.2.1) F N P S1 T1 A r d p f pc n m := ⟨w1.tmk mo, h1.2⟩
      obtain ⟨S2, T2, q1, q2, q3⟩ := h2.panp (G := G) (t := t) (by omega) 0 (by omega) neg5.1 neg5.2 (X := F_116_194 G t (nI z) (p, 1) (nI k) S1) (by
        unfold F_116_194
        rw [e83', bdS]
        rfl)
      have iR : insR φ (reC S A.2.1) F N P S1 T1 A r p G t 0 (F_116_194 G t (nI z) (p, 1) (nI k) S1) (F_188_691 G t (nI z) (nI k) (r, 0) T) := ⟨S2, T2, q1, by
        unfold F_188_691 F_169
        rw [e168, bdS]
        dsimp only
        rw [show jcmp .ge (-1) 0 = false from by decide, cond_false]
        have q2' : F_155 G t (r, 0) (-5) T1 = some ((), T2) := q2
        rw [q2']
        rfl, q3⟩
      exact (iR.y gc1 iq h.2.2.1 (by rw [mo.2.2.2 38 (by omega) (by omega) (by omega)]; exact hy)).of rm
theorem i_21 {z : Nat} (ht : 2000 < t) (h : cx φ D F N P S T A r d p f pc n m) (gc : gcR D S) (iq : iqR P A r False) (hy : T.1 33 0 0 38 = nI 0) (hpc : pc < P.2.2.2.1 f) (hn : n < 16) (hz : z ≤ 16) : insY D F N P S T A r p G t 0 0 (X_21 G t r p (nI z) S) (W_21 G t r d (nI z) T) :=
  h.new (k := 2) ht gc iq hy hpc hn (Or.inl rfl) hz (fun q => by omega)
theorem i_27 {z : Nat} (ht : 2000 < t) (h : cx φ D F N P S T A r d p f pc n m) (gc : gcR D S) (iq : iqR P A r False) (hy : T.1 33 0 0 38 = nI 0) (hpc : pc < P.2.2.2.1 f) (hn : n < 16) (hz : z ≤ 8) : insY D F N P S T A r p G t 0 0 (X_27 G t r p (nI z) S) (W_27 G t r d (nI z) T) :=
  h.new (k := 3) ht gc iq hy hpc hn (Or.inr rfl) (by omega) (fun _ => hz)
end NEW3
