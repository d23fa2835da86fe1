/-! Marks: meeting what stands in a row. -/
theorem nd_len : ∀ (n : Nat) (l : List Nat), l.Nodup → (∀ x, x ∈ l → x < n) → l.length ≤ n := by
  intro n
  induction n with
  | zero =>
    intro l _ h
    cases l with
    | nil => exact Nat.le_refl _
    | cons x l => exact absurd (h x List.mem_cons_self) (Nat.not_lt_zero _)
  | succ n ih =>
    intro l hl h
    have h1 := ih (l.erase n) (hl.erase n) (fun x hx => by
      have := (hl.mem_erase_iff).mp hx
      have := h x this.2
      omega)
    rw [List.length_erase] at h1
    split at h1 <;> omega
/-! a tracer's colours and its greys -/
def trS (S : sS) (j : Nat) (co : Nat → Nat) (gl : List Nat) : Prop := (∀ h, h < 600 → S.1 16 0 j h = nI (co h) ∧ co h ≤ 2) ∧ S.1 15 0 j 2 = nI gl.length ∧ (∀ (i x : Nat), gl[i]? = some x → S.1 17 0 j i = nI x) ∧ gl.Nodup ∧ ∀ h, h ∈ gl ↔ h < 600 ∧ co h = 1
/-! what was met among the values from a to e -/
def mtR (co co' : Nat → Nat) (tg : Nat → Nat) (a e : Nat) : Prop := (∀ h, h < 600 → co' h = co h ∨ (co h = 0 ∧ co' h = 1 ∧ ∃ i, a ≤ i ∧ i < e ∧ tg i = h + 2)) ∧ ∀ i, a ≤ i → i < e → ∀ h, h < 600 → tg i = h + 2 → co' h ≠ 0
theorem x15 {M : sK} {j : Nat} (h : j < 3) : sex M 15 0 j = true := by
  rcases (show j = 0 ∨ j = 1 ∨ j = 2 by omega) with rfl | rfl | rfl <;> rfl
theorem x16 {M : sK} {j : Nat} (h : j < 3) : sex M 16 0 j = true := by
  rcases (show j = 0 ∨ j = 1 ∨ j = 2 by omega) with rfl | rfl | rfl <;> rfl
theorem x17 {M : sK} {j : Nat} (h : j < 3) : sex M 17 0 j = true := by
  rcases (show j = 0 ∨ j = 1 ∨ j = 2 by omega) with rfl | rfl | rfl <;> rfl
theorem jlt2 {g : Nat} (h : g < 2) : jcmp .lt (nI g - nI 2) 0 = true := by
  rcases (show g = 0 ∨ g = 1 by omega) with rfl | rfl <;> decide
section MET
variable {S : sS} {G : jG} {t j p k : Nat}
set_option maxHeartbeats 4000000 in
set_option linter.unusedSimpArgs false in
theorem s35a {tt i e g : Nat} (hj : j < 3) (hr : srx S.2.2.2.1 p k = true) (hie : i < e) (he : e ≤ srl k) (hg : S.1 31 p k i = nI g) (hg2 : g < 2) : F_35_21 G t (tt + 1) (0, j) (p, k) (nI e) (nI i) S = F_35_21 G t tt (0, j) (p, k) (nI e) (nI (i + 1)) S := by
  have hb := srl_le k
  have c := jlt2 hg2
  rw [nI0] at c
  rw [F_35_21]
  simp (disch := first | assumption | omega) only [gI, gI2, gL, gL1, gL2, jcLT, jcGE, jcGT, jcLE, jcEQ, jcNE, dEQ, nIt, lgNE, lgEQ, lgGE, lgLT, lgGT, lgLE, jinT, nIc, nI0, nI1, nIo, nIs, nI_add, nIm, nIn0, szl0, szl1, szl2, szl3, szl4, szl5, Nat.add_sub_assoc, Nat.add_zero, Nat.reduceSub, Nat.reduceAdd, Nat.reduceMul, Nat.reduceEqDiff,  jifT, bdS, sifN, sifS, omN, omS, cdI, x25, x26, x27, x28, x29, x30, x31, x32, xr0, xr1, xr2, xr3, xr4, xr5, if_pos, if_neg, true_and, and_true, false_and, and_false, and_self, Bool.and_true, if_true, if_false, reduceIte, cond_true, cond_false, not_true_eq_false, not_false_eq_true, F_35_101, hr, hg, c]
set_option maxHeartbeats 4000000 in
set_option linter.unusedSimpArgs false in
theorem s35b {tt i e x c : Nat} (hj : j < 3) (hr : srx S.2.2.2.1 p k = true) (hie : i < e) (he : e ≤ srl k) (hg : S.1 31 p k i = nI (x + 2)) (hx : x < 600) (hc : S.1 16 0 j x = nI c) (hc2 : c ≤ 2) (hc0 : c ≠ 0) : F_35_21 G t (tt + 1) (0, j) (p, k) (nI e) (nI i) S = F_35_21 G t tt (0, j) (p, k) (nI e) (nI (i + 1)) S := by
  have hb := srl_le k
  rw [F_35_21]
  simp (disch := first | assumption | omega) only [gI, gI2, gL, gL1, gL2, jcLT, jcGE, jcGT, jcLE, jcEQ, jcNE, dEQ, nIt, lgNE, lgEQ, lgGE, lgLT, lgGT, lgLE, jinT, nIc, nI0, nI1, nIo, nIs, nI_add, nIm, nIn0, szl0, szl1, szl2, szl3, szl4, szl5, Nat.add_sub_assoc, Nat.add_zero, Nat.reduceSub, Nat.reduceAdd, Nat.reduceMul, Nat.reduceEqDiff,  jifT, bdS, sifN, sifS, omN, omS, cdI, x25, x26, x27, x28, x29, x30, x31, x32, xr0, xr1, xr2, xr3, xr4, xr5, if_pos, if_neg, true_and, and_true, false_and, and_false, and_self, Bool.and_true, if_true, if_false, reduceIte, cond_true, cond_false, not_true_eq_false, not_false_eq_true, F_35_101, hr, hg, x15, x16, hc]
set_option maxHeartbeats 4000000 in
set_option linter.unusedSimpArgs false in
theorem s35c {tt i e x n : Nat} (hj : j < 3) (hr : srx S.2.2.2.1 p k = true) (hie : i < e) (he : e ≤ srl k) (hg : S.1 31 p k i = nI (x + 2)) (hx : x < 600) (hc : S.1 16 0 j x = nI 0) (hn : S.1 15 0 j 2 = nI n) (hn2 : n < 600) : F_35_21 G t (tt + 1) (0, j) (p, k) (nI e) (nI i) S = F_35_21 G t tt (0, j) (p, k) (nI e) (nI (i + 1)) (siI (siI (siI S 16 0 j x (nI 1)) 17 0 j n (nI x)) 15 0 j 2 (nI (n + 1))) := by
  have hb := srl_le k
  rw [F_35_21]
  simp (disch := first | assumption | omega) only [gI, gI2, gL, gL1, gL2, jcLT, jcGE, jcGT, jcLE, jcEQ, jcNE, dEQ, nIt, lgNE, lgEQ, lgGE, lgLT, lgGT, lgLE, jinT, nIc, nI0, nI1, nIo, nIs, nI_add, nIm, nIn0, szl0, szl1, szl2, szl3, szl4, szl5, Nat.add_sub_assoc, Nat.add_zero, Nat.reduceSub, Nat.reduceAdd, Nat.reduceMul, Nat.reduceEqDiff,  jifT, bdS, sifN, sifS, omN, omS, cdI, x25, x26, x27, x28, x29, x30, x31, x32, xr0, xr1, xr2, xr3, xr4, xr5, if_pos, if_neg, true_and, and_true, false_and, and_false, and_self, Bool.and_true, if_true, if_false, reduceIte, cond_true, cond_false, not_true_eq_false, not_false_eq_true, F_35_101, hr, hg, x15, x16, x17, hc, hn]
set_option maxHeartbeats 4000000 in
set_option linter.unusedSimpArgs false in
theorem s35z {tt i e : Nat} (hie : e ≤ i) (hi : i ≤ 16) : F_35_21 G t (tt + 1) (0, j) (p, k) (nI e) (nI i) S = some ((), S) := by
  rw [F_35_21]
  simp (disch := first | assumption | omega) only [gI, gI2, gL, gL1, gL2, jcLT, jcGE, jcGT, jcLE, jcEQ, jcNE, dEQ, nIt, lgNE, lgEQ, lgGE, lgLT, lgGT, lgLE, jinT, nIc, nI0, nI1, nIo, nIs, nI_add, nIm, nIn0, szl0, szl1, szl2, szl3, szl4, szl5, Nat.add_sub_assoc, Nat.add_zero, Nat.reduceSub, Nat.reduceAdd, Nat.reduceMul, Nat.reduceEqDiff,  jifT, bdS, sifN, sifS, omN, omS, cdI, x25, x26, x27, x28, x29, x30, x31, x32, xr0, xr1, xr2, xr3, xr4, xr5, if_pos, if_neg, true_and, and_true, false_and, and_false, and_self, Bool.and_true, if_true, if_false, reduceIte, cond_true, cond_false, not_true_eq_false, not_false_eq_true]
/-! one more is grey -/
set_option maxHeartbeats 4000000 in
set_option linter.unusedSimpArgs false in
theorem trS.add {co : Nat → Nat} {gl : List Nat} (h : trS S j co gl) {x : Nat} (hx : x < 600) (hc : co x = 0) : gl.length < 600 ∧ trS (siI (siI (siI S 16 0 j x (nI 1)) 17 0 j gl.length (nI x)) 15 0 j 2 (nI (gl.length + 1))) j (va_up co x 1) (gl ++ [x]) := by
  obtain ⟨h1, h2, h3, h4, h5⟩ := h
  have hn : x ∉ gl := fun z => by have := ((h5 x).mp z).2; omega
  have hl : gl.length < 600 := by
    have := nd_len 600 (x :: gl) (List.nodup_cons.mpr ⟨hn, h4⟩) (fun y hy => by
      rcases List.mem_cons.mp hy with rfl | hy
      · exact hx
      · exact ((h5 y).mp hy).1)
    rw [List.length_cons] at this
    omega
  refine ⟨hl, fun y hy => ?_, ?_, fun i y hy => ?_, ?_, fun y => ?_⟩
  · have := h1 y hy
    by_cases c : y = x
    · subst c
      rw [va_up_self]
      refine ⟨?_, by omega⟩
      simp (disch := first | assumption | omega) only [gI, gI2, gL, gL1, gL2, jcLT, jcGE, jcGT, jcLE, jcEQ, jcNE, dEQ, nIt, lgNE, lgEQ, lgGE, lgLT, lgGT, lgLE, jinT, nIc, nI0, nI1, nIo, nIs, nI_add, nIm, nIn0, szl0, szl1, szl2, szl3, szl4, szl5, Nat.add_sub_assoc, Nat.add_zero, Nat.reduceSub, Nat.reduceAdd, Nat.reduceMul, Nat.reduceEqDiff,  jifT, bdS, sifN, sifS, omN, omS, cdI, x25, x26, x27, x28, x29, x30, x31, x32, xr0, xr1, xr2, xr3, xr4, xr5, if_pos, if_neg, true_and, and_true, false_and, and_false, and_self, Bool.and_true, if_true, if_false, reduceIte, cond_true, cond_false, not_true_eq_false, not_false_eq_true]
    · rw [va_up_ne _ _ c]
      refine ⟨?_, this.2⟩
      simp (disch := first | assumption | omega) only [gI, gI2, gL, gL1, gL2, jcLT, jcGE, jcGT, jcLE, jcEQ, jcNE, dEQ, nIt, lgNE, lgEQ, lgGE, lgLT, lgGT, lgLE, jinT, nIc, nI0, nI1, nIo, nIs, nI_add, nIm, nIn0, szl0, szl1, szl2, szl3, szl4, szl5, Nat.add_sub_assoc, Nat.add_zero, Nat.reduceSub, Nat.reduceAdd, Nat.reduceMul, Nat.reduceEqDiff,  jifT, bdS, sifN, sifS, omN, omS, cdI, x25, x26, x27, x28, x29, x30, x31, x32, xr0, xr1, xr2, xr3, xr4, xr5, if_pos, if_neg, true_and, and_true, false_and, and_false, and_self, Bool.and_true, if_true, if_false, reduceIte, cond_true, cond_false, not_true_eq_false, not_false_eq_true]
      exact this.1
  · rw [siI_at, List.length_append]
    rfl
  · rw [List.getElem?_append] at hy
    by_cases c : i < gl.length
    · rw [if_pos c] at hy
      have := h3 i y hy
      simp (disch := first | assumption | omega) only [gI, gI2, gL, gL1, gL2, jcLT, jcGE, jcGT, jcLE, jcEQ, jcNE, dEQ, nIt, lgNE, lgEQ, lgGE, lgLT, lgGT, lgLE, jinT, nIc, nI0, nI1, nIo, nIs, nI_add, nIm, nIn0, szl0, szl1, szl2, szl3, szl4, szl5, Nat.add_sub_assoc, Nat.add_zero, Nat.reduceSub, Nat.reduceAdd, Nat.reduceMul, Nat.reduceEqDiff,  jifT, bdS, sifN, sifS, omN, omS, cdI, x25, x26, x27, x28, x29, x30, x31, x32, xr0, xr1, xr2, xr3, xr4, xr5, if_pos, if_neg, true_and, and_true, false_and, and_false, and_self, Bool.and_true, if_true, if_false, reduceIte, cond_true, cond_false, not_true_eq_false, not_false_eq_true]
      exact this
    · rw [if_neg c] at hy
      by_cases c2 : i = gl.length
      · subst c2
        rw [Nat.sub_self] at hy
        have : x = y := Option.some.inj hy
        subst this
        simp (disch := first | assumption | omega) only [gI, gI2, gL, gL1, gL2, jcLT, jcGE, jcGT, jcLE, jcEQ, jcNE, dEQ, nIt, lgNE, lgEQ, lgGE, lgLT, lgGT, lgLE, jinT, nIc, nI0, nI1, nIo, nIs, nI_add, nIm, nIn0, szl0, szl1, szl2, szl3, szl4, szl5, Nat.add_sub_assoc, Nat.add_zero, Nat.reduceSub, Nat.reduceAdd, Nat.reduceMul, Nat.reduceEqDiff,  jifT, bdS, sifN, sifS, omN, omS, cdI, x25, x26, x27, x28, x29, x30, x31, x32, xr0, xr1, xr2, xr3, xr4, xr5, if_pos, if_neg, true_and, and_true, false_and, and_false, and_self, Bool.and_true, if_true, if_false, reduceIte, cond_true, cond_false, not_true_eq_false, not_false_eq_true]
      · obtain ⟨q, hq⟩ : ∃ q, i - gl.length = q + 1 := ⟨i - gl.length - 1, by omega⟩
        rw [hq] at hy
        cases hy
  · rw [List.nodup_append]
    refine ⟨h4, List.nodup_cons.mpr ⟨List.not_mem_nil, List.nodup_nil⟩, fun a ha b hb => ?_⟩
    rw [List.mem_singleton] at hb
    subst hb
    exact fun z => hn (z ▸ ha)
  · rw [List.mem_append, List.mem_singleton, h5]
    by_cases c : y = x
    · subst c
      rw [va_up_self]
      exact ⟨fun _ => ⟨hx, rfl⟩, fun _ => Or.inr rfl⟩
    · rw [va_up_ne _ _ c]
      exact ⟨fun z => z.elim id (fun w => absurd w c), Or.inl⟩
theorem l_35 {tg : Nat → Nat} {e : Nat} (hj : j < 3) (he : e ≤ srl k) : ∀ n i tt S co gl, i + n = e → n < tt → srx S.2.2.2.1 p k = true → (∀ q, q < e → S.1 31 p k q = nI (tg q) ∧ tg q < 602) → trS S j co gl → ∃ S' co' gl', F_35_21 G t tt (0, j) (p, k) (nI e) (nI i) S = some ((), S') ∧ trS S' j co' gl' ∧ mtR co co' tg i e ∧ agr (fun t a b => 15 ≤ t ∧ t ≤ 17 ∧ a = 0 ∧ b = j) S S' ∧ S'.2.2 = S.2.2 ∧ ∀ q, q ≠ 2 → S'.1 15 0 j q = S.1 15 0 j q := by
  have hb := srl_le k
  intro n
  induction n with
  | zero =>
    intro i tt S co gl h1 h2 h3 h4 h5
    obtain ⟨u, rfl⟩ : ∃ u, tt = u + 1 := ⟨tt - 1, by omega⟩
    exact ⟨S, co, gl, s35z (by omega) (by omega), h5, ⟨fun h _ => Or.inl rfl, fun q a b => by omega⟩, agr.refl _ _, rfl, fun _ _ => rfl⟩
  | succ n ih =>
    intro i tt S co gl h1 h2 h3 h4 h5
    obtain ⟨u, rfl⟩ : ∃ u, tt = u + 1 := ⟨tt - 1, by omega⟩
    obtain ⟨g1, g2⟩ := h4 i (by omega)
    by_cases c : tg i < 2
    · rw [s35a hj h3 (by omega) he g1 c]
      obtain ⟨S', co', gl', r1, r2, ⟨r3, r4⟩, r5⟩ := ih (i + 1) u S co gl (by omega) (by omega) h3 h4 h5
      refine ⟨S', co', gl', r1, r2, ⟨fun h hh => ?_, fun q a b h hh z => ?_⟩, r5⟩
      · rcases r3 h hh with y | ⟨y1, y2, q, y3, y4, y5⟩
        · exact Or.inl y
        · exact Or.inr ⟨y1, y2, q, by omega, y4, y5⟩
      · by_cases cq : q = i
        · subst cq; omega
        · exact r4 q (by omega) b h hh z
    · obtain ⟨x, hx⟩ : ∃ x, tg i = x + 2 := ⟨tg i - 2, by omega⟩
      rw [hx] at g1
      have hx6 : x < 600 := by omega
      have hcx := h5.1 x hx6
      by_cases c0 : co x = 0
      · rw [c0] at hcx
        obtain ⟨q1, q2⟩ := h5.add hx6 c0
        rw [s35c hj h3 (by omega) he g1 hx6 hcx.1 h5.2.1 q1]
        obtain ⟨S', co', gl', r1, r2, ⟨r3, r4⟩, r5, r6, r7⟩ := ih (i + 1) u (siI (siI (siI S 16 0 j x (nI 1)) 17 0 j gl.length (nI x)) 15 0 j 2 (nI (gl.length + 1))) (va_up co x 1) (gl ++ [x]) (by omega) (by omega) h3 (fun q hq => by
          rw [siI_ne _ _ _ (by omega), siI_ne _ _ _ (by omega), siI_ne _ _ _ (by omega)]
          exact h4 q hq) q2
        refine ⟨S', co', gl', r1, r2, ⟨fun h hh => ?_, fun q a b h hh z => ?_⟩, (agr.i (agr.i (agr.i (agr.refl _ _) _ _ (by omega)) _ _ (by omega)) _ _ (by omega)).trans r5, r6, fun q hq => ?_⟩
        · by_cases ch : h = x
          · subst ch
            rcases r3 h hh with y | ⟨y1, _⟩
            · rw [va_up_self] at y
              exact Or.inr ⟨c0, y, i, by omega, by omega, hx⟩
            · rw [va_up_self] at y1
              omega
          · rcases r3 h hh with y | ⟨y1, y2, q, y3, y4, y5⟩
            · rw [va_up_ne _ _ ch] at y
              exact Or.inl y
            · rw [va_up_ne _ _ ch] at y1
              exact Or.inr ⟨y1, y2, q, by omega, y4, y5⟩
        · by_cases cq : q = i
          · subst cq
            have : h = x := by omega
            subst this
            rcases r3 h hh with y | ⟨y1, y2, _⟩
            · rw [y, va_up_self]; omega
            · omega
          · exact r4 q (by omega) b h hh z
        · rw [r7 q hq, gI, if_neg (by omega), siI_ne _ _ _ (by omega), siI_ne _ _ _ (by omega)]
      · rw [s35b hj h3 (by omega) he g1 hx6 hcx.1 hcx.2 c0]
        obtain ⟨S', co', gl', r1, r2, ⟨r3, r4⟩, r5⟩ := ih (i + 1) u S co gl (by omega) (by omega) h3 h4 h5
        refine ⟨S', co', gl', r1, r2, ⟨fun h hh => ?_, fun q a b h hh z => ?_⟩, r5⟩
        · rcases r3 h hh with y | ⟨y1, y2, q, y3, y4, y5⟩
          · exact Or.inl y
          · exact Or.inr ⟨y1, y2, q, by omega, y4, y5⟩
        · by_cases cq : q = i
          · subst cq
            have : h = x := by omega
            subst this
            rcases r3 h hh with y | ⟨y1, y2, _⟩
            · rw [y]; exact c0
            · omega
          · exact r4 q (by omega) b h hh z
/-! the whole of meet: from a to till -/
set_option maxHeartbeats 4000000 in
set_option linter.unusedSimpArgs false in
theorem f_35 {tg : Nat → Nat} {a till sz : Nat} {co : Nat → Nat} {gl : List Nat} (ht : 1000 < t) (hj : j < 3) (hr : rwS S p k sz) (h4 : ∀ q, q < sz → S.1 31 p k q = nI (tg q) ∧ tg q < 602) (hT : trS S j co gl) (ha : a ≤ till) (ha2 : a ≤ sz) (htill : till ≤ 16) : ∃ S' co' gl', F_35 G t (0, j) (p, k) (nI a) (nI till) S = some ((), S') ∧ trS S' j co' gl' ∧ mtR co co' tg a (if till < sz then till else sz) ∧ agr (fun t a b => 15 ≤ t ∧ t ≤ 17 ∧ a = 0 ∧ b = j) S S' ∧ S'.2.2 = S.2.2 ∧ ∀ q, q ≠ 2 → S'.1 15 0 j q = S.1 15 0 j q := by
  obtain ⟨h1, h2, h3⟩ := hr
  have hb := srl_le k
  unfold F_35
  by_cases c : till < sz
  · rw [if_pos c]
    obtain ⟨S', co', gl', r1, r⟩ := l_35 (G := G) (t := t) (p := p) (k := k) (tg := tg) (e := till) hj (by omega) (till - a) a t S co gl (by omega) (by omega) h1 (fun q hq => h4 q (by omega)) hT
    refine ⟨S', co', gl', ?_, r⟩
    simp (disch := first | assumption | omega) only [gI, gI2, gL, gL1, gL2, jcLT, jcGE, jcGT, jcLE, jcEQ, jcNE, dEQ, nIt, lgNE, lgEQ, lgGE, lgLT, lgGT, lgLE, jinT, nIc, nI0, nI1, nIo, nIs, nI_add, nIm, nIn0, szl0, szl1, szl2, szl3, szl4, szl5, Nat.add_sub_assoc, Nat.add_zero, Nat.reduceSub, Nat.reduceAdd, Nat.reduceMul, Nat.reduceEqDiff,  jifT, bdS, sifN, sifS, omN, omS, cdI, x25, x26, x27, x28, x29, x30, x31, x32, xr0, xr1, xr2, xr3, xr4, xr5, if_pos, if_neg, true_and, and_true, false_and, and_false, and_self, Bool.and_true, if_true, if_false, reduceIte, cond_true, cond_false, not_true_eq_false, not_false_eq_true, F_35_16, h1, h2]
    exact r1
  · rw [if_neg c]
    obtain ⟨S', co', gl', r1, r⟩ := l_35 (G := G) (t := t) (p := p) (k := k) (tg := tg) (e := sz) hj h3 (sz - a) a t S co gl (by omega) (by omega) h1 h4 hT
    refine ⟨S', co', gl', ?_, r⟩
    simp (disch := first | assumption | omega) only [gI, gI2, gL, gL1, gL2, jcLT, jcGE, jcGT, jcLE, jcEQ, jcNE, dEQ, nIt, lgNE, lgEQ, lgGE, lgLT, lgGT, lgLE, jinT, nIc, nI0, nI1, nIo, nIs, nI_add, nIm, nIn0, szl0, szl1, szl2, szl3, szl4, szl5, Nat.add_sub_assoc, Nat.add_zero, Nat.reduceSub, Nat.reduceAdd, Nat.reduceMul, Nat.reduceEqDiff,  jifT, bdS, sifN, sifS, omN, omS, cdI, x25, x26, x27, x28, x29, x30, x31, x32, xr0, xr1, xr2, xr3, xr4, xr5, if_pos, if_neg, true_and, and_true, false_and, and_false, and_self, Bool.and_true, if_true, if_false, reduceIte, cond_true, cond_false, not_true_eq_false, not_false_eq_true, F_35_16, h1, h2]
    exact r1
end MET
