/-! A sender goes on: in all. -/
section GON
variable {φ : Nat → Nat} {D : Nat → Prop} {F N : Nat} {P : aP} {S S' T T' : sS} {A : aS} {r d p f pc n m e b k y : Nat} {G : jG} {t : Nat}
theorem wR.goon (h : wR φ D F N P S T A) {s a st c dd pp k : Nat} (hs : s < 16) (hd : A.2.1 s = dd + 1) (h1 : A.1 s = st) (hst : st = 2 ∨ st = 4) (ha : S.1 8 0 0 3 = nI a) (ha2 : a < 16) (hl : A.2.2.2.1.length < 16) (hp : S.2.2.1.1 s dd = some pp) (hf : A.2.2.1 s dd = (f, pc, n, m, 0)) (hpc : pc < P.2.2.2.1 f) (h2 : st = 2 → 2 ≤ n) (h4 : st = 4 → 3 * c ≤ n ∧ n ≤ 14 + 3 * c) :
    ∃ A', wR φ D F N P (luS (goS S pp n st c k) s a A.2.2.2.1.length) (goT T s dd A.2.2.2.1.length n st c k) A' ∧ hk S (luS (goS S pp n st c k) s a A.2.2.2.1.length) ∧ A'.1 s = 1 ∧ tpR P (A'.2.1 s) (A'.2.2.1 s) ∧ (∀ z, z ≠ s → A'.1 z = A.1 z ∧ A'.2.1 z = A.2.1 z ∧ A'.2.2.1 z = A.2.2.1 z) ∧ A'.2.2.2.1 = A.2.2.2.1 ++ [s] ∧ A'.2.2.2.2 = A.2.2.2.2 := by
  by_cases c4 : st = 4
  · obtain ⟨q1, q2⟩ := h4 c4
    have := h.give (s := s) (a := a) (q := 3 * c) (dd := dd) (pp := pp) (x := 0) (v := 0) (x2 := (nI k).toInt64) (g := nI 0) (kk := nI 0) hs hd (by rw [h1]; omega) ha ha2 hl hp (by rw [hf]; exact q1) (by rw [hf]; show n - 3 * c ≤ 14; omega) (Or.inl ⟨rfl, rfl, rfl⟩) (by rw [hf]; exact ⟨rfl, hpc⟩)
    rw [hf] at this
    unfold goS goT
    rw [if_pos c4, if_pos c4]
    exact this
  · have c2 : st = 2 := by omega
    have hn2 := h2 c2
    unfold goS goT
    rw [if_neg c4, if_neg c4]
    obtain ⟨w1, k1⟩ := h.line hs (by omega) (by rw [h1]; omega) ha ha2 hl
    have R := w1.2.1 s hs
    obtain ⟨pp', hp', fr⟩ := R.fr (d := dd) (show dd < A.2.1 s by omega)
    have epp : pp' = pp := by
      have : S.2.2.1.1 s dd = some pp' := hp'
      rw [hp] at this
      exact (Option.some.inj this).symm
    subst epp
    have fr : frR φ D F P (luS S s a A.2.2.2.1.length) pp' (rdT T s A.2.2.2.1.length) s dd f pc n m 0 (dfb (A.2.2.1 s) dd) := by
      have fr2 : frR φ D F P (luS S s a A.2.2.2.1.length) pp' (rdT T s A.2.2.2.1.length) s dd (A.2.2.1 s dd).1 (A.2.2.1 s dd).2.1 (A.2.2.1 s dd).2.2.1 (A.2.2.1 s dd).2.2.2.1 (A.2.2.1 s dd).2.2.2.2 (dfb (A.2.2.1 s) dd) := fr
      rw [hf] at fr2
      exact fr2
    obtain ⟨w2, k2, m2, ow2⟩ := w1.frm (r := s) (d := dd) (p := pp') hs (va_up_self _ _ _) hd hp' (dr_ag _ _ _) rfl (agr.i (agr.refl _ _) _ _ (by omega)) rfl (fr.drop 2)
    rw [luS_I (by omega) (by omega) (by omega)]
    refine ⟨_, w2, k1.trans k2.hk, aset_1 _ _ _ _ _, ?_, fun z hz => ⟨?_, ?_, ?_⟩, rfl, rfl⟩
    · rw [aset_2, aset_3]
      intro y hy
      have : y = dd := by omega
      subst this
      rw [fset_at]
      exact ⟨rfl, hpc⟩
    · rw [aset_1n _ _ _ _ hz]
      exact va_up_ne _ _ hz
    · rw [aset_2n _ _ _ _ hz]
    · rw [aset_3n _ _ _ _ hz]
/-! who waits for a channel to send: what is known of it -/
set_option maxHeartbeats 4000000 in
set_option linter.unusedSimpArgs false in
theorem wR.snd (h : wR φ D F N P S T A) (ht : 100 < t) (iq : ∀ s, s < 16 → s ≠ r → tpR P (A.2.1 s) (A.2.2.1 s)) (h1 : A.1 r = 1) (hy : y < 600) {s : Nat} (hx : lw S A y 1 0 = some s) :
    ∃ st c dd pp k n f pc m, s < 16 ∧ s ≠ r ∧ A.1 s = st ∧ (st = 2 ∨ st = 4) ∧ A.2.1 s = dd + 1 ∧ dd < 30 ∧ S.2.2.1.1 s dd = some pp ∧ A.2.2.1 s dd = (f, pc, n, m, 0) ∧ pc < P.2.2.2.1 f ∧ n ≤ 16 ∧ (st = 2 → 2 ≤ n) ∧ cO S A s y 1 0 = some k ∧ k < 16 ∧ (st = 4 → S.1 25 s 0 6 = nI c ∧ 1 ≤ c ∧ c ≤ 4 ∧ 3 * c ≤ n ∧ n ≤ 14 + 3 * c ∧ k < c ∧ ∃ q, pc = q + 1 ∧ P.2.2.2.2.2 (P.2.2.1 f + q) &&& nI 7 = nI c) := by
  obtain ⟨hs, ⟨k, hk, hk16⟩, h2, h4⟩ := h.lwS ht hy (by omega) (by omega) hx
  have hsr : s ≠ r := fun z => by rw [z] at h2; omega
  have R := h.2.1 s hs
  obtain ⟨dd, e⟩ : ∃ d, A.2.1 s = d + 1 := ⟨A.2.1 s - 1, by have := R.2.2.2.1; omega⟩
  obtain ⟨pp, hp, fr⟩ := R.fr (d := dd) (by omega)
  have h30 := R.2.2.1.2.2
  have tp := iq s hs hsr dd e
  obtain ⟨_, wt⟩ := h.2.2.2.2.2.2.1.2 s hs h2 h4
  obtain ⟨wt2, _, wt4⟩ := wt dd e
  have hn := fr.2.2.2.1.2.2.1
  have hk0 := hk
  rw [cO_e e hp] at hk
  generalize hfd : A.2.2.1 s dd = fd at hn wt2 wt4 tp hk
  obtain ⟨f, pc, n, m, ee⟩ := fd
  dsimp only at hn wt2 wt4 tp hk
  have tp1 : ee = 0 := tp.1
  subst tp1
  obtain ⟨z1, z2, z3⟩ := csO_st hk
  by_cases c4 : A.1 s = 4
  · obtain ⟨c, c1, c2, c3, c5, c6, c7, _⟩ := wt4 c4
    have kc := z2 c4
    rw [c3, nI_clamp (by omega)] at kc
    exact ⟨4, c, dd, pp, k, n, f, pc, m, hs, hsr, c4, Or.inr rfl, e, by omega, hp, hfd, tp.2, hn, fun z => by omega, hk0, hk16, fun _ => ⟨c3, c1, c2, c5, c6, kc, c7⟩⟩
  · have c2 : A.1 s = 2 := by
      by_cases c3 : A.1 s = 3
      · rw [c3] at hk
        have : csO S pp n (S.1 25 s 0 6).toNatClampNeg 3 y 1 0 = if (0 : Nat) = 1 ∧ S.1 31 pp 1 (n - 1) = nI (y + 2) then some 0 else none := rfl
        rw [this, if_neg (fun z => by omega)] at hk
        cases hk
      · omega
    exact ⟨2, 0, dd, pp, k, n, f, pc, m, hs, hsr, c2, Or.inl rfl, e, by omega, hp, hfd, tp.2, hn, fun _ => wt2 c2, hk0, hk16, fun z => by omega⟩
/-! the reference's rows for passing alone change -/
theorem wR.tmp (h : wR φ D F N P S T A) (aT : agr (fun t _ _ => t = 33 ∨ (46 ≤ t ∧ t ≤ 50)) T T') (h33 : ∀ k, k ≤ 24 → T'.1 33 0 0 k = T.1 33 0 0 k) (h28 : T'.2.1 33 0 0 28 = T.2.1 33 0 0 28) : wR φ D F N P S T' A := by
  have gl := h.2.2.1
  have qu := h.2.2.2.2.2.1
  have sc := h.2.2.2.2.2.2.2.1
  have wr := h.2.2.2.2.2.2.2.2.1
  refine (h.wld (agr.refl _ _) rfl (aT.mono (fun t i j z => by omega)) ⟨h33 13 (by omega), h33 14 (by omega)⟩ (gl.keep (fun _ _ _ => ⟨rfl, rfl⟩) ⟨(aT 36 0 0 (by omega)).1, (aT 43 0 0 (by omega)).2⟩) (qu.keep ⟨rfl, rfl, rfl⟩ ⟨h33 15 (by omega), (aT 45 0 0 (by omega)).1⟩) ⟨rfl, h28⟩ ?_ (wr.keep ⟨rfl, rfl, rfl⟩ ⟨h33 24 (by omega), (aT 44 0 0 (by omega)).2⟩)).1
  unfold scaR
  rw [h33 16 (by omega), h33 20 (by omega), h33 22 (by omega), h33 23 (by omega), h33 21 (by omega), h33 18 (by omega), h33 19 (by omega), h33 17 (by omega)]
  exact sc
end GON
