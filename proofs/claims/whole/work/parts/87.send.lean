/-! SEND: rows for it. -/
theorem rp_c {S : sS} {p pp n k : Nat} {x : Int64} {g v : Int32} (h : ¬ (pp = p ∧ k = 1)) : siI (rpush S pp k n x g) 29 p 1 2 v = rpush (siI S 29 p 1 2 v) pp k n x g := by
  unfold rpush
  rw [siI_comm (siI (siL S 30 pp k n x) 31 pp k n g) _ _ _ _ (show ¬ (29 = 29 ∧ pp = p ∧ k = 1) by omega), siI_comm (siL S 30 pp k n x) _ _ _ _ (show ¬ (31 = 29 ∧ pp = p ∧ k = 1) by omega)]
  rfl
section SND
variable {φ : Nat → Nat} {D : Nat → Prop} {F N : Nat} {P : aP} {S S' T T' : sS} {A : aS} {r d p f pc n m e b k y : Nat} {G : jG} {t : Nat}
/-! the running strand waits: in all -/
theorem cx.awt (h : cx φ D F N P S T A r d p f pc n m) (gc : gcR D S) (iq : iqR P A r False) (hy : T.1 33 0 0 38 = nI 0) (hpc : pc < P.2.2.2.1 f) {st c : Nat} (hst : 2 ≤ st ∧ st ≤ 4) (h2 : st = 2 → 2 ≤ n) (h3 : st = 3 → 1 ≤ n ∧ n ≤ 15) (h4 : st = 4 → 1 ≤ c ∧ c ≤ 4 ∧ 3 * c ≤ n ∧ n ≤ 14 + 3 * c ∧ (∃ q, pc = q + 1 ∧ P.2.2.2.2.2 (P.2.2.1 f + q) &&& nI 7 = nI c) ∧ ∀ k, k < c → S.1 31 p 1 (n - 3 * c + 3 * k + 1) = nI 0)
    {kt : Nat} {X : Option (Int32 × sS)} {W : Option (Unit × sS)} (hX : X = some (nI 0, awS S r st c A.2.2.2.2.2.1)) (hW : W = some ((), awT T r st (A.2.2.2.2.2.1 + A.2.2.2.2.2.2))) : insY D F N P S T A r p G t kt 0 X W := by
  obtain ⟨w0, w1, hr, a1, a2, a3, a4⟩ := h
  obtain ⟨w2, k2⟩ := w0.await hr (st := st) (c := c) a1 hst (fun d' hd' => by
    have : d' = d := by omega
    subst this
    rw [a4]
    refine ⟨h2, h3, fun z => ?_⟩
    obtain ⟨u1, u2, u3, u4, u5, u6⟩ := h4 z
    exact ⟨u1, u2, u3, u4, u5, p, a3, u6⟩)
  obtain ⟨q1, q2, q3, q9⟩ := iq
  refine ⟨_, _, φ, D, _, cD_ok hX, hW, w2, gc.keep k2, ⟨fun s hs _ => ?_, q2, fun s => ?_, ?_⟩, fun x hx => hx.same rfl, ?_, ⟨Nat.le_refl _, rfl⟩, fun z => ?_⟩
  · by_cases c' : s = r
    · subst c'
      intro y hy
      have : y = d := by
        have hy : A.2.1 s = y + 1 := hy
        omega
      subst this
      show (A.2.2.1 s y).2.2.2.2 = 0 ∧ (A.2.2.1 s y).2.1 < P.2.2.2.1 (A.2.2.1 s y).1
      rw [a4]
      exact ⟨rfl, hpc⟩
    · exact q1 s hs (Or.inl c')
  · show s ∈ A.2.2.2.1 ↔ s < 16 ∧ va_up A.1 r st s = 1 ∧ s ≠ r
    by_cases c' : s = r
    · subst c'
      exact ⟨fun z => absurd rfl ((q3 s).mp z).2.2, fun z => absurd rfl z.2.2⟩
    · rw [va_up_ne _ _ c']
      exact q3 s
  · show va_up A.1 r st 0 ≠ 0
    by_cases c : 0 = r
    · subst c
      rw [va_up_self]
      omega
    · rw [va_up_ne _ _ c]
      exact q9
  · unfold awT
    rw [gL1, gL1, siI_ne _ _ _ (by omega)]
    exact hy
  · have z : va_up A.1 r st r = 0 := z
    rw [va_up_self] at z
    omega
/-! a change of the running strand's operands changes nobody who waits -/
theorem lw_same {A' : aS} {sn rc : Nat} (h1 : A.1 r = 1) (h1' : A'.1 r = 1) (hA : ∀ z, z ≠ r → A'.1 z = A.1 z ∧ A'.2.1 z = A.2.1 z ∧ A'.2.2.1 z = A.2.2.1 z) (hw : A'.2.2.2.2.1 = A.2.2.2.2.1) (ow : own S) (hX : S'.2.2 = S.2.2) (hp : S.2.2.1.1 r d = some p) (aSS : agr (fun t i j => (27 ≤ t ∧ t ≤ 31 ∧ i = p ∧ j < 4)) S S') : lw S' A' y sn rc = lw S A y sn rc := by
  unfold lw
  rw [hw]
  refine bw_cong 16 none 0 (fun s _ hs => ?_)
  congr 1
  by_cases c : s = r
  · subst c
    have e : ∀ (S : sS) (A : aS), A.1 s = 1 → cO S A s y sn rc = none := fun S A h => by
      unfold cO
      split
      · rfl
      · split
        · rfl
        · unfold csO
          rw [h, if_neg (by omega), if_neg (by omega), if_neg (by omega)]
    rw [e S A h1, e S' A' h1']
  · obtain ⟨q1, q2, q3⟩ := hA s c
    unfold cO
    rw [q2, q3, q1, hX]
    split
    · rfl
    · split
      · rfl
      · rename_i d' _ pp hpp
        have np : pp ≠ p := fun z => by
          subst z
          exact c (ow.2.1 _ _ _ _ _ hpp hp).1
        have e31 := (aSS 31 pp 1 (by omega)).1
        have e30 := (aSS 30 pp 1 (by omega)).2
        have e25 := (aSS 25 s 0 (by omega)).1
        unfold csO csf
        rw [e31, e30, e25]
/-! who waits for a channel to receive: what is known of it -/
set_option maxHeartbeats 4000000 in
set_option linter.unusedSimpArgs false in
theorem wR.rcv (h : wR φ D F N P S T A) (ht : 100 < t) (iq : ∀ s, s < 16 → s ≠ r → tpR P (A.2.1 s) (A.2.2.1 s)) (h1 : A.1 r = 1) (hy : y < 600) {s : Nat} (hx : lw S A y 0 1 = some s) :
    ∃ st c dd pp fl n f pc m, s < 16 ∧ s ≠ r ∧ A.1 s = st ∧ (st = 3 ∨ st = 4) ∧ A.2.1 s = dd + 1 ∧ dd < 30 ∧ S.2.2.1.1 s dd = some pp ∧ A.2.2.1 s dd = (f, pc, n, m, 0) ∧ pc < P.2.2.2.1 f ∧ n ≤ 16 ∧ dw st c ≤ n ∧ n - dw st c ≤ 14 ∧ cO S A s y 0 1 = some (if st = 4 then fl else 0) ∧ (st ≠ 4 → fl = 1) ∧ fl < 16 ∧ (st = 4 → S.1 25 s 0 6 = nI c ∧ c ≤ 4 ∧ ∃ q, pc = q + 1 ∧ P.2.2.2.2.2 (P.2.2.1 f + q) &&& nI 7 = nI c) := by
  obtain ⟨hs, ⟨k, hk, hk16⟩, h2, h4⟩ := h.lwS ht hy (by omega) (by omega) hx
  have hsr : s ≠ r := fun z => by rw [z] at h2; omega
  have R := h.2.1 s hs
  obtain ⟨dd, e⟩ : ∃ d, A.2.1 s = d + 1 := ⟨A.2.1 s - 1, by have := R.2.2.2.1; omega⟩
  obtain ⟨pp, hp, fr⟩ := R.fr (d := dd) (by omega)
  have h30 := R.2.2.1.2.2
  have tp := iq s hs hsr dd e
  obtain ⟨_, wt⟩ := h.2.2.2.2.2.2.1.2 s hs h2 h4
  obtain ⟨_, wt3, wt4⟩ := wt dd e
  have hn := fr.2.2.2.1.2.2.1
  have hk0 := hk
  rw [cO_e e hp] at hk
  generalize hfd : A.2.2.1 s dd = fd at hn wt3 wt4 tp hk
  obtain ⟨f, pc, n, m, ee⟩ := fd
  dsimp only at hn wt3 wt4 tp hk
  have tp1 : ee = 0 := tp.1
  subst tp1
  obtain ⟨z1, z2, z3⟩ := csO_st hk
  by_cases c4 : A.1 s = 4
  · obtain ⟨c, c1, c2, c3, c5, c6, c7, _⟩ := wt4 c4
    refine ⟨4, c, dd, pp, k, n, f, pc, m, hs, hsr, c4, Or.inr rfl, e, by omega, hp, hfd, tp.2, hn, ?_, ?_, by rw [if_pos rfl]; exact hk0, fun z => absurd rfl z, hk16, fun _ => ⟨c3, c2, c7⟩⟩
    · show 3 * c ≤ n
      omega
    · show n - 3 * c ≤ 14
      omega
  · have c3 : A.1 s = 3 := by
      by_cases c2 : A.1 s = 2
      · rw [c2] at hk
        have : csO S pp n (S.1 25 s 0 6).toNatClampNeg 2 y 0 1 = if (0 : Nat) = 1 ∧ S.1 31 pp 1 (n - 2) = nI (y + 2) then some 0 else none := rfl
        rw [this, if_neg (fun z => by omega)] at hk
        cases hk
      · omega
    have := wt3 c3
    have k0 := z3 c4
    refine ⟨3, 0, dd, pp, 1, n, f, pc, m, hs, hsr, c3, Or.inl rfl, e, by omega, hp, hfd, tp.2, hn, ?_, ?_, by rw [if_neg (by omega), hk0, k0], fun _ => rfl, by omega, fun z => by omega⟩
    · show 1 ≤ n
      omega
    · show n - 1 ≤ 14
      omega
end SND
