/-! Changes at one strand, on both sides. -/
def scR (S T : sS) (s st dp : Nat) : Prop :=
  (S.1 25 s 0 1 = nI s) ∧
  (S.1 25 s 0 4 = nI st ∧ T.1 54 s 0 0 = nI st ∧ st ≤ 6) ∧
  (S.1 25 s 0 3 = nI dp ∧ T.1 54 s 0 1 = nI dp ∧ dp ≤ 30) ∧
  (dp = 0 ↔ st = 0 ∨ 5 ≤ st) ∧
  (st < 5 → S.2.1 25 s 0 7 = 0) ∧
  (5 ≤ st → (S.2.1 25 s 0 7).toInt32 = T.1 54 s 0 2)
theorem dfb_s (fs : aFs) (d : Nat) : dfb fs (d + 1) = if (fs d).2.2.2.2 = 0 then 0 else 1 := rfl
section STM
variable {φ : Nat → Nat} {D : Nat → Prop} {F : Nat} {P : aP} {S S' T T' : sS} {s st dp : Nat} {fs : aFs}
theorem stR.sc (h : stR φ D F P S T s st dp fs) : scR S T s st dp := ⟨h.1, h.2.1, h.2.2.1, h.2.2.2.1, h.2.2.2.2.1, h.2.2.2.2.2.1⟩
theorem stR.fr (h : stR φ D F P S T s st dp fs) {d : Nat} (hd : d < dp) : ∃ p, S.2.2.1.1 s d = some p ∧ frR φ D F P S p T s d (fs d).1 (fs d).2.1 (fs d).2.2.1 (fs d).2.2.2.1 (fs d).2.2.2.2 (dfb fs d) := h.2.2.2.2.2.2.1 d hd
theorem stR.lo (h : stR φ D F P S T s st dp fs) : ∀ d, d + 1 < dp → (fs d).2.2.2.2 = 0 → (fs d).2.2.1 ≤ 15 ∧ (fs d).2.1 < P.2.2.2.1 (fs d).1 := h.2.2.2.2.2.2.2
/-! one frame changes, perhaps those above it are left, perhaps the strand's own fields change -/
theorem stR.chg (h : stR φ D F P S T s st dp fs) (ow : own S) (hX : S'.2.2 = S.2.2) {d0 p0 : Nat} (hp : S.2.2.1.1 s d0 = some p0)
    (aS : agr (fun t i j => (t = 25 ∧ i = s ∧ j = 0) ∨ (27 ≤ t ∧ t ≤ 31 ∧ i = p0 ∧ j < 4)) S S') (aT : agr (fun t i j => (t = 54 ∧ i = s ∧ j = 0) ∨ (56 ≤ t ∧ t ≤ 63 ∧ i = s ∧ j = d0) ∨ t < 54) T T')
    {st' dp' : Nat} {fs' : aFs} (sc : scR S' T' s st' dp') (hd : dp' ≤ dp) (hfs : ∀ d, d < dp' → d ≠ d0 → fs' d = fs d) (hdf : ∀ d, d < dp' → d ≠ d0 → dfb fs' d = dfb fs d)
    (fr : d0 < dp' → frR φ D F P S' p0 T' s d0 (fs' d0).1 (fs' d0).2.1 (fs' d0).2.2.1 (fs' d0).2.2.2.1 (fs' d0).2.2.2.2 (dfb fs' d0))
    (lo : d0 + 1 < dp' → (fs' d0).2.2.2.2 = 0 → (fs' d0).2.2.1 ≤ 15 ∧ (fs' d0).2.1 < P.2.2.2.1 (fs' d0).1) : stR φ D F P S' T' s st' dp' fs' := by
  obtain ⟨a1, a2, a3, a4, a5, a6⟩ := sc
  refine ⟨a1, a2, a3, a4, a5, a6, fun d h1 => ?_, fun d h1 h2 => ?_⟩
  · by_cases e : d = d0
    · subst e
      exact ⟨p0, by rw [hX]; exact hp, fr h1⟩
    · obtain ⟨p, hp1, q⟩ := h.fr (d := d) (by omega)
      refine ⟨p, by rw [hX]; exact hp1, ?_⟩
      rw [hfs d h1 e, hdf d h1 e]
      have hne : p ≠ p0 := fun z => by
        subst z
        exact e (ow.2.1 _ _ _ _ _ hp1 hp).2
      exact q.keep (by rw [hX]; exact q.1) (fun t x y j z => aS t p j (by omega)) (fun t x y => aT t s d (by omega))
  · by_cases e : d = d0
    · subst e
      exact lo h1 h2
    · have e1 := hfs d (by omega) e
      rw [e1] at h2 ⊢
      exact h.lo d (by omega) h2
/-! the strand's own fields stay -/
theorem scR.keep (h : scR S T s st dp) (h1 : S'.1 25 s 0 = S.1 25 s 0) (h2 : S'.2.1 25 s 0 = S.2.1 25 s 0) (h3 : T'.1 54 s 0 = T.1 54 s 0) : scR S' T' s st dp := by
  unfold scR
  rw [h1, h2, h3]
  exact h
/-! a frame is entered -/
theorem stR.ent (h : stR φ D F P S T s st dp fs) (hs : s < 16) {p f lo pa q kq a : Nat} (en : enR S S' s dp p f lo pa q kq a) (hdp : dp < 30) (hst : 1 ≤ st ∧ st ≤ 4)
    (aT : agr (fun t i j => (t = 54 ∧ i = s ∧ j = 0) ∨ (56 ≤ t ∧ t ≤ 63 ∧ i = s ∧ j = dp) ∨ t < 54) T T') (h54 : ∀ k, T'.1 54 s 0 k = if k = 1 then nI (dp + 1) else T.1 54 s 0 k)
    {fs' : aFs} (hfs : ∀ d, d < dp → fs' d = fs d)
    (fr : frR φ D F P S' p T' s dp (fs' dp).1 (fs' dp).2.1 (fs' dp).2.2.1 (fs' dp).2.2.2.1 (fs' dp).2.2.2.2 (dfb fs' dp))
    (lo : ∀ d, d + 1 = dp → (fs d).2.2.2.2 = 0 → (fs d).2.2.1 ≤ 15 ∧ (fs d).2.1 < P.2.2.2.1 (fs d).1) : stR φ D F P S' T' s st (dp + 1) fs' := by
  obtain ⟨⟨a1, a2, a3, a4, a5, a6, a6'⟩, ⟨b1, b2⟩, c, ⟨d1, d2⟩, _, _, _⟩ := en
  obtain ⟨s1, s2, s3, s4, s5, s6⟩ := h.sc
  refine ⟨by rw [d1, if_neg (by omega)]; exact s1, ⟨by rw [d1, if_neg (by omega)]; exact s2.1, by rw [h54, if_neg (by omega)]; exact s2.2.1, s2.2.2⟩, ⟨by rw [d1, if_pos rfl], by rw [h54, if_pos rfl], by omega⟩, by omega, fun z => by rw [d2]; exact s5 z, fun z => by omega, fun d hd => ?_, fun d h1 h2 => ?_⟩
  · by_cases e : d = dp
    · subst e
      exact ⟨p, a1, fr⟩
    · obtain ⟨q, hq, r⟩ := h.fr (d := d) (by omega)
      refine ⟨q, by rw [a2 s d (by omega)]; exact hq, ?_⟩
      have hdf : dfb fs' d = dfb fs d := by
        cases d with
        | zero => rfl
        | succ d => rw [dfb_s, dfb_s, hfs d (by omega)]
      rw [hfs d (by omega), hdf]
      have hne : q ≠ p := fun z => by
        subst z
        exact e (b1 _ _ hq).2
      exact r.keep (a4 _ r.1) (fun t x y j z => c t q j (by omega)) (fun t x y => aT t s d (by omega))
  · have e1 := hfs d (by omega)
    rw [e1] at h2 ⊢
    by_cases e : d + 1 = dp
    · exact lo d e h2
    · exact h.lo d (by omega) h2
end STM
