/-! One strand changes; how an instruction ends. -/
def aset (A : aS) (r st dp : Nat) (fs : aFs) : aS := (va_up A.1 r st, va_up A.2.1 r dp, va_up A.2.2.1 r fs, A.2.2.2)
theorem aset_1 (A : aS) (r st dp : Nat) (fs : aFs) : (aset A r st dp fs).1 r = st := va_up_self _ _ _
theorem aset_2 (A : aS) (r st dp : Nat) (fs : aFs) : (aset A r st dp fs).2.1 r = dp := va_up_self _ _ _
theorem aset_3 (A : aS) (r st dp : Nat) (fs : aFs) : (aset A r st dp fs).2.2.1 r = fs := va_up_self _ _ _
theorem aset_1n (A : aS) {r s : Nat} (st dp : Nat) (fs : aFs) (h : s ≠ r) : (aset A r st dp fs).1 s = A.1 s := va_up_ne _ _ h
theorem aset_2n (A : aS) {r s : Nat} (st dp : Nat) (fs : aFs) (h : s ≠ r) : (aset A r st dp fs).2.1 s = A.2.1 s := va_up_ne _ _ h
theorem aset_3n (A : aS) {r s : Nat} (st dp : Nat) (fs : aFs) (h : s ≠ r) : (aset A r st dp fs).2.2.1 s = A.2.2.1 s := va_up_ne _ _ h
/-! the reference's side: strand r and rows for passing -/
def km (T T' : sS) (r : Nat) : Prop := agr (fun t i j => (t = 54 ∧ i = r ∧ j = 0) ∨ (56 ≤ t ∧ t ≤ 63 ∧ i = r) ∨ (46 ≤ t ∧ t ≤ 50) ∨ t = 33) T T' ∧ (∀ k, k ≤ 24 ∨ k = 29 ∨ k = 38 → T'.1 33 0 0 k = T.1 33 0 0 k) ∧ T'.2.1 33 0 0 28 = T.2.1 33 0 0 28 ∧ T'.2.2 = T.2.2 ∧ T'.2.1 54 r 0 3 = T.2.1 54 r 0 3
theorem km.refl (T : sS) (r : Nat) : km T T r := ⟨agr.refl _ _, fun _ _ => rfl, rfl, rfl, rfl⟩
theorem km.trans {T T' T'' : sS} {r : Nat} (h : km T T' r) (h' : km T' T'' r) : km T T'' r := ⟨h.1.trans h'.1, fun k z => (h'.2.1 k z).trans (h.2.1 k z), h'.2.2.1.trans h.2.2.1, h'.2.2.2.1.trans h.2.2.2.1, h'.2.2.2.2.trans h.2.2.2.2⟩
theorem kt.km {T T' : sS} {r : Nat} (h : kt T T' r) : km T T' r := ⟨h.1.mono (fun t i j z => by omega), fun k z => by rw [(h.1 33 0 0 (by omega)).1], by rw [(h.1 33 0 0 (by omega)).2], h.2.1, h.2.2⟩
section EXI
variable {φ : Nat → Nat} {D : Nat → Prop} {F N : Nat} {P : aP} {S S' T T' : sS} {A : aS} {r : Nat}
theorem wR.one (h : wR φ D F N P S T A) (hr : r < 16) (k : kp S S' r) (m : km T T' r) (ow : own S') {st dp : Nat} {fs : aFs} (R : stR φ D F P S' T' r st dp fs) (hst : st ≤ 1 ∨ 5 ≤ st) : wR φ D F N P S' T' (aset A r st dp fs) := by
  obtain ⟨⟨h1, h1'⟩, h2, h3, h4, h5, h6, h7, h8, h9, h10⟩ := h
  obtain ⟨a1, a2, a3, a4, a5, a6, a7, a8, a9⟩ := k
  have k : kp S S' r := ⟨a1, a2, a3, a4, a5, a6, a7, a8, a9⟩
  obtain ⟨m1, m2, m3, m4, m5⟩ := m
  refine ⟨⟨?_, h1'⟩, fun s hs => ?_, ?_, fun x hx => ?_, h5, ?_, ?_, ?_, ?_, ow⟩
  · exact h1.keep (fun t x y => (a1 t 0 0 (by omega) (by omega)).1) (fun t x y => (m1 t 0 0 (by omega)).1) ⟨m2 13 (by omega), m2 14 (by omega)⟩
  · by_cases e : s = r
    · subst e
      rw [aset_1, aset_2, aset_3]
      exact R
    · rw [aset_1n _ _ _ _ e, aset_2n _ _ _ _ e, aset_3n _ _ _ _ e]
      exact (h2 s hs).keep (a1 25 s 0 (by omega) (by omega)) (m1 54 s 0 (by omega)).1 (fun d p hp => ⟨by rw [a5 s d e]; exact hp, a7 p, fun t x y j z => a2 s d p e hp t j (by omega) (by omega)⟩) (fun d t x y => m1 t s d (by omega))
  · exact h3.keep (fun t x y => a4 t 5 (by omega) (by omega)) ⟨(m1 36 0 0 (by omega)).1, (m1 43 0 0 (by omega)).2⟩
  · exact (h4 x hx).keep k.hk (fun t x y => m1 t _ 0 (by omega))
  · exact h6.keep ⟨by rw [(a1 8 0 0 (by omega) (by omega)).1], by rw [(a1 8 0 0 (by omega) (by omega)).1], (a1 10 0 0 (by omega) (by omega)).1⟩ ⟨m2 15 (by omega), (m1 45 0 0 (by omega)).1⟩
  · obtain ⟨⟨w1, w2⟩, w3⟩ := h7
    refine ⟨⟨by rw [(a1 8 0 0 (by omega) (by omega)).1]; exact w1, by rw [m3]; exact w2⟩, fun s hs hs2 hs4 => ?_⟩
    by_cases e : s = r
    · subst e
      rw [aset_1] at hs2 hs4
      omega
    · rw [aset_1n _ _ _ _ e] at hs2 hs4 ⊢
      rw [aset_2n _ _ _ _ e, aset_3n _ _ _ _ e]
      obtain ⟨⟨q1, q2, q3⟩, q4⟩ := w3 s hs hs2 hs4
      refine ⟨⟨by rw [(a1 25 s 0 (by omega) (by omega)).1]; exact q1, by rw [(m1 54 s 0 (by omega)).2]; exact q2, q3⟩, fun d hd => ?_⟩
      obtain ⟨y1, y2, y3⟩ := q4 d hd
      refine ⟨y1, y2, fun z => ?_⟩
      obtain ⟨c, c1, c2, c3, c4, c5, c6, p, c7, c8⟩ := y3 z
      exact ⟨c, c1, c2, by rw [(a1 25 s 0 (by omega) (by omega)).1]; exact c3, c4, c5, c6, p, by rw [a5 s d e]; exact c7, fun k hk => by rw [(a2 s d p e c7 31 1 (by omega) (by omega)).1]; exact c8 k hk⟩
  · obtain ⟨g1, g2, g3, g4, g5, g6, g7, g8⟩ := h8
    unfold scaR
    rw [(a1 8 0 0 (by omega) (by omega)).1, (a1 11 0 0 (by omega) (by omega)).1, (a1 23 0 0 (by omega) (by omega)).1, m2 16 (by omega), m2 20 (by omega), m2 22 (by omega), m2 23 (by omega), m2 21 (by omega), m2 18 (by omega), m2 19 (by omega), m2 17 (by omega)]
    exact ⟨g1, g2, g3, g4, g5, g6, g7, g8⟩
  · exact h9.keep ⟨by rw [(a1 23 0 0 (by omega) (by omega)).1], by rw [(a1 23 0 0 (by omega) (by omega)).1], (a1 24 0 0 (by omega) (by omega)).2⟩ ⟨m2 24 (by omega), (m1 44 0 0 (by omega)).2⟩
/-! the top frame alone changes -/
theorem wR.frm (h : wR φ D F N P S T A) (hr : r < 16) {d p : Nat} (h1 : A.1 r = 1) (hd : A.2.1 r = d + 1) (hp : S.2.2.1.1 r d = some p) (aS : agr (fun t i j => 27 ≤ t ∧ t ≤ 31 ∧ i = p ∧ j < 4) S S') (hX : S'.2.2 = S.2.2)
    (aT : agr (fun t i j => (56 ≤ t ∧ t ≤ 63 ∧ i = r ∧ j = d) ∨ (46 ≤ t ∧ t ≤ 50)) T T') (hT : T'.2.2 = T.2.2) {f pc n m e : Nat} (fr : frR φ D F P S' p T' r d f pc n m e (dfb (A.2.2.1 r) d)) : wR φ D F N P S' T' (aset A r 1 (d + 1) (fset (A.2.2.1 r) d (f, pc, n, m, e))) ∧ kp S S' r ∧ km T T' r ∧ own S' := by
  have R := h.2.1 r hr
  have ow := h.2.2.2.2.2.2.2.2.2
  rw [h1, hd] at R
  have k : kp S S' r := kp.fr ow hp (aS.mono (fun t i j z => by omega)) hX (fun k _ _ => by rw [(aS 25 r 0 (by omega)).1])
  have m : km T T' r := ⟨aT.mono (fun t i j z => by omega), fun k z => by rw [(aT 33 0 0 (by omega)).1], by rw [(aT 33 0 0 (by omega)).2], hT, by rw [(aT 54 r 0 (by omega)).2]⟩
  refine ⟨h.one hr k m (ow.same hX) ?_ (by omega), k, m, ow.same hX⟩
  refine R.chg ow hX hp (aS.mono (fun t i j z => by omega)) (aT.mono (fun t i j z => by omega)) (R.sc.keep ?_ ?_ ?_) (by omega) (fun y _ hy => fset_ne _ hy) (fun y _ hy => dfb_set _ (by omega)) (fun _ => ?_) (fun z => by omega)
  · exact (aS 25 r 0 (by omega)).1
  · exact (aS 25 r 0 (by omega)).2
  · exact (aT 54 r 0 (by omega)).1
  · rw [fset_at, dfb_set _ (Nat.le_refl _)]
    exact fr
end EXI
