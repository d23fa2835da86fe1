/-! The whole of both sides. -/
def glR (φ : Nat → Nat) (D : Nat → Prop) (S T : sS) : Prop := S.1 29 0 5 2 = nI 16 ∧ ∀ i, i < 16 → vr φ D (S.2.1 30 0 5 i) (S.1 31 0 5 i) (T.1 36 0 0 i) (T.2.1 43 0 0 i)
/-! an object: k its kind, z its size or room, w how many values -/
def obR (φ : Nat → Nat) (D : Nat → Prop) (S T : sS) (h : Nat) : Prop := ∃ p k z w c,
  S.2.2.1.2 h = some p ∧ S.2.2.2.1.2 p = true ∧
  (S.1 32 p 0 1 = nI k ∧ T.1 51 (φ h) 0 0 = nI k ∧ (k = 2 ∨ k = 3)) ∧
  (S.1 32 p 0 2 = nI z ∧ T.1 51 (φ h) 0 1 = nI z ∧ z ≤ 16 ∧ (k = 3 → z ≤ 8)) ∧
  (S.1 29 p 4 2 = nI w ∧ (k = 3 → T.1 51 (φ h) 0 2 = nI w) ∧ w ≤ z ∧ (k = 2 → w = z)) ∧
  (S.1 32 p 0 4 = nI c ∧ T.1 51 (φ h) 0 4 = nI c ∧ c ≤ 1) ∧
  S.1 32 p 0 3 = nI (k + z) ∧
  ∀ i, i < w → vr φ D (S.2.1 30 p 4 i) (S.1 31 p 4 i) (T.1 52 (φ h) 0 i) (T.2.1 53 (φ h) 0 i)
def quR (S T : sS) (Q : List Nat) : Prop := ∃ a, S.1 8 0 0 3 = nI a ∧ a < 16 ∧ S.1 8 0 0 4 = nI Q.length ∧ T.1 33 0 0 15 = nI Q.length ∧ Q.length ≤ 16 ∧ ∀ (i x : Nat), Q[i]? = some x → S.1 10 0 0 ((a + i) % 16) = nI x ∧ T.1 45 0 0 i = nI x
/-! who waits: w since when, W how many waits so far, o what the reference's clock is ahead -/
def wtR (P : aP) (S T : sS) (st dp : Nat → Nat) (fs : Nat → aFs) (w : Nat → Nat) (W o : Nat) : Prop :=
  (S.1 8 0 0 8 = nI W ∧ T.2.1 33 0 0 28 = Int64.ofNat (W + o)) ∧
  ∀ s, s < 16 → 2 ≤ st s → st s ≤ 4 → (S.1 25 s 0 5 = nI (w s) ∧ T.2.1 54 s 0 3 = Int64.ofNat (w s + o) ∧ w s < W) ∧
    (∀ d, dp s = d + 1 → (st s = 2 → 2 ≤ (fs s d).2.2.1) ∧ (st s = 3 → 1 ≤ (fs s d).2.2.1 ∧ (fs s d).2.2.1 ≤ 15) ∧
      (st s = 4 → ∃ c, 1 ≤ c ∧ c ≤ 4 ∧ S.1 25 s 0 6 = nI c ∧ 3 * c ≤ (fs s d).2.2.1 ∧ (fs s d).2.2.1 ≤ 14 + 3 * c ∧ (∃ q, (fs s d).2.1 = q + 1 ∧ P.2.2.2.2.2 (P.2.2.1 (fs s d).1 + q) &&& nI 7 = nI c) ∧
        ∃ p, S.2.2.1.1 s d = some p ∧ ∀ k, k < c → S.1 31 p 1 ((fs s d).2.2.1 - 3 * c + 3 * k + 1) = nI 0))
def scaR (S T : sS) : Prop :=
  S.1 8 0 0 5 = T.1 33 0 0 16 ∧ S.1 8 0 0 6 = T.1 33 0 0 20 ∧ S.1 8 0 0 7 = T.1 33 0 0 22 ∧ S.1 11 0 0 10 = T.1 33 0 0 23 ∧ S.1 23 0 0 8 = T.1 33 0 0 21 ∧ S.1 23 0 0 9 = T.1 33 0 0 18 ∧ S.1 23 0 0 10 = T.1 33 0 0 19 ∧ S.1 23 0 0 7 = T.1 33 0 0 17
def wrR (S T : sS) : Prop := ∃ a n, S.1 23 0 0 5 = nI a ∧ a < 2000 ∧ S.1 23 0 0 6 = nI n ∧ T.1 33 0 0 24 = nI n ∧ n ≤ 2000 ∧ ∀ i, i < n → S.2.1 24 0 0 ((a + i) % 2000) = T.2.1 44 0 0 i
abbrev aS : Type := (Nat → Nat) × (Nat → Nat) × (Nat → aFs) × List Nat × (Nat → Nat) × Nat × Nat
/-! all but the class's collector; A: statuses, depths, frames, the queue, since, waits, ahead -/
def wR (φ : Nat → Nat) (D : Nat → Prop) (F N : Nat) (P : aP) (S T : sS) (A : aS) : Prop :=
  (pgR S T F N P ∧ pgA F P) ∧
  (∀ s, s < 16 → stR φ D F P S T s (A.1 s) (A.2.1 s) (A.2.2.1 s)) ∧
  glR φ D S T ∧
  (∀ h, D h → obR φ D S T h) ∧
  ((∀ h, D h → h < 600 ∧ φ h < 1300) ∧ ∀ h h', D h → D h' → φ h = φ h' → h = h') ∧
  quR S T A.2.2.2.1 ∧
  wtR P S T A.1 A.2.1 A.2.2.1 A.2.2.2.2.1 A.2.2.2.2.2.1 A.2.2.2.2.2.2 ∧
  scaR S T ∧ wrR S T ∧ own S
/-! the class's heap is as it was -/
def hk (S S' : sS) : Prop :=
  (∀ t i j, 11 ≤ t → t ≤ 17 → S'.1 t i j = S.1 t i j ∧ S'.2.1 t i j = S.2.1 t i j) ∧
  (∀ h p, S.2.2.1.2 h = some p → ∀ t, 29 ≤ t → t ≤ 31 → S'.1 t p 4 = S.1 t p 4 ∧ S'.2.1 t p 4 = S.2.1 t p 4) ∧
  (∀ h p, S.2.2.1.2 h = some p → S'.1 32 p 0 = S.1 32 p 0) ∧
  S'.2.2.1.2 = S.2.2.1.2 ∧ S'.2.2.2.1.2 = S.2.2.2.1.2
theorem hk.refl (S : sS) : hk S S := ⟨fun _ _ _ _ _ => ⟨rfl, rfl⟩, fun _ _ _ _ _ _ => ⟨rfl, rfl⟩, fun _ _ _ => rfl, rfl, rfl⟩
theorem hk.trans {S S' S'' : sS} (h : hk S S') (h' : hk S' S'') : hk S S'' := by
  obtain ⟨a1, a2, a3, a4, a5⟩ := h
  obtain ⟨b1, b2, b3, b4, b5⟩ := h'
  refine ⟨fun t i j x y => ⟨(b1 t i j x y).1.trans (a1 t i j x y).1, (b1 t i j x y).2.trans (a1 t i j x y).2⟩, fun h p x t y z => ?_, fun h p x => ?_, b4.trans a4, b5.trans a5⟩
  · have u := a2 h p x t y z
    have v := b2 h p (by rw [a4]; exact x) t y z
    exact ⟨v.1.trans u.1, v.2.trans u.2⟩
  · exact (b3 h p (by rw [a4]; exact x)).trans (a3 h p x)
theorem kp.hk {S S' : sS} {s : Nat} (h : kp S S' s) : hk S S' := by
  obtain ⟨a1, a2, a3, a4, a5, a6, a7, a8, a9⟩ := h
  exact ⟨fun t i j x y => a1 t i j (by omega) (by omega), fun h p x t y z => a3 h p x t 4 (by omega) (by omega), fun h p x => (a3 h p x 32 0 (by omega) (by omega)).1, a6, a8⟩
section WLD
variable {φ : Nat → Nat} {D : Nat → Prop} {F N : Nat} {P : aP} {S S' T T' : sS}
theorem obR.keep {h : Nat} (o : obR φ D S T h) (k : hk S S') (ht : ∀ t, 51 ≤ t → t ≤ 53 → T'.1 t (φ h) 0 = T.1 t (φ h) 0 ∧ T'.2.1 t (φ h) 0 = T.2.1 t (φ h) 0) : obR φ D S' T' h := by
  obtain ⟨p, k1, z, w, c, hp, r⟩ := o
  obtain ⟨b1, b2, b3, b4, b5⟩ := k
  refine ⟨p, k1, z, w, c, by rw [b4]; exact hp, ?_⟩
  rw [b5, b3 h p hp, (b2 h p hp 29 (by omega) (by omega)).1, (b2 h p hp 31 (by omega) (by omega)).1, (b2 h p hp 30 (by omega) (by omega)).2, (ht 51 (by omega) (by omega)).1, (ht 52 (by omega) (by omega)).1, (ht 53 (by omega) (by omega)).2]
  exact r
theorem pgR.keep {F N : Nat} (h : pgR S T F N P) (a : ∀ t, 1 ≤ t → t ≤ 7 → S'.1 t 0 0 = S.1 t 0 0) (b : ∀ t, 37 ≤ t → t ≤ 42 → T'.1 t 0 0 = T.1 t 0 0) (c : T'.1 33 0 0 13 = T.1 33 0 0 13 ∧ T'.1 33 0 0 14 = T.1 33 0 0 14) : pgR S' T' F N P := by
  unfold pgR at h ⊢
  rw [a 1 (by omega) (by omega), a 2 (by omega) (by omega), a 3 (by omega) (by omega), a 4 (by omega) (by omega), a 5 (by omega) (by omega), a 6 (by omega) (by omega), a 7 (by omega) (by omega), b 37 (by omega) (by omega), b 38 (by omega) (by omega), b 39 (by omega) (by omega), b 40 (by omega) (by omega), b 41 (by omega) (by omega), b 42 (by omega) (by omega), c.1, c.2]
  exact h
theorem glR.keep (h : glR φ D S T) (a : ∀ t, 29 ≤ t → t ≤ 31 → S'.1 t 0 5 = S.1 t 0 5 ∧ S'.2.1 t 0 5 = S.2.1 t 0 5) (b : T'.1 36 0 0 = T.1 36 0 0 ∧ T'.2.1 43 0 0 = T.2.1 43 0 0) : glR φ D S' T' := by
  unfold glR at h ⊢
  rw [(a 29 (by omega) (by omega)).1, (a 31 (by omega) (by omega)).1, (a 30 (by omega) (by omega)).2, b.1, b.2]
  exact h
theorem quR.keep {Q : List Nat} (h : quR S T Q) (a : S'.1 8 0 0 3 = S.1 8 0 0 3 ∧ S'.1 8 0 0 4 = S.1 8 0 0 4 ∧ S'.1 10 0 0 = S.1 10 0 0) (b : T'.1 33 0 0 15 = T.1 33 0 0 15 ∧ T'.1 45 0 0 = T.1 45 0 0) : quR S' T' Q := by
  unfold quR at h ⊢
  rw [a.1, a.2.1, a.2.2, b.1, b.2]
  exact h
theorem wrR.keep (h : wrR S T) (a : S'.1 23 0 0 5 = S.1 23 0 0 5 ∧ S'.1 23 0 0 6 = S.1 23 0 0 6 ∧ S'.2.1 24 0 0 = S.2.1 24 0 0) (b : T'.1 33 0 0 24 = T.1 33 0 0 24 ∧ T'.2.1 44 0 0 = T.2.1 44 0 0) : wrR S' T' := by
  unfold wrR at h ⊢
  rw [a.1, a.2.1, a.2.2, b.1, b.2]
  exact h
end WLD
