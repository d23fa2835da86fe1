/-! How the class's store and the reference's belong together. φ: from a place of the heap to the reference's number; D: the places that count. -/
def vr (φ : Nat → Nat) (D : Nat → Prop) (x : Int64) (g : Int32) (k : Int32) (v : Int64) : Prop :=
  (g = nI 0 ∧ k = nI 0 ∧ x = v) ∨ (g = nI 1 ∧ k = nI 1 ∧ x = 0) ∨ ∃ h, D h ∧ g = nI (h + 2) ∧ k = nI 2 ∧ x = 0 ∧ v = Int64.ofNat (φ h)
/-! a program's tables: params, locals, first, length, ops, args -/
abbrev aP : Type := (Nat → Nat) × (Nat → Nat) × (Nat → Nat) × (Nat → Nat) × (Nat → Nat) × (Nat → Int32)
/-! a frame: p its place, s d the reference's name; f pc n m e: function, place, operands, deferred, ending; b: it is a deferred call -/
def frR (φ : Nat → Nat) (D : Nat → Prop) (F : Nat) (P : aP) (S : sS) (p : Nat) (T : sS) (s d : Nat) (f pc n m e b : Nat) : Prop :=
  (S.2.2.2.1.1 p = true) ∧
  (S.1 27 p 0 5 = nI f ∧ T.1 56 s d 0 = nI f ∧ f < F) ∧
  (S.1 27 p 0 6 = nI pc ∧ T.1 56 s d 1 = nI pc ∧ pc ≤ P.2.2.2.1 f) ∧
  (S.1 29 p 1 2 = nI n ∧ T.1 56 s d 2 = nI n ∧ n ≤ 16 ∧ ∀ i, i < n → vr φ D (S.2.1 30 p 1 i) (S.1 31 p 1 i) (T.1 58 s d i) (T.2.1 62 s d i)) ∧
  (S.1 29 p 2 2 = nI m ∧ T.1 56 s d 3 = nI m ∧ m ≤ 6 ∧ ∀ i, i < m → vr φ D (S.2.1 30 p 2 i) (S.1 31 p 2 i) (T.1 59 s d i) (T.2.1 63 s d i) ∧ ∃ g, S.1 28 p 0 i = nI g ∧ T.1 60 s d i = nI g ∧ g < F ∧ P.1 g = 1) ∧
  (S.1 29 p 0 2 = nI (P.2.1 f) ∧ ∀ i, i < P.2.1 f → vr φ D (S.2.1 30 p 0 i) (S.1 31 p 0 i) (T.1 57 s d i) (T.2.1 61 s d i)) ∧
  (S.1 27 p 0 7 = nI e ∧ T.1 56 s d 4 = nI e ∧ T.1 56 s d 5 = nI b ∧ b ≤ 1 ∧
    (e = 0 ∧ S.1 29 p 3 2 = nI 0 ∨ e = 1 ∧ S.1 29 p 3 2 = nI 1 ∧ vr φ D (S.2.1 30 p 3 0) (S.1 31 p 3 0) (T.1 56 s d 7) (T.2.1 56 s d 8) ∨ e = 2 ∧ S.1 29 p 3 2 = nI 1 ∧ S.2.1 30 p 3 0 = T.2.1 56 s d 6 ∧ S.1 31 p 3 0 = nI 0))
abbrev aFs : Type := Nat → Nat × Nat × Nat × Nat × Nat
/-! whether the frame at a depth is a deferred call -/
def dfb (fs : aFs) (d : Nat) : Nat := match d with
  | 0 => 0
  | d + 1 => if (fs d).2.2.2.2 = 0 then 0 else 1
/-! a strand: its status, its depth, its frames -/
def stR (φ : Nat → Nat) (D : Nat → Prop) (F : Nat) (P : aP) (S T : sS) (s st dp : Nat) (fs : aFs) : Prop :=
  (S.1 25 s 0 1 = nI s) ∧
  (S.1 25 s 0 4 = nI st ∧ T.1 54 s 0 0 = nI st ∧ st ≤ 6) ∧
  (S.1 25 s 0 3 = nI dp ∧ T.1 54 s 0 1 = nI dp ∧ dp ≤ 30) ∧
  (dp = 0 ↔ st = 0 ∨ 5 ≤ st) ∧
  (st < 5 → S.2.1 25 s 0 7 = 0) ∧
  (5 ≤ st → (S.2.1 25 s 0 7).toInt32 = T.1 54 s 0 2) ∧
  (∀ d, d < dp → ∃ p, S.2.2.1.1 s d = some p ∧ frR φ D F P S p T s d (fs d).1 (fs d).2.1 (fs d).2.2.1 (fs d).2.2.2.1 (fs d).2.2.2.2 (dfb fs d)) ∧
  (∀ d, d + 1 < dp → (fs d).2.2.2.2 = 0 → (fs d).2.2.1 ≤ 15 ∧ (fs d).2.1 < P.2.2.2.1 (fs d).1)
/-! the top goes on -/
def tpR (P : aP) (dp : Nat) (fs : aFs) : Prop := ∀ d, dp = d + 1 → (fs d).2.2.2.2 = 0 ∧ (fs d).2.1 < P.2.2.2.1 (fs d).1
/-! the tables of both -/
def pgR (S T : sS) (F N : Nat) (P : aP) : Prop :=
  (S.1 1 0 0 6 = nI F ∧ T.1 33 0 0 13 = nI F ∧ F ≤ 32) ∧ (S.1 1 0 0 7 = nI N ∧ T.1 33 0 0 14 = nI N ∧ N ≤ 1500) ∧
  (∀ f, f < F → (S.1 2 0 0 f = nI (P.1 f) ∧ T.1 37 0 0 f = nI (P.1 f) ∧ P.1 f ≤ 4 ∧ P.1 f ≤ P.2.1 f) ∧
    (S.1 3 0 0 f = nI (P.2.1 f) ∧ T.1 38 0 0 f = nI (P.2.1 f) ∧ P.2.1 f ≤ 12) ∧
    (S.1 4 0 0 f = nI (P.2.2.1 f) ∧ T.1 39 0 0 f = nI (P.2.2.1 f)) ∧
    (S.1 5 0 0 f = nI (P.2.2.2.1 f) ∧ T.1 40 0 0 f = nI (P.2.2.2.1 f) ∧ P.2.2.1 f + P.2.2.2.1 f ≤ N)) ∧
  (∀ q, q < N → (S.1 6 0 0 q = nI (P.2.2.2.2.1 q) ∧ T.1 41 0 0 q = nI (P.2.2.2.2.1 q) ∧ P.2.2.2.2.1 q ≤ 36) ∧ S.1 7 0 0 q = P.2.2.2.2.2 q ∧ T.1 42 0 0 q = P.2.2.2.2.2 q) ∧
  ((F = 0 → N = 0) ∧ ∀ f, F = f + 1 → P.2.2.1 f + P.2.2.2.1 f = N)
/-! what allows lets in -/
def okI (lo o : Nat) (a : Int32) : Prop :=
  (o = 2 ∨ o = 3 → ∃ k, a = nI k ∧ k < lo) ∧ (o = 4 ∨ o = 5 → ∃ k, a = nI k ∧ k < 16) ∧ (o = 21 → ∃ k, a = nI k ∧ k ≤ 16) ∧
  (o = 22 ∨ o = 23 → ∃ k, a = nI k ∧ k < 16) ∧ (o = 27 → ∃ k, a = nI k ∧ k ≤ 8) ∧ (o = 31 → ∃ k, a = nI k ∧ (1 ≤ k ∧ k ≤ 4 ∨ 9 ≤ k ∧ k ≤ 12))
def pgA (F : Nat) (P : aP) : Prop := ∀ f, f < F → ∀ k, k < P.2.2.2.1 f → okI (P.2.1 f) (P.2.2.2.2.1 (P.2.2.1 f + k)) (P.2.2.2.2.2 (P.2.2.1 f + k))
/-! what isWhole asks -/
def whR (F : Nat) (P : aP) : Prop := ∀ f, f < F → (∃ l, P.2.2.2.1 f = l + 1 ∧ (P.2.2.2.2.1 (P.2.2.1 f + l) = 16 ∨ P.2.2.2.2.1 (P.2.2.1 f + l) = 19 ∨ P.2.2.2.2.1 (P.2.2.1 f + l) = 35)) ∧
  ∀ k, k < P.2.2.2.1 f → (P.2.2.2.2.1 (P.2.2.1 f + k) = 16 ∨ P.2.2.2.2.1 (P.2.2.1 f + k) = 17 → ∃ a, P.2.2.2.2.2 (P.2.2.1 f + k) = nI a ∧ a < P.2.2.2.1 f) ∧
    (P.2.2.2.2.1 (P.2.2.1 f + k) = 18 ∨ P.2.2.2.2.1 (P.2.2.1 f + k) = 20 ∨ P.2.2.2.2.1 (P.2.2.1 f + k) = 34 → ∃ a, P.2.2.2.2.2 (P.2.2.1 f + k) = nI a ∧ a < F) ∧
    (P.2.2.2.2.1 (P.2.2.1 f + k) = 34 → ∃ a, P.2.2.2.2.2 (P.2.2.1 f + k) = nI a ∧ P.1 a = 1)
/-! the class's frames and things have places of their own -/
def own (S : sS) : Prop :=
  (∀ s d p, S.2.2.1.1 s d = some p → s < 16 ∧ d < 30 ∧ S.2.2.2.1.1 p = true) ∧
  (∀ s d s' d' p, S.2.2.1.1 s d = some p → S.2.2.1.1 s' d' = some p → s = s' ∧ d = d') ∧
  (∀ h p, S.2.2.1.2 h = some p → h < 600 ∧ S.2.2.2.1.2 p = true) ∧
  (∀ h h' p, S.2.2.1.2 h = some p → S.2.2.1.2 h' = some p → h = h') ∧
  (∀ p, S.2.2.2.1.1 p = true → (p < S.2.2.2.2.1 ∧ 0 < p) ∧ S.2.2.2.1.2 p = false) ∧
  (∀ p, S.2.2.2.1.2 p = true → p < S.2.2.2.2.1 ∧ 0 < p) ∧ 0 < S.2.2.2.2.1
def cF (X : Nat → Nat → Option Nat) : Nat := (List.range 480).countP fun k => (X (k / 30) (k % 30)).isSome
def cT (X : Nat → Option Nat) : Nat := (List.range 600).countP fun k => (X k).isSome
/-! the room taken; x: exceptions -/
def rmR (S : sS) (x : Nat) : Prop := S.2.2.2.2.2.1 = 7857 + 14 * cF S.2.2.1.1 + 4 * cT S.2.2.1.2 + x ∧ S.2.2.2.2.2.2 ≤ 200000 + 96 * cF S.2.2.1.1 + 40 * cT S.2.2.1.2 + 6 * x
/-! two stores are alike but for some names -/
def agr (E : Nat → Nat → Nat → Prop) (S S' : sS) : Prop := ∀ t i j, ¬ E t i j → S'.1 t i j = S.1 t i j ∧ S'.2.1 t i j = S.2.1 t i j
theorem agr.refl (E : Nat → Nat → Nat → Prop) (S : sS) : agr E S S := fun _ _ _ _ => ⟨rfl, rfl⟩
theorem agr.trans {E : Nat → Nat → Nat → Prop} {S S' S'' : sS} (h : agr E S S') (h' : agr E S' S'') : agr E S S'' := fun t i j z => ⟨((h' t i j z).1).trans (h t i j z).1, ((h' t i j z).2).trans (h t i j z).2⟩
theorem agr.mono {E E' : Nat → Nat → Nat → Prop} {S S' : sS} (h : agr E S S') (hE : ∀ t i j, E t i j → E' t i j) : agr E' S S' := fun t i j z => h t i j fun y => z (hE t i j y)
theorem agr.i {E : Nat → Nat → Nat → Prop} {S S' : sS} (h : agr E S S') {t i j : Nat} (k : Nat) (x : Int32) (hE : E t i j) : agr E S (siI S' t i j k x) := fun t' i' j' z => ⟨(siI_ne S' k x (fun y => z (by obtain ⟨rfl, rfl, rfl⟩ := y; exact hE))).trans (h t' i' j' z).1, (h t' i' j' z).2⟩
theorem agr.l {E : Nat → Nat → Nat → Prop} {S S' : sS} (h : agr E S S') {t i j : Nat} (k : Nat) (x : Int64) (hE : E t i j) : agr E S (siL S' t i j k x) := fun t' i' j' z => ⟨(h t' i' j' z).1, (siL_ne S' k x (fun y => z (by obtain ⟨rfl, rfl, rfl⟩ := y; exact hE))).trans (h t' i' j' z).2⟩
/-! a frame whose names are alike -/
theorem frR.keep {φ : Nat → Nat} {D : Nat → Prop} {F : Nat} {P : aP} {S S' T T' : sS} {p s d f pc n m e b : Nat} (h : frR φ D F P S p T s d f pc n m e b) (hM : S'.2.2.2.1.1 p = true) (h1 : ∀ t, 27 ≤ t → t ≤ 31 → ∀ j, j < 4 → S'.1 t p j = S.1 t p j ∧ S'.2.1 t p j = S.2.1 t p j) (h2 : ∀ t, 56 ≤ t → t ≤ 63 → T'.1 t s d = T.1 t s d ∧ T'.2.1 t s d = T.2.1 t s d) : frR φ D F P S' p T' s d f pc n m e b := by
  unfold frR at h ⊢
  have a1 := (h1 27 (by omega) (by omega) 0 (by omega)).1
  have a2 := (h1 28 (by omega) (by omega) 0 (by omega)).1
  have b0 := (h1 29 (by omega) (by omega) 0 (by omega)).1
  have b1 := (h1 29 (by omega) (by omega) 1 (by omega)).1
  have b2 := (h1 29 (by omega) (by omega) 2 (by omega)).1
  have b3 := (h1 29 (by omega) (by omega) 3 (by omega)).1
  have c0 := (h1 31 (by omega) (by omega) 0 (by omega)).1
  have c1 := (h1 31 (by omega) (by omega) 1 (by omega)).1
  have c2 := (h1 31 (by omega) (by omega) 2 (by omega)).1
  have c3 := (h1 31 (by omega) (by omega) 3 (by omega)).1
  have d0 := (h1 30 (by omega) (by omega) 0 (by omega)).2
  have d1 := (h1 30 (by omega) (by omega) 1 (by omega)).2
  have d2 := (h1 30 (by omega) (by omega) 2 (by omega)).2
  have d3 := (h1 30 (by omega) (by omega) 3 (by omega)).2
  have e6 := h2 56 (by omega) (by omega)
  have e7 := h2 57 (by omega) (by omega)
  have e8 := h2 58 (by omega) (by omega)
  have e9 := h2 59 (by omega) (by omega)
  have f0 := h2 60 (by omega) (by omega)
  have f1 := h2 61 (by omega) (by omega)
  have f2 := h2 62 (by omega) (by omega)
  have f3 := h2 63 (by omega) (by omega)
  rw [a1, a2, b0, b1, b2, b3, c0, c1, c2, c3, d0, d1, d2, d3, e6.1, e6.2, e7.1, e8.1, e9.1, f0.1, f1.2, f2.2, f3.2]
  exact ⟨hM, h.2⟩
/-! a strand whose names are alike -/
theorem stR.keep {φ : Nat → Nat} {D : Nat → Prop} {F : Nat} {P : aP} {S S' T T' : sS} {s st dp : Nat} {fs : aFs} (h : stR φ D F P S T s st dp fs) (h0 : S'.1 25 s 0 = S.1 25 s 0 ∧ S'.2.1 25 s 0 = S.2.1 25 s 0) (h3 : T'.1 54 s 0 = T.1 54 s 0)
    (hr : ∀ d p, S.2.2.1.1 s d = some p → S'.2.2.1.1 s d = some p ∧ (S.2.2.2.1.1 p = true → S'.2.2.2.1.1 p = true) ∧ ∀ t, 27 ≤ t → t ≤ 31 → ∀ j, j < 4 → S'.1 t p j = S.1 t p j ∧ S'.2.1 t p j = S.2.1 t p j)
    (h2 : ∀ d t, 56 ≤ t → t ≤ 63 → T'.1 t s d = T.1 t s d ∧ T'.2.1 t s d = T.2.1 t s d) : stR φ D F P S' T' s st dp fs := by
  unfold stR at h ⊢
  rw [h0.1, h0.2, h3]
  obtain ⟨z1, z2, z3, z4, z5, z6, z7, z8⟩ := h
  refine ⟨z1, z2, z3, z4, z5, z6, fun d hd => ?_, z8⟩
  obtain ⟨p, hp, q⟩ := z7 d hd
  obtain ⟨r1, r2, r3⟩ := hr d p hp
  exact ⟨p, r1, q.keep (r2 q.1) r3 (h2 d)⟩
/-! two stores are alike but for strand s and its frames -/
def kp (S S' : sS) (s : Nat) : Prop :=
  (∀ t i j, ¬ (t = 25 ∧ i = s ∧ j = 0) → ¬ (27 ≤ t ∧ t ≤ 32) → S'.1 t i j = S.1 t i j ∧ S'.2.1 t i j = S.2.1 t i j) ∧
  (∀ s' d p, s' ≠ s → S.2.2.1.1 s' d = some p → ∀ t j, 27 ≤ t → t ≤ 32 → S'.1 t p j = S.1 t p j ∧ S'.2.1 t p j = S.2.1 t p j) ∧
  (∀ h p, S.2.2.1.2 h = some p → ∀ t j, 27 ≤ t → t ≤ 32 → S'.1 t p j = S.1 t p j ∧ S'.2.1 t p j = S.2.1 t p j) ∧
  (∀ t j, 27 ≤ t → t ≤ 32 → S'.1 t 0 j = S.1 t 0 j ∧ S'.2.1 t 0 j = S.2.1 t 0 j) ∧
  (∀ s' d, s' ≠ s → S'.2.2.1.1 s' d = S.2.2.1.1 s' d) ∧ S'.2.2.1.2 = S.2.2.1.2 ∧ (∀ p, S.2.2.2.1.1 p = true → S'.2.2.2.1.1 p = true) ∧ S'.2.2.2.1.2 = S.2.2.2.1.2 ∧
  (∀ k, k ≠ 3 → k ≠ 4 → S'.1 25 s 0 k = S.1 25 s 0 k)
theorem kp.refl (S : sS) (s : Nat) : kp S S s := ⟨fun _ _ _ _ _ => ⟨rfl, rfl⟩, fun _ _ _ _ _ _ _ _ _ => ⟨rfl, rfl⟩, fun _ _ _ _ _ _ _ => ⟨rfl, rfl⟩, fun _ _ _ _ => ⟨rfl, rfl⟩, fun _ _ _ => rfl, rfl, fun _ h => h, rfl, fun _ _ _ => rfl⟩
theorem kp.trans {S S' S'' : sS} {s : Nat} (h : kp S S' s) (h' : kp S' S'' s) : kp S S'' s := by
  obtain ⟨a1, a2, a3, a4, a5, a6, a7, a8, a9⟩ := h
  obtain ⟨b1, b2, b3, b4, b5, b6, b7, b8, b9⟩ := h'
  refine ⟨fun t i j x y => ?_, fun s' d p x y t j z w => ?_, fun h p x t j z w => ?_, fun t j z w => ?_, fun s' d x => (b5 s' d x).trans (a5 s' d x), b6.trans a6, fun p x => b7 p (a7 p x), b8.trans a8, fun k x y => (b9 k x y).trans (a9 k x y)⟩
  · exact ⟨(b1 t i j x y).1.trans (a1 t i j x y).1, (b1 t i j x y).2.trans (a1 t i j x y).2⟩
  · have u := a2 s' d p x y t j z w
    have v := b2 s' d p x ((a5 s' d x).trans y) t j z w
    exact ⟨v.1.trans u.1, v.2.trans u.2⟩
  · have u := a3 h p x t j z w
    have v := b3 h p (by rw [a6]; exact x) t j z w
    exact ⟨v.1.trans u.1, v.2.trans u.2⟩
  · exact ⟨(b4 t j z w).1.trans (a4 t j z w).1, (b4 t j z w).2.trans (a4 t j z w).2⟩
/-! a change at one frame's names and at the strand's own -/
theorem kp.of {S S' : sS} {s p : Nat} (ow : own S) (hp : ∀ s' d, S.2.2.1.1 s' d = some p → s' = s) (hp0 : 0 < p) (hpT : ∀ h, S.2.2.1.2 h ≠ some p) (ha : agr (fun t i j => (t = 25 ∧ i = s ∧ j = 0) ∨ (27 ≤ t ∧ t ≤ 32 ∧ i = p)) S S') (h1 : ∀ s' d, s' ≠ s → S'.2.2.1.1 s' d = S.2.2.1.1 s' d) (h2 : S'.2.2.1.2 = S.2.2.1.2) (h3 : ∀ p, S.2.2.2.1.1 p = true → S'.2.2.2.1.1 p = true) (h4 : S'.2.2.2.1.2 = S.2.2.2.1.2) (h5 : ∀ k, k ≠ 3 → k ≠ 4 → S'.1 25 s 0 k = S.1 25 s 0 k) : kp S S' s := by
  refine ⟨fun t i j x y => ha t i j (by omega), fun s' d q x y t j z w => ha t q j ?_, fun h q x t j z w => ha t q j ?_, fun t j z w => ha t 0 j (by omega), h1, h2, h3, h4, h5⟩
  · intro e
    rcases e with e | e
    · omega
    · have e2 := e.2.2
      subst e2
      exact x (hp _ _ y)
  · intro e
    rcases e with e | e
    · omega
    · have e2 := e.2.2
      subst e2
      exact hpT _ x
theorem own.same {S S' : sS} (ow : own S) (h : S'.2.2 = S.2.2) : own S' := by
  unfold own
  rw [h]
  exact ow
theorem rmR.same {S S' : sS} {x : Nat} (r : rmR S x) (h : S'.2.2 = S.2.2) : rmR S' x := by
  unfold rmR
  rw [h]
  exact r
/-! the same at a frame that is there -/
theorem kp.fr {S S' : sS} {s d p : Nat} (ow : own S) (hp : S.2.2.1.1 s d = some p) (ha : agr (fun t i j => (t = 25 ∧ i = s ∧ j = 0) ∨ (27 ≤ t ∧ t ≤ 32 ∧ i = p)) S S') (h : S'.2.2 = S.2.2) (h5 : ∀ k, k ≠ 3 → k ≠ 4 → S'.1 25 s 0 k = S.1 25 s 0 k) : kp S S' s := by
  obtain ⟨a1, a2, a3, a4, a5, a6, a7⟩ := ow
  have hm := (a1 s d p hp).2.2
  refine kp.of ⟨a1, a2, a3, a4, a5, a6, a7⟩ (fun s' d' z => (a2 _ _ _ _ _ z hp).1) (a5 p hm).1.2 (fun h z => ?_) ha (fun _ _ _ => by rw [h]) (by rw [h]) (fun _ z => by rw [h]; exact z) (by rw [h]) h5
  have := (a3 h p z).2
  rw [(a5 p hm).2] at this
  cases this
/-! the reference's side -/
def kt (T T' : sS) (s : Nat) : Prop := agr (fun t i j => (t = 54 ∧ i = s ∧ j = 0) ∨ (56 ≤ t ∧ t ≤ 63 ∧ i = s)) T T' ∧ T'.2.2 = T.2.2 ∧ T'.2.1 54 s 0 3 = T.2.1 54 s 0 3
theorem kt.refl (T : sS) (s : Nat) : kt T T s := ⟨agr.refl _ _, rfl, rfl⟩
theorem kt.trans {T T' T'' : sS} {s : Nat} (h : kt T T' s) (h' : kt T' T'' s) : kt T T'' s := ⟨h.1.trans h'.1, h'.2.1.trans h.2.1, h'.2.2.trans h.2.2⟩
