/-! What is reached is among what counts. -/
section RCD
variable {φ : Nat → Nat} {D : Nat → Prop} {F N : Nat} {P : aP} {S S' T T' : sS} {A : aS} {r s d p f pc n m e b k y : Nat} {G : jG} {t j : Nat}
theorem vr.tg {x v : Int64} {g kk : Int32} (h : vr φ D x g kk v) (hE : ∀ h, D h → h < 600) : ∃ q, g = nI q ∧ q < 602 := by
  rcases h with ⟨h, _⟩ | ⟨h, _⟩ | ⟨y, hy, h, _⟩
  · exact ⟨0, h, by omega⟩
  · exact ⟨1, h, by omega⟩
  · exact ⟨y + 2, h, by have := hE y hy; omega⟩
theorem vr.dm {x v : Int64} {g kk : Int32} (h : vr φ D x g kk v) (hE : ∀ h, D h → h < 600) {y : Nat} (hy : y < 600) (hg : g = nI (y + 2)) : D y := by
  rcases h with ⟨h, _⟩ | ⟨h, _⟩ | ⟨z, hz, h, _⟩
  · rw [h] at hg
    have := (nI_eq (by omega) (by omega)).mp hg
    omega
  · rw [h] at hg
    have := (nI_eq (by omega) (by omega)).mp hg
    omega
  · rw [h] at hg
    have h6 := hE z hz
    have := (nI_eq (by omega) (by omega)).mp hg
    have : z = y := by omega
    rw [← this]
    exact hz
/-! the rows of a frame -/
theorem frR.rows (h : frR φ D F P S p T s d f pc n m e b) (hl : P.2.1 f ≤ 12) : ∀ k, k < 4 → ∃ n, S.1 29 p k 2 = nI n ∧ n ≤ srl k ∧ srx S.2.2.2.1 p k = true ∧ ∀ i, i < n → ∃ kk v, vr φ D (S.2.1 30 p k i) (S.1 31 p k i) kk v := by
  obtain ⟨hM, ⟨f1, f2, f3⟩, ⟨p1, p2, p3⟩, ⟨o1, o2, o3, o4⟩, ⟨d1, d2, d3, d4⟩, ⟨l1, l2⟩, ⟨e1, e2, e3, e4, e5⟩⟩ := h
  intro k hk
  rcases (show k = 0 ∨ k = 1 ∨ k = 2 ∨ k = 3 by omega) with rfl | rfl | rfl | rfl
  · exact ⟨P.2.1 f, l1, hl, xr0 hM, fun i hi => ⟨_, _, l2 i hi⟩⟩
  · exact ⟨n, o1, o3, xr1 hM, fun i hi => ⟨_, _, o4 i hi⟩⟩
  · exact ⟨m, d1, d3, xr2 hM, fun i hi => ⟨_, _, (d4 i hi).1⟩⟩
  · rcases e5 with ⟨_, e⟩ | ⟨_, e, v⟩ | ⟨_, e, v, v'⟩
    · exact ⟨0, e, Nat.zero_le _, xr3 hM, fun i hi => by omega⟩
    · exact ⟨1, e, Nat.le_refl _, xr3 hM, fun i hi => by
        have : i = 0 := by omega
        subst this
        exact ⟨_, _, v⟩⟩
    · exact ⟨1, e, Nat.le_refl _, xr3 hM, fun i hi => by
        have : i = 0 := by omega
        subst this
        exact ⟨nI 0, S.2.1 30 p 3 0, Or.inl ⟨v', rfl, rfl⟩⟩⟩
theorem wR.D6 (h : wR φ D F N P S T A) : ∀ x, D x → x < 600 := fun x hx => (h.2.2.2.2.1.1 x hx).1
theorem wR.lo12 (h : wR φ D F N P S T A) : ∀ f, f < F → P.2.1 f ≤ 12 := fun f hf => (h.1.1.2.2.1 f hf).2.1.2.2
theorem wR.rtO (h : wR φ D F N P S T A) : rtO S A.2.1 := by
  have D6 := h.D6
  refine ⟨⟨16, ⟨rfl, h.2.2.1.1, Nat.le_refl _⟩, fun i hi => (h.2.2.1.2 i hi).tg D6⟩, fun s hs => ?_⟩
  have R := h.2.1 s hs
  refine ⟨R.2.2.1.1, R.2.2.1.2.2, fun d hd => ?_⟩
  obtain ⟨p, hp, fr⟩ := R.fr hd
  refine ⟨p, hp, fr.1, fun k hk => ?_⟩
  obtain ⟨n, a1, a2, a3, a4⟩ := fr.rows (h.lo12 _ fr.2.1.2.2) k hk
  exact ⟨n, ⟨a3, a1, a2⟩, fun i hi => by
    obtain ⟨kk, v, q⟩ := a4 i hi
    exact q.tg D6⟩
/-! an object's values -/
theorem obR.rf {h g : Nat} (o : obR φ D S T h) (hE : ∀ h, D h → h < 600) (r : rfC S h g) : D g := by
  obtain ⟨p, k, z, w, c, c1, c2, _, ⟨_, _, z16, _⟩, ⟨c9, _, wz, _⟩, _, _, vv⟩ := o
  obtain ⟨p', w', i, r1, r2, r3, r4, r5, r6⟩ := r
  rw [c1] at r1
  cases r1
  rw [c9] at r2
  have := (nI_eq (by omega) (by omega)).mp r2
  exact (vv i (by omega)).dm hE r6 r5
theorem wR.rtD (h : wR φ D F N P S T A) {x : Nat} (hx : x < 600) (r : rtC S A.2.1 x) : D x := by
  have D6 := h.D6
  rcases r with ⟨n, i, q1, q2, q3, q4⟩ | ⟨s, _, hs, d, p, k, _, hd, hp, hk, n, i, q1, q2, q3, q4⟩
  · rw [h.2.2.1.1] at q1
    have := (nI_eq (by omega) (by omega)).mp q1
    exact (h.2.2.1.2 i (by omega)).dm D6 hx q4
  · obtain ⟨p', hp', fr⟩ := (h.2.1 s hs).fr hd
    rw [hp] at hp'
    cases hp'
    obtain ⟨n', a1, a2, a3, a4⟩ := fr.rows (h.lo12 _ fr.2.1.2.2) k hk
    rw [a1] at q1
    have := srl_le k
    have := (nI_eq (by omega) (by omega)).mp q1
    obtain ⟨kk, v, q⟩ := a4 i (by omega)
    exact q.dm D6 hx q4
theorem wR.reD (h : wR φ D F N P S T A) {x : Nat} (r : reC S A.2.1 x) : D x := r D (fun y hy rt => h.rtD hy rt) (fun y g hy f => (h.2.2.2.1 y hy).rf h.D6 f)
/-! an object's cells -/
def clC (S : sS) (h : Nat) : Nat := match S.2.2.1.2 h with
  | none => 0
  | some p => (S.1 32 p 0 3).toNatClampNeg
set_option maxHeartbeats 4000000 in
set_option linter.unusedSimpArgs false in
theorem wR.thU (h : wR φ D F N P S T A) {x : Nat} (hx : D x) : x < 600 ∧ thU S x (clC S x) := by
  refine ⟨h.D6 x hx, ?_⟩
  obtain ⟨p, k, z, w, c, c1, c2, ⟨c3, _, c4⟩, ⟨_, _, z16, _⟩, ⟨c9, _, wz, _⟩, _, c16, vv⟩ := h.2.2.2.1 x hx
  have e : clC S x = k + z := by
    unfold clC
    rw [c1]
    dsimp only
    rw [c16, nI_clamp (by omega)]
  refine ⟨p, k, c1, c2, c3, c4, by rw [e]; exact c16, by omega, w, ⟨xr4 c2, c9, show w ≤ 16 by omega⟩, fun i hi => (vv i hi).tg h.D6⟩
set_option maxHeartbeats 4000000 in
set_option linter.unusedSimpArgs false in
theorem wR.cells (h : wR φ D F N P S T A) {x : Nat} (hx : D x) : ∃ k z, (k = 2 ∨ k = 3) ∧ z ≤ 16 ∧ T.1 51 (φ x) 0 0 = nI k ∧ T.1 51 (φ x) 0 1 = nI z ∧ clC S x = k + z := by
  obtain ⟨p, k, z, w, c, c1, c2, ⟨c3, c3', c4⟩, ⟨_, c5, z16, _⟩, ⟨c9, _, wz, _⟩, _, c16, vv⟩ := h.2.2.2.1 x hx
  refine ⟨k, z, c4, z16, c3', c5, ?_⟩
  unfold clC
  rw [c1]
  dsimp only
  rw [c16, nI_clamp (by omega)]
/-! the class traces the whole -/
theorem wR.f39 (ht : 1000 < t) (h : wR φ D F N P S T A) : ∃ S' co bl, F_39 G t S = some ((), S') ∧ trS S' 1 co [] ∧ agr (fun t a b => 15 ≤ t ∧ t ≤ 17 ∧ a = 0 ∧ b = 1) S S' ∧ S'.2.2 = S.2.2 ∧ bl.Nodup ∧ (∀ x, x ∈ bl ↔ reC S A.2.1 x) ∧ (∀ x, x < 600 → (co x = 2 ∧ reC S A.2.1 x) ∨ (co x = 0 ∧ ¬ reC S A.2.1 x)) ∧ S'.1 15 0 1 3 = nI bl.length ∧ S'.1 15 0 1 4 = nI (suL (clC S) bl) := f_39 ht h.rtO (fun x hx => h.thU (h.reD hx))
end RCD
