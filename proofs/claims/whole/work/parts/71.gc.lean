/-! The class's collector: what holds between steps. -/
/-! a place of the heap: k its kind (0 free), c its cells -/
def thC (S : sS) (h k c : Nat) : Prop := (S.2.2.1.2 h = none ∧ k = 0) ∨ ∃ p, S.2.2.1.2 h = some p ∧ S.2.2.2.1.2 p = true ∧ S.1 32 p 0 1 = nI k ∧ (k = 0 ∨ k = 2 ∨ k = 3) ∧ (k ≠ 0 → ∃ w, S.1 29 p 4 2 = nI w ∧ w ≤ 16 ∧ S.1 32 p 0 3 = nI c ∧ 2 ≤ c ∧ c ≤ 18 ∧ ∀ i, i < w → ∃ g, S.1 31 p 4 i = nI g ∧ g < 602)
/-! object h has object x among its values -/
def rfC (S : sS) (h x : Nat) : Prop := ∃ p w i, S.2.2.1.2 h = some p ∧ S.1 29 p 4 2 = nI w ∧ w ≤ 16 ∧ i < w ∧ S.1 31 p 4 i = nI (x + 2) ∧ x < 600
/-! reached from a grey one through white ones -/
def gwC (S : sS) (co : Nat → Nat) (h : Nat) : Prop := ∀ X : Nat → Prop, (∀ g, g < 600 → co g = 1 → X g) → (∀ g x, X g → rfC S g x → x < 600 → co x = 0 → X x) → X h
def usC (kd cl : Nat → Nat) (n : Nat) : Nat := ((List.range n).map fun h => if kd h = 0 then 0 else cl h).sum
def obC (kd : Nat → Nat) (n : Nat) : Nat := (List.range n).countP fun h => !(kd h == 0)
def gcR (D : Nat → Prop) (S : sS) : Prop := ∃ (kd cl co : Nat → Nat) (fl gl : List Nat) (ro sw : Nat),
  (∀ h, h < 600 → thC S h (kd h) (cl h)) ∧
  (S.1 11 0 0 7 = nI fl.length ∧ (∀ (i x : Nat), fl[i]? = some x → S.1 13 0 0 i = nI x) ∧ fl.Nodup ∧ ∀ h, h ∈ fl ↔ h < 600 ∧ kd h = 0) ∧
  (S.1 11 0 0 8 = nI (obC kd 600) ∧ S.1 11 0 0 9 = nI (usC kd cl 600) ∧ usC kd cl 600 ≤ 1200) ∧
  (∀ h, D h → h < 600 ∧ kd h ≠ 0) ∧
  (S.1 11 0 0 11 = nI ro ∧ S.1 11 0 0 12 = nI sw ∧ sw ≤ 600) ∧
  ((∀ h, h < 600 → S.1 16 0 0 h = nI (co h) ∧ co h ≤ 2) ∧ S.1 15 0 0 2 = nI gl.length ∧ (∀ (i x : Nat), gl[i]? = some x → S.1 17 0 0 i = nI x) ∧ gl.Nodup ∧ ∀ h, h ∈ gl ↔ h < 600 ∧ co h = 1) ∧
  ((ro = 0 ∧ ∀ h, h < 600 → co h = 0) ∨
   (ro = 1 ∧ ∃ E : Nat → Prop, (∀ h, D h → E h) ∧ (∀ h, E h → h < 600 ∧ kd h ≠ 0) ∧ (∀ h x, E h → rfC S h x → E x) ∧ (∀ h, h < 600 → co h ≠ 0 → E h) ∧ ∀ h, E h → co h = 2 ∨ gwC S co h) ∨
   (ro = 2 ∧ (∀ h, h < 600 → co h ≠ 1 ∧ (h < sw → co h = 0) ∧ (co h ≠ 0 → kd h ≠ 0)) ∧ ∀ h, D h → sw ≤ h → co h = 2))
theorem thC.keep {S S' : sS} {h k c : Nat} (o : thC S h k c) (a : hk S S') : thC S' h k c := by
  obtain ⟨b1, b2, b3, b4, b5⟩ := a
  rcases o with ⟨h1, h2⟩ | ⟨p, hp, r⟩
  · exact Or.inl ⟨by rw [b4]; exact h1, h2⟩
  · refine Or.inr ⟨p, by rw [b4]; exact hp, ?_⟩
    rw [b5, b3 h p hp, (b2 h p hp 29 (by omega) (by omega)).1, (b2 h p hp 31 (by omega) (by omega)).1]
    exact r
theorem rfC.iff {S S' : sS} (a : hk S S') (h x : Nat) : rfC S' h x ↔ rfC S h x := by
  obtain ⟨b1, b2, b3, b4, b5⟩ := a
  constructor
  · intro ⟨p, w, i, hp, r⟩
    rw [b4] at hp
    rw [(b2 h p hp 29 (by omega) (by omega)).1, (b2 h p hp 31 (by omega) (by omega)).1] at r
    exact ⟨p, w, i, hp, r⟩
  · intro ⟨p, w, i, hp, r⟩
    refine ⟨p, w, i, by rw [b4]; exact hp, ?_⟩
    rw [(b2 h p hp 29 (by omega) (by omega)).1, (b2 h p hp 31 (by omega) (by omega)).1]
    exact r
theorem gcR.keep {D : Nat → Prop} {S S' : sS} (g : gcR D S) (a : hk S S') : gcR D S' := by
  have rr := rfC.iff a
  obtain ⟨kd, cl, co, fl, gl, ro, sw, g1, g2, g3, g4, g5, g6, g7⟩ := g
  have b1 := a.1
  have e11 := (b1 11 0 0 (by omega) (by omega)).1
  have e13 := (b1 13 0 0 (by omega) (by omega)).1
  have e15 := (b1 15 0 0 (by omega) (by omega)).1
  have e16 := (b1 16 0 0 (by omega) (by omega)).1
  have e17 := (b1 17 0 0 (by omega) (by omega)).1
  refine ⟨kd, cl, co, fl, gl, ro, sw, fun h hh => (g1 h hh).keep a, by rw [e11, e13]; exact g2, by rw [e11]; exact g3, g4, by rw [e11]; exact g5, by rw [e15, e16, e17]; exact g6, ?_⟩
  rcases g7 with z | ⟨z, E, z1, z2, z3, z4, z5⟩ | z
  · exact Or.inl z
  · refine Or.inr (Or.inl ⟨z, E, z1, z2, fun h x q w => z3 h x q ((rr h x).mp w), z4, fun h q => ?_⟩)
    rcases z5 h q with y | y
    · exact Or.inl y
    · exact Or.inr (fun X x1 x2 => y X x1 (fun g x q w => x2 g x q ((rr g x).mpr w)))
  · exact Or.inr (Or.inr z)
/-! fewer objects count -/
theorem gcR.less {D D' : Nat → Prop} {S : sS} (g : gcR D S) (h : ∀ x, D' x → D x) : gcR D' S := by
  obtain ⟨kd, cl, co, fl, gl, ro, sw, g1, g2, g3, g4, g5, g6, g7⟩ := g
  refine ⟨kd, cl, co, fl, gl, ro, sw, g1, g2, g3, fun x hx => g4 x (h x hx), g5, g6, ?_⟩
  rcases g7 with z | ⟨z, E, z1, z2⟩ | ⟨z, z1, z2⟩
  · exact Or.inl z
  · exact Or.inr (Or.inl ⟨z, E, fun x hx => z1 x (h x hx), z2⟩)
  · exact Or.inr (Or.inr ⟨z, z1, fun x hx => z2 x (h x hx)⟩)
/-! statuses, tops, the queue -/
def iqR (P : aP) (A : aS) (r : Nat) (own : Prop) : Prop := (∀ s, s < 16 → (s ≠ r ∨ own) → tpR P (A.2.1 s) (A.2.2.1 s)) ∧ A.2.2.2.1.Nodup ∧ (∀ s, s ∈ A.2.2.2.1 ↔ s < 16 ∧ A.1 s = 1 ∧ s ≠ r) ∧ A.1 0 ≠ 0
/-! an instruction as it ends, in all -/
def insY (D : Nat → Prop) (F N : Nat) (P : aP) (S T : sS) (A : aS) (r p : Nat) (G : jG) (t k y : Nat) (X : Option (Int32 × sS)) (W : Option (Unit × sS)) : Prop := ∃ S' T' φ' D' A', cD G t r p (nI k) X = some ((), S') ∧ W = some ((), T') ∧ wR φ' D' F N P S' T' A' ∧ gcR D' S' ∧ iqR P A' r True ∧ (∀ x, rmR S x → rmR S' x) ∧ T'.1 33 0 0 38 = nI y ∧ (A'.2.2.2.2.2.1 ≤ A.2.2.2.2.2.1 + 1 ∧ A'.2.2.2.2.2.2 = A.2.2.2.2.2.2) ∧ (A'.1 r = 0 → False)
theorem insR.y {φ : Nat → Nat} {D : Nat → Prop} {F N : Nat} {P : aP} {S T : sS} {A : aS} {r p : Nat} {G : jG} {t k : Nat} {X : Option (Int32 × sS)} {W : Option (Unit × sS)} (h : insR φ D F N P S T A r p G t k X W) (g : gcR D S) (q : iqR P A r False) (hr : r < 16) (hy : T.1 33 0 0 38 = nI 0) : insY D F N P S T A r p G t k 0 X W := by
  obtain ⟨S', T', h1, h2, st', dp', fs', w, tp, hs, k1, m1, rm⟩ := h
  obtain ⟨q1, q2, q3, q9⟩ := q
  refine ⟨S', T', φ, D, _, h1, h2, w, g.keep k1.hk, ⟨fun s hs _ => ?_, q2, fun s => ?_, ?_⟩, rm, by rw [m1.2.1 38 (by omega)]; exact hy, ⟨Nat.le_succ _, rfl⟩, fun z => ?_⟩
  · by_cases c : s = r
    · subst c
      rw [aset_2, aset_3]
      exact tp
    · rw [aset_2n _ _ _ _ c, aset_3n _ _ _ _ c]
      exact q1 s hs (Or.inl c)
  · by_cases c : s = r
    · subst c
      constructor
      · intro z
        exact absurd rfl ((q3 s).mp z).2.2
      · intro z
        exact absurd rfl z.2.2
    · rw [aset_1n _ _ _ _ c]
      exact q3 s
  · by_cases c : 0 = r
    · subst c
      rw [aset_1]
      omega
    · rw [aset_1n _ _ _ _ c]
      exact q9
  · rw [aset_1] at z
    omega
