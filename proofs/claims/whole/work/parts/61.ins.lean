/-! How an instruction of the running strand ends. -/
def cD (G : jG) (t r p : Nat) (k : Int32) (X : Option (Int32 × sS)) : Option (Unit × sS) := X.bind fun q => bif jcmp .eq q.1 0 then some ((), q.2) else (F_76 G t (p, 1) k q.2).bind fun q3 => (F_81 G t (r, 0) (nI 2) q.1.toInt64 (nI 0) q3.2).bind fun q6 => some ((), q6.2)
/-! the running strand r with its top frame at p, depth d -/
def cx (φ : Nat → Nat) (D : Nat → Prop) (F N : Nat) (P : aP) (S T : sS) (A : aS) (r d p f pc n m : Nat) : Prop :=
  wR φ D F N P S T A ∧ whR F P ∧ r < 16 ∧ A.1 r = 1 ∧ A.2.1 r = d + 1 ∧ S.2.2.1.1 r d = some p ∧ A.2.2.1 r d = (f, pc, n, m, 0)
section INS
variable {φ : Nat → Nat} {D : Nat → Prop} {F N : Nat} {P : aP} {S T : sS} {A : aS} {r d p f pc n m : Nat} {G : jG} {t : Nat}
theorem cx.st (h : cx φ D F N P S T A r d p f pc n m) : stR φ D F P S T r 1 (d + 1) (A.2.2.1 r) := by
  have := h.1.2.1 r h.2.2.1
  rw [h.2.2.2.1, h.2.2.2.2.1] at this
  exact this
theorem cx.fr (h : cx φ D F N P S T A r d p f pc n m) : frR φ D F P S p T r d f pc n m 0 (dfb (A.2.2.1 r) d) := by
  obtain ⟨q, hq, fr⟩ := h.st.fr (d := d) (by omega)
  rw [h.2.2.2.2.2.1] at hq
  cases hq
  rw [h.2.2.2.2.2.2] at fr
  exact fr
theorem cx.d3 (h : cx φ D F N P S T A r d p f pc n m) : S.1 25 r 0 3 = nI (d + 1) ∧ T.1 54 r 0 1 = nI (d + 1) ∧ d < 30 := ⟨h.st.2.2.1.1, h.st.2.2.1.2.1, h.st.2.2.1.2.2⟩
theorem cx.ok (h : cx φ D F N P S T A r d p f pc n m) {S' T' : sS} (aS : agr (fun t i j => 27 ≤ t ∧ t ≤ 31 ∧ i = p ∧ j < 4) S S') (hX : S'.2.2 = S.2.2)
    (aT : agr (fun t i j => (56 ≤ t ∧ t ≤ 63 ∧ i = r ∧ j = d) ∨ (46 ≤ t ∧ t ≤ 50)) T T') (hT : T'.2.2 = T.2.2) {pc' n' m' : Nat} (fr : frR φ D F P S' p T' r d f pc' n' m' 0 (dfb (A.2.2.1 r) d)) (hpc : pc' < P.2.2.2.1 f) : pnR φ D F N P S T S' T' A r := by
  obtain ⟨h1, h2, h3, h4, h5, h6, h7⟩ := h
  obtain ⟨w1, k1, m1, ow1⟩ := h1.frm h3 h4 h5 h6 aS hX aT hT fr
  refine ⟨_, _, _, w1, fun y hy => ?_, Or.inl ⟨rfl, by omega⟩, k1, m1, fun x hx => hx.same hX⟩
  have : y = d := by omega
  subst this
  rw [fset_at]
  exact ⟨rfl, hpc⟩
theorem f76d {k : Nat} (hM : S.2.2.2.1.1 p = true) (o1 : S.1 29 p 1 2 = nI n) (hn : n ≤ 16) (hk : k < 2147483648) : F_76 G t (p, 1) (nI k) S = some ((), siI S 29 p 1 2 (nI (n - k))) := f_76 (sz := n) ⟨xr1 hM, o1, hn⟩ hk
theorem dr_ag (S : sS) (p n : Nat) : agr (fun t i j => 27 ≤ t ∧ t ≤ 31 ∧ i = p ∧ j < 4) S (siI S 29 p 1 2 (nI n)) := agr.i (agr.refl _ _) _ _ (by omega)
set_option maxHeartbeats 4000000 in
set_option linter.unusedSimpArgs false in
theorem cx.pan (ht : 1000 < t) (h : cx φ D F N P S T A r d p f pc n m) {k : Nat} (hk : k < 2147483648) {c : Int32} {x : Int64} (hc : jcmp .eq c 0 = false) (hx : c.toInt64 = x) {X : Option (Int32 × sS)} (hX : X = some (c, S)) {T1 : sS}
    (aT : agr (fun t i j => (56 ≤ t ∧ t ≤ 63 ∧ i = r ∧ j = d) ∨ (46 ≤ t ∧ t ≤ 50)) T T1) (hT : T1.2.2 = T.2.2) (fr : frR φ D F P (siI S 29 p 1 2 (nI (n - k))) p T1 r d f pc (n - k) m 0 (dfb (A.2.2.1 r) d)) :
    ∃ S' T', cD G t r p (nI k) X = some ((), S') ∧ F_155 G t (r, 0) x T1 = some ((), T') ∧ pnR φ D F N P S T S' T' A r := by
  have f0 := h.fr
  obtain ⟨h1, h2, h3, h4, h5, h6, h7⟩ := h
  obtain ⟨S', T', q1, q2, q3⟩ := h1.panic (G := G) ht h2 h3 h4 h5 h6 (dr_ag S p (n - k)) rfl aT hT fr x
  refine ⟨S', T', ?_, q2, q3⟩
  subst hx
  have e := f76d (G := G) (t := t) (k := k) f0.1 f0.2.2.2.1.1 f0.2.2.2.1.2.2.1 hk
  unfold cD
  rw [hX, bdS]
  dsimp only
  rw [hc, cond_false, e, bdS]
  dsimp only
  rw [q1]
  rfl
theorem mp_ag (T : sS) (r d n k : Nat) : agr (fun t i j => (56 ≤ t ∧ t ≤ 63 ∧ i = r ∧ j = d) ∨ (46 ≤ t ∧ t ≤ 50)) T (mpS T r d n k) := (mpS_ag T r d n k).mono (fun t i j z => by omega)
/-! a panic after k values were popped -/
theorem cx.panp (ht : 1000 < t) (h : cx φ D F N P S T A r d p f pc n m) (k : Nat) (hk : k < 2147483648) {c : Int32} {x : Int64} (hc : jcmp .eq c 0 = false) (hx : c.toInt64 = x) {X : Option (Int32 × sS)} (hX : X = some (c, S)) :
    ∃ S' T', cD G t r p (nI k) X = some ((), S') ∧ F_155 G t (r, 0) x (mpS T r d n k) = some ((), T') ∧ pnR φ D F N P S T S' T' A r :=
  h.pan ht hk hc hx hX (mp_ag T r d n k) (mpS_2 _ _ _ _ _) (h.fr.pops k)
theorem cD_ok {k : Int32} {X : Option (Int32 × sS)} {S' : sS} (hX : X = some (nI 0, S')) : cD G t r p k X = some ((), S') := by
  unfold cD
  rw [hX]
  rfl
theorem neg1 : jcmp .eq (-1) 0 = false ∧ ((-1 : Int32)).toInt64 = -1 := by decide
theorem neg2 : jcmp .eq (-2) 0 = false ∧ ((-2 : Int32)).toInt64 = -2 := by decide
theorem neg3 : jcmp .eq (-3) 0 = false ∧ ((-3 : Int32)).toInt64 = -3 := by decide
theorem neg4 : jcmp .eq (-4) 0 = false ∧ ((-4 : Int32)).toInt64 = -4 := by decide
theorem neg5 : jcmp .eq (-5) 0 = false ∧ ((-5 : Int32)).toInt64 = -5 := by decide
/-! an instruction: what is to be shown -/
def insR (φ : Nat → Nat) (D : Nat → Prop) (F N : Nat) (P : aP) (S T : sS) (A : aS) (r p : Nat) (G : jG) (t k : Nat) (X : Option (Int32 × sS)) (W : Option (Unit × sS)) : Prop := ∃ S' T', cD G t r p (nI k) X = some ((), S') ∧ W = some ((), T') ∧ pnR φ D F N P S T S' T' A r
end INS
