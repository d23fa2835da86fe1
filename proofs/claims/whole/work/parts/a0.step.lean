/-! A step: the instruction, on both sides. -/
section STP
variable {φ φ' : Nat → Nat} {D D' : Nat → Prop} {F N : Nat} {P : aP} {S S' T T' T1 : sS} {A : aS} {r s d p f pc n m e b k y g o : Nat} {G : jG} {t j : Nat}
set_option maxHeartbeats 4000000 in
set_option linter.unusedSimpArgs false in
theorem e_18835 (ht : 100 < t) (hr : r < 16) (hd : d < 30) (hn : n ≤ 16) (h3 : T.1 54 r 0 1 = nI (d + 1)) (h2 : T.1 56 r d 2 = nI n) (hk : k ≤ 16) {T2 : sS} (e : F_155 G t (r, 0) (-3) (mpS T r d n (if k ≤ n then k else n)) = some ((), T2)) : F_188_35 G t (r, 0) (nI k) T = some ((), T2) := by
  unfold F_188_35
  by_cases c : k ≤ n
  · rw [if_pos c] at e
    rw [e_156 ht hr hd hn h3 h2 c, bdS]
    dsimp only
    rw [show jcmp .eq (nI 1) 0 = false from by decide, cond_false, e]
    rfl
  · rw [if_neg c] at e
    rw [e_156x ht hr hd hn h3 h2 hk (by omega), e]
    rfl
/-! too few operands, or too many -/
theorem cx.ovf (ht : 1000 < t) (h : cx φ D F N P S T A r d p f pc n m) (gc : gcR D S) (iq : iqR P A r False) (hy : T.1 33 0 0 38 = nI 0) (hk : k ≤ 16) : insY D F N P S T A r p G t k 0 (some (-3, S)) (F_188_35 G t (r, 0) (nI k) T) := by
  obtain ⟨hM, o1, o2, hn, hr, d2, d3⟩ := h.rd
  have fr : frR φ D F P (siI S 29 p 1 2 (nI (n - k))) p (mpS T r d n (if k ≤ n then k else n)) r d f pc (n - k) m 0 (dfb (A.2.2.1 r) d) := by
    by_cases c : k ≤ n
    · rw [if_pos c]
      exact h.fr.pops k
    · rw [if_neg c, show n - k = n - n by omega]
      exact h.fr.pops n
  obtain ⟨S', T', q1, q2, q3⟩ := h.pan (G := G) (t := t) ht (k := k) (by omega) neg3.1 neg3.2 (X := some (-3, S)) rfl (mp_ag T r d n _) (mpS_2 _ _ _ _ _) fr
  have iR : insR φ D F N P S T A r p G t k (some (-3, S)) (F_188_35 G t (r, 0) (nI k) T) := ⟨S', T', q1, e_18835 (by omega) hr d3 hn d2 o2 hk q2, q3⟩
  exact iR.y gc iq hr hy
set_option maxHeartbeats 4000000 in
set_option linter.unusedSimpArgs false in
theorem cx.opn {W : sS → Option (Unit × sS)} {X : Option (Int32 × sS)} {a : Int32} (ht : 1000 < t) (h : cx φ D F N P S T A r d p f pc n m) (gc : gcR D S) (iq : iqR P A r False) (hy : T.1 33 0 0 38 = nI 0) (hk : k ≤ 16) (hg : g ≤ 2) (e152 : F_152 G t (nI o) a T = some (nI k, T)) (e153 : F_153 G t (nI o) T = some (nI g, T))
    (e188 : F_188 G t (r, 0) (r, d) (nI o) a T = H_188 G t (r, 0) (r, d) (nI o) a W T) (e116 : F_116 G t (nI o) a (r, 0) (p, 0) S = jif (sex S.2.2.2.1 27 p 0) (jif (sex S.2.2.2.1 29 p 1) X)) (hI : k ≤ n → n - k + g ≤ 16 → insY D F N P S T A r p G t k y X (W T)) (hyy : (n < k ∨ 16 < n - k + g) → y = 0) :
    insY D F N P S T A r p G t k y (if n < k ∨ 16 < n - k + g then some (-3, S) else F_116 G t (nI o) a (r, 0) (p, 0) S) (F_188 G t (r, 0) (r, d) (nI o) a T) := by
  obtain ⟨hM, o1, o2, hn, hr, d2, d3⟩ := h.rd
  rw [e188]
  unfold H_188
  rw [e152, bdS]
  dsimp only
  rw [jif_true (show sex T.2.2.2.1 56 r d = true from x56 hr d3), o2]
  by_cases c : n < k
  · rw [if_pos (Or.inl c), hyy (Or.inl c), jcLT (a := n) (b := k) (by omega) (by omega), decide_eq_true c, cond_true]
    exact h.ovf ht gc iq hy hk
  · rw [jcLT (a := n) (b := k) (by omega) (by omega), decide_eq_false c, cond_false, e153, bdS]
    dsimp only
    rw [nIs (a := n) (b := k) (by omega), nI_add, jcLE (a := n - k + g) (b := 16) (by omega) (by omega)]
    by_cases c2 : 16 < n - k + g
    · rw [if_pos (Or.inr c2), hyy (Or.inr c2), decide_eq_false (show ¬ n - k + g ≤ 16 by omega), cond_false]
      exact h.ovf ht gc iq hy hk
    · rw [if_neg (by omega), decide_eq_true (show n - k + g ≤ 16 by omega), cond_true, e116, jif_true (show sex S.2.2.2.1 27 p 0 = true by rw [x27, hM]; rfl), jif_true (show sex S.2.2.2.1 29 p 1 = true from xr1 hM)]
      exact hI (by omega) (by omega)
end STP
