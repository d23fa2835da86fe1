/-! printed by genbm.py: the law's loop -/
section LAW
variable {U S S' T T' : sS} {G : jG} {t tt i c x L e k : Nat} {xs : Nat → Int32}
theorem topR.mT (h : topR c S T) (mo : moB T T') : topR c S T' := by
  obtain ⟨φ, D, F, N, P, A, h1, h2⟩ := h
  exact ⟨φ, D, F, N, P, A, h1.qry (clB.refl _) mo, h2⟩
theorem topR.mS (h : topR c S T) (cc : clB S S') : topR c S' T := by
  obtain ⟨φ, D, F, N, P, A, h1, h2⟩ := h
  exact ⟨φ, D, F, N, P, A, h1.qry cc (moB.refl _), h2⟩
theorem cal.uu {Fc : sS → Option (Int32 × sS)} {Fm : sS → Option (Int64 × sS)} (h : cal Fc Fm) (kc : ∀ S q, Fc S = some q → kM q.2 = kM S) (km : ∀ S q, Fm S = some q → kC q.2 = kC S) (R : topR c U U) (hc : c < 1000) (rm : rmR U x) :
    ∃ e S' v T', Fc U = some (nI e, S') ∧ e ≤ 2 ∧ Fm S' = some (v, T') ∧ T'.1 33 0 0 25 = nI e ∧ (e = 0 → T'.2.1 64 0 0 0 = v) ∧ topR (c + 1) T' T' ∧ ∃ x', x' ≤ x + 1 ∧ rmR T' x' := by
  obtain ⟨e, S', v, T', a1, a2, _⟩ := h c U U R hc
  have k1 := kc U _ a1
  obtain ⟨e2, S2, v2, T2, b1, b2, b3, b4, b5, b6, b7⟩ := h c U S' (R.mT (moB.of k1)) hc
  rw [a1] at b1
  have b1' := Option.some.inj b1
  have e1 : nI e = nI e2 := congrArg Prod.fst b1'
  have e2' : S' = S2 := congrArg Prod.snd b1'
  subst e2'
  have ee : e = e2 := (nI_eq (by omega) (by omega)).mp e1
  subst ee
  have k2 := km S' _ b3
  have k2' := kC_iff.mp k2
  obtain ⟨x', x1, x2⟩ := b7 x rm
  exact ⟨e, S', v2, T2, a1, a2, b3, b4, fun z => by rw [(k2'.1 64 0 0 (by omega)).2]; exact b5 z, b6.mS (clB.of k2), x', x1, x2.same k2'.2⟩
theorem cal2.uu {α : Type} {Fc Fm : sS → Option (α × sS)} (h : cal2 Fc Fm) (kc : ∀ S q, Fc S = some q → kM q.2 = kM S) (km : ∀ S q, Fm S = some q → kC q.2 = kC S) (R : topR c U U) (hc : c < 1000) (rm : rmR U x) :
    ∃ v S' T', Fc U = some (v, S') ∧ Fm S' = some (v, T') ∧ topR (c + 1) T' T' ∧ ∃ x', x' ≤ x + 1 ∧ rmR T' x' := by
  obtain ⟨v, S', T', a1, a2, _⟩ := h c U U R hc
  have k1 := kc U _ a1
  obtain ⟨v2, S2, T2, b1, b2, b3, b4⟩ := h c U S' (R.mT (moB.of k1)) hc
  rw [a1] at b1
  have b1' := Option.some.inj b1
  have e1 : v = v2 := congrArg Prod.fst b1'
  have e2' : S' = S2 := congrArg Prod.snd b1'
  subst e2' e1
  have k2 := km S' _ b2
  have k2' := kC_iff.mp k2
  obtain ⟨x', x1, x2⟩ := b4 x rm
  exact ⟨v, S', T2, a1, b2, b3.mS (clB.of k2), x', x1, x2.same k2'.2⟩
theorem to64_k {X : Option (Int32 × sS)} {q : Int64 × sS} (h : to64 X = some q) : ∃ v, X = some (v, q.2) ∧ q.1 = v.toInt64 := by
  unfold to64 at h
  cases X with
  | none => cases h
  | some y =>
    have := Option.some.inj h
    subst this
    exact ⟨y.1, rfl, rfl⟩
theorem and15 (x : Int32) : ∃ k, k ≤ 15 ∧ x &&& nI 15 = nI k := by
  cases x with
  | ofUInt32 u =>
    refine ⟨(u &&& 15).toNat, ?_, ?_⟩
    · rw [UInt32.toNat_and]
      exact Nat.and_le_right
    · show Int32.ofUInt32 (u &&& 15) = _
      exact congrArg Int32.ofUInt32 (UInt32.ofNat_toNat).symm
theorem lgc (v : Int64) : jcmp .eq (lg_cmp v v) 0 = true := by
  unfold lg_cmp
  rw [if_neg Int64.lt_irrefl, if_pos rfl]
  decide
theorem jee (k : Nat) (v : Int32) : jcmp .eq v v = true := decide_eq_true rfl
def LB_0 (G : jG) (t : Nat) (k23 : Int32 → sS → Option (Int32 × sS)) (v4 : Int32) (S : sS) : Option (Int32 × sS) := jif (jin (v4 + (nI 1)) (G 0).1) (jif (jin (v4 + (nI 2)) (G 0).1) ((F_130 G t ((G 0).2 (v4 + (nI 1)).toNatClampNeg) ((G 0).2 (v4 + (nI 2)).toNatClampNeg) S).bind (fun q4 => jif (jin (v4 + (nI 1)) (G 0).1) (jif (jin (v4 + (nI 2)) (G 0).1) ((F_136 G t ((G 0).2 (v4 + (nI 1)).toNatClampNeg) ((G 0).2 (v4 + (nI 2)).toNatClampNeg) q4.2).bind (fun q7 => (F_137 G t q7.2).bind (fun q8 => bif jcmp .eq q8.1 q4.1 then (bif jcmp .ne q4.1 0 then (F_204_181 G t (k23) v4 q8.2) else (jif (jin (nI 0) 1) (bif jcmp .eq (lg_cmp (q8.2.2.1 64 0 0 (nI 0).toNatClampNeg) q7.1.toInt64) 0 then (F_204_181 G t (k23) v4 q8.2) else (some ((nI 0), q8.2))))) else (some ((nI 0), q8.2)))))))))
def LB_1 (G : jG) (t : Nat) (k23 : Int32 → sS → Option (Int32 × sS)) (v4 : Int32) (S : sS) : Option (Int32 × sS) := jif (jin (v4 + (nI 1)) (G 0).1) (jif (jin (v4 + (nI 2)) (G 0).1) ((F_128 G t ((G 0).2 (v4 + (nI 1)).toNatClampNeg) ((G 0).2 (v4 + (nI 2)).toNatClampNeg) S).bind (fun q12 => jif (jin (v4 + (nI 1)) (G 0).1) (jif (jin (v4 + (nI 2)) (G 0).1) ((F_139 G t ((G 0).2 (v4 + (nI 1)).toNatClampNeg) ((G 0).2 (v4 + (nI 2)).toNatClampNeg) q12.2).bind (fun q15 => (F_137 G t q15.2).bind (fun q16 => bif jcmp .eq q16.1 q12.1 then (bif jcmp .ne q12.1 0 then (F_204_249 G t (k23) v4 q16.2) else (jif (jin (nI 0) 1) (bif jcmp .eq (lg_cmp (q16.2.2.1 64 0 0 (nI 0).toNatClampNeg) q15.1.toInt64) 0 then (F_204_249 G t (k23) v4 q16.2) else (some ((nI 0), q16.2))))) else (some ((nI 0), q16.2)))))))))
def LB_2 (G : jG) (t : Nat) (k23 : Int32 → sS → Option (Int32 × sS)) (v4 : Int32) (S : sS) : Option (Int32 × sS) := jif (jin (v4 + (nI 1)) (G 0).1) ((F_127 G t ((G 0).2 (v4 + (nI 1)).toNatClampNeg) S).bind (fun q19 => jif (jin (v4 + (nI 1)) (G 0).1) ((F_143 G t ((G 0).2 (v4 + (nI 1)).toNatClampNeg) q19.2).bind (fun q21 => (F_137 G t q21.2).bind (fun q22 => bif jcmp .eq q22.1 q19.1 then (F_204_795 G t (k23) v4 q22.2) else (some ((nI 0), q22.2)))))))
def LB_3 (G : jG) (t : Nat) (k23 : Int32 → sS → Option (Int32 × sS)) (v4 : Int32) (S : sS) : Option (Int32 × sS) := (F_47 G t S).bind (fun q23 => (F_144 G t q23.2).bind (fun q24 => bif jcmp .eq q23.1 q24.1 then (F_204_795 G t (k23) v4 q24.2) else (some ((nI 0), q24.2))))
def LB_4 (G : jG) (t : Nat) (k23 : Int32 → sS → Option (Int32 × sS)) (v4 : Int32) (S : sS) : Option (Int32 × sS) := jif (jin (v4 + (nI 1)) (G 0).1) ((F_145 G t ((G 0).2 (v4 + (nI 1)).toNatClampNeg) S).bind (fun q26 => jif (jin (v4 + (nI 1)) (G 0).1) ((F_146 G t ((G 0).2 (v4 + (nI 1)).toNatClampNeg) q26.2).bind (fun q28 => (F_137 G t q28.2).bind (fun q29 => bif jcmp .eq q29.1 q26.1 then (bif jcmp .ne q26.1 0 then (F_204_354 G t (k23) v4 q29.2) else (jif (jin (nI 0) 1) (bif jcmp .eq (lg_cmp (q29.2.2.1 64 0 0 (nI 0).toNatClampNeg) q28.1.toInt64) 0 then (F_204_354 G t (k23) v4 q29.2) else (some ((nI 0), q29.2))))) else (some ((nI 0), q29.2)))))))
def LB_5 (G : jG) (t : Nat) (k23 : Int32 → sS → Option (Int32 × sS)) (v4 : Int32) (S : sS) : Option (Int32 × sS) := jif (jin (v4 + (nI 1)) (G 0).1) ((F_147 G t ((G 0).2 (v4 + (nI 1)).toNatClampNeg) S).bind (fun q32 => jif (jin (v4 + (nI 1)) (G 0).1) ((F_148 G t ((G 0).2 (v4 + (nI 1)).toNatClampNeg) q32.2).bind (fun q34 => (F_137 G t q34.2).bind (fun q35 => bif jcmp .eq q35.1 q32.1 then (bif jcmp .ne q32.1 0 then (F_204_410 G t (k23) v4 q35.2) else (jif (jin (nI 0) 1) (bif jcmp .eq (lg_cmp (q35.2.2.1 64 0 0 (nI 0).toNatClampNeg) q34.1.toInt64) 0 then (F_204_410 G t (k23) v4 q35.2) else (some ((nI 0), q35.2))))) else (some ((nI 0), q35.2)))))))
def LB_6 (G : jG) (t : Nat) (k23 : Int32 → sS → Option (Int32 × sS)) (v4 : Int32) (S : sS) : Option (Int32 × sS) := jif (jin (v4 + (nI 1)) (G 0).1) ((F_149 G t ((G 0).2 (v4 + (nI 1)).toNatClampNeg) S).bind (fun q38 => jif (jin (v4 + (nI 1)) (G 0).1) ((F_191 G t ((G 0).2 (v4 + (nI 1)).toNatClampNeg) q38.2).bind (fun q40 => (F_137 G t q40.2).bind (fun q41 => bif jcmp .eq q41.1 q38.1 then (bif jcmp .ne q38.1 0 then (F_204_466 G t (k23) v4 q41.2) else (jif (jin (nI 0) 1) (bif jcmp .eq (lg_cmp (q41.2.2.1 64 0 0 (nI 0).toNatClampNeg) q40.1.toInt64) 0 then (F_204_466 G t (k23) v4 q41.2) else (some ((nI 0), q41.2))))) else (some ((nI 0), q41.2)))))))
def LB_7 (G : jG) (t : Nat) (k23 : Int32 → sS → Option (Int32 × sS)) (v4 : Int32) (S : sS) : Option (Int32 × sS) := (F_122 G t S).bind (fun q43 => (F_192 G t q43.2).bind (fun q44 => bif jcmp .eq q43.1 q44.1 then (F_204_795 G t (k23) v4 q44.2) else (some ((nI 0), q44.2))))
def LB_8 (G : jG) (t : Nat) (k23 : Int32 → sS → Option (Int32 × sS)) (v4 : Int32) (S : sS) : Option (Int32 × sS) := (F_126 G t S).bind (fun q45 => (F_193 G t q45.2).bind (fun q46 => bif jcmp .eq (lg_cmp q45.1 q46.1) 0 then (F_204_795 G t (k23) v4 q46.2) else (some ((nI 0), q46.2))))
def LB_9 (G : jG) (t : Nat) (k23 : Int32 → sS → Option (Int32 × sS)) (v4 : Int32) (S : sS) : Option (Int32 × sS) := jif (jin (v4 + (nI 1)) (G 0).1) (jif (jin (v4 + (nI 2)) (G 0).1) ((F_194 G t ((G 0).2 (v4 + (nI 1)).toNatClampNeg) ((G 0).2 (v4 + (nI 2)).toNatClampNeg) S).bind (fun q49 => jif (jin (v4 + (nI 1)) (G 0).1) (jif (jin (v4 + (nI 2)) (G 0).1) ((F_195 G t ((G 0).2 (v4 + (nI 1)).toNatClampNeg) ((G 0).2 (v4 + (nI 2)).toNatClampNeg) q49.2).bind (fun q52 => (F_137 G t q52.2).bind (fun q53 => bif jcmp .eq q53.1 q49.1 then (bif jcmp .ne q49.1 0 then (F_204_561 G t (k23) v4 q53.2) else (jif (jin (nI 0) 1) (bif jcmp .eq (lg_cmp (q53.2.2.1 64 0 0 (nI 0).toNatClampNeg) q52.1.toInt64) 0 then (F_204_561 G t (k23) v4 q53.2) else (some ((nI 0), q53.2))))) else (some ((nI 0), q53.2)))))))))
def LB_10 (G : jG) (t : Nat) (k23 : Int32 → sS → Option (Int32 × sS)) (v4 : Int32) (S : sS) : Option (Int32 × sS) := jif (jin (v4 + (nI 1)) (G 0).1) (jif (jin (v4 + (nI 2)) (G 0).1) ((F_196 G t ((G 0).2 (v4 + (nI 1)).toNatClampNeg) ((G 0).2 (v4 + (nI 2)).toNatClampNeg) S).bind (fun q57 => jif (jin (v4 + (nI 1)) (G 0).1) (jif (jin (v4 + (nI 2)) (G 0).1) ((F_198 G t ((G 0).2 (v4 + (nI 1)).toNatClampNeg) ((G 0).2 (v4 + (nI 2)).toNatClampNeg) q57.2).bind (fun q60 => (F_137 G t q60.2).bind (fun q61 => bif jcmp .eq q61.1 q57.1 then (bif jcmp .ne q57.1 0 then (F_204_628 G t (k23) v4 q61.2) else (jif (jin (nI 0) 1) (bif jcmp .eq (lg_cmp (q61.2.2.1 64 0 0 (nI 0).toNatClampNeg) q60.1) 0 then (F_204_628 G t (k23) v4 q61.2) else (some ((nI 0), q61.2))))) else (some ((nI 0), q61.2)))))))))
def LB_11 (G : jG) (t : Nat) (k23 : Int32 → sS → Option (Int32 × sS)) (v4 : Int32) (S : sS) : Option (Int32 × sS) := jif (jin (v4 + (nI 1)) (G 0).1) (jif (jin (v4 + (nI 2)) (G 0).1) ((F_131 G t ((G 0).2 (v4 + (nI 1)).toNatClampNeg) ((G 0).2 (v4 + (nI 2)).toNatClampNeg) S).bind (fun q65 => jif (jin (v4 + (nI 1)) (G 0).1) (jif (jin (v4 + (nI 2)) (G 0).1) ((F_199 G t ((G 0).2 (v4 + (nI 1)).toNatClampNeg) ((G 0).2 (v4 + (nI 2)).toNatClampNeg) q65.2).bind (fun q68 => (F_137 G t q68.2).bind (fun q69 => bif jcmp .eq q69.1 q65.1 then (bif jcmp .ne q65.1 0 then (F_204_696 G t (k23) v4 q69.2) else (jif (jin (nI 0) 1) (bif jcmp .eq (lg_cmp (q69.2.2.1 64 0 0 (nI 0).toNatClampNeg) q68.1.toInt64) 0 then (F_204_696 G t (k23) v4 q69.2) else (some ((nI 0), q69.2))))) else (some ((nI 0), q69.2)))))))))
def LB_12 (G : jG) (t : Nat) (k23 : Int32 → sS → Option (Int32 × sS)) (v4 : Int32) (S : sS) : Option (Int32 × sS) := jif (jin (v4 + (nI 1)) (G 0).1) ((F_129 G t ((G 0).2 (v4 + (nI 1)).toNatClampNeg) S).bind (fun q72 => jif (jin (v4 + (nI 1)) (G 0).1) ((F_200 G t ((G 0).2 (v4 + (nI 1)).toNatClampNeg) q72.2).bind (fun q74 => (F_137 G t q74.2).bind (fun q75 => bif jcmp .eq q75.1 q72.1 then (bif jcmp .ne q72.1 0 then (F_204_752 G t (k23) v4 q75.2) else (jif (jin (nI 0) 1) (bif jcmp .eq (lg_cmp (q75.2.2.1 64 0 0 (nI 0).toNatClampNeg) q74.1.toInt64) 0 then (F_204_752 G t (k23) v4 q75.2) else (some ((nI 0), q75.2))))) else (some ((nI 0), q75.2)))))))
def LB_13 (G : jG) (t : Nat) (k23 : Int32 → sS → Option (Int32 × sS)) (v4 : Int32) (S : sS) : Option (Int32 × sS) := (F_63 G t S).bind (fun q77 => (F_201 G t q77.2).bind (fun q78 => bif jcmp .eq (lg_cmp q77.1 q78.1) 0 then (F_204_795 G t (k23) v4 q78.2) else (some ((nI 0), q78.2))))
def LB_14 (G : jG) (t : Nat) (k23 : Int32 → sS → Option (Int32 × sS)) (v4 : Int32) (S : sS) : Option (Int32 × sS) := (F_53 G t S).bind (fun q79 => (F_202 G t q79.2).bind (fun q80 => bif jcmp .eq q79.1 q80.1 then (F_204_795 G t (k23) v4 q80.2) else (some ((nI 0), q80.2))))
def LB_15 (G : jG) (t : Nat) (k23 : Int32 → sS → Option (Int32 × sS)) (v4 : Int32) (S : sS) : Option (Int32 × sS) := (F_45 G t S).bind (fun q81 => (F_203 G t q81.2).bind (fun q82 => bif jcmp .eq q81.1 q82.1 then (F_204_795 G t (k23) v4 q82.2) else (some ((nI 0), q82.2))))
set_option maxHeartbeats 4000000 in
set_option linter.unusedSimpArgs false in
theorem lw_0 (hL : (G 0).1 = L) (hi : i + 3 ≤ L) (hL2 : L ≤ 1536) (ho : (G 0).2 i &&& nI 15 = nI 0) : F_204_23 G t (tt + 1) (nI i) S = LB_0 G t (F_204_23 G t tt) (nI i) S := by
  have e : Int32.ofNat L - nI 3 = nI (L - 3) := nIs (a := L) (b := 3) (by omega)
  rw [F_204_23]
  dsimp only
  rw [hL, e, jcGT (by omega) (by omega), decide_eq_false (by omega), cond_false, jif_true (jin_N (by omega) (by omega)), nI_clamp (by omega), ho]
  unfold LB_0
  try rw [hL]
  rfl
set_option maxHeartbeats 4000000 in
set_option linter.unusedSimpArgs false in
theorem lw_1 (hL : (G 0).1 = L) (hi : i + 3 ≤ L) (hL2 : L ≤ 1536) (ho : (G 0).2 i &&& nI 15 = nI 1) : F_204_23 G t (tt + 1) (nI i) S = LB_1 G t (F_204_23 G t tt) (nI i) S := by
  have e : Int32.ofNat L - nI 3 = nI (L - 3) := nIs (a := L) (b := 3) (by omega)
  rw [F_204_23]
  dsimp only
  rw [hL, e, jcGT (by omega) (by omega), decide_eq_false (by omega), cond_false, jif_true (jin_N (by omega) (by omega)), nI_clamp (by omega), ho]
  unfold LB_1
  try rw [hL]
  rfl
set_option maxHeartbeats 4000000 in
set_option linter.unusedSimpArgs false in
theorem lw_2 (hL : (G 0).1 = L) (hi : i + 3 ≤ L) (hL2 : L ≤ 1536) (ho : (G 0).2 i &&& nI 15 = nI 2) : F_204_23 G t (tt + 1) (nI i) S = LB_2 G t (F_204_23 G t tt) (nI i) S := by
  have e : Int32.ofNat L - nI 3 = nI (L - 3) := nIs (a := L) (b := 3) (by omega)
  rw [F_204_23]
  dsimp only
  rw [hL, e, jcGT (by omega) (by omega), decide_eq_false (by omega), cond_false, jif_true (jin_N (by omega) (by omega)), nI_clamp (by omega), ho]
  unfold LB_2
  try rw [hL]
  rfl
set_option maxHeartbeats 4000000 in
set_option linter.unusedSimpArgs false in
theorem lw_3 (hL : (G 0).1 = L) (hi : i + 3 ≤ L) (hL2 : L ≤ 1536) (ho : (G 0).2 i &&& nI 15 = nI 3) : F_204_23 G t (tt + 1) (nI i) S = LB_3 G t (F_204_23 G t tt) (nI i) S := by
  have e : Int32.ofNat L - nI 3 = nI (L - 3) := nIs (a := L) (b := 3) (by omega)
  rw [F_204_23]
  dsimp only
  rw [hL, e, jcGT (by omega) (by omega), decide_eq_false (by omega), cond_false, jif_true (jin_N (by omega) (by omega)), nI_clamp (by omega), ho]
  unfold LB_3
  try rw [hL]
  rfl
set_option maxHeartbeats 4000000 in
set_option linter.unusedSimpArgs false in
theorem lw_4 (hL : (G 0).1 = L) (hi : i + 3 ≤ L) (hL2 : L ≤ 1536) (ho : (G 0).2 i &&& nI 15 = nI 4) : F_204_23 G t (tt + 1) (nI i) S = LB_4 G t (F_204_23 G t tt) (nI i) S := by
  have e : Int32.ofNat L - nI 3 = nI (L - 3) := nIs (a := L) (b := 3) (by omega)
  rw [F_204_23]
  dsimp only
  rw [hL, e, jcGT (by omega) (by omega), decide_eq_false (by omega), cond_false, jif_true (jin_N (by omega) (by omega)), nI_clamp (by omega), ho]
  unfold LB_4
  try rw [hL]
  rfl
set_option maxHeartbeats 4000000 in
set_option linter.unusedSimpArgs false in
theorem lw_5 (hL : (G 0).1 = L) (hi : i + 3 ≤ L) (hL2 : L ≤ 1536) (ho : (G 0).2 i &&& nI 15 = nI 5) : F_204_23 G t (tt + 1) (nI i) S = LB_5 G t (F_204_23 G t tt) (nI i) S := by
  have e : Int32.ofNat L - nI 3 = nI (L - 3) := nIs (a := L) (b := 3) (by omega)
  rw [F_204_23]
  dsimp only
  rw [hL, e, jcGT (by omega) (by omega), decide_eq_false (by omega), cond_false, jif_true (jin_N (by omega) (by omega)), nI_clamp (by omega), ho]
  unfold LB_5
  try rw [hL]
  rfl
set_option maxHeartbeats 4000000 in
set_option linter.unusedSimpArgs false in
theorem lw_6 (hL : (G 0).1 = L) (hi : i + 3 ≤ L) (hL2 : L ≤ 1536) (ho : (G 0).2 i &&& nI 15 = nI 6) : F_204_23 G t (tt + 1) (nI i) S = LB_6 G t (F_204_23 G t tt) (nI i) S := by
  have e : Int32.ofNat L - nI 3 = nI (L - 3) := nIs (a := L) (b := 3) (by omega)
  rw [F_204_23]
  dsimp only
  rw [hL, e, jcGT (by omega) (by omega), decide_eq_false (by omega), cond_false, jif_true (jin_N (by omega) (by omega)), nI_clamp (by omega), ho]
  unfold LB_6
  try rw [hL]
  rfl
set_option maxHeartbeats 4000000 in
set_option linter.unusedSimpArgs false in
theorem lw_7 (hL : (G 0).1 = L) (hi : i + 3 ≤ L) (hL2 : L ≤ 1536) (ho : (G 0).2 i &&& nI 15 = nI 7) : F_204_23 G t (tt + 1) (nI i) S = LB_7 G t (F_204_23 G t tt) (nI i) S := by
  have e : Int32.ofNat L - nI 3 = nI (L - 3) := nIs (a := L) (b := 3) (by omega)
  rw [F_204_23]
  dsimp only
  rw [hL, e, jcGT (by omega) (by omega), decide_eq_false (by omega), cond_false, jif_true (jin_N (by omega) (by omega)), nI_clamp (by omega), ho]
  unfold LB_7
  try rw [hL]
  rfl
set_option maxHeartbeats 4000000 in
set_option linter.unusedSimpArgs false in
theorem lw_8 (hL : (G 0).1 = L) (hi : i + 3 ≤ L) (hL2 : L ≤ 1536) (ho : (G 0).2 i &&& nI 15 = nI 8) : F_204_23 G t (tt + 1) (nI i) S = LB_8 G t (F_204_23 G t tt) (nI i) S := by
  have e : Int32.ofNat L - nI 3 = nI (L - 3) := nIs (a := L) (b := 3) (by omega)
  rw [F_204_23]
  dsimp only
  rw [hL, e, jcGT (by omega) (by omega), decide_eq_false (by omega), cond_false, jif_true (jin_N (by omega) (by omega)), nI_clamp (by omega), ho]
  unfold LB_8
  try rw [hL]
  rfl
set_option maxHeartbeats 4000000 in
set_option linter.unusedSimpArgs false in
theorem lw_9 (hL : (G 0).1 = L) (hi : i + 3 ≤ L) (hL2 : L ≤ 1536) (ho : (G 0).2 i &&& nI 15 = nI 9) : F_204_23 G t (tt + 1) (nI i) S = LB_9 G t (F_204_23 G t tt) (nI i) S := by
  have e : Int32.ofNat L - nI 3 = nI (L - 3) := nIs (a := L) (b := 3) (by omega)
  rw [F_204_23]
  dsimp only
  rw [hL, e, jcGT (by omega) (by omega), decide_eq_false (by omega), cond_false, jif_true (jin_N (by omega) (by omega)), nI_clamp (by omega), ho]
  unfold LB_9
  try rw [hL]
  rfl
set_option maxHeartbeats 4000000 in
set_option linter.unusedSimpArgs false in
theorem lw_10 (hL : (G 0).1 = L) (hi : i + 3 ≤ L) (hL2 : L ≤ 1536) (ho : (G 0).2 i &&& nI 15 = nI 10) : F_204_23 G t (tt + 1) (nI i) S = LB_10 G t (F_204_23 G t tt) (nI i) S := by
  have e : Int32.ofNat L - nI 3 = nI (L - 3) := nIs (a := L) (b := 3) (by omega)
  rw [F_204_23]
  dsimp only
  rw [hL, e, jcGT (by omega) (by omega), decide_eq_false (by omega), cond_false, jif_true (jin_N (by omega) (by omega)), nI_clamp (by omega), ho]
  unfold LB_10
  try rw [hL]
  rfl
set_option maxHeartbeats 4000000 in
set_option linter.unusedSimpArgs false in
theorem lw_11 (hL : (G 0).1 = L) (hi : i + 3 ≤ L) (hL2 : L ≤ 1536) (ho : (G 0).2 i &&& nI 15 = nI 11) : F_204_23 G t (tt + 1) (nI i) S = LB_11 G t (F_204_23 G t tt) (nI i) S := by
  have e : Int32.ofNat L - nI 3 = nI (L - 3) := nIs (a := L) (b := 3) (by omega)
  rw [F_204_23]
  dsimp only
  rw [hL, e, jcGT (by omega) (by omega), decide_eq_false (by omega), cond_false, jif_true (jin_N (by omega) (by omega)), nI_clamp (by omega), ho]
  unfold LB_11
  try rw [hL]
  rfl
set_option maxHeartbeats 4000000 in
set_option linter.unusedSimpArgs false in
theorem lw_12 (hL : (G 0).1 = L) (hi : i + 3 ≤ L) (hL2 : L ≤ 1536) (ho : (G 0).2 i &&& nI 15 = nI 12) : F_204_23 G t (tt + 1) (nI i) S = LB_12 G t (F_204_23 G t tt) (nI i) S := by
  have e : Int32.ofNat L - nI 3 = nI (L - 3) := nIs (a := L) (b := 3) (by omega)
  rw [F_204_23]
  dsimp only
  rw [hL, e, jcGT (by omega) (by omega), decide_eq_false (by omega), cond_false, jif_true (jin_N (by omega) (by omega)), nI_clamp (by omega), ho]
  unfold LB_12
  try rw [hL]
  rfl
set_option maxHeartbeats 4000000 in
set_option linter.unusedSimpArgs false in
theorem lw_13 (hL : (G 0).1 = L) (hi : i + 3 ≤ L) (hL2 : L ≤ 1536) (ho : (G 0).2 i &&& nI 15 = nI 13) : F_204_23 G t (tt + 1) (nI i) S = LB_13 G t (F_204_23 G t tt) (nI i) S := by
  have e : Int32.ofNat L - nI 3 = nI (L - 3) := nIs (a := L) (b := 3) (by omega)
  rw [F_204_23]
  dsimp only
  rw [hL, e, jcGT (by omega) (by omega), decide_eq_false (by omega), cond_false, jif_true (jin_N (by omega) (by omega)), nI_clamp (by omega), ho]
  unfold LB_13
  try rw [hL]
  rfl
set_option maxHeartbeats 4000000 in
set_option linter.unusedSimpArgs false in
theorem lw_14 (hL : (G 0).1 = L) (hi : i + 3 ≤ L) (hL2 : L ≤ 1536) (ho : (G 0).2 i &&& nI 15 = nI 14) : F_204_23 G t (tt + 1) (nI i) S = LB_14 G t (F_204_23 G t tt) (nI i) S := by
  have e : Int32.ofNat L - nI 3 = nI (L - 3) := nIs (a := L) (b := 3) (by omega)
  rw [F_204_23]
  dsimp only
  rw [hL, e, jcGT (by omega) (by omega), decide_eq_false (by omega), cond_false, jif_true (jin_N (by omega) (by omega)), nI_clamp (by omega), ho]
  unfold LB_14
  try rw [hL]
  rfl
set_option maxHeartbeats 4000000 in
set_option linter.unusedSimpArgs false in
theorem lw_15 (hL : (G 0).1 = L) (hi : i + 3 ≤ L) (hL2 : L ≤ 1536) (ho : (G 0).2 i &&& nI 15 = nI 15) : F_204_23 G t (tt + 1) (nI i) S = LB_15 G t (F_204_23 G t tt) (nI i) S := by
  have e : Int32.ofNat L - nI 3 = nI (L - 3) := nIs (a := L) (b := 3) (by omega)
  rw [F_204_23]
  dsimp only
  rw [hL, e, jcGT (by omega) (by omega), decide_eq_false (by omega), cond_false, jif_true (jin_N (by omega) (by omega)), nI_clamp (by omega), ho]
  unfold LB_15
  try rw [hL]
  rfl
theorem i3 (i : Nat) : nI i + Int32.ofInt 3 = nI (i + 3) := by
  show nI i + nI 3 = _
  rw [nI_add]
def nxU (G : jG) (t i c x : Nat) (K : Int32 → sS → Option (Int32 × sS)) (X : Option (Int32 × sS)) : Prop := ∃ U', X = K (nI (i + 3)) U' ∧ topR (c + 1) U' U' ∧ ∃ x', x' ≤ x + 1 ∧ rmR U' x'
set_option maxHeartbeats 4000000 in
set_option linter.unusedSimpArgs false in
theorem b_0 (hG : gG G) (ht : 2147483648 < t) (hL : (G 0).1 = L) (hi : i + 3 ≤ L) (hL2 : L ≤ 1536) (R : topR c U U) (hc : c < 1000) (rm : rmR U x) {K : Int32 → sS → Option (Int32 × sS)} : nxU G t i c x K (LB_0 G t K (nI i) U) := by
  have e1 : nI i + nI 1 = nI (i + 1) := nI_add i 1
  have e2 : nI i + nI 2 = nI (i + 2) := nI_add i 2
  have j1 : jin (nI (i + 1)) L = true := jin_N (by omega) (by omega)
  have j2 : jin (nI (i + 2)) L = true := jin_N (by omega) (by omega)
  have n1 : (nI (i + 1)).toNatClampNeg = i + 1 := nI_clamp (by omega)
  have n2 : (nI (i + 2)).toNatClampNeg = i + 2 := nI_clamp (by omega)
  obtain ⟨e, S', v0, T', a1, a2, a3', a4, a5, a6, a7⟩ := (c_function (G := G) (t := t) ((G 0).2 (i + 1)) ((G 0).2 (i + 2))).uu (fun S q h => c_130 _ _ S rfl q h) (fun S q h => by
    obtain ⟨v, h1, _⟩ := to64_k h
    exact m_136 _ _ S rfl _ h1) R hc rm
  obtain ⟨v, a3, a8⟩ := to64_k a3'
  dsimp only at a3 a8
  subst a8
  refine ⟨T', ?_, a6, a7⟩
  unfold LB_0
  rw [hL, e1, e2, jif_true j1, jif_true j2, n1, n2, a1, bdS]
  dsimp only
  rw [jif_true j1, jif_true j2, a3, bdS]
  dsimp only
  rw [show F_137 G t T' = some (T'.1 33 0 0 25, T') from rfl, bdS]
  dsimp only
  rw [a4, jee e (nI e), cond_true]
  by_cases c0 : e = 0
  · subst c0
    rw [show jcmp .ne (nI 0) 0 = false from by decide, cond_false, jif_true (jin_N (by omega) (by omega)), nI_clamp (by omega), a5 rfl, lgc, cond_true]
    unfold F_204_181 F_204_795
    rw [i3]
  · rw [show jcmp .ne (nI e) 0 = true from by
      show jcmp .ne (nI e) (nI 0) = true
      rw [jcNE (by omega) (by omega)]; exact decide_eq_true c0]
    rw [cond_true]
    unfold F_204_181 F_204_795
    rw [i3]
set_option maxHeartbeats 4000000 in
set_option linter.unusedSimpArgs false in
theorem b_1 (hG : gG G) (ht : 2147483648 < t) (hL : (G 0).1 = L) (hi : i + 3 ≤ L) (hL2 : L ≤ 1536) (R : topR c U U) (hc : c < 1000) (rm : rmR U x) {K : Int32 → sS → Option (Int32 × sS)} : nxU G t i c x K (LB_1 G t K (nI i) U) := by
  have e1 : nI i + nI 1 = nI (i + 1) := nI_add i 1
  have e2 : nI i + nI 2 = nI (i + 2) := nI_add i 2
  have j1 : jin (nI (i + 1)) L = true := jin_N (by omega) (by omega)
  have j2 : jin (nI (i + 2)) L = true := jin_N (by omega) (by omega)
  have n1 : (nI (i + 1)).toNatClampNeg = i + 1 := nI_clamp (by omega)
  have n2 : (nI (i + 2)).toNatClampNeg = i + 2 := nI_clamp (by omega)
  obtain ⟨e, S', v0, T', a1, a2, a3', a4, a5, a6, a7⟩ := (c_code (G := G) (t := t) ((G 0).2 (i + 1)) ((G 0).2 (i + 2))).uu (fun S q h => c_128 _ _ S rfl q h) (fun S q h => by
    obtain ⟨v, h1, _⟩ := to64_k h
    exact m_139 _ _ S rfl _ h1) R hc rm
  obtain ⟨v, a3, a8⟩ := to64_k a3'
  dsimp only at a3 a8
  subst a8
  refine ⟨T', ?_, a6, a7⟩
  unfold LB_1
  rw [hL, e1, e2, jif_true j1, jif_true j2, n1, n2, a1, bdS]
  dsimp only
  rw [jif_true j1, jif_true j2, a3, bdS]
  dsimp only
  rw [show F_137 G t T' = some (T'.1 33 0 0 25, T') from rfl, bdS]
  dsimp only
  rw [a4, jee e (nI e), cond_true]
  by_cases c0 : e = 0
  · subst c0
    rw [show jcmp .ne (nI 0) 0 = false from by decide, cond_false, jif_true (jin_N (by omega) (by omega)), nI_clamp (by omega), a5 rfl, lgc, cond_true]
    unfold F_204_249 F_204_795
    rw [i3]
  · rw [show jcmp .ne (nI e) 0 = true from by
      show jcmp .ne (nI e) (nI 0) = true
      rw [jcNE (by omega) (by omega)]; exact decide_eq_true c0]
    rw [cond_true]
    unfold F_204_249 F_204_795
    rw [i3]
set_option maxHeartbeats 4000000 in
set_option linter.unusedSimpArgs false in
theorem b_4 (hG : gG G) (ht : 2147483648 < t) (hL : (G 0).1 = L) (hi : i + 3 ≤ L) (hL2 : L ≤ 1536) (R : topR c U U) (hc : c < 1000) (rm : rmR U x) {K : Int32 → sS → Option (Int32 × sS)} : nxU G t i c x K (LB_4 G t K (nI i) U) := by
  have e1 : nI i + nI 1 = nI (i + 1) := nI_add i 1
  have e2 : nI i + nI 2 = nI (i + 2) := nI_add i 2
  have j1 : jin (nI (i + 1)) L = true := jin_N (by omega) (by omega)
  have j2 : jin (nI (i + 2)) L = true := jin_N (by omega) (by omega)
  have n1 : (nI (i + 1)).toNatClampNeg = i + 1 := nI_clamp (by omega)
  have n2 : (nI (i + 2)).toNatClampNeg = i + 2 := nI_clamp (by omega)
  obtain ⟨e, S', v0, T', a1, a2, a3', a4, a5, a6, a7⟩ := (c_quantum (G := G) (t := t) ((G 0).2 (i + 1))).uu (fun S q h => c_145 _ S rfl q h) (fun S q h => by
    obtain ⟨v, h1, _⟩ := to64_k h
    exact m_146 _ S rfl _ h1) R hc rm
  obtain ⟨v, a3, a8⟩ := to64_k a3'
  dsimp only at a3 a8
  subst a8
  refine ⟨T', ?_, a6, a7⟩
  unfold LB_4
  rw [hL, e1, jif_true j1, n1, a1, bdS]
  dsimp only
  rw [jif_true j1, a3, bdS]
  dsimp only
  rw [show F_137 G t T' = some (T'.1 33 0 0 25, T') from rfl, bdS]
  dsimp only
  rw [a4, jee e (nI e), cond_true]
  by_cases c0 : e = 0
  · subst c0
    rw [show jcmp .ne (nI 0) 0 = false from by decide, cond_false, jif_true (jin_N (by omega) (by omega)), nI_clamp (by omega), a5 rfl, lgc, cond_true]
    unfold F_204_354 F_204_795
    rw [i3]
  · rw [show jcmp .ne (nI e) 0 = true from by
      show jcmp .ne (nI e) (nI 0) = true
      rw [jcNE (by omega) (by omega)]; exact decide_eq_true c0]
    rw [cond_true]
    unfold F_204_354 F_204_795
    rw [i3]
set_option maxHeartbeats 4000000 in
set_option linter.unusedSimpArgs false in
theorem b_5 (hG : gG G) (ht : 2147483648 < t) (hL : (G 0).1 = L) (hi : i + 3 ≤ L) (hL2 : L ≤ 1536) (R : topR c U U) (hc : c < 1000) (rm : rmR U x) {K : Int32 → sS → Option (Int32 × sS)} : nxU G t i c x K (LB_5 G t K (nI i) U) := by
  have e1 : nI i + nI 1 = nI (i + 1) := nI_add i 1
  have e2 : nI i + nI 2 = nI (i + 2) := nI_add i 2
  have j1 : jin (nI (i + 1)) L = true := jin_N (by omega) (by omega)
  have j2 : jin (nI (i + 2)) L = true := jin_N (by omega) (by omega)
  have n1 : (nI (i + 1)).toNatClampNeg = i + 1 := nI_clamp (by omega)
  have n2 : (nI (i + 2)).toNatClampNeg = i + 2 := nI_clamp (by omega)
  obtain ⟨e, S', v0, T', a1, a2, a3', a4, a5, a6, a7⟩ := (c_pace (G := G) (t := t) ((G 0).2 (i + 1))).uu (fun S q h => c_147 _ S rfl q h) (fun S q h => by
    obtain ⟨v, h1, _⟩ := to64_k h
    exact m_148 _ S rfl _ h1) R hc rm
  obtain ⟨v, a3, a8⟩ := to64_k a3'
  dsimp only at a3 a8
  subst a8
  refine ⟨T', ?_, a6, a7⟩
  unfold LB_5
  rw [hL, e1, jif_true j1, n1, a1, bdS]
  dsimp only
  rw [jif_true j1, a3, bdS]
  dsimp only
  rw [show F_137 G t T' = some (T'.1 33 0 0 25, T') from rfl, bdS]
  dsimp only
  rw [a4, jee e (nI e), cond_true]
  by_cases c0 : e = 0
  · subst c0
    rw [show jcmp .ne (nI 0) 0 = false from by decide, cond_false, jif_true (jin_N (by omega) (by omega)), nI_clamp (by omega), a5 rfl, lgc, cond_true]
    unfold F_204_410 F_204_795
    rw [i3]
  · rw [show jcmp .ne (nI e) 0 = true from by
      show jcmp .ne (nI e) (nI 0) = true
      rw [jcNE (by omega) (by omega)]; exact decide_eq_true c0]
    rw [cond_true]
    unfold F_204_410 F_204_795
    rw [i3]
set_option maxHeartbeats 4000000 in
set_option linter.unusedSimpArgs false in
theorem b_6 (hG : gG G) (ht : 2147483648 < t) (hL : (G 0).1 = L) (hi : i + 3 ≤ L) (hL2 : L ≤ 1536) (R : topR c U U) (hc : c < 1000) (rm : rmR U x) {K : Int32 → sS → Option (Int32 × sS)} : nxU G t i c x K (LB_6 G t K (nI i) U) := by
  have e1 : nI i + nI 1 = nI (i + 1) := nI_add i 1
  have e2 : nI i + nI 2 = nI (i + 2) := nI_add i 2
  have j1 : jin (nI (i + 1)) L = true := jin_N (by omega) (by omega)
  have j2 : jin (nI (i + 2)) L = true := jin_N (by omega) (by omega)
  have n1 : (nI (i + 1)).toNatClampNeg = i + 1 := nI_clamp (by omega)
  have n2 : (nI (i + 2)).toNatClampNeg = i + 2 := nI_clamp (by omega)
  obtain ⟨e, S', v0, T', a1, a2, a3', a4, a5, a6, a7⟩ := (c_run hG ht (G := G) (t := t) ((G 0).2 (i + 1))).uu (fun S q h => c_149 _ S rfl q h) (fun S q h => by
    obtain ⟨v, h1, _⟩ := to64_k h
    exact m_191 _ S rfl _ h1) R hc rm
  obtain ⟨v, a3, a8⟩ := to64_k a3'
  dsimp only at a3 a8
  subst a8
  refine ⟨T', ?_, a6, a7⟩
  unfold LB_6
  rw [hL, e1, jif_true j1, n1, a1, bdS]
  dsimp only
  rw [jif_true j1, a3, bdS]
  dsimp only
  rw [show F_137 G t T' = some (T'.1 33 0 0 25, T') from rfl, bdS]
  dsimp only
  rw [a4, jee e (nI e), cond_true]
  by_cases c0 : e = 0
  · subst c0
    rw [show jcmp .ne (nI 0) 0 = false from by decide, cond_false, jif_true (jin_N (by omega) (by omega)), nI_clamp (by omega), a5 rfl, lgc, cond_true]
    unfold F_204_466 F_204_795
    rw [i3]
  · rw [show jcmp .ne (nI e) 0 = true from by
      show jcmp .ne (nI e) (nI 0) = true
      rw [jcNE (by omega) (by omega)]; exact decide_eq_true c0]
    rw [cond_true]
    unfold F_204_466 F_204_795
    rw [i3]
set_option maxHeartbeats 4000000 in
set_option linter.unusedSimpArgs false in
theorem b_9 (hG : gG G) (ht : 2147483648 < t) (hL : (G 0).1 = L) (hi : i + 3 ≤ L) (hL2 : L ≤ 1536) (R : topR c U U) (hc : c < 1000) (rm : rmR U x) {K : Int32 → sS → Option (Int32 × sS)} : nxU G t i c x K (LB_9 G t K (nI i) U) := by
  have e1 : nI i + nI 1 = nI (i + 1) := nI_add i 1
  have e2 : nI i + nI 2 = nI (i + 2) := nI_add i 2
  have j1 : jin (nI (i + 1)) L = true := jin_N (by omega) (by omega)
  have j2 : jin (nI (i + 2)) L = true := jin_N (by omega) (by omega)
  have n1 : (nI (i + 1)).toNatClampNeg = i + 1 := nI_clamp (by omega)
  have n2 : (nI (i + 2)).toNatClampNeg = i + 2 := nI_clamp (by omega)
  obtain ⟨e, S', v0, T', a1, a2, a3', a4, a5, a6, a7⟩ := (c_strand (G := G) (t := t) ((G 0).2 (i + 1)) ((G 0).2 (i + 2))).uu (fun S q h => c_194 _ _ S rfl q h) (fun S q h => by
    obtain ⟨v, h1, _⟩ := to64_k h
    exact m_195 _ _ S rfl _ h1) R hc rm
  obtain ⟨v, a3, a8⟩ := to64_k a3'
  dsimp only at a3 a8
  subst a8
  refine ⟨T', ?_, a6, a7⟩
  unfold LB_9
  rw [hL, e1, e2, jif_true j1, jif_true j2, n1, n2, a1, bdS]
  dsimp only
  rw [jif_true j1, jif_true j2, a3, bdS]
  dsimp only
  rw [show F_137 G t T' = some (T'.1 33 0 0 25, T') from rfl, bdS]
  dsimp only
  rw [a4, jee e (nI e), cond_true]
  by_cases c0 : e = 0
  · subst c0
    rw [show jcmp .ne (nI 0) 0 = false from by decide, cond_false, jif_true (jin_N (by omega) (by omega)), nI_clamp (by omega), a5 rfl, lgc, cond_true]
    unfold F_204_561 F_204_795
    rw [i3]
  · rw [show jcmp .ne (nI e) 0 = true from by
      show jcmp .ne (nI e) (nI 0) = true
      rw [jcNE (by omega) (by omega)]; exact decide_eq_true c0]
    rw [cond_true]
    unfold F_204_561 F_204_795
    rw [i3]
set_option maxHeartbeats 4000000 in
set_option linter.unusedSimpArgs false in
theorem b_10 (hG : gG G) (ht : 2147483648 < t) (hL : (G 0).1 = L) (hi : i + 3 ≤ L) (hL2 : L ≤ 1536) (R : topR c U U) (hc : c < 1000) (rm : rmR U x) {K : Int32 → sS → Option (Int32 × sS)} : nxU G t i c x K (LB_10 G t K (nI i) U) := by
  have e1 : nI i + nI 1 = nI (i + 1) := nI_add i 1
  have e2 : nI i + nI 2 = nI (i + 2) := nI_add i 2
  have j1 : jin (nI (i + 1)) L = true := jin_N (by omega) (by omega)
  have j2 : jin (nI (i + 2)) L = true := jin_N (by omega) (by omega)
  have n1 : (nI (i + 1)).toNatClampNeg = i + 1 := nI_clamp (by omega)
  have n2 : (nI (i + 2)).toNatClampNeg = i + 2 := nI_clamp (by omega)
  obtain ⟨e, S', v, T', a1, a2, a3, a4, a5, a6, a7⟩ := (c_operand (G := G) (t := t) ((G 0).2 (i + 1)) ((G 0).2 (i + 2))).uu (fun S q h => c_196 _ _ S rfl q h) (fun S q h => m_198 _ _ S rfl q h) R hc rm
  refine ⟨T', ?_, a6, a7⟩
  unfold LB_10
  rw [hL, e1, e2, jif_true j1, jif_true j2, n1, n2, a1, bdS]
  dsimp only
  rw [jif_true j1, jif_true j2, a3, bdS]
  dsimp only
  rw [show F_137 G t T' = some (T'.1 33 0 0 25, T') from rfl, bdS]
  dsimp only
  rw [a4, jee e (nI e), cond_true]
  by_cases c0 : e = 0
  · subst c0
    rw [show jcmp .ne (nI 0) 0 = false from by decide, cond_false, jif_true (jin_N (by omega) (by omega)), nI_clamp (by omega), a5 rfl, lgc, cond_true]
    unfold F_204_628 F_204_795
    rw [i3]
  · rw [show jcmp .ne (nI e) 0 = true from by
      show jcmp .ne (nI e) (nI 0) = true
      rw [jcNE (by omega) (by omega)]; exact decide_eq_true c0]
    rw [cond_true]
    unfold F_204_628 F_204_795
    rw [i3]
set_option maxHeartbeats 4000000 in
set_option linter.unusedSimpArgs false in
theorem b_11 (hG : gG G) (ht : 2147483648 < t) (hL : (G 0).1 = L) (hi : i + 3 ≤ L) (hL2 : L ≤ 1536) (R : topR c U U) (hc : c < 1000) (rm : rmR U x) {K : Int32 → sS → Option (Int32 × sS)} : nxU G t i c x K (LB_11 G t K (nI i) U) := by
  have e1 : nI i + nI 1 = nI (i + 1) := nI_add i 1
  have e2 : nI i + nI 2 = nI (i + 2) := nI_add i 2
  have j1 : jin (nI (i + 1)) L = true := jin_N (by omega) (by omega)
  have j2 : jin (nI (i + 2)) L = true := jin_N (by omega) (by omega)
  have n1 : (nI (i + 1)).toNatClampNeg = i + 1 := nI_clamp (by omega)
  have n2 : (nI (i + 2)).toNatClampNeg = i + 2 := nI_clamp (by omega)
  obtain ⟨e, S', v0, T', a1, a2, a3', a4, a5, a6, a7⟩ := (c_kind (G := G) (t := t) ((G 0).2 (i + 1)) ((G 0).2 (i + 2))).uu (fun S q h => c_131 _ _ S rfl q h) (fun S q h => by
    obtain ⟨v, h1, _⟩ := to64_k h
    exact m_199 _ _ S rfl _ h1) R hc rm
  obtain ⟨v, a3, a8⟩ := to64_k a3'
  dsimp only at a3 a8
  subst a8
  refine ⟨T', ?_, a6, a7⟩
  unfold LB_11
  rw [hL, e1, e2, jif_true j1, jif_true j2, n1, n2, a1, bdS]
  dsimp only
  rw [jif_true j1, jif_true j2, a3, bdS]
  dsimp only
  rw [show F_137 G t T' = some (T'.1 33 0 0 25, T') from rfl, bdS]
  dsimp only
  rw [a4, jee e (nI e), cond_true]
  by_cases c0 : e = 0
  · subst c0
    rw [show jcmp .ne (nI 0) 0 = false from by decide, cond_false, jif_true (jin_N (by omega) (by omega)), nI_clamp (by omega), a5 rfl, lgc, cond_true]
    unfold F_204_696 F_204_795
    rw [i3]
  · rw [show jcmp .ne (nI e) 0 = true from by
      show jcmp .ne (nI e) (nI 0) = true
      rw [jcNE (by omega) (by omega)]; exact decide_eq_true c0]
    rw [cond_true]
    unfold F_204_696 F_204_795
    rw [i3]
set_option maxHeartbeats 4000000 in
set_option linter.unusedSimpArgs false in
theorem b_12 (hG : gG G) (ht : 2147483648 < t) (hL : (G 0).1 = L) (hi : i + 3 ≤ L) (hL2 : L ≤ 1536) (R : topR c U U) (hc : c < 1000) (rm : rmR U x) {K : Int32 → sS → Option (Int32 × sS)} : nxU G t i c x K (LB_12 G t K (nI i) U) := by
  have e1 : nI i + nI 1 = nI (i + 1) := nI_add i 1
  have e2 : nI i + nI 2 = nI (i + 2) := nI_add i 2
  have j1 : jin (nI (i + 1)) L = true := jin_N (by omega) (by omega)
  have j2 : jin (nI (i + 2)) L = true := jin_N (by omega) (by omega)
  have n1 : (nI (i + 1)).toNatClampNeg = i + 1 := nI_clamp (by omega)
  have n2 : (nI (i + 2)).toNatClampNeg = i + 2 := nI_clamp (by omega)
  obtain ⟨e, S', v0, T', a1, a2, a3', a4, a5, a6, a7⟩ := (c_count ht (G := G) (t := t) ((G 0).2 (i + 1))).uu (fun S q h => c_129 _ S rfl q h) (fun S q h => by
    obtain ⟨v, h1, _⟩ := to64_k h
    exact m_200 _ S rfl _ h1) R hc rm
  obtain ⟨v, a3, a8⟩ := to64_k a3'
  dsimp only at a3 a8
  subst a8
  refine ⟨T', ?_, a6, a7⟩
  unfold LB_12
  rw [hL, e1, jif_true j1, n1, a1, bdS]
  dsimp only
  rw [jif_true j1, a3, bdS]
  dsimp only
  rw [show F_137 G t T' = some (T'.1 33 0 0 25, T') from rfl, bdS]
  dsimp only
  rw [a4, jee e (nI e), cond_true]
  by_cases c0 : e = 0
  · subst c0
    rw [show jcmp .ne (nI 0) 0 = false from by decide, cond_false, jif_true (jin_N (by omega) (by omega)), nI_clamp (by omega), a5 rfl, lgc, cond_true]
    unfold F_204_752 F_204_795
    rw [i3]
  · rw [show jcmp .ne (nI e) 0 = true from by
      show jcmp .ne (nI e) (nI 0) = true
      rw [jcNE (by omega) (by omega)]; exact decide_eq_true c0]
    rw [cond_true]
    unfold F_204_752 F_204_795
    rw [i3]
set_option maxHeartbeats 4000000 in
set_option linter.unusedSimpArgs false in
theorem b_2 (hG : gG G) (ht : 2147483648 < t) (hL : (G 0).1 = L) (hi : i + 3 ≤ L) (hL2 : L ≤ 1536) (R : topR c U U) (hc : c < 1000) (rm : rmR U x) {K : Int32 → sS → Option (Int32 × sS)} : nxU G t i c x K (LB_2 G t K (nI i) U) := by
  have e1 : nI i + nI 1 = nI (i + 1) := nI_add i 1
  have e2 : nI i + nI 2 = nI (i + 2) := nI_add i 2
  have j1 : jin (nI (i + 1)) L = true := jin_N (by omega) (by omega)
  have j2 : jin (nI (i + 2)) L = true := jin_N (by omega) (by omega)
  have n1 : (nI (i + 1)).toNatClampNeg = i + 1 := nI_clamp (by omega)
  have n2 : (nI (i + 2)).toNatClampNeg = i + 2 := nI_clamp (by omega)
  obtain ⟨e, S', T', a1, a2, _⟩ := c_begin (G := G) ht ((G 0).2 (i + 1)) c U U R hc
  have k1 := c_127 ((G 0).2 (i + 1)) U rfl _ a1
  obtain ⟨e', S2, T2, b1, b2, b3, b4, b5, b6⟩ := c_begin (G := G) ht ((G 0).2 (i + 1)) c U S' (R.mT (moB.of k1)) hc
  rw [a1] at b1
  have b1' := Option.some.inj b1
  have q1 : nI e = nI e' := congrArg Prod.fst b1'
  have q2 : S' = S2 := congrArg Prod.snd b1'
  subst q2
  have k2 := m_143 ((G 0).2 (i + 1)) S' rfl _ b3
  obtain ⟨x', x1, x2⟩ := b6 x rm
  refine ⟨T2, ?_, b5.mS (clB.of k2), x', x1, x2.same (kC_iff.mp k2).2⟩
  unfold LB_2
  rw [hL, e1, jif_true j1, n1, a1, bdS]
  dsimp only
  rw [jif_true j1, b3, bdS]
  dsimp only
  rw [show F_137 G t T2 = some (T2.1 33 0 0 25, T2) from rfl, bdS]
  dsimp only
  rw [b4, q1, jee e (nI e'), cond_true]
  unfold F_204_795
  rw [i3]
set_option maxHeartbeats 4000000 in
set_option linter.unusedSimpArgs false in
theorem b_3 (hG : gG G) (ht : 2147483648 < t) (hL : (G 0).1 = L) (hi : i + 3 ≤ L) (hL2 : L ≤ 1536) (R : topR c U U) (hc : c < 1000) (rm : rmR U x) {K : Int32 → sS → Option (Int32 × sS)} : nxU G t i c x K (LB_3 G t K (nI i) U) := by
  obtain ⟨v, S', T', a1, a2, a3, a4⟩ := (c_clear (G := G) (t := t) ht).uu (fun S q h => c_47 S rfl q h) (fun S q h => m_144 S rfl q h) R hc rm
  refine ⟨T', ?_, a3, a4⟩
  unfold LB_3
  rw [a1, bdS]
  dsimp only
  rw [a2, bdS]
  dsimp only
  rw [jee 0 v, cond_true]
  unfold F_204_795
  rw [i3]
set_option maxHeartbeats 4000000 in
set_option linter.unusedSimpArgs false in
theorem b_7 (hG : gG G) (ht : 2147483648 < t) (hL : (G 0).1 = L) (hi : i + 3 ≤ L) (hL2 : L ≤ 1536) (R : topR c U U) (hc : c < 1000) (rm : rmR U x) {K : Int32 → sS → Option (Int32 × sS)} : nxU G t i c x K (LB_7 G t K (nI i) U) := by
  obtain ⟨v, S', T', a1, a2, a3, a4⟩ := (c_state (G := G) (t := t)).uu (fun S q h => c_122 S rfl q h) (fun S q h => m_192 S rfl q h) R hc rm
  refine ⟨T', ?_, a3, a4⟩
  unfold LB_7
  rw [a1, bdS]
  dsimp only
  rw [a2, bdS]
  dsimp only
  rw [jee 0 v, cond_true]
  unfold F_204_795
  rw [i3]
set_option maxHeartbeats 4000000 in
set_option linter.unusedSimpArgs false in
theorem b_14 (hG : gG G) (ht : 2147483648 < t) (hL : (G 0).1 = L) (hi : i + 3 ≤ L) (hL2 : L ≤ 1536) (R : topR c U U) (hc : c < 1000) (rm : rmR U x) {K : Int32 → sS → Option (Int32 × sS)} : nxU G t i c x K (LB_14 G t K (nI i) U) := by
  obtain ⟨v, S', T', a1, a2, a3, a4⟩ := (c_collect (G := G) (t := t) ht).uu (fun S q h => c_53 S rfl q h) (fun S q h => m_202 S rfl q h) R hc rm
  refine ⟨T', ?_, a3, a4⟩
  unfold LB_14
  rw [a1, bdS]
  dsimp only
  rw [a2, bdS]
  dsimp only
  rw [jee 0 v, cond_true]
  unfold F_204_795
  rw [i3]
set_option maxHeartbeats 4000000 in
set_option linter.unusedSimpArgs false in
theorem b_15 (hG : gG G) (ht : 2147483648 < t) (hL : (G 0).1 = L) (hi : i + 3 ≤ L) (hL2 : L ≤ 1536) (R : topR c U U) (hc : c < 1000) (rm : rmR U x) {K : Int32 → sS → Option (Int32 × sS)} : nxU G t i c x K (LB_15 G t K (nI i) U) := by
  obtain ⟨v, S', T', a1, a2, a3, a4⟩ := (c_check (G := G) (t := t) ht).uu (fun S q h => c_45 S rfl q h) (fun S q h => m_203 S rfl q h) R hc rm
  refine ⟨T', ?_, a3, a4⟩
  unfold LB_15
  rw [a1, bdS]
  dsimp only
  rw [a2, bdS]
  dsimp only
  rw [jee 0 v, cond_true]
  unfold F_204_795
  rw [i3]
set_option maxHeartbeats 4000000 in
set_option linter.unusedSimpArgs false in
theorem b_8 (hG : gG G) (ht : 2147483648 < t) (hL : (G 0).1 = L) (hi : i + 3 ≤ L) (hL2 : L ≤ 1536) (R : topR c U U) (hc : c < 1000) (rm : rmR U x) {K : Int32 → sS → Option (Int32 × sS)} : nxU G t i c x K (LB_8 G t K (nI i) U) := by
  obtain ⟨v, S', T', a1, a2, a3, a4⟩ := (c_take (G := G) (t := t)).uu (fun S q h => c_126 S rfl q h) (fun S q h => m_193 S rfl q h) R hc rm
  refine ⟨T', ?_, a3, a4⟩
  unfold LB_8
  rw [a1, bdS]
  dsimp only
  rw [a2, bdS]
  dsimp only
  rw [lgc, cond_true]
  unfold F_204_795
  rw [i3]
set_option maxHeartbeats 4000000 in
set_option linter.unusedSimpArgs false in
theorem b_13 (hG : gG G) (ht : 2147483648 < t) (hL : (G 0).1 = L) (hi : i + 3 ≤ L) (hL2 : L ≤ 1536) (R : topR c U U) (hc : c < 1000) (rm : rmR U x) {K : Int32 → sS → Option (Int32 × sS)} : nxU G t i c x K (LB_13 G t K (nI i) U) := by
  obtain ⟨v, S', T', a1, a2, a3, a4⟩ := (c_digest (G := G) (t := t) ht).uu (fun S q h => c_63 S rfl q h) (fun S q h => m_201 S rfl q h) R hc rm
  refine ⟨T', ?_, a3, a4⟩
  unfold LB_13
  rw [a1, bdS]
  dsimp only
  rw [a2, bdS]
  dsimp only
  rw [lgc, cond_true]
  unfold F_204_795
  rw [i3]
end LAW
