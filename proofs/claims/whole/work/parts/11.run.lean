/-! What the pure machine's runner says, case by case; more time changes nothing; counts only grow; rows for walking it. -/
/-- a call's four ways to go on -/
def jcall (G : jG) (P : jT) (t j pc : Nat) (lv : jL) (rest : List Value) (μ : jS) (as : List Value) (y : Nat) (o : jO) : Prop :=
  (y = 0 ∧ ∃ a, as = [.ref a] ∧ jex G P t j (pc + 3) lv rest μ = some o) ∨
  (y = 1 ∧ ∃ μ', jcpy μ as = some μ' ∧ jex G P t j (pc + 3) lv rest μ' = some o) ∨
  (∃ y' v μ', y = y' + 2 ∧ (as.map fun v => v.category).sum ≤ (P.2.2.2.2.1 y').2.2.2.2.2.1 ∧ jex G P t y' 0 (lv_args 0 as) [] μ = some (.inl v, μ') ∧ jex G P t j (pc + 3) lv (v.toList ++ rest) μ' = some o) ∨
  (∃ y' x μ' h z, y = y' + 2 ∧ (as.map fun v => v.category).sum ≤ (P.2.2.2.2.1 y').2.2.2.2.2.1 ∧ jex G P t y' 0 (lv_args 0 as) [] μ = some (.inr x, μ') ∧ P.2.2.1 j pc x = some (h, z) ∧ jex G P t j h (jdrop lv z) [] μ' = some o)
theorem jex_inv {G : jG} {P : jT} {t j pc : Nat} {lv : jL} {st : List Value} {μ : jS} {o : jO} (h : jex G P (t + 1) j pc lv st μ = some o) :
    (∃ x, P.2.1 j pc = some x ∧ st = [] ∧ o = (.inr x, μ.1, μ.2.1, μ.2.2.1 + 1, μ.2.2.2 + 6)) ∨
    (P.2.1 j pc = none ∧ ∃ i, P.1 j pc = some i ∧
      ((∃ q, jstep G (P.2.2.2.2.1 j) i pc lv st μ = some q ∧ jex G P t j q.1 q.2.1 q.2.2.1 q.2.2.2 = some o) ∨
       (jstep G (P.2.2.2.2.1 j) i pc lv st μ = none ∧ ∃ v, jret (P.2.2.2.2.2 j) i st = some v ∧ o = (.inl v, μ)) ∨
       (jstep G (P.2.2.2.2.1 j) i pc lv st μ = none ∧ jret (P.2.2.2.2.2 j) i st = none ∧ ∃ k y n rc as rest, jcix i = some k ∧ P.2.2.2.1 j k = some (y, n, rc) ∧ jarg n st [] = some (as, rest) ∧ jrec μ rc as = true ∧ (rest.map fun v => v.category).sum ≤ 8 ∧ jcall G P t j pc lv rest μ as y o))) := by
  rw [jex] at h
  split at h
  · rename_i x hx
    split at h
    · cases h
      exact Or.inl ⟨x, hx, rfl, rfl⟩
    · cases h
  · rename_i hx
    refine Or.inr ⟨hx, ?_⟩
    split at h
    · cases h
    · rename_i i hi
      refine ⟨i, hi, ?_⟩
      split at h
      · rename_i q hq
        exact Or.inl ⟨q, hq, h⟩
      · rename_i hq
        refine Or.inr ?_
        split at h
        · rename_i v hv
          cases h
          exact Or.inl ⟨hq, v, hv, rfl⟩
        · rename_i hv
          refine Or.inr ⟨hq, hv, ?_⟩
          split at h
          · cases h
          · rename_i k hk
            split at h
            · cases h
            · rename_i y n rc hc
              split at h
              · cases h
              · rename_i as rest ha
                cases hb : (jrec μ rc as && Nat.ble (rest.map fun v => v.category).sum 8) with
                | false => rw [hb] at h; cases h
                | true =>
                  rw [hb] at h
                  have h' := h
                  clear h
                  simp only [Bool.not_true, cond_false] at h'
                  rw [Bool.and_eq_true] at hb
                  refine ⟨k, y, n, rc, as, rest, hk, hc, ha, hb.1, Nat.le_of_ble_eq_true hb.2, ?_⟩
                  split at h'
                  · split at h'
                    · exact Or.inl ⟨rfl, _, rfl, h'⟩
                    · cases h'
                  · split at h'
                    · cases h'
                    · rename_i μ' hm
                      exact Or.inr (Or.inl ⟨rfl, μ', hm, h'⟩)
                  · rename_i y'
                    split at h'
                    · cases h'
                    · rename_i v μ' hm
                      obtain ⟨hw, hm⟩ := jif_some hm
                      exact Or.inr (Or.inr (Or.inl ⟨y', v, μ', rfl, Nat.le_of_ble_eq_true hw, hm, h'⟩))
                    · rename_i x μ' hm
                      split at h'
                      · cases h'
                      · rename_i hh z hz
                        obtain ⟨hw, hm⟩ := jif_some hm
                        exact Or.inr (Or.inr (Or.inr ⟨y', x, μ', hh, z, rfl, Nat.le_of_ble_eq_true hw, hm, hz, h'⟩))
section JR
variable {G : jG} {P : jT} {t j pc : Nat} {lv : jL} {st : List Value} {μ : jS} {o : jO}
theorem jex_throw {x : Nat} (hX : P.2.1 j pc = some x) : jex G P (t + 1) j pc lv [] μ = some (.inr x, μ.1, μ.2.1, μ.2.2.1 + 1, μ.2.2.2 + 6) := by
  rw [jex]
  simp only [hX]
theorem jex_step {i : Instr} {q : jN} (hX : P.2.1 j pc = none) (hI : P.1 j pc = some i) (hs : jstep G (P.2.2.2.2.1 j) i pc lv st μ = some q) : jex G P (t + 1) j pc lv st μ = jex G P t j q.1 q.2.1 q.2.2.1 q.2.2.2 := by
  rw [jex]
  simp only [hX, hI, hs]
theorem jex_ret {i : Instr} {v : Option Value} (hX : P.2.1 j pc = none) (hI : P.1 j pc = some i) (hs : jstep G (P.2.2.2.2.1 j) i pc lv st μ = none) (hv : jret (P.2.2.2.2.2 j) i st = some v) : jex G P (t + 1) j pc lv st μ = some (.inl v, μ) := by
  rw [jex]
  simp only [hX, hI, hs, hv]
theorem jex_call {i : Instr} {k y n : Nat} {rc : Option Nat} {as rest : List Value} (hX : P.2.1 j pc = none) (hI : P.1 j pc = some i) (hs : jstep G (P.2.2.2.2.1 j) i pc lv st μ = none) (hv : jret (P.2.2.2.2.2 j) i st = none) (hk : jcix i = some k) (hy : P.2.2.2.1 j k = some (y, n, rc)) (ha : jarg n st [] = some (as, rest)) (hr : jrec μ rc as = true) (h8 : (rest.map fun v => v.category).sum ≤ 8) (hc : jcall G P t j pc lv rest μ as y o) : jex G P (t + 1) j pc lv st μ = some o := by
  rw [jex]
  have hb : (!(jrec μ rc as && Nat.ble (rest.map fun v => v.category).sum 8)) = false := by rw [hr, Nat.ble_eq_true_of_le h8]; rfl
  simp only [hX, hI, hs, hv, hk, hy, ha, hb, cond_false]
  rcases hc with ⟨rfl, a, rfl, h⟩ | ⟨rfl, μ', hm, h⟩ | ⟨y', v, μ', rfl, hw, hm, h⟩ | ⟨y', x, μ', hh, z, rfl, hw, hm, hz, h⟩
  · exact h
  · simp only [hm]; exact h
  · simp only [jif_true (Nat.ble_eq_true_of_le hw), hm]; exact h
  · simp only [jif_true (Nat.ble_eq_true_of_le hw), hm, hz]; exact h
end JR
/-- more time changes nothing -/
theorem jex_more {G : jG} {P : jT} : ∀ (t : Nat) (j pc : Nat) (lv : jL) (st : List Value) (μ : jS) (o : jO), jex G P t j pc lv st μ = some o → jex G P (t + 1) j pc lv st μ = some o := by
  intro t
  induction t with
  | zero => intro j pc lv st μ o h; simp [jex] at h
  | succ t ih =>
    intro j pc lv st μ o h
    rcases jex_inv h with ⟨x, hx, rfl, rfl⟩ | ⟨hX, i, hI, ⟨q, hq, h⟩ | ⟨hs, v, hv, rfl⟩ | ⟨hs, hv, k, y, n, rc, as, rest, hk, hy, ha, hr, h8, hc⟩⟩
    · exact jex_throw hx
    · rw [jex_step hX hI hq]; exact ih _ _ _ _ _ _ h
    · exact jex_ret hX hI hs hv
    · refine jex_call hX hI hs hv hk hy ha hr h8 ?_
      rcases hc with ⟨rfl, a, rfl, h⟩ | ⟨rfl, μ', hm, h⟩ | ⟨y', v, μ', rfl, hw, hm, h⟩ | ⟨y', x, μ', hh, z, rfl, hw, hm, hz, h⟩
      · exact Or.inl ⟨rfl, a, rfl, ih _ _ _ _ _ _ h⟩
      · exact Or.inr (Or.inl ⟨rfl, μ', hm, ih _ _ _ _ _ _ h⟩)
      · exact Or.inr (Or.inr (Or.inl ⟨y', v, μ', rfl, hw, ih _ _ _ _ _ _ hm, ih _ _ _ _ _ _ h⟩))
      · exact Or.inr (Or.inr (Or.inr ⟨y', x, μ', hh, z, rfl, hw, ih _ _ _ _ _ _ hm, hz, ih _ _ _ _ _ _ h⟩))
theorem jex_le {G : jG} {P : jT} {t t' : Nat} (h : t ≤ t') {j pc : Nat} {lv : jL} {st : List Value} {μ : jS} {o : jO} (e : jex G P t j pc lv st μ = some o) : jex G P t' j pc lv st μ = some o := by
  induction h with
  | refl => exact e
  | step _ ih => exact jex_more _ _ _ _ _ _ _ ih
/-- counts and places only grow -/
def jle (μ μ' : jS) : Prop := μ.2.1 ≤ μ'.2.1 ∧ μ.2.2.1 ≤ μ'.2.2.1 ∧ μ.2.2.2 ≤ μ'.2.2.2
theorem jle.refl (μ : jS) : jle μ μ := ⟨Nat.le_refl _, Nat.le_refl _, Nat.le_refl _⟩
theorem jle.trans {μ μ' μ'' : jS} (h : jle μ μ') (k : jle μ' μ'') : jle μ μ'' := ⟨Nat.le_trans h.1 k.1, Nat.le_trans h.2.1 k.2.1, Nat.le_trans h.2.2 k.2.2⟩
theorem jle.jw (μ : jS) (a : Nat) (e : va_E) : jle μ (jw μ a e) := jle.refl μ
theorem jle.jnew (μ : jS) (e : va_E) (n : Nat) : jle μ (jnew μ e n) := ⟨Nat.le_succ _, Nat.le_succ _, Nat.le_add_right _ _⟩
theorem jstep_le {G : jG} {B : jB} {i : Instr} {pc : Nat} {lv : jL} {st : List Value} {μ : jS} {q : jN} (h : jstep G B i pc lv st μ = some q) : jle μ q.2.2.2 := by
  have A : ∀ (a b c : _) , (some (a, b, c, μ) : Option jN) = some q → jle μ q.2.2.2 := fun a b c h => by cases h; exact jle.refl μ
  cases i <;> (simp only [jstep] at h) <;> repeat' (first
    | exact A _ _ _ h
    | (cases h; exact jle.refl _)
    | (cases h; exact jle.jw _ _ _)
    | (cases h; exact jle.jnew _ _ _)
    | (cases h; done)
    | (replace h := (jif_some h).2)
    | split at h
    | (rw [Bool.cond_eq_ite] at h))
theorem jcpy_le {μ μ' : jS} {as : List Value} (h : jcpy μ as = some μ') : jle μ μ' := by
  unfold jcpy at h
  split at h
  · split at h
    · have h := (jif_some h).2; cases h; exact jle.refl μ
    · have h := (jif_some h).2; cases h; exact jle.refl μ
    · cases h
  · cases h
theorem jex_mono {G : jG} {P : jT} : ∀ (t : Nat) (j pc : Nat) (lv : jL) (st : List Value) (μ : jS) (o : jO), jex G P t j pc lv st μ = some o → jle μ o.2 := by
  intro t
  induction t with
  | zero => intro j pc lv st μ o h; simp [jex] at h
  | succ t ih =>
    intro j pc lv st μ o h
    rcases jex_inv h with ⟨x, hx, rfl, rfl⟩ | ⟨hX, i, hI, ⟨q, hq, h⟩ | ⟨hs, v, hv, rfl⟩ | ⟨hs, hv, k, y, n, rc, as, rest, hk, hy, ha, hr, h8, hc⟩⟩
    · exact ⟨Nat.le_refl _, Nat.le_succ _, Nat.le_add_right _ _⟩
    · exact (jstep_le hq).trans (ih _ _ _ _ _ _ h)
    · exact jle.refl μ
    · rcases hc with ⟨rfl, a, rfl, h⟩ | ⟨rfl, μ', hm, h⟩ | ⟨y', v, μ', rfl, hw, hm, h⟩ | ⟨y', x, μ', hh, z, rfl, hw, hm, hz, h⟩
      · exact ih _ _ _ _ _ _ h
      · exact (jcpy_le hm).trans (ih _ _ _ _ _ _ h)
      · have q1 := ih _ _ _ _ _ _ hm
        exact q1.trans (ih _ _ _ _ _ _ h)
      · have q1 := ih _ _ _ _ _ _ hm
        exact q1.trans (ih _ _ _ _ _ _ h)
section JX
variable {G : jG} {P : jT} {j pc : Nat} {lv : jL} {st : List Value} {μ : jS} {Q : Option Value ⊕ Nat → jS → Prop}
theorem jX.imp {Q' : Option Value ⊕ Nat → jS → Prop} (h : ∀ o μ', Q o μ' → Q' o μ') (k : jX G P j pc lv st μ Q) : jX G P j pc lv st μ Q' := by
  obtain ⟨t, o, h1, h2⟩ := k
  exact ⟨t, o, h1, h _ _ h2⟩
/-- one instruction that neither calls nor returns -/
theorem jX.nx {i : Instr} {q : jN} (hX : P.2.1 j pc = none) (hI : P.1 j pc = some i) (hs : jstep G (P.2.2.2.2.1 j) i pc lv st μ = some q) (k : jX G P j q.1 q.2.1 q.2.2.1 q.2.2.2 Q) : jX G P j pc lv st μ Q := by
  obtain ⟨t, o, h1, h2⟩ := k
  exact ⟨t + 1, o, by rw [jex_step hX hI hs]; exact h1, h2⟩
theorem jX.ret {i : Instr} {v : Option Value} (hX : P.2.1 j pc = none) (hI : P.1 j pc = some i) (hs : jstep G (P.2.2.2.2.1 j) i pc lv st μ = none) (hv : jret (P.2.2.2.2.2 j) i st = some v) (q : Q (.inl v) μ) : jX G P j pc lv st μ Q :=
  ⟨1, (.inl v, μ), jex_ret hX hI hs hv, q⟩
theorem jX.throw {x : Nat} (hX : P.2.1 j pc = some x) (q : Q (.inr x) (μ.1, μ.2.1, μ.2.2.1 + 1, μ.2.2.2 + 6)) : jX G P j pc lv [] μ Q :=
  ⟨1, (.inr x, μ.1, μ.2.1, μ.2.2.1 + 1, μ.2.2.2 + 6), jex_throw hX, q⟩
/-- Object's constructor -/
theorem jX.obj {i : Instr} {k a : Nat} {rc : Option Nat} {rest : List Value} (hX : P.2.1 j pc = none) (hI : P.1 j pc = some i) (hs : jstep G (P.2.2.2.2.1 j) i pc lv st μ = none) (hv : jret (P.2.2.2.2.2 j) i st = none) (hk : jcix i = some k) (hy : P.2.2.2.1 j k = some (0, 1, rc)) (ha : jarg 1 st [] = some ([.ref a], rest)) (hr : jrec μ rc [.ref a] = true) (h8 : (rest.map fun v => v.category).sum ≤ 8) (c : jX G P j (pc + 3) lv rest μ Q) : jX G P j pc lv st μ Q := by
  obtain ⟨t, o, h1, h2⟩ := c
  exact ⟨t + 1, o, jex_call hX hI hs hv hk hy ha hr h8 (Or.inl ⟨rfl, a, rfl, h1⟩), h2⟩
/-- arraycopy -/
theorem jX.cpy {i : Instr} {k n : Nat} {rc : Option Nat} {as rest : List Value} {μ' : jS} (hX : P.2.1 j pc = none) (hI : P.1 j pc = some i) (hs : jstep G (P.2.2.2.2.1 j) i pc lv st μ = none) (hv : jret (P.2.2.2.2.2 j) i st = none) (hk : jcix i = some k) (hy : P.2.2.2.1 j k = some (1, n, rc)) (ha : jarg n st [] = some (as, rest)) (hr : jrec μ rc as = true) (h8 : (rest.map fun v => v.category).sum ≤ 8) (hm : jcpy μ as = some μ') (c : jX G P j (pc + 3) lv rest μ' Q) : jX G P j pc lv st μ Q := by
  obtain ⟨t, o, h1, h2⟩ := c
  exact ⟨t + 1, o, jex_call hX hI hs hv hk hy ha hr h8 (Or.inr (Or.inl ⟨rfl, μ', hm, h1⟩)), h2⟩
/-- a call that returns, or throws and is caught -/
theorem jX.call {i : Instr} {k y n : Nat} {rc : Option Nat} {as rest : List Value} (hX : P.2.1 j pc = none) (hI : P.1 j pc = some i) (hs : jstep G (P.2.2.2.2.1 j) i pc lv st μ = none) (hv : jret (P.2.2.2.2.2 j) i st = none) (hk : jcix i = some k) (hy : P.2.2.2.1 j k = some (y + 2, n, rc)) (ha : jarg n st [] = some (as, rest)) (hr : jrec μ rc as = true) (h8 : (rest.map fun v => v.category).sum ≤ 8) (hw : (as.map fun v => v.category).sum ≤ (P.2.2.2.2.1 y).2.2.2.2.2.1)
    (c : jX G P y 0 (lv_args 0 as) [] μ (fun o μ' => match o with
      | .inl v => jX G P j (pc + 3) lv (v.toList ++ rest) μ' Q
      | .inr x => ∃ h z, P.2.2.1 j pc x = some (h, z) ∧ jX G P j h (jdrop lv z) [] μ' Q)) : jX G P j pc lv st μ Q := by
  obtain ⟨t, ⟨o, μ'⟩, h1, h2⟩ := c
  cases o with
  | inl v =>
    obtain ⟨t2, o2, h3, h4⟩ := h2
    exact ⟨max t t2 + 1, o2, jex_call hX hI hs hv hk hy ha hr h8 (Or.inr (Or.inr (Or.inl ⟨y, v, μ', rfl, hw, jex_le (Nat.le_max_left t t2) h1, jex_le (Nat.le_max_right t t2) h3⟩))), h4⟩
  | inr x =>
    obtain ⟨hh, z, hz, t2, o2, h3, h4⟩ := h2
    exact ⟨max t t2 + 1, o2, jex_call hX hI hs hv hk hy ha hr h8 (Or.inr (Or.inr (Or.inr ⟨y, x, μ', hh, z, rfl, hw, jex_le (Nat.le_max_left t t2) h1, hz, jex_le (Nat.le_max_right t t2) h3⟩))), h4⟩
/-- one run has one end -/
theorem jX.one {t : Nat} {o : jO} (h : jex G P t j pc lv st μ = some o) (k : jX G P j pc lv st μ Q) : Q o.1 o.2 := by
  obtain ⟨t2, o2, h1, h2⟩ := k
  have e : o2 = o := Option.some.inj ((jex_le (Nat.le_max_right t t2) h1).symm.trans (jex_le (Nat.le_max_left t t2) h))
  rw [← e]
  exact h2
end JX
