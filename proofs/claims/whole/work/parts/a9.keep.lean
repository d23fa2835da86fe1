/-! printed by gena8.py: the model leaves the class's names alone -/
def kC (S : sS) : (Nat → Nat → Nat → Nat → Int32) × (Nat → Nat → Nat → Nat → Int64) × sX × sK × Nat × Nat × Nat := (fun t i j => if t ≤ 32 ∨ t = 64 then S.1 t i j else fun _ => 0, fun t i j => if t ≤ 32 ∨ t = 64 then S.2.1 t i j else fun _ => 0, S.2.2)
def Cp {α : Type} (X : Option (α × sS)) (c : (Nat → Nat → Nat → Nat → Int32) × (Nat → Nat → Nat → Nat → Int64) × sX × sK × Nat × Nat × Nat) : Prop := ∀ q, X = some q → kC q.2 = c
set_option maxHeartbeats 4000000 in
set_option linter.unusedSimpArgs false in
theorem kC_iff {S S' : sS} : kC S' = kC S ↔ (∀ t i j, t ≤ 32 ∨ t = 64 → S'.1 t i j = S.1 t i j ∧ S'.2.1 t i j = S.2.1 t i j) ∧ S'.2.2 = S.2.2 := by
  constructor
  · intro h
    refine ⟨fun t i j h1 => ?_, congrArg (fun z => z.2.2) h⟩
    have a := congrFun (congrFun (congrFun (congrArg Prod.fst h) t) i) j
    have b := congrFun (congrFun (congrFun (congrArg (fun z => z.2.1) h) t) i) j
    unfold kC at a b
    dsimp only at a b
    rw [if_pos h1, if_pos h1] at a b
    exact ⟨a, b⟩
  · rintro ⟨h, h2⟩
    unfold kC
    refine Prod.ext ?_ (Prod.ext ?_ h2)
    · funext t i j
      dsimp only
      by_cases c : t ≤ 32 ∨ t = 64
      · rw [if_pos c, if_pos c]; exact (h t i j c).1
      · rw [if_neg c, if_neg c]
    · funext t i j
      dsimp only
      by_cases c : t ≤ 32 ∨ t = 64
      · rw [if_pos c, if_pos c]; exact (h t i j c).2
      · rw [if_neg c, if_neg c]
section CS
variable {G : jG} {t : Nat} {α β : Type}
theorem C_none {c : (Nat → Nat → Nat → Nat → Int32) × (Nat → Nat → Nat → Nat → Int64) × sX × sK × Nat × Nat × Nat} : Cp (none : Option (α × sS)) c := fun q h => by cases h
theorem C_some {c : (Nat → Nat → Nat → Nat → Int32) × (Nat → Nat → Nat → Nat → Int64) × sX × sK × Nat × Nat × Nat} {x : α} {S : sS} (h : kC S = c) : Cp (some (x, S)) c := fun q e => by cases e; exact h
theorem C_jif {c : (Nat → Nat → Nat → Nat → Int32) × (Nat → Nat → Nat → Nat → Int64) × sX × sK × Nat × Nat × Nat} {b : Bool} {X : Option (α × sS)} (h : Cp X c) : Cp (jif b X) c := by
  cases b with
  | true => exact h
  | false => exact C_none
theorem C_bif {c : (Nat → Nat → Nat → Nat → Int32) × (Nat → Nat → Nat → Nat → Int64) × sX × sK × Nat × Nat × Nat} {b : Bool} {X Y : Option (α × sS)} (h : Cp X c) (h' : Cp Y c) : Cp (bif b then X else Y) c := by
  cases b with
  | true => exact h
  | false => exact h'
theorem C_bind {c : (Nat → Nat → Nat → Nat → Int32) × (Nat → Nat → Nat → Nat → Int64) × sX × sK × Nat × Nat × Nat} {X : Option (α × sS)} {f : α × sS → Option (β × sS)} (h : Cp X c) (h' : ∀ q, kC q.2 = c → Cp (f q) c) : Cp (X.bind f) c := by
  cases X with
  | none => exact C_none
  | some q => exact h' q (h q rfl)
theorem C_obind {c : (Nat → Nat → Nat → Nat → Int32) × (Nat → Nat → Nat → Nat → Int64) × sX × sK × Nat × Nat × Nat} {γ : Type} {o : Option γ} {f : γ → Option (β × sS)} (h : ∀ q, Cp (f q) c) : Cp (o.bind f) c := by
  cases o with
  | none => exact C_none
  | some q => exact h q
theorem C_sif {c : (Nat → Nat → Nat → Nat → Int32) × (Nat → Nat → Nat → Nat → Int64) × sX × sK × Nat × Nat × Nat} {o : Option (Nat × Nat)} {X : Option (α × sS)} {f : Nat × Nat → Option (α × sS)} (h : Cp X c) (h' : ∀ a, Cp (f a) c) : Cp (sif o X f) c := by
  cases o with
  | none => exact h
  | some a => exact h' a
theorem C_ssm {c : (Nat → Nat → Nat → Nat → Int32) × (Nat → Nat → Nat → Nat → Int64) × sX × sK × Nat × Nat × Nat} {γ : Type} {o : γ ⊕ Nat} {g : γ → Option (α × sS)} {f : Nat → Option (α × sS)} (h : ∀ a, Cp (g a) c) (h' : ∀ a, Cp (f a) c) : Cp (ssm o g f) c := by
  cases o with
  | inl a => exact h a
  | inr a => exact h' a
variable {c : (Nat → Nat → Nat → Nat → Int32) × (Nat → Nat → Nat → Nat → Int64) × sX × sK × Nat × Nat × Nat}
theorem C_i {S : sS} {t i j k : Nat} {x : Int32} (h : kC S = c) (hh : 33 ≤ t ∧ t ≤ 63) : kC (siI S t i j k x) = c := by
  rw [← h]
  exact kC_iff.mpr ⟨fun t' i' j' h1 => ⟨siI_ne _ _ _ (by omega), rfl⟩, rfl⟩
theorem C_l {S : sS} {t i j k : Nat} {x : Int64} (h : kC S = c) (hh : 33 ≤ t ∧ t ≤ 63) : kC (siL S t i j k x) = c := by
  rw [← h]
  exact kC_iff.mpr ⟨fun t' i' j' h1 => ⟨rfl, siL_ne _ _ _ (by omega)⟩, rfl⟩
theorem C_ai {S : sS} {t i j : Nat} {x : Nat → Int32} (h : kC S = c) (hh : 33 ≤ t ∧ t ≤ 63) : kC (saI S t i j x) = c := by
  rw [← h]
  exact kC_iff.mpr ⟨fun t' i' j' h1 => ⟨saI_ne _ _ (by omega), rfl⟩, rfl⟩
theorem C_al {S : sS} {t i j : Nat} {x : Nat → Int64} (h : kC S = c) (hh : 33 ≤ t ∧ t ≤ 63) : kC (saL S t i j x) = c := by
  rw [← h]
  exact kC_iff.mpr ⟨fun t' i' j' h1 => ⟨rfl, saL_ne _ _ (by omega)⟩, rfl⟩
theorem m_136_46 (v1 : Int32) (v2 : Int32) (w0 : Int32) (S : sS) (hS : kC S = c) : Cp (F_136_46 G t v1 v2 w0 S) c := by
  unfold F_136_46
  repeat' first | with_reducible assumption | with_reducible exact C_none | with_reducible apply C_some | with_reducible apply C_jif | with_reducible apply C_bif | with_reducible apply C_bind | with_reducible apply C_obind | with_reducible apply C_sif | with_reducible apply C_ssm | with_reducible apply C_i | with_reducible apply C_l | with_reducible apply C_ai | with_reducible apply C_al | with_reducible apply C_sF | with_reducible apply C_sT | with_reducible apply C_nF | with_reducible apply C_nT | with_reducible apply C_x | with_reducible intro _ | fail | omega
theorem m_136_21 (v1 : Int32) (v2 : Int32) (S : sS) (hS : kC S = c) : Cp (F_136_21 G t v1 v2 S) c := by
  unfold F_136_21
  repeat' first | with_reducible assumption | with_reducible exact C_none | with_reducible apply m_136_46 | with_reducible apply C_some | with_reducible apply C_jif | with_reducible apply C_bif | with_reducible apply C_bind | with_reducible apply C_obind | with_reducible apply C_sif | with_reducible apply C_ssm | with_reducible apply C_i | with_reducible apply C_l | with_reducible apply C_ai | with_reducible apply C_al | with_reducible apply C_sF | with_reducible apply C_sT | with_reducible apply C_nF | with_reducible apply C_nT | with_reducible apply C_x | with_reducible intro _ | fail | omega
theorem m_136_41 (v1 : Int32) (v2 : Int32) (S : sS) (hS : kC S = c) : Cp (F_136_41 G t v1 v2 S) c := by
  unfold F_136_41
  repeat' first | with_reducible assumption | with_reducible exact C_none | with_reducible apply m_136_46 | with_reducible apply C_some | with_reducible apply C_jif | with_reducible apply C_bif | with_reducible apply C_bind | with_reducible apply C_obind | with_reducible apply C_sif | with_reducible apply C_ssm | with_reducible apply C_i | with_reducible apply C_l | with_reducible apply C_ai | with_reducible apply C_al | with_reducible apply C_sF | with_reducible apply C_sT | with_reducible apply C_nF | with_reducible apply C_nT | with_reducible apply C_x | with_reducible intro _ | fail | omega
theorem m_136 (v1 : Int32) (v2 : Int32) (S : sS) (hS : kC S = c) : Cp (F_136 G t v1 v2 S) c := by
  unfold F_136
  repeat' first | with_reducible assumption | with_reducible exact C_none | with_reducible apply m_136_21 | with_reducible apply m_136_41 | with_reducible apply m_136_46 | with_reducible apply C_some | with_reducible apply C_jif | with_reducible apply C_bif | with_reducible apply C_bind | with_reducible apply C_obind | with_reducible apply C_sif | with_reducible apply C_ssm | with_reducible apply C_i | with_reducible apply C_l | with_reducible apply C_ai | with_reducible apply C_al | with_reducible apply C_sF | with_reducible apply C_sT | with_reducible apply C_nF | with_reducible apply C_nT | with_reducible apply C_x | with_reducible intro _ | fail | omega
theorem m_137 (S : sS) (hS : kC S = c) : Cp (F_137 G t S) c := by
  unfold F_137
  repeat' first | with_reducible assumption | with_reducible exact C_none | with_reducible apply C_some | with_reducible apply C_jif | with_reducible apply C_bif | with_reducible apply C_bind | with_reducible apply C_obind | with_reducible apply C_sif | with_reducible apply C_ssm | with_reducible apply C_i | with_reducible apply C_l | with_reducible apply C_ai | with_reducible apply C_al | with_reducible apply C_sF | with_reducible apply C_sT | with_reducible apply C_nF | with_reducible apply C_nT | with_reducible apply C_x | with_reducible intro _ | fail | omega
theorem m_138_162 (S : sS) (hS : kC S = c) : Cp (F_138_162 G t S) c := by
  unfold F_138_162
  repeat' first | with_reducible assumption | with_reducible exact C_none | with_reducible apply C_some | with_reducible apply C_jif | with_reducible apply C_bif | with_reducible apply C_bind | with_reducible apply C_obind | with_reducible apply C_sif | with_reducible apply C_ssm | with_reducible apply C_i | with_reducible apply C_l | with_reducible apply C_ai | with_reducible apply C_al | with_reducible apply C_sF | with_reducible apply C_sT | with_reducible apply C_nF | with_reducible apply C_nT | with_reducible apply C_x | with_reducible intro _ | fail | omega
theorem m_138_136 (v2 : Int32) (S : sS) (hS : kC S = c) : Cp (F_138_136 G t v2 S) c := by
  unfold F_138_136
  repeat' first | with_reducible assumption | with_reducible exact C_none | with_reducible apply m_138_162 | with_reducible apply C_some | with_reducible apply C_jif | with_reducible apply C_bif | with_reducible apply C_bind | with_reducible apply C_obind | with_reducible apply C_sif | with_reducible apply C_ssm | with_reducible apply C_i | with_reducible apply C_l | with_reducible apply C_ai | with_reducible apply C_al | with_reducible apply C_sF | with_reducible apply C_sT | with_reducible apply C_nF | with_reducible apply C_nT | with_reducible apply C_x | with_reducible intro _ | fail | omega
theorem m_138_168 (v2 : Int32) (S : sS) (hS : kC S = c) : Cp (F_138_168 G t v2 S) c := by
  unfold F_138_168
  repeat' first | with_reducible assumption | with_reducible exact C_none | with_reducible apply C_some | with_reducible apply C_jif | with_reducible apply C_bif | with_reducible apply C_bind | with_reducible apply C_obind | with_reducible apply C_sif | with_reducible apply C_ssm | with_reducible apply C_i | with_reducible apply C_l | with_reducible apply C_ai | with_reducible apply C_al | with_reducible apply C_sF | with_reducible apply C_sT | with_reducible apply C_nF | with_reducible apply C_nT | with_reducible apply C_x | with_reducible intro _ | fail | omega
theorem m_138_200 (v2 : Int32) (S : sS) (hS : kC S = c) : Cp (F_138_200 G t v2 S) c := by
  unfold F_138_200
  repeat' first | with_reducible assumption | with_reducible exact C_none | with_reducible apply C_some | with_reducible apply C_jif | with_reducible apply C_bif | with_reducible apply C_bind | with_reducible apply C_obind | with_reducible apply C_sif | with_reducible apply C_ssm | with_reducible apply C_i | with_reducible apply C_l | with_reducible apply C_ai | with_reducible apply C_al | with_reducible apply C_sF | with_reducible apply C_sT | with_reducible apply C_nF | with_reducible apply C_nT | with_reducible apply C_x | with_reducible intro _ | fail | omega
theorem m_138_254 (S : sS) (hS : kC S = c) : Cp (F_138_254 G t S) c := by
  unfold F_138_254
  repeat' first | with_reducible assumption | with_reducible exact C_none | with_reducible apply C_some | with_reducible apply C_jif | with_reducible apply C_bif | with_reducible apply C_bind | with_reducible apply C_obind | with_reducible apply C_sif | with_reducible apply C_ssm | with_reducible apply C_i | with_reducible apply C_l | with_reducible apply C_ai | with_reducible apply C_al | with_reducible apply C_sF | with_reducible apply C_sT | with_reducible apply C_nF | with_reducible apply C_nT | with_reducible apply C_x | with_reducible intro _ | fail | omega
theorem m_138_242 (v2 : Int32) (S : sS) (hS : kC S = c) : Cp (F_138_242 G t v2 S) c := by
  unfold F_138_242
  repeat' first | with_reducible assumption | with_reducible exact C_none | with_reducible apply m_138_254 | with_reducible apply C_some | with_reducible apply C_jif | with_reducible apply C_bif | with_reducible apply C_bind | with_reducible apply C_obind | with_reducible apply C_sif | with_reducible apply C_ssm | with_reducible apply C_i | with_reducible apply C_l | with_reducible apply C_ai | with_reducible apply C_al | with_reducible apply C_sF | with_reducible apply C_sT | with_reducible apply C_nF | with_reducible apply C_nT | with_reducible apply C_x | with_reducible intro _ | fail | omega
theorem m_138_260 (v1 : Int32) (S : sS) (hS : kC S = c) : Cp (F_138_260 G t v1 S) c := by
  unfold F_138_260
  repeat' first | with_reducible assumption | with_reducible exact C_none | with_reducible apply C_some | with_reducible apply C_jif | with_reducible apply C_bif | with_reducible apply C_bind | with_reducible apply C_obind | with_reducible apply C_sif | with_reducible apply C_ssm | with_reducible apply C_i | with_reducible apply C_l | with_reducible apply C_ai | with_reducible apply C_al | with_reducible apply C_sF | with_reducible apply C_sT | with_reducible apply C_nF | with_reducible apply C_nT | with_reducible apply C_x | with_reducible intro _ | fail | omega
theorem m_138 (v1 : Int32) (v2 : Int32) (S : sS) (hS : kC S = c) : Cp (F_138 G t v1 v2 S) c := by
  unfold F_138
  repeat' first | with_reducible assumption | with_reducible exact C_none | with_reducible apply m_138_260 | with_reducible apply m_138_136 | with_reducible apply m_138_168 | with_reducible apply m_138_200 | with_reducible apply m_138_242 | with_reducible apply m_138_254 | with_reducible apply C_some | with_reducible apply C_jif | with_reducible apply C_bif | with_reducible apply C_bind | with_reducible apply C_obind | with_reducible apply C_sif | with_reducible apply C_ssm | with_reducible apply C_i | with_reducible apply C_l | with_reducible apply C_ai | with_reducible apply C_al | with_reducible apply C_sF | with_reducible apply C_sT | with_reducible apply C_nF | with_reducible apply C_nT | with_reducible apply C_x | with_reducible intro _ | fail | omega
theorem m_139_57 (v1 : Int32) (v2 : Int32) (w0 : Int32) (S : sS) (hS : kC S = c) : Cp (F_139_57 G t v1 v2 w0 S) c := by
  unfold F_139_57
  repeat' first | with_reducible assumption | with_reducible exact C_none | with_reducible apply C_some | with_reducible apply C_jif | with_reducible apply C_bif | with_reducible apply C_bind | with_reducible apply C_obind | with_reducible apply C_sif | with_reducible apply C_ssm | with_reducible apply C_i | with_reducible apply C_l | with_reducible apply C_ai | with_reducible apply C_al | with_reducible apply C_sF | with_reducible apply C_sT | with_reducible apply C_nF | with_reducible apply C_nT | with_reducible apply C_x | with_reducible intro _ | fail | omega
theorem m_139_11 (v1 : Int32) (v2 : Int32) (S : sS) (hS : kC S = c) : Cp (F_139_11 G t v1 v2 S) c := by
  unfold F_139_11
  repeat' first | with_reducible assumption | with_reducible exact C_none | with_reducible apply m_139_57 | with_reducible apply C_some | with_reducible apply C_jif | with_reducible apply C_bif | with_reducible apply C_bind | with_reducible apply C_obind | with_reducible apply C_sif | with_reducible apply C_ssm | with_reducible apply C_i | with_reducible apply C_l | with_reducible apply C_ai | with_reducible apply C_al | with_reducible apply C_sF | with_reducible apply C_sT | with_reducible apply C_nF | with_reducible apply C_nT | with_reducible apply C_x | with_reducible intro _ | fail | omega
theorem m_139_39 (v1 : Int32) (v2 : Int32) (S : sS) (hS : kC S = c) : Cp (F_139_39 G t v1 v2 S) c := by
  unfold F_139_39
  repeat' first | with_reducible assumption | with_reducible exact C_none | with_reducible apply m_139_57 | with_reducible apply C_some | with_reducible apply C_jif | with_reducible apply C_bif | with_reducible apply C_bind | with_reducible apply C_obind | with_reducible apply C_sif | with_reducible apply C_ssm | with_reducible apply C_i | with_reducible apply C_l | with_reducible apply C_ai | with_reducible apply C_al | with_reducible apply C_sF | with_reducible apply C_sT | with_reducible apply C_nF | with_reducible apply C_nT | with_reducible apply C_x | with_reducible intro _ | fail | omega
theorem m_139 (v1 : Int32) (v2 : Int32) (S : sS) (hS : kC S = c) : Cp (F_139 G t v1 v2 S) c := by
  unfold F_139
  repeat' first | with_reducible assumption | with_reducible exact C_none | with_reducible apply m_139_11 | with_reducible apply m_139_39 | with_reducible apply m_138 | with_reducible apply m_139_57 | with_reducible apply C_some | with_reducible apply C_jif | with_reducible apply C_bif | with_reducible apply C_bind | with_reducible apply C_obind | with_reducible apply C_sif | with_reducible apply C_ssm | with_reducible apply C_i | with_reducible apply C_l | with_reducible apply C_ai | with_reducible apply C_al | with_reducible apply C_sF | with_reducible apply C_sT | with_reducible apply C_nF | with_reducible apply C_nT | with_reducible apply C_x | with_reducible intro _ | fail | omega
theorem m_140_193 (k2 : Int32 → sS → Option (Int32 × sS)) (k71 : Int32 → Int32 → sS → Option (Int32 × sS)) (v1 : Int32) (v3 : Int32) (S : sS) (hk0 : ∀ x0 S, kC S = c → Cp (k2 x0 S) c) (hk1 : ∀ x0 x1 S, kC S = c → Cp (k71 x0 x1 S) c) (hS : kC S = c) : Cp (F_140_193 G t k2 k71 v1 v3 S) c := by
  unfold F_140_193
  repeat' first | with_reducible assumption | with_reducible exact C_none | with_reducible apply hk0 | with_reducible apply hk1 | with_reducible apply C_some | with_reducible apply C_jif | with_reducible apply C_bif | with_reducible apply C_bind | with_reducible apply C_obind | with_reducible apply C_sif | with_reducible apply C_ssm | with_reducible apply C_i | with_reducible apply C_l | with_reducible apply C_ai | with_reducible apply C_al | with_reducible apply C_sF | with_reducible apply C_sT | with_reducible apply C_nF | with_reducible apply C_nT | with_reducible apply C_x | with_reducible intro _ | fail | omega
theorem m_140_173 (k2 : Int32 → sS → Option (Int32 × sS)) (k71 : Int32 → Int32 → sS → Option (Int32 × sS)) (v1 : Int32) (v3 : Int32) (v4 : Int32) (v5 : Int32) (S : sS) (hk0 : ∀ x0 S, kC S = c → Cp (k2 x0 S) c) (hk1 : ∀ x0 x1 S, kC S = c → Cp (k71 x0 x1 S) c) (hS : kC S = c) : Cp (F_140_173 G t k2 k71 v1 v3 v4 v5 S) c := by
  unfold F_140_173
  repeat' first | with_reducible assumption | with_reducible exact C_none | with_reducible apply hk0 | with_reducible apply hk1 | with_reducible apply m_140_193 | with_reducible apply C_some | with_reducible apply C_jif | with_reducible apply C_bif | with_reducible apply C_bind | with_reducible apply C_obind | with_reducible apply C_sif | with_reducible apply C_ssm | with_reducible apply C_i | with_reducible apply C_l | with_reducible apply C_ai | with_reducible apply C_al | with_reducible apply C_sF | with_reducible apply C_sT | with_reducible apply C_nF | with_reducible apply C_nT | with_reducible apply C_x | with_reducible intro _ | fail | omega
theorem m_140_157 (k2 : Int32 → sS → Option (Int32 × sS)) (k71 : Int32 → Int32 → sS → Option (Int32 × sS)) (v1 : Int32) (v3 : Int32) (v4 : Int32) (v5 : Int32) (S : sS) (hk0 : ∀ x0 S, kC S = c → Cp (k2 x0 S) c) (hk1 : ∀ x0 x1 S, kC S = c → Cp (k71 x0 x1 S) c) (hS : kC S = c) : Cp (F_140_157 G t k2 k71 v1 v3 v4 v5 S) c := by
  unfold F_140_157
  repeat' first | with_reducible assumption | with_reducible exact C_none | with_reducible apply hk0 | with_reducible apply hk1 | with_reducible apply m_140_173 | with_reducible apply C_some | with_reducible apply C_jif | with_reducible apply C_bif | with_reducible apply C_bind | with_reducible apply C_obind | with_reducible apply C_sif | with_reducible apply C_ssm | with_reducible apply C_i | with_reducible apply C_l | with_reducible apply C_ai | with_reducible apply C_al | with_reducible apply C_sF | with_reducible apply C_sT | with_reducible apply C_nF | with_reducible apply C_nT | with_reducible apply C_x | with_reducible intro _ | fail | omega
theorem m_140_136 (k2 : Int32 → sS → Option (Int32 × sS)) (k71 : Int32 → Int32 → sS → Option (Int32 × sS)) (v1 : Int32) (v3 : Int32) (v4 : Int32) (v5 : Int32) (S : sS) (hk0 : ∀ x0 S, kC S = c → Cp (k2 x0 S) c) (hk1 : ∀ x0 x1 S, kC S = c → Cp (k71 x0 x1 S) c) (hS : kC S = c) : Cp (F_140_136 G t k2 k71 v1 v3 v4 v5 S) c := by
  unfold F_140_136
  repeat' first | with_reducible assumption | with_reducible exact C_none | with_reducible apply hk0 | with_reducible apply hk1 | with_reducible apply m_140_157 | with_reducible apply m_140_173 | with_reducible apply C_some | with_reducible apply C_jif | with_reducible apply C_bif | with_reducible apply C_bind | with_reducible apply C_obind | with_reducible apply C_sif | with_reducible apply C_ssm | with_reducible apply C_i | with_reducible apply C_l | with_reducible apply C_ai | with_reducible apply C_al | with_reducible apply C_sF | with_reducible apply C_sT | with_reducible apply C_nF | with_reducible apply C_nT | with_reducible apply C_x | with_reducible intro _ | fail | omega
theorem m_140_118 (k2 : Int32 → sS → Option (Int32 × sS)) (k71 : Int32 → Int32 → sS → Option (Int32 × sS)) (v1 : Int32) (v3 : Int32) (v4 : Int32) (v5 : Int32) (S : sS) (hk0 : ∀ x0 S, kC S = c → Cp (k2 x0 S) c) (hk1 : ∀ x0 x1 S, kC S = c → Cp (k71 x0 x1 S) c) (hS : kC S = c) : Cp (F_140_118 G t k2 k71 v1 v3 v4 v5 S) c := by
  unfold F_140_118
  repeat' first | with_reducible assumption | with_reducible exact C_none | with_reducible apply hk0 | with_reducible apply hk1 | with_reducible apply m_140_136 | with_reducible apply C_some | with_reducible apply C_jif | with_reducible apply C_bif | with_reducible apply C_bind | with_reducible apply C_obind | with_reducible apply C_sif | with_reducible apply C_ssm | with_reducible apply C_i | with_reducible apply C_l | with_reducible apply C_ai | with_reducible apply C_al | with_reducible apply C_sF | with_reducible apply C_sT | with_reducible apply C_nF | with_reducible apply C_nT | with_reducible apply C_x | with_reducible intro _ | fail | omega
set_option maxHeartbeats 4000000 in
set_option linter.unusedSimpArgs false in
theorem m_140_71 (k2 : Int32 → sS → Option (Int32 × sS)) (hk0 : ∀ x0 S, kC S = c → Cp (k2 x0 S) c) : ∀ tt u0 u1 S, kC S = c → Cp (F_140_71 G t k2 tt u0 u1 S) c := by
  intro tt
  induction tt with
  | zero => intros; exact C_none
  | succ tt ih =>
    intro u0 u1 S hS
    rw [F_140_71]
    try dsimp only
    repeat' first | with_reducible assumption | with_reducible exact C_none | with_reducible apply ih | with_reducible apply hk0 | with_reducible apply m_140_118 | with_reducible apply m_140_136 | with_reducible apply C_some | with_reducible apply C_jif | with_reducible apply C_bif | with_reducible apply C_bind | with_reducible apply C_obind | with_reducible apply C_sif | with_reducible apply C_ssm | with_reducible apply C_i | with_reducible apply C_l | with_reducible apply C_ai | with_reducible apply C_al | with_reducible apply C_sF | with_reducible apply C_sT | with_reducible apply C_nF | with_reducible apply C_nT | with_reducible apply C_x | with_reducible intro _ | fail | omega
theorem m_140_64 (k2 : Int32 → sS → Option (Int32 × sS)) (v1 : Int32) (S : sS) (hk0 : ∀ x0 S, kC S = c → Cp (k2 x0 S) c) (hS : kC S = c) : Cp (F_140_64 G t k2 v1 S) c := by
  unfold F_140_64
  repeat' first | with_reducible assumption | with_reducible exact C_none | with_reducible apply hk0 | with_reducible apply m_140_71 | with_reducible apply C_some | with_reducible apply C_jif | with_reducible apply C_bif | with_reducible apply C_bind | with_reducible apply C_obind | with_reducible apply C_sif | with_reducible apply C_ssm | with_reducible apply C_i | with_reducible apply C_l | with_reducible apply C_ai | with_reducible apply C_al | with_reducible apply C_sF | with_reducible apply C_sT | with_reducible apply C_nF | with_reducible apply C_nT | with_reducible apply C_x | with_reducible intro _ | fail | omega
theorem m_140_43 (k2 : Int32 → sS → Option (Int32 × sS)) (v1 : Int32) (w0 : Int32) (S : sS) (hk0 : ∀ x0 S, kC S = c → Cp (k2 x0 S) c) (hS : kC S = c) : Cp (F_140_43 G t k2 v1 w0 S) c := by
  unfold F_140_43
  repeat' first | with_reducible assumption | with_reducible exact C_none | with_reducible apply hk0 | with_reducible apply m_140_64 | with_reducible apply C_some | with_reducible apply C_jif | with_reducible apply C_bif | with_reducible apply C_bind | with_reducible apply C_obind | with_reducible apply C_sif | with_reducible apply C_ssm | with_reducible apply C_i | with_reducible apply C_l | with_reducible apply C_ai | with_reducible apply C_al | with_reducible apply C_sF | with_reducible apply C_sT | with_reducible apply C_nF | with_reducible apply C_nT | with_reducible apply C_x | with_reducible intro _ | fail | omega
set_option maxHeartbeats 4000000 in
set_option linter.unusedSimpArgs false in
theorem m_140_2  : ∀ tt u0 S, kC S = c → Cp (F_140_2 G t  tt u0 S) c := by
  intro tt
  induction tt with
  | zero => intros; exact C_none
  | succ tt ih =>
    intro u0 S hS
    rw [F_140_2]
    try dsimp only
    repeat' first | with_reducible assumption | with_reducible exact C_none | with_reducible apply ih | with_reducible apply m_140_43 | with_reducible apply C_some | with_reducible apply C_jif | with_reducible apply C_bif | with_reducible apply C_bind | with_reducible apply C_obind | with_reducible apply C_sif | with_reducible apply C_ssm | with_reducible apply C_i | with_reducible apply C_l | with_reducible apply C_ai | with_reducible apply C_al | with_reducible apply C_sF | with_reducible apply C_sT | with_reducible apply C_nF | with_reducible apply C_nT | with_reducible apply C_x | with_reducible intro _ | fail | omega
theorem m_140 (S : sS) (hS : kC S = c) : Cp (F_140 G t S) c := by
  unfold F_140
  repeat' first | with_reducible assumption | with_reducible exact C_none | with_reducible apply m_140_2 | with_reducible apply C_some | with_reducible apply C_jif | with_reducible apply C_bif | with_reducible apply C_bind | with_reducible apply C_obind | with_reducible apply C_sif | with_reducible apply C_ssm | with_reducible apply C_i | with_reducible apply C_l | with_reducible apply C_ai | with_reducible apply C_al | with_reducible apply C_sF | with_reducible apply C_sT | with_reducible apply C_nF | with_reducible apply C_nT | with_reducible apply C_x | with_reducible intro _ | fail | omega
set_option maxHeartbeats 4000000 in
set_option linter.unusedSimpArgs false in
theorem m_141_46  : ∀ tt u0 S, kC S = c → Cp (F_141_46 G t  tt u0 S) c := by
  intro tt
  induction tt with
  | zero => intros; exact C_none
  | succ tt ih =>
    intro u0 S hS
    rw [F_141_46]
    try dsimp only
    repeat' first | with_reducible assumption | with_reducible exact C_none | with_reducible apply ih | with_reducible apply C_some | with_reducible apply C_jif | with_reducible apply C_bif | with_reducible apply C_bind | with_reducible apply C_obind | with_reducible apply C_sif | with_reducible apply C_ssm | with_reducible apply C_i | with_reducible apply C_l | with_reducible apply C_ai | with_reducible apply C_al | with_reducible apply C_sF | with_reducible apply C_sT | with_reducible apply C_nF | with_reducible apply C_nT | with_reducible apply C_x | with_reducible intro _ | fail | omega
set_option maxHeartbeats 4000000 in
set_option linter.unusedSimpArgs false in
theorem m_141_2  : ∀ tt u0 S, kC S = c → Cp (F_141_2 G t  tt u0 S) c := by
  intro tt
  induction tt with
  | zero => intros; exact C_none
  | succ tt ih =>
    intro u0 S hS
    rw [F_141_2]
    try dsimp only
    repeat' first | with_reducible assumption | with_reducible exact C_none | with_reducible apply ih | with_reducible apply m_141_46 | with_reducible apply C_some | with_reducible apply C_jif | with_reducible apply C_bif | with_reducible apply C_bind | with_reducible apply C_obind | with_reducible apply C_sif | with_reducible apply C_ssm | with_reducible apply C_i | with_reducible apply C_l | with_reducible apply C_ai | with_reducible apply C_al | with_reducible apply C_sF | with_reducible apply C_sT | with_reducible apply C_nF | with_reducible apply C_nT | with_reducible apply C_x | with_reducible intro _ | fail | omega
theorem m_141 (S : sS) (hS : kC S = c) : Cp (F_141 G t S) c := by
  unfold F_141
  repeat' first | with_reducible assumption | with_reducible exact C_none | with_reducible apply m_141_2 | with_reducible apply C_some | with_reducible apply C_jif | with_reducible apply C_bif | with_reducible apply C_bind | with_reducible apply C_obind | with_reducible apply C_sif | with_reducible apply C_ssm | with_reducible apply C_i | with_reducible apply C_l | with_reducible apply C_ai | with_reducible apply C_al | with_reducible apply C_sF | with_reducible apply C_sT | with_reducible apply C_nF | with_reducible apply C_nT | with_reducible apply C_x | with_reducible intro _ | fail | omega
set_option maxHeartbeats 4000000 in
set_option linter.unusedSimpArgs false in
theorem m_142_60  : ∀ tt u0 u1 S, kC S = c → Cp (F_142_60 G t  tt u0 u1 S) c := by
  intro tt
  induction tt with
  | zero => intros; exact C_none
  | succ tt ih =>
    intro u0 u1 S hS
    rw [F_142_60]
    try dsimp only
    repeat' first | with_reducible assumption | with_reducible exact C_none | with_reducible apply ih | with_reducible apply C_some | with_reducible apply C_jif | with_reducible apply C_bif | with_reducible apply C_bind | with_reducible apply C_obind | with_reducible apply C_sif | with_reducible apply C_ssm | with_reducible apply C_i | with_reducible apply C_l | with_reducible apply C_ai | with_reducible apply C_al | with_reducible apply C_sF | with_reducible apply C_sT | with_reducible apply C_nF | with_reducible apply C_nT | with_reducible apply C_x | with_reducible intro _ | fail | omega
theorem m_142 (v1 : (Nat × Nat)) (v2 : Int32) (v3 : Int32) (S : sS) (hS : kC S = c) : Cp (F_142 G t v1 v2 v3 S) c := by
  unfold F_142
  repeat' first | with_reducible assumption | with_reducible exact C_none | with_reducible apply m_142_60 | with_reducible apply C_some | with_reducible apply C_jif | with_reducible apply C_bif | with_reducible apply C_bind | with_reducible apply C_obind | with_reducible apply C_sif | with_reducible apply C_ssm | with_reducible apply C_i | with_reducible apply C_l | with_reducible apply C_ai | with_reducible apply C_al | with_reducible apply C_sF | with_reducible apply C_sT | with_reducible apply C_nF | with_reducible apply C_nT | with_reducible apply C_x | with_reducible intro _ | fail | omega
theorem m_143_34 (v1 : Int32) (w0 : Int32) (S : sS) (hS : kC S = c) : Cp (F_143_34 G t v1 w0 S) c := by
  unfold F_143_34
  repeat' first | with_reducible assumption | with_reducible exact C_none | with_reducible apply m_141 | with_reducible apply m_142 | with_reducible apply C_some | with_reducible apply C_jif | with_reducible apply C_bif | with_reducible apply C_bind | with_reducible apply C_obind | with_reducible apply C_sif | with_reducible apply C_ssm | with_reducible apply C_i | with_reducible apply C_l | with_reducible apply C_ai | with_reducible apply C_al | with_reducible apply C_sF | with_reducible apply C_sT | with_reducible apply C_nF | with_reducible apply C_nT | with_reducible apply C_x | with_reducible intro _ | fail | omega
theorem m_143_29 (v1 : Int32) (S : sS) (hS : kC S = c) : Cp (F_143_29 G t v1 S) c := by
  unfold F_143_29
  repeat' first | with_reducible assumption | with_reducible exact C_none | with_reducible apply m_143_34 | with_reducible apply C_some | with_reducible apply C_jif | with_reducible apply C_bif | with_reducible apply C_bind | with_reducible apply C_obind | with_reducible apply C_sif | with_reducible apply C_ssm | with_reducible apply C_i | with_reducible apply C_l | with_reducible apply C_ai | with_reducible apply C_al | with_reducible apply C_sF | with_reducible apply C_sT | with_reducible apply C_nF | with_reducible apply C_nT | with_reducible apply C_x | with_reducible intro _ | fail | omega
theorem m_143 (v1 : Int32) (S : sS) (hS : kC S = c) : Cp (F_143 G t v1 S) c := by
  unfold F_143
  repeat' first | with_reducible assumption | with_reducible exact C_none | with_reducible apply m_143_29 | with_reducible apply m_140 | with_reducible apply m_143_34 | with_reducible apply C_some | with_reducible apply C_jif | with_reducible apply C_bif | with_reducible apply C_bind | with_reducible apply C_obind | with_reducible apply C_sif | with_reducible apply C_ssm | with_reducible apply C_i | with_reducible apply C_l | with_reducible apply C_ai | with_reducible apply C_al | with_reducible apply C_sF | with_reducible apply C_sT | with_reducible apply C_nF | with_reducible apply C_nT | with_reducible apply C_x | with_reducible intro _ | fail | omega
theorem m_144 (S : sS) (hS : kC S = c) : Cp (F_144 G t S) c := by
  unfold F_144
  repeat' first | with_reducible assumption | with_reducible exact C_none | with_reducible apply m_141 | with_reducible apply C_some | with_reducible apply C_jif | with_reducible apply C_bif | with_reducible apply C_bind | with_reducible apply C_obind | with_reducible apply C_sif | with_reducible apply C_ssm | with_reducible apply C_i | with_reducible apply C_l | with_reducible apply C_ai | with_reducible apply C_al | with_reducible apply C_sF | with_reducible apply C_sT | with_reducible apply C_nF | with_reducible apply C_nT | with_reducible apply C_x | with_reducible intro _ | fail | omega
theorem m_146_17 (v1 : Int32) (w0 : Int32) (S : sS) (hS : kC S = c) : Cp (F_146_17 G t v1 w0 S) c := by
  unfold F_146_17
  repeat' first | with_reducible assumption | with_reducible exact C_none | with_reducible apply C_some | with_reducible apply C_jif | with_reducible apply C_bif | with_reducible apply C_bind | with_reducible apply C_obind | with_reducible apply C_sif | with_reducible apply C_ssm | with_reducible apply C_i | with_reducible apply C_l | with_reducible apply C_ai | with_reducible apply C_al | with_reducible apply C_sF | with_reducible apply C_sT | with_reducible apply C_nF | with_reducible apply C_nT | with_reducible apply C_x | with_reducible intro _ | fail | omega
theorem m_146_12 (v1 : Int32) (S : sS) (hS : kC S = c) : Cp (F_146_12 G t v1 S) c := by
  unfold F_146_12
  repeat' first | with_reducible assumption | with_reducible exact C_none | with_reducible apply m_146_17 | with_reducible apply C_some | with_reducible apply C_jif | with_reducible apply C_bif | with_reducible apply C_bind | with_reducible apply C_obind | with_reducible apply C_sif | with_reducible apply C_ssm | with_reducible apply C_i | with_reducible apply C_l | with_reducible apply C_ai | with_reducible apply C_al | with_reducible apply C_sF | with_reducible apply C_sT | with_reducible apply C_nF | with_reducible apply C_nT | with_reducible apply C_x | with_reducible intro _ | fail | omega
theorem m_146 (v1 : Int32) (S : sS) (hS : kC S = c) : Cp (F_146 G t v1 S) c := by
  unfold F_146
  repeat' first | with_reducible assumption | with_reducible exact C_none | with_reducible apply m_146_12 | with_reducible apply m_146_17 | with_reducible apply C_some | with_reducible apply C_jif | with_reducible apply C_bif | with_reducible apply C_bind | with_reducible apply C_obind | with_reducible apply C_sif | with_reducible apply C_ssm | with_reducible apply C_i | with_reducible apply C_l | with_reducible apply C_ai | with_reducible apply C_al | with_reducible apply C_sF | with_reducible apply C_sT | with_reducible apply C_nF | with_reducible apply C_nT | with_reducible apply C_x | with_reducible intro _ | fail | omega
theorem m_148_16 (v1 : Int32) (w0 : Int32) (S : sS) (hS : kC S = c) : Cp (F_148_16 G t v1 w0 S) c := by
  unfold F_148_16
  repeat' first | with_reducible assumption | with_reducible exact C_none | with_reducible apply C_some | with_reducible apply C_jif | with_reducible apply C_bif | with_reducible apply C_bind | with_reducible apply C_obind | with_reducible apply C_sif | with_reducible apply C_ssm | with_reducible apply C_i | with_reducible apply C_l | with_reducible apply C_ai | with_reducible apply C_al | with_reducible apply C_sF | with_reducible apply C_sT | with_reducible apply C_nF | with_reducible apply C_nT | with_reducible apply C_x | with_reducible intro _ | fail | omega
theorem m_148_11 (v1 : Int32) (S : sS) (hS : kC S = c) : Cp (F_148_11 G t v1 S) c := by
  unfold F_148_11
  repeat' first | with_reducible assumption | with_reducible exact C_none | with_reducible apply m_148_16 | with_reducible apply C_some | with_reducible apply C_jif | with_reducible apply C_bif | with_reducible apply C_bind | with_reducible apply C_obind | with_reducible apply C_sif | with_reducible apply C_ssm | with_reducible apply C_i | with_reducible apply C_l | with_reducible apply C_ai | with_reducible apply C_al | with_reducible apply C_sF | with_reducible apply C_sT | with_reducible apply C_nF | with_reducible apply C_nT | with_reducible apply C_x | with_reducible intro _ | fail | omega
theorem m_148 (v1 : Int32) (S : sS) (hS : kC S = c) : Cp (F_148 G t v1 S) c := by
  unfold F_148
  repeat' first | with_reducible assumption | with_reducible exact C_none | with_reducible apply m_148_11 | with_reducible apply m_148_16 | with_reducible apply C_some | with_reducible apply C_jif | with_reducible apply C_bif | with_reducible apply C_bind | with_reducible apply C_obind | with_reducible apply C_sif | with_reducible apply C_ssm | with_reducible apply C_i | with_reducible apply C_l | with_reducible apply C_ai | with_reducible apply C_al | with_reducible apply C_sF | with_reducible apply C_sT | with_reducible apply C_nF | with_reducible apply C_nT | with_reducible apply C_x | with_reducible intro _ | fail | omega
theorem m_150 (S : sS) (hS : kC S = c) : Cp (F_150 G t S) c := by
  unfold F_150
  repeat' first | with_reducible assumption | with_reducible exact C_none | with_reducible apply C_some | with_reducible apply C_jif | with_reducible apply C_bif | with_reducible apply C_bind | with_reducible apply C_obind | with_reducible apply C_sif | with_reducible apply C_ssm | with_reducible apply C_i | with_reducible apply C_l | with_reducible apply C_ai | with_reducible apply C_al | with_reducible apply C_sF | with_reducible apply C_sT | with_reducible apply C_nF | with_reducible apply C_nT | with_reducible apply C_x | with_reducible intro _ | fail | omega
theorem m_151 (v0 : (Nat × Nat)) (S : sS) (hS : kC S = c) : Cp (F_151 G t v0 S) c := by
  unfold F_151
  repeat' first | with_reducible assumption | with_reducible exact C_none | with_reducible apply C_some | with_reducible apply C_jif | with_reducible apply C_bif | with_reducible apply C_bind | with_reducible apply C_obind | with_reducible apply C_sif | with_reducible apply C_ssm | with_reducible apply C_i | with_reducible apply C_l | with_reducible apply C_ai | with_reducible apply C_al | with_reducible apply C_sF | with_reducible apply C_sT | with_reducible apply C_nF | with_reducible apply C_nT | with_reducible apply C_x | with_reducible intro _ | fail | omega
theorem m_152 (v1 : Int32) (v2 : Int32) (S : sS) (hS : kC S = c) : Cp (F_152 G t v1 v2 S) c := by
  unfold F_152
  repeat' first | with_reducible assumption | with_reducible exact C_none | with_reducible apply C_some | with_reducible apply C_jif | with_reducible apply C_bif | with_reducible apply C_bind | with_reducible apply C_obind | with_reducible apply C_sif | with_reducible apply C_ssm | with_reducible apply C_i | with_reducible apply C_l | with_reducible apply C_ai | with_reducible apply C_al | with_reducible apply C_sF | with_reducible apply C_sT | with_reducible apply C_nF | with_reducible apply C_nT | with_reducible apply C_x | with_reducible intro _ | fail | omega
theorem m_153 (v0 : Int32) (S : sS) (hS : kC S = c) : Cp (F_153 G t v0 S) c := by
  unfold F_153
  repeat' first | with_reducible assumption | with_reducible exact C_none | with_reducible apply C_some | with_reducible apply C_jif | with_reducible apply C_bif | with_reducible apply C_bind | with_reducible apply C_obind | with_reducible apply C_sif | with_reducible apply C_ssm | with_reducible apply C_i | with_reducible apply C_l | with_reducible apply C_ai | with_reducible apply C_al | with_reducible apply C_sF | with_reducible apply C_sT | with_reducible apply C_nF | with_reducible apply C_nT | with_reducible apply C_x | with_reducible intro _ | fail | omega
theorem m_154_181 (w0 : Int32) (w1 : (Nat × Nat)) (S : sS) (hS : kC S = c) : Cp (F_154_181 G t w0 w1 S) c := by
  unfold F_154_181
  repeat' first | with_reducible assumption | with_reducible exact C_none | with_reducible apply C_some | with_reducible apply C_jif | with_reducible apply C_bif | with_reducible apply C_bind | with_reducible apply C_obind | with_reducible apply C_sif | with_reducible apply C_ssm | with_reducible apply C_i | with_reducible apply C_l | with_reducible apply C_ai | with_reducible apply C_al | with_reducible apply C_sF | with_reducible apply C_sT | with_reducible apply C_nF | with_reducible apply C_nT | with_reducible apply C_x | with_reducible intro _ | fail | omega
theorem m_154_145 (v1 : (Nat × Nat)) (v2 : (Nat × Nat)) (w0 : Int32) (w1 : (Nat × Nat)) (S : sS) (hS : kC S = c) : Cp (F_154_145 G t v1 v2 w0 w1 S) c := by
  unfold F_154_145
  repeat' first | with_reducible assumption | with_reducible exact C_none | with_reducible apply m_154_181 | with_reducible apply C_some | with_reducible apply C_jif | with_reducible apply C_bif | with_reducible apply C_bind | with_reducible apply C_obind | with_reducible apply C_sif | with_reducible apply C_ssm | with_reducible apply C_i | with_reducible apply C_l | with_reducible apply C_ai | with_reducible apply C_al | with_reducible apply C_sF | with_reducible apply C_sT | with_reducible apply C_nF | with_reducible apply C_nT | with_reducible apply C_x | with_reducible intro _ | fail | omega
theorem m_154_257 (k0 : (Nat × Nat) → sS → Option (Unit × sS)) (v1 : (Nat × Nat)) (S : sS) (hk0 : ∀ x0 S, kC S = c → Cp (k0 x0 S) c) (hS : kC S = c) : Cp (F_154_257 G t k0 v1 S) c := by
  unfold F_154_257
  repeat' first | with_reducible assumption | with_reducible exact C_none | with_reducible apply hk0 | with_reducible apply C_some | with_reducible apply C_jif | with_reducible apply C_bif | with_reducible apply C_bind | with_reducible apply C_obind | with_reducible apply C_sif | with_reducible apply C_ssm | with_reducible apply C_i | with_reducible apply C_l | with_reducible apply C_ai | with_reducible apply C_al | with_reducible apply C_sF | with_reducible apply C_sT | with_reducible apply C_nF | with_reducible apply C_nT | with_reducible apply C_x | with_reducible intro _ | fail | omega
set_option maxHeartbeats 4000000 in
set_option linter.unusedSimpArgs false in
theorem m_154_0  : ∀ tt u0 S, kC S = c → Cp (F_154_0 G t  tt u0 S) c := by
  intro tt
  induction tt with
  | zero => intros; exact C_none
  | succ tt ih =>
    intro u0 S hS
    rw [F_154_0]
    try dsimp only
    repeat' first | with_reducible assumption | with_reducible exact C_none | with_reducible apply ih | with_reducible apply m_151 | with_reducible apply m_154_257 | with_reducible apply m_154_145 | with_reducible apply m_142 | with_reducible apply C_some | with_reducible apply C_jif | with_reducible apply C_bif | with_reducible apply C_bind | with_reducible apply C_obind | with_reducible apply C_sif | with_reducible apply C_ssm | with_reducible apply C_i | with_reducible apply C_l | with_reducible apply C_ai | with_reducible apply C_al | with_reducible apply C_sF | with_reducible apply C_sT | with_reducible apply C_nF | with_reducible apply C_nT | with_reducible apply C_x | with_reducible intro _ | fail | omega
theorem m_154 (v1 : (Nat × Nat)) (S : sS) (hS : kC S = c) : Cp (F_154 G t v1 S) c := by
  unfold F_154
  repeat' first | with_reducible assumption | with_reducible exact C_none | with_reducible apply m_154_0 | with_reducible apply C_some | with_reducible apply C_jif | with_reducible apply C_bif | with_reducible apply C_bind | with_reducible apply C_obind | with_reducible apply C_sif | with_reducible apply C_ssm | with_reducible apply C_i | with_reducible apply C_l | with_reducible apply C_ai | with_reducible apply C_al | with_reducible apply C_sF | with_reducible apply C_sT | with_reducible apply C_nF | with_reducible apply C_nT | with_reducible apply C_x | with_reducible intro _ | fail | omega
theorem m_155 (v1 : (Nat × Nat)) (v2 : Int64) (S : sS) (hS : kC S = c) : Cp (F_155 G t v1 v2 S) c := by
  unfold F_155
  repeat' first | with_reducible assumption | with_reducible exact C_none | with_reducible apply m_151 | with_reducible apply m_154 | with_reducible apply C_some | with_reducible apply C_jif | with_reducible apply C_bif | with_reducible apply C_bind | with_reducible apply C_obind | with_reducible apply C_sif | with_reducible apply C_ssm | with_reducible apply C_i | with_reducible apply C_l | with_reducible apply C_ai | with_reducible apply C_al | with_reducible apply C_sF | with_reducible apply C_sT | with_reducible apply C_nF | with_reducible apply C_nT | with_reducible apply C_x | with_reducible intro _ | fail | omega
theorem m_156_84 (v1 : (Nat × Nat)) (v4 : Int32) (S : sS) (hS : kC S = c) : Cp (F_156_84 G t v1 v4 S) c := by
  unfold F_156_84
  repeat' first | with_reducible assumption | with_reducible exact C_none | with_reducible apply m_155 | with_reducible apply C_some | with_reducible apply C_jif | with_reducible apply C_bif | with_reducible apply C_bind | with_reducible apply C_obind | with_reducible apply C_sif | with_reducible apply C_ssm | with_reducible apply C_i | with_reducible apply C_l | with_reducible apply C_ai | with_reducible apply C_al | with_reducible apply C_sF | with_reducible apply C_sT | with_reducible apply C_nF | with_reducible apply C_nT | with_reducible apply C_x | with_reducible intro _ | fail | omega
set_option maxHeartbeats 4000000 in
set_option linter.unusedSimpArgs false in
theorem m_156_23  : ∀ tt u0 u1 u2 u3 u4 S, kC S = c → Cp (F_156_23 G t  tt u0 u1 u2 u3 u4 S) c := by
  intro tt
  induction tt with
  | zero => intros; exact C_none
  | succ tt ih =>
    intro u0 u1 u2 u3 u4 S hS
    rw [F_156_23]
    try dsimp only
    repeat' first | with_reducible assumption | with_reducible exact C_none | with_reducible apply ih | with_reducible apply m_156_84 | with_reducible apply C_some | with_reducible apply C_jif | with_reducible apply C_bif | with_reducible apply C_bind | with_reducible apply C_obind | with_reducible apply C_sif | with_reducible apply C_ssm | with_reducible apply C_i | with_reducible apply C_l | with_reducible apply C_ai | with_reducible apply C_al | with_reducible apply C_sF | with_reducible apply C_sT | with_reducible apply C_nF | with_reducible apply C_nT | with_reducible apply C_x | with_reducible intro _ | fail | omega
theorem m_156_18 (v1 : (Nat × Nat)) (v2 : Int32) (v3 : (Nat × Nat)) (w0 : Int32) (S : sS) (hS : kC S = c) : Cp (F_156_18 G t v1 v2 v3 w0 S) c := by
  unfold F_156_18
  repeat' first | with_reducible assumption | with_reducible exact C_none | with_reducible apply m_156_23 | with_reducible apply C_some | with_reducible apply C_jif | with_reducible apply C_bif | with_reducible apply C_bind | with_reducible apply C_obind | with_reducible apply C_sif | with_reducible apply C_ssm | with_reducible apply C_i | with_reducible apply C_l | with_reducible apply C_ai | with_reducible apply C_al | with_reducible apply C_sF | with_reducible apply C_sT | with_reducible apply C_nF | with_reducible apply C_nT | with_reducible apply C_x | with_reducible intro _ | fail | omega
theorem m_156 (v1 : (Nat × Nat)) (v2 : Int32) (S : sS) (hS : kC S = c) : Cp (F_156 G t v1 v2 S) c := by
  unfold F_156
  repeat' first | with_reducible assumption | with_reducible exact C_none | with_reducible apply m_151 | with_reducible apply m_156_18 | with_reducible apply C_some | with_reducible apply C_jif | with_reducible apply C_bif | with_reducible apply C_bind | with_reducible apply C_obind | with_reducible apply C_sif | with_reducible apply C_ssm | with_reducible apply C_i | with_reducible apply C_l | with_reducible apply C_ai | with_reducible apply C_al | with_reducible apply C_sF | with_reducible apply C_sT | with_reducible apply C_nF | with_reducible apply C_nT | with_reducible apply C_x | with_reducible intro _ | fail | omega
theorem m_157 (v1 : (Nat × Nat)) (v2 : Int32) (v3 : Int64) (S : sS) (hS : kC S = c) : Cp (F_157 G t v1 v2 v3 S) c := by
  unfold F_157
  repeat' first | with_reducible assumption | with_reducible exact C_none | with_reducible apply m_151 | with_reducible apply m_155 | with_reducible apply C_some | with_reducible apply C_jif | with_reducible apply C_bif | with_reducible apply C_bind | with_reducible apply C_obind | with_reducible apply C_sif | with_reducible apply C_ssm | with_reducible apply C_i | with_reducible apply C_l | with_reducible apply C_ai | with_reducible apply C_al | with_reducible apply C_sF | with_reducible apply C_sT | with_reducible apply C_nF | with_reducible apply C_nT | with_reducible apply C_x | with_reducible intro _ | fail | omega
theorem m_158 (v1 : (Nat × Nat)) (v2 : Int32) (S : sS) (hS : kC S = c) : Cp (F_158 G t v1 v2 S) c := by
  unfold F_158
  repeat' first | with_reducible assumption | with_reducible exact C_none | with_reducible apply m_155 | with_reducible apply C_some | with_reducible apply C_jif | with_reducible apply C_bif | with_reducible apply C_bind | with_reducible apply C_obind | with_reducible apply C_sif | with_reducible apply C_ssm | with_reducible apply C_i | with_reducible apply C_l | with_reducible apply C_ai | with_reducible apply C_al | with_reducible apply C_sF | with_reducible apply C_sT | with_reducible apply C_nF | with_reducible apply C_nT | with_reducible apply C_x | with_reducible intro _ | fail | omega
theorem m_159_145 (w0 : Int64) (w1 : Int32) (w2 : (Nat × Nat)) (S : sS) (hS : kC S = c) : Cp (F_159_145 G t w0 w1 w2 S) c := by
  unfold F_159_145
  repeat' first | with_reducible assumption | with_reducible exact C_none | with_reducible apply m_157 | with_reducible apply C_some | with_reducible apply C_jif | with_reducible apply C_bif | with_reducible apply C_bind | with_reducible apply C_obind | with_reducible apply C_sif | with_reducible apply C_ssm | with_reducible apply C_i | with_reducible apply C_l | with_reducible apply C_ai | with_reducible apply C_al | with_reducible apply C_sF | with_reducible apply C_sT | with_reducible apply C_nF | with_reducible apply C_nT | with_reducible apply C_x | with_reducible intro _ | fail | omega
theorem m_159_78 (v1 : (Nat × Nat)) (v2 : Int32) (v3 : Int64) (v5 : Int64) (S : sS) (hS : kC S = c) : Cp (F_159_78 G t v1 v2 v3 v5 S) c := by
  unfold F_159_78
  repeat' first | with_reducible assumption | with_reducible exact C_none | with_reducible apply m_159_145 | with_reducible apply C_some | with_reducible apply C_jif | with_reducible apply C_bif | with_reducible apply C_bind | with_reducible apply C_obind | with_reducible apply C_sif | with_reducible apply C_ssm | with_reducible apply C_i | with_reducible apply C_l | with_reducible apply C_ai | with_reducible apply C_al | with_reducible apply C_sF | with_reducible apply C_sT | with_reducible apply C_nF | with_reducible apply C_nT | with_reducible apply C_x | with_reducible intro _ | fail | omega
theorem m_159_34 (v1 : (Nat × Nat)) (v2 : Int32) (w0 : Int32) (w1 : (Nat × Nat)) (S : sS) (hS : kC S = c) : Cp (F_159_34 G t v1 v2 w0 w1 S) c := by
  unfold F_159_34
  repeat' first | with_reducible assumption | with_reducible exact C_none | with_reducible apply m_158 | with_reducible apply m_159_78 | with_reducible apply m_155 | with_reducible apply C_some | with_reducible apply C_jif | with_reducible apply C_bif | with_reducible apply C_bind | with_reducible apply C_obind | with_reducible apply C_sif | with_reducible apply C_ssm | with_reducible apply C_i | with_reducible apply C_l | with_reducible apply C_ai | with_reducible apply C_al | with_reducible apply C_sF | with_reducible apply C_sT | with_reducible apply C_nF | with_reducible apply C_nT | with_reducible apply C_x | with_reducible intro _ | fail | omega
theorem m_159_33 (v1 : (Nat × Nat)) (v2 : Int32) (w0 : (Nat × Nat)) (S : sS) (hS : kC S = c) : Cp (F_159_33 G t v1 v2 w0 S) c := by
  unfold F_159_33
  repeat' first | with_reducible assumption | with_reducible exact C_none | with_reducible apply m_159_34 | with_reducible apply C_some | with_reducible apply C_jif | with_reducible apply C_bif | with_reducible apply C_bind | with_reducible apply C_obind | with_reducible apply C_sif | with_reducible apply C_ssm | with_reducible apply C_i | with_reducible apply C_l | with_reducible apply C_ai | with_reducible apply C_al | with_reducible apply C_sF | with_reducible apply C_sT | with_reducible apply C_nF | with_reducible apply C_nT | with_reducible apply C_x | with_reducible intro _ | fail | omega
theorem m_159 (v1 : (Nat × Nat)) (v2 : Int32) (S : sS) (hS : kC S = c) : Cp (F_159 G t v1 v2 S) c := by
  unfold F_159
  repeat' first | with_reducible assumption | with_reducible exact C_none | with_reducible apply m_156 | with_reducible apply m_159_33 | with_reducible apply m_159_34 | with_reducible apply C_some | with_reducible apply C_jif | with_reducible apply C_bif | with_reducible apply C_bind | with_reducible apply C_obind | with_reducible apply C_sif | with_reducible apply C_ssm | with_reducible apply C_i | with_reducible apply C_l | with_reducible apply C_ai | with_reducible apply C_al | with_reducible apply C_sF | with_reducible apply C_sT | with_reducible apply C_nF | with_reducible apply C_nT | with_reducible apply C_x | with_reducible intro _ | fail | omega
theorem m_160_12 (w0 : Int64) (w1 : Int32) (w2 : (Nat × Nat)) (S : sS) (hS : kC S = c) : Cp (F_160_12 G t w0 w1 w2 S) c := by
  unfold F_160_12
  repeat' first | with_reducible assumption | with_reducible exact C_none | with_reducible apply m_157 | with_reducible apply C_some | with_reducible apply C_jif | with_reducible apply C_bif | with_reducible apply C_bind | with_reducible apply C_obind | with_reducible apply C_sif | with_reducible apply C_ssm | with_reducible apply C_i | with_reducible apply C_l | with_reducible apply C_ai | with_reducible apply C_al | with_reducible apply C_sF | with_reducible apply C_sT | with_reducible apply C_nF | with_reducible apply C_nT | with_reducible apply C_x | with_reducible intro _ | fail | omega
theorem m_160 (v1 : (Nat × Nat)) (v2 : Int32) (S : sS) (hS : kC S = c) : Cp (F_160 G t v1 v2 S) c := by
  unfold F_160
  repeat' first | with_reducible assumption | with_reducible exact C_none | with_reducible apply m_160_12 | with_reducible apply C_some | with_reducible apply C_jif | with_reducible apply C_bif | with_reducible apply C_bind | with_reducible apply C_obind | with_reducible apply C_sif | with_reducible apply C_ssm | with_reducible apply C_i | with_reducible apply C_l | with_reducible apply C_ai | with_reducible apply C_al | with_reducible apply C_sF | with_reducible apply C_sT | with_reducible apply C_nF | with_reducible apply C_nT | with_reducible apply C_x | with_reducible intro _ | fail | omega
set_option maxHeartbeats 4000000 in
set_option linter.unusedSimpArgs false in
theorem m_161_2  : ∀ tt u0 u1 u2 S, kC S = c → Cp (F_161_2 G t  tt u0 u1 u2 S) c := by
  intro tt
  induction tt with
  | zero => intros; exact C_none
  | succ tt ih =>
    intro u0 u1 u2 S hS
    rw [F_161_2]
    try dsimp only
    repeat' first | with_reducible assumption | with_reducible exact C_none | with_reducible apply ih | with_reducible apply m_151 | with_reducible apply C_some | with_reducible apply C_jif | with_reducible apply C_bif | with_reducible apply C_bind | with_reducible apply C_obind | with_reducible apply C_sif | with_reducible apply C_ssm | with_reducible apply C_i | with_reducible apply C_l | with_reducible apply C_ai | with_reducible apply C_al | with_reducible apply C_sF | with_reducible apply C_sT | with_reducible apply C_nF | with_reducible apply C_nT | with_reducible apply C_x | with_reducible intro _ | fail | omega
theorem m_161 (v1 : (Nat × Nat)) (v2 : Int32) (S : sS) (hS : kC S = c) : Cp (F_161 G t v1 v2 S) c := by
  unfold F_161
  repeat' first | with_reducible assumption | with_reducible exact C_none | with_reducible apply m_161_2 | with_reducible apply C_some | with_reducible apply C_jif | with_reducible apply C_bif | with_reducible apply C_bind | with_reducible apply C_obind | with_reducible apply C_sif | with_reducible apply C_ssm | with_reducible apply C_i | with_reducible apply C_l | with_reducible apply C_ai | with_reducible apply C_al | with_reducible apply C_sF | with_reducible apply C_sT | with_reducible apply C_nF | with_reducible apply C_nT | with_reducible apply C_x | with_reducible intro _ | fail | omega
theorem m_162 (v1 : (Nat × Nat)) (v2 : Int32) (S : sS) (hS : kC S = c) : Cp (F_162 G t v1 v2 S) c := by
  unfold F_162
  repeat' first | with_reducible assumption | with_reducible exact C_none | with_reducible apply m_156 | with_reducible apply m_142 | with_reducible apply m_161 | with_reducible apply m_155 | with_reducible apply C_some | with_reducible apply C_jif | with_reducible apply C_bif | with_reducible apply C_bind | with_reducible apply C_obind | with_reducible apply C_sif | with_reducible apply C_ssm | with_reducible apply C_i | with_reducible apply C_l | with_reducible apply C_ai | with_reducible apply C_al | with_reducible apply C_sF | with_reducible apply C_sT | with_reducible apply C_nF | with_reducible apply C_nT | with_reducible apply C_x | with_reducible intro _ | fail | omega
theorem m_163 (v1 : Int32) (S : sS) (hS : kC S = c) : Cp (F_163 G t v1 S) c := by
  unfold F_163
  repeat' first | with_reducible assumption | with_reducible exact C_none | with_reducible apply C_some | with_reducible apply C_jif | with_reducible apply C_bif | with_reducible apply C_bind | with_reducible apply C_obind | with_reducible apply C_sif | with_reducible apply C_ssm | with_reducible apply C_i | with_reducible apply C_l | with_reducible apply C_ai | with_reducible apply C_al | with_reducible apply C_sF | with_reducible apply C_sT | with_reducible apply C_nF | with_reducible apply C_nT | with_reducible apply C_x | with_reducible intro _ | fail | omega
theorem m_164_60 (v1 : (Nat × Nat)) (v2 : Int32) (v3 : Int32) (v4 : Int32) (S : sS) (hS : kC S = c) : Cp (F_164_60 G t v1 v2 v3 v4 S) c := by
  unfold F_164_60
  repeat' first | with_reducible assumption | with_reducible exact C_none | with_reducible apply m_142 | with_reducible apply m_161 | with_reducible apply m_163 | with_reducible apply m_155 | with_reducible apply C_some | with_reducible apply C_jif | with_reducible apply C_bif | with_reducible apply C_bind | with_reducible apply C_obind | with_reducible apply C_sif | with_reducible apply C_ssm | with_reducible apply C_i | with_reducible apply C_l | with_reducible apply C_ai | with_reducible apply C_al | with_reducible apply C_sF | with_reducible apply C_sT | with_reducible apply C_nF | with_reducible apply C_nT | with_reducible apply C_x | with_reducible intro _ | fail | omega
set_option maxHeartbeats 4000000 in
set_option linter.unusedSimpArgs false in
theorem m_164_20  : ∀ tt u0 u1 u2 u3 S, kC S = c → Cp (F_164_20 G t  tt u0 u1 u2 u3 S) c := by
  intro tt
  induction tt with
  | zero => intros; exact C_none
  | succ tt ih =>
    intro u0 u1 u2 u3 S hS
    rw [F_164_20]
    try dsimp only
    repeat' first | with_reducible assumption | with_reducible exact C_none | with_reducible apply ih | with_reducible apply m_164_60 | with_reducible apply C_some | with_reducible apply C_jif | with_reducible apply C_bif | with_reducible apply C_bind | with_reducible apply C_obind | with_reducible apply C_sif | with_reducible apply C_ssm | with_reducible apply C_i | with_reducible apply C_l | with_reducible apply C_ai | with_reducible apply C_al | with_reducible apply C_sF | with_reducible apply C_sT | with_reducible apply C_nF | with_reducible apply C_nT | with_reducible apply C_x | with_reducible intro _ | fail | omega
theorem m_164 (v1 : (Nat × Nat)) (v2 : Int32) (S : sS) (hS : kC S = c) : Cp (F_164 G t v1 v2 S) c := by
  unfold F_164
  repeat' first | with_reducible assumption | with_reducible exact C_none | with_reducible apply m_156 | with_reducible apply m_164_20 | with_reducible apply C_some | with_reducible apply C_jif | with_reducible apply C_bif | with_reducible apply C_bind | with_reducible apply C_obind | with_reducible apply C_sif | with_reducible apply C_ssm | with_reducible apply C_i | with_reducible apply C_l | with_reducible apply C_ai | with_reducible apply C_al | with_reducible apply C_sF | with_reducible apply C_sT | with_reducible apply C_nF | with_reducible apply C_nT | with_reducible apply C_x | with_reducible intro _ | fail | omega
theorem m_165 (v0 : (Nat × Nat)) (S : sS) (hS : kC S = c) : Cp (F_165 G t v0 S) c := by
  unfold F_165
  repeat' first | with_reducible assumption | with_reducible exact C_none | with_reducible apply C_some | with_reducible apply C_jif | with_reducible apply C_bif | with_reducible apply C_bind | with_reducible apply C_obind | with_reducible apply C_sif | with_reducible apply C_ssm | with_reducible apply C_i | with_reducible apply C_l | with_reducible apply C_ai | with_reducible apply C_al | with_reducible apply C_sF | with_reducible apply C_sT | with_reducible apply C_nF | with_reducible apply C_nT | with_reducible apply C_x | with_reducible intro _ | fail | omega
theorem m_166 (v1 : Int32) (v2 : Int64) (S : sS) (hS : kC S = c) : Cp (F_166 G t v1 v2 S) c := by
  unfold F_166
  repeat' first | with_reducible assumption | with_reducible exact C_none | with_reducible apply m_165 | with_reducible apply C_some | with_reducible apply C_jif | with_reducible apply C_bif | with_reducible apply C_bind | with_reducible apply C_obind | with_reducible apply C_sif | with_reducible apply C_ssm | with_reducible apply C_i | with_reducible apply C_l | with_reducible apply C_ai | with_reducible apply C_al | with_reducible apply C_sF | with_reducible apply C_sT | with_reducible apply C_nF | with_reducible apply C_nT | with_reducible apply C_x | with_reducible intro _ | fail | omega
theorem m_167_238 (k72 : Int32 → sS → Option (Unit × sS)) (k80 : Int32 → Int32 → sS → Option (Unit × sS)) (v1 : Int32) (v2 : Int32) (S : sS) (hk0 : ∀ x0 S, kC S = c → Cp (k72 x0 S) c) (hk1 : ∀ x0 x1 S, kC S = c → Cp (k80 x0 x1 S) c) (hS : kC S = c) : Cp (F_167_238 G t k72 k80 v1 v2 S) c := by
  unfold F_167_238
  repeat' first | with_reducible assumption | with_reducible exact C_none | with_reducible apply hk0 | with_reducible apply hk1 | with_reducible apply C_some | with_reducible apply C_jif | with_reducible apply C_bif | with_reducible apply C_bind | with_reducible apply C_obind | with_reducible apply C_sif | with_reducible apply C_ssm | with_reducible apply C_i | with_reducible apply C_l | with_reducible apply C_ai | with_reducible apply C_al | with_reducible apply C_sF | with_reducible apply C_sT | with_reducible apply C_nF | with_reducible apply C_nT | with_reducible apply C_x | with_reducible intro _ | fail | omega
set_option maxHeartbeats 4000000 in
set_option linter.unusedSimpArgs false in
theorem m_167_185 (k72 : Int32 → sS → Option (Unit × sS)) (k80 : Int32 → Int32 → sS → Option (Unit × sS)) (hk0 : ∀ x0 S, kC S = c → Cp (k72 x0 S) c) (hk1 : ∀ x0 x1 S, kC S = c → Cp (k80 x0 x1 S) c) : ∀ tt u0 u1 u2 u3 S, kC S = c → Cp (F_167_185 G t k72 k80 tt u0 u1 u2 u3 S) c := by
  intro tt
  induction tt with
  | zero => intros; exact C_none
  | succ tt ih =>
    intro u0 u1 u2 u3 S hS
    rw [F_167_185]
    try dsimp only
    repeat' first | with_reducible assumption | with_reducible exact C_none | with_reducible apply ih | with_reducible apply hk0 | with_reducible apply hk1 | with_reducible apply m_167_238 | with_reducible apply m_166 | with_reducible apply C_some | with_reducible apply C_jif | with_reducible apply C_bif | with_reducible apply C_bind | with_reducible apply C_obind | with_reducible apply C_sif | with_reducible apply C_ssm | with_reducible apply C_i | with_reducible apply C_l | with_reducible apply C_ai | with_reducible apply C_al | with_reducible apply C_sF | with_reducible apply C_sT | with_reducible apply C_nF | with_reducible apply C_nT | with_reducible apply C_x | with_reducible intro _ | fail | omega
set_option maxHeartbeats 4000000 in
set_option linter.unusedSimpArgs false in
theorem m_167_149 (k72 : Int32 → sS → Option (Unit × sS)) (k80 : Int32 → Int32 → sS → Option (Unit × sS)) (hk0 : ∀ x0 S, kC S = c → Cp (k72 x0 S) c) (hk1 : ∀ x0 x1 S, kC S = c → Cp (k80 x0 x1 S) c) : ∀ tt u0 u1 u2 u3 S, kC S = c → Cp (F_167_149 G t k72 k80 tt u0 u1 u2 u3 S) c := by
  intro tt
  induction tt with
  | zero => intros; exact C_none
  | succ tt ih =>
    intro u0 u1 u2 u3 S hS
    rw [F_167_149]
    try dsimp only
    repeat' first | with_reducible assumption | with_reducible exact C_none | with_reducible apply ih | with_reducible apply hk0 | with_reducible apply hk1 | with_reducible apply m_167_185 | with_reducible apply m_166 | with_reducible apply C_some | with_reducible apply C_jif | with_reducible apply C_bif | with_reducible apply C_bind | with_reducible apply C_obind | with_reducible apply C_sif | with_reducible apply C_ssm | with_reducible apply C_i | with_reducible apply C_l | with_reducible apply C_ai | with_reducible apply C_al | with_reducible apply C_sF | with_reducible apply C_sT | with_reducible apply C_nF | with_reducible apply C_nT | with_reducible apply C_x | with_reducible intro _ | fail | omega
set_option maxHeartbeats 4000000 in
set_option linter.unusedSimpArgs false in
theorem m_167_108 (k72 : Int32 → sS → Option (Unit × sS)) (k80 : Int32 → Int32 → sS → Option (Unit × sS)) (hk0 : ∀ x0 S, kC S = c → Cp (k72 x0 S) c) (hk1 : ∀ x0 x1 S, kC S = c → Cp (k80 x0 x1 S) c) : ∀ tt u0 u1 u2 u3 S, kC S = c → Cp (F_167_108 G t k72 k80 tt u0 u1 u2 u3 S) c := by
  intro tt
  induction tt with
  | zero => intros; exact C_none
  | succ tt ih =>
    intro u0 u1 u2 u3 S hS
    rw [F_167_108]
    try dsimp only
    repeat' first | with_reducible assumption | with_reducible exact C_none | with_reducible apply ih | with_reducible apply hk0 | with_reducible apply hk1 | with_reducible apply m_167_149 | with_reducible apply m_166 | with_reducible apply C_some | with_reducible apply C_jif | with_reducible apply C_bif | with_reducible apply C_bind | with_reducible apply C_obind | with_reducible apply C_sif | with_reducible apply C_ssm | with_reducible apply C_i | with_reducible apply C_l | with_reducible apply C_ai | with_reducible apply C_al | with_reducible apply C_sF | with_reducible apply C_sT | with_reducible apply C_nF | with_reducible apply C_nT | with_reducible apply C_x | with_reducible intro _ | fail | omega
set_option maxHeartbeats 4000000 in
set_option linter.unusedSimpArgs false in
theorem m_167_80 (k72 : Int32 → sS → Option (Unit × sS)) (hk0 : ∀ x0 S, kC S = c → Cp (k72 x0 S) c) : ∀ tt u0 u1 S, kC S = c → Cp (F_167_80 G t k72 tt u0 u1 S) c := by
  intro tt
  induction tt with
  | zero => intros; exact C_none
  | succ tt ih =>
    intro u0 u1 S hS
    rw [F_167_80]
    try dsimp only
    repeat' first | with_reducible assumption | with_reducible exact C_none | with_reducible apply ih | with_reducible apply hk0 | with_reducible apply m_167_108 | with_reducible apply C_some | with_reducible apply C_jif | with_reducible apply C_bif | with_reducible apply C_bind | with_reducible apply C_obind | with_reducible apply C_sif | with_reducible apply C_ssm | with_reducible apply C_i | with_reducible apply C_l | with_reducible apply C_ai | with_reducible apply C_al | with_reducible apply C_sF | with_reducible apply C_sT | with_reducible apply C_nF | with_reducible apply C_nT | with_reducible apply C_x | with_reducible intro _ | fail | omega
set_option maxHeartbeats 4000000 in
set_option linter.unusedSimpArgs false in
theorem m_167_295 (k252 : Int32 → sS → Option (Unit × sS)) (hk0 : ∀ x0 S, kC S = c → Cp (k252 x0 S) c) : ∀ tt u0 u1 u2 u3 S, kC S = c → Cp (F_167_295 G t k252 tt u0 u1 u2 u3 S) c := by
  intro tt
  induction tt with
  | zero => intros; exact C_none
  | succ tt ih =>
    intro u0 u1 u2 u3 S hS
    rw [F_167_295]
    try dsimp only
    repeat' first | with_reducible assumption | with_reducible exact C_none | with_reducible apply ih | with_reducible apply hk0 | with_reducible apply m_166 | with_reducible apply C_some | with_reducible apply C_jif | with_reducible apply C_bif | with_reducible apply C_bind | with_reducible apply C_obind | with_reducible apply C_sif | with_reducible apply C_ssm | with_reducible apply C_i | with_reducible apply C_l | with_reducible apply C_ai | with_reducible apply C_al | with_reducible apply C_sF | with_reducible apply C_sT | with_reducible apply C_nF | with_reducible apply C_nT | with_reducible apply C_x | with_reducible intro _ | fail | omega
theorem m_167_291 (k252 : Int32 → sS → Option (Unit × sS)) (v1 : Int32) (v2 : (Nat × Nat)) (w0 : Int32) (S : sS) (hk0 : ∀ x0 S, kC S = c → Cp (k252 x0 S) c) (hS : kC S = c) : Cp (F_167_291 G t k252 v1 v2 w0 S) c := by
  unfold F_167_291
  repeat' first | with_reducible assumption | with_reducible exact C_none | with_reducible apply hk0 | with_reducible apply m_167_295 | with_reducible apply C_some | with_reducible apply C_jif | with_reducible apply C_bif | with_reducible apply C_bind | with_reducible apply C_obind | with_reducible apply C_sif | with_reducible apply C_ssm | with_reducible apply C_i | with_reducible apply C_l | with_reducible apply C_ai | with_reducible apply C_al | with_reducible apply C_sF | with_reducible apply C_sT | with_reducible apply C_nF | with_reducible apply C_nT | with_reducible apply C_x | with_reducible intro _ | fail | omega
set_option maxHeartbeats 4000000 in
set_option linter.unusedSimpArgs false in
theorem m_167_252  : ∀ tt u0 S, kC S = c → Cp (F_167_252 G t  tt u0 S) c := by
  intro tt
  induction tt with
  | zero => intros; exact C_none
  | succ tt ih =>
    intro u0 S hS
    rw [F_167_252]
    try dsimp only
    repeat' first | with_reducible assumption | with_reducible exact C_none | with_reducible apply ih | with_reducible apply m_167_291 | with_reducible apply C_some | with_reducible apply C_jif | with_reducible apply C_bif | with_reducible apply C_bind | with_reducible apply C_obind | with_reducible apply C_sif | with_reducible apply C_ssm | with_reducible apply C_i | with_reducible apply C_l | with_reducible apply C_ai | with_reducible apply C_al | with_reducible apply C_sF | with_reducible apply C_sT | with_reducible apply C_nF | with_reducible apply C_nT | with_reducible apply C_x | with_reducible intro _ | fail | omega
set_option maxHeartbeats 4000000 in
set_option linter.unusedSimpArgs false in
theorem m_167_72  : ∀ tt u0 S, kC S = c → Cp (F_167_72 G t  tt u0 S) c := by
  intro tt
  induction tt with
  | zero => intros; exact C_none
  | succ tt ih =>
    intro u0 S hS
    rw [F_167_72]
    try dsimp only
    repeat' first | with_reducible assumption | with_reducible exact C_none | with_reducible apply ih | with_reducible apply m_167_252 | with_reducible apply m_167_80 | with_reducible apply C_some | with_reducible apply C_jif | with_reducible apply C_bif | with_reducible apply C_bind | with_reducible apply C_obind | with_reducible apply C_sif | with_reducible apply C_ssm | with_reducible apply C_i | with_reducible apply C_l | with_reducible apply C_ai | with_reducible apply C_al | with_reducible apply C_sF | with_reducible apply C_sT | with_reducible apply C_nF | with_reducible apply C_nT | with_reducible apply C_x | with_reducible intro _ | fail | omega
set_option maxHeartbeats 4000000 in
set_option linter.unusedSimpArgs false in
theorem m_167_42  : ∀ tt u0 S, kC S = c → Cp (F_167_42 G t  tt u0 S) c := by
  intro tt
  induction tt with
  | zero => intros; exact C_none
  | succ tt ih =>
    intro u0 S hS
    rw [F_167_42]
    try dsimp only
    repeat' first | with_reducible assumption | with_reducible exact C_none | with_reducible apply ih | with_reducible apply m_167_72 | with_reducible apply m_166 | with_reducible apply C_some | with_reducible apply C_jif | with_reducible apply C_bif | with_reducible apply C_bind | with_reducible apply C_obind | with_reducible apply C_sif | with_reducible apply C_ssm | with_reducible apply C_i | with_reducible apply C_l | with_reducible apply C_ai | with_reducible apply C_al | with_reducible apply C_sF | with_reducible apply C_sT | with_reducible apply C_nF | with_reducible apply C_nT | with_reducible apply C_x | with_reducible intro _ | fail | omega
set_option maxHeartbeats 4000000 in
set_option linter.unusedSimpArgs false in
theorem m_167_2  : ∀ tt u0 S, kC S = c → Cp (F_167_2 G t  tt u0 S) c := by
  intro tt
  induction tt with
  | zero => intros; exact C_none
  | succ tt ih =>
    intro u0 S hS
    rw [F_167_2]
    try dsimp only
    repeat' first | with_reducible assumption | with_reducible exact C_none | with_reducible apply ih | with_reducible apply m_167_42 | with_reducible apply C_some | with_reducible apply C_jif | with_reducible apply C_bif | with_reducible apply C_bind | with_reducible apply C_obind | with_reducible apply C_sif | with_reducible apply C_ssm | with_reducible apply C_i | with_reducible apply C_l | with_reducible apply C_ai | with_reducible apply C_al | with_reducible apply C_sF | with_reducible apply C_sT | with_reducible apply C_nF | with_reducible apply C_nT | with_reducible apply C_x | with_reducible intro _ | fail | omega
theorem m_167 (S : sS) (hS : kC S = c) : Cp (F_167 G t S) c := by
  unfold F_167
  repeat' first | with_reducible assumption | with_reducible exact C_none | with_reducible apply m_167_2 | with_reducible apply C_some | with_reducible apply C_jif | with_reducible apply C_bif | with_reducible apply C_bind | with_reducible apply C_obind | with_reducible apply C_sif | with_reducible apply C_ssm | with_reducible apply C_i | with_reducible apply C_l | with_reducible apply C_ai | with_reducible apply C_al | with_reducible apply C_sF | with_reducible apply C_sT | with_reducible apply C_nF | with_reducible apply C_nT | with_reducible apply C_x | with_reducible intro _ | fail | omega
set_option maxHeartbeats 4000000 in
set_option linter.unusedSimpArgs false in
theorem m_168_84  : ∀ tt u0 u1 u2 S, kC S = c → Cp (F_168_84 G t  tt u0 u1 u2 S) c := by
  intro tt
  induction tt with
  | zero => intros; exact C_none
  | succ tt ih =>
    intro u0 u1 u2 S hS
    rw [F_168_84]
    try dsimp only
    repeat' first | with_reducible assumption | with_reducible exact C_none | with_reducible apply ih | with_reducible apply C_some | with_reducible apply C_jif | with_reducible apply C_bif | with_reducible apply C_bind | with_reducible apply C_obind | with_reducible apply C_sif | with_reducible apply C_ssm | with_reducible apply C_i | with_reducible apply C_l | with_reducible apply C_ai | with_reducible apply C_al | with_reducible apply C_sF | with_reducible apply C_sT | with_reducible apply C_nF | with_reducible apply C_nT | with_reducible apply C_x | with_reducible intro _ | fail | omega
set_option maxHeartbeats 4000000 in
set_option linter.unusedSimpArgs false in
theorem m_168_31  : ∀ tt u0 u1 u2 S, kC S = c → Cp (F_168_31 G t  tt u0 u1 u2 S) c := by
  intro tt
  induction tt with
  | zero => intros; exact C_none
  | succ tt ih =>
    intro u0 u1 u2 S hS
    rw [F_168_31]
    try dsimp only
    repeat' first | with_reducible assumption | with_reducible exact C_none | with_reducible apply ih | with_reducible apply m_168_84 | with_reducible apply C_some | with_reducible apply C_jif | with_reducible apply C_bif | with_reducible apply C_bind | with_reducible apply C_obind | with_reducible apply C_sif | with_reducible apply C_ssm | with_reducible apply C_i | with_reducible apply C_l | with_reducible apply C_ai | with_reducible apply C_al | with_reducible apply C_sF | with_reducible apply C_sT | with_reducible apply C_nF | with_reducible apply C_nT | with_reducible apply C_x | with_reducible intro _ | fail | omega
theorem m_168_18 (v1 : Int32) (v2 : Int32) (w0 : Int32) (w1 : Int32) (S : sS) (hS : kC S = c) : Cp (F_168_18 G t v1 v2 w0 w1 S) c := by
  unfold F_168_18
  repeat' first | with_reducible assumption | with_reducible exact C_none | with_reducible apply m_168_31 | with_reducible apply C_some | with_reducible apply C_jif | with_reducible apply C_bif | with_reducible apply C_bind | with_reducible apply C_obind | with_reducible apply C_sif | with_reducible apply C_ssm | with_reducible apply C_i | with_reducible apply C_l | with_reducible apply C_ai | with_reducible apply C_al | with_reducible apply C_sF | with_reducible apply C_sT | with_reducible apply C_nF | with_reducible apply C_nT | with_reducible apply C_x | with_reducible intro _ | fail | omega
theorem m_168 (v1 : Int32) (v2 : Int32) (S : sS) (hS : kC S = c) : Cp (F_168 G t v1 v2 S) c := by
  unfold F_168
  repeat' first | with_reducible assumption | with_reducible exact C_none | with_reducible apply m_167 | with_reducible apply m_168_18 | with_reducible apply C_some | with_reducible apply C_jif | with_reducible apply C_bif | with_reducible apply C_bind | with_reducible apply C_obind | with_reducible apply C_sif | with_reducible apply C_ssm | with_reducible apply C_i | with_reducible apply C_l | with_reducible apply C_ai | with_reducible apply C_al | with_reducible apply C_sF | with_reducible apply C_sT | with_reducible apply C_nF | with_reducible apply C_nT | with_reducible apply C_x | with_reducible intro _ | fail | omega
theorem m_169 (v1 : (Nat × Nat)) (v2 : Int32) (v3 : Int32) (S : sS) (hS : kC S = c) : Cp (F_169 G t v1 v2 v3 S) c := by
  unfold F_169
  repeat' first | with_reducible assumption | with_reducible exact C_none | with_reducible apply m_168 | with_reducible apply m_157 | with_reducible apply m_155 | with_reducible apply C_some | with_reducible apply C_jif | with_reducible apply C_bif | with_reducible apply C_bind | with_reducible apply C_obind | with_reducible apply C_sif | with_reducible apply C_ssm | with_reducible apply C_i | with_reducible apply C_l | with_reducible apply C_ai | with_reducible apply C_al | with_reducible apply C_sF | with_reducible apply C_sT | with_reducible apply C_nF | with_reducible apply C_nT | with_reducible apply C_x | with_reducible intro _ | fail | omega
theorem m_170 (v1 : Int32) (v2 : Int64) (v4 : Int32) (S : sS) (hS : kC S = c) : Cp (F_170 G t v1 v2 v4 S) c := by
  unfold F_170
  repeat' first | with_reducible assumption | with_reducible exact C_none | with_reducible apply C_some | with_reducible apply C_jif | with_reducible apply C_bif | with_reducible apply C_bind | with_reducible apply C_obind | with_reducible apply C_sif | with_reducible apply C_ssm | with_reducible apply C_i | with_reducible apply C_l | with_reducible apply C_ai | with_reducible apply C_al | with_reducible apply C_sF | with_reducible apply C_sT | with_reducible apply C_nF | with_reducible apply C_nT | with_reducible apply C_x | with_reducible intro _ | fail | omega
theorem m_171_54 (v1 : (Nat × Nat)) (v2 : Int32) (v3 : Int64) (w0 : Int32) (w1 : (Nat × Nat)) (S : sS) (hS : kC S = c) : Cp (F_171_54 G t v1 v2 v3 w0 w1 S) c := by
  unfold F_171_54
  repeat' first | with_reducible assumption | with_reducible exact C_none | with_reducible apply m_158 | with_reducible apply m_157 | with_reducible apply C_some | with_reducible apply C_jif | with_reducible apply C_bif | with_reducible apply C_bind | with_reducible apply C_obind | with_reducible apply C_sif | with_reducible apply C_ssm | with_reducible apply C_i | with_reducible apply C_l | with_reducible apply C_ai | with_reducible apply C_al | with_reducible apply C_sF | with_reducible apply C_sT | with_reducible apply C_nF | with_reducible apply C_nT | with_reducible apply C_x | with_reducible intro _ | fail | omega
theorem m_171_53 (v1 : (Nat × Nat)) (v2 : Int32) (v3 : Int64) (w0 : (Nat × Nat)) (S : sS) (hS : kC S = c) : Cp (F_171_53 G t v1 v2 v3 w0 S) c := by
  unfold F_171_53
  repeat' first | with_reducible assumption | with_reducible exact C_none | with_reducible apply m_171_54 | with_reducible apply C_some | with_reducible apply C_jif | with_reducible apply C_bif | with_reducible apply C_bind | with_reducible apply C_obind | with_reducible apply C_sif | with_reducible apply C_ssm | with_reducible apply C_i | with_reducible apply C_l | with_reducible apply C_ai | with_reducible apply C_al | with_reducible apply C_sF | with_reducible apply C_sT | with_reducible apply C_nF | with_reducible apply C_nT | with_reducible apply C_x | with_reducible intro _ | fail | omega
theorem m_171 (v1 : (Nat × Nat)) (v2 : Int32) (v3 : Int64) (S : sS) (hS : kC S = c) : Cp (F_171 G t v1 v2 v3 S) c := by
  unfold F_171
  repeat' first | with_reducible assumption | with_reducible exact C_none | with_reducible apply m_170 | with_reducible apply m_171_53 | with_reducible apply m_171_54 | with_reducible apply C_some | with_reducible apply C_jif | with_reducible apply C_bif | with_reducible apply C_bind | with_reducible apply C_obind | with_reducible apply C_sif | with_reducible apply C_ssm | with_reducible apply C_i | with_reducible apply C_l | with_reducible apply C_ai | with_reducible apply C_al | with_reducible apply C_sF | with_reducible apply C_sT | with_reducible apply C_nF | with_reducible apply C_nT | with_reducible apply C_x | with_reducible intro _ | fail | omega
theorem m_172_54 (v2 : Int32) (v3 : Int64) (w0 : Int32) (w1 : (Nat × Nat)) (S : sS) (hS : kC S = c) : Cp (F_172_54 G t v2 v3 w0 w1 S) c := by
  unfold F_172_54
  repeat' first | with_reducible assumption | with_reducible exact C_none | with_reducible apply m_158 | with_reducible apply C_some | with_reducible apply C_jif | with_reducible apply C_bif | with_reducible apply C_bind | with_reducible apply C_obind | with_reducible apply C_sif | with_reducible apply C_ssm | with_reducible apply C_i | with_reducible apply C_l | with_reducible apply C_ai | with_reducible apply C_al | with_reducible apply C_sF | with_reducible apply C_sT | with_reducible apply C_nF | with_reducible apply C_nT | with_reducible apply C_x | with_reducible intro _ | fail | omega
theorem m_172_53 (v2 : Int32) (v3 : Int64) (w0 : (Nat × Nat)) (S : sS) (hS : kC S = c) : Cp (F_172_53 G t v2 v3 w0 S) c := by
  unfold F_172_53
  repeat' first | with_reducible assumption | with_reducible exact C_none | with_reducible apply m_172_54 | with_reducible apply C_some | with_reducible apply C_jif | with_reducible apply C_bif | with_reducible apply C_bind | with_reducible apply C_obind | with_reducible apply C_sif | with_reducible apply C_ssm | with_reducible apply C_i | with_reducible apply C_l | with_reducible apply C_ai | with_reducible apply C_al | with_reducible apply C_sF | with_reducible apply C_sT | with_reducible apply C_nF | with_reducible apply C_nT | with_reducible apply C_x | with_reducible intro _ | fail | omega
theorem m_172 (v1 : (Nat × Nat)) (v2 : Int32) (v3 : Int64) (S : sS) (hS : kC S = c) : Cp (F_172 G t v1 v2 v3 S) c := by
  unfold F_172
  repeat' first | with_reducible assumption | with_reducible exact C_none | with_reducible apply m_170 | with_reducible apply m_172_53 | with_reducible apply m_172_54 | with_reducible apply C_some | with_reducible apply C_jif | with_reducible apply C_bif | with_reducible apply C_bind | with_reducible apply C_obind | with_reducible apply C_sif | with_reducible apply C_ssm | with_reducible apply C_i | with_reducible apply C_l | with_reducible apply C_ai | with_reducible apply C_al | with_reducible apply C_sF | with_reducible apply C_sT | with_reducible apply C_nF | with_reducible apply C_nT | with_reducible apply C_x | with_reducible intro _ | fail | omega
theorem m_173_124 (k37 : Int32 → Int32 → (Nat × Nat) → Int32 → Int32 → sS → Option (Int32 × sS)) (v2 : Int32) (v3 : Int32) (v4 : (Nat × Nat)) (v5 : Int32) (v6 : Int32) (S : sS) (hk0 : ∀ x0 x1 x2 x3 x4 S, kC S = c → Cp (k37 x0 x1 x2 x3 x4 S) c) (hS : kC S = c) : Cp (F_173_124 G t k37 v2 v3 v4 v5 v6 S) c := by
  unfold F_173_124
  repeat' first | with_reducible assumption | with_reducible exact C_none | with_reducible apply hk0 | with_reducible apply C_some | with_reducible apply C_jif | with_reducible apply C_bif | with_reducible apply C_bind | with_reducible apply C_obind | with_reducible apply C_sif | with_reducible apply C_ssm | with_reducible apply C_i | with_reducible apply C_l | with_reducible apply C_ai | with_reducible apply C_al | with_reducible apply C_sF | with_reducible apply C_sT | with_reducible apply C_nF | with_reducible apply C_nT | with_reducible apply C_x | with_reducible intro _ | fail | omega
theorem m_173_117 (k37 : Int32 → Int32 → (Nat × Nat) → Int32 → Int32 → sS → Option (Int32 × sS)) (v2 : Int32) (v3 : Int32) (v4 : (Nat × Nat)) (v5 : Int32) (v6 : Int32) (w0 : Int32) (S : sS) (hk0 : ∀ x0 x1 x2 x3 x4 S, kC S = c → Cp (k37 x0 x1 x2 x3 x4 S) c) (hS : kC S = c) : Cp (F_173_117 G t k37 v2 v3 v4 v5 v6 w0 S) c := by
  unfold F_173_117
  repeat' first | with_reducible assumption | with_reducible exact C_none | with_reducible apply hk0 | with_reducible apply m_173_124 | with_reducible apply C_some | with_reducible apply C_jif | with_reducible apply C_bif | with_reducible apply C_bind | with_reducible apply C_obind | with_reducible apply C_sif | with_reducible apply C_ssm | with_reducible apply C_i | with_reducible apply C_l | with_reducible apply C_ai | with_reducible apply C_al | with_reducible apply C_sF | with_reducible apply C_sT | with_reducible apply C_nF | with_reducible apply C_nT | with_reducible apply C_x | with_reducible intro _ | fail | omega
set_option maxHeartbeats 4000000 in
set_option linter.unusedSimpArgs false in
theorem m_173_37  : ∀ tt u0 u1 u2 u3 u4 S, kC S = c → Cp (F_173_37 G t  tt u0 u1 u2 u3 u4 S) c := by
  intro tt
  induction tt with
  | zero => intros; exact C_none
  | succ tt ih =>
    intro u0 u1 u2 u3 u4 S hS
    rw [F_173_37]
    try dsimp only
    repeat' first | with_reducible assumption | with_reducible exact C_none | with_reducible apply ih | with_reducible apply m_170 | with_reducible apply m_173_124 | with_reducible apply m_173_117 | with_reducible apply C_some | with_reducible apply C_jif | with_reducible apply C_bif | with_reducible apply C_bind | with_reducible apply C_obind | with_reducible apply C_sif | with_reducible apply C_ssm | with_reducible apply C_i | with_reducible apply C_l | with_reducible apply C_ai | with_reducible apply C_al | with_reducible apply C_sF | with_reducible apply C_sT | with_reducible apply C_nF | with_reducible apply C_nT | with_reducible apply C_x | with_reducible intro _ | fail | omega
theorem m_173 (v1 : (Nat × Nat)) (v2 : Int32) (v3 : Int32) (S : sS) (hS : kC S = c) : Cp (F_173 G t v1 v2 v3 S) c := by
  unfold F_173
  repeat' first | with_reducible assumption | with_reducible exact C_none | with_reducible apply m_151 | with_reducible apply m_173_37 | with_reducible apply C_some | with_reducible apply C_jif | with_reducible apply C_bif | with_reducible apply C_bind | with_reducible apply C_obind | with_reducible apply C_sif | with_reducible apply C_ssm | with_reducible apply C_i | with_reducible apply C_l | with_reducible apply C_ai | with_reducible apply C_al | with_reducible apply C_sF | with_reducible apply C_sT | with_reducible apply C_nF | with_reducible apply C_nT | with_reducible apply C_x | with_reducible intro _ | fail | omega
theorem m_174_74 (v2 : Int32) (v5 : (Nat × Nat)) (w0 : Int32) (w1 : Int32) (S : sS) (hS : kC S = c) : Cp (F_174_74 G t v2 v5 w0 w1 S) c := by
  unfold F_174_74
  repeat' first | with_reducible assumption | with_reducible exact C_none | with_reducible apply C_some | with_reducible apply C_jif | with_reducible apply C_bif | with_reducible apply C_bind | with_reducible apply C_obind | with_reducible apply C_sif | with_reducible apply C_ssm | with_reducible apply C_i | with_reducible apply C_l | with_reducible apply C_ai | with_reducible apply C_al | with_reducible apply C_sF | with_reducible apply C_sT | with_reducible apply C_nF | with_reducible apply C_nT | with_reducible apply C_x | with_reducible intro _ | fail | omega
theorem m_174_48 (v2 : Int32) (v3 : Int32) (v4 : (Nat × Nat)) (w0 : Int32) (w1 : Int32) (S : sS) (hS : kC S = c) : Cp (F_174_48 G t v2 v3 v4 w0 w1 S) c := by
  unfold F_174_48
  repeat' first | with_reducible assumption | with_reducible exact C_none | with_reducible apply m_151 | with_reducible apply m_174_74 | with_reducible apply C_some | with_reducible apply C_jif | with_reducible apply C_bif | with_reducible apply C_bind | with_reducible apply C_obind | with_reducible apply C_sif | with_reducible apply C_ssm | with_reducible apply C_i | with_reducible apply C_l | with_reducible apply C_ai | with_reducible apply C_al | with_reducible apply C_sF | with_reducible apply C_sT | with_reducible apply C_nF | with_reducible apply C_nT | with_reducible apply C_x | with_reducible intro _ | fail | omega
theorem m_174 (v1 : Int32) (v2 : Int32) (v3 : Int32) (S : sS) (hS : kC S = c) : Cp (F_174 G t v1 v2 v3 S) c := by
  unfold F_174
  repeat' first | with_reducible assumption | with_reducible exact C_none | with_reducible apply m_174_48 | with_reducible apply m_173 | with_reducible apply C_some | with_reducible apply C_jif | with_reducible apply C_bif | with_reducible apply C_bind | with_reducible apply C_obind | with_reducible apply C_sif | with_reducible apply C_ssm | with_reducible apply C_i | with_reducible apply C_l | with_reducible apply C_ai | with_reducible apply C_al | with_reducible apply C_sF | with_reducible apply C_sT | with_reducible apply C_nF | with_reducible apply C_nT | with_reducible apply C_x | with_reducible intro _ | fail | omega
theorem m_175_81 (k5 : Int32 → Int32 → Int32 → Int32 → sS → Option (Int32 × sS)) (v1 : Int32) (v2 : Int32) (v3 : Int32) (v4 : Int32) (S : sS) (hk0 : ∀ x0 x1 x2 x3 S, kC S = c → Cp (k5 x0 x1 x2 x3 S) c) (hS : kC S = c) : Cp (F_175_81 G t k5 v1 v2 v3 v4 S) c := by
  unfold F_175_81
  repeat' first | with_reducible assumption | with_reducible exact C_none | with_reducible apply hk0 | with_reducible apply C_some | with_reducible apply C_jif | with_reducible apply C_bif | with_reducible apply C_bind | with_reducible apply C_obind | with_reducible apply C_sif | with_reducible apply C_ssm | with_reducible apply C_i | with_reducible apply C_l | with_reducible apply C_ai | with_reducible apply C_al | with_reducible apply C_sF | with_reducible apply C_sT | with_reducible apply C_nF | with_reducible apply C_nT | with_reducible apply C_x | with_reducible intro _ | fail | omega
theorem m_175_78 (k5 : Int32 → Int32 → Int32 → Int32 → sS → Option (Int32 × sS)) (v1 : Int32) (v2 : Int32) (v4 : Int32) (S : sS) (hk0 : ∀ x0 x1 x2 x3 S, kC S = c → Cp (k5 x0 x1 x2 x3 S) c) (hS : kC S = c) : Cp (F_175_78 G t k5 v1 v2 v4 S) c := by
  unfold F_175_78
  repeat' first | with_reducible assumption | with_reducible exact C_none | with_reducible apply hk0 | with_reducible apply m_175_81 | with_reducible apply C_some | with_reducible apply C_jif | with_reducible apply C_bif | with_reducible apply C_bind | with_reducible apply C_obind | with_reducible apply C_sif | with_reducible apply C_ssm | with_reducible apply C_i | with_reducible apply C_l | with_reducible apply C_ai | with_reducible apply C_al | with_reducible apply C_sF | with_reducible apply C_sT | with_reducible apply C_nF | with_reducible apply C_nT | with_reducible apply C_x | with_reducible intro _ | fail | omega
set_option maxHeartbeats 4000000 in
set_option linter.unusedSimpArgs false in
theorem m_175_5  : ∀ tt u0 u1 u2 u3 S, kC S = c → Cp (F_175_5 G t  tt u0 u1 u2 u3 S) c := by
  intro tt
  induction tt with
  | zero => intros; exact C_none
  | succ tt ih =>
    intro u0 u1 u2 u3 S hS
    rw [F_175_5]
    try dsimp only
    repeat' first | with_reducible assumption | with_reducible exact C_none | with_reducible apply ih | with_reducible apply m_175_81 | with_reducible apply m_174 | with_reducible apply m_175_78 | with_reducible apply C_some | with_reducible apply C_jif | with_reducible apply C_bif | with_reducible apply C_bind | with_reducible apply C_obind | with_reducible apply C_sif | with_reducible apply C_ssm | with_reducible apply C_i | with_reducible apply C_l | with_reducible apply C_ai | with_reducible apply C_al | with_reducible apply C_sF | with_reducible apply C_sT | with_reducible apply C_nF | with_reducible apply C_nT | with_reducible apply C_x | with_reducible intro _ | fail | omega
theorem m_175 (v1 : Int32) (v2 : Int32) (S : sS) (hS : kC S = c) : Cp (F_175 G t v1 v2 S) c := by
  unfold F_175
  repeat' first | with_reducible assumption | with_reducible exact C_none | with_reducible apply m_175_5 | with_reducible apply C_some | with_reducible apply C_jif | with_reducible apply C_bif | with_reducible apply C_bind | with_reducible apply C_obind | with_reducible apply C_sif | with_reducible apply C_ssm | with_reducible apply C_i | with_reducible apply C_l | with_reducible apply C_ai | with_reducible apply C_al | with_reducible apply C_sF | with_reducible apply C_sT | with_reducible apply C_nF | with_reducible apply C_nT | with_reducible apply C_x | with_reducible intro _ | fail | omega
theorem m_176_40 (S : sS) (hS : kC S = c) : Cp (F_176_40 G t S) c := by
  unfold F_176_40
  repeat' first | with_reducible assumption | with_reducible exact C_none | with_reducible apply C_some | with_reducible apply C_jif | with_reducible apply C_bif | with_reducible apply C_bind | with_reducible apply C_obind | with_reducible apply C_sif | with_reducible apply C_ssm | with_reducible apply C_i | with_reducible apply C_l | with_reducible apply C_ai | with_reducible apply C_al | with_reducible apply C_sF | with_reducible apply C_sT | with_reducible apply C_nF | with_reducible apply C_nT | with_reducible apply C_x | with_reducible intro _ | fail | omega
theorem m_176_64 (S : sS) (hS : kC S = c) : Cp (F_176_64 G t S) c := by
  unfold F_176_64
  repeat' first | with_reducible assumption | with_reducible exact C_none | with_reducible apply C_some | with_reducible apply C_jif | with_reducible apply C_bif | with_reducible apply C_bind | with_reducible apply C_obind | with_reducible apply C_sif | with_reducible apply C_ssm | with_reducible apply C_i | with_reducible apply C_l | with_reducible apply C_ai | with_reducible apply C_al | with_reducible apply C_sF | with_reducible apply C_sT | with_reducible apply C_nF | with_reducible apply C_nT | with_reducible apply C_x | with_reducible intro _ | fail | omega
theorem m_176 (v1 : Int32) (v2 : Int32) (S : sS) (hS : kC S = c) : Cp (F_176 G t v1 v2 S) c := by
  unfold F_176
  repeat' first | with_reducible assumption | with_reducible exact C_none | with_reducible apply m_176_64 | with_reducible apply m_175 | with_reducible apply m_176_40 | with_reducible apply C_some | with_reducible apply C_jif | with_reducible apply C_bif | with_reducible apply C_bind | with_reducible apply C_obind | with_reducible apply C_sif | with_reducible apply C_ssm | with_reducible apply C_i | with_reducible apply C_l | with_reducible apply C_ai | with_reducible apply C_al | with_reducible apply C_sF | with_reducible apply C_sT | with_reducible apply C_nF | with_reducible apply C_nT | with_reducible apply C_x | with_reducible intro _ | fail | omega
theorem m_177 (v1 : (Nat × Nat)) (v2 : Int32) (S : sS) (hS : kC S = c) : Cp (F_177 G t v1 v2 S) c := by
  unfold F_177
  repeat' first | with_reducible assumption | with_reducible exact C_none | with_reducible apply C_some | with_reducible apply C_jif | with_reducible apply C_bif | with_reducible apply C_bind | with_reducible apply C_obind | with_reducible apply C_sif | with_reducible apply C_ssm | with_reducible apply C_i | with_reducible apply C_l | with_reducible apply C_ai | with_reducible apply C_al | with_reducible apply C_sF | with_reducible apply C_sT | with_reducible apply C_nF | with_reducible apply C_nT | with_reducible apply C_x | with_reducible intro _ | fail | omega
theorem m_178_51 (k18 : Int32 → Int32 → Int32 → sS → Option (Unit × sS)) (v1 : Int32) (v2 : Int32) (v3 : Int32) (S : sS) (hk0 : ∀ x0 x1 x2 S, kC S = c → Cp (k18 x0 x1 x2 S) c) (hS : kC S = c) : Cp (F_178_51 G t k18 v1 v2 v3 S) c := by
  unfold F_178_51
  repeat' first | with_reducible assumption | with_reducible exact C_none | with_reducible apply hk0 | with_reducible apply C_some | with_reducible apply C_jif | with_reducible apply C_bif | with_reducible apply C_bind | with_reducible apply C_obind | with_reducible apply C_sif | with_reducible apply C_ssm | with_reducible apply C_i | with_reducible apply C_l | with_reducible apply C_ai | with_reducible apply C_al | with_reducible apply C_sF | with_reducible apply C_sT | with_reducible apply C_nF | with_reducible apply C_nT | with_reducible apply C_x | with_reducible intro _ | fail | omega
set_option maxHeartbeats 4000000 in
set_option linter.unusedSimpArgs false in
theorem m_178_18  : ∀ tt u0 u1 u2 S, kC S = c → Cp (F_178_18 G t  tt u0 u1 u2 S) c := by
  intro tt
  induction tt with
  | zero => intros; exact C_none
  | succ tt ih =>
    intro u0 u1 u2 S hS
    rw [F_178_18]
    try dsimp only
    repeat' first | with_reducible assumption | with_reducible exact C_none | with_reducible apply ih | with_reducible apply m_178_51 | with_reducible apply C_some | with_reducible apply C_jif | with_reducible apply C_bif | with_reducible apply C_bind | with_reducible apply C_obind | with_reducible apply C_sif | with_reducible apply C_ssm | with_reducible apply C_i | with_reducible apply C_l | with_reducible apply C_ai | with_reducible apply C_al | with_reducible apply C_sF | with_reducible apply C_sT | with_reducible apply C_nF | with_reducible apply C_nT | with_reducible apply C_x | with_reducible intro _ | fail | omega
theorem m_178 (v1 : Int32) (S : sS) (hS : kC S = c) : Cp (F_178 G t v1 S) c := by
  unfold F_178
  repeat' first | with_reducible assumption | with_reducible exact C_none | with_reducible apply m_178_18 | with_reducible apply C_some | with_reducible apply C_jif | with_reducible apply C_bif | with_reducible apply C_bind | with_reducible apply C_obind | with_reducible apply C_sif | with_reducible apply C_ssm | with_reducible apply C_i | with_reducible apply C_l | with_reducible apply C_ai | with_reducible apply C_al | with_reducible apply C_sF | with_reducible apply C_sT | with_reducible apply C_nF | with_reducible apply C_nT | with_reducible apply C_x | with_reducible intro _ | fail | omega
theorem m_179_183 (v1 : Int32) (S : sS) (hS : kC S = c) : Cp (F_179_183 G t v1 S) c := by
  unfold F_179_183
  repeat' first | with_reducible assumption | with_reducible exact C_none | with_reducible apply m_178 | with_reducible apply C_some | with_reducible apply C_jif | with_reducible apply C_bif | with_reducible apply C_bind | with_reducible apply C_obind | with_reducible apply C_sif | with_reducible apply C_ssm | with_reducible apply C_i | with_reducible apply C_l | with_reducible apply C_ai | with_reducible apply C_al | with_reducible apply C_sF | with_reducible apply C_sT | with_reducible apply C_nF | with_reducible apply C_nT | with_reducible apply C_x | with_reducible intro _ | fail | omega
theorem m_179_125 (v1 : Int32) (S : sS) (hS : kC S = c) : Cp (F_179_125 G t v1 S) c := by
  unfold F_179_125
  repeat' first | with_reducible assumption | with_reducible exact C_none | with_reducible apply m_179_183 | with_reducible apply C_some | with_reducible apply C_jif | with_reducible apply C_bif | with_reducible apply C_bind | with_reducible apply C_obind | with_reducible apply C_sif | with_reducible apply C_ssm | with_reducible apply C_i | with_reducible apply C_l | with_reducible apply C_ai | with_reducible apply C_al | with_reducible apply C_sF | with_reducible apply C_sT | with_reducible apply C_nF | with_reducible apply C_nT | with_reducible apply C_x | with_reducible intro _ | fail | omega
theorem m_179_108 (v1 : Int32) (v8 : (Nat × Nat)) (v11 : Int32) (w0 : Int64) (w1 : Int32) (w2 : (Nat × Nat)) (S : sS) (hS : kC S = c) : Cp (F_179_108 G t v1 v8 v11 w0 w1 w2 S) c := by
  unfold F_179_108
  repeat' first | with_reducible assumption | with_reducible exact C_none | with_reducible apply m_157 | with_reducible apply m_179_125 | with_reducible apply C_some | with_reducible apply C_jif | with_reducible apply C_bif | with_reducible apply C_bind | with_reducible apply C_obind | with_reducible apply C_sif | with_reducible apply C_ssm | with_reducible apply C_i | with_reducible apply C_l | with_reducible apply C_ai | with_reducible apply C_al | with_reducible apply C_sF | with_reducible apply C_sT | with_reducible apply C_nF | with_reducible apply C_nT | with_reducible apply C_x | with_reducible intro _ | fail | omega
theorem m_179_98 (v1 : Int32) (v3 : Int32) (v5 : Int64) (v8 : (Nat × Nat)) (v11 : Int32) (w0 : Int32) (w1 : (Nat × Nat)) (S : sS) (hS : kC S = c) : Cp (F_179_98 G t v1 v3 v5 v8 v11 w0 w1 S) c := by
  unfold F_179_98
  repeat' first | with_reducible assumption | with_reducible exact C_none | with_reducible apply m_179_108 | with_reducible apply C_some | with_reducible apply C_jif | with_reducible apply C_bif | with_reducible apply C_bind | with_reducible apply C_obind | with_reducible apply C_sif | with_reducible apply C_ssm | with_reducible apply C_i | with_reducible apply C_l | with_reducible apply C_ai | with_reducible apply C_al | with_reducible apply C_sF | with_reducible apply C_sT | with_reducible apply C_nF | with_reducible apply C_nT | with_reducible apply C_x | with_reducible intro _ | fail | omega
theorem m_179 (v1 : Int32) (v2 : Int32) (v3 : Int32) (v4 : Int32) (v5 : Int64) (v7 : Int32) (S : sS) (hS : kC S = c) : Cp (F_179 G t v1 v2 v3 v4 v5 v7 S) c := by
  unfold F_179
  repeat' first | with_reducible assumption | with_reducible exact C_none | with_reducible apply m_151 | with_reducible apply m_163 | with_reducible apply m_179_183 | with_reducible apply m_157 | with_reducible apply m_173 | with_reducible apply m_179_98 | with_reducible apply C_some | with_reducible apply C_jif | with_reducible apply C_bif | with_reducible apply C_bind | with_reducible apply C_obind | with_reducible apply C_sif | with_reducible apply C_ssm | with_reducible apply C_i | with_reducible apply C_l | with_reducible apply C_ai | with_reducible apply C_al | with_reducible apply C_sF | with_reducible apply C_sT | with_reducible apply C_nF | with_reducible apply C_nT | with_reducible apply C_x | with_reducible intro _ | fail | omega
theorem m_180 (v1 : Int32) (v2 : Int32) (v3 : Int64) (S : sS) (hS : kC S = c) : Cp (F_180 G t v1 v2 v3 S) c := by
  unfold F_180
  repeat' first | with_reducible assumption | with_reducible exact C_none | with_reducible apply m_175 | with_reducible apply m_179 | with_reducible apply C_some | with_reducible apply C_jif | with_reducible apply C_bif | with_reducible apply C_bind | with_reducible apply C_obind | with_reducible apply C_sif | with_reducible apply C_ssm | with_reducible apply C_i | with_reducible apply C_l | with_reducible apply C_ai | with_reducible apply C_al | with_reducible apply C_sF | with_reducible apply C_sT | with_reducible apply C_nF | with_reducible apply C_nT | with_reducible apply C_x | with_reducible intro _ | fail | omega
theorem m_181_81 (v1 : (Nat × Nat)) (S : sS) (hS : kC S = c) : Cp (F_181_81 G t v1 S) c := by
  unfold F_181_81
  repeat' first | with_reducible assumption | with_reducible exact C_none | with_reducible apply m_177 | with_reducible apply C_some | with_reducible apply C_jif | with_reducible apply C_bif | with_reducible apply C_bind | with_reducible apply C_obind | with_reducible apply C_sif | with_reducible apply C_ssm | with_reducible apply C_i | with_reducible apply C_l | with_reducible apply C_ai | with_reducible apply C_al | with_reducible apply C_sF | with_reducible apply C_sT | with_reducible apply C_nF | with_reducible apply C_nT | with_reducible apply C_x | with_reducible intro _ | fail | omega
theorem m_181_66 (v1 : (Nat × Nat)) (v3 : Int32) (v4 : Int32) (S : sS) (hS : kC S = c) : Cp (F_181_66 G t v1 v3 v4 S) c := by
  unfold F_181_66
  repeat' first | with_reducible assumption | with_reducible exact C_none | with_reducible apply m_181_81 | with_reducible apply m_176 | with_reducible apply m_156 | with_reducible apply m_180 | with_reducible apply m_155 | with_reducible apply C_some | with_reducible apply C_jif | with_reducible apply C_bif | with_reducible apply C_bind | with_reducible apply C_obind | with_reducible apply C_sif | with_reducible apply C_ssm | with_reducible apply C_i | with_reducible apply C_l | with_reducible apply C_ai | with_reducible apply C_al | with_reducible apply C_sF | with_reducible apply C_sT | with_reducible apply C_nF | with_reducible apply C_nT | with_reducible apply C_x | with_reducible intro _ | fail | omega
theorem m_181 (v1 : (Nat × Nat)) (S : sS) (hS : kC S = c) : Cp (F_181 G t v1 S) c := by
  unfold F_181
  repeat' first | with_reducible assumption | with_reducible exact C_none | with_reducible apply m_151 | with_reducible apply m_181_66 | with_reducible apply m_170 | with_reducible apply m_156 | with_reducible apply m_155 | with_reducible apply C_some | with_reducible apply C_jif | with_reducible apply C_bif | with_reducible apply C_bind | with_reducible apply C_obind | with_reducible apply C_sif | with_reducible apply C_ssm | with_reducible apply C_i | with_reducible apply C_l | with_reducible apply C_ai | with_reducible apply C_al | with_reducible apply C_sF | with_reducible apply C_sT | with_reducible apply C_nF | with_reducible apply C_nT | with_reducible apply C_x | with_reducible intro _ | fail | omega
theorem m_182 (v1 : Int32) (v2 : Int32) (S : sS) (hS : kC S = c) : Cp (F_182 G t v1 v2 S) c := by
  unfold F_182
  repeat' first | with_reducible assumption | with_reducible exact C_none | with_reducible apply m_151 | with_reducible apply m_173 | with_reducible apply C_some | with_reducible apply C_jif | with_reducible apply C_bif | with_reducible apply C_bind | with_reducible apply C_obind | with_reducible apply C_sif | with_reducible apply C_ssm | with_reducible apply C_i | with_reducible apply C_l | with_reducible apply C_ai | with_reducible apply C_al | with_reducible apply C_sF | with_reducible apply C_sT | with_reducible apply C_nF | with_reducible apply C_nT | with_reducible apply C_x | with_reducible intro _ | fail | omega
set_option maxHeartbeats 4000000 in
set_option linter.unusedSimpArgs false in
theorem m_183_59  : ∀ tt u0 u1 u2 u3 S, kC S = c → Cp (F_183_59 G t  tt u0 u1 u2 u3 S) c := by
  intro tt
  induction tt with
  | zero => intros; exact C_none
  | succ tt ih =>
    intro u0 u1 u2 u3 S hS
    rw [F_183_59]
    try dsimp only
    repeat' first | with_reducible assumption | with_reducible exact C_none | with_reducible apply ih | with_reducible apply m_182 | with_reducible apply m_179 | with_reducible apply C_some | with_reducible apply C_jif | with_reducible apply C_bif | with_reducible apply C_bind | with_reducible apply C_obind | with_reducible apply C_sif | with_reducible apply C_ssm | with_reducible apply C_i | with_reducible apply C_l | with_reducible apply C_ai | with_reducible apply C_al | with_reducible apply C_sF | with_reducible apply C_sT | with_reducible apply C_nF | with_reducible apply C_nT | with_reducible apply C_x | with_reducible intro _ | fail | omega
theorem m_183 (v1 : Int32) (S : sS) (hS : kC S = c) : Cp (F_183 G t v1 S) c := by
  unfold F_183
  repeat' first | with_reducible assumption | with_reducible exact C_none | with_reducible apply m_175 | with_reducible apply m_182 | with_reducible apply m_179 | with_reducible apply m_183_59 | with_reducible apply C_some | with_reducible apply C_jif | with_reducible apply C_bif | with_reducible apply C_bind | with_reducible apply C_obind | with_reducible apply C_sif | with_reducible apply C_ssm | with_reducible apply C_i | with_reducible apply C_l | with_reducible apply C_ai | with_reducible apply C_al | with_reducible apply C_sF | with_reducible apply C_sT | with_reducible apply C_nF | with_reducible apply C_nT | with_reducible apply C_x | with_reducible intro _ | fail | omega
theorem m_184_81 (v1 : (Nat × Nat)) (S : sS) (hS : kC S = c) : Cp (F_184_81 G t v1 S) c := by
  unfold F_184_81
  repeat' first | with_reducible assumption | with_reducible exact C_none | with_reducible apply m_177 | with_reducible apply C_some | with_reducible apply C_jif | with_reducible apply C_bif | with_reducible apply C_bind | with_reducible apply C_obind | with_reducible apply C_sif | with_reducible apply C_ssm | with_reducible apply C_i | with_reducible apply C_l | with_reducible apply C_ai | with_reducible apply C_al | with_reducible apply C_sF | with_reducible apply C_sT | with_reducible apply C_nF | with_reducible apply C_nT | with_reducible apply C_x | with_reducible intro _ | fail | omega
theorem m_184_66 (v1 : (Nat × Nat)) (v3 : Int32) (v4 : Int32) (S : sS) (hS : kC S = c) : Cp (F_184_66 G t v1 v3 v4 S) c := by
  unfold F_184_66
  repeat' first | with_reducible assumption | with_reducible exact C_none | with_reducible apply m_184_81 | with_reducible apply m_176 | with_reducible apply m_156 | with_reducible apply m_183 | with_reducible apply m_157 | with_reducible apply C_some | with_reducible apply C_jif | with_reducible apply C_bif | with_reducible apply C_bind | with_reducible apply C_obind | with_reducible apply C_sif | with_reducible apply C_ssm | with_reducible apply C_i | with_reducible apply C_l | with_reducible apply C_ai | with_reducible apply C_al | with_reducible apply C_sF | with_reducible apply C_sT | with_reducible apply C_nF | with_reducible apply C_nT | with_reducible apply C_x | with_reducible intro _ | fail | omega
theorem m_184 (v1 : (Nat × Nat)) (S : sS) (hS : kC S = c) : Cp (F_184 G t v1 S) c := by
  unfold F_184
  repeat' first | with_reducible assumption | with_reducible exact C_none | with_reducible apply m_151 | with_reducible apply m_184_66 | with_reducible apply m_170 | with_reducible apply m_156 | with_reducible apply m_155 | with_reducible apply C_some | with_reducible apply C_jif | with_reducible apply C_bif | with_reducible apply C_bind | with_reducible apply C_obind | with_reducible apply C_sif | with_reducible apply C_ssm | with_reducible apply C_i | with_reducible apply C_l | with_reducible apply C_ai | with_reducible apply C_al | with_reducible apply C_sF | with_reducible apply C_sT | with_reducible apply C_nF | with_reducible apply C_nT | with_reducible apply C_x | with_reducible intro _ | fail | omega
theorem m_185_189 (k94 : Int32 → sS → Option (Unit × sS)) (k99 : Int32 → Int32 → Int32 → sS → Option (Unit × sS)) (v2 : Int32) (v3 : Int32) (v4 : Int32) (S : sS) (hk0 : ∀ x0 S, kC S = c → Cp (k94 x0 S) c) (hk1 : ∀ x0 x1 x2 S, kC S = c → Cp (k99 x0 x1 x2 S) c) (hS : kC S = c) : Cp (F_185_189 G t k94 k99 v2 v3 v4 S) c := by
  unfold F_185_189
  repeat' first | with_reducible assumption | with_reducible exact C_none | with_reducible apply hk0 | with_reducible apply hk1 | with_reducible apply C_some | with_reducible apply C_jif | with_reducible apply C_bif | with_reducible apply C_bind | with_reducible apply C_obind | with_reducible apply C_sif | with_reducible apply C_ssm | with_reducible apply C_i | with_reducible apply C_l | with_reducible apply C_ai | with_reducible apply C_al | with_reducible apply C_sF | with_reducible apply C_sT | with_reducible apply C_nF | with_reducible apply C_nT | with_reducible apply C_x | with_reducible intro _ | fail | omega
theorem m_185_186 (k94 : Int32 → sS → Option (Unit × sS)) (k99 : Int32 → Int32 → Int32 → sS → Option (Unit × sS)) (v2 : Int32) (v4 : Int32) (S : sS) (hk0 : ∀ x0 S, kC S = c → Cp (k94 x0 S) c) (hk1 : ∀ x0 x1 x2 S, kC S = c → Cp (k99 x0 x1 x2 S) c) (hS : kC S = c) : Cp (F_185_186 G t k94 k99 v2 v4 S) c := by
  unfold F_185_186
  repeat' first | with_reducible assumption | with_reducible exact C_none | with_reducible apply hk0 | with_reducible apply hk1 | with_reducible apply m_185_189 | with_reducible apply C_some | with_reducible apply C_jif | with_reducible apply C_bif | with_reducible apply C_bind | with_reducible apply C_obind | with_reducible apply C_sif | with_reducible apply C_ssm | with_reducible apply C_i | with_reducible apply C_l | with_reducible apply C_ai | with_reducible apply C_al | with_reducible apply C_sF | with_reducible apply C_sT | with_reducible apply C_nF | with_reducible apply C_nT | with_reducible apply C_x | with_reducible intro _ | fail | omega
theorem m_185_159 (k94 : Int32 → sS → Option (Unit × sS)) (k99 : Int32 → Int32 → Int32 → sS → Option (Unit × sS)) (v2 : Int32) (v3 : Int32) (v4 : Int32) (S : sS) (hk0 : ∀ x0 S, kC S = c → Cp (k94 x0 S) c) (hk1 : ∀ x0 x1 x2 S, kC S = c → Cp (k99 x0 x1 x2 S) c) (hS : kC S = c) : Cp (F_185_159 G t k94 k99 v2 v3 v4 S) c := by
  unfold F_185_159
  repeat' first | with_reducible assumption | with_reducible exact C_none | with_reducible apply hk0 | with_reducible apply hk1 | with_reducible apply m_185_186 | with_reducible apply m_185_189 | with_reducible apply C_some | with_reducible apply C_jif | with_reducible apply C_bif | with_reducible apply C_bind | with_reducible apply C_obind | with_reducible apply C_sif | with_reducible apply C_ssm | with_reducible apply C_i | with_reducible apply C_l | with_reducible apply C_ai | with_reducible apply C_al | with_reducible apply C_sF | with_reducible apply C_sT | with_reducible apply C_nF | with_reducible apply C_nT | with_reducible apply C_x | with_reducible intro _ | fail | omega
theorem m_185_347 (k94 : Int32 → sS → Option (Unit × sS)) (v2 : Int32) (v3 : Int32) (v4 : (Nat × Nat)) (w0 : Int32) (w1 : Int32) (w2 : (Nat × Nat)) (S : sS) (hk0 : ∀ x0 S, kC S = c → Cp (k94 x0 S) c) (hS : kC S = c) : Cp (F_185_347 G t k94 v2 v3 v4 w0 w1 w2 S) c := by
  unfold F_185_347
  repeat' first | with_reducible assumption | with_reducible exact C_none | with_reducible apply hk0 | with_reducible apply m_163 | with_reducible apply m_155 | with_reducible apply m_178 | with_reducible apply C_some | with_reducible apply C_jif | with_reducible apply C_bif | with_reducible apply C_bind | with_reducible apply C_obind | with_reducible apply C_sif | with_reducible apply C_ssm | with_reducible apply C_i | with_reducible apply C_l | with_reducible apply C_ai | with_reducible apply C_al | with_reducible apply C_sF | with_reducible apply C_sT | with_reducible apply C_nF | with_reducible apply C_nT | with_reducible apply C_x | with_reducible intro _ | fail | omega
theorem m_185_275 (k94 : Int32 → sS → Option (Unit × sS)) (v2 : Int32) (v3 : Int32) (v4 : (Nat × Nat)) (v5 : Int32) (S : sS) (hk0 : ∀ x0 S, kC S = c → Cp (k94 x0 S) c) (hS : kC S = c) : Cp (F_185_275 G t k94 v2 v3 v4 v5 S) c := by
  unfold F_185_275
  repeat' first | with_reducible assumption | with_reducible exact C_none | with_reducible apply hk0 | with_reducible apply m_151 | with_reducible apply m_185_347 | with_reducible apply m_179 | with_reducible apply C_some | with_reducible apply C_jif | with_reducible apply C_bif | with_reducible apply C_bind | with_reducible apply C_obind | with_reducible apply C_sif | with_reducible apply C_ssm | with_reducible apply C_i | with_reducible apply C_l | with_reducible apply C_ai | with_reducible apply C_al | with_reducible apply C_sF | with_reducible apply C_sT | with_reducible apply C_nF | with_reducible apply C_nT | with_reducible apply C_x | with_reducible intro _ | fail | omega
theorem m_185_273 (k94 : Int32 → sS → Option (Unit × sS)) (v2 : Int32) (v3 : Int32) (v4 : (Nat × Nat)) (w0 : Int32) (S : sS) (hk0 : ∀ x0 S, kC S = c → Cp (k94 x0 S) c) (hS : kC S = c) : Cp (F_185_273 G t k94 v2 v3 v4 w0 S) c := by
  unfold F_185_273
  repeat' first | with_reducible assumption | with_reducible exact C_none | with_reducible apply hk0 | with_reducible apply m_185_275 | with_reducible apply C_some | with_reducible apply C_jif | with_reducible apply C_bif | with_reducible apply C_bind | with_reducible apply C_obind | with_reducible apply C_sif | with_reducible apply C_ssm | with_reducible apply C_i | with_reducible apply C_l | with_reducible apply C_ai | with_reducible apply C_al | with_reducible apply C_sF | with_reducible apply C_sT | with_reducible apply C_nF | with_reducible apply C_nT | with_reducible apply C_x | with_reducible intro _ | fail | omega
theorem m_185_223 (k94 : Int32 → sS → Option (Unit × sS)) (v2 : Int32) (v3 : Int32) (v4 : (Nat × Nat)) (w0 : Int32) (S : sS) (hk0 : ∀ x0 S, kC S = c → Cp (k94 x0 S) c) (hS : kC S = c) : Cp (F_185_223 G t k94 v2 v3 v4 w0 S) c := by
  unfold F_185_223
  repeat' first | with_reducible assumption | with_reducible exact C_none | with_reducible apply hk0 | with_reducible apply m_185_275 | with_reducible apply m_174 | with_reducible apply m_173 | with_reducible apply m_185_273 | with_reducible apply C_some | with_reducible apply C_jif | with_reducible apply C_bif | with_reducible apply C_bind | with_reducible apply C_obind | with_reducible apply C_sif | with_reducible apply C_ssm | with_reducible apply C_i | with_reducible apply C_l | with_reducible apply C_ai | with_reducible apply C_al | with_reducible apply C_sF | with_reducible apply C_sT | with_reducible apply C_nF | with_reducible apply C_nT | with_reducible apply C_x | with_reducible intro _ | fail | omega
set_option maxHeartbeats 4000000 in
set_option linter.unusedSimpArgs false in
theorem m_185_99 (k94 : Int32 → sS → Option (Unit × sS)) (hk0 : ∀ x0 S, kC S = c → Cp (k94 x0 S) c) : ∀ tt u0 u1 u2 S, kC S = c → Cp (F_185_99 G t k94 tt u0 u1 u2 S) c := by
  intro tt
  induction tt with
  | zero => intros; exact C_none
  | succ tt ih =>
    intro u0 u1 u2 S hS
    rw [F_185_99]
    try dsimp only
    repeat' first | with_reducible assumption | with_reducible exact C_none | with_reducible apply ih | with_reducible apply hk0 | with_reducible apply m_174 | with_reducible apply m_185_223 | with_reducible apply m_185_189 | with_reducible apply m_185_159 | with_reducible apply C_some | with_reducible apply C_jif | with_reducible apply C_bif | with_reducible apply C_bind | with_reducible apply C_obind | with_reducible apply C_sif | with_reducible apply C_ssm | with_reducible apply C_i | with_reducible apply C_l | with_reducible apply C_ai | with_reducible apply C_al | with_reducible apply C_sF | with_reducible apply C_sT | with_reducible apply C_nF | with_reducible apply C_nT | with_reducible apply C_x | with_reducible intro _ | fail | omega
set_option maxHeartbeats 4000000 in
set_option linter.unusedSimpArgs false in
theorem m_185_94  : ∀ tt u0 S, kC S = c → Cp (F_185_94 G t  tt u0 S) c := by
  intro tt
  induction tt with
  | zero => intros; exact C_none
  | succ tt ih =>
    intro u0 S hS
    rw [F_185_94]
    try dsimp only
    repeat' first | with_reducible assumption | with_reducible exact C_none | with_reducible apply ih | with_reducible apply m_185_99 | with_reducible apply C_some | with_reducible apply C_jif | with_reducible apply C_bif | with_reducible apply C_bind | with_reducible apply C_obind | with_reducible apply C_sif | with_reducible apply C_ssm | with_reducible apply C_i | with_reducible apply C_l | with_reducible apply C_ai | with_reducible apply C_al | with_reducible apply C_sF | with_reducible apply C_sT | with_reducible apply C_nF | with_reducible apply C_nT | with_reducible apply C_x | with_reducible intro _ | fail | omega
theorem m_185 (v1 : (Nat × Nat)) (S : sS) (hS : kC S = c) : Cp (F_185 G t v1 S) c := by
  unfold F_185
  repeat' first | with_reducible assumption | with_reducible exact C_none | with_reducible apply m_156 | with_reducible apply m_170 | with_reducible apply m_158 | with_reducible apply m_185_94 | with_reducible apply m_155 | with_reducible apply C_some | with_reducible apply C_jif | with_reducible apply C_bif | with_reducible apply C_bind | with_reducible apply C_obind | with_reducible apply C_sif | with_reducible apply C_ssm | with_reducible apply C_i | with_reducible apply C_l | with_reducible apply C_ai | with_reducible apply C_al | with_reducible apply C_sF | with_reducible apply C_sT | with_reducible apply C_nF | with_reducible apply C_nT | with_reducible apply C_x | with_reducible intro _ | fail | omega
theorem m_186_89 (v1 : (Nat × Nat)) (v3 : Int32) (S : sS) (hS : kC S = c) : Cp (F_186_89 G t v1 v3 S) c := by
  unfold F_186_89
  repeat' first | with_reducible assumption | with_reducible exact C_none | with_reducible apply m_156 | with_reducible apply m_155 | with_reducible apply C_some | with_reducible apply C_jif | with_reducible apply C_bif | with_reducible apply C_bind | with_reducible apply C_obind | with_reducible apply C_sif | with_reducible apply C_ssm | with_reducible apply C_i | with_reducible apply C_l | with_reducible apply C_ai | with_reducible apply C_al | with_reducible apply C_sF | with_reducible apply C_sT | with_reducible apply C_nF | with_reducible apply C_nT | with_reducible apply C_x | with_reducible intro _ | fail | omega
theorem m_186_76 (k25 : (Nat × Nat) → Int32 → Int32 → (Nat × Nat) → Int32 → Int32 → sS → Option (Unit × sS)) (v1 : (Nat × Nat)) (v2 : Int32) (v3 : Int32) (v4 : (Nat × Nat)) (v5 : Int32) (v6 : Int32) (v7 : Int32) (S : sS) (hk0 : ∀ x0 x1 x2 x3 x4 x5 S, kC S = c → Cp (k25 x0 x1 x2 x3 x4 x5 S) c) (hS : kC S = c) : Cp (F_186_76 G t k25 v1 v2 v3 v4 v5 v6 v7 S) c := by
  unfold F_186_76
  repeat' first | with_reducible assumption | with_reducible exact C_none | with_reducible apply hk0 | with_reducible apply m_186_89 | with_reducible apply C_some | with_reducible apply C_jif | with_reducible apply C_bif | with_reducible apply C_bind | with_reducible apply C_obind | with_reducible apply C_sif | with_reducible apply C_ssm | with_reducible apply C_i | with_reducible apply C_l | with_reducible apply C_ai | with_reducible apply C_al | with_reducible apply C_sF | with_reducible apply C_sT | with_reducible apply C_nF | with_reducible apply C_nT | with_reducible apply C_x | with_reducible intro _ | fail | omega
theorem m_186_284 (v1 : (Nat × Nat)) (v6 : Int32) (S : sS) (hS : kC S = c) : Cp (F_186_284 G t v1 v6 S) c := by
  unfold F_186_284
  repeat' first | with_reducible assumption | with_reducible exact C_none | with_reducible apply m_157 | with_reducible apply C_some | with_reducible apply C_jif | with_reducible apply C_bif | with_reducible apply C_bind | with_reducible apply C_obind | with_reducible apply C_sif | with_reducible apply C_ssm | with_reducible apply C_i | with_reducible apply C_l | with_reducible apply C_ai | with_reducible apply C_al | with_reducible apply C_sF | with_reducible apply C_sT | with_reducible apply C_nF | with_reducible apply C_nT | with_reducible apply C_x | with_reducible intro _ | fail | omega
theorem m_186_250 (v1 : (Nat × Nat)) (v6 : Int32) (v8 : Int32) (v9 : Int32) (v10 : Int64) (v12 : Int32) (S : sS) (hS : kC S = c) : Cp (F_186_250 G t v1 v6 v8 v9 v10 v12 S) c := by
  unfold F_186_250
  repeat' first | with_reducible assumption | with_reducible exact C_none | with_reducible apply m_183 | with_reducible apply m_186_284 | with_reducible apply m_180 | with_reducible apply C_some | with_reducible apply C_jif | with_reducible apply C_bif | with_reducible apply C_bind | with_reducible apply C_obind | with_reducible apply C_sif | with_reducible apply C_ssm | with_reducible apply C_i | with_reducible apply C_l | with_reducible apply C_ai | with_reducible apply C_al | with_reducible apply C_sF | with_reducible apply C_sT | with_reducible apply C_nF | with_reducible apply C_nT | with_reducible apply C_x | with_reducible intro _ | fail | omega
theorem m_186_311 (k116 : (Nat × Nat) → Int32 → Int32 → (Nat × Nat) → Int32 → Int32 → sS → Option (Unit × sS)) (v1 : (Nat × Nat)) (v2 : Int32) (v3 : Int32) (v4 : (Nat × Nat)) (v5 : Int32) (v6 : Int32) (S : sS) (hk0 : ∀ x0 x1 x2 x3 x4 x5 S, kC S = c → Cp (k116 x0 x1 x2 x3 x4 x5 S) c) (hS : kC S = c) : Cp (F_186_311 G t k116 v1 v2 v3 v4 v5 v6 S) c := by
  unfold F_186_311
  repeat' first | with_reducible assumption | with_reducible exact C_none | with_reducible apply hk0 | with_reducible apply C_some | with_reducible apply C_jif | with_reducible apply C_bif | with_reducible apply C_bind | with_reducible apply C_obind | with_reducible apply C_sif | with_reducible apply C_ssm | with_reducible apply C_i | with_reducible apply C_l | with_reducible apply C_ai | with_reducible apply C_al | with_reducible apply C_sF | with_reducible apply C_sT | with_reducible apply C_nF | with_reducible apply C_nT | with_reducible apply C_x | with_reducible intro _ | fail | omega
theorem m_186_186 (k116 : (Nat × Nat) → Int32 → Int32 → (Nat × Nat) → Int32 → Int32 → sS → Option (Unit × sS)) (v1 : (Nat × Nat)) (v2 : Int32) (v3 : Int32) (v4 : (Nat × Nat)) (v5 : Int32) (v6 : Int32) (v7 : Int32) (v8 : Int32) (v9 : Int32) (v10 : Int64) (w0 : Int32) (S : sS) (hk0 : ∀ x0 x1 x2 x3 x4 x5 S, kC S = c → Cp (k116 x0 x1 x2 x3 x4 x5 S) c) (hS : kC S = c) : Cp (F_186_186 G t k116 v1 v2 v3 v4 v5 v6 v7 v8 v9 v10 w0 S) c := by
  unfold F_186_186
  repeat' first | with_reducible assumption | with_reducible exact C_none | with_reducible apply hk0 | with_reducible apply m_186_311 | with_reducible apply m_176 | with_reducible apply m_156 | with_reducible apply m_186_250 | with_reducible apply m_155 | with_reducible apply C_some | with_reducible apply C_jif | with_reducible apply C_bif | with_reducible apply C_bind | with_reducible apply C_obind | with_reducible apply C_sif | with_reducible apply C_ssm | with_reducible apply C_i | with_reducible apply C_l | with_reducible apply C_ai | with_reducible apply C_al | with_reducible apply C_sF | with_reducible apply C_sT | with_reducible apply C_nF | with_reducible apply C_nT | with_reducible apply C_x | with_reducible intro _ | fail | omega
set_option maxHeartbeats 4000000 in
set_option linter.unusedSimpArgs false in
theorem m_186_116  : ∀ tt u0 u1 u2 u3 u4 u5 S, kC S = c → Cp (F_186_116 G t  tt u0 u1 u2 u3 u4 u5 S) c := by
  intro tt
  induction tt with
  | zero => intros; exact C_none
  | succ tt ih =>
    intro u0 u1 u2 u3 u4 u5 S hS
    rw [F_186_116]
    try dsimp only
    repeat' first | with_reducible assumption | with_reducible exact C_none | with_reducible apply ih | with_reducible apply m_156 | with_reducible apply m_157 | with_reducible apply m_177 | with_reducible apply m_186_186 | with_reducible apply C_some | with_reducible apply C_jif | with_reducible apply C_bif | with_reducible apply C_bind | with_reducible apply C_obind | with_reducible apply C_sif | with_reducible apply C_ssm | with_reducible apply C_i | with_reducible apply C_l | with_reducible apply C_ai | with_reducible apply C_al | with_reducible apply C_sF | with_reducible apply C_sT | with_reducible apply C_nF | with_reducible apply C_nT | with_reducible apply C_x | with_reducible intro _ | fail | omega
set_option maxHeartbeats 4000000 in
set_option linter.unusedSimpArgs false in
theorem m_186_25  : ∀ tt u0 u1 u2 u3 u4 u5 S, kC S = c → Cp (F_186_25 G t  tt u0 u1 u2 u3 u4 u5 S) c := by
  intro tt
  induction tt with
  | zero => intros; exact C_none
  | succ tt ih =>
    intro u0 u1 u2 u3 u4 u5 S hS
    rw [F_186_25]
    try dsimp only
    repeat' first | with_reducible assumption | with_reducible exact C_none | with_reducible apply ih | with_reducible apply m_186_116 | with_reducible apply m_186_76 | with_reducible apply m_170 | with_reducible apply m_186_89 | with_reducible apply C_some | with_reducible apply C_jif | with_reducible apply C_bif | with_reducible apply C_bind | with_reducible apply C_obind | with_reducible apply C_sif | with_reducible apply C_ssm | with_reducible apply C_i | with_reducible apply C_l | with_reducible apply C_ai | with_reducible apply C_al | with_reducible apply C_sF | with_reducible apply C_sT | with_reducible apply C_nF | with_reducible apply C_nT | with_reducible apply C_x | with_reducible intro _ | fail | omega
theorem m_186 (v1 : (Nat × Nat)) (v2 : Int32) (S : sS) (hS : kC S = c) : Cp (F_186 G t v1 v2 S) c := by
  unfold F_186
  repeat' first | with_reducible assumption | with_reducible exact C_none | with_reducible apply m_151 | with_reducible apply m_186_25 | with_reducible apply C_some | with_reducible apply C_jif | with_reducible apply C_bif | with_reducible apply C_bind | with_reducible apply C_obind | with_reducible apply C_sif | with_reducible apply C_ssm | with_reducible apply C_i | with_reducible apply C_l | with_reducible apply C_ai | with_reducible apply C_al | with_reducible apply C_sF | with_reducible apply C_sT | with_reducible apply C_nF | with_reducible apply C_nT | with_reducible apply C_x | with_reducible intro _ | fail | omega
theorem m_187_38 (v1 : (Nat × Nat)) (S : sS) (hS : kC S = c) : Cp (F_187_38 G t v1 S) c := by
  unfold F_187_38
  repeat' first | with_reducible assumption | with_reducible exact C_none | with_reducible apply m_157 | with_reducible apply C_some | with_reducible apply C_jif | with_reducible apply C_bif | with_reducible apply C_bind | with_reducible apply C_obind | with_reducible apply C_sif | with_reducible apply C_ssm | with_reducible apply C_i | with_reducible apply C_l | with_reducible apply C_ai | with_reducible apply C_al | with_reducible apply C_sF | with_reducible apply C_sT | with_reducible apply C_nF | with_reducible apply C_nT | with_reducible apply C_x | with_reducible intro _ | fail | omega
theorem m_187_22 (v1 : (Nat × Nat)) (v2 : (Nat × Nat)) (w0 : (Nat × Nat)) (S : sS) (hS : kC S = c) : Cp (F_187_22 G t v1 v2 w0 S) c := by
  unfold F_187_22
  repeat' first | with_reducible assumption | with_reducible exact C_none | with_reducible apply m_187_38 | with_reducible apply m_157 | with_reducible apply C_some | with_reducible apply C_jif | with_reducible apply C_bif | with_reducible apply C_bind | with_reducible apply C_obind | with_reducible apply C_sif | with_reducible apply C_ssm | with_reducible apply C_i | with_reducible apply C_l | with_reducible apply C_ai | with_reducible apply C_al | with_reducible apply C_sF | with_reducible apply C_sT | with_reducible apply C_nF | with_reducible apply C_nT | with_reducible apply C_x | with_reducible intro _ | fail | omega
theorem m_187 (v1 : (Nat × Nat)) (v2 : (Nat × Nat)) (S : sS) (hS : kC S = c) : Cp (F_187 G t v1 v2 S) c := by
  unfold F_187
  repeat' first | with_reducible assumption | with_reducible exact C_none | with_reducible apply m_187_22 | with_reducible apply C_some | with_reducible apply C_jif | with_reducible apply C_bif | with_reducible apply C_bind | with_reducible apply C_obind | with_reducible apply C_sif | with_reducible apply C_ssm | with_reducible apply C_i | with_reducible apply C_l | with_reducible apply C_ai | with_reducible apply C_al | with_reducible apply C_sF | with_reducible apply C_sT | with_reducible apply C_nF | with_reducible apply C_nT | with_reducible apply C_x | with_reducible intro _ | fail | omega
theorem m_188_35 (v1 : (Nat × Nat)) (v5 : Int32) (S : sS) (hS : kC S = c) : Cp (F_188_35 G t v1 v5 S) c := by
  unfold F_188_35
  repeat' first | with_reducible assumption | with_reducible exact C_none | with_reducible apply m_156 | with_reducible apply m_155 | with_reducible apply C_some | with_reducible apply C_jif | with_reducible apply C_bif | with_reducible apply C_bind | with_reducible apply C_obind | with_reducible apply C_sif | with_reducible apply C_ssm | with_reducible apply C_i | with_reducible apply C_l | with_reducible apply C_ai | with_reducible apply C_al | with_reducible apply C_sF | with_reducible apply C_sT | with_reducible apply C_nF | with_reducible apply C_nT | with_reducible apply C_x | with_reducible intro _ | fail | omega
theorem m_188_450 (v1 : (Nat × Nat)) (v3 : Int32) (S : sS) (hS : kC S = c) : Cp (F_188_450 G t v1 v3 S) c := by
  unfold F_188_450
  repeat' first | with_reducible assumption | with_reducible exact C_none | with_reducible apply m_159 | with_reducible apply C_some | with_reducible apply C_jif | with_reducible apply C_bif | with_reducible apply C_bind | with_reducible apply C_obind | with_reducible apply C_sif | with_reducible apply C_ssm | with_reducible apply C_i | with_reducible apply C_l | with_reducible apply C_ai | with_reducible apply C_al | with_reducible apply C_sF | with_reducible apply C_sT | with_reducible apply C_nF | with_reducible apply C_nT | with_reducible apply C_x | with_reducible intro _ | fail | omega
theorem m_188_514 (w0 : Int32) (w1 : (Nat × Nat)) (S : sS) (hS : kC S = c) : Cp (F_188_514 G t w0 w1 S) c := by
  unfold F_188_514
  repeat' first | with_reducible assumption | with_reducible exact C_none | with_reducible apply m_160 | with_reducible apply C_some | with_reducible apply C_jif | with_reducible apply C_bif | with_reducible apply C_bind | with_reducible apply C_obind | with_reducible apply C_sif | with_reducible apply C_ssm | with_reducible apply C_i | with_reducible apply C_l | with_reducible apply C_ai | with_reducible apply C_al | with_reducible apply C_sF | with_reducible apply C_sT | with_reducible apply C_nF | with_reducible apply C_nT | with_reducible apply C_x | with_reducible intro _ | fail | omega
theorem m_188_509 (w0 : (Nat × Nat)) (S : sS) (hS : kC S = c) : Cp (F_188_509 G t w0 S) c := by
  unfold F_188_509
  repeat' first | with_reducible assumption | with_reducible exact C_none | with_reducible apply m_188_514 | with_reducible apply C_some | with_reducible apply C_jif | with_reducible apply C_bif | with_reducible apply C_bind | with_reducible apply C_obind | with_reducible apply C_sif | with_reducible apply C_ssm | with_reducible apply C_i | with_reducible apply C_l | with_reducible apply C_ai | with_reducible apply C_al | with_reducible apply C_sF | with_reducible apply C_sT | with_reducible apply C_nF | with_reducible apply C_nT | with_reducible apply C_x | with_reducible intro _ | fail | omega
theorem m_188_513 (w0 : (Nat × Nat)) (S : sS) (hS : kC S = c) : Cp (F_188_513 G t w0 S) c := by
  unfold F_188_513
  repeat' first | with_reducible assumption | with_reducible exact C_none | with_reducible apply m_188_514 | with_reducible apply C_some | with_reducible apply C_jif | with_reducible apply C_bif | with_reducible apply C_bind | with_reducible apply C_obind | with_reducible apply C_sif | with_reducible apply C_ssm | with_reducible apply C_i | with_reducible apply C_l | with_reducible apply C_ai | with_reducible apply C_al | with_reducible apply C_sF | with_reducible apply C_sT | with_reducible apply C_nF | with_reducible apply C_nT | with_reducible apply C_x | with_reducible intro _ | fail | omega
theorem m_188_564 (w0 : Int32) (w1 : (Nat × Nat)) (S : sS) (hS : kC S = c) : Cp (F_188_564 G t w0 w1 S) c := by
  unfold F_188_564
  repeat' first | with_reducible assumption | with_reducible exact C_none | with_reducible apply m_160 | with_reducible apply C_some | with_reducible apply C_jif | with_reducible apply C_bif | with_reducible apply C_bind | with_reducible apply C_obind | with_reducible apply C_sif | with_reducible apply C_ssm | with_reducible apply C_i | with_reducible apply C_l | with_reducible apply C_ai | with_reducible apply C_al | with_reducible apply C_sF | with_reducible apply C_sT | with_reducible apply C_nF | with_reducible apply C_nT | with_reducible apply C_x | with_reducible intro _ | fail | omega
theorem m_188_559 (w0 : (Nat × Nat)) (S : sS) (hS : kC S = c) : Cp (F_188_559 G t w0 S) c := by
  unfold F_188_559
  repeat' first | with_reducible assumption | with_reducible exact C_none | with_reducible apply m_188_564 | with_reducible apply C_some | with_reducible apply C_jif | with_reducible apply C_bif | with_reducible apply C_bind | with_reducible apply C_obind | with_reducible apply C_sif | with_reducible apply C_ssm | with_reducible apply C_i | with_reducible apply C_l | with_reducible apply C_ai | with_reducible apply C_al | with_reducible apply C_sF | with_reducible apply C_sT | with_reducible apply C_nF | with_reducible apply C_nT | with_reducible apply C_x | with_reducible intro _ | fail | omega
theorem m_188_563 (w0 : (Nat × Nat)) (S : sS) (hS : kC S = c) : Cp (F_188_563 G t w0 S) c := by
  unfold F_188_563
  repeat' first | with_reducible assumption | with_reducible exact C_none | with_reducible apply m_188_564 | with_reducible apply C_some | with_reducible apply C_jif | with_reducible apply C_bif | with_reducible apply C_bind | with_reducible apply C_obind | with_reducible apply C_sif | with_reducible apply C_ssm | with_reducible apply C_i | with_reducible apply C_l | with_reducible apply C_ai | with_reducible apply C_al | with_reducible apply C_sF | with_reducible apply C_sT | with_reducible apply C_nF | with_reducible apply C_nT | with_reducible apply C_x | with_reducible intro _ | fail | omega
theorem m_188_614 (v2 : (Nat × Nat)) (v4 : Int32) (S : sS) (hS : kC S = c) : Cp (F_188_614 G t v2 v4 S) c := by
  unfold F_188_614
  repeat' first | with_reducible assumption | with_reducible exact C_none | with_reducible apply C_some | with_reducible apply C_jif | with_reducible apply C_bif | with_reducible apply C_bind | with_reducible apply C_obind | with_reducible apply C_sif | with_reducible apply C_ssm | with_reducible apply C_i | with_reducible apply C_l | with_reducible apply C_ai | with_reducible apply C_al | with_reducible apply C_sF | with_reducible apply C_sT | with_reducible apply C_nF | with_reducible apply C_nT | with_reducible apply C_x | with_reducible intro _ | fail | omega
theorem m_188_691 (v4 : Int32) (w0 : Int32) (w1 : (Nat × Nat)) (S : sS) (hS : kC S = c) : Cp (F_188_691 G t v4 w0 w1 S) c := by
  unfold F_188_691
  repeat' first | with_reducible assumption | with_reducible exact C_none | with_reducible apply m_169 | with_reducible apply C_some | with_reducible apply C_jif | with_reducible apply C_bif | with_reducible apply C_bind | with_reducible apply C_obind | with_reducible apply C_sif | with_reducible apply C_ssm | with_reducible apply C_i | with_reducible apply C_l | with_reducible apply C_ai | with_reducible apply C_al | with_reducible apply C_sF | with_reducible apply C_sT | with_reducible apply C_nF | with_reducible apply C_nT | with_reducible apply C_x | with_reducible intro _ | fail | omega
theorem m_188_678 (v1 : (Nat × Nat)) (v3 : Int32) (v4 : Int32) (S : sS) (hS : kC S = c) : Cp (F_188_678 G t v1 v3 v4 S) c := by
  unfold F_188_678
  repeat' first | with_reducible assumption | with_reducible exact C_none | with_reducible apply m_188_691 | with_reducible apply C_some | with_reducible apply C_jif | with_reducible apply C_bif | with_reducible apply C_bind | with_reducible apply C_obind | with_reducible apply C_sif | with_reducible apply C_ssm | with_reducible apply C_i | with_reducible apply C_l | with_reducible apply C_ai | with_reducible apply C_al | with_reducible apply C_sF | with_reducible apply C_sT | with_reducible apply C_nF | with_reducible apply C_nT | with_reducible apply C_x | with_reducible intro _ | fail | omega
theorem m_188_760 (v1 : (Nat × Nat)) (w0 : Int32) (w1 : (Nat × Nat)) (S : sS) (hS : kC S = c) : Cp (F_188_760 G t v1 w0 w1 S) c := by
  unfold F_188_760
  repeat' first | with_reducible assumption | with_reducible exact C_none | with_reducible apply m_158 | with_reducible apply m_171 | with_reducible apply C_some | with_reducible apply C_jif | with_reducible apply C_bif | with_reducible apply C_bind | with_reducible apply C_obind | with_reducible apply C_sif | with_reducible apply C_ssm | with_reducible apply C_i | with_reducible apply C_l | with_reducible apply C_ai | with_reducible apply C_al | with_reducible apply C_sF | with_reducible apply C_sT | with_reducible apply C_nF | with_reducible apply C_nT | with_reducible apply C_x | with_reducible intro _ | fail | omega
theorem m_188_804 (v1 : (Nat × Nat)) (w0 : Int32) (w1 : (Nat × Nat)) (S : sS) (hS : kC S = c) : Cp (F_188_804 G t v1 w0 w1 S) c := by
  unfold F_188_804
  repeat' first | with_reducible assumption | with_reducible exact C_none | with_reducible apply m_158 | with_reducible apply m_172 | with_reducible apply C_some | with_reducible apply C_jif | with_reducible apply C_bif | with_reducible apply C_bind | with_reducible apply C_obind | with_reducible apply C_sif | with_reducible apply C_ssm | with_reducible apply C_i | with_reducible apply C_l | with_reducible apply C_ai | with_reducible apply C_al | with_reducible apply C_sF | with_reducible apply C_sT | with_reducible apply C_nF | with_reducible apply C_nT | with_reducible apply C_x | with_reducible intro _ | fail | omega
theorem m_188_913 (w0 : Int64) (w1 : Int32) (w2 : (Nat × Nat)) (S : sS) (hS : kC S = c) : Cp (F_188_913 G t w0 w1 w2 S) c := by
  unfold F_188_913
  repeat' first | with_reducible assumption | with_reducible exact C_none | with_reducible apply m_157 | with_reducible apply C_some | with_reducible apply C_jif | with_reducible apply C_bif | with_reducible apply C_bind | with_reducible apply C_obind | with_reducible apply C_sif | with_reducible apply C_ssm | with_reducible apply C_i | with_reducible apply C_l | with_reducible apply C_ai | with_reducible apply C_al | with_reducible apply C_sF | with_reducible apply C_sT | with_reducible apply C_nF | with_reducible apply C_nT | with_reducible apply C_x | with_reducible intro _ | fail | omega
theorem m_188_849 (v1 : (Nat × Nat)) (w0 : Int32) (w1 : (Nat × Nat)) (S : sS) (hS : kC S = c) : Cp (F_188_849 G t v1 w0 w1 S) c := by
  unfold F_188_849
  repeat' first | with_reducible assumption | with_reducible exact C_none | with_reducible apply m_158 | with_reducible apply m_188_913 | with_reducible apply C_some | with_reducible apply C_jif | with_reducible apply C_bif | with_reducible apply C_bind | with_reducible apply C_obind | with_reducible apply C_sif | with_reducible apply C_ssm | with_reducible apply C_i | with_reducible apply C_l | with_reducible apply C_ai | with_reducible apply C_al | with_reducible apply C_sF | with_reducible apply C_sT | with_reducible apply C_nF | with_reducible apply C_nT | with_reducible apply C_x | with_reducible intro _ | fail | omega
theorem m_188_975 (w0 : Int32) (w1 : (Nat × Nat)) (S : sS) (hS : kC S = c) : Cp (F_188_975 G t w0 w1 S) c := by
  unfold F_188_975
  repeat' first | with_reducible assumption | with_reducible exact C_none | with_reducible apply m_158 | with_reducible apply C_some | with_reducible apply C_jif | with_reducible apply C_bif | with_reducible apply C_bind | with_reducible apply C_obind | with_reducible apply C_sif | with_reducible apply C_ssm | with_reducible apply C_i | with_reducible apply C_l | with_reducible apply C_ai | with_reducible apply C_al | with_reducible apply C_sF | with_reducible apply C_sT | with_reducible apply C_nF | with_reducible apply C_nT | with_reducible apply C_x | with_reducible intro _ | fail | omega
theorem m_188_1120 (v1 : (Nat × Nat)) (w0 : Int32) (w1 : (Nat × Nat)) (S : sS) (hS : kC S = c) : Cp (F_188_1120 G t v1 w0 w1 S) c := by
  unfold F_188_1120
  repeat' first | with_reducible assumption | with_reducible exact C_none | with_reducible apply m_158 | with_reducible apply m_155 | with_reducible apply C_some | with_reducible apply C_jif | with_reducible apply C_bif | with_reducible apply C_bind | with_reducible apply C_obind | with_reducible apply C_sif | with_reducible apply C_ssm | with_reducible apply C_i | with_reducible apply C_l | with_reducible apply C_ai | with_reducible apply C_al | with_reducible apply C_sF | with_reducible apply C_sT | with_reducible apply C_nF | with_reducible apply C_nT | with_reducible apply C_x | with_reducible intro _ | fail | omega
theorem m_188 (v1 : (Nat × Nat)) (v2 : (Nat × Nat)) (v3 : Int32) (v4 : Int32) (S : sS) (hS : kC S = c) : Cp (F_188 G t v1 v2 v3 v4 S) c := by
  unfold F_188
  repeat' first | with_reducible assumption | with_reducible exact C_none | with_reducible apply m_152 | with_reducible apply m_188_35 | with_reducible apply m_153 | with_reducible apply m_187 | with_reducible apply m_157 | with_reducible apply m_156 | with_reducible apply m_188_450 | with_reducible apply m_188_513 | with_reducible apply m_188_509 | with_reducible apply m_188_559 | with_reducible apply m_188_563 | with_reducible apply m_188_614 | with_reducible apply m_162 | with_reducible apply m_154 | with_reducible apply m_164 | with_reducible apply m_188_678 | with_reducible apply m_171 | with_reducible apply m_172 | with_reducible apply m_188_760 | with_reducible apply m_188_804 | with_reducible apply m_188_849 | with_reducible apply m_181 | with_reducible apply m_184 | with_reducible apply m_185 | with_reducible apply m_186 | with_reducible apply m_188_975 | with_reducible apply m_155 | with_reducible apply m_188_1120 | with_reducible apply C_some | with_reducible apply C_jif | with_reducible apply C_bif | with_reducible apply C_bind | with_reducible apply C_obind | with_reducible apply C_sif | with_reducible apply C_ssm | with_reducible apply C_i | with_reducible apply C_l | with_reducible apply C_ai | with_reducible apply C_al | with_reducible apply C_sF | with_reducible apply C_sT | with_reducible apply C_nF | with_reducible apply C_nT | with_reducible apply C_x | with_reducible intro _ | fail | omega
set_option maxHeartbeats 4000000 in
set_option linter.unusedSimpArgs false in
theorem m_189_45  : ∀ tt u0 S, kC S = c → Cp (F_189_45 G t  tt u0 S) c := by
  intro tt
  induction tt with
  | zero => intros; exact C_none
  | succ tt ih =>
    intro u0 S hS
    rw [F_189_45]
    try dsimp only
    repeat' first | with_reducible assumption | with_reducible exact C_none | with_reducible apply ih | with_reducible apply C_some | with_reducible apply C_jif | with_reducible apply C_bif | with_reducible apply C_bind | with_reducible apply C_obind | with_reducible apply C_sif | with_reducible apply C_ssm | with_reducible apply C_i | with_reducible apply C_l | with_reducible apply C_ai | with_reducible apply C_al | with_reducible apply C_sF | with_reducible apply C_sT | with_reducible apply C_nF | with_reducible apply C_nT | with_reducible apply C_x | with_reducible intro _ | fail | omega
theorem m_189 (S : sS) (hS : kC S = c) : Cp (F_189 G t S) c := by
  unfold F_189
  repeat' first | with_reducible assumption | with_reducible exact C_none | with_reducible apply m_189_45 | with_reducible apply C_some | with_reducible apply C_jif | with_reducible apply C_bif | with_reducible apply C_bind | with_reducible apply C_obind | with_reducible apply C_sif | with_reducible apply C_ssm | with_reducible apply C_i | with_reducible apply C_l | with_reducible apply C_ai | with_reducible apply C_al | with_reducible apply C_sF | with_reducible apply C_sT | with_reducible apply C_nF | with_reducible apply C_nT | with_reducible apply C_x | with_reducible intro _ | fail | omega
theorem m_190_118 (w0 : Int32) (S : sS) (hS : kC S = c) : Cp (F_190_118 G t w0 S) c := by
  unfold F_190_118
  repeat' first | with_reducible assumption | with_reducible exact C_none | with_reducible apply C_some | with_reducible apply C_jif | with_reducible apply C_bif | with_reducible apply C_bind | with_reducible apply C_obind | with_reducible apply C_sif | with_reducible apply C_ssm | with_reducible apply C_i | with_reducible apply C_l | with_reducible apply C_ai | with_reducible apply C_al | with_reducible apply C_sF | with_reducible apply C_sT | with_reducible apply C_nF | with_reducible apply C_nT | with_reducible apply C_x | with_reducible intro _ | fail | omega
theorem m_190_185 (S : sS) (hS : kC S = c) : Cp (F_190_185 G t S) c := by
  unfold F_190_185
  repeat' first | with_reducible assumption | with_reducible exact C_none | with_reducible apply m_189 | with_reducible apply C_some | with_reducible apply C_jif | with_reducible apply C_bif | with_reducible apply C_bind | with_reducible apply C_obind | with_reducible apply C_sif | with_reducible apply C_ssm | with_reducible apply C_i | with_reducible apply C_l | with_reducible apply C_ai | with_reducible apply C_al | with_reducible apply C_sF | with_reducible apply C_sT | with_reducible apply C_nF | with_reducible apply C_nT | with_reducible apply C_x | with_reducible intro _ | fail | omega
theorem m_190_154 (v1 : (Nat × Nat)) (S : sS) (hS : kC S = c) : Cp (F_190_154 G t v1 S) c := by
  unfold F_190_154
  repeat' first | with_reducible assumption | with_reducible exact C_none | with_reducible apply m_190_185 | with_reducible apply C_some | with_reducible apply C_jif | with_reducible apply C_bif | with_reducible apply C_bind | with_reducible apply C_obind | with_reducible apply C_sif | with_reducible apply C_ssm | with_reducible apply C_i | with_reducible apply C_l | with_reducible apply C_ai | with_reducible apply C_al | with_reducible apply C_sF | with_reducible apply C_sT | with_reducible apply C_nF | with_reducible apply C_nT | with_reducible apply C_x | with_reducible intro _ | fail | omega
theorem m_190 (S : sS) (hS : kC S = c) : Cp (F_190 G t S) c := by
  unfold F_190
  repeat' first | with_reducible assumption | with_reducible exact C_none | with_reducible apply m_150 | with_reducible apply m_151 | with_reducible apply m_188 | with_reducible apply m_190_154 | with_reducible apply m_190_118 | with_reducible apply C_some | with_reducible apply C_jif | with_reducible apply C_bif | with_reducible apply C_bind | with_reducible apply C_obind | with_reducible apply C_sif | with_reducible apply C_ssm | with_reducible apply C_i | with_reducible apply C_l | with_reducible apply C_ai | with_reducible apply C_al | with_reducible apply C_sF | with_reducible apply C_sT | with_reducible apply C_nF | with_reducible apply C_nT | with_reducible apply C_x | with_reducible intro _ | fail | omega
set_option maxHeartbeats 4000000 in
set_option linter.unusedSimpArgs false in
theorem m_191_44  : ∀ tt u0 u1 S, kC S = c → Cp (F_191_44 G t  tt u0 u1 S) c := by
  intro tt
  induction tt with
  | zero => intros; exact C_none
  | succ tt ih =>
    intro u0 u1 S hS
    rw [F_191_44]
    try dsimp only
    repeat' first | with_reducible assumption | with_reducible exact C_none | with_reducible apply ih | with_reducible apply m_190 | with_reducible apply C_some | with_reducible apply C_jif | with_reducible apply C_bif | with_reducible apply C_bind | with_reducible apply C_obind | with_reducible apply C_sif | with_reducible apply C_ssm | with_reducible apply C_i | with_reducible apply C_l | with_reducible apply C_ai | with_reducible apply C_al | with_reducible apply C_sF | with_reducible apply C_sT | with_reducible apply C_nF | with_reducible apply C_nT | with_reducible apply C_x | with_reducible intro _ | fail | omega
theorem m_191_30 (v1 : Int32) (w0 : Int32) (S : sS) (hS : kC S = c) : Cp (F_191_30 G t v1 w0 S) c := by
  unfold F_191_30
  repeat' first | with_reducible assumption | with_reducible exact C_none | with_reducible apply m_191_44 | with_reducible apply C_some | with_reducible apply C_jif | with_reducible apply C_bif | with_reducible apply C_bind | with_reducible apply C_obind | with_reducible apply C_sif | with_reducible apply C_ssm | with_reducible apply C_i | with_reducible apply C_l | with_reducible apply C_ai | with_reducible apply C_al | with_reducible apply C_sF | with_reducible apply C_sT | with_reducible apply C_nF | with_reducible apply C_nT | with_reducible apply C_x | with_reducible intro _ | fail | omega
theorem m_191_13 (v1 : Int32) (S : sS) (hS : kC S = c) : Cp (F_191_13 G t v1 S) c := by
  unfold F_191_13
  repeat' first | with_reducible assumption | with_reducible exact C_none | with_reducible apply m_191_30 | with_reducible apply C_some | with_reducible apply C_jif | with_reducible apply C_bif | with_reducible apply C_bind | with_reducible apply C_obind | with_reducible apply C_sif | with_reducible apply C_ssm | with_reducible apply C_i | with_reducible apply C_l | with_reducible apply C_ai | with_reducible apply C_al | with_reducible apply C_sF | with_reducible apply C_sT | with_reducible apply C_nF | with_reducible apply C_nT | with_reducible apply C_x | with_reducible intro _ | fail | omega
theorem m_191 (v1 : Int32) (S : sS) (hS : kC S = c) : Cp (F_191 G t v1 S) c := by
  unfold F_191
  repeat' first | with_reducible assumption | with_reducible exact C_none | with_reducible apply m_191_13 | with_reducible apply m_191_30 | with_reducible apply C_some | with_reducible apply C_jif | with_reducible apply C_bif | with_reducible apply C_bind | with_reducible apply C_obind | with_reducible apply C_sif | with_reducible apply C_ssm | with_reducible apply C_i | with_reducible apply C_l | with_reducible apply C_ai | with_reducible apply C_al | with_reducible apply C_sF | with_reducible apply C_sT | with_reducible apply C_nF | with_reducible apply C_nT | with_reducible apply C_x | with_reducible intro _ | fail | omega
theorem m_192 (S : sS) (hS : kC S = c) : Cp (F_192 G t S) c := by
  unfold F_192
  repeat' first | with_reducible assumption | with_reducible exact C_none | with_reducible apply C_some | with_reducible apply C_jif | with_reducible apply C_bif | with_reducible apply C_bind | with_reducible apply C_obind | with_reducible apply C_sif | with_reducible apply C_ssm | with_reducible apply C_i | with_reducible apply C_l | with_reducible apply C_ai | with_reducible apply C_al | with_reducible apply C_sF | with_reducible apply C_sT | with_reducible apply C_nF | with_reducible apply C_nT | with_reducible apply C_x | with_reducible intro _ | fail | omega
theorem m_193 (S : sS) (hS : kC S = c) : Cp (F_193 G t S) c := by
  unfold F_193
  repeat' first | with_reducible assumption | with_reducible exact C_none | with_reducible apply C_some | with_reducible apply C_jif | with_reducible apply C_bif | with_reducible apply C_bind | with_reducible apply C_obind | with_reducible apply C_sif | with_reducible apply C_ssm | with_reducible apply C_i | with_reducible apply C_l | with_reducible apply C_ai | with_reducible apply C_al | with_reducible apply C_sF | with_reducible apply C_sT | with_reducible apply C_nF | with_reducible apply C_nT | with_reducible apply C_x | with_reducible intro _ | fail | omega
theorem m_195_30 (v1 : Int32) (v2 : Int32) (w0 : Int32) (S : sS) (hS : kC S = c) : Cp (F_195_30 G t v1 v2 w0 S) c := by
  unfold F_195_30
  repeat' first | with_reducible assumption | with_reducible exact C_none | with_reducible apply m_151 | with_reducible apply C_some | with_reducible apply C_jif | with_reducible apply C_bif | with_reducible apply C_bind | with_reducible apply C_obind | with_reducible apply C_sif | with_reducible apply C_ssm | with_reducible apply C_i | with_reducible apply C_l | with_reducible apply C_ai | with_reducible apply C_al | with_reducible apply C_sF | with_reducible apply C_sT | with_reducible apply C_nF | with_reducible apply C_nT | with_reducible apply C_x | with_reducible intro _ | fail | omega
theorem m_195_11 (v1 : Int32) (v2 : Int32) (S : sS) (hS : kC S = c) : Cp (F_195_11 G t v1 v2 S) c := by
  unfold F_195_11
  repeat' first | with_reducible assumption | with_reducible exact C_none | with_reducible apply m_195_30 | with_reducible apply C_some | with_reducible apply C_jif | with_reducible apply C_bif | with_reducible apply C_bind | with_reducible apply C_obind | with_reducible apply C_sif | with_reducible apply C_ssm | with_reducible apply C_i | with_reducible apply C_l | with_reducible apply C_ai | with_reducible apply C_al | with_reducible apply C_sF | with_reducible apply C_sT | with_reducible apply C_nF | with_reducible apply C_nT | with_reducible apply C_x | with_reducible intro _ | fail | omega
theorem m_195_25 (v1 : Int32) (v2 : Int32) (S : sS) (hS : kC S = c) : Cp (F_195_25 G t v1 v2 S) c := by
  unfold F_195_25
  repeat' first | with_reducible assumption | with_reducible exact C_none | with_reducible apply m_195_30 | with_reducible apply C_some | with_reducible apply C_jif | with_reducible apply C_bif | with_reducible apply C_bind | with_reducible apply C_obind | with_reducible apply C_sif | with_reducible apply C_ssm | with_reducible apply C_i | with_reducible apply C_l | with_reducible apply C_ai | with_reducible apply C_al | with_reducible apply C_sF | with_reducible apply C_sT | with_reducible apply C_nF | with_reducible apply C_nT | with_reducible apply C_x | with_reducible intro _ | fail | omega
theorem m_195 (v1 : Int32) (v2 : Int32) (S : sS) (hS : kC S = c) : Cp (F_195 G t v1 v2 S) c := by
  unfold F_195
  repeat' first | with_reducible assumption | with_reducible exact C_none | with_reducible apply m_195_11 | with_reducible apply m_195_25 | with_reducible apply m_195_30 | with_reducible apply C_some | with_reducible apply C_jif | with_reducible apply C_bif | with_reducible apply C_bind | with_reducible apply C_obind | with_reducible apply C_sif | with_reducible apply C_ssm | with_reducible apply C_i | with_reducible apply C_l | with_reducible apply C_ai | with_reducible apply C_al | with_reducible apply C_sF | with_reducible apply C_sT | with_reducible apply C_nF | with_reducible apply C_nT | with_reducible apply C_x | with_reducible intro _ | fail | omega
theorem m_197_48 (w0 : Int32) (S : sS) (hS : kC S = c) : Cp (F_197_48 G t w0 S) c := by
  unfold F_197_48
  repeat' first | with_reducible assumption | with_reducible exact C_none | with_reducible apply C_some | with_reducible apply C_jif | with_reducible apply C_bif | with_reducible apply C_bind | with_reducible apply C_obind | with_reducible apply C_sif | with_reducible apply C_ssm | with_reducible apply C_i | with_reducible apply C_l | with_reducible apply C_ai | with_reducible apply C_al | with_reducible apply C_sF | with_reducible apply C_sT | with_reducible apply C_nF | with_reducible apply C_nT | with_reducible apply C_x | with_reducible intro _ | fail | omega
theorem m_197_43 (S : sS) (hS : kC S = c) : Cp (F_197_43 G t S) c := by
  unfold F_197_43
  repeat' first | with_reducible assumption | with_reducible exact C_none | with_reducible apply m_197_48 | with_reducible apply C_some | with_reducible apply C_jif | with_reducible apply C_bif | with_reducible apply C_bind | with_reducible apply C_obind | with_reducible apply C_sif | with_reducible apply C_ssm | with_reducible apply C_i | with_reducible apply C_l | with_reducible apply C_ai | with_reducible apply C_al | with_reducible apply C_sF | with_reducible apply C_sT | with_reducible apply C_nF | with_reducible apply C_nT | with_reducible apply C_x | with_reducible intro _ | fail | omega
theorem m_197 (v1 : Int32) (v2 : Int32) (S : sS) (hS : kC S = c) : Cp (F_197 G t v1 v2 S) c := by
  unfold F_197
  repeat' first | with_reducible assumption | with_reducible exact C_none | with_reducible apply m_197_43 | with_reducible apply m_151 | with_reducible apply m_197_48 | with_reducible apply C_some | with_reducible apply C_jif | with_reducible apply C_bif | with_reducible apply C_bind | with_reducible apply C_obind | with_reducible apply C_sif | with_reducible apply C_ssm | with_reducible apply C_i | with_reducible apply C_l | with_reducible apply C_ai | with_reducible apply C_al | with_reducible apply C_sF | with_reducible apply C_sT | with_reducible apply C_nF | with_reducible apply C_nT | with_reducible apply C_x | with_reducible intro _ | fail | omega
theorem m_198 (v1 : Int32) (v2 : Int32) (S : sS) (hS : kC S = c) : Cp (F_198 G t v1 v2 S) c := by
  unfold F_198
  repeat' first | with_reducible assumption | with_reducible exact C_none | with_reducible apply m_197 | with_reducible apply m_151 | with_reducible apply C_some | with_reducible apply C_jif | with_reducible apply C_bif | with_reducible apply C_bind | with_reducible apply C_obind | with_reducible apply C_sif | with_reducible apply C_ssm | with_reducible apply C_i | with_reducible apply C_l | with_reducible apply C_ai | with_reducible apply C_al | with_reducible apply C_sF | with_reducible apply C_sT | with_reducible apply C_nF | with_reducible apply C_nT | with_reducible apply C_x | with_reducible intro _ | fail | omega
theorem m_199 (v1 : Int32) (v2 : Int32) (S : sS) (hS : kC S = c) : Cp (F_199 G t v1 v2 S) c := by
  unfold F_199
  repeat' first | with_reducible assumption | with_reducible exact C_none | with_reducible apply m_197 | with_reducible apply m_151 | with_reducible apply C_some | with_reducible apply C_jif | with_reducible apply C_bif | with_reducible apply C_bind | with_reducible apply C_obind | with_reducible apply C_sif | with_reducible apply C_ssm | with_reducible apply C_i | with_reducible apply C_l | with_reducible apply C_ai | with_reducible apply C_al | with_reducible apply C_sF | with_reducible apply C_sT | with_reducible apply C_nF | with_reducible apply C_nT | with_reducible apply C_x | with_reducible intro _ | fail | omega
theorem m_200_115 (k81 : Int32 → Int32 → Int32 → sS → Option (Int32 × sS)) (v1 : Int32) (v2 : Int32) (v3 : Int32) (S : sS) (hk0 : ∀ x0 x1 x2 S, kC S = c → Cp (k81 x0 x1 x2 S) c) (hS : kC S = c) : Cp (F_200_115 G t k81 v1 v2 v3 S) c := by
  unfold F_200_115
  repeat' first | with_reducible assumption | with_reducible exact C_none | with_reducible apply hk0 | with_reducible apply C_some | with_reducible apply C_jif | with_reducible apply C_bif | with_reducible apply C_bind | with_reducible apply C_obind | with_reducible apply C_sif | with_reducible apply C_ssm | with_reducible apply C_i | with_reducible apply C_l | with_reducible apply C_ai | with_reducible apply C_al | with_reducible apply C_sF | with_reducible apply C_sT | with_reducible apply C_nF | with_reducible apply C_nT | with_reducible apply C_x | with_reducible intro _ | fail | omega
set_option maxHeartbeats 4000000 in
set_option linter.unusedSimpArgs false in
theorem m_200_81  : ∀ tt u0 u1 u2 S, kC S = c → Cp (F_200_81 G t  tt u0 u1 u2 S) c := by
  intro tt
  induction tt with
  | zero => intros; exact C_none
  | succ tt ih =>
    intro u0 u1 u2 S hS
    rw [F_200_81]
    try dsimp only
    repeat' first | with_reducible assumption | with_reducible exact C_none | with_reducible apply ih | with_reducible apply m_200_115 | with_reducible apply C_some | with_reducible apply C_jif | with_reducible apply C_bif | with_reducible apply C_bind | with_reducible apply C_obind | with_reducible apply C_sif | with_reducible apply C_ssm | with_reducible apply C_i | with_reducible apply C_l | with_reducible apply C_ai | with_reducible apply C_al | with_reducible apply C_sF | with_reducible apply C_sT | with_reducible apply C_nF | with_reducible apply C_nT | with_reducible apply C_x | with_reducible intro _ | fail | omega
theorem m_200_28 (v1 : Int32) (w0 : Int32) (S : sS) (hS : kC S = c) : Cp (F_200_28 G t v1 w0 S) c := by
  unfold F_200_28
  repeat' first | with_reducible assumption | with_reducible exact C_none | with_reducible apply m_167 | with_reducible apply m_200_81 | with_reducible apply C_some | with_reducible apply C_jif | with_reducible apply C_bif | with_reducible apply C_bind | with_reducible apply C_obind | with_reducible apply C_sif | with_reducible apply C_ssm | with_reducible apply C_i | with_reducible apply C_l | with_reducible apply C_ai | with_reducible apply C_al | with_reducible apply C_sF | with_reducible apply C_sT | with_reducible apply C_nF | with_reducible apply C_nT | with_reducible apply C_x | with_reducible intro _ | fail | omega
theorem m_200_23 (v1 : Int32) (S : sS) (hS : kC S = c) : Cp (F_200_23 G t v1 S) c := by
  unfold F_200_23
  repeat' first | with_reducible assumption | with_reducible exact C_none | with_reducible apply m_200_28 | with_reducible apply C_some | with_reducible apply C_jif | with_reducible apply C_bif | with_reducible apply C_bind | with_reducible apply C_obind | with_reducible apply C_sif | with_reducible apply C_ssm | with_reducible apply C_i | with_reducible apply C_l | with_reducible apply C_ai | with_reducible apply C_al | with_reducible apply C_sF | with_reducible apply C_sT | with_reducible apply C_nF | with_reducible apply C_nT | with_reducible apply C_x | with_reducible intro _ | fail | omega
theorem m_200_27 (v1 : Int32) (S : sS) (hS : kC S = c) : Cp (F_200_27 G t v1 S) c := by
  unfold F_200_27
  repeat' first | with_reducible assumption | with_reducible exact C_none | with_reducible apply m_200_28 | with_reducible apply C_some | with_reducible apply C_jif | with_reducible apply C_bif | with_reducible apply C_bind | with_reducible apply C_obind | with_reducible apply C_sif | with_reducible apply C_ssm | with_reducible apply C_i | with_reducible apply C_l | with_reducible apply C_ai | with_reducible apply C_al | with_reducible apply C_sF | with_reducible apply C_sT | with_reducible apply C_nF | with_reducible apply C_nT | with_reducible apply C_x | with_reducible intro _ | fail | omega
theorem m_200_11 (v1 : Int32) (S : sS) (hS : kC S = c) : Cp (F_200_11 G t v1 S) c := by
  unfold F_200_11
  repeat' first | with_reducible assumption | with_reducible exact C_none | with_reducible apply m_200_27 | with_reducible apply m_200_23 | with_reducible apply C_some | with_reducible apply C_jif | with_reducible apply C_bif | with_reducible apply C_bind | with_reducible apply C_obind | with_reducible apply C_sif | with_reducible apply C_ssm | with_reducible apply C_i | with_reducible apply C_l | with_reducible apply C_ai | with_reducible apply C_al | with_reducible apply C_sF | with_reducible apply C_sT | with_reducible apply C_nF | with_reducible apply C_nT | with_reducible apply C_x | with_reducible intro _ | fail | omega
theorem m_200 (v1 : Int32) (S : sS) (hS : kC S = c) : Cp (F_200 G t v1 S) c := by
  unfold F_200
  repeat' first | with_reducible assumption | with_reducible exact C_none | with_reducible apply m_200_11 | with_reducible apply m_200_23 | with_reducible apply C_some | with_reducible apply C_jif | with_reducible apply C_bif | with_reducible apply C_bind | with_reducible apply C_obind | with_reducible apply C_sif | with_reducible apply C_ssm | with_reducible apply C_i | with_reducible apply C_l | with_reducible apply C_ai | with_reducible apply C_al | with_reducible apply C_sF | with_reducible apply C_sT | with_reducible apply C_nF | with_reducible apply C_nT | with_reducible apply C_x | with_reducible intro _ | fail | omega
theorem m_201_316 (k42 : Int64 → Int32 → Int32 → Int32 → sS → Option (Int64 × sS)) (k67 : Int64 → Int32 → Int32 → Int32 → Int32 → Int64 → sS → Option (Int64 × sS)) (v1 : Int64) (v3 : Int32) (v4 : Int32) (v5 : Int32) (S : sS) (hk0 : ∀ x0 x1 x2 x3 S, kC S = c → Cp (k42 x0 x1 x2 x3 S) c) (hk1 : ∀ x0 x1 x2 x3 x4 x5 S, kC S = c → Cp (k67 x0 x1 x2 x3 x4 x5 S) c) (hS : kC S = c) : Cp (F_201_316 G t k42 k67 v1 v3 v4 v5 S) c := by
  unfold F_201_316
  repeat' first | with_reducible assumption | with_reducible exact C_none | with_reducible apply hk0 | with_reducible apply hk1 | with_reducible apply C_some | with_reducible apply C_jif | with_reducible apply C_bif | with_reducible apply C_bind | with_reducible apply C_obind | with_reducible apply C_sif | with_reducible apply C_ssm | with_reducible apply C_i | with_reducible apply C_l | with_reducible apply C_ai | with_reducible apply C_al | with_reducible apply C_sF | with_reducible apply C_sT | with_reducible apply C_nF | with_reducible apply C_nT | with_reducible apply C_x | with_reducible intro _ | fail | omega
theorem m_201_307 (k42 : Int64 → Int32 → Int32 → Int32 → sS → Option (Int64 × sS)) (k67 : Int64 → Int32 → Int32 → Int32 → Int32 → Int64 → sS → Option (Int64 × sS)) (k235 : Int64 → Int32 → Int32 → Int32 → sS → Option (Int64 × sS)) (v1 : Int64) (v3 : Int32) (v4 : Int32) (v5 : Int32) (w0 : Int32) (w1 : Int32) (S : sS) (hk0 : ∀ x0 x1 x2 x3 S, kC S = c → Cp (k42 x0 x1 x2 x3 S) c) (hk1 : ∀ x0 x1 x2 x3 x4 x5 S, kC S = c → Cp (k67 x0 x1 x2 x3 x4 x5 S) c) (hk2 : ∀ x0 x1 x2 x3 S, kC S = c → Cp (k235 x0 x1 x2 x3 S) c) (hS : kC S = c) : Cp (F_201_307 G t k42 k67 k235 v1 v3 v4 v5 w0 w1 S) c := by
  unfold F_201_307
  repeat' first | with_reducible assumption | with_reducible exact C_none | with_reducible apply hk0 | with_reducible apply hk1 | with_reducible apply hk2 | with_reducible apply m_201_316 | with_reducible apply C_some | with_reducible apply C_jif | with_reducible apply C_bif | with_reducible apply C_bind | with_reducible apply C_obind | with_reducible apply C_sif | with_reducible apply C_ssm | with_reducible apply C_i | with_reducible apply C_l | with_reducible apply C_ai | with_reducible apply C_al | with_reducible apply C_sF | with_reducible apply C_sT | with_reducible apply C_nF | with_reducible apply C_nT | with_reducible apply C_x | with_reducible intro _ | fail | omega
set_option maxHeartbeats 4000000 in
set_option linter.unusedSimpArgs false in
theorem m_201_235 (k42 : Int64 → Int32 → Int32 → Int32 → sS → Option (Int64 × sS)) (k67 : Int64 → Int32 → Int32 → Int32 → Int32 → Int64 → sS → Option (Int64 × sS)) (hk0 : ∀ x0 x1 x2 x3 S, kC S = c → Cp (k42 x0 x1 x2 x3 S) c) (hk1 : ∀ x0 x1 x2 x3 x4 x5 S, kC S = c → Cp (k67 x0 x1 x2 x3 x4 x5 S) c) : ∀ tt u0 u1 u2 u3 S, kC S = c → Cp (F_201_235 G t k42 k67 tt u0 u1 u2 u3 S) c := by
  intro tt
  induction tt with
  | zero => intros; exact C_none
  | succ tt ih =>
    intro u0 u1 u2 u3 S hS
    rw [F_201_235]
    try dsimp only
    repeat' first | with_reducible assumption | with_reducible exact C_none | with_reducible apply ih | with_reducible apply hk0 | with_reducible apply hk1 | with_reducible apply m_201_316 | with_reducible apply m_201_307 | with_reducible apply C_some | with_reducible apply C_jif | with_reducible apply C_bif | with_reducible apply C_bind | with_reducible apply C_obind | with_reducible apply C_sif | with_reducible apply C_ssm | with_reducible apply C_i | with_reducible apply C_l | with_reducible apply C_ai | with_reducible apply C_al | with_reducible apply C_sF | with_reducible apply C_sT | with_reducible apply C_nF | with_reducible apply C_nT | with_reducible apply C_x | with_reducible intro _ | fail | omega
theorem m_201_211 (k42 : Int64 → Int32 → Int32 → Int32 → sS → Option (Int64 × sS)) (k67 : Int64 → Int32 → Int32 → Int32 → Int32 → Int64 → sS → Option (Int64 × sS)) (v3 : Int32) (v4 : Int32) (v5 : Int32) (v7 : Int64) (w0 : Int32) (w1 : Int64) (S : sS) (hk0 : ∀ x0 x1 x2 x3 S, kC S = c → Cp (k42 x0 x1 x2 x3 S) c) (hk1 : ∀ x0 x1 x2 x3 x4 x5 S, kC S = c → Cp (k67 x0 x1 x2 x3 x4 x5 S) c) (hS : kC S = c) : Cp (F_201_211 G t k42 k67 v3 v4 v5 v7 w0 w1 S) c := by
  unfold F_201_211
  repeat' first | with_reducible assumption | with_reducible exact C_none | with_reducible apply hk0 | with_reducible apply hk1 | with_reducible apply m_201_235 | with_reducible apply C_some | with_reducible apply C_jif | with_reducible apply C_bif | with_reducible apply C_bind | with_reducible apply C_obind | with_reducible apply C_sif | with_reducible apply C_ssm | with_reducible apply C_i | with_reducible apply C_l | with_reducible apply C_ai | with_reducible apply C_al | with_reducible apply C_sF | with_reducible apply C_sT | with_reducible apply C_nF | with_reducible apply C_nT | with_reducible apply C_x | with_reducible intro _ | fail | omega
theorem m_201_186 (k42 : Int64 → Int32 → Int32 → Int32 → sS → Option (Int64 × sS)) (k67 : Int64 → Int32 → Int32 → Int32 → Int32 → Int64 → sS → Option (Int64 × sS)) (v3 : Int32) (v4 : Int32) (v5 : Int32) (v7 : Int64) (v9 : (Nat × Nat)) (w0 : Int32) (w1 : Int64) (w2 : Int64) (S : sS) (hk0 : ∀ x0 x1 x2 x3 S, kC S = c → Cp (k42 x0 x1 x2 x3 S) c) (hk1 : ∀ x0 x1 x2 x3 x4 x5 S, kC S = c → Cp (k67 x0 x1 x2 x3 x4 x5 S) c) (hS : kC S = c) : Cp (F_201_186 G t k42 k67 v3 v4 v5 v7 v9 w0 w1 w2 S) c := by
  unfold F_201_186
  repeat' first | with_reducible assumption | with_reducible exact C_none | with_reducible apply hk0 | with_reducible apply hk1 | with_reducible apply m_201_211 | with_reducible apply C_some | with_reducible apply C_jif | with_reducible apply C_bif | with_reducible apply C_bind | with_reducible apply C_obind | with_reducible apply C_sif | with_reducible apply C_ssm | with_reducible apply C_i | with_reducible apply C_l | with_reducible apply C_ai | with_reducible apply C_al | with_reducible apply C_sF | with_reducible apply C_sT | with_reducible apply C_nF | with_reducible apply C_nT | with_reducible apply C_x | with_reducible intro _ | fail | omega
set_option maxHeartbeats 4000000 in
set_option linter.unusedSimpArgs false in
theorem m_201_67 (k42 : Int64 → Int32 → Int32 → Int32 → sS → Option (Int64 × sS)) (hk0 : ∀ x0 x1 x2 x3 S, kC S = c → Cp (k42 x0 x1 x2 x3 S) c) : ∀ tt u0 u1 u2 u3 u4 u5 S, kC S = c → Cp (F_201_67 G t k42 tt u0 u1 u2 u3 u4 u5 S) c := by
  intro tt
  induction tt with
  | zero => intros; exact C_none
  | succ tt ih =>
    intro u0 u1 u2 u3 u4 u5 S hS
    rw [F_201_67]
    try dsimp only
    repeat' first | with_reducible assumption | with_reducible exact C_none | with_reducible apply ih | with_reducible apply hk0 | with_reducible apply m_201_186 | with_reducible apply m_201_235 | with_reducible apply C_some | with_reducible apply C_jif | with_reducible apply C_bif | with_reducible apply C_bind | with_reducible apply C_obind | with_reducible apply C_sif | with_reducible apply C_ssm | with_reducible apply C_i | with_reducible apply C_l | with_reducible apply C_ai | with_reducible apply C_al | with_reducible apply C_sF | with_reducible apply C_sT | with_reducible apply C_nF | with_reducible apply C_nT | with_reducible apply C_x | with_reducible intro _ | fail | omega
set_option maxHeartbeats 4000000 in
set_option linter.unusedSimpArgs false in
theorem m_201_42  : ∀ tt u0 u1 u2 u3 S, kC S = c → Cp (F_201_42 G t  tt u0 u1 u2 u3 S) c := by
  intro tt
  induction tt with
  | zero => intros; exact C_none
  | succ tt ih =>
    intro u0 u1 u2 u3 S hS
    rw [F_201_42]
    try dsimp only
    repeat' first | with_reducible assumption | with_reducible exact C_none | with_reducible apply ih | with_reducible apply m_201_67 | with_reducible apply C_some | with_reducible apply C_jif | with_reducible apply C_bif | with_reducible apply C_bind | with_reducible apply C_obind | with_reducible apply C_sif | with_reducible apply C_ssm | with_reducible apply C_i | with_reducible apply C_l | with_reducible apply C_ai | with_reducible apply C_al | with_reducible apply C_sF | with_reducible apply C_sT | with_reducible apply C_nF | with_reducible apply C_nT | with_reducible apply C_x | with_reducible intro _ | fail | omega
set_option maxHeartbeats 4000000 in
set_option linter.unusedSimpArgs false in
theorem m_201_7  : ∀ tt u0 S, kC S = c → Cp (F_201_7 G t  tt u0 S) c := by
  intro tt
  induction tt with
  | zero => intros; exact C_none
  | succ tt ih =>
    intro u0 S hS
    rw [F_201_7]
    try dsimp only
    repeat' first | with_reducible assumption | with_reducible exact C_none | with_reducible apply ih | with_reducible apply m_201_42 | with_reducible apply C_some | with_reducible apply C_jif | with_reducible apply C_bif | with_reducible apply C_bind | with_reducible apply C_obind | with_reducible apply C_sif | with_reducible apply C_ssm | with_reducible apply C_i | with_reducible apply C_l | with_reducible apply C_ai | with_reducible apply C_al | with_reducible apply C_sF | with_reducible apply C_sT | with_reducible apply C_nF | with_reducible apply C_nT | with_reducible apply C_x | with_reducible intro _ | fail | omega
theorem m_201 (S : sS) (hS : kC S = c) : Cp (F_201 G t S) c := by
  unfold F_201
  repeat' first | with_reducible assumption | with_reducible exact C_none | with_reducible apply m_201_7 | with_reducible apply C_some | with_reducible apply C_jif | with_reducible apply C_bif | with_reducible apply C_bind | with_reducible apply C_obind | with_reducible apply C_sif | with_reducible apply C_ssm | with_reducible apply C_i | with_reducible apply C_l | with_reducible apply C_ai | with_reducible apply C_al | with_reducible apply C_sF | with_reducible apply C_sT | with_reducible apply C_nF | with_reducible apply C_nT | with_reducible apply C_x | with_reducible intro _ | fail | omega
theorem m_202 (S : sS) (hS : kC S = c) : Cp (F_202 G t S) c := by
  unfold F_202
  repeat' first | with_reducible assumption | with_reducible exact C_none | with_reducible apply m_167 | with_reducible apply C_some | with_reducible apply C_jif | with_reducible apply C_bif | with_reducible apply C_bind | with_reducible apply C_obind | with_reducible apply C_sif | with_reducible apply C_ssm | with_reducible apply C_i | with_reducible apply C_l | with_reducible apply C_ai | with_reducible apply C_al | with_reducible apply C_sF | with_reducible apply C_sT | with_reducible apply C_nF | with_reducible apply C_nT | with_reducible apply C_x | with_reducible intro _ | fail | omega
theorem m_203 (S : sS) (hS : kC S = c) : Cp (F_203 G t S) c := by
  unfold F_203
  repeat' first | with_reducible assumption | with_reducible exact C_none | with_reducible apply C_some | with_reducible apply C_jif | with_reducible apply C_bif | with_reducible apply C_bind | with_reducible apply C_obind | with_reducible apply C_sif | with_reducible apply C_ssm | with_reducible apply C_i | with_reducible apply C_l | with_reducible apply C_ai | with_reducible apply C_al | with_reducible apply C_sF | with_reducible apply C_sT | with_reducible apply C_nF | with_reducible apply C_nT | with_reducible apply C_x | with_reducible intro _ | fail | omega
end CS
