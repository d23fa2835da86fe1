/-! printed by genb0.py: a step of the model leaves 25 and 29 alone -/
def kN (S : sS) : Int32 × Int32 := (S.1 33 0 0 25, S.1 33 0 0 29)
def Np {α : Type} (X : Option (α × sS)) (c : Int32 × Int32) : Prop := ∀ q, X = some q → kN q.2 = c
section NS
variable {G : jG} {t : Nat} {α β : Type}
theorem N_none {c : Int32 × Int32} : Np (none : Option (α × sS)) c := fun q h => by cases h
theorem N_some {c : Int32 × Int32} {x : α} {S : sS} (h : kN S = c) : Np (some (x, S)) c := fun q e => by cases e; exact h
theorem N_jif {c : Int32 × Int32} {b : Bool} {X : Option (α × sS)} (h : Np X c) : Np (jif b X) c := by
  cases b with
  | true => exact h
  | false => exact N_none
theorem N_bif {c : Int32 × Int32} {b : Bool} {X Y : Option (α × sS)} (h : Np X c) (h' : Np Y c) : Np (bif b then X else Y) c := by
  cases b with
  | true => exact h
  | false => exact h'
theorem N_bind {c : Int32 × Int32} {X : Option (α × sS)} {f : α × sS → Option (β × sS)} (h : Np X c) (h' : ∀ q, kN q.2 = c → Np (f q) c) : Np (X.bind f) c := by
  cases X with
  | none => exact N_none
  | some q => exact h' q (h q rfl)
theorem N_obind {c : Int32 × Int32} {γ : Type} {o : Option γ} {f : γ → Option (β × sS)} (h : ∀ q, Np (f q) c) : Np (o.bind f) c := by
  cases o with
  | none => exact N_none
  | some q => exact h q
theorem N_sif {c : Int32 × Int32} {o : Option (Nat × Nat)} {X : Option (α × sS)} {f : Nat × Nat → Option (α × sS)} (h : Np X c) (h' : ∀ a, Np (f a) c) : Np (sif o X f) c := by
  cases o with
  | none => exact h
  | some a => exact h' a
theorem N_ssm {c : Int32 × Int32} {γ : Type} {o : γ ⊕ Nat} {g : γ → Option (α × sS)} {f : Nat → Option (α × sS)} (h : ∀ a, Np (g a) c) (h' : ∀ a, Np (f a) c) : Np (ssm o g f) c := by
  cases o with
  | inl a => exact h a
  | inr a => exact h' a
variable {c : Int32 × Int32}
theorem N_i {S : sS} {t i j k : Nat} {x : Int32} (h : kN S = c) (hh : ¬ (t = 33 ∧ (k = 25 ∨ k = 29))) : kN (siI S t i j k x) = c := by
  rw [← h]
  unfold kN
  rw [gI, gI, if_neg (by omega), if_neg (by omega)]
theorem N_l {S : sS} {t i j k : Nat} {x : Int64} (h : kN S = c) : kN (siL S t i j k x) = c := h
set_option maxHeartbeats 4000000 in
set_option linter.unusedSimpArgs false in
theorem n_142_60  : ∀ tt u0 u1 S, kN S = c → Np (F_142_60 G t  tt u0 u1 S) c := by
  intro tt
  induction tt with
  | zero => intros; exact N_none
  | succ tt ih =>
    intro u0 u1 S hS
    rw [F_142_60]
    try dsimp only
    repeat' first | with_reducible assumption | with_reducible exact N_none | with_reducible apply ih | with_reducible apply N_some | with_reducible apply N_jif | with_reducible apply N_bif | with_reducible apply N_bind | with_reducible apply N_obind | with_reducible apply N_sif | with_reducible apply N_ssm | with_reducible apply N_i | with_reducible apply N_l | with_reducible intro _ | fail | omega
theorem n_142 (v1 : (Nat × Nat)) (v2 : Int32) (v3 : Int32) (S : sS) (hS : kN S = c) : Np (F_142 G t v1 v2 v3 S) c := by
  unfold F_142
  repeat' first | with_reducible assumption | with_reducible exact N_none | with_reducible apply n_142_60 | with_reducible apply N_some | with_reducible apply N_jif | with_reducible apply N_bif | with_reducible apply N_bind | with_reducible apply N_obind | with_reducible apply N_sif | with_reducible apply N_ssm | with_reducible apply N_i | with_reducible apply N_l | with_reducible intro _ | fail | omega
theorem n_150 (S : sS) (hS : kN S = c) : Np (F_150 G t S) c := by
  unfold F_150
  repeat' first | with_reducible assumption | with_reducible exact N_none | with_reducible apply N_some | with_reducible apply N_jif | with_reducible apply N_bif | with_reducible apply N_bind | with_reducible apply N_obind | with_reducible apply N_sif | with_reducible apply N_ssm | with_reducible apply N_i | with_reducible apply N_l | with_reducible intro _ | fail | omega
theorem n_151 (v0 : (Nat × Nat)) (S : sS) (hS : kN S = c) : Np (F_151 G t v0 S) c := by
  unfold F_151
  repeat' first | with_reducible assumption | with_reducible exact N_none | with_reducible apply N_some | with_reducible apply N_jif | with_reducible apply N_bif | with_reducible apply N_bind | with_reducible apply N_obind | with_reducible apply N_sif | with_reducible apply N_ssm | with_reducible apply N_i | with_reducible apply N_l | with_reducible intro _ | fail | omega
theorem n_152 (v1 : Int32) (v2 : Int32) (S : sS) (hS : kN S = c) : Np (F_152 G t v1 v2 S) c := by
  unfold F_152
  repeat' first | with_reducible assumption | with_reducible exact N_none | with_reducible apply N_some | with_reducible apply N_jif | with_reducible apply N_bif | with_reducible apply N_bind | with_reducible apply N_obind | with_reducible apply N_sif | with_reducible apply N_ssm | with_reducible apply N_i | with_reducible apply N_l | with_reducible intro _ | fail | omega
theorem n_153 (v0 : Int32) (S : sS) (hS : kN S = c) : Np (F_153 G t v0 S) c := by
  unfold F_153
  repeat' first | with_reducible assumption | with_reducible exact N_none | with_reducible apply N_some | with_reducible apply N_jif | with_reducible apply N_bif | with_reducible apply N_bind | with_reducible apply N_obind | with_reducible apply N_sif | with_reducible apply N_ssm | with_reducible apply N_i | with_reducible apply N_l | with_reducible intro _ | fail | omega
theorem n_154_181 (w0 : Int32) (w1 : (Nat × Nat)) (S : sS) (hS : kN S = c) : Np (F_154_181 G t w0 w1 S) c := by
  unfold F_154_181
  repeat' first | with_reducible assumption | with_reducible exact N_none | with_reducible apply N_some | with_reducible apply N_jif | with_reducible apply N_bif | with_reducible apply N_bind | with_reducible apply N_obind | with_reducible apply N_sif | with_reducible apply N_ssm | with_reducible apply N_i | with_reducible apply N_l | with_reducible intro _ | fail | omega
theorem n_154_145 (v1 : (Nat × Nat)) (v2 : (Nat × Nat)) (w0 : Int32) (w1 : (Nat × Nat)) (S : sS) (hS : kN S = c) : Np (F_154_145 G t v1 v2 w0 w1 S) c := by
  unfold F_154_145
  repeat' first | with_reducible assumption | with_reducible exact N_none | with_reducible apply n_154_181 | with_reducible apply N_some | with_reducible apply N_jif | with_reducible apply N_bif | with_reducible apply N_bind | with_reducible apply N_obind | with_reducible apply N_sif | with_reducible apply N_ssm | with_reducible apply N_i | with_reducible apply N_l | with_reducible intro _ | fail | omega
theorem n_154_257 (k0 : (Nat × Nat) → sS → Option (Unit × sS)) (v1 : (Nat × Nat)) (S : sS) (hk0 : ∀ x0 S, kN S = c → Np (k0 x0 S) c) (hS : kN S = c) : Np (F_154_257 G t k0 v1 S) c := by
  unfold F_154_257
  repeat' first | with_reducible assumption | with_reducible exact N_none | with_reducible apply hk0 | with_reducible apply N_some | with_reducible apply N_jif | with_reducible apply N_bif | with_reducible apply N_bind | with_reducible apply N_obind | with_reducible apply N_sif | with_reducible apply N_ssm | with_reducible apply N_i | with_reducible apply N_l | with_reducible intro _ | fail | omega
set_option maxHeartbeats 4000000 in
set_option linter.unusedSimpArgs false in
theorem n_154_0  : ∀ tt u0 S, kN S = c → Np (F_154_0 G t  tt u0 S) c := by
  intro tt
  induction tt with
  | zero => intros; exact N_none
  | succ tt ih =>
    intro u0 S hS
    rw [F_154_0]
    try dsimp only
    repeat' first | with_reducible assumption | with_reducible exact N_none | with_reducible apply ih | with_reducible apply n_151 | with_reducible apply n_154_257 | with_reducible apply n_154_145 | with_reducible apply n_142 | with_reducible apply N_some | with_reducible apply N_jif | with_reducible apply N_bif | with_reducible apply N_bind | with_reducible apply N_obind | with_reducible apply N_sif | with_reducible apply N_ssm | with_reducible apply N_i | with_reducible apply N_l | with_reducible intro _ | fail | omega
theorem n_154 (v1 : (Nat × Nat)) (S : sS) (hS : kN S = c) : Np (F_154 G t v1 S) c := by
  unfold F_154
  repeat' first | with_reducible assumption | with_reducible exact N_none | with_reducible apply n_154_0 | with_reducible apply N_some | with_reducible apply N_jif | with_reducible apply N_bif | with_reducible apply N_bind | with_reducible apply N_obind | with_reducible apply N_sif | with_reducible apply N_ssm | with_reducible apply N_i | with_reducible apply N_l | with_reducible intro _ | fail | omega
theorem n_155 (v1 : (Nat × Nat)) (v2 : Int64) (S : sS) (hS : kN S = c) : Np (F_155 G t v1 v2 S) c := by
  unfold F_155
  repeat' first | with_reducible assumption | with_reducible exact N_none | with_reducible apply n_151 | with_reducible apply n_154 | with_reducible apply N_some | with_reducible apply N_jif | with_reducible apply N_bif | with_reducible apply N_bind | with_reducible apply N_obind | with_reducible apply N_sif | with_reducible apply N_ssm | with_reducible apply N_i | with_reducible apply N_l | with_reducible intro _ | fail | omega
theorem n_156_84 (v1 : (Nat × Nat)) (v4 : Int32) (S : sS) (hS : kN S = c) : Np (F_156_84 G t v1 v4 S) c := by
  unfold F_156_84
  repeat' first | with_reducible assumption | with_reducible exact N_none | with_reducible apply n_155 | with_reducible apply N_some | with_reducible apply N_jif | with_reducible apply N_bif | with_reducible apply N_bind | with_reducible apply N_obind | with_reducible apply N_sif | with_reducible apply N_ssm | with_reducible apply N_i | with_reducible apply N_l | with_reducible intro _ | fail | omega
set_option maxHeartbeats 4000000 in
set_option linter.unusedSimpArgs false in
theorem n_156_23  : ∀ tt u0 u1 u2 u3 u4 S, kN S = c → Np (F_156_23 G t  tt u0 u1 u2 u3 u4 S) c := by
  intro tt
  induction tt with
  | zero => intros; exact N_none
  | succ tt ih =>
    intro u0 u1 u2 u3 u4 S hS
    rw [F_156_23]
    try dsimp only
    repeat' first | with_reducible assumption | with_reducible exact N_none | with_reducible apply ih | with_reducible apply n_156_84 | with_reducible apply N_some | with_reducible apply N_jif | with_reducible apply N_bif | with_reducible apply N_bind | with_reducible apply N_obind | with_reducible apply N_sif | with_reducible apply N_ssm | with_reducible apply N_i | with_reducible apply N_l | with_reducible intro _ | fail | omega
theorem n_156_18 (v1 : (Nat × Nat)) (v2 : Int32) (v3 : (Nat × Nat)) (w0 : Int32) (S : sS) (hS : kN S = c) : Np (F_156_18 G t v1 v2 v3 w0 S) c := by
  unfold F_156_18
  repeat' first | with_reducible assumption | with_reducible exact N_none | with_reducible apply n_156_23 | with_reducible apply N_some | with_reducible apply N_jif | with_reducible apply N_bif | with_reducible apply N_bind | with_reducible apply N_obind | with_reducible apply N_sif | with_reducible apply N_ssm | with_reducible apply N_i | with_reducible apply N_l | with_reducible intro _ | fail | omega
theorem n_156 (v1 : (Nat × Nat)) (v2 : Int32) (S : sS) (hS : kN S = c) : Np (F_156 G t v1 v2 S) c := by
  unfold F_156
  repeat' first | with_reducible assumption | with_reducible exact N_none | with_reducible apply n_151 | with_reducible apply n_156_18 | with_reducible apply N_some | with_reducible apply N_jif | with_reducible apply N_bif | with_reducible apply N_bind | with_reducible apply N_obind | with_reducible apply N_sif | with_reducible apply N_ssm | with_reducible apply N_i | with_reducible apply N_l | with_reducible intro _ | fail | omega
theorem n_157 (v1 : (Nat × Nat)) (v2 : Int32) (v3 : Int64) (S : sS) (hS : kN S = c) : Np (F_157 G t v1 v2 v3 S) c := by
  unfold F_157
  repeat' first | with_reducible assumption | with_reducible exact N_none | with_reducible apply n_151 | with_reducible apply n_155 | with_reducible apply N_some | with_reducible apply N_jif | with_reducible apply N_bif | with_reducible apply N_bind | with_reducible apply N_obind | with_reducible apply N_sif | with_reducible apply N_ssm | with_reducible apply N_i | with_reducible apply N_l | with_reducible intro _ | fail | omega
theorem n_158 (v1 : (Nat × Nat)) (v2 : Int32) (S : sS) (hS : kN S = c) : Np (F_158 G t v1 v2 S) c := by
  unfold F_158
  repeat' first | with_reducible assumption | with_reducible exact N_none | with_reducible apply n_155 | with_reducible apply N_some | with_reducible apply N_jif | with_reducible apply N_bif | with_reducible apply N_bind | with_reducible apply N_obind | with_reducible apply N_sif | with_reducible apply N_ssm | with_reducible apply N_i | with_reducible apply N_l | with_reducible intro _ | fail | omega
theorem n_159_145 (w0 : Int64) (w1 : Int32) (w2 : (Nat × Nat)) (S : sS) (hS : kN S = c) : Np (F_159_145 G t w0 w1 w2 S) c := by
  unfold F_159_145
  repeat' first | with_reducible assumption | with_reducible exact N_none | with_reducible apply n_157 | with_reducible apply N_some | with_reducible apply N_jif | with_reducible apply N_bif | with_reducible apply N_bind | with_reducible apply N_obind | with_reducible apply N_sif | with_reducible apply N_ssm | with_reducible apply N_i | with_reducible apply N_l | with_reducible intro _ | fail | omega
theorem n_159_78 (v1 : (Nat × Nat)) (v2 : Int32) (v3 : Int64) (v5 : Int64) (S : sS) (hS : kN S = c) : Np (F_159_78 G t v1 v2 v3 v5 S) c := by
  unfold F_159_78
  repeat' first | with_reducible assumption | with_reducible exact N_none | with_reducible apply n_159_145 | with_reducible apply N_some | with_reducible apply N_jif | with_reducible apply N_bif | with_reducible apply N_bind | with_reducible apply N_obind | with_reducible apply N_sif | with_reducible apply N_ssm | with_reducible apply N_i | with_reducible apply N_l | with_reducible intro _ | fail | omega
theorem n_159_34 (v1 : (Nat × Nat)) (v2 : Int32) (w0 : Int32) (w1 : (Nat × Nat)) (S : sS) (hS : kN S = c) : Np (F_159_34 G t v1 v2 w0 w1 S) c := by
  unfold F_159_34
  repeat' first | with_reducible assumption | with_reducible exact N_none | with_reducible apply n_158 | with_reducible apply n_159_78 | with_reducible apply n_155 | with_reducible apply N_some | with_reducible apply N_jif | with_reducible apply N_bif | with_reducible apply N_bind | with_reducible apply N_obind | with_reducible apply N_sif | with_reducible apply N_ssm | with_reducible apply N_i | with_reducible apply N_l | with_reducible intro _ | fail | omega
theorem n_159_33 (v1 : (Nat × Nat)) (v2 : Int32) (w0 : (Nat × Nat)) (S : sS) (hS : kN S = c) : Np (F_159_33 G t v1 v2 w0 S) c := by
  unfold F_159_33
  repeat' first | with_reducible assumption | with_reducible exact N_none | with_reducible apply n_159_34 | with_reducible apply N_some | with_reducible apply N_jif | with_reducible apply N_bif | with_reducible apply N_bind | with_reducible apply N_obind | with_reducible apply N_sif | with_reducible apply N_ssm | with_reducible apply N_i | with_reducible apply N_l | with_reducible intro _ | fail | omega
theorem n_159 (v1 : (Nat × Nat)) (v2 : Int32) (S : sS) (hS : kN S = c) : Np (F_159 G t v1 v2 S) c := by
  unfold F_159
  repeat' first | with_reducible assumption | with_reducible exact N_none | with_reducible apply n_156 | with_reducible apply n_159_33 | with_reducible apply n_159_34 | with_reducible apply N_some | with_reducible apply N_jif | with_reducible apply N_bif | with_reducible apply N_bind | with_reducible apply N_obind | with_reducible apply N_sif | with_reducible apply N_ssm | with_reducible apply N_i | with_reducible apply N_l | with_reducible intro _ | fail | omega
theorem n_160_12 (w0 : Int64) (w1 : Int32) (w2 : (Nat × Nat)) (S : sS) (hS : kN S = c) : Np (F_160_12 G t w0 w1 w2 S) c := by
  unfold F_160_12
  repeat' first | with_reducible assumption | with_reducible exact N_none | with_reducible apply n_157 | with_reducible apply N_some | with_reducible apply N_jif | with_reducible apply N_bif | with_reducible apply N_bind | with_reducible apply N_obind | with_reducible apply N_sif | with_reducible apply N_ssm | with_reducible apply N_i | with_reducible apply N_l | with_reducible intro _ | fail | omega
theorem n_160 (v1 : (Nat × Nat)) (v2 : Int32) (S : sS) (hS : kN S = c) : Np (F_160 G t v1 v2 S) c := by
  unfold F_160
  repeat' first | with_reducible assumption | with_reducible exact N_none | with_reducible apply n_160_12 | with_reducible apply N_some | with_reducible apply N_jif | with_reducible apply N_bif | with_reducible apply N_bind | with_reducible apply N_obind | with_reducible apply N_sif | with_reducible apply N_ssm | with_reducible apply N_i | with_reducible apply N_l | with_reducible intro _ | fail | omega
set_option maxHeartbeats 4000000 in
set_option linter.unusedSimpArgs false in
theorem n_161_2  : ∀ tt u0 u1 u2 S, kN S = c → Np (F_161_2 G t  tt u0 u1 u2 S) c := by
  intro tt
  induction tt with
  | zero => intros; exact N_none
  | succ tt ih =>
    intro u0 u1 u2 S hS
    rw [F_161_2]
    try dsimp only
    repeat' first | with_reducible assumption | with_reducible exact N_none | with_reducible apply ih | with_reducible apply n_151 | with_reducible apply N_some | with_reducible apply N_jif | with_reducible apply N_bif | with_reducible apply N_bind | with_reducible apply N_obind | with_reducible apply N_sif | with_reducible apply N_ssm | with_reducible apply N_i | with_reducible apply N_l | with_reducible intro _ | fail | omega
theorem n_161 (v1 : (Nat × Nat)) (v2 : Int32) (S : sS) (hS : kN S = c) : Np (F_161 G t v1 v2 S) c := by
  unfold F_161
  repeat' first | with_reducible assumption | with_reducible exact N_none | with_reducible apply n_161_2 | with_reducible apply N_some | with_reducible apply N_jif | with_reducible apply N_bif | with_reducible apply N_bind | with_reducible apply N_obind | with_reducible apply N_sif | with_reducible apply N_ssm | with_reducible apply N_i | with_reducible apply N_l | with_reducible intro _ | fail | omega
theorem n_162 (v1 : (Nat × Nat)) (v2 : Int32) (S : sS) (hS : kN S = c) : Np (F_162 G t v1 v2 S) c := by
  unfold F_162
  repeat' first | with_reducible assumption | with_reducible exact N_none | with_reducible apply n_156 | with_reducible apply n_142 | with_reducible apply n_161 | with_reducible apply n_155 | with_reducible apply N_some | with_reducible apply N_jif | with_reducible apply N_bif | with_reducible apply N_bind | with_reducible apply N_obind | with_reducible apply N_sif | with_reducible apply N_ssm | with_reducible apply N_i | with_reducible apply N_l | with_reducible intro _ | fail | omega
theorem n_163 (v1 : Int32) (S : sS) (hS : kN S = c) : Np (F_163 G t v1 S) c := by
  unfold F_163
  repeat' first | with_reducible assumption | with_reducible exact N_none | with_reducible apply N_some | with_reducible apply N_jif | with_reducible apply N_bif | with_reducible apply N_bind | with_reducible apply N_obind | with_reducible apply N_sif | with_reducible apply N_ssm | with_reducible apply N_i | with_reducible apply N_l | with_reducible intro _ | fail | omega
theorem n_164_60 (v1 : (Nat × Nat)) (v2 : Int32) (v3 : Int32) (v4 : Int32) (S : sS) (hS : kN S = c) : Np (F_164_60 G t v1 v2 v3 v4 S) c := by
  unfold F_164_60
  repeat' first | with_reducible assumption | with_reducible exact N_none | with_reducible apply n_142 | with_reducible apply n_161 | with_reducible apply n_163 | with_reducible apply n_155 | with_reducible apply N_some | with_reducible apply N_jif | with_reducible apply N_bif | with_reducible apply N_bind | with_reducible apply N_obind | with_reducible apply N_sif | with_reducible apply N_ssm | with_reducible apply N_i | with_reducible apply N_l | with_reducible intro _ | fail | omega
set_option maxHeartbeats 4000000 in
set_option linter.unusedSimpArgs false in
theorem n_164_20  : ∀ tt u0 u1 u2 u3 S, kN S = c → Np (F_164_20 G t  tt u0 u1 u2 u3 S) c := by
  intro tt
  induction tt with
  | zero => intros; exact N_none
  | succ tt ih =>
    intro u0 u1 u2 u3 S hS
    rw [F_164_20]
    try dsimp only
    repeat' first | with_reducible assumption | with_reducible exact N_none | with_reducible apply ih | with_reducible apply n_164_60 | with_reducible apply N_some | with_reducible apply N_jif | with_reducible apply N_bif | with_reducible apply N_bind | with_reducible apply N_obind | with_reducible apply N_sif | with_reducible apply N_ssm | with_reducible apply N_i | with_reducible apply N_l | with_reducible intro _ | fail | omega
theorem n_164 (v1 : (Nat × Nat)) (v2 : Int32) (S : sS) (hS : kN S = c) : Np (F_164 G t v1 v2 S) c := by
  unfold F_164
  repeat' first | with_reducible assumption | with_reducible exact N_none | with_reducible apply n_156 | with_reducible apply n_164_20 | with_reducible apply N_some | with_reducible apply N_jif | with_reducible apply N_bif | with_reducible apply N_bind | with_reducible apply N_obind | with_reducible apply N_sif | with_reducible apply N_ssm | with_reducible apply N_i | with_reducible apply N_l | with_reducible intro _ | fail | omega
theorem n_165 (v0 : (Nat × Nat)) (S : sS) (hS : kN S = c) : Np (F_165 G t v0 S) c := by
  unfold F_165
  repeat' first | with_reducible assumption | with_reducible exact N_none | with_reducible apply N_some | with_reducible apply N_jif | with_reducible apply N_bif | with_reducible apply N_bind | with_reducible apply N_obind | with_reducible apply N_sif | with_reducible apply N_ssm | with_reducible apply N_i | with_reducible apply N_l | with_reducible intro _ | fail | omega
theorem n_166 (v1 : Int32) (v2 : Int64) (S : sS) (hS : kN S = c) : Np (F_166 G t v1 v2 S) c := by
  unfold F_166
  repeat' first | with_reducible assumption | with_reducible exact N_none | with_reducible apply n_165 | with_reducible apply N_some | with_reducible apply N_jif | with_reducible apply N_bif | with_reducible apply N_bind | with_reducible apply N_obind | with_reducible apply N_sif | with_reducible apply N_ssm | with_reducible apply N_i | with_reducible apply N_l | with_reducible intro _ | fail | omega
theorem n_167_238 (k72 : Int32 → sS → Option (Unit × sS)) (k80 : Int32 → Int32 → sS → Option (Unit × sS)) (v1 : Int32) (v2 : Int32) (S : sS) (hk0 : ∀ x0 S, kN S = c → Np (k72 x0 S) c) (hk1 : ∀ x0 x1 S, kN S = c → Np (k80 x0 x1 S) c) (hS : kN S = c) : Np (F_167_238 G t k72 k80 v1 v2 S) c := by
  unfold F_167_238
  repeat' first | with_reducible assumption | with_reducible exact N_none | with_reducible apply hk0 | with_reducible apply hk1 | with_reducible apply N_some | with_reducible apply N_jif | with_reducible apply N_bif | with_reducible apply N_bind | with_reducible apply N_obind | with_reducible apply N_sif | with_reducible apply N_ssm | with_reducible apply N_i | with_reducible apply N_l | with_reducible intro _ | fail | omega
set_option maxHeartbeats 4000000 in
set_option linter.unusedSimpArgs false in
theorem n_167_185 (k72 : Int32 → sS → Option (Unit × sS)) (k80 : Int32 → Int32 → sS → Option (Unit × sS)) (hk0 : ∀ x0 S, kN S = c → Np (k72 x0 S) c) (hk1 : ∀ x0 x1 S, kN S = c → Np (k80 x0 x1 S) c) : ∀ tt u0 u1 u2 u3 S, kN S = c → Np (F_167_185 G t k72 k80 tt u0 u1 u2 u3 S) c := by
  intro tt
  induction tt with
  | zero => intros; exact N_none
  | succ tt ih =>
    intro u0 u1 u2 u3 S hS
    rw [F_167_185]
    try dsimp only
    repeat' first | with_reducible assumption | with_reducible exact N_none | with_reducible apply ih | with_reducible apply hk0 | with_reducible apply hk1 | with_reducible apply n_167_238 | with_reducible apply n_166 | with_reducible apply N_some | with_reducible apply N_jif | with_reducible apply N_bif | with_reducible apply N_bind | with_reducible apply N_obind | with_reducible apply N_sif | with_reducible apply N_ssm | with_reducible apply N_i | with_reducible apply N_l | with_reducible intro _ | fail | omega
set_option maxHeartbeats 4000000 in
set_option linter.unusedSimpArgs false in
theorem n_167_149 (k72 : Int32 → sS → Option (Unit × sS)) (k80 : Int32 → Int32 → sS → Option (Unit × sS)) (hk0 : ∀ x0 S, kN S = c → Np (k72 x0 S) c) (hk1 : ∀ x0 x1 S, kN S = c → Np (k80 x0 x1 S) c) : ∀ tt u0 u1 u2 u3 S, kN S = c → Np (F_167_149 G t k72 k80 tt u0 u1 u2 u3 S) c := by
  intro tt
  induction tt with
  | zero => intros; exact N_none
  | succ tt ih =>
    intro u0 u1 u2 u3 S hS
    rw [F_167_149]
    try dsimp only
    repeat' first | with_reducible assumption | with_reducible exact N_none | with_reducible apply ih | with_reducible apply hk0 | with_reducible apply hk1 | with_reducible apply n_167_185 | with_reducible apply n_166 | with_reducible apply N_some | with_reducible apply N_jif | with_reducible apply N_bif | with_reducible apply N_bind | with_reducible apply N_obind | with_reducible apply N_sif | with_reducible apply N_ssm | with_reducible apply N_i | with_reducible apply N_l | with_reducible intro _ | fail | omega
set_option maxHeartbeats 4000000 in
set_option linter.unusedSimpArgs false in
theorem n_167_108 (k72 : Int32 → sS → Option (Unit × sS)) (k80 : Int32 → Int32 → sS → Option (Unit × sS)) (hk0 : ∀ x0 S, kN S = c → Np (k72 x0 S) c) (hk1 : ∀ x0 x1 S, kN S = c → Np (k80 x0 x1 S) c) : ∀ tt u0 u1 u2 u3 S, kN S = c → Np (F_167_108 G t k72 k80 tt u0 u1 u2 u3 S) c := by
  intro tt
  induction tt with
  | zero => intros; exact N_none
  | succ tt ih =>
    intro u0 u1 u2 u3 S hS
    rw [F_167_108]
    try dsimp only
    repeat' first | with_reducible assumption | with_reducible exact N_none | with_reducible apply ih | with_reducible apply hk0 | with_reducible apply hk1 | with_reducible apply n_167_149 | with_reducible apply n_166 | with_reducible apply N_some | with_reducible apply N_jif | with_reducible apply N_bif | with_reducible apply N_bind | with_reducible apply N_obind | with_reducible apply N_sif | with_reducible apply N_ssm | with_reducible apply N_i | with_reducible apply N_l | with_reducible intro _ | fail | omega
set_option maxHeartbeats 4000000 in
set_option linter.unusedSimpArgs false in
theorem n_167_80 (k72 : Int32 → sS → Option (Unit × sS)) (hk0 : ∀ x0 S, kN S = c → Np (k72 x0 S) c) : ∀ tt u0 u1 S, kN S = c → Np (F_167_80 G t k72 tt u0 u1 S) c := by
  intro tt
  induction tt with
  | zero => intros; exact N_none
  | succ tt ih =>
    intro u0 u1 S hS
    rw [F_167_80]
    try dsimp only
    repeat' first | with_reducible assumption | with_reducible exact N_none | with_reducible apply ih | with_reducible apply hk0 | with_reducible apply n_167_108 | with_reducible apply N_some | with_reducible apply N_jif | with_reducible apply N_bif | with_reducible apply N_bind | with_reducible apply N_obind | with_reducible apply N_sif | with_reducible apply N_ssm | with_reducible apply N_i | with_reducible apply N_l | with_reducible intro _ | fail | omega
set_option maxHeartbeats 4000000 in
set_option linter.unusedSimpArgs false in
theorem n_167_295 (k252 : Int32 → sS → Option (Unit × sS)) (hk0 : ∀ x0 S, kN S = c → Np (k252 x0 S) c) : ∀ tt u0 u1 u2 u3 S, kN S = c → Np (F_167_295 G t k252 tt u0 u1 u2 u3 S) c := by
  intro tt
  induction tt with
  | zero => intros; exact N_none
  | succ tt ih =>
    intro u0 u1 u2 u3 S hS
    rw [F_167_295]
    try dsimp only
    repeat' first | with_reducible assumption | with_reducible exact N_none | with_reducible apply ih | with_reducible apply hk0 | with_reducible apply n_166 | with_reducible apply N_some | with_reducible apply N_jif | with_reducible apply N_bif | with_reducible apply N_bind | with_reducible apply N_obind | with_reducible apply N_sif | with_reducible apply N_ssm | with_reducible apply N_i | with_reducible apply N_l | with_reducible intro _ | fail | omega
theorem n_167_291 (k252 : Int32 → sS → Option (Unit × sS)) (v1 : Int32) (v2 : (Nat × Nat)) (w0 : Int32) (S : sS) (hk0 : ∀ x0 S, kN S = c → Np (k252 x0 S) c) (hS : kN S = c) : Np (F_167_291 G t k252 v1 v2 w0 S) c := by
  unfold F_167_291
  repeat' first | with_reducible assumption | with_reducible exact N_none | with_reducible apply hk0 | with_reducible apply n_167_295 | with_reducible apply N_some | with_reducible apply N_jif | with_reducible apply N_bif | with_reducible apply N_bind | with_reducible apply N_obind | with_reducible apply N_sif | with_reducible apply N_ssm | with_reducible apply N_i | with_reducible apply N_l | with_reducible intro _ | fail | omega
set_option maxHeartbeats 4000000 in
set_option linter.unusedSimpArgs false in
theorem n_167_252  : ∀ tt u0 S, kN S = c → Np (F_167_252 G t  tt u0 S) c := by
  intro tt
  induction tt with
  | zero => intros; exact N_none
  | succ tt ih =>
    intro u0 S hS
    rw [F_167_252]
    try dsimp only
    repeat' first | with_reducible assumption | with_reducible exact N_none | with_reducible apply ih | with_reducible apply n_167_291 | with_reducible apply N_some | with_reducible apply N_jif | with_reducible apply N_bif | with_reducible apply N_bind | with_reducible apply N_obind | with_reducible apply N_sif | with_reducible apply N_ssm | with_reducible apply N_i | with_reducible apply N_l | with_reducible intro _ | fail | omega
set_option maxHeartbeats 4000000 in
set_option linter.unusedSimpArgs false in
theorem n_167_72  : ∀ tt u0 S, kN S = c → Np (F_167_72 G t  tt u0 S) c := by
  intro tt
  induction tt with
  | zero => intros; exact N_none
  | succ tt ih =>
    intro u0 S hS
    rw [F_167_72]
    try dsimp only
    repeat' first | with_reducible assumption | with_reducible exact N_none | with_reducible apply ih | with_reducible apply n_167_252 | with_reducible apply n_167_80 | with_reducible apply N_some | with_reducible apply N_jif | with_reducible apply N_bif | with_reducible apply N_bind | with_reducible apply N_obind | with_reducible apply N_sif | with_reducible apply N_ssm | with_reducible apply N_i | with_reducible apply N_l | with_reducible intro _ | fail | omega
set_option maxHeartbeats 4000000 in
set_option linter.unusedSimpArgs false in
theorem n_167_42  : ∀ tt u0 S, kN S = c → Np (F_167_42 G t  tt u0 S) c := by
  intro tt
  induction tt with
  | zero => intros; exact N_none
  | succ tt ih =>
    intro u0 S hS
    rw [F_167_42]
    try dsimp only
    repeat' first | with_reducible assumption | with_reducible exact N_none | with_reducible apply ih | with_reducible apply n_167_72 | with_reducible apply n_166 | with_reducible apply N_some | with_reducible apply N_jif | with_reducible apply N_bif | with_reducible apply N_bind | with_reducible apply N_obind | with_reducible apply N_sif | with_reducible apply N_ssm | with_reducible apply N_i | with_reducible apply N_l | with_reducible intro _ | fail | omega
set_option maxHeartbeats 4000000 in
set_option linter.unusedSimpArgs false in
theorem n_167_2  : ∀ tt u0 S, kN S = c → Np (F_167_2 G t  tt u0 S) c := by
  intro tt
  induction tt with
  | zero => intros; exact N_none
  | succ tt ih =>
    intro u0 S hS
    rw [F_167_2]
    try dsimp only
    repeat' first | with_reducible assumption | with_reducible exact N_none | with_reducible apply ih | with_reducible apply n_167_42 | with_reducible apply N_some | with_reducible apply N_jif | with_reducible apply N_bif | with_reducible apply N_bind | with_reducible apply N_obind | with_reducible apply N_sif | with_reducible apply N_ssm | with_reducible apply N_i | with_reducible apply N_l | with_reducible intro _ | fail | omega
theorem n_167 (S : sS) (hS : kN S = c) : Np (F_167 G t S) c := by
  unfold F_167
  repeat' first | with_reducible assumption | with_reducible exact N_none | with_reducible apply n_167_2 | with_reducible apply N_some | with_reducible apply N_jif | with_reducible apply N_bif | with_reducible apply N_bind | with_reducible apply N_obind | with_reducible apply N_sif | with_reducible apply N_ssm | with_reducible apply N_i | with_reducible apply N_l | with_reducible intro _ | fail | omega
set_option maxHeartbeats 4000000 in
set_option linter.unusedSimpArgs false in
theorem n_168_84  : ∀ tt u0 u1 u2 S, kN S = c → Np (F_168_84 G t  tt u0 u1 u2 S) c := by
  intro tt
  induction tt with
  | zero => intros; exact N_none
  | succ tt ih =>
    intro u0 u1 u2 S hS
    rw [F_168_84]
    try dsimp only
    repeat' first | with_reducible assumption | with_reducible exact N_none | with_reducible apply ih | with_reducible apply N_some | with_reducible apply N_jif | with_reducible apply N_bif | with_reducible apply N_bind | with_reducible apply N_obind | with_reducible apply N_sif | with_reducible apply N_ssm | with_reducible apply N_i | with_reducible apply N_l | with_reducible intro _ | fail | omega
set_option maxHeartbeats 4000000 in
set_option linter.unusedSimpArgs false in
theorem n_168_31  : ∀ tt u0 u1 u2 S, kN S = c → Np (F_168_31 G t  tt u0 u1 u2 S) c := by
  intro tt
  induction tt with
  | zero => intros; exact N_none
  | succ tt ih =>
    intro u0 u1 u2 S hS
    rw [F_168_31]
    try dsimp only
    repeat' first | with_reducible assumption | with_reducible exact N_none | with_reducible apply ih | with_reducible apply n_168_84 | with_reducible apply N_some | with_reducible apply N_jif | with_reducible apply N_bif | with_reducible apply N_bind | with_reducible apply N_obind | with_reducible apply N_sif | with_reducible apply N_ssm | with_reducible apply N_i | with_reducible apply N_l | with_reducible intro _ | fail | omega
theorem n_168_18 (v1 : Int32) (v2 : Int32) (w0 : Int32) (w1 : Int32) (S : sS) (hS : kN S = c) : Np (F_168_18 G t v1 v2 w0 w1 S) c := by
  unfold F_168_18
  repeat' first | with_reducible assumption | with_reducible exact N_none | with_reducible apply n_168_31 | with_reducible apply N_some | with_reducible apply N_jif | with_reducible apply N_bif | with_reducible apply N_bind | with_reducible apply N_obind | with_reducible apply N_sif | with_reducible apply N_ssm | with_reducible apply N_i | with_reducible apply N_l | with_reducible intro _ | fail | omega
theorem n_168 (v1 : Int32) (v2 : Int32) (S : sS) (hS : kN S = c) : Np (F_168 G t v1 v2 S) c := by
  unfold F_168
  repeat' first | with_reducible assumption | with_reducible exact N_none | with_reducible apply n_167 | with_reducible apply n_168_18 | with_reducible apply N_some | with_reducible apply N_jif | with_reducible apply N_bif | with_reducible apply N_bind | with_reducible apply N_obind | with_reducible apply N_sif | with_reducible apply N_ssm | with_reducible apply N_i | with_reducible apply N_l | with_reducible intro _ | fail | omega
theorem n_169 (v1 : (Nat × Nat)) (v2 : Int32) (v3 : Int32) (S : sS) (hS : kN S = c) : Np (F_169 G t v1 v2 v3 S) c := by
  unfold F_169
  repeat' first | with_reducible assumption | with_reducible exact N_none | with_reducible apply n_168 | with_reducible apply n_157 | with_reducible apply n_155 | with_reducible apply N_some | with_reducible apply N_jif | with_reducible apply N_bif | with_reducible apply N_bind | with_reducible apply N_obind | with_reducible apply N_sif | with_reducible apply N_ssm | with_reducible apply N_i | with_reducible apply N_l | with_reducible intro _ | fail | omega
theorem n_170 (v1 : Int32) (v2 : Int64) (v4 : Int32) (S : sS) (hS : kN S = c) : Np (F_170 G t v1 v2 v4 S) c := by
  unfold F_170
  repeat' first | with_reducible assumption | with_reducible exact N_none | with_reducible apply N_some | with_reducible apply N_jif | with_reducible apply N_bif | with_reducible apply N_bind | with_reducible apply N_obind | with_reducible apply N_sif | with_reducible apply N_ssm | with_reducible apply N_i | with_reducible apply N_l | with_reducible intro _ | fail | omega
theorem n_171_54 (v1 : (Nat × Nat)) (v2 : Int32) (v3 : Int64) (w0 : Int32) (w1 : (Nat × Nat)) (S : sS) (hS : kN S = c) : Np (F_171_54 G t v1 v2 v3 w0 w1 S) c := by
  unfold F_171_54
  repeat' first | with_reducible assumption | with_reducible exact N_none | with_reducible apply n_158 | with_reducible apply n_157 | with_reducible apply N_some | with_reducible apply N_jif | with_reducible apply N_bif | with_reducible apply N_bind | with_reducible apply N_obind | with_reducible apply N_sif | with_reducible apply N_ssm | with_reducible apply N_i | with_reducible apply N_l | with_reducible intro _ | fail | omega
theorem n_171_53 (v1 : (Nat × Nat)) (v2 : Int32) (v3 : Int64) (w0 : (Nat × Nat)) (S : sS) (hS : kN S = c) : Np (F_171_53 G t v1 v2 v3 w0 S) c := by
  unfold F_171_53
  repeat' first | with_reducible assumption | with_reducible exact N_none | with_reducible apply n_171_54 | with_reducible apply N_some | with_reducible apply N_jif | with_reducible apply N_bif | with_reducible apply N_bind | with_reducible apply N_obind | with_reducible apply N_sif | with_reducible apply N_ssm | with_reducible apply N_i | with_reducible apply N_l | with_reducible intro _ | fail | omega
theorem n_171 (v1 : (Nat × Nat)) (v2 : Int32) (v3 : Int64) (S : sS) (hS : kN S = c) : Np (F_171 G t v1 v2 v3 S) c := by
  unfold F_171
  repeat' first | with_reducible assumption | with_reducible exact N_none | with_reducible apply n_170 | with_reducible apply n_171_53 | with_reducible apply n_171_54 | with_reducible apply N_some | with_reducible apply N_jif | with_reducible apply N_bif | with_reducible apply N_bind | with_reducible apply N_obind | with_reducible apply N_sif | with_reducible apply N_ssm | with_reducible apply N_i | with_reducible apply N_l | with_reducible intro _ | fail | omega
theorem n_172_54 (v2 : Int32) (v3 : Int64) (w0 : Int32) (w1 : (Nat × Nat)) (S : sS) (hS : kN S = c) : Np (F_172_54 G t v2 v3 w0 w1 S) c := by
  unfold F_172_54
  repeat' first | with_reducible assumption | with_reducible exact N_none | with_reducible apply n_158 | with_reducible apply N_some | with_reducible apply N_jif | with_reducible apply N_bif | with_reducible apply N_bind | with_reducible apply N_obind | with_reducible apply N_sif | with_reducible apply N_ssm | with_reducible apply N_i | with_reducible apply N_l | with_reducible intro _ | fail | omega
theorem n_172_53 (v2 : Int32) (v3 : Int64) (w0 : (Nat × Nat)) (S : sS) (hS : kN S = c) : Np (F_172_53 G t v2 v3 w0 S) c := by
  unfold F_172_53
  repeat' first | with_reducible assumption | with_reducible exact N_none | with_reducible apply n_172_54 | with_reducible apply N_some | with_reducible apply N_jif | with_reducible apply N_bif | with_reducible apply N_bind | with_reducible apply N_obind | with_reducible apply N_sif | with_reducible apply N_ssm | with_reducible apply N_i | with_reducible apply N_l | with_reducible intro _ | fail | omega
theorem n_172 (v1 : (Nat × Nat)) (v2 : Int32) (v3 : Int64) (S : sS) (hS : kN S = c) : Np (F_172 G t v1 v2 v3 S) c := by
  unfold F_172
  repeat' first | with_reducible assumption | with_reducible exact N_none | with_reducible apply n_170 | with_reducible apply n_172_53 | with_reducible apply n_172_54 | with_reducible apply N_some | with_reducible apply N_jif | with_reducible apply N_bif | with_reducible apply N_bind | with_reducible apply N_obind | with_reducible apply N_sif | with_reducible apply N_ssm | with_reducible apply N_i | with_reducible apply N_l | with_reducible intro _ | fail | omega
theorem n_173_124 (k37 : Int32 → Int32 → (Nat × Nat) → Int32 → Int32 → sS → Option (Int32 × sS)) (v2 : Int32) (v3 : Int32) (v4 : (Nat × Nat)) (v5 : Int32) (v6 : Int32) (S : sS) (hk0 : ∀ x0 x1 x2 x3 x4 S, kN S = c → Np (k37 x0 x1 x2 x3 x4 S) c) (hS : kN S = c) : Np (F_173_124 G t k37 v2 v3 v4 v5 v6 S) c := by
  unfold F_173_124
  repeat' first | with_reducible assumption | with_reducible exact N_none | with_reducible apply hk0 | with_reducible apply N_some | with_reducible apply N_jif | with_reducible apply N_bif | with_reducible apply N_bind | with_reducible apply N_obind | with_reducible apply N_sif | with_reducible apply N_ssm | with_reducible apply N_i | with_reducible apply N_l | with_reducible intro _ | fail | omega
theorem n_173_117 (k37 : Int32 → Int32 → (Nat × Nat) → Int32 → Int32 → sS → Option (Int32 × sS)) (v2 : Int32) (v3 : Int32) (v4 : (Nat × Nat)) (v5 : Int32) (v6 : Int32) (w0 : Int32) (S : sS) (hk0 : ∀ x0 x1 x2 x3 x4 S, kN S = c → Np (k37 x0 x1 x2 x3 x4 S) c) (hS : kN S = c) : Np (F_173_117 G t k37 v2 v3 v4 v5 v6 w0 S) c := by
  unfold F_173_117
  repeat' first | with_reducible assumption | with_reducible exact N_none | with_reducible apply hk0 | with_reducible apply n_173_124 | with_reducible apply N_some | with_reducible apply N_jif | with_reducible apply N_bif | with_reducible apply N_bind | with_reducible apply N_obind | with_reducible apply N_sif | with_reducible apply N_ssm | with_reducible apply N_i | with_reducible apply N_l | with_reducible intro _ | fail | omega
set_option maxHeartbeats 4000000 in
set_option linter.unusedSimpArgs false in
theorem n_173_37  : ∀ tt u0 u1 u2 u3 u4 S, kN S = c → Np (F_173_37 G t  tt u0 u1 u2 u3 u4 S) c := by
  intro tt
  induction tt with
  | zero => intros; exact N_none
  | succ tt ih =>
    intro u0 u1 u2 u3 u4 S hS
    rw [F_173_37]
    try dsimp only
    repeat' first | with_reducible assumption | with_reducible exact N_none | with_reducible apply ih | with_reducible apply n_170 | with_reducible apply n_173_124 | with_reducible apply n_173_117 | with_reducible apply N_some | with_reducible apply N_jif | with_reducible apply N_bif | with_reducible apply N_bind | with_reducible apply N_obind | with_reducible apply N_sif | with_reducible apply N_ssm | with_reducible apply N_i | with_reducible apply N_l | with_reducible intro _ | fail | omega
theorem n_173 (v1 : (Nat × Nat)) (v2 : Int32) (v3 : Int32) (S : sS) (hS : kN S = c) : Np (F_173 G t v1 v2 v3 S) c := by
  unfold F_173
  repeat' first | with_reducible assumption | with_reducible exact N_none | with_reducible apply n_151 | with_reducible apply n_173_37 | with_reducible apply N_some | with_reducible apply N_jif | with_reducible apply N_bif | with_reducible apply N_bind | with_reducible apply N_obind | with_reducible apply N_sif | with_reducible apply N_ssm | with_reducible apply N_i | with_reducible apply N_l | with_reducible intro _ | fail | omega
theorem n_174_74 (v2 : Int32) (v5 : (Nat × Nat)) (w0 : Int32) (w1 : Int32) (S : sS) (hS : kN S = c) : Np (F_174_74 G t v2 v5 w0 w1 S) c := by
  unfold F_174_74
  repeat' first | with_reducible assumption | with_reducible exact N_none | with_reducible apply N_some | with_reducible apply N_jif | with_reducible apply N_bif | with_reducible apply N_bind | with_reducible apply N_obind | with_reducible apply N_sif | with_reducible apply N_ssm | with_reducible apply N_i | with_reducible apply N_l | with_reducible intro _ | fail | omega
theorem n_174_48 (v2 : Int32) (v3 : Int32) (v4 : (Nat × Nat)) (w0 : Int32) (w1 : Int32) (S : sS) (hS : kN S = c) : Np (F_174_48 G t v2 v3 v4 w0 w1 S) c := by
  unfold F_174_48
  repeat' first | with_reducible assumption | with_reducible exact N_none | with_reducible apply n_151 | with_reducible apply n_174_74 | with_reducible apply N_some | with_reducible apply N_jif | with_reducible apply N_bif | with_reducible apply N_bind | with_reducible apply N_obind | with_reducible apply N_sif | with_reducible apply N_ssm | with_reducible apply N_i | with_reducible apply N_l | with_reducible intro _ | fail | omega
theorem n_174 (v1 : Int32) (v2 : Int32) (v3 : Int32) (S : sS) (hS : kN S = c) : Np (F_174 G t v1 v2 v3 S) c := by
  unfold F_174
  repeat' first | with_reducible assumption | with_reducible exact N_none | with_reducible apply n_174_48 | with_reducible apply n_173 | with_reducible apply N_some | with_reducible apply N_jif | with_reducible apply N_bif | with_reducible apply N_bind | with_reducible apply N_obind | with_reducible apply N_sif | with_reducible apply N_ssm | with_reducible apply N_i | with_reducible apply N_l | with_reducible intro _ | fail | omega
theorem n_175_81 (k5 : Int32 → Int32 → Int32 → Int32 → sS → Option (Int32 × sS)) (v1 : Int32) (v2 : Int32) (v3 : Int32) (v4 : Int32) (S : sS) (hk0 : ∀ x0 x1 x2 x3 S, kN S = c → Np (k5 x0 x1 x2 x3 S) c) (hS : kN S = c) : Np (F_175_81 G t k5 v1 v2 v3 v4 S) c := by
  unfold F_175_81
  repeat' first | with_reducible assumption | with_reducible exact N_none | with_reducible apply hk0 | with_reducible apply N_some | with_reducible apply N_jif | with_reducible apply N_bif | with_reducible apply N_bind | with_reducible apply N_obind | with_reducible apply N_sif | with_reducible apply N_ssm | with_reducible apply N_i | with_reducible apply N_l | with_reducible intro _ | fail | omega
theorem n_175_78 (k5 : Int32 → Int32 → Int32 → Int32 → sS → Option (Int32 × sS)) (v1 : Int32) (v2 : Int32) (v4 : Int32) (S : sS) (hk0 : ∀ x0 x1 x2 x3 S, kN S = c → Np (k5 x0 x1 x2 x3 S) c) (hS : kN S = c) : Np (F_175_78 G t k5 v1 v2 v4 S) c := by
  unfold F_175_78
  repeat' first | with_reducible assumption | with_reducible exact N_none | with_reducible apply hk0 | with_reducible apply n_175_81 | with_reducible apply N_some | with_reducible apply N_jif | with_reducible apply N_bif | with_reducible apply N_bind | with_reducible apply N_obind | with_reducible apply N_sif | with_reducible apply N_ssm | with_reducible apply N_i | with_reducible apply N_l | with_reducible intro _ | fail | omega
set_option maxHeartbeats 4000000 in
set_option linter.unusedSimpArgs false in
theorem n_175_5  : ∀ tt u0 u1 u2 u3 S, kN S = c → Np (F_175_5 G t  tt u0 u1 u2 u3 S) c := by
  intro tt
  induction tt with
  | zero => intros; exact N_none
  | succ tt ih =>
    intro u0 u1 u2 u3 S hS
    rw [F_175_5]
    try dsimp only
    repeat' first | with_reducible assumption | with_reducible exact N_none | with_reducible apply ih | with_reducible apply n_175_81 | with_reducible apply n_174 | with_reducible apply n_175_78 | with_reducible apply N_some | with_reducible apply N_jif | with_reducible apply N_bif | with_reducible apply N_bind | with_reducible apply N_obind | with_reducible apply N_sif | with_reducible apply N_ssm | with_reducible apply N_i | with_reducible apply N_l | with_reducible intro _ | fail | omega
theorem n_175 (v1 : Int32) (v2 : Int32) (S : sS) (hS : kN S = c) : Np (F_175 G t v1 v2 S) c := by
  unfold F_175
  repeat' first | with_reducible assumption | with_reducible exact N_none | with_reducible apply n_175_5 | with_reducible apply N_some | with_reducible apply N_jif | with_reducible apply N_bif | with_reducible apply N_bind | with_reducible apply N_obind | with_reducible apply N_sif | with_reducible apply N_ssm | with_reducible apply N_i | with_reducible apply N_l | with_reducible intro _ | fail | omega
theorem n_176_40 (S : sS) (hS : kN S = c) : Np (F_176_40 G t S) c := by
  unfold F_176_40
  repeat' first | with_reducible assumption | with_reducible exact N_none | with_reducible apply N_some | with_reducible apply N_jif | with_reducible apply N_bif | with_reducible apply N_bind | with_reducible apply N_obind | with_reducible apply N_sif | with_reducible apply N_ssm | with_reducible apply N_i | with_reducible apply N_l | with_reducible intro _ | fail | omega
theorem n_176_64 (S : sS) (hS : kN S = c) : Np (F_176_64 G t S) c := by
  unfold F_176_64
  repeat' first | with_reducible assumption | with_reducible exact N_none | with_reducible apply N_some | with_reducible apply N_jif | with_reducible apply N_bif | with_reducible apply N_bind | with_reducible apply N_obind | with_reducible apply N_sif | with_reducible apply N_ssm | with_reducible apply N_i | with_reducible apply N_l | with_reducible intro _ | fail | omega
theorem n_176 (v1 : Int32) (v2 : Int32) (S : sS) (hS : kN S = c) : Np (F_176 G t v1 v2 S) c := by
  unfold F_176
  repeat' first | with_reducible assumption | with_reducible exact N_none | with_reducible apply n_176_64 | with_reducible apply n_175 | with_reducible apply n_176_40 | with_reducible apply N_some | with_reducible apply N_jif | with_reducible apply N_bif | with_reducible apply N_bind | with_reducible apply N_obind | with_reducible apply N_sif | with_reducible apply N_ssm | with_reducible apply N_i | with_reducible apply N_l | with_reducible intro _ | fail | omega
theorem n_177 (v1 : (Nat × Nat)) (v2 : Int32) (S : sS) (hS : kN S = c) : Np (F_177 G t v1 v2 S) c := by
  unfold F_177
  repeat' first | with_reducible assumption | with_reducible exact N_none | with_reducible apply N_some | with_reducible apply N_jif | with_reducible apply N_bif | with_reducible apply N_bind | with_reducible apply N_obind | with_reducible apply N_sif | with_reducible apply N_ssm | with_reducible apply N_i | with_reducible apply N_l | with_reducible intro _ | fail | omega
theorem n_178_51 (k18 : Int32 → Int32 → Int32 → sS → Option (Unit × sS)) (v1 : Int32) (v2 : Int32) (v3 : Int32) (S : sS) (hk0 : ∀ x0 x1 x2 S, kN S = c → Np (k18 x0 x1 x2 S) c) (hS : kN S = c) : Np (F_178_51 G t k18 v1 v2 v3 S) c := by
  unfold F_178_51
  repeat' first | with_reducible assumption | with_reducible exact N_none | with_reducible apply hk0 | with_reducible apply N_some | with_reducible apply N_jif | with_reducible apply N_bif | with_reducible apply N_bind | with_reducible apply N_obind | with_reducible apply N_sif | with_reducible apply N_ssm | with_reducible apply N_i | with_reducible apply N_l | with_reducible intro _ | fail | omega
set_option maxHeartbeats 4000000 in
set_option linter.unusedSimpArgs false in
theorem n_178_18  : ∀ tt u0 u1 u2 S, kN S = c → Np (F_178_18 G t  tt u0 u1 u2 S) c := by
  intro tt
  induction tt with
  | zero => intros; exact N_none
  | succ tt ih =>
    intro u0 u1 u2 S hS
    rw [F_178_18]
    try dsimp only
    repeat' first | with_reducible assumption | with_reducible exact N_none | with_reducible apply ih | with_reducible apply n_178_51 | with_reducible apply N_some | with_reducible apply N_jif | with_reducible apply N_bif | with_reducible apply N_bind | with_reducible apply N_obind | with_reducible apply N_sif | with_reducible apply N_ssm | with_reducible apply N_i | with_reducible apply N_l | with_reducible intro _ | fail | omega
theorem n_178 (v1 : Int32) (S : sS) (hS : kN S = c) : Np (F_178 G t v1 S) c := by
  unfold F_178
  repeat' first | with_reducible assumption | with_reducible exact N_none | with_reducible apply n_178_18 | with_reducible apply N_some | with_reducible apply N_jif | with_reducible apply N_bif | with_reducible apply N_bind | with_reducible apply N_obind | with_reducible apply N_sif | with_reducible apply N_ssm | with_reducible apply N_i | with_reducible apply N_l | with_reducible intro _ | fail | omega
theorem n_179_183 (v1 : Int32) (S : sS) (hS : kN S = c) : Np (F_179_183 G t v1 S) c := by
  unfold F_179_183
  repeat' first | with_reducible assumption | with_reducible exact N_none | with_reducible apply n_178 | with_reducible apply N_some | with_reducible apply N_jif | with_reducible apply N_bif | with_reducible apply N_bind | with_reducible apply N_obind | with_reducible apply N_sif | with_reducible apply N_ssm | with_reducible apply N_i | with_reducible apply N_l | with_reducible intro _ | fail | omega
theorem n_179_125 (v1 : Int32) (S : sS) (hS : kN S = c) : Np (F_179_125 G t v1 S) c := by
  unfold F_179_125
  repeat' first | with_reducible assumption | with_reducible exact N_none | with_reducible apply n_179_183 | with_reducible apply N_some | with_reducible apply N_jif | with_reducible apply N_bif | with_reducible apply N_bind | with_reducible apply N_obind | with_reducible apply N_sif | with_reducible apply N_ssm | with_reducible apply N_i | with_reducible apply N_l | with_reducible intro _ | fail | omega
theorem n_179_108 (v1 : Int32) (v8 : (Nat × Nat)) (v11 : Int32) (w0 : Int64) (w1 : Int32) (w2 : (Nat × Nat)) (S : sS) (hS : kN S = c) : Np (F_179_108 G t v1 v8 v11 w0 w1 w2 S) c := by
  unfold F_179_108
  repeat' first | with_reducible assumption | with_reducible exact N_none | with_reducible apply n_157 | with_reducible apply n_179_125 | with_reducible apply N_some | with_reducible apply N_jif | with_reducible apply N_bif | with_reducible apply N_bind | with_reducible apply N_obind | with_reducible apply N_sif | with_reducible apply N_ssm | with_reducible apply N_i | with_reducible apply N_l | with_reducible intro _ | fail | omega
theorem n_179_98 (v1 : Int32) (v3 : Int32) (v5 : Int64) (v8 : (Nat × Nat)) (v11 : Int32) (w0 : Int32) (w1 : (Nat × Nat)) (S : sS) (hS : kN S = c) : Np (F_179_98 G t v1 v3 v5 v8 v11 w0 w1 S) c := by
  unfold F_179_98
  repeat' first | with_reducible assumption | with_reducible exact N_none | with_reducible apply n_179_108 | with_reducible apply N_some | with_reducible apply N_jif | with_reducible apply N_bif | with_reducible apply N_bind | with_reducible apply N_obind | with_reducible apply N_sif | with_reducible apply N_ssm | with_reducible apply N_i | with_reducible apply N_l | with_reducible intro _ | fail | omega
theorem n_179 (v1 : Int32) (v2 : Int32) (v3 : Int32) (v4 : Int32) (v5 : Int64) (v7 : Int32) (S : sS) (hS : kN S = c) : Np (F_179 G t v1 v2 v3 v4 v5 v7 S) c := by
  unfold F_179
  repeat' first | with_reducible assumption | with_reducible exact N_none | with_reducible apply n_151 | with_reducible apply n_163 | with_reducible apply n_179_183 | with_reducible apply n_157 | with_reducible apply n_173 | with_reducible apply n_179_98 | with_reducible apply N_some | with_reducible apply N_jif | with_reducible apply N_bif | with_reducible apply N_bind | with_reducible apply N_obind | with_reducible apply N_sif | with_reducible apply N_ssm | with_reducible apply N_i | with_reducible apply N_l | with_reducible intro _ | fail | omega
theorem n_180 (v1 : Int32) (v2 : Int32) (v3 : Int64) (S : sS) (hS : kN S = c) : Np (F_180 G t v1 v2 v3 S) c := by
  unfold F_180
  repeat' first | with_reducible assumption | with_reducible exact N_none | with_reducible apply n_175 | with_reducible apply n_179 | with_reducible apply N_some | with_reducible apply N_jif | with_reducible apply N_bif | with_reducible apply N_bind | with_reducible apply N_obind | with_reducible apply N_sif | with_reducible apply N_ssm | with_reducible apply N_i | with_reducible apply N_l | with_reducible intro _ | fail | omega
theorem n_181_81 (v1 : (Nat × Nat)) (S : sS) (hS : kN S = c) : Np (F_181_81 G t v1 S) c := by
  unfold F_181_81
  repeat' first | with_reducible assumption | with_reducible exact N_none | with_reducible apply n_177 | with_reducible apply N_some | with_reducible apply N_jif | with_reducible apply N_bif | with_reducible apply N_bind | with_reducible apply N_obind | with_reducible apply N_sif | with_reducible apply N_ssm | with_reducible apply N_i | with_reducible apply N_l | with_reducible intro _ | fail | omega
theorem n_181_66 (v1 : (Nat × Nat)) (v3 : Int32) (v4 : Int32) (S : sS) (hS : kN S = c) : Np (F_181_66 G t v1 v3 v4 S) c := by
  unfold F_181_66
  repeat' first | with_reducible assumption | with_reducible exact N_none | with_reducible apply n_181_81 | with_reducible apply n_176 | with_reducible apply n_156 | with_reducible apply n_180 | with_reducible apply n_155 | with_reducible apply N_some | with_reducible apply N_jif | with_reducible apply N_bif | with_reducible apply N_bind | with_reducible apply N_obind | with_reducible apply N_sif | with_reducible apply N_ssm | with_reducible apply N_i | with_reducible apply N_l | with_reducible intro _ | fail | omega
theorem n_181 (v1 : (Nat × Nat)) (S : sS) (hS : kN S = c) : Np (F_181 G t v1 S) c := by
  unfold F_181
  repeat' first | with_reducible assumption | with_reducible exact N_none | with_reducible apply n_151 | with_reducible apply n_181_66 | with_reducible apply n_170 | with_reducible apply n_156 | with_reducible apply n_155 | with_reducible apply N_some | with_reducible apply N_jif | with_reducible apply N_bif | with_reducible apply N_bind | with_reducible apply N_obind | with_reducible apply N_sif | with_reducible apply N_ssm | with_reducible apply N_i | with_reducible apply N_l | with_reducible intro _ | fail | omega
theorem n_182 (v1 : Int32) (v2 : Int32) (S : sS) (hS : kN S = c) : Np (F_182 G t v1 v2 S) c := by
  unfold F_182
  repeat' first | with_reducible assumption | with_reducible exact N_none | with_reducible apply n_151 | with_reducible apply n_173 | with_reducible apply N_some | with_reducible apply N_jif | with_reducible apply N_bif | with_reducible apply N_bind | with_reducible apply N_obind | with_reducible apply N_sif | with_reducible apply N_ssm | with_reducible apply N_i | with_reducible apply N_l | with_reducible intro _ | fail | omega
set_option maxHeartbeats 4000000 in
set_option linter.unusedSimpArgs false in
theorem n_183_59  : ∀ tt u0 u1 u2 u3 S, kN S = c → Np (F_183_59 G t  tt u0 u1 u2 u3 S) c := by
  intro tt
  induction tt with
  | zero => intros; exact N_none
  | succ tt ih =>
    intro u0 u1 u2 u3 S hS
    rw [F_183_59]
    try dsimp only
    repeat' first | with_reducible assumption | with_reducible exact N_none | with_reducible apply ih | with_reducible apply n_182 | with_reducible apply n_179 | with_reducible apply N_some | with_reducible apply N_jif | with_reducible apply N_bif | with_reducible apply N_bind | with_reducible apply N_obind | with_reducible apply N_sif | with_reducible apply N_ssm | with_reducible apply N_i | with_reducible apply N_l | with_reducible intro _ | fail | omega
theorem n_183 (v1 : Int32) (S : sS) (hS : kN S = c) : Np (F_183 G t v1 S) c := by
  unfold F_183
  repeat' first | with_reducible assumption | with_reducible exact N_none | with_reducible apply n_175 | with_reducible apply n_182 | with_reducible apply n_179 | with_reducible apply n_183_59 | with_reducible apply N_some | with_reducible apply N_jif | with_reducible apply N_bif | with_reducible apply N_bind | with_reducible apply N_obind | with_reducible apply N_sif | with_reducible apply N_ssm | with_reducible apply N_i | with_reducible apply N_l | with_reducible intro _ | fail | omega
theorem n_184_81 (v1 : (Nat × Nat)) (S : sS) (hS : kN S = c) : Np (F_184_81 G t v1 S) c := by
  unfold F_184_81
  repeat' first | with_reducible assumption | with_reducible exact N_none | with_reducible apply n_177 | with_reducible apply N_some | with_reducible apply N_jif | with_reducible apply N_bif | with_reducible apply N_bind | with_reducible apply N_obind | with_reducible apply N_sif | with_reducible apply N_ssm | with_reducible apply N_i | with_reducible apply N_l | with_reducible intro _ | fail | omega
theorem n_184_66 (v1 : (Nat × Nat)) (v3 : Int32) (v4 : Int32) (S : sS) (hS : kN S = c) : Np (F_184_66 G t v1 v3 v4 S) c := by
  unfold F_184_66
  repeat' first | with_reducible assumption | with_reducible exact N_none | with_reducible apply n_184_81 | with_reducible apply n_176 | with_reducible apply n_156 | with_reducible apply n_183 | with_reducible apply n_157 | with_reducible apply N_some | with_reducible apply N_jif | with_reducible apply N_bif | with_reducible apply N_bind | with_reducible apply N_obind | with_reducible apply N_sif | with_reducible apply N_ssm | with_reducible apply N_i | with_reducible apply N_l | with_reducible intro _ | fail | omega
theorem n_184 (v1 : (Nat × Nat)) (S : sS) (hS : kN S = c) : Np (F_184 G t v1 S) c := by
  unfold F_184
  repeat' first | with_reducible assumption | with_reducible exact N_none | with_reducible apply n_151 | with_reducible apply n_184_66 | with_reducible apply n_170 | with_reducible apply n_156 | with_reducible apply n_155 | with_reducible apply N_some | with_reducible apply N_jif | with_reducible apply N_bif | with_reducible apply N_bind | with_reducible apply N_obind | with_reducible apply N_sif | with_reducible apply N_ssm | with_reducible apply N_i | with_reducible apply N_l | with_reducible intro _ | fail | omega
theorem n_185_189 (k94 : Int32 → sS → Option (Unit × sS)) (k99 : Int32 → Int32 → Int32 → sS → Option (Unit × sS)) (v2 : Int32) (v3 : Int32) (v4 : Int32) (S : sS) (hk0 : ∀ x0 S, kN S = c → Np (k94 x0 S) c) (hk1 : ∀ x0 x1 x2 S, kN S = c → Np (k99 x0 x1 x2 S) c) (hS : kN S = c) : Np (F_185_189 G t k94 k99 v2 v3 v4 S) c := by
  unfold F_185_189
  repeat' first | with_reducible assumption | with_reducible exact N_none | with_reducible apply hk0 | with_reducible apply hk1 | with_reducible apply N_some | with_reducible apply N_jif | with_reducible apply N_bif | with_reducible apply N_bind | with_reducible apply N_obind | with_reducible apply N_sif | with_reducible apply N_ssm | with_reducible apply N_i | with_reducible apply N_l | with_reducible intro _ | fail | omega
theorem n_185_186 (k94 : Int32 → sS → Option (Unit × sS)) (k99 : Int32 → Int32 → Int32 → sS → Option (Unit × sS)) (v2 : Int32) (v4 : Int32) (S : sS) (hk0 : ∀ x0 S, kN S = c → Np (k94 x0 S) c) (hk1 : ∀ x0 x1 x2 S, kN S = c → Np (k99 x0 x1 x2 S) c) (hS : kN S = c) : Np (F_185_186 G t k94 k99 v2 v4 S) c := by
  unfold F_185_186
  repeat' first | with_reducible assumption | with_reducible exact N_none | with_reducible apply hk0 | with_reducible apply hk1 | with_reducible apply n_185_189 | with_reducible apply N_some | with_reducible apply N_jif | with_reducible apply N_bif | with_reducible apply N_bind | with_reducible apply N_obind | with_reducible apply N_sif | with_reducible apply N_ssm | with_reducible apply N_i | with_reducible apply N_l | with_reducible intro _ | fail | omega
theorem n_185_159 (k94 : Int32 → sS → Option (Unit × sS)) (k99 : Int32 → Int32 → Int32 → sS → Option (Unit × sS)) (v2 : Int32) (v3 : Int32) (v4 : Int32) (S : sS) (hk0 : ∀ x0 S, kN S = c → Np (k94 x0 S) c) (hk1 : ∀ x0 x1 x2 S, kN S = c → Np (k99 x0 x1 x2 S) c) (hS : kN S = c) : Np (F_185_159 G t k94 k99 v2 v3 v4 S) c := by
  unfold F_185_159
  repeat' first | with_reducible assumption | with_reducible exact N_none | with_reducible apply hk0 | with_reducible apply hk1 | with_reducible apply n_185_186 | with_reducible apply n_185_189 | with_reducible apply N_some | with_reducible apply N_jif | with_reducible apply N_bif | with_reducible apply N_bind | with_reducible apply N_obind | with_reducible apply N_sif | with_reducible apply N_ssm | with_reducible apply N_i | with_reducible apply N_l | with_reducible intro _ | fail | omega
theorem n_185_347 (k94 : Int32 → sS → Option (Unit × sS)) (v2 : Int32) (v3 : Int32) (v4 : (Nat × Nat)) (w0 : Int32) (w1 : Int32) (w2 : (Nat × Nat)) (S : sS) (hk0 : ∀ x0 S, kN S = c → Np (k94 x0 S) c) (hS : kN S = c) : Np (F_185_347 G t k94 v2 v3 v4 w0 w1 w2 S) c := by
  unfold F_185_347
  repeat' first | with_reducible assumption | with_reducible exact N_none | with_reducible apply hk0 | with_reducible apply n_163 | with_reducible apply n_155 | with_reducible apply n_178 | with_reducible apply N_some | with_reducible apply N_jif | with_reducible apply N_bif | with_reducible apply N_bind | with_reducible apply N_obind | with_reducible apply N_sif | with_reducible apply N_ssm | with_reducible apply N_i | with_reducible apply N_l | with_reducible intro _ | fail | omega
theorem n_185_275 (k94 : Int32 → sS → Option (Unit × sS)) (v2 : Int32) (v3 : Int32) (v4 : (Nat × Nat)) (v5 : Int32) (S : sS) (hk0 : ∀ x0 S, kN S = c → Np (k94 x0 S) c) (hS : kN S = c) : Np (F_185_275 G t k94 v2 v3 v4 v5 S) c := by
  unfold F_185_275
  repeat' first | with_reducible assumption | with_reducible exact N_none | with_reducible apply hk0 | with_reducible apply n_151 | with_reducible apply n_185_347 | with_reducible apply n_179 | with_reducible apply N_some | with_reducible apply N_jif | with_reducible apply N_bif | with_reducible apply N_bind | with_reducible apply N_obind | with_reducible apply N_sif | with_reducible apply N_ssm | with_reducible apply N_i | with_reducible apply N_l | with_reducible intro _ | fail | omega
theorem n_185_273 (k94 : Int32 → sS → Option (Unit × sS)) (v2 : Int32) (v3 : Int32) (v4 : (Nat × Nat)) (w0 : Int32) (S : sS) (hk0 : ∀ x0 S, kN S = c → Np (k94 x0 S) c) (hS : kN S = c) : Np (F_185_273 G t k94 v2 v3 v4 w0 S) c := by
  unfold F_185_273
  repeat' first | with_reducible assumption | with_reducible exact N_none | with_reducible apply hk0 | with_reducible apply n_185_275 | with_reducible apply N_some | with_reducible apply N_jif | with_reducible apply N_bif | with_reducible apply N_bind | with_reducible apply N_obind | with_reducible apply N_sif | with_reducible apply N_ssm | with_reducible apply N_i | with_reducible apply N_l | with_reducible intro _ | fail | omega
theorem n_185_223 (k94 : Int32 → sS → Option (Unit × sS)) (v2 : Int32) (v3 : Int32) (v4 : (Nat × Nat)) (w0 : Int32) (S : sS) (hk0 : ∀ x0 S, kN S = c → Np (k94 x0 S) c) (hS : kN S = c) : Np (F_185_223 G t k94 v2 v3 v4 w0 S) c := by
  unfold F_185_223
  repeat' first | with_reducible assumption | with_reducible exact N_none | with_reducible apply hk0 | with_reducible apply n_185_275 | with_reducible apply n_174 | with_reducible apply n_173 | with_reducible apply n_185_273 | with_reducible apply N_some | with_reducible apply N_jif | with_reducible apply N_bif | with_reducible apply N_bind | with_reducible apply N_obind | with_reducible apply N_sif | with_reducible apply N_ssm | with_reducible apply N_i | with_reducible apply N_l | with_reducible intro _ | fail | omega
set_option maxHeartbeats 4000000 in
set_option linter.unusedSimpArgs false in
theorem n_185_99 (k94 : Int32 → sS → Option (Unit × sS)) (hk0 : ∀ x0 S, kN S = c → Np (k94 x0 S) c) : ∀ tt u0 u1 u2 S, kN S = c → Np (F_185_99 G t k94 tt u0 u1 u2 S) c := by
  intro tt
  induction tt with
  | zero => intros; exact N_none
  | succ tt ih =>
    intro u0 u1 u2 S hS
    rw [F_185_99]
    try dsimp only
    repeat' first | with_reducible assumption | with_reducible exact N_none | with_reducible apply ih | with_reducible apply hk0 | with_reducible apply n_174 | with_reducible apply n_185_223 | with_reducible apply n_185_189 | with_reducible apply n_185_159 | with_reducible apply N_some | with_reducible apply N_jif | with_reducible apply N_bif | with_reducible apply N_bind | with_reducible apply N_obind | with_reducible apply N_sif | with_reducible apply N_ssm | with_reducible apply N_i | with_reducible apply N_l | with_reducible intro _ | fail | omega
set_option maxHeartbeats 4000000 in
set_option linter.unusedSimpArgs false in
theorem n_185_94  : ∀ tt u0 S, kN S = c → Np (F_185_94 G t  tt u0 S) c := by
  intro tt
  induction tt with
  | zero => intros; exact N_none
  | succ tt ih =>
    intro u0 S hS
    rw [F_185_94]
    try dsimp only
    repeat' first | with_reducible assumption | with_reducible exact N_none | with_reducible apply ih | with_reducible apply n_185_99 | with_reducible apply N_some | with_reducible apply N_jif | with_reducible apply N_bif | with_reducible apply N_bind | with_reducible apply N_obind | with_reducible apply N_sif | with_reducible apply N_ssm | with_reducible apply N_i | with_reducible apply N_l | with_reducible intro _ | fail | omega
theorem n_185 (v1 : (Nat × Nat)) (S : sS) (hS : kN S = c) : Np (F_185 G t v1 S) c := by
  unfold F_185
  repeat' first | with_reducible assumption | with_reducible exact N_none | with_reducible apply n_156 | with_reducible apply n_170 | with_reducible apply n_158 | with_reducible apply n_185_94 | with_reducible apply n_155 | with_reducible apply N_some | with_reducible apply N_jif | with_reducible apply N_bif | with_reducible apply N_bind | with_reducible apply N_obind | with_reducible apply N_sif | with_reducible apply N_ssm | with_reducible apply N_i | with_reducible apply N_l | with_reducible intro _ | fail | omega
theorem n_186_89 (v1 : (Nat × Nat)) (v3 : Int32) (S : sS) (hS : kN S = c) : Np (F_186_89 G t v1 v3 S) c := by
  unfold F_186_89
  repeat' first | with_reducible assumption | with_reducible exact N_none | with_reducible apply n_156 | with_reducible apply n_155 | with_reducible apply N_some | with_reducible apply N_jif | with_reducible apply N_bif | with_reducible apply N_bind | with_reducible apply N_obind | with_reducible apply N_sif | with_reducible apply N_ssm | with_reducible apply N_i | with_reducible apply N_l | with_reducible intro _ | fail | omega
theorem n_186_76 (k25 : (Nat × Nat) → Int32 → Int32 → (Nat × Nat) → Int32 → Int32 → sS → Option (Unit × sS)) (v1 : (Nat × Nat)) (v2 : Int32) (v3 : Int32) (v4 : (Nat × Nat)) (v5 : Int32) (v6 : Int32) (v7 : Int32) (S : sS) (hk0 : ∀ x0 x1 x2 x3 x4 x5 S, kN S = c → Np (k25 x0 x1 x2 x3 x4 x5 S) c) (hS : kN S = c) : Np (F_186_76 G t k25 v1 v2 v3 v4 v5 v6 v7 S) c := by
  unfold F_186_76
  repeat' first | with_reducible assumption | with_reducible exact N_none | with_reducible apply hk0 | with_reducible apply n_186_89 | with_reducible apply N_some | with_reducible apply N_jif | with_reducible apply N_bif | with_reducible apply N_bind | with_reducible apply N_obind | with_reducible apply N_sif | with_reducible apply N_ssm | with_reducible apply N_i | with_reducible apply N_l | with_reducible intro _ | fail | omega
theorem n_186_284 (v1 : (Nat × Nat)) (v6 : Int32) (S : sS) (hS : kN S = c) : Np (F_186_284 G t v1 v6 S) c := by
  unfold F_186_284
  repeat' first | with_reducible assumption | with_reducible exact N_none | with_reducible apply n_157 | with_reducible apply N_some | with_reducible apply N_jif | with_reducible apply N_bif | with_reducible apply N_bind | with_reducible apply N_obind | with_reducible apply N_sif | with_reducible apply N_ssm | with_reducible apply N_i | with_reducible apply N_l | with_reducible intro _ | fail | omega
theorem n_186_250 (v1 : (Nat × Nat)) (v6 : Int32) (v8 : Int32) (v9 : Int32) (v10 : Int64) (v12 : Int32) (S : sS) (hS : kN S = c) : Np (F_186_250 G t v1 v6 v8 v9 v10 v12 S) c := by
  unfold F_186_250
  repeat' first | with_reducible assumption | with_reducible exact N_none | with_reducible apply n_183 | with_reducible apply n_186_284 | with_reducible apply n_180 | with_reducible apply N_some | with_reducible apply N_jif | with_reducible apply N_bif | with_reducible apply N_bind | with_reducible apply N_obind | with_reducible apply N_sif | with_reducible apply N_ssm | with_reducible apply N_i | with_reducible apply N_l | with_reducible intro _ | fail | omega
theorem n_186_311 (k116 : (Nat × Nat) → Int32 → Int32 → (Nat × Nat) → Int32 → Int32 → sS → Option (Unit × sS)) (v1 : (Nat × Nat)) (v2 : Int32) (v3 : Int32) (v4 : (Nat × Nat)) (v5 : Int32) (v6 : Int32) (S : sS) (hk0 : ∀ x0 x1 x2 x3 x4 x5 S, kN S = c → Np (k116 x0 x1 x2 x3 x4 x5 S) c) (hS : kN S = c) : Np (F_186_311 G t k116 v1 v2 v3 v4 v5 v6 S) c := by
  unfold F_186_311
  repeat' first | with_reducible assumption | with_reducible exact N_none | with_reducible apply hk0 | with_reducible apply N_some | with_reducible apply N_jif | with_reducible apply N_bif | with_reducible apply N_bind | with_reducible apply N_obind | with_reducible apply N_sif | with_reducible apply N_ssm | with_reducible apply N_i | with_reducible apply N_l | with_reducible intro _ | fail | omega
theorem n_186_186 (k116 : (Nat × Nat) → Int32 → Int32 → (Nat × Nat) → Int32 → Int32 → sS → Option (Unit × sS)) (v1 : (Nat × Nat)) (v2 : Int32) (v3 : Int32) (v4 : (Nat × Nat)) (v5 : Int32) (v6 : Int32) (v7 : Int32) (v8 : Int32) (v9 : Int32) (v10 : Int64) (w0 : Int32) (S : sS) (hk0 : ∀ x0 x1 x2 x3 x4 x5 S, kN S = c → Np (k116 x0 x1 x2 x3 x4 x5 S) c) (hS : kN S = c) : Np (F_186_186 G t k116 v1 v2 v3 v4 v5 v6 v7 v8 v9 v10 w0 S) c := by
  unfold F_186_186
  repeat' first | with_reducible assumption | with_reducible exact N_none | with_reducible apply hk0 | with_reducible apply n_186_311 | with_reducible apply n_176 | with_reducible apply n_156 | with_reducible apply n_186_250 | with_reducible apply n_155 | with_reducible apply N_some | with_reducible apply N_jif | with_reducible apply N_bif | with_reducible apply N_bind | with_reducible apply N_obind | with_reducible apply N_sif | with_reducible apply N_ssm | with_reducible apply N_i | with_reducible apply N_l | with_reducible intro _ | fail | omega
set_option maxHeartbeats 4000000 in
set_option linter.unusedSimpArgs false in
theorem n_186_116  : ∀ tt u0 u1 u2 u3 u4 u5 S, kN S = c → Np (F_186_116 G t  tt u0 u1 u2 u3 u4 u5 S) c := by
  intro tt
  induction tt with
  | zero => intros; exact N_none
  | succ tt ih =>
    intro u0 u1 u2 u3 u4 u5 S hS
    rw [F_186_116]
    try dsimp only
    repeat' first | with_reducible assumption | with_reducible exact N_none | with_reducible apply ih | with_reducible apply n_156 | with_reducible apply n_157 | with_reducible apply n_177 | with_reducible apply n_186_186 | with_reducible apply N_some | with_reducible apply N_jif | with_reducible apply N_bif | with_reducible apply N_bind | with_reducible apply N_obind | with_reducible apply N_sif | with_reducible apply N_ssm | with_reducible apply N_i | with_reducible apply N_l | with_reducible intro _ | fail | omega
set_option maxHeartbeats 4000000 in
set_option linter.unusedSimpArgs false in
theorem n_186_25  : ∀ tt u0 u1 u2 u3 u4 u5 S, kN S = c → Np (F_186_25 G t  tt u0 u1 u2 u3 u4 u5 S) c := by
  intro tt
  induction tt with
  | zero => intros; exact N_none
  | succ tt ih =>
    intro u0 u1 u2 u3 u4 u5 S hS
    rw [F_186_25]
    try dsimp only
    repeat' first | with_reducible assumption | with_reducible exact N_none | with_reducible apply ih | with_reducible apply n_186_116 | with_reducible apply n_186_76 | with_reducible apply n_170 | with_reducible apply n_186_89 | with_reducible apply N_some | with_reducible apply N_jif | with_reducible apply N_bif | with_reducible apply N_bind | with_reducible apply N_obind | with_reducible apply N_sif | with_reducible apply N_ssm | with_reducible apply N_i | with_reducible apply N_l | with_reducible intro _ | fail | omega
theorem n_186 (v1 : (Nat × Nat)) (v2 : Int32) (S : sS) (hS : kN S = c) : Np (F_186 G t v1 v2 S) c := by
  unfold F_186
  repeat' first | with_reducible assumption | with_reducible exact N_none | with_reducible apply n_151 | with_reducible apply n_186_25 | with_reducible apply N_some | with_reducible apply N_jif | with_reducible apply N_bif | with_reducible apply N_bind | with_reducible apply N_obind | with_reducible apply N_sif | with_reducible apply N_ssm | with_reducible apply N_i | with_reducible apply N_l | with_reducible intro _ | fail | omega
theorem n_187_38 (v1 : (Nat × Nat)) (S : sS) (hS : kN S = c) : Np (F_187_38 G t v1 S) c := by
  unfold F_187_38
  repeat' first | with_reducible assumption | with_reducible exact N_none | with_reducible apply n_157 | with_reducible apply N_some | with_reducible apply N_jif | with_reducible apply N_bif | with_reducible apply N_bind | with_reducible apply N_obind | with_reducible apply N_sif | with_reducible apply N_ssm | with_reducible apply N_i | with_reducible apply N_l | with_reducible intro _ | fail | omega
theorem n_187_22 (v1 : (Nat × Nat)) (v2 : (Nat × Nat)) (w0 : (Nat × Nat)) (S : sS) (hS : kN S = c) : Np (F_187_22 G t v1 v2 w0 S) c := by
  unfold F_187_22
  repeat' first | with_reducible assumption | with_reducible exact N_none | with_reducible apply n_187_38 | with_reducible apply n_157 | with_reducible apply N_some | with_reducible apply N_jif | with_reducible apply N_bif | with_reducible apply N_bind | with_reducible apply N_obind | with_reducible apply N_sif | with_reducible apply N_ssm | with_reducible apply N_i | with_reducible apply N_l | with_reducible intro _ | fail | omega
theorem n_187 (v1 : (Nat × Nat)) (v2 : (Nat × Nat)) (S : sS) (hS : kN S = c) : Np (F_187 G t v1 v2 S) c := by
  unfold F_187
  repeat' first | with_reducible assumption | with_reducible exact N_none | with_reducible apply n_187_22 | with_reducible apply N_some | with_reducible apply N_jif | with_reducible apply N_bif | with_reducible apply N_bind | with_reducible apply N_obind | with_reducible apply N_sif | with_reducible apply N_ssm | with_reducible apply N_i | with_reducible apply N_l | with_reducible intro _ | fail | omega
theorem n_188_35 (v1 : (Nat × Nat)) (v5 : Int32) (S : sS) (hS : kN S = c) : Np (F_188_35 G t v1 v5 S) c := by
  unfold F_188_35
  repeat' first | with_reducible assumption | with_reducible exact N_none | with_reducible apply n_156 | with_reducible apply n_155 | with_reducible apply N_some | with_reducible apply N_jif | with_reducible apply N_bif | with_reducible apply N_bind | with_reducible apply N_obind | with_reducible apply N_sif | with_reducible apply N_ssm | with_reducible apply N_i | with_reducible apply N_l | with_reducible intro _ | fail | omega
theorem n_188_450 (v1 : (Nat × Nat)) (v3 : Int32) (S : sS) (hS : kN S = c) : Np (F_188_450 G t v1 v3 S) c := by
  unfold F_188_450
  repeat' first | with_reducible assumption | with_reducible exact N_none | with_reducible apply n_159 | with_reducible apply N_some | with_reducible apply N_jif | with_reducible apply N_bif | with_reducible apply N_bind | with_reducible apply N_obind | with_reducible apply N_sif | with_reducible apply N_ssm | with_reducible apply N_i | with_reducible apply N_l | with_reducible intro _ | fail | omega
theorem n_188_514 (w0 : Int32) (w1 : (Nat × Nat)) (S : sS) (hS : kN S = c) : Np (F_188_514 G t w0 w1 S) c := by
  unfold F_188_514
  repeat' first | with_reducible assumption | with_reducible exact N_none | with_reducible apply n_160 | with_reducible apply N_some | with_reducible apply N_jif | with_reducible apply N_bif | with_reducible apply N_bind | with_reducible apply N_obind | with_reducible apply N_sif | with_reducible apply N_ssm | with_reducible apply N_i | with_reducible apply N_l | with_reducible intro _ | fail | omega
theorem n_188_509 (w0 : (Nat × Nat)) (S : sS) (hS : kN S = c) : Np (F_188_509 G t w0 S) c := by
  unfold F_188_509
  repeat' first | with_reducible assumption | with_reducible exact N_none | with_reducible apply n_188_514 | with_reducible apply N_some | with_reducible apply N_jif | with_reducible apply N_bif | with_reducible apply N_bind | with_reducible apply N_obind | with_reducible apply N_sif | with_reducible apply N_ssm | with_reducible apply N_i | with_reducible apply N_l | with_reducible intro _ | fail | omega
theorem n_188_513 (w0 : (Nat × Nat)) (S : sS) (hS : kN S = c) : Np (F_188_513 G t w0 S) c := by
  unfold F_188_513
  repeat' first | with_reducible assumption | with_reducible exact N_none | with_reducible apply n_188_514 | with_reducible apply N_some | with_reducible apply N_jif | with_reducible apply N_bif | with_reducible apply N_bind | with_reducible apply N_obind | with_reducible apply N_sif | with_reducible apply N_ssm | with_reducible apply N_i | with_reducible apply N_l | with_reducible intro _ | fail | omega
theorem n_188_564 (w0 : Int32) (w1 : (Nat × Nat)) (S : sS) (hS : kN S = c) : Np (F_188_564 G t w0 w1 S) c := by
  unfold F_188_564
  repeat' first | with_reducible assumption | with_reducible exact N_none | with_reducible apply n_160 | with_reducible apply N_some | with_reducible apply N_jif | with_reducible apply N_bif | with_reducible apply N_bind | with_reducible apply N_obind | with_reducible apply N_sif | with_reducible apply N_ssm | with_reducible apply N_i | with_reducible apply N_l | with_reducible intro _ | fail | omega
theorem n_188_559 (w0 : (Nat × Nat)) (S : sS) (hS : kN S = c) : Np (F_188_559 G t w0 S) c := by
  unfold F_188_559
  repeat' first | with_reducible assumption | with_reducible exact N_none | with_reducible apply n_188_564 | with_reducible apply N_some | with_reducible apply N_jif | with_reducible apply N_bif | with_reducible apply N_bind | with_reducible apply N_obind | with_reducible apply N_sif | with_reducible apply N_ssm | with_reducible apply N_i | with_reducible apply N_l | with_reducible intro _ | fail | omega
theorem n_188_563 (w0 : (Nat × Nat)) (S : sS) (hS : kN S = c) : Np (F_188_563 G t w0 S) c := by
  unfold F_188_563
  repeat' first | with_reducible assumption | with_reducible exact N_none | with_reducible apply n_188_564 | with_reducible apply N_some | with_reducible apply N_jif | with_reducible apply N_bif | with_reducible apply N_bind | with_reducible apply N_obind | with_reducible apply N_sif | with_reducible apply N_ssm | with_reducible apply N_i | with_reducible apply N_l | with_reducible intro _ | fail | omega
theorem n_188_614 (v2 : (Nat × Nat)) (v4 : Int32) (S : sS) (hS : kN S = c) : Np (F_188_614 G t v2 v4 S) c := by
  unfold F_188_614
  repeat' first | with_reducible assumption | with_reducible exact N_none | with_reducible apply N_some | with_reducible apply N_jif | with_reducible apply N_bif | with_reducible apply N_bind | with_reducible apply N_obind | with_reducible apply N_sif | with_reducible apply N_ssm | with_reducible apply N_i | with_reducible apply N_l | with_reducible intro _ | fail | omega
theorem n_188_691 (v4 : Int32) (w0 : Int32) (w1 : (Nat × Nat)) (S : sS) (hS : kN S = c) : Np (F_188_691 G t v4 w0 w1 S) c := by
  unfold F_188_691
  repeat' first | with_reducible assumption | with_reducible exact N_none | with_reducible apply n_169 | with_reducible apply N_some | with_reducible apply N_jif | with_reducible apply N_bif | with_reducible apply N_bind | with_reducible apply N_obind | with_reducible apply N_sif | with_reducible apply N_ssm | with_reducible apply N_i | with_reducible apply N_l | with_reducible intro _ | fail | omega
theorem n_188_678 (v1 : (Nat × Nat)) (v3 : Int32) (v4 : Int32) (S : sS) (hS : kN S = c) : Np (F_188_678 G t v1 v3 v4 S) c := by
  unfold F_188_678
  repeat' first | with_reducible assumption | with_reducible exact N_none | with_reducible apply n_188_691 | with_reducible apply N_some | with_reducible apply N_jif | with_reducible apply N_bif | with_reducible apply N_bind | with_reducible apply N_obind | with_reducible apply N_sif | with_reducible apply N_ssm | with_reducible apply N_i | with_reducible apply N_l | with_reducible intro _ | fail | omega
theorem n_188_760 (v1 : (Nat × Nat)) (w0 : Int32) (w1 : (Nat × Nat)) (S : sS) (hS : kN S = c) : Np (F_188_760 G t v1 w0 w1 S) c := by
  unfold F_188_760
  repeat' first | with_reducible assumption | with_reducible exact N_none | with_reducible apply n_158 | with_reducible apply n_171 | with_reducible apply N_some | with_reducible apply N_jif | with_reducible apply N_bif | with_reducible apply N_bind | with_reducible apply N_obind | with_reducible apply N_sif | with_reducible apply N_ssm | with_reducible apply N_i | with_reducible apply N_l | with_reducible intro _ | fail | omega
theorem n_188_804 (v1 : (Nat × Nat)) (w0 : Int32) (w1 : (Nat × Nat)) (S : sS) (hS : kN S = c) : Np (F_188_804 G t v1 w0 w1 S) c := by
  unfold F_188_804
  repeat' first | with_reducible assumption | with_reducible exact N_none | with_reducible apply n_158 | with_reducible apply n_172 | with_reducible apply N_some | with_reducible apply N_jif | with_reducible apply N_bif | with_reducible apply N_bind | with_reducible apply N_obind | with_reducible apply N_sif | with_reducible apply N_ssm | with_reducible apply N_i | with_reducible apply N_l | with_reducible intro _ | fail | omega
theorem n_188_913 (w0 : Int64) (w1 : Int32) (w2 : (Nat × Nat)) (S : sS) (hS : kN S = c) : Np (F_188_913 G t w0 w1 w2 S) c := by
  unfold F_188_913
  repeat' first | with_reducible assumption | with_reducible exact N_none | with_reducible apply n_157 | with_reducible apply N_some | with_reducible apply N_jif | with_reducible apply N_bif | with_reducible apply N_bind | with_reducible apply N_obind | with_reducible apply N_sif | with_reducible apply N_ssm | with_reducible apply N_i | with_reducible apply N_l | with_reducible intro _ | fail | omega
theorem n_188_849 (v1 : (Nat × Nat)) (w0 : Int32) (w1 : (Nat × Nat)) (S : sS) (hS : kN S = c) : Np (F_188_849 G t v1 w0 w1 S) c := by
  unfold F_188_849
  repeat' first | with_reducible assumption | with_reducible exact N_none | with_reducible apply n_158 | with_reducible apply n_188_913 | with_reducible apply N_some | with_reducible apply N_jif | with_reducible apply N_bif | with_reducible apply N_bind | with_reducible apply N_obind | with_reducible apply N_sif | with_reducible apply N_ssm | with_reducible apply N_i | with_reducible apply N_l | with_reducible intro _ | fail | omega
theorem n_188_975 (w0 : Int32) (w1 : (Nat × Nat)) (S : sS) (hS : kN S = c) : Np (F_188_975 G t w0 w1 S) c := by
  unfold F_188_975
  repeat' first | with_reducible assumption | with_reducible exact N_none | with_reducible apply n_158 | with_reducible apply N_some | with_reducible apply N_jif | with_reducible apply N_bif | with_reducible apply N_bind | with_reducible apply N_obind | with_reducible apply N_sif | with_reducible apply N_ssm | with_reducible apply N_i | with_reducible apply N_l | with_reducible intro _ | fail | omega
theorem n_188_1120 (v1 : (Nat × Nat)) (w0 : Int32) (w1 : (Nat × Nat)) (S : sS) (hS : kN S = c) : Np (F_188_1120 G t v1 w0 w1 S) c := by
  unfold F_188_1120
  repeat' first | with_reducible assumption | with_reducible exact N_none | with_reducible apply n_158 | with_reducible apply n_155 | with_reducible apply N_some | with_reducible apply N_jif | with_reducible apply N_bif | with_reducible apply N_bind | with_reducible apply N_obind | with_reducible apply N_sif | with_reducible apply N_ssm | with_reducible apply N_i | with_reducible apply N_l | with_reducible intro _ | fail | omega
theorem n_188 (v1 : (Nat × Nat)) (v2 : (Nat × Nat)) (v3 : Int32) (v4 : Int32) (S : sS) (hS : kN S = c) : Np (F_188 G t v1 v2 v3 v4 S) c := by
  unfold F_188
  repeat' first | with_reducible assumption | with_reducible exact N_none | with_reducible apply n_152 | with_reducible apply n_188_35 | with_reducible apply n_153 | with_reducible apply n_187 | with_reducible apply n_157 | with_reducible apply n_156 | with_reducible apply n_188_450 | with_reducible apply n_188_513 | with_reducible apply n_188_509 | with_reducible apply n_188_559 | with_reducible apply n_188_563 | with_reducible apply n_188_614 | with_reducible apply n_162 | with_reducible apply n_154 | with_reducible apply n_164 | with_reducible apply n_188_678 | with_reducible apply n_171 | with_reducible apply n_172 | with_reducible apply n_188_760 | with_reducible apply n_188_804 | with_reducible apply n_188_849 | with_reducible apply n_181 | with_reducible apply n_184 | with_reducible apply n_185 | with_reducible apply n_186 | with_reducible apply n_188_975 | with_reducible apply n_155 | with_reducible apply n_188_1120 | with_reducible apply N_some | with_reducible apply N_jif | with_reducible apply N_bif | with_reducible apply N_bind | with_reducible apply N_obind | with_reducible apply N_sif | with_reducible apply N_ssm | with_reducible apply N_i | with_reducible apply N_l | with_reducible intro _ | fail | omega
set_option maxHeartbeats 4000000 in
set_option linter.unusedSimpArgs false in
theorem n_189_45  : ∀ tt u0 S, kN S = c → Np (F_189_45 G t  tt u0 S) c := by
  intro tt
  induction tt with
  | zero => intros; exact N_none
  | succ tt ih =>
    intro u0 S hS
    rw [F_189_45]
    try dsimp only
    repeat' first | with_reducible assumption | with_reducible exact N_none | with_reducible apply ih | with_reducible apply N_some | with_reducible apply N_jif | with_reducible apply N_bif | with_reducible apply N_bind | with_reducible apply N_obind | with_reducible apply N_sif | with_reducible apply N_ssm | with_reducible apply N_i | with_reducible apply N_l | with_reducible intro _ | fail | omega
theorem n_189 (S : sS) (hS : kN S = c) : Np (F_189 G t S) c := by
  unfold F_189
  repeat' first | with_reducible assumption | with_reducible exact N_none | with_reducible apply n_189_45 | with_reducible apply N_some | with_reducible apply N_jif | with_reducible apply N_bif | with_reducible apply N_bind | with_reducible apply N_obind | with_reducible apply N_sif | with_reducible apply N_ssm | with_reducible apply N_i | with_reducible apply N_l | with_reducible intro _ | fail | omega
theorem n_190_118 (w0 : Int32) (S : sS) (hS : kN S = c) : Np (F_190_118 G t w0 S) c := by
  unfold F_190_118
  repeat' first | with_reducible assumption | with_reducible exact N_none | with_reducible apply N_some | with_reducible apply N_jif | with_reducible apply N_bif | with_reducible apply N_bind | with_reducible apply N_obind | with_reducible apply N_sif | with_reducible apply N_ssm | with_reducible apply N_i | with_reducible apply N_l | with_reducible intro _ | fail | omega
theorem n_190_185 (S : sS) (hS : kN S = c) : Np (F_190_185 G t S) c := by
  unfold F_190_185
  repeat' first | with_reducible assumption | with_reducible exact N_none | with_reducible apply n_189 | with_reducible apply N_some | with_reducible apply N_jif | with_reducible apply N_bif | with_reducible apply N_bind | with_reducible apply N_obind | with_reducible apply N_sif | with_reducible apply N_ssm | with_reducible apply N_i | with_reducible apply N_l | with_reducible intro _ | fail | omega
theorem n_190_154 (v1 : (Nat × Nat)) (S : sS) (hS : kN S = c) : Np (F_190_154 G t v1 S) c := by
  unfold F_190_154
  repeat' first | with_reducible assumption | with_reducible exact N_none | with_reducible apply n_190_185 | with_reducible apply N_some | with_reducible apply N_jif | with_reducible apply N_bif | with_reducible apply N_bind | with_reducible apply N_obind | with_reducible apply N_sif | with_reducible apply N_ssm | with_reducible apply N_i | with_reducible apply N_l | with_reducible intro _ | fail | omega
theorem n_190 (S : sS) (hS : kN S = c) : Np (F_190 G t S) c := by
  unfold F_190
  repeat' first | with_reducible assumption | with_reducible exact N_none | with_reducible apply n_150 | with_reducible apply n_151 | with_reducible apply n_188 | with_reducible apply n_190_154 | with_reducible apply n_190_118 | with_reducible apply N_some | with_reducible apply N_jif | with_reducible apply N_bif | with_reducible apply N_bind | with_reducible apply N_obind | with_reducible apply N_sif | with_reducible apply N_ssm | with_reducible apply N_i | with_reducible apply N_l | with_reducible intro _ | fail | omega
end NS
