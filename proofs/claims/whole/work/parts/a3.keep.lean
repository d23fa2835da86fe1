/-! printed by gena3.py: no instruction changes who runs nor the state -/
def kq (S : sS) : Int32 × Int32 := (S.1 8 0 0 5, S.1 23 0 0 7)
def Kp {α : Type} (X : Option (α × sS)) (c : Int32 × Int32) : Prop := ∀ q, X = some q → kq q.2 = c
section KEP
variable {G : jG} {t : Nat} {c : Int32 × Int32} {α β : Type}
theorem Kp.h {X : Option (α × sS)} (h : Kp X c) : ∀ q, X = some q → kq q.2 = c := h
theorem K_none : Kp (none : Option (α × sS)) c := fun q h => by cases h
theorem K_some {x : α} {S : sS} (h : kq S = c) : Kp (some (x, S)) c := fun q e => by cases e; exact h
theorem K_jif {b : Bool} {X : Option (α × sS)} (h : Kp X c) : Kp (jif b X) c := by
  cases b with
  | true => exact h
  | false => exact K_none
theorem K_bif {b : Bool} {X Y : Option (α × sS)} (h : Kp X c) (h' : Kp Y c) : Kp (bif b then X else Y) c := by
  cases b with
  | true => exact h
  | false => exact h'
theorem K_bind {X : Option (α × sS)} {f : α × sS → Option (β × sS)} (h : Kp X c) (h' : ∀ q, kq q.2 = c → Kp (f q) c) : Kp (X.bind f) c := by
  cases X with
  | none => exact K_none
  | some q => exact h' q (h.h q rfl)
theorem K_obind {γ : Type} {o : Option γ} {f : γ → Option (β × sS)} (h : ∀ q, Kp (f q) c) : Kp (o.bind f) c := by
  cases o with
  | none => exact K_none
  | some q => exact h q
theorem K_sif {o : Option (Nat × Nat)} {X : Option (α × sS)} {f : Nat × Nat → Option (α × sS)} (h : Kp X c) (h' : ∀ a, Kp (f a) c) : Kp (sif o X f) c := by
  cases o with
  | none => exact h
  | some a => exact h' a
theorem K_i {S : sS} {t i j k : Nat} {x : Int32} (h : kq S = c) (hh : ¬ (t = 8 ∧ k = 5) ∧ ¬ (t = 23 ∧ k = 7)) : kq (siI S t i j k x) = c := by
  rw [← h]
  unfold kq
  rw [gI, gI, if_neg (by omega), if_neg (by omega)]
theorem K_l {S : sS} {t i j k : Nat} {x : Int64} (h : kq S = c) : kq (siL S t i j k x) = c := h
theorem K_x {S : sS} (h : kq S = c) : kq (sxc S) = c := h
theorem K_sF {S : sS} {s d p : Nat} (h : kq S = c) : kq (ssF S s d p) = c := h
theorem K_sT {S : sS} {d p : Nat} (h : kq S = c) : kq (ssT S d p) = c := h
theorem K_nF {S : sS} (h : kq S = c) : kq (snF S) = c := by
  rw [← h]
  show ((snZ S S.2.2.2.2.1).1 8 0 0 5, (snZ S S.2.2.2.2.1).1 23 0 0 7) = _
  rw [(snZ_old' (S := S) (p := S.2.2.2.2.1) (t := 8) (i := 0) (j := 0) (by omega)).1, (snZ_old' (S := S) (p := S.2.2.2.2.1) (t := 23) (i := 0) (j := 0) (by omega)).1]
  rfl
theorem K_nT {S : sS} (h : kq S = c) : kq (snT S) = c := by
  rw [← h]
  show ((snZ S S.2.2.2.2.1).1 8 0 0 5, (snZ S S.2.2.2.2.1).1 23 0 0 7) = _
  rw [(snZ_old' (S := S) (p := S.2.2.2.2.1) (t := 8) (i := 0) (j := 0) (by omega)).1, (snZ_old' (S := S) (p := S.2.2.2.2.1) (t := 23) (i := 0) (j := 0) (by omega)).1]
  rfl
set_option maxHeartbeats 4000000 in
set_option linter.unusedSimpArgs false in
theorem k_3_24  : ∀ tt u0 u1 S, kq S = c → Kp (F_3_24 G t  tt u0 u1 S) c := by
  intro tt
  induction tt with
  | zero => intros; exact K_none
  | succ tt ih =>
    intro u0 u1 S hS
    rw [F_3_24]
    try dsimp only
    repeat' first | with_reducible assumption | with_reducible exact K_none | with_reducible apply ih | with_reducible apply K_some | with_reducible apply K_jif | with_reducible apply K_bif | with_reducible apply K_bind | with_reducible apply K_obind | with_reducible apply K_sif | with_reducible apply K_i | with_reducible apply K_l | with_reducible apply K_sF | with_reducible apply K_sT | with_reducible apply K_nF | with_reducible apply K_nT | with_reducible apply K_x | with_reducible intro _ | omega
theorem k_3_19 (v0 : (Nat × Nat)) (w0 : Int32) (w1 : (Nat × Nat)) (S : sS) (hS : kq S = c) : Kp (F_3_19 G t v0 w0 w1 S) c := by
  unfold F_3_19
  repeat' first | with_reducible assumption | with_reducible exact K_none | with_reducible apply k_3_24 | with_reducible apply K_some | with_reducible apply K_jif | with_reducible apply K_bif | with_reducible apply K_bind | with_reducible apply K_obind | with_reducible apply K_sif | with_reducible apply K_i | with_reducible apply K_l | with_reducible apply K_sF | with_reducible apply K_sT | with_reducible apply K_nF | with_reducible apply K_nT | with_reducible apply K_x | with_reducible intro _ | omega
theorem k_3 (v0 : (Nat × Nat)) (v1 : Int32) (S : sS) (hS : kq S = c) : Kp (F_3 G t v0 v1 S) c := by
  unfold F_3
  repeat' first | with_reducible assumption | with_reducible exact K_none | with_reducible apply k_3_19 | with_reducible apply K_some | with_reducible apply K_jif | with_reducible apply K_bif | with_reducible apply K_bind | with_reducible apply K_obind | with_reducible apply K_sif | with_reducible apply K_i | with_reducible apply K_l | with_reducible apply K_sF | with_reducible apply K_sT | with_reducible apply K_nF | with_reducible apply K_nT | with_reducible apply K_x | with_reducible intro _ | omega
theorem k_4 (v0 : (Nat × Nat)) (v1 : Int32) (S : sS) (hS : kq S = c) : Kp (F_4 G t v0 v1 S) c := by
  unfold F_4
  repeat' first | with_reducible assumption | with_reducible exact K_none | with_reducible apply K_some | with_reducible apply K_jif | with_reducible apply K_bif | with_reducible apply K_bind | with_reducible apply K_obind | with_reducible apply K_sif | with_reducible apply K_i | with_reducible apply K_l | with_reducible apply K_sF | with_reducible apply K_sT | with_reducible apply K_nF | with_reducible apply K_nT | with_reducible apply K_x | with_reducible intro _ | omega
set_option maxHeartbeats 4000000 in
set_option linter.unusedSimpArgs false in
theorem k_8_5 : ∀ tt u0 u1 u2 u3 S, u0.1 ≠ 8 ∧ u0.1 ≠ 23 → kq S = c → Kp (F_8_5 G t tt u0 u1 u2 u3 S) c := by
  intro tt
  induction tt with
  | zero => intros; exact K_none
  | succ tt ih =>
    intro u0 u1 u2 u3 S hu hS
    rw [F_8_5]
    try dsimp only
    repeat' first | with_reducible assumption | with_reducible exact K_none | with_reducible apply ih | with_reducible apply K_some | with_reducible apply K_jif | with_reducible apply K_bif | with_reducible apply K_bind | with_reducible apply K_obind | with_reducible apply K_sif | with_reducible apply K_i | with_reducible apply K_l | with_reducible apply K_sF | with_reducible apply K_sT | with_reducible apply K_nF | with_reducible apply K_nT | with_reducible apply K_x | with_reducible intro _ | exact hu | omega
theorem k_8 (v0 : (Nat × Nat × Nat)) (v1 : Int32) (S : sS) (hu : v0.1 ≠ 8 ∧ v0.1 ≠ 23) (hS : kq S = c) : Kp (F_8 G t v0 v1 S) c := by
  unfold F_8
  repeat' first | with_reducible assumption | with_reducible exact K_none | with_reducible apply k_8_5 | with_reducible apply K_some | with_reducible apply K_jif | with_reducible apply K_bif | with_reducible apply K_bind | with_reducible apply K_obind | with_reducible apply K_sif | with_reducible apply K_i | with_reducible apply K_l | with_reducible apply K_sF | with_reducible apply K_sT | with_reducible apply K_nF | with_reducible apply K_nT | with_reducible apply K_x | with_reducible intro _ | exact hu | omega
theorem k_9 (v0 : (Nat × Nat)) (S : sS) (hS : kq S = c) : Kp (F_9 G t v0 S) c := by
  unfold F_9
  repeat' first | with_reducible assumption | with_reducible exact K_none | with_reducible apply k_8 | with_reducible apply K_some | with_reducible apply K_jif | with_reducible apply K_bif | with_reducible apply K_bind | with_reducible apply K_obind | with_reducible apply K_sif | with_reducible apply K_i | with_reducible apply K_l | with_reducible apply K_sF | with_reducible apply K_sT | with_reducible apply K_nF | with_reducible apply K_nT | with_reducible apply K_x | with_reducible intro _ | exact ⟨(by decide : (16:Nat) ≠ 8), (by decide : (16:Nat) ≠ 23)⟩ | omega
theorem k_10 (S : sS) (hS : kq S = c) : Kp (F_10 G t S) c := by
  unfold F_10
  repeat' first | with_reducible assumption | with_reducible exact K_none | with_reducible apply k_9 | with_reducible apply K_some | with_reducible apply K_jif | with_reducible apply K_bif | with_reducible apply K_bind | with_reducible apply K_obind | with_reducible apply K_sif | with_reducible apply K_i | with_reducible apply K_l | with_reducible apply K_sF | with_reducible apply K_sT | with_reducible apply K_nF | with_reducible apply K_nT | with_reducible apply K_x | with_reducible intro _ | omega
theorem k_17 (v1 : Int32) (S : sS) (hS : kq S = c) : Kp (F_17 G t v1 S) c := by
  unfold F_17
  repeat' first | with_reducible assumption | with_reducible exact K_none | with_reducible apply K_some | with_reducible apply K_jif | with_reducible apply K_bif | with_reducible apply K_bind | with_reducible apply K_obind | with_reducible apply K_sif | with_reducible apply K_i | with_reducible apply K_l | with_reducible apply K_sF | with_reducible apply K_sT | with_reducible apply K_nF | with_reducible apply K_nT | with_reducible apply K_x | with_reducible intro _ | omega
theorem k_22 (v0 : (Nat × Nat)) (S : sS) (hS : kq S = c) : Kp (F_22 G t v0 S) c := by
  unfold F_22
  repeat' first | with_reducible assumption | with_reducible exact K_none | with_reducible apply K_some | with_reducible apply K_jif | with_reducible apply K_bif | with_reducible apply K_bind | with_reducible apply K_obind | with_reducible apply K_sif | with_reducible apply K_i | with_reducible apply K_l | with_reducible apply K_sF | with_reducible apply K_sT | with_reducible apply K_nF | with_reducible apply K_nT | with_reducible apply K_x | with_reducible intro _ | omega
theorem k_24 (v1 : Int32) (S : sS) (hS : kq S = c) : Kp (F_24 G t v1 S) c := by
  unfold F_24
  repeat' first | with_reducible assumption | with_reducible exact K_none | with_reducible apply K_some | with_reducible apply K_jif | with_reducible apply K_bif | with_reducible apply K_bind | with_reducible apply K_obind | with_reducible apply K_sif | with_reducible apply K_i | with_reducible apply K_l | with_reducible apply K_sF | with_reducible apply K_sT | with_reducible apply K_nF | with_reducible apply K_nT | with_reducible apply K_x | with_reducible intro _ | omega
theorem k_25 (v0 : (Nat × Nat)) (v1 : Int32) (v2 : Int32) (S : sS) (hS : kq S = c) : Kp (F_25 G t v0 v1 v2 S) c := by
  unfold F_25
  repeat' first | with_reducible assumption | with_reducible exact K_none | with_reducible apply k_3 | with_reducible apply K_some | with_reducible apply K_jif | with_reducible apply K_bif | with_reducible apply K_bind | with_reducible apply K_obind | with_reducible apply K_sif | with_reducible apply K_i | with_reducible apply K_l | with_reducible apply K_sF | with_reducible apply K_sT | with_reducible apply K_nF | with_reducible apply K_nT | with_reducible apply K_x | with_reducible intro _ | omega
theorem k_26 (v0 : (Nat × Nat)) (v1 : Int32) (S : sS) (hS : kq S = c) : Kp (F_26 G t v0 v1 S) c := by
  unfold F_26
  repeat' first | with_reducible assumption | with_reducible exact K_none | with_reducible apply K_some | with_reducible apply K_jif | with_reducible apply K_bif | with_reducible apply K_bind | with_reducible apply K_obind | with_reducible apply K_sif | with_reducible apply K_i | with_reducible apply K_l | with_reducible apply K_sF | with_reducible apply K_sT | with_reducible apply K_nF | with_reducible apply K_nT | with_reducible apply K_x | with_reducible intro _ | omega
theorem k_27 (v0 : (Nat × Nat)) (v1 : Int32) (S : sS) (hS : kq S = c) : Kp (F_27 G t v0 v1 S) c := by
  unfold F_27
  repeat' first | with_reducible assumption | with_reducible exact K_none | with_reducible apply K_some | with_reducible apply K_jif | with_reducible apply K_bif | with_reducible apply K_bind | with_reducible apply K_obind | with_reducible apply K_sif | with_reducible apply K_i | with_reducible apply K_l | with_reducible apply K_sF | with_reducible apply K_sT | with_reducible apply K_nF | with_reducible apply K_nT | with_reducible apply K_x | with_reducible intro _ | omega
theorem k_28 (v0 : (Nat × Nat)) (v1 : Int32) (v2 : Int64) (v4 : Int32) (S : sS) (hS : kq S = c) : Kp (F_28 G t v0 v1 v2 v4 S) c := by
  unfold F_28
  repeat' first | with_reducible assumption | with_reducible exact K_none | with_reducible apply K_some | with_reducible apply K_jif | with_reducible apply K_bif | with_reducible apply K_bind | with_reducible apply K_obind | with_reducible apply K_sif | with_reducible apply K_i | with_reducible apply K_l | with_reducible apply K_sF | with_reducible apply K_sT | with_reducible apply K_nF | with_reducible apply K_nT | with_reducible apply K_x | with_reducible intro _ | omega
set_option maxHeartbeats 4000000 in
set_option linter.unusedSimpArgs false in
theorem k_29_74  : ∀ tt u0 u1 u2 u3 u4 u5 S, kq S = c → Kp (F_29_74 G t  tt u0 u1 u2 u3 u4 u5 S) c := by
  intro tt
  induction tt with
  | zero => intros; exact K_none
  | succ tt ih =>
    intro u0 u1 u2 u3 u4 u5 S hS
    rw [F_29_74]
    try dsimp only
    repeat' first | with_reducible assumption | with_reducible exact K_none | with_reducible apply ih | with_reducible apply k_26 | with_reducible apply k_27 | with_reducible apply k_28 | with_reducible apply K_some | with_reducible apply K_jif | with_reducible apply K_bif | with_reducible apply K_bind | with_reducible apply K_obind | with_reducible apply K_sif | with_reducible apply K_i | with_reducible apply K_l | with_reducible apply K_sF | with_reducible apply K_sT | with_reducible apply K_nF | with_reducible apply K_nT | with_reducible apply K_x | with_reducible intro _ | omega
theorem k_29_47 (v0 : (Nat × Nat)) (v1 : Int32) (v2 : (Nat × Nat)) (v3 : Int32) (v4 : (Nat × Nat)) (S : sS) (hS : kq S = c) : Kp (F_29_47 G t v0 v1 v2 v3 v4 S) c := by
  unfold F_29_47
  repeat' first | with_reducible assumption | with_reducible exact K_none | with_reducible apply k_24 | with_reducible apply k_25 | with_reducible apply k_17 | with_reducible apply k_29_74 | with_reducible apply K_some | with_reducible apply K_jif | with_reducible apply K_bif | with_reducible apply K_bind | with_reducible apply K_obind | with_reducible apply K_sif | with_reducible apply K_i | with_reducible apply K_l | with_reducible apply K_sF | with_reducible apply K_sT | with_reducible apply K_nF | with_reducible apply K_nT | with_reducible apply K_x | with_reducible intro _ | omega
theorem k_29 (v0 : (Nat × Nat)) (v1 : Int32) (v2 : (Nat × Nat)) (v3 : Int32) (S : sS) (hS : kq S = c) : Kp (F_29 G t v0 v1 v2 v3 S) c := by
  unfold F_29
  repeat' first | with_reducible assumption | with_reducible exact K_none | with_reducible apply k_29_47 | with_reducible apply K_some | with_reducible apply K_jif | with_reducible apply K_bif | with_reducible apply K_bind | with_reducible apply K_obind | with_reducible apply K_sif | with_reducible apply K_i | with_reducible apply K_l | with_reducible apply K_sF | with_reducible apply K_sT | with_reducible apply K_nF | with_reducible apply K_nT | with_reducible apply K_x | with_reducible intro _ | omega
theorem k_30 (v1 : (Nat × Nat)) (S : sS) (hS : kq S = c) : Kp (F_30 G t v1 S) c := by
  unfold F_30
  repeat' first | with_reducible assumption | with_reducible exact K_none | with_reducible apply K_some | with_reducible apply K_jif | with_reducible apply K_bif | with_reducible apply K_bind | with_reducible apply K_obind | with_reducible apply K_sif | with_reducible apply K_i | with_reducible apply K_l | with_reducible apply K_sF | with_reducible apply K_sT | with_reducible apply K_nF | with_reducible apply K_nT | with_reducible apply K_x | with_reducible intro _ | omega
set_option maxHeartbeats 4000000 in
set_option linter.unusedSimpArgs false in
theorem k_31_3  : ∀ tt u0 u1 u2 u3 S, kq S = c → Kp (F_31_3 G t  tt u0 u1 u2 u3 S) c := by
  intro tt
  induction tt with
  | zero => intros; exact K_none
  | succ tt ih =>
    intro u0 u1 u2 u3 S hS
    rw [F_31_3]
    try dsimp only
    repeat' first | with_reducible assumption | with_reducible exact K_none | with_reducible apply ih | with_reducible apply k_22 | with_reducible apply k_4 | with_reducible apply k_29 | with_reducible apply k_30 | with_reducible apply K_some | with_reducible apply K_jif | with_reducible apply K_bif | with_reducible apply K_bind | with_reducible apply K_obind | with_reducible apply K_sif | with_reducible apply K_i | with_reducible apply K_l | with_reducible apply K_sF | with_reducible apply K_sT | with_reducible apply K_nF | with_reducible apply K_nT | with_reducible apply K_x | with_reducible intro _ | omega
theorem k_31 (v1 : Int32) (v2 : (Nat × Nat)) (v3 : Int32) (S : sS) (hS : kq S = c) : Kp (F_31 G t v1 v2 v3 S) c := by
  unfold F_31
  repeat' first | with_reducible assumption | with_reducible exact K_none | with_reducible apply k_31_3 | with_reducible apply K_some | with_reducible apply K_jif | with_reducible apply K_bif | with_reducible apply K_bind | with_reducible apply K_obind | with_reducible apply K_sif | with_reducible apply K_i | with_reducible apply K_l | with_reducible apply K_sF | with_reducible apply K_sT | with_reducible apply K_nF | with_reducible apply K_nT | with_reducible apply K_x | with_reducible intro _ | omega
theorem k_35_101 (k21 : (Nat × Nat) → (Nat × Nat) → Int32 → Int32 → sS → Option (Unit × sS)) (v0 : (Nat × Nat)) (v1 : (Nat × Nat)) (v4 : Int32) (v5 : Int32) (S : sS) (hk0 : ∀ x0 x1 x2 x3 S, kq S = c → Kp (k21 x0 x1 x2 x3 S) c) (hS : kq S = c) : Kp (F_35_101 G t k21 v0 v1 v4 v5 S) c := by
  unfold F_35_101
  repeat' first | with_reducible assumption | with_reducible exact K_none | with_reducible apply hk0 | with_reducible apply K_some | with_reducible apply K_jif | with_reducible apply K_bif | with_reducible apply K_bind | with_reducible apply K_obind | with_reducible apply K_sif | with_reducible apply K_i | with_reducible apply K_l | with_reducible apply K_sF | with_reducible apply K_sT | with_reducible apply K_nF | with_reducible apply K_nT | with_reducible apply K_x | with_reducible intro _ | omega
set_option maxHeartbeats 4000000 in
set_option linter.unusedSimpArgs false in
theorem k_35_21  : ∀ tt u0 u1 u2 u3 S, kq S = c → Kp (F_35_21 G t  tt u0 u1 u2 u3 S) c := by
  intro tt
  induction tt with
  | zero => intros; exact K_none
  | succ tt ih =>
    intro u0 u1 u2 u3 S hS
    rw [F_35_21]
    try dsimp only
    repeat' first | with_reducible assumption | with_reducible exact K_none | with_reducible apply ih | with_reducible apply k_35_101 | with_reducible apply K_some | with_reducible apply K_jif | with_reducible apply K_bif | with_reducible apply K_bind | with_reducible apply K_obind | with_reducible apply K_sif | with_reducible apply K_i | with_reducible apply K_l | with_reducible apply K_sF | with_reducible apply K_sT | with_reducible apply K_nF | with_reducible apply K_nT | with_reducible apply K_x | with_reducible intro _ | omega
theorem k_35_16 (v0 : (Nat × Nat)) (v1 : (Nat × Nat)) (v2 : Int32) (w0 : Int32) (S : sS) (hS : kq S = c) : Kp (F_35_16 G t v0 v1 v2 w0 S) c := by
  unfold F_35_16
  repeat' first | with_reducible assumption | with_reducible exact K_none | with_reducible apply k_35_21 | with_reducible apply K_some | with_reducible apply K_jif | with_reducible apply K_bif | with_reducible apply K_bind | with_reducible apply K_obind | with_reducible apply K_sif | with_reducible apply K_i | with_reducible apply K_l | with_reducible apply K_sF | with_reducible apply K_sT | with_reducible apply K_nF | with_reducible apply K_nT | with_reducible apply K_x | with_reducible intro _ | omega
theorem k_35 (v0 : (Nat × Nat)) (v1 : (Nat × Nat)) (v2 : Int32) (v3 : Int32) (S : sS) (hS : kq S = c) : Kp (F_35 G t v0 v1 v2 v3 S) c := by
  unfold F_35
  repeat' first | with_reducible assumption | with_reducible exact K_none | with_reducible apply k_35_16 | with_reducible apply K_some | with_reducible apply K_jif | with_reducible apply K_bif | with_reducible apply K_bind | with_reducible apply K_obind | with_reducible apply K_sif | with_reducible apply K_i | with_reducible apply K_l | with_reducible apply K_sF | with_reducible apply K_sT | with_reducible apply K_nF | with_reducible apply K_nT | with_reducible apply K_x | with_reducible intro _ | omega
theorem k_36_106 (k13 : (Nat × Nat) → Int32 → sS → Option (Unit × sS)) (k29 : (Nat × Nat) → Int32 → (Nat × Nat) → Int32 → sS → Option (Unit × sS)) (v1 : (Nat × Nat)) (v2 : Int32) (v3 : (Nat × Nat)) (v4 : Int32) (S : sS) (hk0 : ∀ x0 x1 S, kq S = c → Kp (k13 x0 x1 S) c) (hk1 : ∀ x0 x1 x2 x3 S, kq S = c → Kp (k29 x0 x1 x2 x3 S) c) (hS : kq S = c) : Kp (F_36_106 G t k13 k29 v1 v2 v3 v4 S) c := by
  unfold F_36_106
  repeat' first | with_reducible assumption | with_reducible exact K_none | with_reducible apply hk0 | with_reducible apply hk1 | with_reducible apply K_some | with_reducible apply K_jif | with_reducible apply K_bif | with_reducible apply K_bind | with_reducible apply K_obind | with_reducible apply K_sif | with_reducible apply K_i | with_reducible apply K_l | with_reducible apply K_sF | with_reducible apply K_sT | with_reducible apply K_nF | with_reducible apply K_nT | with_reducible apply K_x | with_reducible intro _ | omega
theorem k_36_112 (k13 : (Nat × Nat) → Int32 → sS → Option (Unit × sS)) (v1 : (Nat × Nat)) (v2 : Int32) (S : sS) (hk0 : ∀ x0 x1 S, kq S = c → Kp (k13 x0 x1 S) c) (hS : kq S = c) : Kp (F_36_112 G t k13 v1 v2 S) c := by
  unfold F_36_112
  repeat' first | with_reducible assumption | with_reducible exact K_none | with_reducible apply hk0 | with_reducible apply K_some | with_reducible apply K_jif | with_reducible apply K_bif | with_reducible apply K_bind | with_reducible apply K_obind | with_reducible apply K_sif | with_reducible apply K_i | with_reducible apply K_l | with_reducible apply K_sF | with_reducible apply K_sT | with_reducible apply K_nF | with_reducible apply K_nT | with_reducible apply K_x | with_reducible intro _ | omega
set_option maxHeartbeats 4000000 in
set_option linter.unusedSimpArgs false in
theorem k_36_29 (k13 : (Nat × Nat) → Int32 → sS → Option (Unit × sS)) (hk0 : ∀ x0 x1 S, kq S = c → Kp (k13 x0 x1 S) c) : ∀ tt u0 u1 u2 u3 S, kq S = c → Kp (F_36_29 G t k13 tt u0 u1 u2 u3 S) c := by
  intro tt
  induction tt with
  | zero => intros; exact K_none
  | succ tt ih =>
    intro u0 u1 u2 u3 S hS
    rw [F_36_29]
    try dsimp only
    repeat' first | with_reducible assumption | with_reducible exact K_none | with_reducible apply ih | with_reducible apply hk0 | with_reducible apply k_36_112 | with_reducible apply k_36_106 | with_reducible apply k_35 | with_reducible apply K_some | with_reducible apply K_jif | with_reducible apply K_bif | with_reducible apply K_bind | with_reducible apply K_obind | with_reducible apply K_sif | with_reducible apply K_i | with_reducible apply K_l | with_reducible apply K_sF | with_reducible apply K_sT | with_reducible apply K_nF | with_reducible apply K_nT | with_reducible apply K_x | with_reducible intro _ | omega
set_option maxHeartbeats 4000000 in
set_option linter.unusedSimpArgs false in
theorem k_36_13  : ∀ tt u0 u1 S, kq S = c → Kp (F_36_13 G t  tt u0 u1 S) c := by
  intro tt
  induction tt with
  | zero => intros; exact K_none
  | succ tt ih =>
    intro u0 u1 S hS
    rw [F_36_13]
    try dsimp only
    repeat' first | with_reducible assumption | with_reducible exact K_none | with_reducible apply ih | with_reducible apply k_36_29 | with_reducible apply K_some | with_reducible apply K_jif | with_reducible apply K_bif | with_reducible apply K_bind | with_reducible apply K_obind | with_reducible apply K_sif | with_reducible apply K_i | with_reducible apply K_l | with_reducible apply K_sF | with_reducible apply K_sT | with_reducible apply K_nF | with_reducible apply K_nT | with_reducible apply K_x | with_reducible intro _ | omega
theorem k_36 (v1 : (Nat × Nat)) (S : sS) (hS : kq S = c) : Kp (F_36 G t v1 S) c := by
  unfold F_36
  repeat' first | with_reducible assumption | with_reducible exact K_none | with_reducible apply k_35 | with_reducible apply k_36_13 | with_reducible apply K_some | with_reducible apply K_jif | with_reducible apply K_bif | with_reducible apply K_bind | with_reducible apply K_obind | with_reducible apply K_sif | with_reducible apply K_i | with_reducible apply K_l | with_reducible apply K_sF | with_reducible apply K_sT | with_reducible apply K_nF | with_reducible apply K_nT | with_reducible apply K_x | with_reducible intro _ | omega
theorem k_37 (v0 : (Nat × Nat)) (S : sS) (hS : kq S = c) : Kp (F_37 G t v0 S) c := by
  unfold F_37
  repeat' first | with_reducible assumption | with_reducible exact K_none | with_reducible apply k_35 | with_reducible apply K_some | with_reducible apply K_jif | with_reducible apply K_bif | with_reducible apply K_bind | with_reducible apply K_obind | with_reducible apply K_sif | with_reducible apply K_i | with_reducible apply K_l | with_reducible apply K_sF | with_reducible apply K_sT | with_reducible apply K_nF | with_reducible apply K_nT | with_reducible apply K_x | with_reducible intro _ | omega
set_option maxHeartbeats 4000000 in
set_option linter.unusedSimpArgs false in
theorem k_38_2  : ∀ tt u0 u1 S, kq S = c → Kp (F_38_2 G t  tt u0 u1 S) c := by
  intro tt
  induction tt with
  | zero => intros; exact K_none
  | succ tt ih =>
    intro u0 u1 S hS
    rw [F_38_2]
    try dsimp only
    repeat' first | with_reducible assumption | with_reducible exact K_none | with_reducible apply ih | with_reducible apply k_37 | with_reducible apply K_some | with_reducible apply K_jif | with_reducible apply K_bif | with_reducible apply K_bind | with_reducible apply K_obind | with_reducible apply K_sif | with_reducible apply K_i | with_reducible apply K_l | with_reducible apply K_sF | with_reducible apply K_sT | with_reducible apply K_nF | with_reducible apply K_nT | with_reducible apply K_x | with_reducible intro _ | omega
theorem k_38 (v0 : (Nat × Nat)) (S : sS) (hS : kq S = c) : Kp (F_38 G t v0 S) c := by
  unfold F_38
  repeat' first | with_reducible assumption | with_reducible exact K_none | with_reducible apply k_38_2 | with_reducible apply K_some | with_reducible apply K_jif | with_reducible apply K_bif | with_reducible apply K_bind | with_reducible apply K_obind | with_reducible apply K_sif | with_reducible apply K_i | with_reducible apply K_l | with_reducible apply K_sF | with_reducible apply K_sT | with_reducible apply K_nF | with_reducible apply K_nT | with_reducible apply K_x | with_reducible intro _ | omega
theorem k_39 (S : sS) (hS : kq S = c) : Kp (F_39 G t S) c := by
  unfold F_39
  repeat' first | with_reducible assumption | with_reducible exact K_none | with_reducible apply k_9 | with_reducible apply k_36 | with_reducible apply k_38 | with_reducible apply K_some | with_reducible apply K_jif | with_reducible apply K_bif | with_reducible apply K_bind | with_reducible apply K_obind | with_reducible apply K_sif | with_reducible apply K_i | with_reducible apply K_l | with_reducible apply K_sF | with_reducible apply K_sT | with_reducible apply K_nF | with_reducible apply K_nT | with_reducible apply K_x | with_reducible intro _ | omega
theorem k_51 (v1 : Int32) (S : sS) (hS : kq S = c) : Kp (F_51 G t v1 S) c := by
  unfold F_51
  repeat' first | with_reducible assumption | with_reducible exact K_none | with_reducible apply K_some | with_reducible apply K_jif | with_reducible apply K_bif | with_reducible apply K_bind | with_reducible apply K_obind | with_reducible apply K_sif | with_reducible apply K_i | with_reducible apply K_l | with_reducible apply K_sF | with_reducible apply K_sT | with_reducible apply K_nF | with_reducible apply K_nT | with_reducible apply K_x | with_reducible intro _ | omega
theorem k_52_30 (k6 : Int32 → sS → Option (Unit × sS)) (v1 : Int32) (S : sS) (hk0 : ∀ x0 S, kq S = c → Kp (k6 x0 S) c) (hS : kq S = c) : Kp (F_52_30 G t k6 v1 S) c := by
  unfold F_52_30
  repeat' first | with_reducible assumption | with_reducible exact K_none | with_reducible apply hk0 | with_reducible apply K_some | with_reducible apply K_jif | with_reducible apply K_bif | with_reducible apply K_bind | with_reducible apply K_obind | with_reducible apply K_sif | with_reducible apply K_i | with_reducible apply K_l | with_reducible apply K_sF | with_reducible apply K_sT | with_reducible apply K_nF | with_reducible apply K_nT | with_reducible apply K_x | with_reducible intro _ | omega
set_option maxHeartbeats 4000000 in
set_option linter.unusedSimpArgs false in
theorem k_52_6  : ∀ tt u0 S, kq S = c → Kp (F_52_6 G t  tt u0 S) c := by
  intro tt
  induction tt with
  | zero => intros; exact K_none
  | succ tt ih =>
    intro u0 S hS
    rw [F_52_6]
    try dsimp only
    repeat' first | with_reducible assumption | with_reducible exact K_none | with_reducible apply ih | with_reducible apply k_10 | with_reducible apply k_52_30 | with_reducible apply k_51 | with_reducible apply K_some | with_reducible apply K_jif | with_reducible apply K_bif | with_reducible apply K_bind | with_reducible apply K_obind | with_reducible apply K_sif | with_reducible apply K_i | with_reducible apply K_l | with_reducible apply K_sF | with_reducible apply K_sT | with_reducible apply K_nF | with_reducible apply K_nT | with_reducible apply K_x | with_reducible intro _ | omega
theorem k_52 (S : sS) (hS : kq S = c) : Kp (F_52 G t S) c := by
  unfold F_52
  repeat' first | with_reducible assumption | with_reducible exact K_none | with_reducible apply k_39 | with_reducible apply k_52_6 | with_reducible apply K_some | with_reducible apply K_jif | with_reducible apply K_bif | with_reducible apply K_bind | with_reducible apply K_obind | with_reducible apply K_sif | with_reducible apply K_i | with_reducible apply K_l | with_reducible apply K_sF | with_reducible apply K_sT | with_reducible apply K_nF | with_reducible apply K_nT | with_reducible apply K_x | with_reducible intro _ | omega
theorem k_58 (v1 : Int32) (S : sS) (hS : kq S = c) : Kp (F_58 G t v1 S) c := by
  unfold F_58
  repeat' first | with_reducible assumption | with_reducible exact K_none | with_reducible apply K_some | with_reducible apply K_jif | with_reducible apply K_bif | with_reducible apply K_bind | with_reducible apply K_obind | with_reducible apply K_sif | with_reducible apply K_i | with_reducible apply K_l | with_reducible apply K_sF | with_reducible apply K_sT | with_reducible apply K_nF | with_reducible apply K_nT | with_reducible apply K_x | with_reducible intro _ | omega
theorem k_66 (v0 : (Nat × Nat)) (S : sS) (hS : kq S = c) : Kp (F_66 G t v0 S) c := by
  unfold F_66
  repeat' first | with_reducible assumption | with_reducible exact K_none | with_reducible apply K_some | with_reducible apply K_jif | with_reducible apply K_bif | with_reducible apply K_bind | with_reducible apply K_obind | with_reducible apply K_sif | with_reducible apply K_i | with_reducible apply K_l | with_reducible apply K_sF | with_reducible apply K_sT | with_reducible apply K_nF | with_reducible apply K_nT | with_reducible apply K_x | with_reducible intro _ | omega
theorem k_76_19 (w0 : Int32) (w1 : (Nat × Nat)) (S : sS) (hS : kq S = c) : Kp (F_76_19 G t w0 w1 S) c := by
  unfold F_76_19
  repeat' first | with_reducible assumption | with_reducible exact K_none | with_reducible apply K_some | with_reducible apply K_jif | with_reducible apply K_bif | with_reducible apply K_bind | with_reducible apply K_obind | with_reducible apply K_sif | with_reducible apply K_i | with_reducible apply K_l | with_reducible apply K_sF | with_reducible apply K_sT | with_reducible apply K_nF | with_reducible apply K_nT | with_reducible apply K_x | with_reducible intro _ | omega
theorem k_76 (v0 : (Nat × Nat)) (v1 : Int32) (S : sS) (hS : kq S = c) : Kp (F_76 G t v0 v1 S) c := by
  unfold F_76
  repeat' first | with_reducible assumption | with_reducible exact K_none | with_reducible apply k_76_19 | with_reducible apply K_some | with_reducible apply K_jif | with_reducible apply K_bif | with_reducible apply K_bind | with_reducible apply K_obind | with_reducible apply K_sif | with_reducible apply K_i | with_reducible apply K_l | with_reducible apply K_sF | with_reducible apply K_sT | with_reducible apply K_nF | with_reducible apply K_nT | with_reducible apply K_x | with_reducible intro _ | omega
theorem k_77_50 (v4 : (Nat × Nat)) (v5 : Int32) (w0 : Int32) (S : sS) (hS : kq S = c) : Kp (F_77_50 G t v4 v5 w0 S) c := by
  unfold F_77_50
  repeat' first | with_reducible assumption | with_reducible exact K_none | with_reducible apply k_76 | with_reducible apply K_some | with_reducible apply K_jif | with_reducible apply K_bif | with_reducible apply K_bind | with_reducible apply K_obind | with_reducible apply K_sif | with_reducible apply K_i | with_reducible apply K_l | with_reducible apply K_sF | with_reducible apply K_sT | with_reducible apply K_nF | with_reducible apply K_nT | with_reducible apply K_x | with_reducible intro _ | omega
theorem k_77 (v1 : Int32) (v2 : Int32) (v3 : (Nat × Nat)) (v4 : (Nat × Nat)) (S : sS) (hS : kq S = c) : Kp (F_77 G t v1 v2 v3 v4 S) c := by
  unfold F_77
  repeat' first | with_reducible assumption | with_reducible exact K_none | with_reducible apply k_17 | with_reducible apply k_31 | with_reducible apply k_77_50 | with_reducible apply k_29 | with_reducible apply K_some | with_reducible apply K_jif | with_reducible apply K_bif | with_reducible apply K_bind | with_reducible apply K_obind | with_reducible apply K_sif | with_reducible apply K_i | with_reducible apply K_l | with_reducible apply K_sF | with_reducible apply K_sT | with_reducible apply K_nF | with_reducible apply K_nT | with_reducible apply K_x | with_reducible intro _ | omega
theorem k_78 (v0 : (Nat × Nat)) (v1 : Int64) (v3 : Int32) (S : sS) (hS : kq S = c) : Kp (F_78 G t v0 v1 v3 S) c := by
  unfold F_78
  repeat' first | with_reducible assumption | with_reducible exact K_none | with_reducible apply K_some | with_reducible apply K_jif | with_reducible apply K_bif | with_reducible apply K_bind | with_reducible apply K_obind | with_reducible apply K_sif | with_reducible apply K_i | with_reducible apply K_l | with_reducible apply K_sF | with_reducible apply K_sT | with_reducible apply K_nF | with_reducible apply K_nT | with_reducible apply K_x | with_reducible intro _ | omega
theorem k_79 (v0 : (Nat × Nat)) (v1 : Int32) (v2 : Int64) (v4 : Int32) (S : sS) (hS : kq S = c) : Kp (F_79 G t v0 v1 v2 v4 S) c := by
  unfold F_79
  repeat' first | with_reducible assumption | with_reducible exact K_none | with_reducible apply k_78 | with_reducible apply K_some | with_reducible apply K_jif | with_reducible apply K_bif | with_reducible apply K_bind | with_reducible apply K_obind | with_reducible apply K_sif | with_reducible apply K_i | with_reducible apply K_l | with_reducible apply K_sF | with_reducible apply K_sT | with_reducible apply K_nF | with_reducible apply K_nT | with_reducible apply K_x | with_reducible intro _ | omega
theorem k_80_43 (v0 : (Nat × Nat)) (v3 : Int64) (w0 : Int32) (w1 : (Nat × Nat)) (S : sS) (hS : kq S = c) : Kp (F_80_43 G t v0 v3 w0 w1 S) c := by
  unfold F_80_43
  repeat' first | with_reducible assumption | with_reducible exact K_none | with_reducible apply K_some | with_reducible apply K_jif | with_reducible apply K_bif | with_reducible apply K_bind | with_reducible apply K_obind | with_reducible apply K_sif | with_reducible apply K_i | with_reducible apply K_l | with_reducible apply K_sF | with_reducible apply K_sT | with_reducible apply K_nF | with_reducible apply K_nT | with_reducible apply K_x | with_reducible intro _ | omega
theorem k_80 (v0 : (Nat × Nat)) (v1 : (Nat × Nat)) (S : sS) (hS : kq S = c) : Kp (F_80 G t v0 v1 S) c := by
  unfold F_80
  repeat' first | with_reducible assumption | with_reducible exact K_none | with_reducible apply k_66 | with_reducible apply k_26 | with_reducible apply k_80_43 | with_reducible apply k_27 | with_reducible apply k_78 | with_reducible apply k_79 | with_reducible apply K_some | with_reducible apply K_jif | with_reducible apply K_bif | with_reducible apply K_bind | with_reducible apply K_obind | with_reducible apply K_sif | with_reducible apply K_i | with_reducible apply K_l | with_reducible apply K_sF | with_reducible apply K_sT | with_reducible apply K_nF | with_reducible apply K_nT | with_reducible apply K_x | with_reducible intro _ | omega
theorem k_81_128 (k23 : (Nat × Nat) → Int32 → sS → Option (Unit × sS)) (v0 : (Nat × Nat)) (v6 : Int32) (S : sS) (hk0 : ∀ x0 x1 S, kq S = c → Kp (k23 x0 x1 S) c) (hS : kq S = c) : Kp (F_81_128 G t k23 v0 v6 S) c := by
  unfold F_81_128
  repeat' first | with_reducible assumption | with_reducible exact K_none | with_reducible apply hk0 | with_reducible apply K_some | with_reducible apply K_jif | with_reducible apply K_bif | with_reducible apply K_bind | with_reducible apply K_obind | with_reducible apply K_sif | with_reducible apply K_i | with_reducible apply K_l | with_reducible apply K_sF | with_reducible apply K_sT | with_reducible apply K_nF | with_reducible apply K_nT | with_reducible apply K_x | with_reducible intro _ | omega
set_option maxHeartbeats 4000000 in
set_option linter.unusedSimpArgs false in
theorem k_81_23  : ∀ tt u0 u1 S, kq S = c → Kp (F_81_23 G t  tt u0 u1 S) c := by
  intro tt
  induction tt with
  | zero => intros; exact K_none
  | succ tt ih =>
    intro u0 u1 S hS
    rw [F_81_23]
    try dsimp only
    repeat' first | with_reducible assumption | with_reducible exact K_none | with_reducible apply ih | with_reducible apply k_66 | with_reducible apply k_29 | with_reducible apply k_76 | with_reducible apply k_81_128 | with_reducible apply k_79 | with_reducible apply k_80 | with_reducible apply K_some | with_reducible apply K_jif | with_reducible apply K_bif | with_reducible apply K_bind | with_reducible apply K_obind | with_reducible apply K_sif | with_reducible apply K_i | with_reducible apply K_l | with_reducible apply K_sF | with_reducible apply K_sT | with_reducible apply K_nF | with_reducible apply K_nT | with_reducible apply K_x | with_reducible intro _ | omega
theorem k_81_20 (v0 : (Nat × Nat)) (S : sS) (hS : kq S = c) : Kp (F_81_20 G t v0 S) c := by
  unfold F_81_20
  repeat' first | with_reducible assumption | with_reducible exact K_none | with_reducible apply k_81_23 | with_reducible apply K_some | with_reducible apply K_jif | with_reducible apply K_bif | with_reducible apply K_bind | with_reducible apply K_obind | with_reducible apply K_sif | with_reducible apply K_i | with_reducible apply K_l | with_reducible apply K_sF | with_reducible apply K_sT | with_reducible apply K_nF | with_reducible apply K_nT | with_reducible apply K_x | with_reducible intro _ | omega
theorem k_81 (v0 : (Nat × Nat)) (v1 : Int32) (v2 : Int64) (v4 : Int32) (S : sS) (hS : kq S = c) : Kp (F_81 G t v0 v1 v2 v4 S) c := by
  unfold F_81
  repeat' first | with_reducible assumption | with_reducible exact K_none | with_reducible apply k_66 | with_reducible apply k_81_20 | with_reducible apply k_79 | with_reducible apply K_some | with_reducible apply K_jif | with_reducible apply K_bif | with_reducible apply K_bind | with_reducible apply K_obind | with_reducible apply K_sif | with_reducible apply K_i | with_reducible apply K_l | with_reducible apply K_sF | with_reducible apply K_sT | with_reducible apply K_nF | with_reducible apply K_nT | with_reducible apply K_x | with_reducible intro _ | omega
theorem k_82 (v0 : Int32) (v1 : Int32) (S : sS) (hS : kq S = c) : Kp (F_82 G t v0 v1 S) c := by
  unfold F_82
  repeat' first | with_reducible assumption | with_reducible exact K_none | with_reducible apply K_some | with_reducible apply K_jif | with_reducible apply K_bif | with_reducible apply K_bind | with_reducible apply K_obind | with_reducible apply K_sif | with_reducible apply K_i | with_reducible apply K_l | with_reducible apply K_sF | with_reducible apply K_sT | with_reducible apply K_nF | with_reducible apply K_nT | with_reducible apply K_x | with_reducible intro _ | omega
theorem k_83 (v1 : Int32) (v2 : Int32) (S : sS) (hS : kq S = c) : Kp (F_83 G t v1 v2 S) c := by
  unfold F_83
  repeat' first | with_reducible assumption | with_reducible exact K_none | with_reducible apply k_82 | with_reducible apply K_some | with_reducible apply K_jif | with_reducible apply K_bif | with_reducible apply K_bind | with_reducible apply K_obind | with_reducible apply K_sif | with_reducible apply K_i | with_reducible apply K_l | with_reducible apply K_sF | with_reducible apply K_sT | with_reducible apply K_nF | with_reducible apply K_nT | with_reducible apply K_x | with_reducible intro _ | omega
theorem k_85_38 (w0 : Int32) (w1 : (Nat × Nat)) (S : sS) (hS : kq S = c) : Kp (F_85_38 G t w0 w1 S) c := by
  unfold F_85_38
  repeat' first | with_reducible assumption | with_reducible exact K_none | with_reducible apply k_3 | with_reducible apply K_some | with_reducible apply K_jif | with_reducible apply K_bif | with_reducible apply K_bind | with_reducible apply K_obind | with_reducible apply K_sif | with_reducible apply K_i | with_reducible apply K_l | with_reducible apply K_sF | with_reducible apply K_sT | with_reducible apply K_nF | with_reducible apply K_nT | with_reducible apply K_x | with_reducible intro _ | omega
theorem k_85 (v0 : (Nat × Nat)) (v1 : Int32) (v2 : Int32) (S : sS) (hS : kq S = c) : Kp (F_85 G t v0 v1 v2 S) c := by
  unfold F_85
  repeat' first | with_reducible assumption | with_reducible exact K_none | with_reducible apply k_82 | with_reducible apply k_85_38 | with_reducible apply K_some | with_reducible apply K_jif | with_reducible apply K_bif | with_reducible apply K_bind | with_reducible apply K_obind | with_reducible apply K_sif | with_reducible apply K_i | with_reducible apply K_l | with_reducible apply K_sF | with_reducible apply K_sT | with_reducible apply K_nF | with_reducible apply K_nT | with_reducible apply K_x | with_reducible intro _ | omega
theorem k_86_117 (v3 : Int32) (v4 : (Nat × Nat)) (w0 : Int32) (w1 : Int32) (w2 : (Nat × Nat)) (S : sS) (hS : kq S = c) : Kp (F_86_117 G t v3 v4 w0 w1 w2 S) c := by
  unfold F_86_117
  repeat' first | with_reducible assumption | with_reducible exact K_none | with_reducible apply K_some | with_reducible apply K_jif | with_reducible apply K_bif | with_reducible apply K_bind | with_reducible apply K_obind | with_reducible apply K_sif | with_reducible apply K_i | with_reducible apply K_l | with_reducible apply K_sF | with_reducible apply K_sT | with_reducible apply K_nF | with_reducible apply K_nT | with_reducible apply K_x | with_reducible intro _ | omega
theorem k_86_97 (v3 : Int32) (v4 : (Nat × Nat)) (w0 : Int32) (S : sS) (hS : kq S = c) : Kp (F_86_97 G t v3 v4 w0 S) c := by
  unfold F_86_97
  repeat' first | with_reducible assumption | with_reducible exact K_none | with_reducible apply k_86_117 | with_reducible apply K_some | with_reducible apply K_jif | with_reducible apply K_bif | with_reducible apply K_bind | with_reducible apply K_obind | with_reducible apply K_sif | with_reducible apply K_i | with_reducible apply K_l | with_reducible apply K_sF | with_reducible apply K_sT | with_reducible apply K_nF | with_reducible apply K_nT | with_reducible apply K_x | with_reducible intro _ | omega
theorem k_86_92 (v3 : Int32) (v4 : (Nat × Nat)) (S : sS) (hS : kq S = c) : Kp (F_86_92 G t v3 v4 S) c := by
  unfold F_86_92
  repeat' first | with_reducible assumption | with_reducible exact K_none | with_reducible apply k_86_97 | with_reducible apply K_some | with_reducible apply K_jif | with_reducible apply K_bif | with_reducible apply K_bind | with_reducible apply K_obind | with_reducible apply K_sif | with_reducible apply K_i | with_reducible apply K_l | with_reducible apply K_sF | with_reducible apply K_sT | with_reducible apply K_nF | with_reducible apply K_nT | with_reducible apply K_x | with_reducible intro _ | omega
theorem k_86_96 (v3 : Int32) (v4 : (Nat × Nat)) (S : sS) (hS : kq S = c) : Kp (F_86_96 G t v3 v4 S) c := by
  unfold F_86_96
  repeat' first | with_reducible assumption | with_reducible exact K_none | with_reducible apply k_86_97 | with_reducible apply K_some | with_reducible apply K_jif | with_reducible apply K_bif | with_reducible apply K_bind | with_reducible apply K_obind | with_reducible apply K_sif | with_reducible apply K_i | with_reducible apply K_l | with_reducible apply K_sF | with_reducible apply K_sT | with_reducible apply K_nF | with_reducible apply K_nT | with_reducible apply K_x | with_reducible intro _ | omega
theorem k_86_61 (v1 : Int32) (v2 : Int32) (v3 : Int32) (v4 : (Nat × Nat)) (S : sS) (hS : kq S = c) : Kp (F_86_61 G t v1 v2 v3 v4 S) c := by
  unfold F_86_61
  repeat' first | with_reducible assumption | with_reducible exact K_none | with_reducible apply k_85 | with_reducible apply k_86_92 | with_reducible apply k_86_96 | with_reducible apply K_some | with_reducible apply K_jif | with_reducible apply K_bif | with_reducible apply K_bind | with_reducible apply K_obind | with_reducible apply K_sif | with_reducible apply K_i | with_reducible apply K_l | with_reducible apply K_sF | with_reducible apply K_sT | with_reducible apply K_nF | with_reducible apply K_nT | with_reducible apply K_x | with_reducible intro _ | omega
theorem k_86 (v1 : Int32) (v2 : Int32) (S : sS) (hS : kq S = c) : Kp (F_86 G t v1 v2 S) c := by
  unfold F_86
  repeat' first | with_reducible assumption | with_reducible exact K_none | with_reducible apply k_83 | with_reducible apply k_86_61 | with_reducible apply K_some | with_reducible apply K_jif | with_reducible apply K_bif | with_reducible apply K_bind | with_reducible apply K_obind | with_reducible apply K_sif | with_reducible apply K_i | with_reducible apply K_l | with_reducible apply K_sF | with_reducible apply K_sT | with_reducible apply K_nF | with_reducible apply K_nT | with_reducible apply K_x | with_reducible intro _ | omega
theorem k_87 (v1 : Int32) (v2 : Int32) (S : sS) (hS : kq S = c) : Kp (F_87 G t v1 v2 S) c := by
  unfold F_87
  repeat' first | with_reducible assumption | with_reducible exact K_none | with_reducible apply k_58 | with_reducible apply K_some | with_reducible apply K_jif | with_reducible apply K_bif | with_reducible apply K_bind | with_reducible apply K_obind | with_reducible apply K_sif | with_reducible apply K_i | with_reducible apply K_l | with_reducible apply K_sF | with_reducible apply K_sT | with_reducible apply K_nF | with_reducible apply K_nT | with_reducible apply K_x | with_reducible intro _ | omega
theorem k_88 (v1 : (Nat × Nat)) (v2 : (Nat × Nat)) (v3 : Int32) (S : sS) (hS : kq S = c) : Kp (F_88 G t v1 v2 v3 S) c := by
  unfold F_88
  repeat' first | with_reducible assumption | with_reducible exact K_none | with_reducible apply K_some | with_reducible apply K_jif | with_reducible apply K_bif | with_reducible apply K_bind | with_reducible apply K_obind | with_reducible apply K_sif | with_reducible apply K_i | with_reducible apply K_l | with_reducible apply K_sF | with_reducible apply K_sT | with_reducible apply K_nF | with_reducible apply K_nT | with_reducible apply K_x | with_reducible intro _ | omega
theorem k_89_169 (k108 : (Nat × Nat) → Int32 → Int32 → Int32 → (Nat × Nat) → Int32 → sS → Option (Int32 × sS)) (v1 : (Nat × Nat)) (v2 : Int32) (v3 : Int32) (v4 : Int32) (v6 : (Nat × Nat)) (v7 : Int32) (S : sS) (hk0 : ∀ x0 x1 x2 x3 x4 x5 S, kq S = c → Kp (k108 x0 x1 x2 x3 x4 x5 S) c) (hS : kq S = c) : Kp (F_89_169 G t k108 v1 v2 v3 v4 v6 v7 S) c := by
  unfold F_89_169
  repeat' first | with_reducible assumption | with_reducible exact K_none | with_reducible apply hk0 | with_reducible apply K_some | with_reducible apply K_jif | with_reducible apply K_bif | with_reducible apply K_bind | with_reducible apply K_obind | with_reducible apply K_sif | with_reducible apply K_i | with_reducible apply K_l | with_reducible apply K_sF | with_reducible apply K_sT | with_reducible apply K_nF | with_reducible apply K_nT | with_reducible apply K_x | with_reducible intro _ | omega
theorem k_89_148 (k108 : (Nat × Nat) → Int32 → Int32 → Int32 → (Nat × Nat) → Int32 → sS → Option (Int32 × sS)) (v1 : (Nat × Nat)) (v2 : Int32) (v3 : Int32) (v4 : Int32) (v6 : (Nat × Nat)) (v7 : Int32) (v8 : Int32) (w0 : Int32) (S : sS) (hk0 : ∀ x0 x1 x2 x3 x4 x5 S, kq S = c → Kp (k108 x0 x1 x2 x3 x4 x5 S) c) (hS : kq S = c) : Kp (F_89_148 G t k108 v1 v2 v3 v4 v6 v7 v8 w0 S) c := by
  unfold F_89_148
  repeat' first | with_reducible assumption | with_reducible exact K_none | with_reducible apply hk0 | with_reducible apply k_89_169 | with_reducible apply k_27 | with_reducible apply K_some | with_reducible apply K_jif | with_reducible apply K_bif | with_reducible apply K_bind | with_reducible apply K_obind | with_reducible apply K_sif | with_reducible apply K_i | with_reducible apply K_l | with_reducible apply K_sF | with_reducible apply K_sT | with_reducible apply K_nF | with_reducible apply K_nT | with_reducible apply K_x | with_reducible intro _ | omega
set_option maxHeartbeats 4000000 in
set_option linter.unusedSimpArgs false in
theorem k_89_108  : ∀ tt u0 u1 u2 u3 u4 u5 S, kq S = c → Kp (F_89_108 G t  tt u0 u1 u2 u3 u4 u5 S) c := by
  intro tt
  induction tt with
  | zero => intros; exact K_none
  | succ tt ih =>
    intro u0 u1 u2 u3 u4 u5 S hS
    rw [F_89_108]
    try dsimp only
    repeat' first | with_reducible assumption | with_reducible exact K_none | with_reducible apply ih | with_reducible apply k_88 | with_reducible apply k_26 | with_reducible apply k_89_148 | with_reducible apply K_some | with_reducible apply K_jif | with_reducible apply K_bif | with_reducible apply K_bind | with_reducible apply K_obind | with_reducible apply K_sif | with_reducible apply K_i | with_reducible apply K_l | with_reducible apply K_sF | with_reducible apply K_sT | with_reducible apply K_nF | with_reducible apply K_nT | with_reducible apply K_x | with_reducible intro _ | omega
theorem k_89 (v1 : (Nat × Nat)) (v2 : Int32) (v3 : Int32) (v4 : Int32) (S : sS) (hS : kq S = c) : Kp (F_89 G t v1 v2 v3 v4 S) c := by
  unfold F_89
  repeat' first | with_reducible assumption | with_reducible exact K_none | with_reducible apply k_66 | with_reducible apply k_27 | with_reducible apply k_89_108 | with_reducible apply K_some | with_reducible apply K_jif | with_reducible apply K_bif | with_reducible apply K_bind | with_reducible apply K_obind | with_reducible apply K_sif | with_reducible apply K_i | with_reducible apply K_l | with_reducible apply K_sF | with_reducible apply K_sT | with_reducible apply K_nF | with_reducible apply K_nT | with_reducible apply K_x | with_reducible intro _ | omega
theorem k_90_72 (k6 : Int32 → Int32 → Int32 → (Option (Nat × Nat)) → Int32 → sS → Option ((Option (Nat × Nat)) × sS)) (v1 : Int32) (v2 : Int32) (v3 : Int32) (v4 : (Option (Nat × Nat))) (v5 : Int32) (S : sS) (hk0 : ∀ x0 x1 x2 x3 x4 S, kq S = c → Kp (k6 x0 x1 x2 x3 x4 S) c) (hS : kq S = c) : Kp (F_90_72 G t k6 v1 v2 v3 v4 v5 S) c := by
  unfold F_90_72
  repeat' first | with_reducible assumption | with_reducible exact K_none | with_reducible apply hk0 | with_reducible apply K_some | with_reducible apply K_jif | with_reducible apply K_bif | with_reducible apply K_bind | with_reducible apply K_obind | with_reducible apply K_sif | with_reducible apply K_i | with_reducible apply K_l | with_reducible apply K_sF | with_reducible apply K_sT | with_reducible apply K_nF | with_reducible apply K_nT | with_reducible apply K_x | with_reducible intro _ | omega
theorem k_90_48 (k6 : Int32 → Int32 → Int32 → (Option (Nat × Nat)) → Int32 → sS → Option ((Option (Nat × Nat)) × sS)) (v1 : Int32) (v2 : Int32) (v3 : Int32) (v4 : (Option (Nat × Nat))) (v5 : Int32) (v6 : (Nat × Nat)) (w0 : Int32) (S : sS) (hk0 : ∀ x0 x1 x2 x3 x4 S, kq S = c → Kp (k6 x0 x1 x2 x3 x4 S) c) (hS : kq S = c) : Kp (F_90_48 G t k6 v1 v2 v3 v4 v5 v6 w0 S) c := by
  unfold F_90_48
  repeat' first | with_reducible assumption | with_reducible exact K_none | with_reducible apply hk0 | with_reducible apply k_90_72 | with_reducible apply k_89 | with_reducible apply K_some | with_reducible apply K_jif | with_reducible apply K_bif | with_reducible apply K_bind | with_reducible apply K_obind | with_reducible apply K_sif | with_reducible apply K_i | with_reducible apply K_l | with_reducible apply K_sF | with_reducible apply K_sT | with_reducible apply K_nF | with_reducible apply K_nT | with_reducible apply K_x | with_reducible intro _ | omega
theorem k_90_43 (k6 : Int32 → Int32 → Int32 → (Option (Nat × Nat)) → Int32 → sS → Option ((Option (Nat × Nat)) × sS)) (v1 : Int32) (v2 : Int32) (v3 : Int32) (v4 : (Option (Nat × Nat))) (v5 : Int32) (v6 : (Nat × Nat)) (S : sS) (hk0 : ∀ x0 x1 x2 x3 x4 S, kq S = c → Kp (k6 x0 x1 x2 x3 x4 S) c) (hS : kq S = c) : Kp (F_90_43 G t k6 v1 v2 v3 v4 v5 v6 S) c := by
  unfold F_90_43
  repeat' first | with_reducible assumption | with_reducible exact K_none | with_reducible apply hk0 | with_reducible apply k_90_48 | with_reducible apply K_some | with_reducible apply K_jif | with_reducible apply K_bif | with_reducible apply K_bind | with_reducible apply K_obind | with_reducible apply K_sif | with_reducible apply K_i | with_reducible apply K_l | with_reducible apply K_sF | with_reducible apply K_sT | with_reducible apply K_nF | with_reducible apply K_nT | with_reducible apply K_x | with_reducible intro _ | omega
set_option maxHeartbeats 4000000 in
set_option linter.unusedSimpArgs false in
theorem k_90_6  : ∀ tt u0 u1 u2 u3 u4 S, kq S = c → Kp (F_90_6 G t  tt u0 u1 u2 u3 u4 S) c := by
  intro tt
  induction tt with
  | zero => intros; exact K_none
  | succ tt ih =>
    intro u0 u1 u2 u3 u4 S hS
    rw [F_90_6]
    try dsimp only
    repeat' first | with_reducible assumption | with_reducible exact K_none | with_reducible apply ih | with_reducible apply k_90_43 | with_reducible apply k_90_48 | with_reducible apply K_some | with_reducible apply K_jif | with_reducible apply K_bif | with_reducible apply K_bind | with_reducible apply K_obind | with_reducible apply K_sif | with_reducible apply K_i | with_reducible apply K_l | with_reducible apply K_sF | with_reducible apply K_sT | with_reducible apply K_nF | with_reducible apply K_nT | with_reducible apply K_x | with_reducible intro _ | omega
theorem k_90 (v1 : Int32) (v2 : Int32) (v3 : Int32) (S : sS) (hS : kq S = c) : Kp (F_90 G t v1 v2 v3 S) c := by
  unfold F_90
  repeat' first | with_reducible assumption | with_reducible exact K_none | with_reducible apply k_90_6 | with_reducible apply K_some | with_reducible apply K_jif | with_reducible apply K_bif | with_reducible apply K_bind | with_reducible apply K_obind | with_reducible apply K_sif | with_reducible apply K_i | with_reducible apply K_l | with_reducible apply K_sF | with_reducible apply K_sT | with_reducible apply K_nF | with_reducible apply K_nT | with_reducible apply K_x | with_reducible intro _ | omega
theorem k_91_35 (w0 : Int32) (w1 : (Nat × Nat)) (S : sS) (hS : kq S = c) : Kp (F_91_35 G t w0 w1 S) c := by
  unfold F_91_35
  repeat' first | with_reducible assumption | with_reducible exact K_none | with_reducible apply k_76 | with_reducible apply K_some | with_reducible apply K_jif | with_reducible apply K_bif | with_reducible apply K_bind | with_reducible apply K_obind | with_reducible apply K_sif | with_reducible apply K_i | with_reducible apply K_l | with_reducible apply K_sF | with_reducible apply K_sT | with_reducible apply K_nF | with_reducible apply K_nT | with_reducible apply K_x | with_reducible intro _ | omega
theorem k_91 (v1 : (Nat × Nat)) (v2 : (Nat × Nat)) (S : sS) (hS : kq S = c) : Kp (F_91 G t v1 v2 S) c := by
  unfold F_91
  repeat' first | with_reducible assumption | with_reducible exact K_none | with_reducible apply k_91_35 | with_reducible apply k_76 | with_reducible apply K_some | with_reducible apply K_jif | with_reducible apply K_bif | with_reducible apply K_bind | with_reducible apply K_obind | with_reducible apply K_sif | with_reducible apply K_i | with_reducible apply K_l | with_reducible apply K_sF | with_reducible apply K_sT | with_reducible apply K_nF | with_reducible apply K_nT | with_reducible apply K_x | with_reducible intro _ | omega
theorem k_92_52 (v3 : (Nat × Nat)) (v4 : Int32) (v5 : (Nat × Nat)) (v6 : (Nat × Nat)) (w0 : Int32) (S : sS) (hS : kq S = c) : Kp (F_92_52 G t v3 v4 v5 v6 w0 S) c := by
  unfold F_92_52
  repeat' first | with_reducible assumption | with_reducible exact K_none | with_reducible apply k_91 | with_reducible apply k_26 | with_reducible apply k_27 | with_reducible apply k_78 | with_reducible apply k_30 | with_reducible apply K_some | with_reducible apply K_jif | with_reducible apply K_bif | with_reducible apply K_bind | with_reducible apply K_obind | with_reducible apply K_sif | with_reducible apply K_i | with_reducible apply K_l | with_reducible apply K_sF | with_reducible apply K_sT | with_reducible apply K_nF | with_reducible apply K_nT | with_reducible apply K_x | with_reducible intro _ | omega
theorem k_92_23 (v1 : (Nat × Nat)) (v2 : Int32) (v3 : (Nat × Nat)) (v4 : Int32) (v5 : (Option (Nat × Nat))) (w0 : (Option (Nat × Nat))) (S : sS) (hS : kq S = c) : Kp (F_92_23 G t v1 v2 v3 v4 v5 w0 S) c := by
  unfold F_92_23
  repeat' first | with_reducible assumption | with_reducible exact K_none | with_reducible apply k_26 | with_reducible apply k_27 | with_reducible apply k_78 | with_reducible apply k_92_52 | with_reducible apply k_89 | with_reducible apply K_some | with_reducible apply K_jif | with_reducible apply K_bif | with_reducible apply K_bind | with_reducible apply K_obind | with_reducible apply K_sif | with_reducible apply K_i | with_reducible apply K_l | with_reducible apply K_sF | with_reducible apply K_sT | with_reducible apply K_nF | with_reducible apply K_nT | with_reducible apply K_x | with_reducible intro _ | omega
theorem k_92 (v1 : (Nat × Nat)) (v2 : Int32) (v3 : (Nat × Nat)) (v4 : Int32) (S : sS) (hS : kq S = c) : Kp (F_92 G t v1 v2 v3 v4 S) c := by
  unfold F_92
  repeat' first | with_reducible assumption | with_reducible exact K_none | with_reducible apply k_90 | with_reducible apply k_92_23 | with_reducible apply k_66 | with_reducible apply K_some | with_reducible apply K_jif | with_reducible apply K_bif | with_reducible apply K_bind | with_reducible apply K_obind | with_reducible apply K_sif | with_reducible apply K_i | with_reducible apply K_l | with_reducible apply K_sF | with_reducible apply K_sT | with_reducible apply K_nF | with_reducible apply K_nT | with_reducible apply K_x | with_reducible intro _ | omega
theorem k_93 (v1 : (Nat × Nat)) (v2 : Int32) (v3 : Int32) (S : sS) (hS : kq S = c) : Kp (F_93 G t v1 v2 v3 S) c := by
  unfold F_93
  repeat' first | with_reducible assumption | with_reducible exact K_none | with_reducible apply K_some | with_reducible apply K_jif | with_reducible apply K_bif | with_reducible apply K_bind | with_reducible apply K_obind | with_reducible apply K_sif | with_reducible apply K_i | with_reducible apply K_l | with_reducible apply K_sF | with_reducible apply K_sT | with_reducible apply K_nF | with_reducible apply K_nT | with_reducible apply K_x | with_reducible intro _ | omega
theorem k_94_84 (v1 : (Nat × Nat)) (S : sS) (hS : kq S = c) : Kp (F_94_84 G t v1 S) c := by
  unfold F_94_84
  repeat' first | with_reducible assumption | with_reducible exact K_none | with_reducible apply k_93 | with_reducible apply K_some | with_reducible apply K_jif | with_reducible apply K_bif | with_reducible apply K_bind | with_reducible apply K_obind | with_reducible apply K_sif | with_reducible apply K_i | with_reducible apply K_l | with_reducible apply K_sF | with_reducible apply K_sT | with_reducible apply K_nF | with_reducible apply K_nT | with_reducible apply K_x | with_reducible intro _ | omega
theorem k_94_56 (v1 : (Nat × Nat)) (v2 : (Nat × Nat)) (v3 : Int32) (v4 : Int32) (v5 : (Option (Nat × Nat))) (S : sS) (hS : kq S = c) : Kp (F_94_56 G t v1 v2 v3 v4 v5 S) c := by
  unfold F_94_56
  repeat' first | with_reducible assumption | with_reducible exact K_none | with_reducible apply k_94_84 | with_reducible apply k_92 | with_reducible apply k_76 | with_reducible apply K_some | with_reducible apply K_jif | with_reducible apply K_bif | with_reducible apply K_bind | with_reducible apply K_obind | with_reducible apply K_sif | with_reducible apply K_i | with_reducible apply K_l | with_reducible apply K_sF | with_reducible apply K_sT | with_reducible apply K_nF | with_reducible apply K_nT | with_reducible apply K_x | with_reducible intro _ | omega
theorem k_94_40 (v1 : (Nat × Nat)) (v2 : (Nat × Nat)) (v3 : Int32) (v4 : Int32) (v5 : (Option (Nat × Nat))) (S : sS) (hS : kq S = c) : Kp (F_94_40 G t v1 v2 v3 v4 v5 S) c := by
  unfold F_94_40
  repeat' first | with_reducible assumption | with_reducible exact K_none | with_reducible apply k_94_56 | with_reducible apply K_some | with_reducible apply K_jif | with_reducible apply K_bif | with_reducible apply K_bind | with_reducible apply K_obind | with_reducible apply K_sif | with_reducible apply K_i | with_reducible apply K_l | with_reducible apply K_sF | with_reducible apply K_sT | with_reducible apply K_nF | with_reducible apply K_nT | with_reducible apply K_x | with_reducible intro _ | omega
theorem k_94 (v1 : (Nat × Nat)) (v2 : (Nat × Nat)) (S : sS) (hS : kq S = c) : Kp (F_94 G t v1 v2 S) c := by
  unfold F_94
  repeat' first | with_reducible assumption | with_reducible exact K_none | with_reducible apply k_27 | with_reducible apply k_87 | with_reducible apply k_94_40 | with_reducible apply K_some | with_reducible apply K_jif | with_reducible apply K_bif | with_reducible apply K_bind | with_reducible apply K_obind | with_reducible apply K_sif | with_reducible apply K_i | with_reducible apply K_l | with_reducible apply K_sF | with_reducible apply K_sT | with_reducible apply K_nF | with_reducible apply K_nT | with_reducible apply K_x | with_reducible intro _ | omega
theorem k_95_27 (S : sS) (hS : kq S = c) : Kp (F_95_27 G t S) c := by
  unfold F_95_27
  repeat' first | with_reducible assumption | with_reducible exact K_none | with_reducible apply K_some | with_reducible apply K_jif | with_reducible apply K_bif | with_reducible apply K_bind | with_reducible apply K_obind | with_reducible apply K_sif | with_reducible apply K_i | with_reducible apply K_l | with_reducible apply K_sF | with_reducible apply K_sT | with_reducible apply K_nF | with_reducible apply K_nT | with_reducible apply K_x | with_reducible intro _ | omega
theorem k_95 (v1 : (Nat × Nat)) (v2 : Int32) (S : sS) (hS : kq S = c) : Kp (F_95 G t v1 v2 S) c := by
  unfold F_95
  repeat' first | with_reducible assumption | with_reducible exact K_none | with_reducible apply k_95_27 | with_reducible apply k_90 | with_reducible apply K_some | with_reducible apply K_jif | with_reducible apply K_bif | with_reducible apply K_bind | with_reducible apply K_obind | with_reducible apply K_sif | with_reducible apply K_i | with_reducible apply K_l | with_reducible apply K_sF | with_reducible apply K_sT | with_reducible apply K_nF | with_reducible apply K_nT | with_reducible apply K_x | with_reducible intro _ | omega
theorem k_96 (v1 : (Nat × Nat)) (v2 : Int32) (S : sS) (hS : kq S = c) : Kp (F_96 G t v1 v2 S) c := by
  unfold F_96
  repeat' first | with_reducible assumption | with_reducible exact K_none | with_reducible apply k_35 | with_reducible apply K_some | with_reducible apply K_jif | with_reducible apply K_bif | with_reducible apply K_bind | with_reducible apply K_obind | with_reducible apply K_sif | with_reducible apply K_i | with_reducible apply K_l | with_reducible apply K_sF | with_reducible apply K_sT | with_reducible apply K_nF | with_reducible apply K_nT | with_reducible apply K_x | with_reducible intro _ | omega
set_option maxHeartbeats 4000000 in
set_option linter.unusedSimpArgs false in
theorem k_97_2  : ∀ tt u0 u1 S, kq S = c → Kp (F_97_2 G t  tt u0 u1 S) c := by
  intro tt
  induction tt with
  | zero => intros; exact K_none
  | succ tt ih =>
    intro u0 u1 S hS
    rw [F_97_2]
    try dsimp only
    repeat' first | with_reducible assumption | with_reducible exact K_none | with_reducible apply ih | with_reducible apply k_76 | with_reducible apply K_some | with_reducible apply K_jif | with_reducible apply K_bif | with_reducible apply K_bind | with_reducible apply K_obind | with_reducible apply K_sif | with_reducible apply K_i | with_reducible apply K_l | with_reducible apply K_sF | with_reducible apply K_sT | with_reducible apply K_nF | with_reducible apply K_nT | with_reducible apply K_x | with_reducible intro _ | omega
theorem k_97 (v0 : (Nat × Nat)) (S : sS) (hS : kq S = c) : Kp (F_97 G t v0 S) c := by
  unfold F_97
  repeat' first | with_reducible assumption | with_reducible exact K_none | with_reducible apply k_97_2 | with_reducible apply K_some | with_reducible apply K_jif | with_reducible apply K_bif | with_reducible apply K_bind | with_reducible apply K_obind | with_reducible apply K_sif | with_reducible apply K_i | with_reducible apply K_l | with_reducible apply K_sF | with_reducible apply K_sT | with_reducible apply K_nF | with_reducible apply K_nT | with_reducible apply K_x | with_reducible intro _ | omega
theorem k_98_118 (v1 : (Nat × Nat)) (S : sS) (hS : kq S = c) : Kp (F_98_118 G t v1 S) c := by
  unfold F_98_118
  repeat' first | with_reducible assumption | with_reducible exact K_none | with_reducible apply k_30 | with_reducible apply K_some | with_reducible apply K_jif | with_reducible apply K_bif | with_reducible apply K_bind | with_reducible apply K_obind | with_reducible apply K_sif | with_reducible apply K_i | with_reducible apply K_l | with_reducible apply K_sF | with_reducible apply K_sT | with_reducible apply K_nF | with_reducible apply K_nT | with_reducible apply K_x | with_reducible intro _ | omega
theorem k_98_70 (v1 : (Nat × Nat)) (v3 : (Nat × Nat)) (v5 : (Nat × Nat)) (v6 : Int32) (v7 : Int32) (w0 : Int32) (S : sS) (hS : kq S = c) : Kp (F_98_70 G t v1 v3 v5 v6 v7 w0 S) c := by
  unfold F_98_70
  repeat' first | with_reducible assumption | with_reducible exact K_none | with_reducible apply k_26 | with_reducible apply k_27 | with_reducible apply k_78 | with_reducible apply k_91 | with_reducible apply k_98_118 | with_reducible apply K_some | with_reducible apply K_jif | with_reducible apply K_bif | with_reducible apply K_bind | with_reducible apply K_obind | with_reducible apply K_sif | with_reducible apply K_i | with_reducible apply K_l | with_reducible apply K_sF | with_reducible apply K_sT | with_reducible apply K_nF | with_reducible apply K_nT | with_reducible apply K_x | with_reducible intro _ | omega
theorem k_98_42 (v1 : (Nat × Nat)) (v3 : (Nat × Nat)) (v5 : (Nat × Nat)) (v6 : Int32) (w0 : Int32) (S : sS) (hS : kq S = c) : Kp (F_98_42 G t v1 v3 v5 v6 w0 S) c := by
  unfold F_98_42
  repeat' first | with_reducible assumption | with_reducible exact K_none | with_reducible apply k_98_70 | with_reducible apply k_88 | with_reducible apply K_some | with_reducible apply K_jif | with_reducible apply K_bif | with_reducible apply K_bind | with_reducible apply K_obind | with_reducible apply K_sif | with_reducible apply K_i | with_reducible apply K_l | with_reducible apply K_sF | with_reducible apply K_sT | with_reducible apply K_nF | with_reducible apply K_nT | with_reducible apply K_x | with_reducible intro _ | omega
theorem k_98 (v1 : (Nat × Nat)) (v2 : Int32) (v3 : (Nat × Nat)) (S : sS) (hS : kq S = c) : Kp (F_98 G t v1 v2 v3 S) c := by
  unfold F_98
  repeat' first | with_reducible assumption | with_reducible exact K_none | with_reducible apply k_66 | with_reducible apply k_89 | with_reducible apply k_98_42 | with_reducible apply K_some | with_reducible apply K_jif | with_reducible apply K_bif | with_reducible apply K_bind | with_reducible apply K_obind | with_reducible apply K_sif | with_reducible apply K_i | with_reducible apply K_l | with_reducible apply K_sF | with_reducible apply K_sT | with_reducible apply K_nF | with_reducible apply K_nT | with_reducible apply K_x | with_reducible intro _ | omega
theorem k_99 (v1 : (Nat × Nat)) (v2 : Int32) (v3 : (Nat × Nat)) (S : sS) (hS : kq S = c) : Kp (F_99 G t v1 v2 v3 S) c := by
  unfold F_99
  repeat' first | with_reducible assumption | with_reducible exact K_none | with_reducible apply k_90 | with_reducible apply k_78 | with_reducible apply k_98 | with_reducible apply k_26 | with_reducible apply k_27 | with_reducible apply k_96 | with_reducible apply k_97 | with_reducible apply K_some | with_reducible apply K_jif | with_reducible apply K_bif | with_reducible apply K_bind | with_reducible apply K_obind | with_reducible apply K_sif | with_reducible apply K_i | with_reducible apply K_l | with_reducible apply K_sF | with_reducible apply K_sT | with_reducible apply K_nF | with_reducible apply K_nT | with_reducible apply K_x | with_reducible intro _ | omega
theorem k_100_72 (v1 : (Nat × Nat)) (S : sS) (hS : kq S = c) : Kp (F_100_72 G t v1 S) c := by
  unfold F_100_72
  repeat' first | with_reducible assumption | with_reducible exact K_none | with_reducible apply k_93 | with_reducible apply K_some | with_reducible apply K_jif | with_reducible apply K_bif | with_reducible apply K_bind | with_reducible apply K_obind | with_reducible apply K_sif | with_reducible apply K_i | with_reducible apply K_l | with_reducible apply K_sF | with_reducible apply K_sT | with_reducible apply K_nF | with_reducible apply K_nT | with_reducible apply K_x | with_reducible intro _ | omega
theorem k_100_35 (v1 : (Nat × Nat)) (v2 : (Nat × Nat)) (v3 : Int32) (v4 : (Option (Nat × Nat))) (S : sS) (hS : kq S = c) : Kp (F_100_35 G t v1 v2 v3 v4 S) c := by
  unfold F_100_35
  repeat' first | with_reducible assumption | with_reducible exact K_none | with_reducible apply k_100_72 | with_reducible apply k_95 | with_reducible apply k_76 | with_reducible apply k_99 | with_reducible apply k_78 | with_reducible apply K_some | with_reducible apply K_jif | with_reducible apply K_bif | with_reducible apply K_bind | with_reducible apply K_obind | with_reducible apply K_sif | with_reducible apply K_i | with_reducible apply K_l | with_reducible apply K_sF | with_reducible apply K_sT | with_reducible apply K_nF | with_reducible apply K_nT | with_reducible apply K_x | with_reducible intro _ | omega
theorem k_100 (v1 : (Nat × Nat)) (v2 : (Nat × Nat)) (S : sS) (hS : kq S = c) : Kp (F_100 G t v1 v2 S) c := by
  unfold F_100
  repeat' first | with_reducible assumption | with_reducible exact K_none | with_reducible apply k_27 | with_reducible apply k_87 | with_reducible apply k_100_35 | with_reducible apply K_some | with_reducible apply K_jif | with_reducible apply K_bif | with_reducible apply K_bind | with_reducible apply K_obind | with_reducible apply K_sif | with_reducible apply K_i | with_reducible apply K_l | with_reducible apply K_sF | with_reducible apply K_sT | with_reducible apply K_nF | with_reducible apply K_nT | with_reducible apply K_x | with_reducible intro _ | omega
theorem k_101_129 (v7 : Int32) (w0 : Int64) (w1 : (Nat × Nat)) (S : sS) (hS : kq S = c) : Kp (F_101_129 G t v7 w0 w1 S) c := by
  unfold F_101_129
  repeat' first | with_reducible assumption | with_reducible exact K_none | with_reducible apply k_78 | with_reducible apply K_some | with_reducible apply K_jif | with_reducible apply K_bif | with_reducible apply K_bind | with_reducible apply K_obind | with_reducible apply K_sif | with_reducible apply K_i | with_reducible apply K_l | with_reducible apply K_sF | with_reducible apply K_sT | with_reducible apply K_nF | with_reducible apply K_nT | with_reducible apply K_x | with_reducible intro _ | omega
theorem k_101_89 (v1 : (Nat × Nat)) (v4 : (Nat × Nat)) (v5 : Int32) (v6 : Int32) (w0 : Int32) (S : sS) (hS : kq S = c) : Kp (F_101_89 G t v1 v4 v5 v6 w0 S) c := by
  unfold F_101_89
  repeat' first | with_reducible assumption | with_reducible exact K_none | with_reducible apply k_91 | with_reducible apply k_78 | with_reducible apply k_101_129 | with_reducible apply K_some | with_reducible apply K_jif | with_reducible apply K_bif | with_reducible apply K_bind | with_reducible apply K_obind | with_reducible apply K_sif | with_reducible apply K_i | with_reducible apply K_l | with_reducible apply K_sF | with_reducible apply K_sT | with_reducible apply K_nF | with_reducible apply K_nT | with_reducible apply K_x | with_reducible intro _ | omega
theorem k_101_40 (v1 : (Nat × Nat)) (v4 : (Nat × Nat)) (v5 : Int32) (w0 : Int32) (S : sS) (hS : kq S = c) : Kp (F_101_40 G t v1 v4 v5 w0 S) c := by
  unfold F_101_40
  repeat' first | with_reducible assumption | with_reducible exact K_none | with_reducible apply k_101_89 | with_reducible apply k_88 | with_reducible apply k_26 | with_reducible apply K_some | with_reducible apply K_jif | with_reducible apply K_bif | with_reducible apply K_bind | with_reducible apply K_obind | with_reducible apply K_sif | with_reducible apply K_i | with_reducible apply K_l | with_reducible apply K_sF | with_reducible apply K_sT | with_reducible apply K_nF | with_reducible apply K_nT | with_reducible apply K_x | with_reducible intro _ | omega
theorem k_101 (v1 : (Nat × Nat)) (v2 : Int32) (S : sS) (hS : kq S = c) : Kp (F_101 G t v1 v2 S) c := by
  unfold F_101
  repeat' first | with_reducible assumption | with_reducible exact K_none | with_reducible apply k_66 | with_reducible apply k_89 | with_reducible apply k_101_40 | with_reducible apply K_some | with_reducible apply K_jif | with_reducible apply K_bif | with_reducible apply K_bind | with_reducible apply K_obind | with_reducible apply K_sif | with_reducible apply K_i | with_reducible apply K_l | with_reducible apply K_sF | with_reducible apply K_sT | with_reducible apply K_nF | with_reducible apply K_nT | with_reducible apply K_x | with_reducible intro _ | omega
theorem k_102_121 (k61 : Int32 → Int32 → sS → Option (Int32 × sS)) (v2 : Int32) (v4 : Int32) (S : sS) (hk0 : ∀ x0 x1 S, kq S = c → Kp (k61 x0 x1 S) c) (hS : kq S = c) : Kp (F_102_121 G t k61 v2 v4 S) c := by
  unfold F_102_121
  repeat' first | with_reducible assumption | with_reducible exact K_none | with_reducible apply hk0 | with_reducible apply K_some | with_reducible apply K_jif | with_reducible apply K_bif | with_reducible apply K_bind | with_reducible apply K_obind | with_reducible apply K_sif | with_reducible apply K_i | with_reducible apply K_l | with_reducible apply K_sF | with_reducible apply K_sT | with_reducible apply K_nF | with_reducible apply K_nT | with_reducible apply K_x | with_reducible intro _ | omega
theorem k_102_104 (k61 : Int32 → Int32 → sS → Option (Int32 × sS)) (v2 : Int32) (v4 : Int32) (v5 : (Nat × Nat)) (S : sS) (hk0 : ∀ x0 x1 S, kq S = c → Kp (k61 x0 x1 S) c) (hS : kq S = c) : Kp (F_102_104 G t k61 v2 v4 v5 S) c := by
  unfold F_102_104
  repeat' first | with_reducible assumption | with_reducible exact K_none | with_reducible apply hk0 | with_reducible apply k_22 | with_reducible apply k_102_121 | with_reducible apply k_30 | with_reducible apply K_some | with_reducible apply K_jif | with_reducible apply K_bif | with_reducible apply K_bind | with_reducible apply K_obind | with_reducible apply K_sif | with_reducible apply K_i | with_reducible apply K_l | with_reducible apply K_sF | with_reducible apply K_sT | with_reducible apply K_nF | with_reducible apply K_nT | with_reducible apply K_x | with_reducible intro _ | omega
set_option maxHeartbeats 4000000 in
set_option linter.unusedSimpArgs false in
theorem k_102_61  : ∀ tt u0 u1 S, kq S = c → Kp (F_102_61 G t  tt u0 u1 S) c := by
  intro tt
  induction tt with
  | zero => intros; exact K_none
  | succ tt ih =>
    intro u0 u1 S hS
    rw [F_102_61]
    try dsimp only
    repeat' first | with_reducible assumption | with_reducible exact K_none | with_reducible apply ih | with_reducible apply k_90 | with_reducible apply k_101 | with_reducible apply k_102_104 | with_reducible apply k_81 | with_reducible apply K_some | with_reducible apply K_jif | with_reducible apply K_bif | with_reducible apply K_bind | with_reducible apply K_obind | with_reducible apply K_sif | with_reducible apply K_i | with_reducible apply K_l | with_reducible apply K_sF | with_reducible apply K_sT | with_reducible apply K_nF | with_reducible apply K_nT | with_reducible apply K_x | with_reducible intro _ | omega
theorem k_102 (v1 : (Nat × Nat)) (S : sS) (hS : kq S = c) : Kp (F_102 G t v1 S) c := by
  unfold F_102
  repeat' first | with_reducible assumption | with_reducible exact K_none | with_reducible apply k_27 | with_reducible apply k_87 | with_reducible apply k_76 | with_reducible apply k_102_61 | with_reducible apply K_some | with_reducible apply K_jif | with_reducible apply K_bif | with_reducible apply K_bind | with_reducible apply K_obind | with_reducible apply K_sif | with_reducible apply K_i | with_reducible apply K_l | with_reducible apply K_sF | with_reducible apply K_sT | with_reducible apply K_nF | with_reducible apply K_nT | with_reducible apply K_x | with_reducible intro _ | omega
theorem k_103 (v0 : (Nat × Nat)) (v1 : Int32) (S : sS) (hS : kq S = c) : Kp (F_103 G t v0 v1 S) c := by
  unfold F_103
  repeat' first | with_reducible assumption | with_reducible exact K_none | with_reducible apply K_some | with_reducible apply K_jif | with_reducible apply K_bif | with_reducible apply K_bind | with_reducible apply K_obind | with_reducible apply K_sif | with_reducible apply K_i | with_reducible apply K_l | with_reducible apply K_sF | with_reducible apply K_sT | with_reducible apply K_nF | with_reducible apply K_nT | with_reducible apply K_x | with_reducible intro _ | omega
theorem k_104_44 (k3 : (Nat × Nat) → Int32 → Int32 → Int32 → sS → Option (Int32 × sS)) (v1 : (Nat × Nat)) (v2 : Int32) (v3 : Int32) (v4 : Int32) (v5 : Int32) (S : sS) (hk0 : ∀ x0 x1 x2 x3 S, kq S = c → Kp (k3 x0 x1 x2 x3 S) c) (hS : kq S = c) : Kp (F_104_44 G t k3 v1 v2 v3 v4 v5 S) c := by
  unfold F_104_44
  repeat' first | with_reducible assumption | with_reducible exact K_none | with_reducible apply hk0 | with_reducible apply k_103 | with_reducible apply K_some | with_reducible apply K_jif | with_reducible apply K_bif | with_reducible apply K_bind | with_reducible apply K_obind | with_reducible apply K_sif | with_reducible apply K_i | with_reducible apply K_l | with_reducible apply K_sF | with_reducible apply K_sT | with_reducible apply K_nF | with_reducible apply K_nT | with_reducible apply K_x | with_reducible intro _ | omega
set_option maxHeartbeats 4000000 in
set_option linter.unusedSimpArgs false in
theorem k_104_3  : ∀ tt u0 u1 u2 u3 S, kq S = c → Kp (F_104_3 G t  tt u0 u1 u2 u3 S) c := by
  intro tt
  induction tt with
  | zero => intros; exact K_none
  | succ tt ih =>
    intro u0 u1 u2 u3 S hS
    rw [F_104_3]
    try dsimp only
    repeat' first | with_reducible assumption | with_reducible exact K_none | with_reducible apply ih | with_reducible apply k_27 | with_reducible apply k_104_44 | with_reducible apply k_87 | with_reducible apply K_some | with_reducible apply K_jif | with_reducible apply K_bif | with_reducible apply K_bind | with_reducible apply K_obind | with_reducible apply K_sif | with_reducible apply K_i | with_reducible apply K_l | with_reducible apply K_sF | with_reducible apply K_sT | with_reducible apply K_nF | with_reducible apply K_nT | with_reducible apply K_x | with_reducible intro _ | omega
theorem k_104 (v1 : (Nat × Nat)) (v2 : Int32) (v3 : Int32) (S : sS) (hS : kq S = c) : Kp (F_104 G t v1 v2 v3 S) c := by
  unfold F_104
  repeat' first | with_reducible assumption | with_reducible exact K_none | with_reducible apply k_104_3 | with_reducible apply K_some | with_reducible apply K_jif | with_reducible apply K_bif | with_reducible apply K_bind | with_reducible apply K_obind | with_reducible apply K_sif | with_reducible apply K_i | with_reducible apply K_l | with_reducible apply K_sF | with_reducible apply K_sT | with_reducible apply K_nF | with_reducible apply K_nT | with_reducible apply K_x | with_reducible intro _ | omega
theorem k_105_204 (k35 : (Nat × Nat) → (Nat × Nat) → Int32 → Int32 → Int32 → Int32 → sS → Option (Int32 × sS)) (v1 : (Nat × Nat)) (v2 : (Nat × Nat)) (v3 : Int32) (v4 : Int32) (v5 : Int32) (v6 : Int32) (S : sS) (hk0 : ∀ x0 x1 x2 x3 x4 x5 S, kq S = c → Kp (k35 x0 x1 x2 x3 x4 x5 S) c) (hS : kq S = c) : Kp (F_105_204 G t k35 v1 v2 v3 v4 v5 v6 S) c := by
  unfold F_105_204
  repeat' first | with_reducible assumption | with_reducible exact K_none | with_reducible apply hk0 | with_reducible apply K_some | with_reducible apply K_jif | with_reducible apply K_bif | with_reducible apply K_bind | with_reducible apply K_obind | with_reducible apply K_sif | with_reducible apply K_i | with_reducible apply K_l | with_reducible apply K_sF | with_reducible apply K_sT | with_reducible apply K_nF | with_reducible apply K_nT | with_reducible apply K_x | with_reducible intro _ | omega
theorem k_105_160 (k35 : (Nat × Nat) → (Nat × Nat) → Int32 → Int32 → Int32 → Int32 → sS → Option (Int32 × sS)) (v1 : (Nat × Nat)) (v2 : (Nat × Nat)) (v3 : Int32) (v4 : Int32) (v5 : Int32) (v6 : Int32) (v8 : Int32) (v9 : (Nat × Nat)) (v10 : Int32) (S : sS) (hk0 : ∀ x0 x1 x2 x3 x4 x5 S, kq S = c → Kp (k35 x0 x1 x2 x3 x4 x5 S) c) (hS : kq S = c) : Kp (F_105_160 G t k35 v1 v2 v3 v4 v5 v6 v8 v9 v10 S) c := by
  unfold F_105_160
  repeat' first | with_reducible assumption | with_reducible exact K_none | with_reducible apply hk0 | with_reducible apply k_105_204 | with_reducible apply k_95 | with_reducible apply k_76 | with_reducible apply k_99 | with_reducible apply k_78 | with_reducible apply K_some | with_reducible apply K_jif | with_reducible apply K_bif | with_reducible apply K_bind | with_reducible apply K_obind | with_reducible apply K_sif | with_reducible apply K_i | with_reducible apply K_l | with_reducible apply K_sF | with_reducible apply K_sT | with_reducible apply K_nF | with_reducible apply K_nT | with_reducible apply K_x | with_reducible intro _ | omega
theorem k_105_115 (k35 : (Nat × Nat) → (Nat × Nat) → Int32 → Int32 → Int32 → Int32 → sS → Option (Int32 × sS)) (v1 : (Nat × Nat)) (v2 : (Nat × Nat)) (v3 : Int32) (v4 : Int32) (v5 : Int32) (v6 : Int32) (v7 : Int32) (v8 : Int32) (v9 : (Nat × Nat)) (v10 : Int32) (S : sS) (hk0 : ∀ x0 x1 x2 x3 x4 x5 S, kq S = c → Kp (k35 x0 x1 x2 x3 x4 x5 S) c) (hS : kq S = c) : Kp (F_105_115 G t k35 v1 v2 v3 v4 v5 v6 v7 v8 v9 v10 S) c := by
  unfold F_105_115
  repeat' first | with_reducible assumption | with_reducible exact K_none | with_reducible apply hk0 | with_reducible apply k_105_160 | with_reducible apply k_92 | with_reducible apply k_76 | with_reducible apply k_78 | with_reducible apply K_some | with_reducible apply K_jif | with_reducible apply K_bif | with_reducible apply K_bind | with_reducible apply K_obind | with_reducible apply K_sif | with_reducible apply K_i | with_reducible apply K_l | with_reducible apply K_sF | with_reducible apply K_sT | with_reducible apply K_nF | with_reducible apply K_nT | with_reducible apply K_x | with_reducible intro _ | omega
theorem k_105_97 (k35 : (Nat × Nat) → (Nat × Nat) → Int32 → Int32 → Int32 → Int32 → sS → Option (Int32 × sS)) (v1 : (Nat × Nat)) (v2 : (Nat × Nat)) (v3 : Int32) (v4 : Int32) (v5 : Int32) (v6 : Int32) (v7 : Int32) (v8 : Int32) (v9 : (Nat × Nat)) (w0 : Int32) (S : sS) (hk0 : ∀ x0 x1 x2 x3 x4 x5 S, kq S = c → Kp (k35 x0 x1 x2 x3 x4 x5 S) c) (hS : kq S = c) : Kp (F_105_97 G t k35 v1 v2 v3 v4 v5 v6 v7 v8 v9 w0 S) c := by
  unfold F_105_97
  repeat' first | with_reducible assumption | with_reducible exact K_none | with_reducible apply hk0 | with_reducible apply k_105_115 | with_reducible apply K_some | with_reducible apply K_jif | with_reducible apply K_bif | with_reducible apply K_bind | with_reducible apply K_obind | with_reducible apply K_sif | with_reducible apply K_i | with_reducible apply K_l | with_reducible apply K_sF | with_reducible apply K_sT | with_reducible apply K_nF | with_reducible apply K_nT | with_reducible apply K_x | with_reducible intro _ | omega
set_option maxHeartbeats 4000000 in
set_option linter.unusedSimpArgs false in
theorem k_105_35  : ∀ tt u0 u1 u2 u3 u4 u5 S, kq S = c → Kp (F_105_35 G t  tt u0 u1 u2 u3 u4 u5 S) c := by
  intro tt
  induction tt with
  | zero => intros; exact K_none
  | succ tt ih =>
    intro u0 u1 u2 u3 u4 u5 S hS
    rw [F_105_35]
    try dsimp only
    repeat' first | with_reducible assumption | with_reducible exact K_none | with_reducible apply ih | with_reducible apply k_93 | with_reducible apply k_76 | with_reducible apply k_78 | with_reducible apply k_27 | with_reducible apply k_87 | with_reducible apply k_105_204 | with_reducible apply k_26 | with_reducible apply k_105_97 | with_reducible apply K_some | with_reducible apply K_jif | with_reducible apply K_bif | with_reducible apply K_bind | with_reducible apply K_obind | with_reducible apply K_sif | with_reducible apply K_i | with_reducible apply K_l | with_reducible apply K_sF | with_reducible apply K_sT | with_reducible apply K_nF | with_reducible apply K_nT | with_reducible apply K_x | with_reducible intro _ | omega
theorem k_105 (v1 : (Nat × Nat)) (v2 : (Nat × Nat)) (v3 : Int32) (S : sS) (hS : kq S = c) : Kp (F_105 G t v1 v2 v3 S) c := by
  unfold F_105
  repeat' first | with_reducible assumption | with_reducible exact K_none | with_reducible apply k_104 | with_reducible apply k_105_35 | with_reducible apply K_some | with_reducible apply K_jif | with_reducible apply K_bif | with_reducible apply K_bind | with_reducible apply K_obind | with_reducible apply K_sif | with_reducible apply K_i | with_reducible apply K_l | with_reducible apply K_sF | with_reducible apply K_sT | with_reducible apply K_nF | with_reducible apply K_nT | with_reducible apply K_x | with_reducible intro _ | omega
theorem k_106 (v1 : Int64) (S : sS) (hS : kq S = c) : Kp (F_106 G t v1 S) c := by
  unfold F_106
  repeat' first | with_reducible assumption | with_reducible exact K_none | with_reducible apply K_some | with_reducible apply K_jif | with_reducible apply K_bif | with_reducible apply K_bind | with_reducible apply K_obind | with_reducible apply K_sif | with_reducible apply K_i | with_reducible apply K_l | with_reducible apply K_sF | with_reducible apply K_sT | with_reducible apply K_nF | with_reducible apply K_nT | with_reducible apply K_x | with_reducible intro _ | omega
theorem k_107 (v1 : Int32) (v2 : (Nat × Nat)) (v3 : (Nat × Nat)) (S : sS) (hS : kq S = c) : Kp (F_107 G t v1 v2 v3 S) c := by
  unfold F_107
  repeat' first | with_reducible assumption | with_reducible exact K_none | with_reducible apply k_103 | with_reducible apply k_26 | with_reducible apply k_76 | with_reducible apply k_81 | with_reducible apply k_106 | with_reducible apply K_some | with_reducible apply K_jif | with_reducible apply K_bif | with_reducible apply K_bind | with_reducible apply K_obind | with_reducible apply K_sif | with_reducible apply K_i | with_reducible apply K_l | with_reducible apply K_sF | with_reducible apply K_sT | with_reducible apply K_nF | with_reducible apply K_nT | with_reducible apply K_x | with_reducible intro _ | omega
theorem k_108 (v0 : (Nat × Nat)) (v1 : Int32) (S : sS) (hS : kq S = c) : Kp (F_108 G t v0 v1 S) c := by
  unfold F_108
  repeat' first | with_reducible assumption | with_reducible exact K_none | with_reducible apply k_26 | with_reducible apply k_27 | with_reducible apply k_78 | with_reducible apply k_76 | with_reducible apply K_some | with_reducible apply K_jif | with_reducible apply K_bif | with_reducible apply K_bind | with_reducible apply K_obind | with_reducible apply K_sif | with_reducible apply K_i | with_reducible apply K_l | with_reducible apply K_sF | with_reducible apply K_sT | with_reducible apply K_nF | with_reducible apply K_nT | with_reducible apply K_x | with_reducible intro _ | omega
theorem k_109_72 (v1 : (Nat × Nat)) (S : sS) (hS : kq S = c) : Kp (F_109_72 G t v1 S) c := by
  unfold F_109_72
  repeat' first | with_reducible assumption | with_reducible exact K_none | with_reducible apply k_78 | with_reducible apply K_some | with_reducible apply K_jif | with_reducible apply K_bif | with_reducible apply K_bind | with_reducible apply K_obind | with_reducible apply K_sif | with_reducible apply K_i | with_reducible apply K_l | with_reducible apply K_sF | with_reducible apply K_sT | with_reducible apply K_nF | with_reducible apply K_nT | with_reducible apply K_x | with_reducible intro _ | omega
theorem k_109_33 (v1 : (Nat × Nat)) (w0 : (Option (Nat × Nat))) (S : sS) (hS : kq S = c) : Kp (F_109_33 G t v1 w0 S) c := by
  unfold F_109_33
  repeat' first | with_reducible assumption | with_reducible exact K_none | with_reducible apply k_109_72 | with_reducible apply k_26 | with_reducible apply k_78 | with_reducible apply k_79 | with_reducible apply K_some | with_reducible apply K_jif | with_reducible apply K_bif | with_reducible apply K_bind | with_reducible apply K_obind | with_reducible apply K_sif | with_reducible apply K_i | with_reducible apply K_l | with_reducible apply K_sF | with_reducible apply K_sT | with_reducible apply K_nF | with_reducible apply K_nT | with_reducible apply K_x | with_reducible intro _ | omega
theorem k_109 (v0 : (Nat × Nat)) (S : sS) (hS : kq S = c) : Kp (F_109 G t v0 S) c := by
  unfold F_109
  repeat' first | with_reducible assumption | with_reducible exact K_none | with_reducible apply k_66 | with_reducible apply k_109_33 | with_reducible apply K_some | with_reducible apply K_jif | with_reducible apply K_bif | with_reducible apply K_bind | with_reducible apply K_obind | with_reducible apply K_sif | with_reducible apply K_i | with_reducible apply K_l | with_reducible apply K_sF | with_reducible apply K_sT | with_reducible apply K_nF | with_reducible apply K_nT | with_reducible apply K_x | with_reducible intro _ | omega
theorem k_110 (v0 : (Nat × Nat)) (v1 : Int32) (S : sS) (hS : kq S = c) : Kp (F_110 G t v0 v1 S) c := by
  unfold F_110
  repeat' first | with_reducible assumption | with_reducible exact K_none | with_reducible apply K_some | with_reducible apply K_jif | with_reducible apply K_bif | with_reducible apply K_bind | with_reducible apply K_obind | with_reducible apply K_sif | with_reducible apply K_i | with_reducible apply K_l | with_reducible apply K_sF | with_reducible apply K_sT | with_reducible apply K_nF | with_reducible apply K_nT | with_reducible apply K_x | with_reducible intro _ | omega
theorem k_111_32 (v1 : Int32) (v4 : (Nat × Nat)) (S : sS) (hS : kq S = c) : Kp (F_111_32 G t v1 v4 S) c := by
  unfold F_111_32
  repeat' first | with_reducible assumption | with_reducible exact K_none | with_reducible apply k_76 | with_reducible apply K_some | with_reducible apply K_jif | with_reducible apply K_bif | with_reducible apply K_bind | with_reducible apply K_obind | with_reducible apply K_sif | with_reducible apply K_i | with_reducible apply K_l | with_reducible apply K_sF | with_reducible apply K_sT | with_reducible apply K_nF | with_reducible apply K_nT | with_reducible apply K_x | with_reducible intro _ | omega
theorem k_111_27 (v1 : Int32) (v2 : Int32) (v3 : (Nat × Nat)) (v4 : (Nat × Nat)) (S : sS) (hS : kq S = c) : Kp (F_111_27 G t v1 v2 v3 v4 S) c := by
  unfold F_111_27
  repeat' first | with_reducible assumption | with_reducible exact K_none | with_reducible apply k_111_32 | with_reducible apply K_some | with_reducible apply K_jif | with_reducible apply K_bif | with_reducible apply K_bind | with_reducible apply K_obind | with_reducible apply K_sif | with_reducible apply K_i | with_reducible apply K_l | with_reducible apply K_sF | with_reducible apply K_sT | with_reducible apply K_nF | with_reducible apply K_nT | with_reducible apply K_x | with_reducible intro _ | omega
theorem k_111 (v1 : Int32) (v2 : Int32) (v3 : (Nat × Nat)) (S : sS) (hS : kq S = c) : Kp (F_111 G t v1 v2 v3 S) c := by
  unfold F_111
  repeat' first | with_reducible assumption | with_reducible exact K_none | with_reducible apply k_111_27 | with_reducible apply k_110 | with_reducible apply k_111_32 | with_reducible apply K_some | with_reducible apply K_jif | with_reducible apply K_bif | with_reducible apply K_bind | with_reducible apply K_obind | with_reducible apply K_sif | with_reducible apply K_i | with_reducible apply K_l | with_reducible apply K_sF | with_reducible apply K_sT | with_reducible apply K_nF | with_reducible apply K_nT | with_reducible apply K_x | with_reducible intro _ | omega
theorem k_112_133 (v2 : Int32) (v4 : (Nat × Nat)) (v5 : (Nat × Nat)) (S : sS) (hS : kq S = c) : Kp (F_112_133 G t v2 v4 v5 S) c := by
  unfold F_112_133
  repeat' first | with_reducible assumption | with_reducible exact K_none | with_reducible apply k_26 | with_reducible apply k_27 | with_reducible apply k_78 | with_reducible apply K_some | with_reducible apply K_jif | with_reducible apply K_bif | with_reducible apply K_bind | with_reducible apply K_obind | with_reducible apply K_sif | with_reducible apply K_i | with_reducible apply K_l | with_reducible apply K_sF | with_reducible apply K_sT | with_reducible apply K_nF | with_reducible apply K_nT | with_reducible apply K_x | with_reducible intro _ | omega
theorem k_112_153 (v2 : Int32) (v4 : (Nat × Nat)) (v5 : (Nat × Nat)) (v7 : Int64) (v9 : Int32) (S : sS) (hS : kq S = c) : Kp (F_112_153 G t v2 v4 v5 v7 v9 S) c := by
  unfold F_112_153
  repeat' first | with_reducible assumption | with_reducible exact K_none | with_reducible apply k_28 | with_reducible apply k_76 | with_reducible apply K_some | with_reducible apply K_jif | with_reducible apply K_bif | with_reducible apply K_bind | with_reducible apply K_obind | with_reducible apply K_sif | with_reducible apply K_i | with_reducible apply K_l | with_reducible apply K_sF | with_reducible apply K_sT | with_reducible apply K_nF | with_reducible apply K_nT | with_reducible apply K_x | with_reducible intro _ | omega
theorem k_112_30 (v1 : Int32) (v2 : Int32) (v4 : (Nat × Nat)) (w0 : (Nat × Nat)) (S : sS) (hS : kq S = c) : Kp (F_112_30 G t v1 v2 v4 w0 S) c := by
  unfold F_112_30
  repeat' first | with_reducible assumption | with_reducible exact K_none | with_reducible apply k_26 | with_reducible apply k_27 | with_reducible apply k_78 | with_reducible apply k_112_133 | with_reducible apply k_112_153 | with_reducible apply k_76 | with_reducible apply k_28 | with_reducible apply K_some | with_reducible apply K_jif | with_reducible apply K_bif | with_reducible apply K_bind | with_reducible apply K_obind | with_reducible apply K_sif | with_reducible apply K_i | with_reducible apply K_l | with_reducible apply K_sF | with_reducible apply K_sT | with_reducible apply K_nF | with_reducible apply K_nT | with_reducible apply K_x | with_reducible intro _ | omega
theorem k_112_16 (v1 : Int32) (v2 : Int32) (v4 : (Nat × Nat)) (S : sS) (hS : kq S = c) : Kp (F_112_16 G t v1 v2 v4 S) c := by
  unfold F_112_16
  repeat' first | with_reducible assumption | with_reducible exact K_none | with_reducible apply k_112_30 | with_reducible apply K_some | with_reducible apply K_jif | with_reducible apply K_bif | with_reducible apply K_bind | with_reducible apply K_obind | with_reducible apply K_sif | with_reducible apply K_i | with_reducible apply K_l | with_reducible apply K_sF | with_reducible apply K_sT | with_reducible apply K_nF | with_reducible apply K_nT | with_reducible apply K_x | with_reducible intro _ | omega
theorem k_112 (v1 : Int32) (v2 : Int32) (v3 : (Nat × Nat)) (S : sS) (hS : kq S = c) : Kp (F_112 G t v1 v2 v3 S) c := by
  unfold F_112
  repeat' first | with_reducible assumption | with_reducible exact K_none | with_reducible apply k_112_16 | with_reducible apply k_112_30 | with_reducible apply K_some | with_reducible apply K_jif | with_reducible apply K_bif | with_reducible apply K_bind | with_reducible apply K_obind | with_reducible apply K_sif | with_reducible apply K_i | with_reducible apply K_l | with_reducible apply K_sF | with_reducible apply K_sT | with_reducible apply K_nF | with_reducible apply K_nT | with_reducible apply K_x | with_reducible intro _ | omega
theorem k_113 (v1 : Int32) (v2 : Int64) (v4 : Int64) (S : sS) (hS : kq S = c) : Kp (F_113 G t v1 v2 v4 S) c := by
  unfold F_113
  repeat' first | with_reducible assumption | with_reducible exact K_none | with_reducible apply K_some | with_reducible apply K_jif | with_reducible apply K_bif | with_reducible apply K_bind | with_reducible apply K_obind | with_reducible apply K_sif | with_reducible apply K_i | with_reducible apply K_l | with_reducible apply K_sF | with_reducible apply K_sT | with_reducible apply K_nF | with_reducible apply K_nT | with_reducible apply K_x | with_reducible intro _ | omega
theorem k_114_28 (w0 : Int64) (w1 : Int32) (w2 : (Nat × Nat)) (S : sS) (hS : kq S = c) : Kp (F_114_28 G t w0 w1 w2 S) c := by
  unfold F_114_28
  repeat' first | with_reducible assumption | with_reducible exact K_none | with_reducible apply k_28 | with_reducible apply K_some | with_reducible apply K_jif | with_reducible apply K_bif | with_reducible apply K_bind | with_reducible apply K_obind | with_reducible apply K_sif | with_reducible apply K_i | with_reducible apply K_l | with_reducible apply K_sF | with_reducible apply K_sT | with_reducible apply K_nF | with_reducible apply K_nT | with_reducible apply K_x | with_reducible intro _ | omega
theorem k_114_169 (w0 : Int64) (w1 : (Nat × Nat)) (S : sS) (hS : kq S = c) : Kp (F_114_169 G t w0 w1 S) c := by
  unfold F_114_169
  repeat' first | with_reducible assumption | with_reducible exact K_none | with_reducible apply k_78 | with_reducible apply K_some | with_reducible apply K_jif | with_reducible apply K_bif | with_reducible apply K_bind | with_reducible apply K_obind | with_reducible apply K_sif | with_reducible apply K_i | with_reducible apply K_l | with_reducible apply K_sF | with_reducible apply K_sT | with_reducible apply K_nF | with_reducible apply K_nT | with_reducible apply K_x | with_reducible intro _ | omega
theorem k_114_156 (w0 : Int32) (w1 : (Nat × Nat)) (S : sS) (hS : kq S = c) : Kp (F_114_156 G t w0 w1 S) c := by
  unfold F_114_156
  repeat' first | with_reducible assumption | with_reducible exact K_none | with_reducible apply k_114_169 | with_reducible apply K_some | with_reducible apply K_jif | with_reducible apply K_bif | with_reducible apply K_bind | with_reducible apply K_obind | with_reducible apply K_sif | with_reducible apply K_i | with_reducible apply K_l | with_reducible apply K_sF | with_reducible apply K_sT | with_reducible apply K_nF | with_reducible apply K_nT | with_reducible apply K_x | with_reducible intro _ | omega
theorem k_114_132 (v1 : Int32) (v2 : (Nat × Nat)) (v4 : Int64) (v6 : Int64) (w0 : Int32) (S : sS) (hS : kq S = c) : Kp (F_114_132 G t v1 v2 v4 v6 w0 S) c := by
  unfold F_114_132
  repeat' first | with_reducible assumption | with_reducible exact K_none | with_reducible apply k_76 | with_reducible apply k_113 | with_reducible apply k_114_169 | with_reducible apply k_114_156 | with_reducible apply K_some | with_reducible apply K_jif | with_reducible apply K_bif | with_reducible apply K_bind | with_reducible apply K_obind | with_reducible apply K_sif | with_reducible apply K_i | with_reducible apply K_l | with_reducible apply K_sF | with_reducible apply K_sT | with_reducible apply K_nF | with_reducible apply K_nT | with_reducible apply K_x | with_reducible intro _ | omega
theorem k_114_131 (v1 : Int32) (v2 : (Nat × Nat)) (v4 : Int64) (v6 : Int64) (S : sS) (hS : kq S = c) : Kp (F_114_131 G t v1 v2 v4 v6 S) c := by
  unfold F_114_131
  repeat' first | with_reducible assumption | with_reducible exact K_none | with_reducible apply k_114_132 | with_reducible apply K_some | with_reducible apply K_jif | with_reducible apply K_bif | with_reducible apply K_bind | with_reducible apply K_obind | with_reducible apply K_sif | with_reducible apply K_i | with_reducible apply K_l | with_reducible apply K_sF | with_reducible apply K_sT | with_reducible apply K_nF | with_reducible apply K_nT | with_reducible apply K_x | with_reducible intro _ | omega
theorem k_114_104 (v1 : Int32) (v2 : (Nat × Nat)) (v3 : Int32) (v4 : Int64) (v6 : Int64) (S : sS) (hS : kq S = c) : Kp (F_114_104 G t v1 v2 v3 v4 v6 S) c := by
  unfold F_114_104
  repeat' first | with_reducible assumption | with_reducible exact K_none | with_reducible apply k_114_131 | with_reducible apply k_27 | with_reducible apply k_114_132 | with_reducible apply K_some | with_reducible apply K_jif | with_reducible apply K_bif | with_reducible apply K_bind | with_reducible apply K_obind | with_reducible apply K_sif | with_reducible apply K_i | with_reducible apply K_l | with_reducible apply K_sF | with_reducible apply K_sT | with_reducible apply K_nF | with_reducible apply K_nT | with_reducible apply K_x | with_reducible intro _ | omega
theorem k_114_89 (v1 : Int32) (v2 : (Nat × Nat)) (v3 : Int32) (v4 : Int64) (v6 : Int64) (S : sS) (hS : kq S = c) : Kp (F_114_89 G t v1 v2 v3 v4 v6 S) c := by
  unfold F_114_89
  repeat' first | with_reducible assumption | with_reducible exact K_none | with_reducible apply k_114_104 | with_reducible apply K_some | with_reducible apply K_jif | with_reducible apply K_bif | with_reducible apply K_bind | with_reducible apply K_obind | with_reducible apply K_sif | with_reducible apply K_i | with_reducible apply K_l | with_reducible apply K_sF | with_reducible apply K_sT | with_reducible apply K_nF | with_reducible apply K_nT | with_reducible apply K_x | with_reducible intro _ | omega
theorem k_114_73 (v1 : Int32) (v2 : (Nat × Nat)) (v3 : Int32) (v4 : Int64) (v6 : Int64) (w0 : Int32) (S : sS) (hS : kq S = c) : Kp (F_114_73 G t v1 v2 v3 v4 v6 w0 S) c := by
  unfold F_114_73
  repeat' first | with_reducible assumption | with_reducible exact K_none | with_reducible apply k_114_89 | with_reducible apply K_some | with_reducible apply K_jif | with_reducible apply K_bif | with_reducible apply K_bind | with_reducible apply K_obind | with_reducible apply K_sif | with_reducible apply K_i | with_reducible apply K_l | with_reducible apply K_sF | with_reducible apply K_sT | with_reducible apply K_nF | with_reducible apply K_nT | with_reducible apply K_x | with_reducible intro _ | omega
theorem k_114_72 (v1 : Int32) (v2 : (Nat × Nat)) (v3 : Int32) (v4 : Int64) (v6 : Int64) (S : sS) (hS : kq S = c) : Kp (F_114_72 G t v1 v2 v3 v4 v6 S) c := by
  unfold F_114_72
  repeat' first | with_reducible assumption | with_reducible exact K_none | with_reducible apply k_114_73 | with_reducible apply K_some | with_reducible apply K_jif | with_reducible apply K_bif | with_reducible apply K_bind | with_reducible apply K_obind | with_reducible apply K_sif | with_reducible apply K_i | with_reducible apply K_l | with_reducible apply K_sF | with_reducible apply K_sT | with_reducible apply K_nF | with_reducible apply K_nT | with_reducible apply K_x | with_reducible intro _ | omega
theorem k_114 (v1 : Int32) (v2 : (Nat × Nat)) (S : sS) (hS : kq S = c) : Kp (F_114 G t v1 v2 S) c := by
  unfold F_114
  repeat' first | with_reducible assumption | with_reducible exact K_none | with_reducible apply k_26 | with_reducible apply k_103 | with_reducible apply k_114_72 | with_reducible apply k_114_73 | with_reducible apply k_110 | with_reducible apply k_114_28 | with_reducible apply K_some | with_reducible apply K_jif | with_reducible apply K_bif | with_reducible apply K_bind | with_reducible apply K_obind | with_reducible apply K_sif | with_reducible apply K_i | with_reducible apply K_l | with_reducible apply K_sF | with_reducible apply K_sT | with_reducible apply K_nF | with_reducible apply K_nT | with_reducible apply K_x | with_reducible intro _ | omega
theorem k_115_58 (v3 : (Nat × Nat)) (v4 : Int32) (w0 : (Option (Nat × Nat))) (S : sS) (hS : kq S = c) : Kp (F_115_58 G t v3 v4 w0 S) c := by
  unfold F_115_58
  repeat' first | with_reducible assumption | with_reducible exact K_none | with_reducible apply k_28 | with_reducible apply K_some | with_reducible apply K_jif | with_reducible apply K_bif | with_reducible apply K_bind | with_reducible apply K_obind | with_reducible apply K_sif | with_reducible apply K_i | with_reducible apply K_l | with_reducible apply K_sF | with_reducible apply K_sT | with_reducible apply K_nF | with_reducible apply K_nT | with_reducible apply K_x | with_reducible intro _ | omega
theorem k_115_188 (v1 : Int32) (v3 : (Nat × Nat)) (v5 : (Nat × Nat)) (v9 : Int32) (S : sS) (hS : kq S = c) : Kp (F_115_188 G t v1 v3 v5 v9 S) c := by
  unfold F_115_188
  repeat' first | with_reducible assumption | with_reducible exact K_none | with_reducible apply k_76 | with_reducible apply k_26 | with_reducible apply k_27 | with_reducible apply k_78 | with_reducible apply K_some | with_reducible apply K_jif | with_reducible apply K_bif | with_reducible apply K_bind | with_reducible apply K_obind | with_reducible apply K_sif | with_reducible apply K_i | with_reducible apply K_l | with_reducible apply K_sF | with_reducible apply K_sT | with_reducible apply K_nF | with_reducible apply K_nT | with_reducible apply K_x | with_reducible intro _ | omega
theorem k_115_146 (v1 : Int32) (v3 : (Nat × Nat)) (v5 : (Nat × Nat)) (v7 : Int64) (S : sS) (hS : kq S = c) : Kp (F_115_146 G t v1 v3 v5 v7 S) c := by
  unfold F_115_146
  repeat' first | with_reducible assumption | with_reducible exact K_none | with_reducible apply k_115_188 | with_reducible apply k_96 | with_reducible apply k_26 | with_reducible apply k_27 | with_reducible apply k_28 | with_reducible apply k_76 | with_reducible apply K_some | with_reducible apply K_jif | with_reducible apply K_bif | with_reducible apply K_bind | with_reducible apply K_obind | with_reducible apply K_sif | with_reducible apply K_i | with_reducible apply K_l | with_reducible apply K_sF | with_reducible apply K_sT | with_reducible apply K_nF | with_reducible apply K_nT | with_reducible apply K_x | with_reducible intro _ | omega
theorem k_115_123 (v1 : Int32) (v3 : (Nat × Nat)) (v4 : Int32) (v5 : (Option (Nat × Nat))) (v6 : Int32) (w0 : Int64) (S : sS) (hS : kq S = c) : Kp (F_115_123 G t v1 v3 v4 v5 v6 w0 S) c := by
  unfold F_115_123
  repeat' first | with_reducible assumption | with_reducible exact K_none | with_reducible apply k_115_146 | with_reducible apply k_103 | with_reducible apply K_some | with_reducible apply K_jif | with_reducible apply K_bif | with_reducible apply K_bind | with_reducible apply K_obind | with_reducible apply K_sif | with_reducible apply K_i | with_reducible apply K_l | with_reducible apply K_sF | with_reducible apply K_sT | with_reducible apply K_nF | with_reducible apply K_nT | with_reducible apply K_x | with_reducible intro _ | omega
theorem k_115_103 (v1 : Int32) (v2 : Int32) (v3 : (Nat × Nat)) (v4 : Int32) (v5 : (Option (Nat × Nat))) (w0 : Int32) (S : sS) (hS : kq S = c) : Kp (F_115_103 G t v1 v2 v3 v4 v5 w0 S) c := by
  unfold F_115_103
  repeat' first | with_reducible assumption | with_reducible exact K_none | with_reducible apply k_115_123 | with_reducible apply k_26 | with_reducible apply K_some | with_reducible apply K_jif | with_reducible apply K_bif | with_reducible apply K_bind | with_reducible apply K_obind | with_reducible apply K_sif | with_reducible apply K_i | with_reducible apply K_l | with_reducible apply K_sF | with_reducible apply K_sT | with_reducible apply K_nF | with_reducible apply K_nT | with_reducible apply K_x | with_reducible intro _ | omega
theorem k_115_98 (v1 : Int32) (v2 : Int32) (v3 : (Nat × Nat)) (v4 : Int32) (v5 : (Option (Nat × Nat))) (S : sS) (hS : kq S = c) : Kp (F_115_98 G t v1 v2 v3 v4 v5 S) c := by
  unfold F_115_98
  repeat' first | with_reducible assumption | with_reducible exact K_none | with_reducible apply k_115_103 | with_reducible apply K_some | with_reducible apply K_jif | with_reducible apply K_bif | with_reducible apply K_bind | with_reducible apply K_obind | with_reducible apply K_sif | with_reducible apply K_i | with_reducible apply K_l | with_reducible apply K_sF | with_reducible apply K_sT | with_reducible apply K_nF | with_reducible apply K_nT | with_reducible apply K_x | with_reducible intro _ | omega
theorem k_115 (v1 : Int32) (v2 : Int32) (v3 : (Nat × Nat)) (S : sS) (hS : kq S = c) : Kp (F_115 G t v1 v2 v3 S) c := by
  unfold F_115
  repeat' first | with_reducible assumption | with_reducible exact K_none | with_reducible apply k_27 | with_reducible apply k_87 | with_reducible apply k_115_98 | with_reducible apply k_115_103 | with_reducible apply k_115_58 | with_reducible apply K_some | with_reducible apply K_jif | with_reducible apply K_bif | with_reducible apply K_bind | with_reducible apply K_obind | with_reducible apply K_sif | with_reducible apply K_i | with_reducible apply K_l | with_reducible apply K_sF | with_reducible apply K_sT | with_reducible apply K_nF | with_reducible apply K_nT | with_reducible apply K_x | with_reducible intro _ | omega
theorem k_116_116 (v1 : Int32) (v2 : Int32) (v3 : (Nat × Nat)) (v5 : (Nat × Nat)) (S : sS) (hS : kq S = c) : Kp (F_116_116 G t v1 v2 v3 v5 S) c := by
  unfold F_116_116
  repeat' first | with_reducible assumption | with_reducible exact K_none | with_reducible apply k_77 | with_reducible apply K_some | with_reducible apply K_jif | with_reducible apply K_bif | with_reducible apply K_bind | with_reducible apply K_obind | with_reducible apply K_sif | with_reducible apply K_i | with_reducible apply K_l | with_reducible apply K_sF | with_reducible apply K_sT | with_reducible apply K_nF | with_reducible apply K_nT | with_reducible apply K_x | with_reducible intro _ | omega
theorem k_116_194 (v2 : Int32) (v5 : (Nat × Nat)) (v10 : Int32) (S : sS) (hS : kq S = c) : Kp (F_116_194 G t v2 v5 v10 S) c := by
  unfold F_116_194
  repeat' first | with_reducible assumption | with_reducible exact K_none | with_reducible apply k_83 | with_reducible apply k_86 | with_reducible apply k_78 | with_reducible apply K_some | with_reducible apply K_jif | with_reducible apply K_bif | with_reducible apply K_bind | with_reducible apply K_obind | with_reducible apply K_sif | with_reducible apply K_i | with_reducible apply K_l | with_reducible apply K_sF | with_reducible apply K_sT | with_reducible apply K_nF | with_reducible apply K_nT | with_reducible apply K_x | with_reducible intro _ | omega
theorem k_116_172 (v2 : Int32) (v5 : (Nat × Nat)) (w0 : Int32) (S : sS) (hS : kq S = c) : Kp (F_116_172 G t v2 v5 w0 S) c := by
  unfold F_116_172
  repeat' first | with_reducible assumption | with_reducible exact K_none | with_reducible apply k_83 | with_reducible apply k_116_194 | with_reducible apply k_52 | with_reducible apply K_some | with_reducible apply K_jif | with_reducible apply K_bif | with_reducible apply K_bind | with_reducible apply K_obind | with_reducible apply K_sif | with_reducible apply K_i | with_reducible apply K_l | with_reducible apply K_sF | with_reducible apply K_sT | with_reducible apply K_nF | with_reducible apply K_nT | with_reducible apply K_x | with_reducible intro _ | omega
theorem k_116_161 (v1 : Int32) (v2 : Int32) (v5 : (Nat × Nat)) (S : sS) (hS : kq S = c) : Kp (F_116_161 G t v1 v2 v5 S) c := by
  unfold F_116_161
  repeat' first | with_reducible assumption | with_reducible exact K_none | with_reducible apply k_116_172 | with_reducible apply K_some | with_reducible apply K_jif | with_reducible apply K_bif | with_reducible apply K_bind | with_reducible apply K_obind | with_reducible apply K_sif | with_reducible apply K_i | with_reducible apply K_l | with_reducible apply K_sF | with_reducible apply K_sT | with_reducible apply K_nF | with_reducible apply K_nT | with_reducible apply K_x | with_reducible intro _ | omega
theorem k_116_272 (v1 : Int32) (v3 : (Nat × Nat)) (v5 : (Nat × Nat)) (S : sS) (hS : kq S = c) : Kp (F_116_272 G t v1 v3 v5 S) c := by
  unfold F_116_272
  repeat' first | with_reducible assumption | with_reducible exact K_none | with_reducible apply k_107 | with_reducible apply K_some | with_reducible apply K_jif | with_reducible apply K_bif | with_reducible apply K_bind | with_reducible apply K_obind | with_reducible apply K_sif | with_reducible apply K_i | with_reducible apply K_l | with_reducible apply K_sF | with_reducible apply K_sT | with_reducible apply K_nF | with_reducible apply K_nT | with_reducible apply K_x | with_reducible intro _ | omega
theorem k_116_303 (v1 : Int32) (v2 : Int32) (v4 : (Nat × Nat)) (S : sS) (hS : kq S = c) : Kp (F_116_303 G t v1 v2 v4 S) c := by
  unfold F_116_303
  repeat' first | with_reducible assumption | with_reducible exact K_none | with_reducible apply k_111 | with_reducible apply K_some | with_reducible apply K_jif | with_reducible apply K_bif | with_reducible apply K_bind | with_reducible apply K_obind | with_reducible apply K_sif | with_reducible apply K_i | with_reducible apply K_l | with_reducible apply K_sF | with_reducible apply K_sT | with_reducible apply K_nF | with_reducible apply K_nT | with_reducible apply K_x | with_reducible intro _ | omega
theorem k_116_314 (v1 : Int32) (v2 : Int32) (v4 : (Nat × Nat)) (v5 : (Nat × Nat)) (S : sS) (hS : kq S = c) : Kp (F_116_314 G t v1 v2 v4 v5 S) c := by
  unfold F_116_314
  repeat' first | with_reducible assumption | with_reducible exact K_none | with_reducible apply k_115 | with_reducible apply k_114 | with_reducible apply k_112 | with_reducible apply K_some | with_reducible apply K_jif | with_reducible apply K_bif | with_reducible apply K_bind | with_reducible apply K_obind | with_reducible apply K_sif | with_reducible apply K_i | with_reducible apply K_l | with_reducible apply K_sF | with_reducible apply K_sT | with_reducible apply K_nF | with_reducible apply K_nT | with_reducible apply K_x | with_reducible intro _ | omega
theorem k_116 (v1 : Int32) (v2 : Int32) (v3 : (Nat × Nat)) (v4 : (Nat × Nat)) (S : sS) (hS : kq S = c) : Kp (F_116 G t v1 v2 v3 v4 S) c := by
  unfold F_116
  repeat' first | with_reducible assumption | with_reducible exact K_none | with_reducible apply k_116_314 | with_reducible apply k_116_303 | with_reducible apply k_116_116 | with_reducible apply k_26 | with_reducible apply k_27 | with_reducible apply k_76 | with_reducible apply k_81 | with_reducible apply k_116_161 | with_reducible apply k_94 | with_reducible apply k_100 | with_reducible apply k_102 | with_reducible apply k_105 | with_reducible apply k_116_272 | with_reducible apply k_108 | with_reducible apply k_109 | with_reducible apply K_some | with_reducible apply K_jif | with_reducible apply K_bif | with_reducible apply K_bind | with_reducible apply K_obind | with_reducible apply K_sif | with_reducible apply K_i | with_reducible apply K_l | with_reducible apply K_sF | with_reducible apply K_sT | with_reducible apply K_nF | with_reducible apply K_nT | with_reducible apply K_x | with_reducible intro _ | omega
end KEP
