/-! printed by dec.py: the law's loop -/
/-! 204 StrandRuntimeLaw.law([I)Z -/
def F_204_795 (G : jG) (t : Nat) (k23 : Int32 → sS → Option (Int32 × sS)) (v4 : Int32) (S : sS) : Option (Int32 × sS) := k23 (v4 + Int32.ofInt 3) S
theorem F_204_795_ok {G : jG} {t : Nat} {k23 : Int32 → sS → Option (Int32 × sS)} {r : Int32} {S' : sS} {Q : Option Value ⊕ Nat → jS → Prop} (hk23 : ∀ (v4 : Int32) (S : sS) (lv : jL) (μ : jS), jld lv 0 = some (.float 0) → jld lv 1 = some (.ref (spl 0 0 0)) → jld lv 2 = some (.ref (spl 33 0 0)) → jld lv 3 = some (.ref (spl 64 0 0)) → jld lv 4 = some (.int v4) → sR S μ → k23 v4 S = some (r, S') → jX G jP 204 23 lv [] μ Q) (K : ∀ μ', sR S' μ' → Q (srI r) μ') : ∀ (v4 : Int32) (S : sS) (lv : jL) (μ : jS), jld lv 0 = some (.float 0) → jld lv 1 = some (.ref (spl 0 0 0)) → jld lv 2 = some (.ref (spl 33 0 0)) → jld lv 3 = some (.ref (spl 64 0 0)) → jld lv 4 = some (.int v4) → sR S μ → F_204_795 G t k23 v4 S = some (r, S') → jX G jP 204 795 lv [] μ Q := by
  intro v4 S lv μ l0 l1 l2 l3 l4 R h
  unfold F_204_795 at h
  refine jX.inc l4 (by rfl) (by rfl) (by rfl) (fun lv l4 kp => (?_ : jX G jP 204 798 lv [] μ Q))
  replace l0 := kp 0 _ l0 (by rfl) (by first | rfl | simp [soR_cat])
  replace l1 := kp 1 _ l1 (by rfl) (by first | rfl | simp [soR_cat])
  replace l2 := kp 2 _ l2 (by rfl) (by first | rfl | simp [soR_cat])
  replace l3 := kp 3 _ l3 (by rfl) (by first | rfl | simp [soR_cat])
  refine jX.go (by rfl) (by rfl) (by rfl) (?_ : jX G jP 204 23 lv [] μ Q)
  exact hk23 (v4 + Int32.ofInt 3) _ _ _ l0 l1 l2 l3 l4 R h
def F_204_181 (G : jG) (t : Nat) (k23 : Int32 → sS → Option (Int32 × sS)) (v4 : Int32) (S : sS) : Option (Int32 × sS) := F_204_795 G t k23 v4 S
theorem F_204_181_ok {G : jG} {t : Nat} {k23 : Int32 → sS → Option (Int32 × sS)} {r : Int32} {S' : sS} {Q : Option Value ⊕ Nat → jS → Prop} (hk23 : ∀ (v4 : Int32) (S : sS) (lv : jL) (μ : jS), jld lv 0 = some (.float 0) → jld lv 1 = some (.ref (spl 0 0 0)) → jld lv 2 = some (.ref (spl 33 0 0)) → jld lv 3 = some (.ref (spl 64 0 0)) → jld lv 4 = some (.int v4) → sR S μ → k23 v4 S = some (r, S') → jX G jP 204 23 lv [] μ Q) (K : ∀ μ', sR S' μ' → Q (srI r) μ') : ∀ (v4 : Int32) (S : sS) (lv : jL) (μ : jS), jld lv 0 = some (.float 0) → jld lv 1 = some (.ref (spl 0 0 0)) → jld lv 2 = some (.ref (spl 33 0 0)) → jld lv 3 = some (.ref (spl 64 0 0)) → jld lv 4 = some (.int v4) → sR S μ → F_204_181 G t k23 v4 S = some (r, S') → jX G jP 204 181 lv [] μ Q := by
  intro v4 S lv μ l0 l1 l2 l3 l4 R h
  unfold F_204_181 at h
  refine jX.go (by rfl) (by rfl) (by rfl) (?_ : jX G jP 204 795 lv [] μ Q)
  exact F_204_795_ok hk23 K v4 _ _ _ l0 l1 l2 l3 l4 R h
def F_204_249 (G : jG) (t : Nat) (k23 : Int32 → sS → Option (Int32 × sS)) (v4 : Int32) (S : sS) : Option (Int32 × sS) := F_204_795 G t k23 v4 S
theorem F_204_249_ok {G : jG} {t : Nat} {k23 : Int32 → sS → Option (Int32 × sS)} {r : Int32} {S' : sS} {Q : Option Value ⊕ Nat → jS → Prop} (hk23 : ∀ (v4 : Int32) (S : sS) (lv : jL) (μ : jS), jld lv 0 = some (.float 0) → jld lv 1 = some (.ref (spl 0 0 0)) → jld lv 2 = some (.ref (spl 33 0 0)) → jld lv 3 = some (.ref (spl 64 0 0)) → jld lv 4 = some (.int v4) → sR S μ → k23 v4 S = some (r, S') → jX G jP 204 23 lv [] μ Q) (K : ∀ μ', sR S' μ' → Q (srI r) μ') : ∀ (v4 : Int32) (S : sS) (lv : jL) (μ : jS), jld lv 0 = some (.float 0) → jld lv 1 = some (.ref (spl 0 0 0)) → jld lv 2 = some (.ref (spl 33 0 0)) → jld lv 3 = some (.ref (spl 64 0 0)) → jld lv 4 = some (.int v4) → sR S μ → F_204_249 G t k23 v4 S = some (r, S') → jX G jP 204 249 lv [] μ Q := by
  intro v4 S lv μ l0 l1 l2 l3 l4 R h
  unfold F_204_249 at h
  refine jX.go (by rfl) (by rfl) (by rfl) (?_ : jX G jP 204 795 lv [] μ Q)
  exact F_204_795_ok hk23 K v4 _ _ _ l0 l1 l2 l3 l4 R h
def F_204_354 (G : jG) (t : Nat) (k23 : Int32 → sS → Option (Int32 × sS)) (v4 : Int32) (S : sS) : Option (Int32 × sS) := F_204_795 G t k23 v4 S
theorem F_204_354_ok {G : jG} {t : Nat} {k23 : Int32 → sS → Option (Int32 × sS)} {r : Int32} {S' : sS} {Q : Option Value ⊕ Nat → jS → Prop} (hk23 : ∀ (v4 : Int32) (S : sS) (lv : jL) (μ : jS), jld lv 0 = some (.float 0) → jld lv 1 = some (.ref (spl 0 0 0)) → jld lv 2 = some (.ref (spl 33 0 0)) → jld lv 3 = some (.ref (spl 64 0 0)) → jld lv 4 = some (.int v4) → sR S μ → k23 v4 S = some (r, S') → jX G jP 204 23 lv [] μ Q) (K : ∀ μ', sR S' μ' → Q (srI r) μ') : ∀ (v4 : Int32) (S : sS) (lv : jL) (μ : jS), jld lv 0 = some (.float 0) → jld lv 1 = some (.ref (spl 0 0 0)) → jld lv 2 = some (.ref (spl 33 0 0)) → jld lv 3 = some (.ref (spl 64 0 0)) → jld lv 4 = some (.int v4) → sR S μ → F_204_354 G t k23 v4 S = some (r, S') → jX G jP 204 354 lv [] μ Q := by
  intro v4 S lv μ l0 l1 l2 l3 l4 R h
  unfold F_204_354 at h
  refine jX.go (by rfl) (by rfl) (by rfl) (?_ : jX G jP 204 795 lv [] μ Q)
  exact F_204_795_ok hk23 K v4 _ _ _ l0 l1 l2 l3 l4 R h
def F_204_410 (G : jG) (t : Nat) (k23 : Int32 → sS → Option (Int32 × sS)) (v4 : Int32) (S : sS) : Option (Int32 × sS) := F_204_795 G t k23 v4 S
theorem F_204_410_ok {G : jG} {t : Nat} {k23 : Int32 → sS → Option (Int32 × sS)} {r : Int32} {S' : sS} {Q : Option Value ⊕ Nat → jS → Prop} (hk23 : ∀ (v4 : Int32) (S : sS) (lv : jL) (μ : jS), jld lv 0 = some (.float 0) → jld lv 1 = some (.ref (spl 0 0 0)) → jld lv 2 = some (.ref (spl 33 0 0)) → jld lv 3 = some (.ref (spl 64 0 0)) → jld lv 4 = some (.int v4) → sR S μ → k23 v4 S = some (r, S') → jX G jP 204 23 lv [] μ Q) (K : ∀ μ', sR S' μ' → Q (srI r) μ') : ∀ (v4 : Int32) (S : sS) (lv : jL) (μ : jS), jld lv 0 = some (.float 0) → jld lv 1 = some (.ref (spl 0 0 0)) → jld lv 2 = some (.ref (spl 33 0 0)) → jld lv 3 = some (.ref (spl 64 0 0)) → jld lv 4 = some (.int v4) → sR S μ → F_204_410 G t k23 v4 S = some (r, S') → jX G jP 204 410 lv [] μ Q := by
  intro v4 S lv μ l0 l1 l2 l3 l4 R h
  unfold F_204_410 at h
  refine jX.go (by rfl) (by rfl) (by rfl) (?_ : jX G jP 204 795 lv [] μ Q)
  exact F_204_795_ok hk23 K v4 _ _ _ l0 l1 l2 l3 l4 R h
def F_204_466 (G : jG) (t : Nat) (k23 : Int32 → sS → Option (Int32 × sS)) (v4 : Int32) (S : sS) : Option (Int32 × sS) := F_204_795 G t k23 v4 S
theorem F_204_466_ok {G : jG} {t : Nat} {k23 : Int32 → sS → Option (Int32 × sS)} {r : Int32} {S' : sS} {Q : Option Value ⊕ Nat → jS → Prop} (hk23 : ∀ (v4 : Int32) (S : sS) (lv : jL) (μ : jS), jld lv 0 = some (.float 0) → jld lv 1 = some (.ref (spl 0 0 0)) → jld lv 2 = some (.ref (spl 33 0 0)) → jld lv 3 = some (.ref (spl 64 0 0)) → jld lv 4 = some (.int v4) → sR S μ → k23 v4 S = some (r, S') → jX G jP 204 23 lv [] μ Q) (K : ∀ μ', sR S' μ' → Q (srI r) μ') : ∀ (v4 : Int32) (S : sS) (lv : jL) (μ : jS), jld lv 0 = some (.float 0) → jld lv 1 = some (.ref (spl 0 0 0)) → jld lv 2 = some (.ref (spl 33 0 0)) → jld lv 3 = some (.ref (spl 64 0 0)) → jld lv 4 = some (.int v4) → sR S μ → F_204_466 G t k23 v4 S = some (r, S') → jX G jP 204 466 lv [] μ Q := by
  intro v4 S lv μ l0 l1 l2 l3 l4 R h
  unfold F_204_466 at h
  refine jX.go (by rfl) (by rfl) (by rfl) (?_ : jX G jP 204 795 lv [] μ Q)
  exact F_204_795_ok hk23 K v4 _ _ _ l0 l1 l2 l3 l4 R h
def F_204_561 (G : jG) (t : Nat) (k23 : Int32 → sS → Option (Int32 × sS)) (v4 : Int32) (S : sS) : Option (Int32 × sS) := F_204_795 G t k23 v4 S
theorem F_204_561_ok {G : jG} {t : Nat} {k23 : Int32 → sS → Option (Int32 × sS)} {r : Int32} {S' : sS} {Q : Option Value ⊕ Nat → jS → Prop} (hk23 : ∀ (v4 : Int32) (S : sS) (lv : jL) (μ : jS), jld lv 0 = some (.float 0) → jld lv 1 = some (.ref (spl 0 0 0)) → jld lv 2 = some (.ref (spl 33 0 0)) → jld lv 3 = some (.ref (spl 64 0 0)) → jld lv 4 = some (.int v4) → sR S μ → k23 v4 S = some (r, S') → jX G jP 204 23 lv [] μ Q) (K : ∀ μ', sR S' μ' → Q (srI r) μ') : ∀ (v4 : Int32) (S : sS) (lv : jL) (μ : jS), jld lv 0 = some (.float 0) → jld lv 1 = some (.ref (spl 0 0 0)) → jld lv 2 = some (.ref (spl 33 0 0)) → jld lv 3 = some (.ref (spl 64 0 0)) → jld lv 4 = some (.int v4) → sR S μ → F_204_561 G t k23 v4 S = some (r, S') → jX G jP 204 561 lv [] μ Q := by
  intro v4 S lv μ l0 l1 l2 l3 l4 R h
  unfold F_204_561 at h
  refine jX.go (by rfl) (by rfl) (by rfl) (?_ : jX G jP 204 795 lv [] μ Q)
  exact F_204_795_ok hk23 K v4 _ _ _ l0 l1 l2 l3 l4 R h
def F_204_628 (G : jG) (t : Nat) (k23 : Int32 → sS → Option (Int32 × sS)) (v4 : Int32) (S : sS) : Option (Int32 × sS) := F_204_795 G t k23 v4 S
theorem F_204_628_ok {G : jG} {t : Nat} {k23 : Int32 → sS → Option (Int32 × sS)} {r : Int32} {S' : sS} {Q : Option Value ⊕ Nat → jS → Prop} (hk23 : ∀ (v4 : Int32) (S : sS) (lv : jL) (μ : jS), jld lv 0 = some (.float 0) → jld lv 1 = some (.ref (spl 0 0 0)) → jld lv 2 = some (.ref (spl 33 0 0)) → jld lv 3 = some (.ref (spl 64 0 0)) → jld lv 4 = some (.int v4) → sR S μ → k23 v4 S = some (r, S') → jX G jP 204 23 lv [] μ Q) (K : ∀ μ', sR S' μ' → Q (srI r) μ') : ∀ (v4 : Int32) (S : sS) (lv : jL) (μ : jS), jld lv 0 = some (.float 0) → jld lv 1 = some (.ref (spl 0 0 0)) → jld lv 2 = some (.ref (spl 33 0 0)) → jld lv 3 = some (.ref (spl 64 0 0)) → jld lv 4 = some (.int v4) → sR S μ → F_204_628 G t k23 v4 S = some (r, S') → jX G jP 204 628 lv [] μ Q := by
  intro v4 S lv μ l0 l1 l2 l3 l4 R h
  unfold F_204_628 at h
  refine jX.go (by rfl) (by rfl) (by rfl) (?_ : jX G jP 204 795 lv [] μ Q)
  exact F_204_795_ok hk23 K v4 _ _ _ l0 l1 l2 l3 l4 R h
def F_204_696 (G : jG) (t : Nat) (k23 : Int32 → sS → Option (Int32 × sS)) (v4 : Int32) (S : sS) : Option (Int32 × sS) := F_204_795 G t k23 v4 S
theorem F_204_696_ok {G : jG} {t : Nat} {k23 : Int32 → sS → Option (Int32 × sS)} {r : Int32} {S' : sS} {Q : Option Value ⊕ Nat → jS → Prop} (hk23 : ∀ (v4 : Int32) (S : sS) (lv : jL) (μ : jS), jld lv 0 = some (.float 0) → jld lv 1 = some (.ref (spl 0 0 0)) → jld lv 2 = some (.ref (spl 33 0 0)) → jld lv 3 = some (.ref (spl 64 0 0)) → jld lv 4 = some (.int v4) → sR S μ → k23 v4 S = some (r, S') → jX G jP 204 23 lv [] μ Q) (K : ∀ μ', sR S' μ' → Q (srI r) μ') : ∀ (v4 : Int32) (S : sS) (lv : jL) (μ : jS), jld lv 0 = some (.float 0) → jld lv 1 = some (.ref (spl 0 0 0)) → jld lv 2 = some (.ref (spl 33 0 0)) → jld lv 3 = some (.ref (spl 64 0 0)) → jld lv 4 = some (.int v4) → sR S μ → F_204_696 G t k23 v4 S = some (r, S') → jX G jP 204 696 lv [] μ Q := by
  intro v4 S lv μ l0 l1 l2 l3 l4 R h
  unfold F_204_696 at h
  refine jX.go (by rfl) (by rfl) (by rfl) (?_ : jX G jP 204 795 lv [] μ Q)
  exact F_204_795_ok hk23 K v4 _ _ _ l0 l1 l2 l3 l4 R h
def F_204_752 (G : jG) (t : Nat) (k23 : Int32 → sS → Option (Int32 × sS)) (v4 : Int32) (S : sS) : Option (Int32 × sS) := F_204_795 G t k23 v4 S
theorem F_204_752_ok {G : jG} {t : Nat} {k23 : Int32 → sS → Option (Int32 × sS)} {r : Int32} {S' : sS} {Q : Option Value ⊕ Nat → jS → Prop} (hk23 : ∀ (v4 : Int32) (S : sS) (lv : jL) (μ : jS), jld lv 0 = some (.float 0) → jld lv 1 = some (.ref (spl 0 0 0)) → jld lv 2 = some (.ref (spl 33 0 0)) → jld lv 3 = some (.ref (spl 64 0 0)) → jld lv 4 = some (.int v4) → sR S μ → k23 v4 S = some (r, S') → jX G jP 204 23 lv [] μ Q) (K : ∀ μ', sR S' μ' → Q (srI r) μ') : ∀ (v4 : Int32) (S : sS) (lv : jL) (μ : jS), jld lv 0 = some (.float 0) → jld lv 1 = some (.ref (spl 0 0 0)) → jld lv 2 = some (.ref (spl 33 0 0)) → jld lv 3 = some (.ref (spl 64 0 0)) → jld lv 4 = some (.int v4) → sR S μ → F_204_752 G t k23 v4 S = some (r, S') → jX G jP 204 752 lv [] μ Q := by
  intro v4 S lv μ l0 l1 l2 l3 l4 R h
  unfold F_204_752 at h
  refine jX.go (by rfl) (by rfl) (by rfl) (?_ : jX G jP 204 795 lv [] μ Q)
  exact F_204_795_ok hk23 K v4 _ _ _ l0 l1 l2 l3 l4 R h
def F_204_23 (G : jG) (t : Nat) : Nat → Int32 → sS → Option (Int32 × sS)
  | 0 => fun _ _ => none
  | tt + 1 => fun v4 S => bif jcmp .gt v4 ((Int32.ofNat (G 0).1) - (nI 3)) then (some ((nI 1), S)) else (jif (jin v4 (G 0).1) (bif decide ((((G 0).2 v4.toNatClampNeg) &&& (nI 15)).toInt < 0 ∨ 15 < (((G 0).2 v4.toNatClampNeg) &&& (nI 15)).toInt) then (F_204_795 G t (F_204_23 G t tt) v4 S) else (bif decide (((G 0).2 v4.toNatClampNeg) &&& (nI 15) = nI 0) then (jif (jin (v4 + (nI 1)) (G 0).1) (jif (jin (v4 + (nI 2)) (G 0).1) ((F_130 G t ((G 0).2 (v4 + (nI 1)).toNatClampNeg) ((G 0).2 (v4 + (nI 2)).toNatClampNeg) S).bind (fun q4 => jif (jin (v4 + (nI 1)) (G 0).1) (jif (jin (v4 + (nI 2)) (G 0).1) ((F_136 G t ((G 0).2 (v4 + (nI 1)).toNatClampNeg) ((G 0).2 (v4 + (nI 2)).toNatClampNeg) q4.2).bind (fun q7 => (F_137 G t q7.2).bind (fun q8 => bif jcmp .eq q8.1 q4.1 then (bif jcmp .ne q4.1 0 then (F_204_181 G t (F_204_23 G t tt) v4 q8.2) else (jif (jin (nI 0) 1) (bif jcmp .eq (lg_cmp (q8.2.2.1 64 0 0 (nI 0).toNatClampNeg) q7.1.toInt64) 0 then (F_204_181 G t (F_204_23 G t tt) v4 q8.2) else (some ((nI 0), q8.2))))) else (some ((nI 0), q8.2)))))))))) else (bif decide (((G 0).2 v4.toNatClampNeg) &&& (nI 15) = nI 1) then (jif (jin (v4 + (nI 1)) (G 0).1) (jif (jin (v4 + (nI 2)) (G 0).1) ((F_128 G t ((G 0).2 (v4 + (nI 1)).toNatClampNeg) ((G 0).2 (v4 + (nI 2)).toNatClampNeg) S).bind (fun q12 => jif (jin (v4 + (nI 1)) (G 0).1) (jif (jin (v4 + (nI 2)) (G 0).1) ((F_139 G t ((G 0).2 (v4 + (nI 1)).toNatClampNeg) ((G 0).2 (v4 + (nI 2)).toNatClampNeg) q12.2).bind (fun q15 => (F_137 G t q15.2).bind (fun q16 => bif jcmp .eq q16.1 q12.1 then (bif jcmp .ne q12.1 0 then (F_204_249 G t (F_204_23 G t tt) v4 q16.2) else (jif (jin (nI 0) 1) (bif jcmp .eq (lg_cmp (q16.2.2.1 64 0 0 (nI 0).toNatClampNeg) q15.1.toInt64) 0 then (F_204_249 G t (F_204_23 G t tt) v4 q16.2) else (some ((nI 0), q16.2))))) else (some ((nI 0), q16.2)))))))))) else (bif decide (((G 0).2 v4.toNatClampNeg) &&& (nI 15) = nI 2) then (jif (jin (v4 + (nI 1)) (G 0).1) ((F_127 G t ((G 0).2 (v4 + (nI 1)).toNatClampNeg) S).bind (fun q19 => jif (jin (v4 + (nI 1)) (G 0).1) ((F_143 G t ((G 0).2 (v4 + (nI 1)).toNatClampNeg) q19.2).bind (fun q21 => (F_137 G t q21.2).bind (fun q22 => bif jcmp .eq q22.1 q19.1 then (F_204_795 G t (F_204_23 G t tt) v4 q22.2) else (some ((nI 0), q22.2)))))))) else (bif decide (((G 0).2 v4.toNatClampNeg) &&& (nI 15) = nI 3) then ((F_47 G t S).bind (fun q23 => (F_144 G t q23.2).bind (fun q24 => bif jcmp .eq q23.1 q24.1 then (F_204_795 G t (F_204_23 G t tt) v4 q24.2) else (some ((nI 0), q24.2))))) else (bif decide (((G 0).2 v4.toNatClampNeg) &&& (nI 15) = nI 4) then (jif (jin (v4 + (nI 1)) (G 0).1) ((F_145 G t ((G 0).2 (v4 + (nI 1)).toNatClampNeg) S).bind (fun q26 => jif (jin (v4 + (nI 1)) (G 0).1) ((F_146 G t ((G 0).2 (v4 + (nI 1)).toNatClampNeg) q26.2).bind (fun q28 => (F_137 G t q28.2).bind (fun q29 => bif jcmp .eq q29.1 q26.1 then (bif jcmp .ne q26.1 0 then (F_204_354 G t (F_204_23 G t tt) v4 q29.2) else (jif (jin (nI 0) 1) (bif jcmp .eq (lg_cmp (q29.2.2.1 64 0 0 (nI 0).toNatClampNeg) q28.1.toInt64) 0 then (F_204_354 G t (F_204_23 G t tt) v4 q29.2) else (some ((nI 0), q29.2))))) else (some ((nI 0), q29.2)))))))) else (bif decide (((G 0).2 v4.toNatClampNeg) &&& (nI 15) = nI 5) then (jif (jin (v4 + (nI 1)) (G 0).1) ((F_147 G t ((G 0).2 (v4 + (nI 1)).toNatClampNeg) S).bind (fun q32 => jif (jin (v4 + (nI 1)) (G 0).1) ((F_148 G t ((G 0).2 (v4 + (nI 1)).toNatClampNeg) q32.2).bind (fun q34 => (F_137 G t q34.2).bind (fun q35 => bif jcmp .eq q35.1 q32.1 then (bif jcmp .ne q32.1 0 then (F_204_410 G t (F_204_23 G t tt) v4 q35.2) else (jif (jin (nI 0) 1) (bif jcmp .eq (lg_cmp (q35.2.2.1 64 0 0 (nI 0).toNatClampNeg) q34.1.toInt64) 0 then (F_204_410 G t (F_204_23 G t tt) v4 q35.2) else (some ((nI 0), q35.2))))) else (some ((nI 0), q35.2)))))))) else (bif decide (((G 0).2 v4.toNatClampNeg) &&& (nI 15) = nI 6) then (jif (jin (v4 + (nI 1)) (G 0).1) ((F_149 G t ((G 0).2 (v4 + (nI 1)).toNatClampNeg) S).bind (fun q38 => jif (jin (v4 + (nI 1)) (G 0).1) ((F_191 G t ((G 0).2 (v4 + (nI 1)).toNatClampNeg) q38.2).bind (fun q40 => (F_137 G t q40.2).bind (fun q41 => bif jcmp .eq q41.1 q38.1 then (bif jcmp .ne q38.1 0 then (F_204_466 G t (F_204_23 G t tt) v4 q41.2) else (jif (jin (nI 0) 1) (bif jcmp .eq (lg_cmp (q41.2.2.1 64 0 0 (nI 0).toNatClampNeg) q40.1.toInt64) 0 then (F_204_466 G t (F_204_23 G t tt) v4 q41.2) else (some ((nI 0), q41.2))))) else (some ((nI 0), q41.2)))))))) else (bif decide (((G 0).2 v4.toNatClampNeg) &&& (nI 15) = nI 7) then ((F_122 G t S).bind (fun q43 => (F_192 G t q43.2).bind (fun q44 => bif jcmp .eq q43.1 q44.1 then (F_204_795 G t (F_204_23 G t tt) v4 q44.2) else (some ((nI 0), q44.2))))) else (bif decide (((G 0).2 v4.toNatClampNeg) &&& (nI 15) = nI 8) then ((F_126 G t S).bind (fun q45 => (F_193 G t q45.2).bind (fun q46 => bif jcmp .eq (lg_cmp q45.1 q46.1) 0 then (F_204_795 G t (F_204_23 G t tt) v4 q46.2) else (some ((nI 0), q46.2))))) else (bif decide (((G 0).2 v4.toNatClampNeg) &&& (nI 15) = nI 9) then (jif (jin (v4 + (nI 1)) (G 0).1) (jif (jin (v4 + (nI 2)) (G 0).1) ((F_194 G t ((G 0).2 (v4 + (nI 1)).toNatClampNeg) ((G 0).2 (v4 + (nI 2)).toNatClampNeg) S).bind (fun q49 => jif (jin (v4 + (nI 1)) (G 0).1) (jif (jin (v4 + (nI 2)) (G 0).1) ((F_195 G t ((G 0).2 (v4 + (nI 1)).toNatClampNeg) ((G 0).2 (v4 + (nI 2)).toNatClampNeg) q49.2).bind (fun q52 => (F_137 G t q52.2).bind (fun q53 => bif jcmp .eq q53.1 q49.1 then (bif jcmp .ne q49.1 0 then (F_204_561 G t (F_204_23 G t tt) v4 q53.2) else (jif (jin (nI 0) 1) (bif jcmp .eq (lg_cmp (q53.2.2.1 64 0 0 (nI 0).toNatClampNeg) q52.1.toInt64) 0 then (F_204_561 G t (F_204_23 G t tt) v4 q53.2) else (some ((nI 0), q53.2))))) else (some ((nI 0), q53.2)))))))))) else (bif decide (((G 0).2 v4.toNatClampNeg) &&& (nI 15) = nI 10) then (jif (jin (v4 + (nI 1)) (G 0).1) (jif (jin (v4 + (nI 2)) (G 0).1) ((F_196 G t ((G 0).2 (v4 + (nI 1)).toNatClampNeg) ((G 0).2 (v4 + (nI 2)).toNatClampNeg) S).bind (fun q57 => jif (jin (v4 + (nI 1)) (G 0).1) (jif (jin (v4 + (nI 2)) (G 0).1) ((F_198 G t ((G 0).2 (v4 + (nI 1)).toNatClampNeg) ((G 0).2 (v4 + (nI 2)).toNatClampNeg) q57.2).bind (fun q60 => (F_137 G t q60.2).bind (fun q61 => bif jcmp .eq q61.1 q57.1 then (bif jcmp .ne q57.1 0 then (F_204_628 G t (F_204_23 G t tt) v4 q61.2) else (jif (jin (nI 0) 1) (bif jcmp .eq (lg_cmp (q61.2.2.1 64 0 0 (nI 0).toNatClampNeg) q60.1) 0 then (F_204_628 G t (F_204_23 G t tt) v4 q61.2) else (some ((nI 0), q61.2))))) else (some ((nI 0), q61.2)))))))))) else (bif decide (((G 0).2 v4.toNatClampNeg) &&& (nI 15) = nI 11) then (jif (jin (v4 + (nI 1)) (G 0).1) (jif (jin (v4 + (nI 2)) (G 0).1) ((F_131 G t ((G 0).2 (v4 + (nI 1)).toNatClampNeg) ((G 0).2 (v4 + (nI 2)).toNatClampNeg) S).bind (fun q65 => jif (jin (v4 + (nI 1)) (G 0).1) (jif (jin (v4 + (nI 2)) (G 0).1) ((F_199 G t ((G 0).2 (v4 + (nI 1)).toNatClampNeg) ((G 0).2 (v4 + (nI 2)).toNatClampNeg) q65.2).bind (fun q68 => (F_137 G t q68.2).bind (fun q69 => bif jcmp .eq q69.1 q65.1 then (bif jcmp .ne q65.1 0 then (F_204_696 G t (F_204_23 G t tt) v4 q69.2) else (jif (jin (nI 0) 1) (bif jcmp .eq (lg_cmp (q69.2.2.1 64 0 0 (nI 0).toNatClampNeg) q68.1.toInt64) 0 then (F_204_696 G t (F_204_23 G t tt) v4 q69.2) else (some ((nI 0), q69.2))))) else (some ((nI 0), q69.2)))))))))) else (bif decide (((G 0).2 v4.toNatClampNeg) &&& (nI 15) = nI 12) then (jif (jin (v4 + (nI 1)) (G 0).1) ((F_129 G t ((G 0).2 (v4 + (nI 1)).toNatClampNeg) S).bind (fun q72 => jif (jin (v4 + (nI 1)) (G 0).1) ((F_200 G t ((G 0).2 (v4 + (nI 1)).toNatClampNeg) q72.2).bind (fun q74 => (F_137 G t q74.2).bind (fun q75 => bif jcmp .eq q75.1 q72.1 then (bif jcmp .ne q72.1 0 then (F_204_752 G t (F_204_23 G t tt) v4 q75.2) else (jif (jin (nI 0) 1) (bif jcmp .eq (lg_cmp (q75.2.2.1 64 0 0 (nI 0).toNatClampNeg) q74.1.toInt64) 0 then (F_204_752 G t (F_204_23 G t tt) v4 q75.2) else (some ((nI 0), q75.2))))) else (some ((nI 0), q75.2)))))))) else (bif decide (((G 0).2 v4.toNatClampNeg) &&& (nI 15) = nI 13) then ((F_63 G t S).bind (fun q77 => (F_201 G t q77.2).bind (fun q78 => bif jcmp .eq (lg_cmp q77.1 q78.1) 0 then (F_204_795 G t (F_204_23 G t tt) v4 q78.2) else (some ((nI 0), q78.2))))) else (bif decide (((G 0).2 v4.toNatClampNeg) &&& (nI 15) = nI 14) then ((F_53 G t S).bind (fun q79 => (F_202 G t q79.2).bind (fun q80 => bif jcmp .eq q79.1 q80.1 then (F_204_795 G t (F_204_23 G t tt) v4 q80.2) else (some ((nI 0), q80.2))))) else (bif decide (((G 0).2 v4.toNatClampNeg) &&& (nI 15) = nI 15) then ((F_45 G t S).bind (fun q81 => (F_203 G t q81.2).bind (fun q82 => bif jcmp .eq q81.1 q82.1 then (F_204_795 G t (F_204_23 G t tt) v4 q82.2) else (some ((nI 0), q82.2))))) else (none)))))))))))))))))))
theorem F_204_23_ok {G : jG} {t : Nat} {r : Int32} {S' : sS} {Q : Option Value ⊕ Nat → jS → Prop} (K : ∀ μ', sR S' μ' → Q (srI r) μ') : ∀ tt : Nat, ∀ (v4 : Int32) (S : sS) (lv : jL) (μ : jS), jld lv 0 = some (.float 0) → jld lv 1 = some (.ref (spl 0 0 0)) → jld lv 2 = some (.ref (spl 33 0 0)) → jld lv 3 = some (.ref (spl 64 0 0)) → jld lv 4 = some (.int v4) → sR S μ → F_204_23 G t tt v4 S = some (r, S') → jX G jP 204 23 lv [] μ Q := by
  intro tt
  induction tt with
  | zero =>
    intro v4 S lv μ l0 l1 l2 l3 l4 R h
    rw [F_204_23] at h
    cases h
  | succ tt ih =>
    intro v4 S lv μ l0 l1 l2 l3 l4 R h
    rw [F_204_23] at h
    refine jX.li l4 (by rfl) (by rfl) (?_ : jX G jP 204 25 lv [.int v4] μ Q)
    refine jX.lgn l0 (by rfl) (by rfl) (?_ : jX G jP 204 26 lv [.float 0, .int v4] μ Q)
    refine jX.go (by rfl) (by rfl) (by rfl) (?_ : jX G jP 204 27 lv [.int (Int32.ofNat (G 0).1), .int v4] μ Q)
    refine jX.ic (v := nI 3) (n := 1) (by rfl) (by rfl) (by decide) (?_ : jX G jP 204 28 lv [.int (nI 3), .int (Int32.ofNat (G 0).1), .int v4] μ Q)
    refine jX.go (by rfl) (by rfl) (by rfl) (?_ : jX G jP 204 29 lv [.int ((Int32.ofNat (G 0).1) - (nI 3)), .int v4] μ Q)
    rcases bif_or h with ⟨hc, h⟩ | ⟨hc, h⟩
    · refine jX.b2t hc (by rfl) (by rfl) (by rfl) (?_ : jX G jP 204 801 lv [] μ Q)
      refine jX.ic (v := nI 1) (n := 1) (by rfl) (by rfl) (by decide) (?_ : jX G jP 204 802 lv [.int (nI 1)] μ Q)
      exact jX.ret (by rfl) (by rfl) (by rfl) (by rfl) (sretv (f := srI) h K R)
    · refine jX.b2f hc (by rfl) (by rfl) (by rfl) (?_ : jX G jP 204 32 lv [] μ Q)
      refine jX.lgn l0 (by rfl) (by rfl) (?_ : jX G jP 204 33 lv [.float 0] μ Q)
      refine jX.li l4 (by rfl) (by rfl) (?_ : jX G jP 204 35 lv [.int v4, .float 0] μ Q)
      obtain ⟨g1, h⟩ := jif_some h
      refine jX.gi g1 (by rfl) (by rfl) (?_ : jX G jP 204 36 lv [.int ((G 0).2 v4.toNatClampNeg)] μ Q)
      refine jX.ic (v := nI 15) (n := 2) (by rfl) (by rfl) (by decide) (?_ : jX G jP 204 38 lv [.int (nI 15), .int ((G 0).2 v4.toNatClampNeg)] μ Q)
      refine jX.go (by rfl) (by rfl) (by rfl) (?_ : jX G jP 204 39 lv [.int (((G 0).2 v4.toNatClampNeg) &&& (nI 15))] μ Q)
      rcases bif_or h with ⟨hc, h⟩ | ⟨-, h⟩
      · refine jX.swd hc (by rfl) (by rfl) (by rfl) (?_ : jX G jP 204 795 lv [] μ Q)
        exact F_204_795_ok ih K v4 _ _ _ l0 l1 l2 l3 l4 R h
      rcases bif_or h with ⟨hc, h⟩ | ⟨-, h⟩
      · refine jX.swn hc (by rfl) (by rfl) (by rfl) (?_ : jX G jP 204 116 lv [] μ Q)
        refine jX.lrn l1 (by rfl) (by rfl) (?_ : jX G jP 204 117 lv [.ref (spl 0 0 0)] μ Q)
        refine jX.lgn l0 (by rfl) (by rfl) (?_ : jX G jP 204 118 lv [.float 0, .ref (spl 0 0 0)] μ Q)
        refine jX.li l4 (by rfl) (by rfl) (?_ : jX G jP 204 120 lv [.int v4, .float 0, .ref (spl 0 0 0)] μ Q)
        refine jX.ic (v := nI 1) (n := 1) (by rfl) (by rfl) (by decide) (?_ : jX G jP 204 121 lv [.int (nI 1), .int v4, .float 0, .ref (spl 0 0 0)] μ Q)
        refine jX.go (by rfl) (by rfl) (by rfl) (?_ : jX G jP 204 122 lv [.int (v4 + (nI 1)), .float 0, .ref (spl 0 0 0)] μ Q)
        obtain ⟨g2, h⟩ := jif_some h
        refine jX.gi g2 (by rfl) (by rfl) (?_ : jX G jP 204 123 lv [.int ((G 0).2 (v4 + (nI 1)).toNatClampNeg), .ref (spl 0 0 0)] μ Q)
        refine jX.lgn l0 (by rfl) (by rfl) (?_ : jX G jP 204 124 lv [.float 0, .int ((G 0).2 (v4 + (nI 1)).toNatClampNeg), .ref (spl 0 0 0)] μ Q)
        refine jX.li l4 (by rfl) (by rfl) (?_ : jX G jP 204 126 lv [.int v4, .float 0, .int ((G 0).2 (v4 + (nI 1)).toNatClampNeg), .ref (spl 0 0 0)] μ Q)
        refine jX.ic (v := nI 2) (n := 1) (by rfl) (by rfl) (by decide) (?_ : jX G jP 204 127 lv [.int (nI 2), .int v4, .float 0, .int ((G 0).2 (v4 + (nI 1)).toNatClampNeg), .ref (spl 0 0 0)] μ Q)
        refine jX.go (by rfl) (by rfl) (by rfl) (?_ : jX G jP 204 128 lv [.int (v4 + (nI 2)), .float 0, .int ((G 0).2 (v4 + (nI 1)).toNatClampNeg), .ref (spl 0 0 0)] μ Q)
        obtain ⟨g3, h⟩ := jif_some h
        refine jX.gi g3 (by rfl) (by rfl) (?_ : jX G jP 204 129 lv [.int ((G 0).2 (v4 + (nI 2)).toNatClampNeg), .int ((G 0).2 (v4 + (nI 1)).toNatClampNeg), .ref (spl 0 0 0)] μ Q)
        refine jX.lrn l3 (by rfl) (by rfl) (?_ : jX G jP 204 130 lv [.ref (spl 64 0 0), .int ((G 0).2 (v4 + (nI 2)).toNatClampNeg), .int ((G 0).2 (v4 + (nI 1)).toNatClampNeg), .ref (spl 0 0 0)] μ Q)
        obtain ⟨q4, e4, h⟩ := sbd h
        refine jX.c1 (v := .int q4.1) (by rfl) (by rfl) (by rfl) (by rfl) (by rfl) (by rfl) (by rfl) (by rfl) (Nat.le_of_ble_eq_true rfl) (Nat.le_of_ble_eq_true rfl) (F_130_ok R e4 (fun μ R => ⟨rfl, (?_ : jX G jP 204 133 lv [.int q4.1] μ Q)⟩))
        refine jX.s1 (k := 5) (pc' := 135) (by rfl) (by rfl) (by rfl) (fun lv l5 kp => (?_ : jX G jP 204 135 lv [] μ Q))
        replace l0 := kp 0 _ l0 (by rfl) (by first | rfl | simp [soR_cat])
        replace l1 := kp 1 _ l1 (by rfl) (by first | rfl | simp [soR_cat])
        replace l2 := kp 2 _ l2 (by rfl) (by first | rfl | simp [soR_cat])
        replace l3 := kp 3 _ l3 (by rfl) (by first | rfl | simp [soR_cat])
        replace l4 := kp 4 _ l4 (by rfl) (by first | rfl | simp [soR_cat])
        refine jX.lrn l2 (by rfl) (by rfl) (?_ : jX G jP 204 136 lv [.ref (spl 33 0 0)] μ Q)
        refine jX.lgn l0 (by rfl) (by rfl) (?_ : jX G jP 204 137 lv [.float 0, .ref (spl 33 0 0)] μ Q)
        refine jX.li l4 (by rfl) (by rfl) (?_ : jX G jP 204 139 lv [.int v4, .float 0, .ref (spl 33 0 0)] μ Q)
        refine jX.ic (v := nI 1) (n := 1) (by rfl) (by rfl) (by decide) (?_ : jX G jP 204 140 lv [.int (nI 1), .int v4, .float 0, .ref (spl 33 0 0)] μ Q)
        refine jX.go (by rfl) (by rfl) (by rfl) (?_ : jX G jP 204 141 lv [.int (v4 + (nI 1)), .float 0, .ref (spl 33 0 0)] μ Q)
        obtain ⟨g5, h⟩ := jif_some h
        refine jX.gi g5 (by rfl) (by rfl) (?_ : jX G jP 204 142 lv [.int ((G 0).2 (v4 + (nI 1)).toNatClampNeg), .ref (spl 33 0 0)] μ Q)
        refine jX.lgn l0 (by rfl) (by rfl) (?_ : jX G jP 204 143 lv [.float 0, .int ((G 0).2 (v4 + (nI 1)).toNatClampNeg), .ref (spl 33 0 0)] μ Q)
        refine jX.li l4 (by rfl) (by rfl) (?_ : jX G jP 204 145 lv [.int v4, .float 0, .int ((G 0).2 (v4 + (nI 1)).toNatClampNeg), .ref (spl 33 0 0)] μ Q)
        refine jX.ic (v := nI 2) (n := 1) (by rfl) (by rfl) (by decide) (?_ : jX G jP 204 146 lv [.int (nI 2), .int v4, .float 0, .int ((G 0).2 (v4 + (nI 1)).toNatClampNeg), .ref (spl 33 0 0)] μ Q)
        refine jX.go (by rfl) (by rfl) (by rfl) (?_ : jX G jP 204 147 lv [.int (v4 + (nI 2)), .float 0, .int ((G 0).2 (v4 + (nI 1)).toNatClampNeg), .ref (spl 33 0 0)] μ Q)
        obtain ⟨g6, h⟩ := jif_some h
        refine jX.gi g6 (by rfl) (by rfl) (?_ : jX G jP 204 148 lv [.int ((G 0).2 (v4 + (nI 2)).toNatClampNeg), .int ((G 0).2 (v4 + (nI 1)).toNatClampNeg), .ref (spl 33 0 0)] μ Q)
        obtain ⟨q7, e7, h⟩ := sbd h
        refine jX.c1 (v := .int q7.1) (by rfl) (by rfl) (by rfl) (by rfl) (by rfl) (by rfl) (by rfl) (R.rec (by rfl) (by rfl)) (Nat.le_of_ble_eq_true rfl) (Nat.le_of_ble_eq_true rfl) (F_136_ok R e7 (fun μ R => ⟨rfl, (?_ : jX G jP 204 151 lv [.int q7.1] μ Q)⟩))
        refine jX.s1 (k := 6) (pc' := 153) (by rfl) (by rfl) (by rfl) (fun lv l6 kp => (?_ : jX G jP 204 153 lv [] μ Q))
        replace l0 := kp 0 _ l0 (by rfl) (by first | rfl | simp [soR_cat])
        replace l1 := kp 1 _ l1 (by rfl) (by first | rfl | simp [soR_cat])
        replace l2 := kp 2 _ l2 (by rfl) (by first | rfl | simp [soR_cat])
        replace l3 := kp 3 _ l3 (by rfl) (by first | rfl | simp [soR_cat])
        replace l4 := kp 4 _ l4 (by rfl) (by first | rfl | simp [soR_cat])
        replace l5 := kp 5 _ l5 (by rfl) (by first | rfl | simp [soR_cat])
        refine jX.lrn l2 (by rfl) (by rfl) (?_ : jX G jP 204 154 lv [.ref (spl 33 0 0)] μ Q)
        obtain ⟨q8, e8, h⟩ := sbd h
        refine jX.c1 (v := .int q8.1) (by rfl) (by rfl) (by rfl) (by rfl) (by rfl) (by rfl) (by rfl) (R.rec (by rfl) (by rfl)) (Nat.le_of_ble_eq_true rfl) (Nat.le_of_ble_eq_true rfl) (F_137_ok R e8 (fun μ R => ⟨rfl, (?_ : jX G jP 204 157 lv [.int q8.1] μ Q)⟩))
        refine jX.li l5 (by rfl) (by rfl) (?_ : jX G jP 204 159 lv [.int q4.1, .int q8.1] μ Q)
        rcases bif_or h with ⟨hc, h⟩ | ⟨hc, h⟩
        · refine jX.b2t hc (by rfl) (by rfl) (by rfl) (?_ : jX G jP 204 164 lv [] μ Q)
          refine jX.li l5 (by rfl) (by rfl) (?_ : jX G jP 204 166 lv [.int q4.1] μ Q)
          rcases bif_or h with ⟨hc, h⟩ | ⟨hc, h⟩
          · refine jX.b1t hc (by rfl) (by rfl) (by rfl) (?_ : jX G jP 204 181 lv [] μ Q)
            exact F_204_181_ok ih K v4 _ _ _ l0 l1 l2 l3 l4 R h
          · refine jX.b1f hc (by rfl) (by rfl) (by rfl) (?_ : jX G jP 204 169 lv [] μ Q)
            refine jX.lrn l3 (by rfl) (by rfl) (?_ : jX G jP 204 170 lv [.ref (spl 64 0 0)] μ Q)
            refine jX.ic (v := nI 0) (n := 1) (by rfl) (by rfl) (by decide) (?_ : jX G jP 204 171 lv [.int (nI 0), .ref (spl 64 0 0)] μ Q)
            obtain ⟨g9, h⟩ := jif_some h
            refine jX.sal R (by rfl) (by rfl) (by rfl) (by rfl) g9 (?_ : jX G jP 204 172 lv [.long (q8.2.2.1 64 0 0 (nI 0).toNatClampNeg)] μ Q)
            refine jX.li l6 (by rfl) (by rfl) (?_ : jX G jP 204 174 lv [.int q7.1, .long (q8.2.2.1 64 0 0 (nI 0).toNatClampNeg)] μ Q)
            refine jX.go (by rfl) (by rfl) (by rfl) (?_ : jX G jP 204 175 lv [.long q7.1.toInt64, .long (q8.2.2.1 64 0 0 (nI 0).toNatClampNeg)] μ Q)
            refine jX.go (by rfl) (by rfl) (by rfl) (?_ : jX G jP 204 176 lv [.int (lg_cmp (q8.2.2.1 64 0 0 (nI 0).toNatClampNeg) q7.1.toInt64)] μ Q)
            rcases bif_or h with ⟨hc, h⟩ | ⟨hc, h⟩
            · refine jX.b1t hc (by rfl) (by rfl) (by rfl) (?_ : jX G jP 204 181 lv [] μ Q)
              exact F_204_181_ok ih K v4 _ _ _ l0 l1 l2 l3 l4 R h
            · refine jX.b1f hc (by rfl) (by rfl) (by rfl) (?_ : jX G jP 204 179 lv [] μ Q)
              refine jX.ic (v := nI 0) (n := 1) (by rfl) (by rfl) (by decide) (?_ : jX G jP 204 180 lv [.int (nI 0)] μ Q)
              exact jX.ret (by rfl) (by rfl) (by rfl) (by rfl) (sretv (f := srI) h K R)
        · refine jX.b2f hc (by rfl) (by rfl) (by rfl) (?_ : jX G jP 204 162 lv [] μ Q)
          refine jX.ic (v := nI 0) (n := 1) (by rfl) (by rfl) (by decide) (?_ : jX G jP 204 163 lv [.int (nI 0)] μ Q)
          exact jX.ret (by rfl) (by rfl) (by rfl) (by rfl) (sretv (f := srI) h K R)
      rcases bif_or h with ⟨hc, h⟩ | ⟨-, h⟩
      · refine jX.swn hc (by rfl) (by rfl) (by rfl) (?_ : jX G jP 204 184 lv [] μ Q)
        refine jX.lrn l1 (by rfl) (by rfl) (?_ : jX G jP 204 185 lv [.ref (spl 0 0 0)] μ Q)
        refine jX.lgn l0 (by rfl) (by rfl) (?_ : jX G jP 204 186 lv [.float 0, .ref (spl 0 0 0)] μ Q)
        refine jX.li l4 (by rfl) (by rfl) (?_ : jX G jP 204 188 lv [.int v4, .float 0, .ref (spl 0 0 0)] μ Q)
        refine jX.ic (v := nI 1) (n := 1) (by rfl) (by rfl) (by decide) (?_ : jX G jP 204 189 lv [.int (nI 1), .int v4, .float 0, .ref (spl 0 0 0)] μ Q)
        refine jX.go (by rfl) (by rfl) (by rfl) (?_ : jX G jP 204 190 lv [.int (v4 + (nI 1)), .float 0, .ref (spl 0 0 0)] μ Q)
        obtain ⟨g10, h⟩ := jif_some h
        refine jX.gi g10 (by rfl) (by rfl) (?_ : jX G jP 204 191 lv [.int ((G 0).2 (v4 + (nI 1)).toNatClampNeg), .ref (spl 0 0 0)] μ Q)
        refine jX.lgn l0 (by rfl) (by rfl) (?_ : jX G jP 204 192 lv [.float 0, .int ((G 0).2 (v4 + (nI 1)).toNatClampNeg), .ref (spl 0 0 0)] μ Q)
        refine jX.li l4 (by rfl) (by rfl) (?_ : jX G jP 204 194 lv [.int v4, .float 0, .int ((G 0).2 (v4 + (nI 1)).toNatClampNeg), .ref (spl 0 0 0)] μ Q)
        refine jX.ic (v := nI 2) (n := 1) (by rfl) (by rfl) (by decide) (?_ : jX G jP 204 195 lv [.int (nI 2), .int v4, .float 0, .int ((G 0).2 (v4 + (nI 1)).toNatClampNeg), .ref (spl 0 0 0)] μ Q)
        refine jX.go (by rfl) (by rfl) (by rfl) (?_ : jX G jP 204 196 lv [.int (v4 + (nI 2)), .float 0, .int ((G 0).2 (v4 + (nI 1)).toNatClampNeg), .ref (spl 0 0 0)] μ Q)
        obtain ⟨g11, h⟩ := jif_some h
        refine jX.gi g11 (by rfl) (by rfl) (?_ : jX G jP 204 197 lv [.int ((G 0).2 (v4 + (nI 2)).toNatClampNeg), .int ((G 0).2 (v4 + (nI 1)).toNatClampNeg), .ref (spl 0 0 0)] μ Q)
        refine jX.lrn l3 (by rfl) (by rfl) (?_ : jX G jP 204 198 lv [.ref (spl 64 0 0), .int ((G 0).2 (v4 + (nI 2)).toNatClampNeg), .int ((G 0).2 (v4 + (nI 1)).toNatClampNeg), .ref (spl 0 0 0)] μ Q)
        obtain ⟨q12, e12, h⟩ := sbd h
        refine jX.c1 (v := .int q12.1) (by rfl) (by rfl) (by rfl) (by rfl) (by rfl) (by rfl) (by rfl) (by rfl) (Nat.le_of_ble_eq_true rfl) (Nat.le_of_ble_eq_true rfl) (F_128_ok R e12 (fun μ R => ⟨rfl, (?_ : jX G jP 204 201 lv [.int q12.1] μ Q)⟩))
        refine jX.s1 (k := 5) (pc' := 203) (by rfl) (by rfl) (by rfl) (fun lv l5 kp => (?_ : jX G jP 204 203 lv [] μ Q))
        replace l0 := kp 0 _ l0 (by rfl) (by first | rfl | simp [soR_cat])
        replace l1 := kp 1 _ l1 (by rfl) (by first | rfl | simp [soR_cat])
        replace l2 := kp 2 _ l2 (by rfl) (by first | rfl | simp [soR_cat])
        replace l3 := kp 3 _ l3 (by rfl) (by first | rfl | simp [soR_cat])
        replace l4 := kp 4 _ l4 (by rfl) (by first | rfl | simp [soR_cat])
        refine jX.lrn l2 (by rfl) (by rfl) (?_ : jX G jP 204 204 lv [.ref (spl 33 0 0)] μ Q)
        refine jX.lgn l0 (by rfl) (by rfl) (?_ : jX G jP 204 205 lv [.float 0, .ref (spl 33 0 0)] μ Q)
        refine jX.li l4 (by rfl) (by rfl) (?_ : jX G jP 204 207 lv [.int v4, .float 0, .ref (spl 33 0 0)] μ Q)
        refine jX.ic (v := nI 1) (n := 1) (by rfl) (by rfl) (by decide) (?_ : jX G jP 204 208 lv [.int (nI 1), .int v4, .float 0, .ref (spl 33 0 0)] μ Q)
        refine jX.go (by rfl) (by rfl) (by rfl) (?_ : jX G jP 204 209 lv [.int (v4 + (nI 1)), .float 0, .ref (spl 33 0 0)] μ Q)
        obtain ⟨g13, h⟩ := jif_some h
        refine jX.gi g13 (by rfl) (by rfl) (?_ : jX G jP 204 210 lv [.int ((G 0).2 (v4 + (nI 1)).toNatClampNeg), .ref (spl 33 0 0)] μ Q)
        refine jX.lgn l0 (by rfl) (by rfl) (?_ : jX G jP 204 211 lv [.float 0, .int ((G 0).2 (v4 + (nI 1)).toNatClampNeg), .ref (spl 33 0 0)] μ Q)
        refine jX.li l4 (by rfl) (by rfl) (?_ : jX G jP 204 213 lv [.int v4, .float 0, .int ((G 0).2 (v4 + (nI 1)).toNatClampNeg), .ref (spl 33 0 0)] μ Q)
        refine jX.ic (v := nI 2) (n := 1) (by rfl) (by rfl) (by decide) (?_ : jX G jP 204 214 lv [.int (nI 2), .int v4, .float 0, .int ((G 0).2 (v4 + (nI 1)).toNatClampNeg), .ref (spl 33 0 0)] μ Q)
        refine jX.go (by rfl) (by rfl) (by rfl) (?_ : jX G jP 204 215 lv [.int (v4 + (nI 2)), .float 0, .int ((G 0).2 (v4 + (nI 1)).toNatClampNeg), .ref (spl 33 0 0)] μ Q)
        obtain ⟨g14, h⟩ := jif_some h
        refine jX.gi g14 (by rfl) (by rfl) (?_ : jX G jP 204 216 lv [.int ((G 0).2 (v4 + (nI 2)).toNatClampNeg), .int ((G 0).2 (v4 + (nI 1)).toNatClampNeg), .ref (spl 33 0 0)] μ Q)
        obtain ⟨q15, e15, h⟩ := sbd h
        refine jX.c1 (v := .int q15.1) (by rfl) (by rfl) (by rfl) (by rfl) (by rfl) (by rfl) (by rfl) (R.rec (by rfl) (by rfl)) (Nat.le_of_ble_eq_true rfl) (Nat.le_of_ble_eq_true rfl) (F_139_ok R e15 (fun μ R => ⟨rfl, (?_ : jX G jP 204 219 lv [.int q15.1] μ Q)⟩))
        refine jX.s1 (k := 6) (pc' := 221) (by rfl) (by rfl) (by rfl) (fun lv l6 kp => (?_ : jX G jP 204 221 lv [] μ Q))
        replace l0 := kp 0 _ l0 (by rfl) (by first | rfl | simp [soR_cat])
        replace l1 := kp 1 _ l1 (by rfl) (by first | rfl | simp [soR_cat])
        replace l2 := kp 2 _ l2 (by rfl) (by first | rfl | simp [soR_cat])
        replace l3 := kp 3 _ l3 (by rfl) (by first | rfl | simp [soR_cat])
        replace l4 := kp 4 _ l4 (by rfl) (by first | rfl | simp [soR_cat])
        replace l5 := kp 5 _ l5 (by rfl) (by first | rfl | simp [soR_cat])
        refine jX.lrn l2 (by rfl) (by rfl) (?_ : jX G jP 204 222 lv [.ref (spl 33 0 0)] μ Q)
        obtain ⟨q16, e16, h⟩ := sbd h
        refine jX.c1 (v := .int q16.1) (by rfl) (by rfl) (by rfl) (by rfl) (by rfl) (by rfl) (by rfl) (R.rec (by rfl) (by rfl)) (Nat.le_of_ble_eq_true rfl) (Nat.le_of_ble_eq_true rfl) (F_137_ok R e16 (fun μ R => ⟨rfl, (?_ : jX G jP 204 225 lv [.int q16.1] μ Q)⟩))
        refine jX.li l5 (by rfl) (by rfl) (?_ : jX G jP 204 227 lv [.int q12.1, .int q16.1] μ Q)
        rcases bif_or h with ⟨hc, h⟩ | ⟨hc, h⟩
        · refine jX.b2t hc (by rfl) (by rfl) (by rfl) (?_ : jX G jP 204 232 lv [] μ Q)
          refine jX.li l5 (by rfl) (by rfl) (?_ : jX G jP 204 234 lv [.int q12.1] μ Q)
          rcases bif_or h with ⟨hc, h⟩ | ⟨hc, h⟩
          · refine jX.b1t hc (by rfl) (by rfl) (by rfl) (?_ : jX G jP 204 249 lv [] μ Q)
            exact F_204_249_ok ih K v4 _ _ _ l0 l1 l2 l3 l4 R h
          · refine jX.b1f hc (by rfl) (by rfl) (by rfl) (?_ : jX G jP 204 237 lv [] μ Q)
            refine jX.lrn l3 (by rfl) (by rfl) (?_ : jX G jP 204 238 lv [.ref (spl 64 0 0)] μ Q)
            refine jX.ic (v := nI 0) (n := 1) (by rfl) (by rfl) (by decide) (?_ : jX G jP 204 239 lv [.int (nI 0), .ref (spl 64 0 0)] μ Q)
            obtain ⟨g17, h⟩ := jif_some h
            refine jX.sal R (by rfl) (by rfl) (by rfl) (by rfl) g17 (?_ : jX G jP 204 240 lv [.long (q16.2.2.1 64 0 0 (nI 0).toNatClampNeg)] μ Q)
            refine jX.li l6 (by rfl) (by rfl) (?_ : jX G jP 204 242 lv [.int q15.1, .long (q16.2.2.1 64 0 0 (nI 0).toNatClampNeg)] μ Q)
            refine jX.go (by rfl) (by rfl) (by rfl) (?_ : jX G jP 204 243 lv [.long q15.1.toInt64, .long (q16.2.2.1 64 0 0 (nI 0).toNatClampNeg)] μ Q)
            refine jX.go (by rfl) (by rfl) (by rfl) (?_ : jX G jP 204 244 lv [.int (lg_cmp (q16.2.2.1 64 0 0 (nI 0).toNatClampNeg) q15.1.toInt64)] μ Q)
            rcases bif_or h with ⟨hc, h⟩ | ⟨hc, h⟩
            · refine jX.b1t hc (by rfl) (by rfl) (by rfl) (?_ : jX G jP 204 249 lv [] μ Q)
              exact F_204_249_ok ih K v4 _ _ _ l0 l1 l2 l3 l4 R h
            · refine jX.b1f hc (by rfl) (by rfl) (by rfl) (?_ : jX G jP 204 247 lv [] μ Q)
              refine jX.ic (v := nI 0) (n := 1) (by rfl) (by rfl) (by decide) (?_ : jX G jP 204 248 lv [.int (nI 0)] μ Q)
              exact jX.ret (by rfl) (by rfl) (by rfl) (by rfl) (sretv (f := srI) h K R)
        · refine jX.b2f hc (by rfl) (by rfl) (by rfl) (?_ : jX G jP 204 230 lv [] μ Q)
          refine jX.ic (v := nI 0) (n := 1) (by rfl) (by rfl) (by decide) (?_ : jX G jP 204 231 lv [.int (nI 0)] μ Q)
          exact jX.ret (by rfl) (by rfl) (by rfl) (by rfl) (sretv (f := srI) h K R)
      rcases bif_or h with ⟨hc, h⟩ | ⟨-, h⟩
      · refine jX.swn hc (by rfl) (by rfl) (by rfl) (?_ : jX G jP 204 252 lv [] μ Q)
        refine jX.lrn l1 (by rfl) (by rfl) (?_ : jX G jP 204 253 lv [.ref (spl 0 0 0)] μ Q)
        refine jX.lgn l0 (by rfl) (by rfl) (?_ : jX G jP 204 254 lv [.float 0, .ref (spl 0 0 0)] μ Q)
        refine jX.li l4 (by rfl) (by rfl) (?_ : jX G jP 204 256 lv [.int v4, .float 0, .ref (spl 0 0 0)] μ Q)
        refine jX.ic (v := nI 1) (n := 1) (by rfl) (by rfl) (by decide) (?_ : jX G jP 204 257 lv [.int (nI 1), .int v4, .float 0, .ref (spl 0 0 0)] μ Q)
        refine jX.go (by rfl) (by rfl) (by rfl) (?_ : jX G jP 204 258 lv [.int (v4 + (nI 1)), .float 0, .ref (spl 0 0 0)] μ Q)
        obtain ⟨g18, h⟩ := jif_some h
        refine jX.gi g18 (by rfl) (by rfl) (?_ : jX G jP 204 259 lv [.int ((G 0).2 (v4 + (nI 1)).toNatClampNeg), .ref (spl 0 0 0)] μ Q)
        obtain ⟨q19, e19, h⟩ := sbd h
        refine jX.c1 (v := .int q19.1) (by rfl) (by rfl) (by rfl) (by rfl) (by rfl) (by rfl) (by rfl) (by rfl) (Nat.le_of_ble_eq_true rfl) (Nat.le_of_ble_eq_true rfl) (F_127_ok R e19 (fun μ R => ⟨rfl, (?_ : jX G jP 204 262 lv [.int q19.1] μ Q)⟩))
        refine jX.s1 (k := 5) (pc' := 264) (by rfl) (by rfl) (by rfl) (fun lv l5 kp => (?_ : jX G jP 204 264 lv [] μ Q))
        replace l0 := kp 0 _ l0 (by rfl) (by first | rfl | simp [soR_cat])
        replace l1 := kp 1 _ l1 (by rfl) (by first | rfl | simp [soR_cat])
        replace l2 := kp 2 _ l2 (by rfl) (by first | rfl | simp [soR_cat])
        replace l3 := kp 3 _ l3 (by rfl) (by first | rfl | simp [soR_cat])
        replace l4 := kp 4 _ l4 (by rfl) (by first | rfl | simp [soR_cat])
        refine jX.lrn l2 (by rfl) (by rfl) (?_ : jX G jP 204 265 lv [.ref (spl 33 0 0)] μ Q)
        refine jX.lgn l0 (by rfl) (by rfl) (?_ : jX G jP 204 266 lv [.float 0, .ref (spl 33 0 0)] μ Q)
        refine jX.li l4 (by rfl) (by rfl) (?_ : jX G jP 204 268 lv [.int v4, .float 0, .ref (spl 33 0 0)] μ Q)
        refine jX.ic (v := nI 1) (n := 1) (by rfl) (by rfl) (by decide) (?_ : jX G jP 204 269 lv [.int (nI 1), .int v4, .float 0, .ref (spl 33 0 0)] μ Q)
        refine jX.go (by rfl) (by rfl) (by rfl) (?_ : jX G jP 204 270 lv [.int (v4 + (nI 1)), .float 0, .ref (spl 33 0 0)] μ Q)
        obtain ⟨g20, h⟩ := jif_some h
        refine jX.gi g20 (by rfl) (by rfl) (?_ : jX G jP 204 271 lv [.int ((G 0).2 (v4 + (nI 1)).toNatClampNeg), .ref (spl 33 0 0)] μ Q)
        obtain ⟨q21, e21, h⟩ := sbd h
        refine jX.cv (by rfl) (by rfl) (by rfl) (by rfl) (by rfl) (by rfl) (by rfl) (R.rec (by rfl) (by rfl)) (Nat.le_of_ble_eq_true rfl) (Nat.le_of_ble_eq_true rfl) (F_143_ok R e21 (fun μ R => ⟨rfl, (?_ : jX G jP 204 274 lv [] μ Q)⟩))
        refine jX.lrn l2 (by rfl) (by rfl) (?_ : jX G jP 204 275 lv [.ref (spl 33 0 0)] μ Q)
        obtain ⟨q22, e22, h⟩ := sbd h
        refine jX.c1 (v := .int q22.1) (by rfl) (by rfl) (by rfl) (by rfl) (by rfl) (by rfl) (by rfl) (R.rec (by rfl) (by rfl)) (Nat.le_of_ble_eq_true rfl) (Nat.le_of_ble_eq_true rfl) (F_137_ok R e22 (fun μ R => ⟨rfl, (?_ : jX G jP 204 278 lv [.int q22.1] μ Q)⟩))
        refine jX.li l5 (by rfl) (by rfl) (?_ : jX G jP 204 280 lv [.int q19.1, .int q22.1] μ Q)
        rcases bif_or h with ⟨hc, h⟩ | ⟨hc, h⟩
        · refine jX.b2t hc (by rfl) (by rfl) (by rfl) (?_ : jX G jP 204 285 lv [] μ Q)
          refine jX.go (by rfl) (by rfl) (by rfl) (?_ : jX G jP 204 795 lv [] μ Q)
          exact F_204_795_ok ih K v4 _ _ _ l0 l1 l2 l3 l4 R h
        · refine jX.b2f hc (by rfl) (by rfl) (by rfl) (?_ : jX G jP 204 283 lv [] μ Q)
          refine jX.ic (v := nI 0) (n := 1) (by rfl) (by rfl) (by decide) (?_ : jX G jP 204 284 lv [.int (nI 0)] μ Q)
          exact jX.ret (by rfl) (by rfl) (by rfl) (by rfl) (sretv (f := srI) h K R)
      rcases bif_or h with ⟨hc, h⟩ | ⟨-, h⟩
      · refine jX.swn hc (by rfl) (by rfl) (by rfl) (?_ : jX G jP 204 288 lv [] μ Q)
        refine jX.lrn l1 (by rfl) (by rfl) (?_ : jX G jP 204 289 lv [.ref (spl 0 0 0)] μ Q)
        obtain ⟨q23, e23, h⟩ := sbd h
        refine jX.c1 (v := .int q23.1) (by rfl) (by rfl) (by rfl) (by rfl) (by rfl) (by rfl) (by rfl) (R.rec (by rfl) (by rfl)) (Nat.le_of_ble_eq_true rfl) (Nat.le_of_ble_eq_true rfl) (F_47_ok R e23 (fun μ R => ⟨rfl, (?_ : jX G jP 204 292 lv [.int q23.1] μ Q)⟩))
        refine jX.lrn l2 (by rfl) (by rfl) (?_ : jX G jP 204 293 lv [.ref (spl 33 0 0), .int q23.1] μ Q)
        obtain ⟨q24, e24, h⟩ := sbd h
        refine jX.c1 (v := .int q24.1) (by rfl) (by rfl) (by rfl) (by rfl) (by rfl) (by rfl) (by rfl) (R.rec (by rfl) (by rfl)) (Nat.le_of_ble_eq_true rfl) (Nat.le_of_ble_eq_true rfl) (F_144_ok R e24 (fun μ R => ⟨rfl, (?_ : jX G jP 204 296 lv [.int q24.1, .int q23.1] μ Q)⟩))
        rcases bif_or h with ⟨hc, h⟩ | ⟨hc, h⟩
        · refine jX.b2t hc (by rfl) (by rfl) (by rfl) (?_ : jX G jP 204 795 lv [] μ Q)
          exact F_204_795_ok ih K v4 _ _ _ l0 l1 l2 l3 l4 R h
        · refine jX.b2f hc (by rfl) (by rfl) (by rfl) (?_ : jX G jP 204 299 lv [] μ Q)
          refine jX.ic (v := nI 0) (n := 1) (by rfl) (by rfl) (by decide) (?_ : jX G jP 204 300 lv [.int (nI 0)] μ Q)
          exact jX.ret (by rfl) (by rfl) (by rfl) (by rfl) (sretv (f := srI) h K R)
      rcases bif_or h with ⟨hc, h⟩ | ⟨-, h⟩
      · refine jX.swn hc (by rfl) (by rfl) (by rfl) (?_ : jX G jP 204 301 lv [] μ Q)
        refine jX.lrn l1 (by rfl) (by rfl) (?_ : jX G jP 204 302 lv [.ref (spl 0 0 0)] μ Q)
        refine jX.lgn l0 (by rfl) (by rfl) (?_ : jX G jP 204 303 lv [.float 0, .ref (spl 0 0 0)] μ Q)
        refine jX.li l4 (by rfl) (by rfl) (?_ : jX G jP 204 305 lv [.int v4, .float 0, .ref (spl 0 0 0)] μ Q)
        refine jX.ic (v := nI 1) (n := 1) (by rfl) (by rfl) (by decide) (?_ : jX G jP 204 306 lv [.int (nI 1), .int v4, .float 0, .ref (spl 0 0 0)] μ Q)
        refine jX.go (by rfl) (by rfl) (by rfl) (?_ : jX G jP 204 307 lv [.int (v4 + (nI 1)), .float 0, .ref (spl 0 0 0)] μ Q)
        obtain ⟨g25, h⟩ := jif_some h
        refine jX.gi g25 (by rfl) (by rfl) (?_ : jX G jP 204 308 lv [.int ((G 0).2 (v4 + (nI 1)).toNatClampNeg), .ref (spl 0 0 0)] μ Q)
        refine jX.lrn l3 (by rfl) (by rfl) (?_ : jX G jP 204 309 lv [.ref (spl 64 0 0), .int ((G 0).2 (v4 + (nI 1)).toNatClampNeg), .ref (spl 0 0 0)] μ Q)
        obtain ⟨q26, e26, h⟩ := sbd h
        refine jX.c1 (v := .int q26.1) (by rfl) (by rfl) (by rfl) (by rfl) (by rfl) (by rfl) (by rfl) (by rfl) (Nat.le_of_ble_eq_true rfl) (Nat.le_of_ble_eq_true rfl) (F_145_ok R e26 (fun μ R => ⟨rfl, (?_ : jX G jP 204 312 lv [.int q26.1] μ Q)⟩))
        refine jX.s1 (k := 5) (pc' := 314) (by rfl) (by rfl) (by rfl) (fun lv l5 kp => (?_ : jX G jP 204 314 lv [] μ Q))
        replace l0 := kp 0 _ l0 (by rfl) (by first | rfl | simp [soR_cat])
        replace l1 := kp 1 _ l1 (by rfl) (by first | rfl | simp [soR_cat])
        replace l2 := kp 2 _ l2 (by rfl) (by first | rfl | simp [soR_cat])
        replace l3 := kp 3 _ l3 (by rfl) (by first | rfl | simp [soR_cat])
        replace l4 := kp 4 _ l4 (by rfl) (by first | rfl | simp [soR_cat])
        refine jX.lrn l2 (by rfl) (by rfl) (?_ : jX G jP 204 315 lv [.ref (spl 33 0 0)] μ Q)
        refine jX.lgn l0 (by rfl) (by rfl) (?_ : jX G jP 204 316 lv [.float 0, .ref (spl 33 0 0)] μ Q)
        refine jX.li l4 (by rfl) (by rfl) (?_ : jX G jP 204 318 lv [.int v4, .float 0, .ref (spl 33 0 0)] μ Q)
        refine jX.ic (v := nI 1) (n := 1) (by rfl) (by rfl) (by decide) (?_ : jX G jP 204 319 lv [.int (nI 1), .int v4, .float 0, .ref (spl 33 0 0)] μ Q)
        refine jX.go (by rfl) (by rfl) (by rfl) (?_ : jX G jP 204 320 lv [.int (v4 + (nI 1)), .float 0, .ref (spl 33 0 0)] μ Q)
        obtain ⟨g27, h⟩ := jif_some h
        refine jX.gi g27 (by rfl) (by rfl) (?_ : jX G jP 204 321 lv [.int ((G 0).2 (v4 + (nI 1)).toNatClampNeg), .ref (spl 33 0 0)] μ Q)
        obtain ⟨q28, e28, h⟩ := sbd h
        refine jX.c1 (v := .int q28.1) (by rfl) (by rfl) (by rfl) (by rfl) (by rfl) (by rfl) (by rfl) (R.rec (by rfl) (by rfl)) (Nat.le_of_ble_eq_true rfl) (Nat.le_of_ble_eq_true rfl) (F_146_ok R e28 (fun μ R => ⟨rfl, (?_ : jX G jP 204 324 lv [.int q28.1] μ Q)⟩))
        refine jX.s1 (k := 6) (pc' := 326) (by rfl) (by rfl) (by rfl) (fun lv l6 kp => (?_ : jX G jP 204 326 lv [] μ Q))
        replace l0 := kp 0 _ l0 (by rfl) (by first | rfl | simp [soR_cat])
        replace l1 := kp 1 _ l1 (by rfl) (by first | rfl | simp [soR_cat])
        replace l2 := kp 2 _ l2 (by rfl) (by first | rfl | simp [soR_cat])
        replace l3 := kp 3 _ l3 (by rfl) (by first | rfl | simp [soR_cat])
        replace l4 := kp 4 _ l4 (by rfl) (by first | rfl | simp [soR_cat])
        replace l5 := kp 5 _ l5 (by rfl) (by first | rfl | simp [soR_cat])
        refine jX.lrn l2 (by rfl) (by rfl) (?_ : jX G jP 204 327 lv [.ref (spl 33 0 0)] μ Q)
        obtain ⟨q29, e29, h⟩ := sbd h
        refine jX.c1 (v := .int q29.1) (by rfl) (by rfl) (by rfl) (by rfl) (by rfl) (by rfl) (by rfl) (R.rec (by rfl) (by rfl)) (Nat.le_of_ble_eq_true rfl) (Nat.le_of_ble_eq_true rfl) (F_137_ok R e29 (fun μ R => ⟨rfl, (?_ : jX G jP 204 330 lv [.int q29.1] μ Q)⟩))
        refine jX.li l5 (by rfl) (by rfl) (?_ : jX G jP 204 332 lv [.int q26.1, .int q29.1] μ Q)
        rcases bif_or h with ⟨hc, h⟩ | ⟨hc, h⟩
        · refine jX.b2t hc (by rfl) (by rfl) (by rfl) (?_ : jX G jP 204 337 lv [] μ Q)
          refine jX.li l5 (by rfl) (by rfl) (?_ : jX G jP 204 339 lv [.int q26.1] μ Q)
          rcases bif_or h with ⟨hc, h⟩ | ⟨hc, h⟩
          · refine jX.b1t hc (by rfl) (by rfl) (by rfl) (?_ : jX G jP 204 354 lv [] μ Q)
            exact F_204_354_ok ih K v4 _ _ _ l0 l1 l2 l3 l4 R h
          · refine jX.b1f hc (by rfl) (by rfl) (by rfl) (?_ : jX G jP 204 342 lv [] μ Q)
            refine jX.lrn l3 (by rfl) (by rfl) (?_ : jX G jP 204 343 lv [.ref (spl 64 0 0)] μ Q)
            refine jX.ic (v := nI 0) (n := 1) (by rfl) (by rfl) (by decide) (?_ : jX G jP 204 344 lv [.int (nI 0), .ref (spl 64 0 0)] μ Q)
            obtain ⟨g30, h⟩ := jif_some h
            refine jX.sal R (by rfl) (by rfl) (by rfl) (by rfl) g30 (?_ : jX G jP 204 345 lv [.long (q29.2.2.1 64 0 0 (nI 0).toNatClampNeg)] μ Q)
            refine jX.li l6 (by rfl) (by rfl) (?_ : jX G jP 204 347 lv [.int q28.1, .long (q29.2.2.1 64 0 0 (nI 0).toNatClampNeg)] μ Q)
            refine jX.go (by rfl) (by rfl) (by rfl) (?_ : jX G jP 204 348 lv [.long q28.1.toInt64, .long (q29.2.2.1 64 0 0 (nI 0).toNatClampNeg)] μ Q)
            refine jX.go (by rfl) (by rfl) (by rfl) (?_ : jX G jP 204 349 lv [.int (lg_cmp (q29.2.2.1 64 0 0 (nI 0).toNatClampNeg) q28.1.toInt64)] μ Q)
            rcases bif_or h with ⟨hc, h⟩ | ⟨hc, h⟩
            · refine jX.b1t hc (by rfl) (by rfl) (by rfl) (?_ : jX G jP 204 354 lv [] μ Q)
              exact F_204_354_ok ih K v4 _ _ _ l0 l1 l2 l3 l4 R h
            · refine jX.b1f hc (by rfl) (by rfl) (by rfl) (?_ : jX G jP 204 352 lv [] μ Q)
              refine jX.ic (v := nI 0) (n := 1) (by rfl) (by rfl) (by decide) (?_ : jX G jP 204 353 lv [.int (nI 0)] μ Q)
              exact jX.ret (by rfl) (by rfl) (by rfl) (by rfl) (sretv (f := srI) h K R)
        · refine jX.b2f hc (by rfl) (by rfl) (by rfl) (?_ : jX G jP 204 335 lv [] μ Q)
          refine jX.ic (v := nI 0) (n := 1) (by rfl) (by rfl) (by decide) (?_ : jX G jP 204 336 lv [.int (nI 0)] μ Q)
          exact jX.ret (by rfl) (by rfl) (by rfl) (by rfl) (sretv (f := srI) h K R)
      rcases bif_or h with ⟨hc, h⟩ | ⟨-, h⟩
      · refine jX.swn hc (by rfl) (by rfl) (by rfl) (?_ : jX G jP 204 357 lv [] μ Q)
        refine jX.lrn l1 (by rfl) (by rfl) (?_ : jX G jP 204 358 lv [.ref (spl 0 0 0)] μ Q)
        refine jX.lgn l0 (by rfl) (by rfl) (?_ : jX G jP 204 359 lv [.float 0, .ref (spl 0 0 0)] μ Q)
        refine jX.li l4 (by rfl) (by rfl) (?_ : jX G jP 204 361 lv [.int v4, .float 0, .ref (spl 0 0 0)] μ Q)
        refine jX.ic (v := nI 1) (n := 1) (by rfl) (by rfl) (by decide) (?_ : jX G jP 204 362 lv [.int (nI 1), .int v4, .float 0, .ref (spl 0 0 0)] μ Q)
        refine jX.go (by rfl) (by rfl) (by rfl) (?_ : jX G jP 204 363 lv [.int (v4 + (nI 1)), .float 0, .ref (spl 0 0 0)] μ Q)
        obtain ⟨g31, h⟩ := jif_some h
        refine jX.gi g31 (by rfl) (by rfl) (?_ : jX G jP 204 364 lv [.int ((G 0).2 (v4 + (nI 1)).toNatClampNeg), .ref (spl 0 0 0)] μ Q)
        refine jX.lrn l3 (by rfl) (by rfl) (?_ : jX G jP 204 365 lv [.ref (spl 64 0 0), .int ((G 0).2 (v4 + (nI 1)).toNatClampNeg), .ref (spl 0 0 0)] μ Q)
        obtain ⟨q32, e32, h⟩ := sbd h
        refine jX.c1 (v := .int q32.1) (by rfl) (by rfl) (by rfl) (by rfl) (by rfl) (by rfl) (by rfl) (by rfl) (Nat.le_of_ble_eq_true rfl) (Nat.le_of_ble_eq_true rfl) (F_147_ok R e32 (fun μ R => ⟨rfl, (?_ : jX G jP 204 368 lv [.int q32.1] μ Q)⟩))
        refine jX.s1 (k := 5) (pc' := 370) (by rfl) (by rfl) (by rfl) (fun lv l5 kp => (?_ : jX G jP 204 370 lv [] μ Q))
        replace l0 := kp 0 _ l0 (by rfl) (by first | rfl | simp [soR_cat])
        replace l1 := kp 1 _ l1 (by rfl) (by first | rfl | simp [soR_cat])
        replace l2 := kp 2 _ l2 (by rfl) (by first | rfl | simp [soR_cat])
        replace l3 := kp 3 _ l3 (by rfl) (by first | rfl | simp [soR_cat])
        replace l4 := kp 4 _ l4 (by rfl) (by first | rfl | simp [soR_cat])
        refine jX.lrn l2 (by rfl) (by rfl) (?_ : jX G jP 204 371 lv [.ref (spl 33 0 0)] μ Q)
        refine jX.lgn l0 (by rfl) (by rfl) (?_ : jX G jP 204 372 lv [.float 0, .ref (spl 33 0 0)] μ Q)
        refine jX.li l4 (by rfl) (by rfl) (?_ : jX G jP 204 374 lv [.int v4, .float 0, .ref (spl 33 0 0)] μ Q)
        refine jX.ic (v := nI 1) (n := 1) (by rfl) (by rfl) (by decide) (?_ : jX G jP 204 375 lv [.int (nI 1), .int v4, .float 0, .ref (spl 33 0 0)] μ Q)
        refine jX.go (by rfl) (by rfl) (by rfl) (?_ : jX G jP 204 376 lv [.int (v4 + (nI 1)), .float 0, .ref (spl 33 0 0)] μ Q)
        obtain ⟨g33, h⟩ := jif_some h
        refine jX.gi g33 (by rfl) (by rfl) (?_ : jX G jP 204 377 lv [.int ((G 0).2 (v4 + (nI 1)).toNatClampNeg), .ref (spl 33 0 0)] μ Q)
        obtain ⟨q34, e34, h⟩ := sbd h
        refine jX.c1 (v := .int q34.1) (by rfl) (by rfl) (by rfl) (by rfl) (by rfl) (by rfl) (by rfl) (R.rec (by rfl) (by rfl)) (Nat.le_of_ble_eq_true rfl) (Nat.le_of_ble_eq_true rfl) (F_148_ok R e34 (fun μ R => ⟨rfl, (?_ : jX G jP 204 380 lv [.int q34.1] μ Q)⟩))
        refine jX.s1 (k := 6) (pc' := 382) (by rfl) (by rfl) (by rfl) (fun lv l6 kp => (?_ : jX G jP 204 382 lv [] μ Q))
        replace l0 := kp 0 _ l0 (by rfl) (by first | rfl | simp [soR_cat])
        replace l1 := kp 1 _ l1 (by rfl) (by first | rfl | simp [soR_cat])
        replace l2 := kp 2 _ l2 (by rfl) (by first | rfl | simp [soR_cat])
        replace l3 := kp 3 _ l3 (by rfl) (by first | rfl | simp [soR_cat])
        replace l4 := kp 4 _ l4 (by rfl) (by first | rfl | simp [soR_cat])
        replace l5 := kp 5 _ l5 (by rfl) (by first | rfl | simp [soR_cat])
        refine jX.lrn l2 (by rfl) (by rfl) (?_ : jX G jP 204 383 lv [.ref (spl 33 0 0)] μ Q)
        obtain ⟨q35, e35, h⟩ := sbd h
        refine jX.c1 (v := .int q35.1) (by rfl) (by rfl) (by rfl) (by rfl) (by rfl) (by rfl) (by rfl) (R.rec (by rfl) (by rfl)) (Nat.le_of_ble_eq_true rfl) (Nat.le_of_ble_eq_true rfl) (F_137_ok R e35 (fun μ R => ⟨rfl, (?_ : jX G jP 204 386 lv [.int q35.1] μ Q)⟩))
        refine jX.li l5 (by rfl) (by rfl) (?_ : jX G jP 204 388 lv [.int q32.1, .int q35.1] μ Q)
        rcases bif_or h with ⟨hc, h⟩ | ⟨hc, h⟩
        · refine jX.b2t hc (by rfl) (by rfl) (by rfl) (?_ : jX G jP 204 393 lv [] μ Q)
          refine jX.li l5 (by rfl) (by rfl) (?_ : jX G jP 204 395 lv [.int q32.1] μ Q)
          rcases bif_or h with ⟨hc, h⟩ | ⟨hc, h⟩
          · refine jX.b1t hc (by rfl) (by rfl) (by rfl) (?_ : jX G jP 204 410 lv [] μ Q)
            exact F_204_410_ok ih K v4 _ _ _ l0 l1 l2 l3 l4 R h
          · refine jX.b1f hc (by rfl) (by rfl) (by rfl) (?_ : jX G jP 204 398 lv [] μ Q)
            refine jX.lrn l3 (by rfl) (by rfl) (?_ : jX G jP 204 399 lv [.ref (spl 64 0 0)] μ Q)
            refine jX.ic (v := nI 0) (n := 1) (by rfl) (by rfl) (by decide) (?_ : jX G jP 204 400 lv [.int (nI 0), .ref (spl 64 0 0)] μ Q)
            obtain ⟨g36, h⟩ := jif_some h
            refine jX.sal R (by rfl) (by rfl) (by rfl) (by rfl) g36 (?_ : jX G jP 204 401 lv [.long (q35.2.2.1 64 0 0 (nI 0).toNatClampNeg)] μ Q)
            refine jX.li l6 (by rfl) (by rfl) (?_ : jX G jP 204 403 lv [.int q34.1, .long (q35.2.2.1 64 0 0 (nI 0).toNatClampNeg)] μ Q)
            refine jX.go (by rfl) (by rfl) (by rfl) (?_ : jX G jP 204 404 lv [.long q34.1.toInt64, .long (q35.2.2.1 64 0 0 (nI 0).toNatClampNeg)] μ Q)
            refine jX.go (by rfl) (by rfl) (by rfl) (?_ : jX G jP 204 405 lv [.int (lg_cmp (q35.2.2.1 64 0 0 (nI 0).toNatClampNeg) q34.1.toInt64)] μ Q)
            rcases bif_or h with ⟨hc, h⟩ | ⟨hc, h⟩
            · refine jX.b1t hc (by rfl) (by rfl) (by rfl) (?_ : jX G jP 204 410 lv [] μ Q)
              exact F_204_410_ok ih K v4 _ _ _ l0 l1 l2 l3 l4 R h
            · refine jX.b1f hc (by rfl) (by rfl) (by rfl) (?_ : jX G jP 204 408 lv [] μ Q)
              refine jX.ic (v := nI 0) (n := 1) (by rfl) (by rfl) (by decide) (?_ : jX G jP 204 409 lv [.int (nI 0)] μ Q)
              exact jX.ret (by rfl) (by rfl) (by rfl) (by rfl) (sretv (f := srI) h K R)
        · refine jX.b2f hc (by rfl) (by rfl) (by rfl) (?_ : jX G jP 204 391 lv [] μ Q)
          refine jX.ic (v := nI 0) (n := 1) (by rfl) (by rfl) (by decide) (?_ : jX G jP 204 392 lv [.int (nI 0)] μ Q)
          exact jX.ret (by rfl) (by rfl) (by rfl) (by rfl) (sretv (f := srI) h K R)
      rcases bif_or h with ⟨hc, h⟩ | ⟨-, h⟩
      · refine jX.swn hc (by rfl) (by rfl) (by rfl) (?_ : jX G jP 204 413 lv [] μ Q)
        refine jX.lrn l1 (by rfl) (by rfl) (?_ : jX G jP 204 414 lv [.ref (spl 0 0 0)] μ Q)
        refine jX.lgn l0 (by rfl) (by rfl) (?_ : jX G jP 204 415 lv [.float 0, .ref (spl 0 0 0)] μ Q)
        refine jX.li l4 (by rfl) (by rfl) (?_ : jX G jP 204 417 lv [.int v4, .float 0, .ref (spl 0 0 0)] μ Q)
        refine jX.ic (v := nI 1) (n := 1) (by rfl) (by rfl) (by decide) (?_ : jX G jP 204 418 lv [.int (nI 1), .int v4, .float 0, .ref (spl 0 0 0)] μ Q)
        refine jX.go (by rfl) (by rfl) (by rfl) (?_ : jX G jP 204 419 lv [.int (v4 + (nI 1)), .float 0, .ref (spl 0 0 0)] μ Q)
        obtain ⟨g37, h⟩ := jif_some h
        refine jX.gi g37 (by rfl) (by rfl) (?_ : jX G jP 204 420 lv [.int ((G 0).2 (v4 + (nI 1)).toNatClampNeg), .ref (spl 0 0 0)] μ Q)
        refine jX.lrn l3 (by rfl) (by rfl) (?_ : jX G jP 204 421 lv [.ref (spl 64 0 0), .int ((G 0).2 (v4 + (nI 1)).toNatClampNeg), .ref (spl 0 0 0)] μ Q)
        obtain ⟨q38, e38, h⟩ := sbd h
        refine jX.c1 (v := .int q38.1) (by rfl) (by rfl) (by rfl) (by rfl) (by rfl) (by rfl) (by rfl) (by rfl) (Nat.le_of_ble_eq_true rfl) (Nat.le_of_ble_eq_true rfl) (F_149_ok R e38 (fun μ R => ⟨rfl, (?_ : jX G jP 204 424 lv [.int q38.1] μ Q)⟩))
        refine jX.s1 (k := 5) (pc' := 426) (by rfl) (by rfl) (by rfl) (fun lv l5 kp => (?_ : jX G jP 204 426 lv [] μ Q))
        replace l0 := kp 0 _ l0 (by rfl) (by first | rfl | simp [soR_cat])
        replace l1 := kp 1 _ l1 (by rfl) (by first | rfl | simp [soR_cat])
        replace l2 := kp 2 _ l2 (by rfl) (by first | rfl | simp [soR_cat])
        replace l3 := kp 3 _ l3 (by rfl) (by first | rfl | simp [soR_cat])
        replace l4 := kp 4 _ l4 (by rfl) (by first | rfl | simp [soR_cat])
        refine jX.lrn l2 (by rfl) (by rfl) (?_ : jX G jP 204 427 lv [.ref (spl 33 0 0)] μ Q)
        refine jX.lgn l0 (by rfl) (by rfl) (?_ : jX G jP 204 428 lv [.float 0, .ref (spl 33 0 0)] μ Q)
        refine jX.li l4 (by rfl) (by rfl) (?_ : jX G jP 204 430 lv [.int v4, .float 0, .ref (spl 33 0 0)] μ Q)
        refine jX.ic (v := nI 1) (n := 1) (by rfl) (by rfl) (by decide) (?_ : jX G jP 204 431 lv [.int (nI 1), .int v4, .float 0, .ref (spl 33 0 0)] μ Q)
        refine jX.go (by rfl) (by rfl) (by rfl) (?_ : jX G jP 204 432 lv [.int (v4 + (nI 1)), .float 0, .ref (spl 33 0 0)] μ Q)
        obtain ⟨g39, h⟩ := jif_some h
        refine jX.gi g39 (by rfl) (by rfl) (?_ : jX G jP 204 433 lv [.int ((G 0).2 (v4 + (nI 1)).toNatClampNeg), .ref (spl 33 0 0)] μ Q)
        obtain ⟨q40, e40, h⟩ := sbd h
        refine jX.c1 (v := .int q40.1) (by rfl) (by rfl) (by rfl) (by rfl) (by rfl) (by rfl) (by rfl) (R.rec (by rfl) (by rfl)) (Nat.le_of_ble_eq_true rfl) (Nat.le_of_ble_eq_true rfl) (F_191_ok R e40 (fun μ R => ⟨rfl, (?_ : jX G jP 204 436 lv [.int q40.1] μ Q)⟩))
        refine jX.s1 (k := 6) (pc' := 438) (by rfl) (by rfl) (by rfl) (fun lv l6 kp => (?_ : jX G jP 204 438 lv [] μ Q))
        replace l0 := kp 0 _ l0 (by rfl) (by first | rfl | simp [soR_cat])
        replace l1 := kp 1 _ l1 (by rfl) (by first | rfl | simp [soR_cat])
        replace l2 := kp 2 _ l2 (by rfl) (by first | rfl | simp [soR_cat])
        replace l3 := kp 3 _ l3 (by rfl) (by first | rfl | simp [soR_cat])
        replace l4 := kp 4 _ l4 (by rfl) (by first | rfl | simp [soR_cat])
        replace l5 := kp 5 _ l5 (by rfl) (by first | rfl | simp [soR_cat])
        refine jX.lrn l2 (by rfl) (by rfl) (?_ : jX G jP 204 439 lv [.ref (spl 33 0 0)] μ Q)
        obtain ⟨q41, e41, h⟩ := sbd h
        refine jX.c1 (v := .int q41.1) (by rfl) (by rfl) (by rfl) (by rfl) (by rfl) (by rfl) (by rfl) (R.rec (by rfl) (by rfl)) (Nat.le_of_ble_eq_true rfl) (Nat.le_of_ble_eq_true rfl) (F_137_ok R e41 (fun μ R => ⟨rfl, (?_ : jX G jP 204 442 lv [.int q41.1] μ Q)⟩))
        refine jX.li l5 (by rfl) (by rfl) (?_ : jX G jP 204 444 lv [.int q38.1, .int q41.1] μ Q)
        rcases bif_or h with ⟨hc, h⟩ | ⟨hc, h⟩
        · refine jX.b2t hc (by rfl) (by rfl) (by rfl) (?_ : jX G jP 204 449 lv [] μ Q)
          refine jX.li l5 (by rfl) (by rfl) (?_ : jX G jP 204 451 lv [.int q38.1] μ Q)
          rcases bif_or h with ⟨hc, h⟩ | ⟨hc, h⟩
          · refine jX.b1t hc (by rfl) (by rfl) (by rfl) (?_ : jX G jP 204 466 lv [] μ Q)
            exact F_204_466_ok ih K v4 _ _ _ l0 l1 l2 l3 l4 R h
          · refine jX.b1f hc (by rfl) (by rfl) (by rfl) (?_ : jX G jP 204 454 lv [] μ Q)
            refine jX.lrn l3 (by rfl) (by rfl) (?_ : jX G jP 204 455 lv [.ref (spl 64 0 0)] μ Q)
            refine jX.ic (v := nI 0) (n := 1) (by rfl) (by rfl) (by decide) (?_ : jX G jP 204 456 lv [.int (nI 0), .ref (spl 64 0 0)] μ Q)
            obtain ⟨g42, h⟩ := jif_some h
            refine jX.sal R (by rfl) (by rfl) (by rfl) (by rfl) g42 (?_ : jX G jP 204 457 lv [.long (q41.2.2.1 64 0 0 (nI 0).toNatClampNeg)] μ Q)
            refine jX.li l6 (by rfl) (by rfl) (?_ : jX G jP 204 459 lv [.int q40.1, .long (q41.2.2.1 64 0 0 (nI 0).toNatClampNeg)] μ Q)
            refine jX.go (by rfl) (by rfl) (by rfl) (?_ : jX G jP 204 460 lv [.long q40.1.toInt64, .long (q41.2.2.1 64 0 0 (nI 0).toNatClampNeg)] μ Q)
            refine jX.go (by rfl) (by rfl) (by rfl) (?_ : jX G jP 204 461 lv [.int (lg_cmp (q41.2.2.1 64 0 0 (nI 0).toNatClampNeg) q40.1.toInt64)] μ Q)
            rcases bif_or h with ⟨hc, h⟩ | ⟨hc, h⟩
            · refine jX.b1t hc (by rfl) (by rfl) (by rfl) (?_ : jX G jP 204 466 lv [] μ Q)
              exact F_204_466_ok ih K v4 _ _ _ l0 l1 l2 l3 l4 R h
            · refine jX.b1f hc (by rfl) (by rfl) (by rfl) (?_ : jX G jP 204 464 lv [] μ Q)
              refine jX.ic (v := nI 0) (n := 1) (by rfl) (by rfl) (by decide) (?_ : jX G jP 204 465 lv [.int (nI 0)] μ Q)
              exact jX.ret (by rfl) (by rfl) (by rfl) (by rfl) (sretv (f := srI) h K R)
        · refine jX.b2f hc (by rfl) (by rfl) (by rfl) (?_ : jX G jP 204 447 lv [] μ Q)
          refine jX.ic (v := nI 0) (n := 1) (by rfl) (by rfl) (by decide) (?_ : jX G jP 204 448 lv [.int (nI 0)] μ Q)
          exact jX.ret (by rfl) (by rfl) (by rfl) (by rfl) (sretv (f := srI) h K R)
      rcases bif_or h with ⟨hc, h⟩ | ⟨-, h⟩
      · refine jX.swn hc (by rfl) (by rfl) (by rfl) (?_ : jX G jP 204 469 lv [] μ Q)
        refine jX.lrn l1 (by rfl) (by rfl) (?_ : jX G jP 204 470 lv [.ref (spl 0 0 0)] μ Q)
        obtain ⟨q43, e43, h⟩ := sbd h
        refine jX.c1 (v := .int q43.1) (by rfl) (by rfl) (by rfl) (by rfl) (by rfl) (by rfl) (by rfl) (R.rec (by rfl) (by rfl)) (Nat.le_of_ble_eq_true rfl) (Nat.le_of_ble_eq_true rfl) (F_122_ok R e43 (fun μ R => ⟨rfl, (?_ : jX G jP 204 473 lv [.int q43.1] μ Q)⟩))
        refine jX.lrn l2 (by rfl) (by rfl) (?_ : jX G jP 204 474 lv [.ref (spl 33 0 0), .int q43.1] μ Q)
        obtain ⟨q44, e44, h⟩ := sbd h
        refine jX.c1 (v := .int q44.1) (by rfl) (by rfl) (by rfl) (by rfl) (by rfl) (by rfl) (by rfl) (R.rec (by rfl) (by rfl)) (Nat.le_of_ble_eq_true rfl) (Nat.le_of_ble_eq_true rfl) (F_192_ok R e44 (fun μ R => ⟨rfl, (?_ : jX G jP 204 477 lv [.int q44.1, .int q43.1] μ Q)⟩))
        rcases bif_or h with ⟨hc, h⟩ | ⟨hc, h⟩
        · refine jX.b2t hc (by rfl) (by rfl) (by rfl) (?_ : jX G jP 204 795 lv [] μ Q)
          exact F_204_795_ok ih K v4 _ _ _ l0 l1 l2 l3 l4 R h
        · refine jX.b2f hc (by rfl) (by rfl) (by rfl) (?_ : jX G jP 204 480 lv [] μ Q)
          refine jX.ic (v := nI 0) (n := 1) (by rfl) (by rfl) (by decide) (?_ : jX G jP 204 481 lv [.int (nI 0)] μ Q)
          exact jX.ret (by rfl) (by rfl) (by rfl) (by rfl) (sretv (f := srI) h K R)
      rcases bif_or h with ⟨hc, h⟩ | ⟨-, h⟩
      · refine jX.swn hc (by rfl) (by rfl) (by rfl) (?_ : jX G jP 204 482 lv [] μ Q)
        refine jX.lrn l1 (by rfl) (by rfl) (?_ : jX G jP 204 483 lv [.ref (spl 0 0 0)] μ Q)
        obtain ⟨q45, e45, h⟩ := sbd h
        refine jX.c1 (v := .long q45.1) (by rfl) (by rfl) (by rfl) (by rfl) (by rfl) (by rfl) (by rfl) (R.rec (by rfl) (by rfl)) (Nat.le_of_ble_eq_true rfl) (Nat.le_of_ble_eq_true rfl) (F_126_ok R e45 (fun μ R => ⟨rfl, (?_ : jX G jP 204 486 lv [.long q45.1] μ Q)⟩))
        refine jX.lrn l2 (by rfl) (by rfl) (?_ : jX G jP 204 487 lv [.ref (spl 33 0 0), .long q45.1] μ Q)
        obtain ⟨q46, e46, h⟩ := sbd h
        refine jX.c1 (v := .long q46.1) (by rfl) (by rfl) (by rfl) (by rfl) (by rfl) (by rfl) (by rfl) (R.rec (by rfl) (by rfl)) (Nat.le_of_ble_eq_true rfl) (Nat.le_of_ble_eq_true rfl) (F_193_ok R e46 (fun μ R => ⟨rfl, (?_ : jX G jP 204 490 lv [.long q46.1, .long q45.1] μ Q)⟩))
        refine jX.go (by rfl) (by rfl) (by rfl) (?_ : jX G jP 204 491 lv [.int (lg_cmp q45.1 q46.1)] μ Q)
        rcases bif_or h with ⟨hc, h⟩ | ⟨hc, h⟩
        · refine jX.b1t hc (by rfl) (by rfl) (by rfl) (?_ : jX G jP 204 795 lv [] μ Q)
          exact F_204_795_ok ih K v4 _ _ _ l0 l1 l2 l3 l4 R h
        · refine jX.b1f hc (by rfl) (by rfl) (by rfl) (?_ : jX G jP 204 494 lv [] μ Q)
          refine jX.ic (v := nI 0) (n := 1) (by rfl) (by rfl) (by decide) (?_ : jX G jP 204 495 lv [.int (nI 0)] μ Q)
          exact jX.ret (by rfl) (by rfl) (by rfl) (by rfl) (sretv (f := srI) h K R)
      rcases bif_or h with ⟨hc, h⟩ | ⟨-, h⟩
      · refine jX.swn hc (by rfl) (by rfl) (by rfl) (?_ : jX G jP 204 496 lv [] μ Q)
        refine jX.lrn l1 (by rfl) (by rfl) (?_ : jX G jP 204 497 lv [.ref (spl 0 0 0)] μ Q)
        refine jX.lgn l0 (by rfl) (by rfl) (?_ : jX G jP 204 498 lv [.float 0, .ref (spl 0 0 0)] μ Q)
        refine jX.li l4 (by rfl) (by rfl) (?_ : jX G jP 204 500 lv [.int v4, .float 0, .ref (spl 0 0 0)] μ Q)
        refine jX.ic (v := nI 1) (n := 1) (by rfl) (by rfl) (by decide) (?_ : jX G jP 204 501 lv [.int (nI 1), .int v4, .float 0, .ref (spl 0 0 0)] μ Q)
        refine jX.go (by rfl) (by rfl) (by rfl) (?_ : jX G jP 204 502 lv [.int (v4 + (nI 1)), .float 0, .ref (spl 0 0 0)] μ Q)
        obtain ⟨g47, h⟩ := jif_some h
        refine jX.gi g47 (by rfl) (by rfl) (?_ : jX G jP 204 503 lv [.int ((G 0).2 (v4 + (nI 1)).toNatClampNeg), .ref (spl 0 0 0)] μ Q)
        refine jX.lgn l0 (by rfl) (by rfl) (?_ : jX G jP 204 504 lv [.float 0, .int ((G 0).2 (v4 + (nI 1)).toNatClampNeg), .ref (spl 0 0 0)] μ Q)
        refine jX.li l4 (by rfl) (by rfl) (?_ : jX G jP 204 506 lv [.int v4, .float 0, .int ((G 0).2 (v4 + (nI 1)).toNatClampNeg), .ref (spl 0 0 0)] μ Q)
        refine jX.ic (v := nI 2) (n := 1) (by rfl) (by rfl) (by decide) (?_ : jX G jP 204 507 lv [.int (nI 2), .int v4, .float 0, .int ((G 0).2 (v4 + (nI 1)).toNatClampNeg), .ref (spl 0 0 0)] μ Q)
        refine jX.go (by rfl) (by rfl) (by rfl) (?_ : jX G jP 204 508 lv [.int (v4 + (nI 2)), .float 0, .int ((G 0).2 (v4 + (nI 1)).toNatClampNeg), .ref (spl 0 0 0)] μ Q)
        obtain ⟨g48, h⟩ := jif_some h
        refine jX.gi g48 (by rfl) (by rfl) (?_ : jX G jP 204 509 lv [.int ((G 0).2 (v4 + (nI 2)).toNatClampNeg), .int ((G 0).2 (v4 + (nI 1)).toNatClampNeg), .ref (spl 0 0 0)] μ Q)
        refine jX.lrn l3 (by rfl) (by rfl) (?_ : jX G jP 204 510 lv [.ref (spl 64 0 0), .int ((G 0).2 (v4 + (nI 2)).toNatClampNeg), .int ((G 0).2 (v4 + (nI 1)).toNatClampNeg), .ref (spl 0 0 0)] μ Q)
        obtain ⟨q49, e49, h⟩ := sbd h
        refine jX.c1 (v := .int q49.1) (by rfl) (by rfl) (by rfl) (by rfl) (by rfl) (by rfl) (by rfl) (by rfl) (Nat.le_of_ble_eq_true rfl) (Nat.le_of_ble_eq_true rfl) (F_194_ok R e49 (fun μ R => ⟨rfl, (?_ : jX G jP 204 513 lv [.int q49.1] μ Q)⟩))
        refine jX.s1 (k := 5) (pc' := 515) (by rfl) (by rfl) (by rfl) (fun lv l5 kp => (?_ : jX G jP 204 515 lv [] μ Q))
        replace l0 := kp 0 _ l0 (by rfl) (by first | rfl | simp [soR_cat])
        replace l1 := kp 1 _ l1 (by rfl) (by first | rfl | simp [soR_cat])
        replace l2 := kp 2 _ l2 (by rfl) (by first | rfl | simp [soR_cat])
        replace l3 := kp 3 _ l3 (by rfl) (by first | rfl | simp [soR_cat])
        replace l4 := kp 4 _ l4 (by rfl) (by first | rfl | simp [soR_cat])
        refine jX.lrn l2 (by rfl) (by rfl) (?_ : jX G jP 204 516 lv [.ref (spl 33 0 0)] μ Q)
        refine jX.lgn l0 (by rfl) (by rfl) (?_ : jX G jP 204 517 lv [.float 0, .ref (spl 33 0 0)] μ Q)
        refine jX.li l4 (by rfl) (by rfl) (?_ : jX G jP 204 519 lv [.int v4, .float 0, .ref (spl 33 0 0)] μ Q)
        refine jX.ic (v := nI 1) (n := 1) (by rfl) (by rfl) (by decide) (?_ : jX G jP 204 520 lv [.int (nI 1), .int v4, .float 0, .ref (spl 33 0 0)] μ Q)
        refine jX.go (by rfl) (by rfl) (by rfl) (?_ : jX G jP 204 521 lv [.int (v4 + (nI 1)), .float 0, .ref (spl 33 0 0)] μ Q)
        obtain ⟨g50, h⟩ := jif_some h
        refine jX.gi g50 (by rfl) (by rfl) (?_ : jX G jP 204 522 lv [.int ((G 0).2 (v4 + (nI 1)).toNatClampNeg), .ref (spl 33 0 0)] μ Q)
        refine jX.lgn l0 (by rfl) (by rfl) (?_ : jX G jP 204 523 lv [.float 0, .int ((G 0).2 (v4 + (nI 1)).toNatClampNeg), .ref (spl 33 0 0)] μ Q)
        refine jX.li l4 (by rfl) (by rfl) (?_ : jX G jP 204 525 lv [.int v4, .float 0, .int ((G 0).2 (v4 + (nI 1)).toNatClampNeg), .ref (spl 33 0 0)] μ Q)
        refine jX.ic (v := nI 2) (n := 1) (by rfl) (by rfl) (by decide) (?_ : jX G jP 204 526 lv [.int (nI 2), .int v4, .float 0, .int ((G 0).2 (v4 + (nI 1)).toNatClampNeg), .ref (spl 33 0 0)] μ Q)
        refine jX.go (by rfl) (by rfl) (by rfl) (?_ : jX G jP 204 527 lv [.int (v4 + (nI 2)), .float 0, .int ((G 0).2 (v4 + (nI 1)).toNatClampNeg), .ref (spl 33 0 0)] μ Q)
        obtain ⟨g51, h⟩ := jif_some h
        refine jX.gi g51 (by rfl) (by rfl) (?_ : jX G jP 204 528 lv [.int ((G 0).2 (v4 + (nI 2)).toNatClampNeg), .int ((G 0).2 (v4 + (nI 1)).toNatClampNeg), .ref (spl 33 0 0)] μ Q)
        obtain ⟨q52, e52, h⟩ := sbd h
        refine jX.c1 (v := .int q52.1) (by rfl) (by rfl) (by rfl) (by rfl) (by rfl) (by rfl) (by rfl) (R.rec (by rfl) (by rfl)) (Nat.le_of_ble_eq_true rfl) (Nat.le_of_ble_eq_true rfl) (F_195_ok R e52 (fun μ R => ⟨rfl, (?_ : jX G jP 204 531 lv [.int q52.1] μ Q)⟩))
        refine jX.s1 (k := 6) (pc' := 533) (by rfl) (by rfl) (by rfl) (fun lv l6 kp => (?_ : jX G jP 204 533 lv [] μ Q))
        replace l0 := kp 0 _ l0 (by rfl) (by first | rfl | simp [soR_cat])
        replace l1 := kp 1 _ l1 (by rfl) (by first | rfl | simp [soR_cat])
        replace l2 := kp 2 _ l2 (by rfl) (by first | rfl | simp [soR_cat])
        replace l3 := kp 3 _ l3 (by rfl) (by first | rfl | simp [soR_cat])
        replace l4 := kp 4 _ l4 (by rfl) (by first | rfl | simp [soR_cat])
        replace l5 := kp 5 _ l5 (by rfl) (by first | rfl | simp [soR_cat])
        refine jX.lrn l2 (by rfl) (by rfl) (?_ : jX G jP 204 534 lv [.ref (spl 33 0 0)] μ Q)
        obtain ⟨q53, e53, h⟩ := sbd h
        refine jX.c1 (v := .int q53.1) (by rfl) (by rfl) (by rfl) (by rfl) (by rfl) (by rfl) (by rfl) (R.rec (by rfl) (by rfl)) (Nat.le_of_ble_eq_true rfl) (Nat.le_of_ble_eq_true rfl) (F_137_ok R e53 (fun μ R => ⟨rfl, (?_ : jX G jP 204 537 lv [.int q53.1] μ Q)⟩))
        refine jX.li l5 (by rfl) (by rfl) (?_ : jX G jP 204 539 lv [.int q49.1, .int q53.1] μ Q)
        rcases bif_or h with ⟨hc, h⟩ | ⟨hc, h⟩
        · refine jX.b2t hc (by rfl) (by rfl) (by rfl) (?_ : jX G jP 204 544 lv [] μ Q)
          refine jX.li l5 (by rfl) (by rfl) (?_ : jX G jP 204 546 lv [.int q49.1] μ Q)
          rcases bif_or h with ⟨hc, h⟩ | ⟨hc, h⟩
          · refine jX.b1t hc (by rfl) (by rfl) (by rfl) (?_ : jX G jP 204 561 lv [] μ Q)
            exact F_204_561_ok ih K v4 _ _ _ l0 l1 l2 l3 l4 R h
          · refine jX.b1f hc (by rfl) (by rfl) (by rfl) (?_ : jX G jP 204 549 lv [] μ Q)
            refine jX.lrn l3 (by rfl) (by rfl) (?_ : jX G jP 204 550 lv [.ref (spl 64 0 0)] μ Q)
            refine jX.ic (v := nI 0) (n := 1) (by rfl) (by rfl) (by decide) (?_ : jX G jP 204 551 lv [.int (nI 0), .ref (spl 64 0 0)] μ Q)
            obtain ⟨g54, h⟩ := jif_some h
            refine jX.sal R (by rfl) (by rfl) (by rfl) (by rfl) g54 (?_ : jX G jP 204 552 lv [.long (q53.2.2.1 64 0 0 (nI 0).toNatClampNeg)] μ Q)
            refine jX.li l6 (by rfl) (by rfl) (?_ : jX G jP 204 554 lv [.int q52.1, .long (q53.2.2.1 64 0 0 (nI 0).toNatClampNeg)] μ Q)
            refine jX.go (by rfl) (by rfl) (by rfl) (?_ : jX G jP 204 555 lv [.long q52.1.toInt64, .long (q53.2.2.1 64 0 0 (nI 0).toNatClampNeg)] μ Q)
            refine jX.go (by rfl) (by rfl) (by rfl) (?_ : jX G jP 204 556 lv [.int (lg_cmp (q53.2.2.1 64 0 0 (nI 0).toNatClampNeg) q52.1.toInt64)] μ Q)
            rcases bif_or h with ⟨hc, h⟩ | ⟨hc, h⟩
            · refine jX.b1t hc (by rfl) (by rfl) (by rfl) (?_ : jX G jP 204 561 lv [] μ Q)
              exact F_204_561_ok ih K v4 _ _ _ l0 l1 l2 l3 l4 R h
            · refine jX.b1f hc (by rfl) (by rfl) (by rfl) (?_ : jX G jP 204 559 lv [] μ Q)
              refine jX.ic (v := nI 0) (n := 1) (by rfl) (by rfl) (by decide) (?_ : jX G jP 204 560 lv [.int (nI 0)] μ Q)
              exact jX.ret (by rfl) (by rfl) (by rfl) (by rfl) (sretv (f := srI) h K R)
        · refine jX.b2f hc (by rfl) (by rfl) (by rfl) (?_ : jX G jP 204 542 lv [] μ Q)
          refine jX.ic (v := nI 0) (n := 1) (by rfl) (by rfl) (by decide) (?_ : jX G jP 204 543 lv [.int (nI 0)] μ Q)
          exact jX.ret (by rfl) (by rfl) (by rfl) (by rfl) (sretv (f := srI) h K R)
      rcases bif_or h with ⟨hc, h⟩ | ⟨-, h⟩
      · refine jX.swn hc (by rfl) (by rfl) (by rfl) (?_ : jX G jP 204 564 lv [] μ Q)
        refine jX.lrn l1 (by rfl) (by rfl) (?_ : jX G jP 204 565 lv [.ref (spl 0 0 0)] μ Q)
        refine jX.lgn l0 (by rfl) (by rfl) (?_ : jX G jP 204 566 lv [.float 0, .ref (spl 0 0 0)] μ Q)
        refine jX.li l4 (by rfl) (by rfl) (?_ : jX G jP 204 568 lv [.int v4, .float 0, .ref (spl 0 0 0)] μ Q)
        refine jX.ic (v := nI 1) (n := 1) (by rfl) (by rfl) (by decide) (?_ : jX G jP 204 569 lv [.int (nI 1), .int v4, .float 0, .ref (spl 0 0 0)] μ Q)
        refine jX.go (by rfl) (by rfl) (by rfl) (?_ : jX G jP 204 570 lv [.int (v4 + (nI 1)), .float 0, .ref (spl 0 0 0)] μ Q)
        obtain ⟨g55, h⟩ := jif_some h
        refine jX.gi g55 (by rfl) (by rfl) (?_ : jX G jP 204 571 lv [.int ((G 0).2 (v4 + (nI 1)).toNatClampNeg), .ref (spl 0 0 0)] μ Q)
        refine jX.lgn l0 (by rfl) (by rfl) (?_ : jX G jP 204 572 lv [.float 0, .int ((G 0).2 (v4 + (nI 1)).toNatClampNeg), .ref (spl 0 0 0)] μ Q)
        refine jX.li l4 (by rfl) (by rfl) (?_ : jX G jP 204 574 lv [.int v4, .float 0, .int ((G 0).2 (v4 + (nI 1)).toNatClampNeg), .ref (spl 0 0 0)] μ Q)
        refine jX.ic (v := nI 2) (n := 1) (by rfl) (by rfl) (by decide) (?_ : jX G jP 204 575 lv [.int (nI 2), .int v4, .float 0, .int ((G 0).2 (v4 + (nI 1)).toNatClampNeg), .ref (spl 0 0 0)] μ Q)
        refine jX.go (by rfl) (by rfl) (by rfl) (?_ : jX G jP 204 576 lv [.int (v4 + (nI 2)), .float 0, .int ((G 0).2 (v4 + (nI 1)).toNatClampNeg), .ref (spl 0 0 0)] μ Q)
        obtain ⟨g56, h⟩ := jif_some h
        refine jX.gi g56 (by rfl) (by rfl) (?_ : jX G jP 204 577 lv [.int ((G 0).2 (v4 + (nI 2)).toNatClampNeg), .int ((G 0).2 (v4 + (nI 1)).toNatClampNeg), .ref (spl 0 0 0)] μ Q)
        refine jX.lrn l3 (by rfl) (by rfl) (?_ : jX G jP 204 578 lv [.ref (spl 64 0 0), .int ((G 0).2 (v4 + (nI 2)).toNatClampNeg), .int ((G 0).2 (v4 + (nI 1)).toNatClampNeg), .ref (spl 0 0 0)] μ Q)
        obtain ⟨q57, e57, h⟩ := sbd h
        refine jX.c1 (v := .int q57.1) (by rfl) (by rfl) (by rfl) (by rfl) (by rfl) (by rfl) (by rfl) (by rfl) (Nat.le_of_ble_eq_true rfl) (Nat.le_of_ble_eq_true rfl) (F_196_ok R e57 (fun μ R => ⟨rfl, (?_ : jX G jP 204 581 lv [.int q57.1] μ Q)⟩))
        refine jX.s1 (k := 5) (pc' := 583) (by rfl) (by rfl) (by rfl) (fun lv l5 kp => (?_ : jX G jP 204 583 lv [] μ Q))
        replace l0 := kp 0 _ l0 (by rfl) (by first | rfl | simp [soR_cat])
        replace l1 := kp 1 _ l1 (by rfl) (by first | rfl | simp [soR_cat])
        replace l2 := kp 2 _ l2 (by rfl) (by first | rfl | simp [soR_cat])
        replace l3 := kp 3 _ l3 (by rfl) (by first | rfl | simp [soR_cat])
        replace l4 := kp 4 _ l4 (by rfl) (by first | rfl | simp [soR_cat])
        refine jX.lrn l2 (by rfl) (by rfl) (?_ : jX G jP 204 584 lv [.ref (spl 33 0 0)] μ Q)
        refine jX.lgn l0 (by rfl) (by rfl) (?_ : jX G jP 204 585 lv [.float 0, .ref (spl 33 0 0)] μ Q)
        refine jX.li l4 (by rfl) (by rfl) (?_ : jX G jP 204 587 lv [.int v4, .float 0, .ref (spl 33 0 0)] μ Q)
        refine jX.ic (v := nI 1) (n := 1) (by rfl) (by rfl) (by decide) (?_ : jX G jP 204 588 lv [.int (nI 1), .int v4, .float 0, .ref (spl 33 0 0)] μ Q)
        refine jX.go (by rfl) (by rfl) (by rfl) (?_ : jX G jP 204 589 lv [.int (v4 + (nI 1)), .float 0, .ref (spl 33 0 0)] μ Q)
        obtain ⟨g58, h⟩ := jif_some h
        refine jX.gi g58 (by rfl) (by rfl) (?_ : jX G jP 204 590 lv [.int ((G 0).2 (v4 + (nI 1)).toNatClampNeg), .ref (spl 33 0 0)] μ Q)
        refine jX.lgn l0 (by rfl) (by rfl) (?_ : jX G jP 204 591 lv [.float 0, .int ((G 0).2 (v4 + (nI 1)).toNatClampNeg), .ref (spl 33 0 0)] μ Q)
        refine jX.li l4 (by rfl) (by rfl) (?_ : jX G jP 204 593 lv [.int v4, .float 0, .int ((G 0).2 (v4 + (nI 1)).toNatClampNeg), .ref (spl 33 0 0)] μ Q)
        refine jX.ic (v := nI 2) (n := 1) (by rfl) (by rfl) (by decide) (?_ : jX G jP 204 594 lv [.int (nI 2), .int v4, .float 0, .int ((G 0).2 (v4 + (nI 1)).toNatClampNeg), .ref (spl 33 0 0)] μ Q)
        refine jX.go (by rfl) (by rfl) (by rfl) (?_ : jX G jP 204 595 lv [.int (v4 + (nI 2)), .float 0, .int ((G 0).2 (v4 + (nI 1)).toNatClampNeg), .ref (spl 33 0 0)] μ Q)
        obtain ⟨g59, h⟩ := jif_some h
        refine jX.gi g59 (by rfl) (by rfl) (?_ : jX G jP 204 596 lv [.int ((G 0).2 (v4 + (nI 2)).toNatClampNeg), .int ((G 0).2 (v4 + (nI 1)).toNatClampNeg), .ref (spl 33 0 0)] μ Q)
        obtain ⟨q60, e60, h⟩ := sbd h
        refine jX.c1 (v := .long q60.1) (by rfl) (by rfl) (by rfl) (by rfl) (by rfl) (by rfl) (by rfl) (R.rec (by rfl) (by rfl)) (Nat.le_of_ble_eq_true rfl) (Nat.le_of_ble_eq_true rfl) (F_198_ok R e60 (fun μ R => ⟨rfl, (?_ : jX G jP 204 599 lv [.long q60.1] μ Q)⟩))
        refine jX.s2 (k := 6) (pc' := 601) (by rfl) (by rfl) (by rfl) (fun lv l6 kp => (?_ : jX G jP 204 601 lv [] μ Q))
        replace l0 := kp 0 _ l0 (by rfl) (by first | rfl | simp [soR_cat])
        replace l1 := kp 1 _ l1 (by rfl) (by first | rfl | simp [soR_cat])
        replace l2 := kp 2 _ l2 (by rfl) (by first | rfl | simp [soR_cat])
        replace l3 := kp 3 _ l3 (by rfl) (by first | rfl | simp [soR_cat])
        replace l4 := kp 4 _ l4 (by rfl) (by first | rfl | simp [soR_cat])
        replace l5 := kp 5 _ l5 (by rfl) (by first | rfl | simp [soR_cat])
        refine jX.lrn l2 (by rfl) (by rfl) (?_ : jX G jP 204 602 lv [.ref (spl 33 0 0)] μ Q)
        obtain ⟨q61, e61, h⟩ := sbd h
        refine jX.c1 (v := .int q61.1) (by rfl) (by rfl) (by rfl) (by rfl) (by rfl) (by rfl) (by rfl) (R.rec (by rfl) (by rfl)) (Nat.le_of_ble_eq_true rfl) (Nat.le_of_ble_eq_true rfl) (F_137_ok R e61 (fun μ R => ⟨rfl, (?_ : jX G jP 204 605 lv [.int q61.1] μ Q)⟩))
        refine jX.li l5 (by rfl) (by rfl) (?_ : jX G jP 204 607 lv [.int q57.1, .int q61.1] μ Q)
        rcases bif_or h with ⟨hc, h⟩ | ⟨hc, h⟩
        · refine jX.b2t hc (by rfl) (by rfl) (by rfl) (?_ : jX G jP 204 612 lv [] μ Q)
          refine jX.li l5 (by rfl) (by rfl) (?_ : jX G jP 204 614 lv [.int q57.1] μ Q)
          rcases bif_or h with ⟨hc, h⟩ | ⟨hc, h⟩
          · refine jX.b1t hc (by rfl) (by rfl) (by rfl) (?_ : jX G jP 204 628 lv [] μ Q)
            exact F_204_628_ok ih K v4 _ _ _ l0 l1 l2 l3 l4 R h
          · refine jX.b1f hc (by rfl) (by rfl) (by rfl) (?_ : jX G jP 204 617 lv [] μ Q)
            refine jX.lrn l3 (by rfl) (by rfl) (?_ : jX G jP 204 618 lv [.ref (spl 64 0 0)] μ Q)
            refine jX.ic (v := nI 0) (n := 1) (by rfl) (by rfl) (by decide) (?_ : jX G jP 204 619 lv [.int (nI 0), .ref (spl 64 0 0)] μ Q)
            obtain ⟨g62, h⟩ := jif_some h
            refine jX.sal R (by rfl) (by rfl) (by rfl) (by rfl) g62 (?_ : jX G jP 204 620 lv [.long (q61.2.2.1 64 0 0 (nI 0).toNatClampNeg)] μ Q)
            refine jX.ll l6 (by rfl) (by rfl) (?_ : jX G jP 204 622 lv [.long q60.1, .long (q61.2.2.1 64 0 0 (nI 0).toNatClampNeg)] μ Q)
            refine jX.go (by rfl) (by rfl) (by rfl) (?_ : jX G jP 204 623 lv [.int (lg_cmp (q61.2.2.1 64 0 0 (nI 0).toNatClampNeg) q60.1)] μ Q)
            rcases bif_or h with ⟨hc, h⟩ | ⟨hc, h⟩
            · refine jX.b1t hc (by rfl) (by rfl) (by rfl) (?_ : jX G jP 204 628 lv [] μ Q)
              exact F_204_628_ok ih K v4 _ _ _ l0 l1 l2 l3 l4 R h
            · refine jX.b1f hc (by rfl) (by rfl) (by rfl) (?_ : jX G jP 204 626 lv [] μ Q)
              refine jX.ic (v := nI 0) (n := 1) (by rfl) (by rfl) (by decide) (?_ : jX G jP 204 627 lv [.int (nI 0)] μ Q)
              exact jX.ret (by rfl) (by rfl) (by rfl) (by rfl) (sretv (f := srI) h K R)
        · refine jX.b2f hc (by rfl) (by rfl) (by rfl) (?_ : jX G jP 204 610 lv [] μ Q)
          refine jX.ic (v := nI 0) (n := 1) (by rfl) (by rfl) (by decide) (?_ : jX G jP 204 611 lv [.int (nI 0)] μ Q)
          exact jX.ret (by rfl) (by rfl) (by rfl) (by rfl) (sretv (f := srI) h K R)
      rcases bif_or h with ⟨hc, h⟩ | ⟨-, h⟩
      · refine jX.swn hc (by rfl) (by rfl) (by rfl) (?_ : jX G jP 204 631 lv [] μ Q)
        refine jX.lrn l1 (by rfl) (by rfl) (?_ : jX G jP 204 632 lv [.ref (spl 0 0 0)] μ Q)
        refine jX.lgn l0 (by rfl) (by rfl) (?_ : jX G jP 204 633 lv [.float 0, .ref (spl 0 0 0)] μ Q)
        refine jX.li l4 (by rfl) (by rfl) (?_ : jX G jP 204 635 lv [.int v4, .float 0, .ref (spl 0 0 0)] μ Q)
        refine jX.ic (v := nI 1) (n := 1) (by rfl) (by rfl) (by decide) (?_ : jX G jP 204 636 lv [.int (nI 1), .int v4, .float 0, .ref (spl 0 0 0)] μ Q)
        refine jX.go (by rfl) (by rfl) (by rfl) (?_ : jX G jP 204 637 lv [.int (v4 + (nI 1)), .float 0, .ref (spl 0 0 0)] μ Q)
        obtain ⟨g63, h⟩ := jif_some h
        refine jX.gi g63 (by rfl) (by rfl) (?_ : jX G jP 204 638 lv [.int ((G 0).2 (v4 + (nI 1)).toNatClampNeg), .ref (spl 0 0 0)] μ Q)
        refine jX.lgn l0 (by rfl) (by rfl) (?_ : jX G jP 204 639 lv [.float 0, .int ((G 0).2 (v4 + (nI 1)).toNatClampNeg), .ref (spl 0 0 0)] μ Q)
        refine jX.li l4 (by rfl) (by rfl) (?_ : jX G jP 204 641 lv [.int v4, .float 0, .int ((G 0).2 (v4 + (nI 1)).toNatClampNeg), .ref (spl 0 0 0)] μ Q)
        refine jX.ic (v := nI 2) (n := 1) (by rfl) (by rfl) (by decide) (?_ : jX G jP 204 642 lv [.int (nI 2), .int v4, .float 0, .int ((G 0).2 (v4 + (nI 1)).toNatClampNeg), .ref (spl 0 0 0)] μ Q)
        refine jX.go (by rfl) (by rfl) (by rfl) (?_ : jX G jP 204 643 lv [.int (v4 + (nI 2)), .float 0, .int ((G 0).2 (v4 + (nI 1)).toNatClampNeg), .ref (spl 0 0 0)] μ Q)
        obtain ⟨g64, h⟩ := jif_some h
        refine jX.gi g64 (by rfl) (by rfl) (?_ : jX G jP 204 644 lv [.int ((G 0).2 (v4 + (nI 2)).toNatClampNeg), .int ((G 0).2 (v4 + (nI 1)).toNatClampNeg), .ref (spl 0 0 0)] μ Q)
        refine jX.lrn l3 (by rfl) (by rfl) (?_ : jX G jP 204 645 lv [.ref (spl 64 0 0), .int ((G 0).2 (v4 + (nI 2)).toNatClampNeg), .int ((G 0).2 (v4 + (nI 1)).toNatClampNeg), .ref (spl 0 0 0)] μ Q)
        obtain ⟨q65, e65, h⟩ := sbd h
        refine jX.c1 (v := .int q65.1) (by rfl) (by rfl) (by rfl) (by rfl) (by rfl) (by rfl) (by rfl) (by rfl) (Nat.le_of_ble_eq_true rfl) (Nat.le_of_ble_eq_true rfl) (F_131_ok R e65 (fun μ R => ⟨rfl, (?_ : jX G jP 204 648 lv [.int q65.1] μ Q)⟩))
        refine jX.s1 (k := 5) (pc' := 650) (by rfl) (by rfl) (by rfl) (fun lv l5 kp => (?_ : jX G jP 204 650 lv [] μ Q))
        replace l0 := kp 0 _ l0 (by rfl) (by first | rfl | simp [soR_cat])
        replace l1 := kp 1 _ l1 (by rfl) (by first | rfl | simp [soR_cat])
        replace l2 := kp 2 _ l2 (by rfl) (by first | rfl | simp [soR_cat])
        replace l3 := kp 3 _ l3 (by rfl) (by first | rfl | simp [soR_cat])
        replace l4 := kp 4 _ l4 (by rfl) (by first | rfl | simp [soR_cat])
        refine jX.lrn l2 (by rfl) (by rfl) (?_ : jX G jP 204 651 lv [.ref (spl 33 0 0)] μ Q)
        refine jX.lgn l0 (by rfl) (by rfl) (?_ : jX G jP 204 652 lv [.float 0, .ref (spl 33 0 0)] μ Q)
        refine jX.li l4 (by rfl) (by rfl) (?_ : jX G jP 204 654 lv [.int v4, .float 0, .ref (spl 33 0 0)] μ Q)
        refine jX.ic (v := nI 1) (n := 1) (by rfl) (by rfl) (by decide) (?_ : jX G jP 204 655 lv [.int (nI 1), .int v4, .float 0, .ref (spl 33 0 0)] μ Q)
        refine jX.go (by rfl) (by rfl) (by rfl) (?_ : jX G jP 204 656 lv [.int (v4 + (nI 1)), .float 0, .ref (spl 33 0 0)] μ Q)
        obtain ⟨g66, h⟩ := jif_some h
        refine jX.gi g66 (by rfl) (by rfl) (?_ : jX G jP 204 657 lv [.int ((G 0).2 (v4 + (nI 1)).toNatClampNeg), .ref (spl 33 0 0)] μ Q)
        refine jX.lgn l0 (by rfl) (by rfl) (?_ : jX G jP 204 658 lv [.float 0, .int ((G 0).2 (v4 + (nI 1)).toNatClampNeg), .ref (spl 33 0 0)] μ Q)
        refine jX.li l4 (by rfl) (by rfl) (?_ : jX G jP 204 660 lv [.int v4, .float 0, .int ((G 0).2 (v4 + (nI 1)).toNatClampNeg), .ref (spl 33 0 0)] μ Q)
        refine jX.ic (v := nI 2) (n := 1) (by rfl) (by rfl) (by decide) (?_ : jX G jP 204 661 lv [.int (nI 2), .int v4, .float 0, .int ((G 0).2 (v4 + (nI 1)).toNatClampNeg), .ref (spl 33 0 0)] μ Q)
        refine jX.go (by rfl) (by rfl) (by rfl) (?_ : jX G jP 204 662 lv [.int (v4 + (nI 2)), .float 0, .int ((G 0).2 (v4 + (nI 1)).toNatClampNeg), .ref (spl 33 0 0)] μ Q)
        obtain ⟨g67, h⟩ := jif_some h
        refine jX.gi g67 (by rfl) (by rfl) (?_ : jX G jP 204 663 lv [.int ((G 0).2 (v4 + (nI 2)).toNatClampNeg), .int ((G 0).2 (v4 + (nI 1)).toNatClampNeg), .ref (spl 33 0 0)] μ Q)
        obtain ⟨q68, e68, h⟩ := sbd h
        refine jX.c1 (v := .int q68.1) (by rfl) (by rfl) (by rfl) (by rfl) (by rfl) (by rfl) (by rfl) (R.rec (by rfl) (by rfl)) (Nat.le_of_ble_eq_true rfl) (Nat.le_of_ble_eq_true rfl) (F_199_ok R e68 (fun μ R => ⟨rfl, (?_ : jX G jP 204 666 lv [.int q68.1] μ Q)⟩))
        refine jX.s1 (k := 6) (pc' := 668) (by rfl) (by rfl) (by rfl) (fun lv l6 kp => (?_ : jX G jP 204 668 lv [] μ Q))
        replace l0 := kp 0 _ l0 (by rfl) (by first | rfl | simp [soR_cat])
        replace l1 := kp 1 _ l1 (by rfl) (by first | rfl | simp [soR_cat])
        replace l2 := kp 2 _ l2 (by rfl) (by first | rfl | simp [soR_cat])
        replace l3 := kp 3 _ l3 (by rfl) (by first | rfl | simp [soR_cat])
        replace l4 := kp 4 _ l4 (by rfl) (by first | rfl | simp [soR_cat])
        replace l5 := kp 5 _ l5 (by rfl) (by first | rfl | simp [soR_cat])
        refine jX.lrn l2 (by rfl) (by rfl) (?_ : jX G jP 204 669 lv [.ref (spl 33 0 0)] μ Q)
        obtain ⟨q69, e69, h⟩ := sbd h
        refine jX.c1 (v := .int q69.1) (by rfl) (by rfl) (by rfl) (by rfl) (by rfl) (by rfl) (by rfl) (R.rec (by rfl) (by rfl)) (Nat.le_of_ble_eq_true rfl) (Nat.le_of_ble_eq_true rfl) (F_137_ok R e69 (fun μ R => ⟨rfl, (?_ : jX G jP 204 672 lv [.int q69.1] μ Q)⟩))
        refine jX.li l5 (by rfl) (by rfl) (?_ : jX G jP 204 674 lv [.int q65.1, .int q69.1] μ Q)
        rcases bif_or h with ⟨hc, h⟩ | ⟨hc, h⟩
        · refine jX.b2t hc (by rfl) (by rfl) (by rfl) (?_ : jX G jP 204 679 lv [] μ Q)
          refine jX.li l5 (by rfl) (by rfl) (?_ : jX G jP 204 681 lv [.int q65.1] μ Q)
          rcases bif_or h with ⟨hc, h⟩ | ⟨hc, h⟩
          · refine jX.b1t hc (by rfl) (by rfl) (by rfl) (?_ : jX G jP 204 696 lv [] μ Q)
            exact F_204_696_ok ih K v4 _ _ _ l0 l1 l2 l3 l4 R h
          · refine jX.b1f hc (by rfl) (by rfl) (by rfl) (?_ : jX G jP 204 684 lv [] μ Q)
            refine jX.lrn l3 (by rfl) (by rfl) (?_ : jX G jP 204 685 lv [.ref (spl 64 0 0)] μ Q)
            refine jX.ic (v := nI 0) (n := 1) (by rfl) (by rfl) (by decide) (?_ : jX G jP 204 686 lv [.int (nI 0), .ref (spl 64 0 0)] μ Q)
            obtain ⟨g70, h⟩ := jif_some h
            refine jX.sal R (by rfl) (by rfl) (by rfl) (by rfl) g70 (?_ : jX G jP 204 687 lv [.long (q69.2.2.1 64 0 0 (nI 0).toNatClampNeg)] μ Q)
            refine jX.li l6 (by rfl) (by rfl) (?_ : jX G jP 204 689 lv [.int q68.1, .long (q69.2.2.1 64 0 0 (nI 0).toNatClampNeg)] μ Q)
            refine jX.go (by rfl) (by rfl) (by rfl) (?_ : jX G jP 204 690 lv [.long q68.1.toInt64, .long (q69.2.2.1 64 0 0 (nI 0).toNatClampNeg)] μ Q)
            refine jX.go (by rfl) (by rfl) (by rfl) (?_ : jX G jP 204 691 lv [.int (lg_cmp (q69.2.2.1 64 0 0 (nI 0).toNatClampNeg) q68.1.toInt64)] μ Q)
            rcases bif_or h with ⟨hc, h⟩ | ⟨hc, h⟩
            · refine jX.b1t hc (by rfl) (by rfl) (by rfl) (?_ : jX G jP 204 696 lv [] μ Q)
              exact F_204_696_ok ih K v4 _ _ _ l0 l1 l2 l3 l4 R h
            · refine jX.b1f hc (by rfl) (by rfl) (by rfl) (?_ : jX G jP 204 694 lv [] μ Q)
              refine jX.ic (v := nI 0) (n := 1) (by rfl) (by rfl) (by decide) (?_ : jX G jP 204 695 lv [.int (nI 0)] μ Q)
              exact jX.ret (by rfl) (by rfl) (by rfl) (by rfl) (sretv (f := srI) h K R)
        · refine jX.b2f hc (by rfl) (by rfl) (by rfl) (?_ : jX G jP 204 677 lv [] μ Q)
          refine jX.ic (v := nI 0) (n := 1) (by rfl) (by rfl) (by decide) (?_ : jX G jP 204 678 lv [.int (nI 0)] μ Q)
          exact jX.ret (by rfl) (by rfl) (by rfl) (by rfl) (sretv (f := srI) h K R)
      rcases bif_or h with ⟨hc, h⟩ | ⟨-, h⟩
      · refine jX.swn hc (by rfl) (by rfl) (by rfl) (?_ : jX G jP 204 699 lv [] μ Q)
        refine jX.lrn l1 (by rfl) (by rfl) (?_ : jX G jP 204 700 lv [.ref (spl 0 0 0)] μ Q)
        refine jX.lgn l0 (by rfl) (by rfl) (?_ : jX G jP 204 701 lv [.float 0, .ref (spl 0 0 0)] μ Q)
        refine jX.li l4 (by rfl) (by rfl) (?_ : jX G jP 204 703 lv [.int v4, .float 0, .ref (spl 0 0 0)] μ Q)
        refine jX.ic (v := nI 1) (n := 1) (by rfl) (by rfl) (by decide) (?_ : jX G jP 204 704 lv [.int (nI 1), .int v4, .float 0, .ref (spl 0 0 0)] μ Q)
        refine jX.go (by rfl) (by rfl) (by rfl) (?_ : jX G jP 204 705 lv [.int (v4 + (nI 1)), .float 0, .ref (spl 0 0 0)] μ Q)
        obtain ⟨g71, h⟩ := jif_some h
        refine jX.gi g71 (by rfl) (by rfl) (?_ : jX G jP 204 706 lv [.int ((G 0).2 (v4 + (nI 1)).toNatClampNeg), .ref (spl 0 0 0)] μ Q)
        refine jX.lrn l3 (by rfl) (by rfl) (?_ : jX G jP 204 707 lv [.ref (spl 64 0 0), .int ((G 0).2 (v4 + (nI 1)).toNatClampNeg), .ref (spl 0 0 0)] μ Q)
        obtain ⟨q72, e72, h⟩ := sbd h
        refine jX.c1 (v := .int q72.1) (by rfl) (by rfl) (by rfl) (by rfl) (by rfl) (by rfl) (by rfl) (by rfl) (Nat.le_of_ble_eq_true rfl) (Nat.le_of_ble_eq_true rfl) (F_129_ok R e72 (fun μ R => ⟨rfl, (?_ : jX G jP 204 710 lv [.int q72.1] μ Q)⟩))
        refine jX.s1 (k := 5) (pc' := 712) (by rfl) (by rfl) (by rfl) (fun lv l5 kp => (?_ : jX G jP 204 712 lv [] μ Q))
        replace l0 := kp 0 _ l0 (by rfl) (by first | rfl | simp [soR_cat])
        replace l1 := kp 1 _ l1 (by rfl) (by first | rfl | simp [soR_cat])
        replace l2 := kp 2 _ l2 (by rfl) (by first | rfl | simp [soR_cat])
        replace l3 := kp 3 _ l3 (by rfl) (by first | rfl | simp [soR_cat])
        replace l4 := kp 4 _ l4 (by rfl) (by first | rfl | simp [soR_cat])
        refine jX.lrn l2 (by rfl) (by rfl) (?_ : jX G jP 204 713 lv [.ref (spl 33 0 0)] μ Q)
        refine jX.lgn l0 (by rfl) (by rfl) (?_ : jX G jP 204 714 lv [.float 0, .ref (spl 33 0 0)] μ Q)
        refine jX.li l4 (by rfl) (by rfl) (?_ : jX G jP 204 716 lv [.int v4, .float 0, .ref (spl 33 0 0)] μ Q)
        refine jX.ic (v := nI 1) (n := 1) (by rfl) (by rfl) (by decide) (?_ : jX G jP 204 717 lv [.int (nI 1), .int v4, .float 0, .ref (spl 33 0 0)] μ Q)
        refine jX.go (by rfl) (by rfl) (by rfl) (?_ : jX G jP 204 718 lv [.int (v4 + (nI 1)), .float 0, .ref (spl 33 0 0)] μ Q)
        obtain ⟨g73, h⟩ := jif_some h
        refine jX.gi g73 (by rfl) (by rfl) (?_ : jX G jP 204 719 lv [.int ((G 0).2 (v4 + (nI 1)).toNatClampNeg), .ref (spl 33 0 0)] μ Q)
        obtain ⟨q74, e74, h⟩ := sbd h
        refine jX.c1 (v := .int q74.1) (by rfl) (by rfl) (by rfl) (by rfl) (by rfl) (by rfl) (by rfl) (R.rec (by rfl) (by rfl)) (Nat.le_of_ble_eq_true rfl) (Nat.le_of_ble_eq_true rfl) (F_200_ok R e74 (fun μ R => ⟨rfl, (?_ : jX G jP 204 722 lv [.int q74.1] μ Q)⟩))
        refine jX.s1 (k := 6) (pc' := 724) (by rfl) (by rfl) (by rfl) (fun lv l6 kp => (?_ : jX G jP 204 724 lv [] μ Q))
        replace l0 := kp 0 _ l0 (by rfl) (by first | rfl | simp [soR_cat])
        replace l1 := kp 1 _ l1 (by rfl) (by first | rfl | simp [soR_cat])
        replace l2 := kp 2 _ l2 (by rfl) (by first | rfl | simp [soR_cat])
        replace l3 := kp 3 _ l3 (by rfl) (by first | rfl | simp [soR_cat])
        replace l4 := kp 4 _ l4 (by rfl) (by first | rfl | simp [soR_cat])
        replace l5 := kp 5 _ l5 (by rfl) (by first | rfl | simp [soR_cat])
        refine jX.lrn l2 (by rfl) (by rfl) (?_ : jX G jP 204 725 lv [.ref (spl 33 0 0)] μ Q)
        obtain ⟨q75, e75, h⟩ := sbd h
        refine jX.c1 (v := .int q75.1) (by rfl) (by rfl) (by rfl) (by rfl) (by rfl) (by rfl) (by rfl) (R.rec (by rfl) (by rfl)) (Nat.le_of_ble_eq_true rfl) (Nat.le_of_ble_eq_true rfl) (F_137_ok R e75 (fun μ R => ⟨rfl, (?_ : jX G jP 204 728 lv [.int q75.1] μ Q)⟩))
        refine jX.li l5 (by rfl) (by rfl) (?_ : jX G jP 204 730 lv [.int q72.1, .int q75.1] μ Q)
        rcases bif_or h with ⟨hc, h⟩ | ⟨hc, h⟩
        · refine jX.b2t hc (by rfl) (by rfl) (by rfl) (?_ : jX G jP 204 735 lv [] μ Q)
          refine jX.li l5 (by rfl) (by rfl) (?_ : jX G jP 204 737 lv [.int q72.1] μ Q)
          rcases bif_or h with ⟨hc, h⟩ | ⟨hc, h⟩
          · refine jX.b1t hc (by rfl) (by rfl) (by rfl) (?_ : jX G jP 204 752 lv [] μ Q)
            exact F_204_752_ok ih K v4 _ _ _ l0 l1 l2 l3 l4 R h
          · refine jX.b1f hc (by rfl) (by rfl) (by rfl) (?_ : jX G jP 204 740 lv [] μ Q)
            refine jX.lrn l3 (by rfl) (by rfl) (?_ : jX G jP 204 741 lv [.ref (spl 64 0 0)] μ Q)
            refine jX.ic (v := nI 0) (n := 1) (by rfl) (by rfl) (by decide) (?_ : jX G jP 204 742 lv [.int (nI 0), .ref (spl 64 0 0)] μ Q)
            obtain ⟨g76, h⟩ := jif_some h
            refine jX.sal R (by rfl) (by rfl) (by rfl) (by rfl) g76 (?_ : jX G jP 204 743 lv [.long (q75.2.2.1 64 0 0 (nI 0).toNatClampNeg)] μ Q)
            refine jX.li l6 (by rfl) (by rfl) (?_ : jX G jP 204 745 lv [.int q74.1, .long (q75.2.2.1 64 0 0 (nI 0).toNatClampNeg)] μ Q)
            refine jX.go (by rfl) (by rfl) (by rfl) (?_ : jX G jP 204 746 lv [.long q74.1.toInt64, .long (q75.2.2.1 64 0 0 (nI 0).toNatClampNeg)] μ Q)
            refine jX.go (by rfl) (by rfl) (by rfl) (?_ : jX G jP 204 747 lv [.int (lg_cmp (q75.2.2.1 64 0 0 (nI 0).toNatClampNeg) q74.1.toInt64)] μ Q)
            rcases bif_or h with ⟨hc, h⟩ | ⟨hc, h⟩
            · refine jX.b1t hc (by rfl) (by rfl) (by rfl) (?_ : jX G jP 204 752 lv [] μ Q)
              exact F_204_752_ok ih K v4 _ _ _ l0 l1 l2 l3 l4 R h
            · refine jX.b1f hc (by rfl) (by rfl) (by rfl) (?_ : jX G jP 204 750 lv [] μ Q)
              refine jX.ic (v := nI 0) (n := 1) (by rfl) (by rfl) (by decide) (?_ : jX G jP 204 751 lv [.int (nI 0)] μ Q)
              exact jX.ret (by rfl) (by rfl) (by rfl) (by rfl) (sretv (f := srI) h K R)
        · refine jX.b2f hc (by rfl) (by rfl) (by rfl) (?_ : jX G jP 204 733 lv [] μ Q)
          refine jX.ic (v := nI 0) (n := 1) (by rfl) (by rfl) (by decide) (?_ : jX G jP 204 734 lv [.int (nI 0)] μ Q)
          exact jX.ret (by rfl) (by rfl) (by rfl) (by rfl) (sretv (f := srI) h K R)
      rcases bif_or h with ⟨hc, h⟩ | ⟨-, h⟩
      · refine jX.swn hc (by rfl) (by rfl) (by rfl) (?_ : jX G jP 204 755 lv [] μ Q)
        refine jX.lrn l1 (by rfl) (by rfl) (?_ : jX G jP 204 756 lv [.ref (spl 0 0 0)] μ Q)
        obtain ⟨q77, e77, h⟩ := sbd h
        refine jX.c1 (v := .long q77.1) (by rfl) (by rfl) (by rfl) (by rfl) (by rfl) (by rfl) (by rfl) (R.rec (by rfl) (by rfl)) (Nat.le_of_ble_eq_true rfl) (Nat.le_of_ble_eq_true rfl) (F_63_ok R e77 (fun μ R => ⟨rfl, (?_ : jX G jP 204 759 lv [.long q77.1] μ Q)⟩))
        refine jX.lrn l2 (by rfl) (by rfl) (?_ : jX G jP 204 760 lv [.ref (spl 33 0 0), .long q77.1] μ Q)
        obtain ⟨q78, e78, h⟩ := sbd h
        refine jX.c1 (v := .long q78.1) (by rfl) (by rfl) (by rfl) (by rfl) (by rfl) (by rfl) (by rfl) (R.rec (by rfl) (by rfl)) (Nat.le_of_ble_eq_true rfl) (Nat.le_of_ble_eq_true rfl) (F_201_ok R e78 (fun μ R => ⟨rfl, (?_ : jX G jP 204 763 lv [.long q78.1, .long q77.1] μ Q)⟩))
        refine jX.go (by rfl) (by rfl) (by rfl) (?_ : jX G jP 204 764 lv [.int (lg_cmp q77.1 q78.1)] μ Q)
        rcases bif_or h with ⟨hc, h⟩ | ⟨hc, h⟩
        · refine jX.b1t hc (by rfl) (by rfl) (by rfl) (?_ : jX G jP 204 795 lv [] μ Q)
          exact F_204_795_ok ih K v4 _ _ _ l0 l1 l2 l3 l4 R h
        · refine jX.b1f hc (by rfl) (by rfl) (by rfl) (?_ : jX G jP 204 767 lv [] μ Q)
          refine jX.ic (v := nI 0) (n := 1) (by rfl) (by rfl) (by decide) (?_ : jX G jP 204 768 lv [.int (nI 0)] μ Q)
          exact jX.ret (by rfl) (by rfl) (by rfl) (by rfl) (sretv (f := srI) h K R)
      rcases bif_or h with ⟨hc, h⟩ | ⟨-, h⟩
      · refine jX.swn hc (by rfl) (by rfl) (by rfl) (?_ : jX G jP 204 769 lv [] μ Q)
        refine jX.lrn l1 (by rfl) (by rfl) (?_ : jX G jP 204 770 lv [.ref (spl 0 0 0)] μ Q)
        obtain ⟨q79, e79, h⟩ := sbd h
        refine jX.c1 (v := .int q79.1) (by rfl) (by rfl) (by rfl) (by rfl) (by rfl) (by rfl) (by rfl) (R.rec (by rfl) (by rfl)) (Nat.le_of_ble_eq_true rfl) (Nat.le_of_ble_eq_true rfl) (F_53_ok R e79 (fun μ R => ⟨rfl, (?_ : jX G jP 204 773 lv [.int q79.1] μ Q)⟩))
        refine jX.lrn l2 (by rfl) (by rfl) (?_ : jX G jP 204 774 lv [.ref (spl 33 0 0), .int q79.1] μ Q)
        obtain ⟨q80, e80, h⟩ := sbd h
        refine jX.c1 (v := .int q80.1) (by rfl) (by rfl) (by rfl) (by rfl) (by rfl) (by rfl) (by rfl) (R.rec (by rfl) (by rfl)) (Nat.le_of_ble_eq_true rfl) (Nat.le_of_ble_eq_true rfl) (F_202_ok R e80 (fun μ R => ⟨rfl, (?_ : jX G jP 204 777 lv [.int q80.1, .int q79.1] μ Q)⟩))
        rcases bif_or h with ⟨hc, h⟩ | ⟨hc, h⟩
        · refine jX.b2t hc (by rfl) (by rfl) (by rfl) (?_ : jX G jP 204 795 lv [] μ Q)
          exact F_204_795_ok ih K v4 _ _ _ l0 l1 l2 l3 l4 R h
        · refine jX.b2f hc (by rfl) (by rfl) (by rfl) (?_ : jX G jP 204 780 lv [] μ Q)
          refine jX.ic (v := nI 0) (n := 1) (by rfl) (by rfl) (by decide) (?_ : jX G jP 204 781 lv [.int (nI 0)] μ Q)
          exact jX.ret (by rfl) (by rfl) (by rfl) (by rfl) (sretv (f := srI) h K R)
      rcases bif_or h with ⟨hc, h⟩ | ⟨-, h⟩
      · refine jX.swn hc (by rfl) (by rfl) (by rfl) (?_ : jX G jP 204 782 lv [] μ Q)
        refine jX.lrn l1 (by rfl) (by rfl) (?_ : jX G jP 204 783 lv [.ref (spl 0 0 0)] μ Q)
        obtain ⟨q81, e81, h⟩ := sbd h
        refine jX.c1 (v := .int q81.1) (by rfl) (by rfl) (by rfl) (by rfl) (by rfl) (by rfl) (by rfl) (R.rec (by rfl) (by rfl)) (Nat.le_of_ble_eq_true rfl) (Nat.le_of_ble_eq_true rfl) (F_45_ok R e81 (fun μ R => ⟨rfl, (?_ : jX G jP 204 786 lv [.int q81.1] μ Q)⟩))
        refine jX.lrn l2 (by rfl) (by rfl) (?_ : jX G jP 204 787 lv [.ref (spl 33 0 0), .int q81.1] μ Q)
        obtain ⟨q82, e82, h⟩ := sbd h
        refine jX.c1 (v := .int q82.1) (by rfl) (by rfl) (by rfl) (by rfl) (by rfl) (by rfl) (by rfl) (R.rec (by rfl) (by rfl)) (Nat.le_of_ble_eq_true rfl) (Nat.le_of_ble_eq_true rfl) (F_203_ok R e82 (fun μ R => ⟨rfl, (?_ : jX G jP 204 790 lv [.int q82.1, .int q81.1] μ Q)⟩))
        rcases bif_or h with ⟨hc, h⟩ | ⟨hc, h⟩
        · refine jX.b2t hc (by rfl) (by rfl) (by rfl) (?_ : jX G jP 204 795 lv [] μ Q)
          exact F_204_795_ok ih K v4 _ _ _ l0 l1 l2 l3 l4 R h
        · refine jX.b2f hc (by rfl) (by rfl) (by rfl) (?_ : jX G jP 204 793 lv [] μ Q)
          refine jX.ic (v := nI 0) (n := 1) (by rfl) (by rfl) (by decide) (?_ : jX G jP 204 794 lv [.int (nI 0)] μ Q)
          exact jX.ret (by rfl) (by rfl) (by rfl) (by rfl) (sretv (f := srI) h K R)
      cases h
