/-! Rows for walking the pure machine, an instruction a row, the state's parts by themselves. -/
section JXR
variable {G : jG} {P : jT} {j pc : Nat} {lv : jL} {st : List Value} {μ : jS} {Q : Option Value ⊕ Nat → jS → Prop}
theorem jX.go {i : Instr} {pc' : Nat} {lv' : jL} {st' : List Value} {μ' : jS} (hX : P.2.1 j pc = none) (hI : P.1 j pc = some i) (hs : jstep G (P.2.2.2.2.1 j) i pc lv st μ = some (pc', lv', st', μ')) (k : jX G P j pc' lv' st' μ' Q) : jX G P j pc lv st μ Q := jX.nx hX hI hs k
theorem jX.gf {k c f kd a : Nat} {fin : Bool} {fs : List Value} {v : Value} (hX : P.2.1 j pc = none) (hI : P.1 j pc = some (.getfield k)) (hB : (P.2.2.2.2.1 j).1 k = some (c, f, kd, fin)) (hm : μ.1 a = .inr (c, fs)) (hv : fs[f]? = some v) (K : jX G P j (pc + 3) lv (v :: st) μ Q) : jX G P j pc lv (.ref a :: st) μ Q :=
  jX.go hX hI (by simp only [jstep, hB, hm, hv]; exact jif_true (Nat.beq_refl c)) K
theorem jX.pf {k c f kd a : Nat} {fin : Bool} {fs : List Value} {v : Value} (hX : P.2.1 j pc = none) (hI : P.1 j pc = some (.putfield k)) (hB : (P.2.2.2.2.1 j).1 k = some (c, f, kd, fin)) (hm : μ.1 a = .inr (c, fs)) (hf : f < fs.length) (hk : jfit kd v = true) (hF : (!fin || (P.2.2.2.2.1 j).2.2.2.2.2.2) = true) (K : jX G P j (pc + 3) lv st (jw μ a (.inr (c, fs.set f v))) Q) : jX G P j pc lv (v :: .ref a :: st) μ Q :=
  jX.go hX hI (by simp only [jstep, hB, hm]; exact jif_true (by rw [Nat.beq_refl c, show Nat.blt f fs.length = true from Nat.ble_eq_true_of_le hf, hk, hF]; rfl)) K
theorem jX.alen {a k n : Nat} {x : (Nat → Int32) ⊕ (Nat → Int64) ⊕ (Nat → UInt32) ⊕ (Nat → UInt64) ⊕ (Nat → Option Nat)} (hX : P.2.1 j pc = none) (hI : P.1 j pc = some .arraylength) (hm : μ.1 a = .inl (k, n, x)) (K : jX G P j (pc + 1) lv (.int (Int32.ofNat n) :: st) μ Q) : jX G P j pc lv (.ref a :: st) μ Q :=
  jX.go hX hI (by simp only [jstep, hm]) K
theorem jin_of {i : Int32} {n : Nat} (h : vp_in i n) : jin i n = true := decide_eq_true h
theorem jX.iald {a k n : Nat} {i : Int32} {f : Nat → Int32} (hX : P.2.1 j pc = none) (hI : P.1 j pc = some .iaload) (hm : μ.1 a = .inl (k, n, .inl f)) (hi : vp_in i n) (K : jX G P j (pc + 1) lv (.int (f i.toNatClampNeg) :: st) μ Q) : jX G P j pc lv (.int i :: .ref a :: st) μ Q :=
  jX.go hX hI (by simp only [jstep, hm]; exact jif_true (jin_of hi)) K
theorem jX.iag {i : Int32} {x : UInt32} (hX : P.2.1 j pc = none) (hI : P.1 j pc = some .iaload) (hi : vp_in i (G x.toNat).1) (K : jX G P j (pc + 1) lv (.int ((G x.toNat).2 i.toNatClampNeg) :: st) μ Q) : jX G P j pc lv (.int i :: .float x :: st) μ Q :=
  jX.go hX hI (by simp only [jstep]; exact jif_true (jin_of hi)) K
theorem jX.lald {a k n : Nat} {i : Int32} {f : Nat → Int64} (hX : P.2.1 j pc = none) (hI : P.1 j pc = some .laload) (hm : μ.1 a = .inl (k, n, .inr (.inl f))) (hi : vp_in i n) (K : jX G P j (pc + 1) lv (.long (f i.toNatClampNeg) :: st) μ Q) : jX G P j pc lv (.int i :: .ref a :: st) μ Q :=
  jX.go hX hI (by simp only [jstep, hm]; exact jif_true (jin_of hi)) K
theorem jX.aald {a k n : Nat} {i : Int32} {f : Nat → Option Nat} (hX : P.2.1 j pc = none) (hI : P.1 j pc = some .aaload) (hm : μ.1 a = .inl (k, n, .inr (.inr (.inr (.inr f))))) (hi : vp_in i n) (K : jX G P j (pc + 1) lv (va_rf (f i.toNatClampNeg) :: st) μ Q) : jX G P j pc lv (.int i :: .ref a :: st) μ Q :=
  jX.go hX hI (by simp only [jstep, hm]; exact jif_true (jin_of hi)) K
theorem jX.iast {a k n : Nat} {i x : Int32} {f : Nat → Int32} (hX : P.2.1 j pc = none) (hI : P.1 j pc = some .iastore) (hm : μ.1 a = .inl (k, n, .inl f)) (hi : vp_in i n) (K : jX G P j (pc + 1) lv st (jw μ a (.inl (k, n, .inl (upd f i.toNatClampNeg x)))) Q) : jX G P j pc lv (.int x :: .int i :: .ref a :: st) μ Q :=
  jX.go hX hI (by simp only [jstep, hm]; exact jif_true (jin_of hi)) K
theorem jX.last {a k n : Nat} {i : Int32} {x : Int64} {f : Nat → Int64} (hX : P.2.1 j pc = none) (hI : P.1 j pc = some .lastore) (hm : μ.1 a = .inl (k, n, .inr (.inl f))) (hi : vp_in i n) (K : jX G P j (pc + 1) lv st (jw μ a (.inl (k, n, .inr (.inl (vp_updL f i.toNatClampNeg x))))) Q) : jX G P j pc lv (.long x :: .int i :: .ref a :: st) μ Q :=
  jX.go hX hI (by simp only [jstep, hm]; exact jif_true (jin_of hi)) K
theorem jX.aast {a b d n : Nat} {i : Int32} {fs : List Value} {f : Nat → Option Nat} (hX : P.2.1 j pc = none) (hI : P.1 j pc = some .aastore) (hm : μ.1 a = .inl (d + 2, n, .inr (.inr (.inr (.inr f))))) (hb : μ.1 b = .inr (d, fs)) (hi : vp_in i n) (K : jX G P j (pc + 1) lv st (jw μ a (.inl (d + 2, n, .inr (.inr (.inr (.inr (va_up f i.toNatClampNeg (some b)))))))) Q) : jX G P j pc lv (.ref b :: .int i :: .ref a :: st) μ Q :=
  jX.go hX hI (by simp only [jstep, hm, hb]; exact jif_true (by rw [jin_of hi, Nat.beq_refl]; rfl)) K
theorem jX.newi {n : Int32} (hX : P.2.1 j pc = none) (hI : P.1 j pc = some (.newarray .int)) (hn : ¬ n < 0) (K : jX G P j (pc + 2) lv (.ref μ.2.1 :: st) (jnew μ (.inl (0, n.toNatClampNeg, .inl fun _ => 0)) n.toNatClampNeg) Q) : jX G P j pc lv (.int n :: st) μ Q :=
  jX.go hX hI (by simp only [jstep]; exact jif_true (decide_eq_true hn)) K
theorem jX.newl {n : Int32} (hX : P.2.1 j pc = none) (hI : P.1 j pc = some (.newarray .long)) (hn : ¬ n < 0) (K : jX G P j (pc + 2) lv (.ref μ.2.1 :: st) (jnew μ (.inl (1, n.toNatClampNeg, .inr (.inl fun _ => 0))) n.toNatClampNeg) Q) : jX G P j pc lv (.int n :: st) μ Q :=
  jX.go hX hI (by simp only [jstep]; exact jif_true (decide_eq_true hn)) K
theorem jX.newq {n : Int32} {k c : Nat} (hX : P.2.1 j pc = none) (hI : P.1 j pc = some (.anewarray k)) (hB : (P.2.2.2.2.1 j).2.2.1 k = some c) (hn : ¬ n < 0) (K : jX G P j (pc + 3) lv (.ref μ.2.1 :: st) (jnew μ (.inl (c, n.toNatClampNeg, .inr (.inr (.inr (.inr fun _ => none))))) n.toNatClampNeg) Q) : jX G P j pc lv (.int n :: st) μ Q :=
  jX.go hX hI (by simp only [jstep, hB]; exact jif_true (decide_eq_true hn)) K
theorem jX.newo {k c : Nat} {fs : List Value} (hX : P.2.1 j pc = none) (hI : P.1 j pc = some (.new k)) (hB : (P.2.2.2.2.1 j).2.1 k = some (c, fs)) (K : jX G P j (pc + 3) lv (.ref μ.2.1 :: st) (jnew μ (.inr (c, fs)) fs.length) Q) : jX G P j pc lv st μ Q :=
  jX.go hX hI (by simp only [jstep, hB]) K
theorem jX.if1 {c : ClassFile.Cond} {off : Int} {t : Nat} {x : Int32} (hX : P.2.1 j pc = none) (hI : P.1 j pc = some (.ifCond c off)) (ht : jtg pc off = some t) (kt : jcmp c x 0 = true → jX G P j t lv st μ Q) (kf : jcmp c x 0 = false → jX G P j (pc + 3) lv st μ Q) : jX G P j pc lv (.int x :: st) μ Q := by
  cases h : jcmp c x 0 with
  | true => exact jX.go hX hI (by simp only [jstep, ht, h]; rfl) (kt h)
  | false => exact jX.go hX hI (by simp only [jstep, ht, h]; rfl) (kf h)
theorem jX.if2 {c : ClassFile.Cond} {off : Int} {t : Nat} {x y : Int32} (hX : P.2.1 j pc = none) (hI : P.1 j pc = some (.if_icmp c off)) (ht : jtg pc off = some t) (kt : jcmp c x y = true → jX G P j t lv st μ Q) (kf : jcmp c x y = false → jX G P j (pc + 3) lv st μ Q) : jX G P j pc lv (.int y :: .int x :: st) μ Q := by
  cases h : jcmp c x y with
  | true => exact jX.go hX hI (by simp only [jstep, ht, h]; rfl) (kt h)
  | false => exact jX.go hX hI (by simp only [jstep, ht, h]; rfl) (kf h)
end JXR
theorem jw_self {μ : jS} {a : Nat} {e : va_E} : (jw μ a e).1 a = e := va_up_self _ _ _
theorem jw_ne {μ : jS} {a b : Nat} {e : va_E} (h : b ≠ a) : (jw μ a e).1 b = μ.1 b := va_up_ne _ _ h
theorem jnew_self {μ : jS} {e : va_E} {n : Nat} : (jnew μ e n).1 μ.2.1 = e := va_up_self _ _ _
theorem jnew_ne {μ : jS} {b : Nat} {e : va_E} {n : Nat} (h : b ≠ μ.2.1) : (jnew μ e n).1 b = μ.1 b := va_up_ne _ _ h
