/-! Rows again, with numbers that are known to be small and not negative (nI k). -/
section JXN
variable {G : jG} {P : jT} {j pc : Nat} {lv : jL} {st : List Value} {μ : jS} {Q : Option Value ⊕ Nat → jS → Prop}
theorem jX.pfs {k c f kd a : Nat} {fin : Bool} {fs fs' : List Value} {v : Value} (hX : P.2.1 j pc = none) (hI : P.1 j pc = some (.putfield k)) (hB : (P.2.2.2.2.1 j).1 k = some (c, f, kd, fin)) (hm : μ.1 a = .inr (c, fs)) (hs : fs.set f v = fs') (hf : Nat.blt f fs.length = true) (hk : jfit kd v = true) (hF : (!fin || (P.2.2.2.2.1 j).2.2.2.2.2.2) = true) (K : jX G P j (pc + 3) lv st (jw μ a (.inr (c, fs'))) Q) : jX G P j pc lv (v :: .ref a :: st) μ Q := by
  subst hs
  exact jX.pf hX hI hB hm (Nat.le_of_ble_eq_true hf) hk hF K
theorem jX.ialdN {a k n i : Nat} {f : Nat → Int32} (hX : P.2.1 j pc = none) (hI : P.1 j pc = some .iaload) (hm : μ.1 a = .inl (k, n, .inl f)) (hn : n < 2 ^ 31) (hi : i < n) (K : jX G P j (pc + 1) lv (.int (f i) :: st) μ Q) : jX G P j pc lv (.int (nI i) :: .ref a :: st) μ Q := by
  refine jX.iald hX hI hm (vp_in_nI hi hn) ?_
  rw [nI_clamp (by omega)]
  exact K
theorem jX.laldN {a k n i : Nat} {f : Nat → Int64} (hX : P.2.1 j pc = none) (hI : P.1 j pc = some .laload) (hm : μ.1 a = .inl (k, n, .inr (.inl f))) (hn : n < 2 ^ 31) (hi : i < n) (K : jX G P j (pc + 1) lv (.long (f i) :: st) μ Q) : jX G P j pc lv (.int (nI i) :: .ref a :: st) μ Q := by
  refine jX.lald hX hI hm (vp_in_nI hi hn) ?_
  rw [nI_clamp (by omega)]
  exact K
theorem jX.aaldN {a k n i : Nat} {f : Nat → Option Nat} (hX : P.2.1 j pc = none) (hI : P.1 j pc = some .aaload) (hm : μ.1 a = .inl (k, n, .inr (.inr (.inr (.inr f))))) (hn : n < 2 ^ 31) (hi : i < n) (K : jX G P j (pc + 1) lv (va_rf (f i) :: st) μ Q) : jX G P j pc lv (.int (nI i) :: .ref a :: st) μ Q := by
  refine jX.aald hX hI hm (vp_in_nI hi hn) ?_
  rw [nI_clamp (by omega)]
  exact K
theorem jX.iastN {a k n i : Nat} {x : Int32} {f : Nat → Int32} (hX : P.2.1 j pc = none) (hI : P.1 j pc = some .iastore) (hm : μ.1 a = .inl (k, n, .inl f)) (hn : n < 2 ^ 31) (hi : i < n) (K : jX G P j (pc + 1) lv st (jw μ a (.inl (k, n, .inl (upd f i x)))) Q) : jX G P j pc lv (.int x :: .int (nI i) :: .ref a :: st) μ Q := by
  refine jX.iast hX hI hm (vp_in_nI hi hn) ?_
  rw [nI_clamp (by omega)]
  exact K
theorem jX.lastN {a k n i : Nat} {x : Int64} {f : Nat → Int64} (hX : P.2.1 j pc = none) (hI : P.1 j pc = some .lastore) (hm : μ.1 a = .inl (k, n, .inr (.inl f))) (hn : n < 2 ^ 31) (hi : i < n) (K : jX G P j (pc + 1) lv st (jw μ a (.inl (k, n, .inr (.inl (vp_updL f i x))))) Q) : jX G P j pc lv (.long x :: .int (nI i) :: .ref a :: st) μ Q := by
  refine jX.last hX hI hm (vp_in_nI hi hn) ?_
  rw [nI_clamp (by omega)]
  exact K
theorem jX.aastN {a b d n i : Nat} {fs : List Value} {f : Nat → Option Nat} (hX : P.2.1 j pc = none) (hI : P.1 j pc = some .aastore) (hm : μ.1 a = .inl (d + 2, n, .inr (.inr (.inr (.inr f))))) (hb : μ.1 b = .inr (d, fs)) (hn : n < 2 ^ 31) (hi : i < n) (K : jX G P j (pc + 1) lv st (jw μ a (.inl (d + 2, n, .inr (.inr (.inr (.inr (va_up f i (some b)))))))) Q) : jX G P j pc lv (.ref b :: .int (nI i) :: .ref a :: st) μ Q := by
  refine jX.aast hX hI hm hb (vp_in_nI hi hn) ?_
  rw [nI_clamp (by omega)]
  exact K
/-- a new array of a known length -/
theorem jX.newiN {n : Nat} (hX : P.2.1 j pc = none) (hI : P.1 j pc = some (.newarray .int)) (hn : n < 2 ^ 31) (K : jX G P j (pc + 2) lv (.ref μ.2.1 :: st) (jnew μ (.inl (0, n, .inl fun _ => 0)) n) Q) : jX G P j pc lv (.int (nI n) :: st) μ Q := by
  refine jX.newi hX hI (nI_pos hn) ?_
  rw [nI_clamp hn]
  exact K
theorem jX.newlN {n : Nat} (hX : P.2.1 j pc = none) (hI : P.1 j pc = some (.newarray .long)) (hn : n < 2 ^ 31) (K : jX G P j (pc + 2) lv (.ref μ.2.1 :: st) (jnew μ (.inl (1, n, .inr (.inl fun _ => 0))) n) Q) : jX G P j pc lv (.int (nI n) :: st) μ Q := by
  refine jX.newl hX hI (nI_pos hn) ?_
  rw [nI_clamp hn]
  exact K
theorem jX.newqN {n k c : Nat} (hX : P.2.1 j pc = none) (hI : P.1 j pc = some (.anewarray k)) (hB : (P.2.2.2.2.1 j).2.2.1 k = some c) (hn : n < 2 ^ 31) (K : jX G P j (pc + 3) lv (.ref μ.2.1 :: st) (jnew μ (.inl (c, n, .inr (.inr (.inr (.inr fun _ => none))))) n) Q) : jX G P j pc lv (.int (nI n) :: st) μ Q := by
  refine jX.newq hX hI hB (nI_pos hn) ?_
  rw [nI_clamp hn]
  exact K
/-- two small numbers held against each other -/
theorem jX.geN {off : Int} {t a b : Nat} (hX : P.2.1 j pc = none) (hI : P.1 j pc = some (.if_icmp .ge off)) (ht : jtg pc off = some t) (ha : a < 2 ^ 31) (hb : b < 2 ^ 31) (kt : b ≤ a → jX G P j t lv st μ Q) (kf : a < b → jX G P j (pc + 3) lv st μ Q) : jX G P j pc lv (.int (nI b) :: .int (nI a) :: st) μ Q :=
  jX.if2 hX hI ht (fun h => kt ((nI_leI hb ha).mp (of_decide_eq_true h))) (fun h => kf (Nat.not_le.mp fun z => of_decide_eq_false h ((nI_leI hb ha).mpr z)))
theorem jX.ltN {off : Int} {t a b : Nat} (hX : P.2.1 j pc = none) (hI : P.1 j pc = some (.if_icmp .lt off)) (ht : jtg pc off = some t) (ha : a < 2 ^ 31) (hb : b < 2 ^ 31) (kt : a < b → jX G P j t lv st μ Q) (kf : b ≤ a → jX G P j (pc + 3) lv st μ Q) : jX G P j pc lv (.int (nI b) :: .int (nI a) :: st) μ Q :=
  jX.if2 hX hI ht (fun h => kt ((nI_ltI ha hb).mp (of_decide_eq_true h))) (fun h => kf (Nat.not_lt.mp fun z => of_decide_eq_false h ((nI_ltI ha hb).mpr z)))
theorem jX.gtN {off : Int} {t a b : Nat} (hX : P.2.1 j pc = none) (hI : P.1 j pc = some (.if_icmp .gt off)) (ht : jtg pc off = some t) (ha : a < 2 ^ 31) (hb : b < 2 ^ 31) (kt : b < a → jX G P j t lv st μ Q) (kf : a ≤ b → jX G P j (pc + 3) lv st μ Q) : jX G P j pc lv (.int (nI b) :: .int (nI a) :: st) μ Q :=
  jX.if2 hX hI ht (fun h => kt ((nI_ltI hb ha).mp (of_decide_eq_true h))) (fun h => kf (Nat.not_lt.mp fun z => of_decide_eq_false h ((nI_ltI hb ha).mpr z)))
theorem jX.leN {off : Int} {t a b : Nat} (hX : P.2.1 j pc = none) (hI : P.1 j pc = some (.if_icmp .le off)) (ht : jtg pc off = some t) (ha : a < 2 ^ 31) (hb : b < 2 ^ 31) (kt : a ≤ b → jX G P j t lv st μ Q) (kf : b < a → jX G P j (pc + 3) lv st μ Q) : jX G P j pc lv (.int (nI b) :: .int (nI a) :: st) μ Q :=
  jX.if2 hX hI ht (fun h => kt ((nI_leI ha hb).mp (of_decide_eq_true h))) (fun h => kf (Nat.not_le.mp fun z => of_decide_eq_false h ((nI_leI ha hb).mpr z)))
theorem jX.neN {off : Int} {t a b : Nat} (hX : P.2.1 j pc = none) (hI : P.1 j pc = some (.if_icmp .ne off)) (ht : jtg pc off = some t) (ha : a < 2 ^ 31) (hb : b < 2 ^ 31) (kt : a ≠ b → jX G P j t lv st μ Q) (kf : a = b → jX G P j (pc + 3) lv st μ Q) : jX G P j pc lv (.int (nI b) :: .int (nI a) :: st) μ Q :=
  jX.if2 hX hI ht (fun h => kt fun z => of_decide_eq_true h ((nI_eq ha hb).mpr z)) (fun h => kf (by
    have h1 : ¬ ¬ nI a = nI b := of_decide_eq_false h
    exact (nI_eq ha hb).mp (Classical.not_not.mp h1)))
end JXN
/-- how a memory differs from another: only at some places; as many places, as much made -/
def jsm (S : List Nat) (μ μ' : jS) : Prop := μ'.2 = μ.2 ∧ ∀ q, q ∉ S → μ'.1 q = μ.1 q
theorem jsm.refl (S : List Nat) (μ : jS) : jsm S μ μ := ⟨rfl, fun _ _ => rfl⟩
theorem jsm.trans {S : List Nat} {μ μ' μ'' : jS} (h : jsm S μ μ') (k : jsm S μ' μ'') : jsm S μ μ'' := ⟨k.1.trans h.1, fun q hq => (k.2 q hq).trans (h.2 q hq)⟩
theorem jsm.w {S : List Nat} {μ : jS} {a : Nat} {e : va_E} (h : a ∈ S) : jsm S μ (jw μ a e) := ⟨rfl, fun q hq => jw_ne fun z => hq (z ▸ h)⟩
theorem jsm.wt {S : List Nat} {μ μ' : jS} {a : Nat} {e : va_E} (k : jsm S μ μ') (h : a ∈ S) : jsm S μ (jw μ' a e) := k.trans (jsm.w h)
theorem jsm.up {S T : List Nat} {μ μ' : jS} (h : jsm S μ μ') (hs : ∀ q ∈ S, q ∈ T) : jsm T μ μ' := ⟨h.1, fun q hq => h.2 q fun z => hq (hs q z)⟩
