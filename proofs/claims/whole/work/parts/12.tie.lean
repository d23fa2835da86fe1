/-! The tie between the pure memory and the machine's heap: place i lies at address 'ad i'; given array k at 'g k'; kind k of arrays is the class 'kid k'. -/
def jtv (ad g : Nat → Nat) (v : Value) : Value := match v with
  | .ref i => .ref (ad i)
  | .float k => .ref (g k.toNat)
  | .int x => .int x
  | .long x => .long x
  | .null => .null
  | .double x => .double x
  | .retAddr x => .retAddr x
theorem jtv_cat (ad g : Nat → Nat) (v : Value) : (jtv ad g v).category = v.category := by cases v <;> rfl
def jcv (n : Nat) (v : Value) : Prop := match v with
  | .ref i => i < n
  | .float k => k.toNat < 3
  | _ => True
def jcs (n : Nat) : List Value → Prop
  | [] => True
  | v :: r => jcv n v ∧ jcs n r
theorem jcs_mem {n : Nat} {l : List Value} : jcs n l ↔ ∀ v ∈ l, jcv n v := by
  induction l with
  | nil => exact ⟨fun _ v h => (by cases h), fun _ => trivial⟩
  | cons a r ih =>
    constructor
    · intro h v hv
      rcases List.mem_cons.mp hv with rfl | hv
      · exact h.1
      · exact ih.mp h.2 v hv
    · intro h
      exact ⟨h a List.mem_cons_self, ih.mpr fun v hv => h v (List.mem_cons_of_mem _ hv)⟩
theorem jcv_mono {n n' : Nat} (h : n ≤ n') {v : Value} (hv : jcv n v) : jcv n' v := by
  cases v with
  | ref i => exact Nat.lt_of_lt_of_le hv h
  | float k => exact hv
  | _ => trivial
theorem jcs_mono {n n' : Nat} (h : n ≤ n') {l : List Value} (hv : jcs n l) : jcs n' l := jcs_mem.mpr fun v hm => jcv_mono h (jcs_mem.mp hv v hm)
theorem jcs_app {n : Nat} {l r : List Value} : jcs n (l ++ r) ↔ jcs n l ∧ jcs n r := by
  rw [jcs_mem, jcs_mem, jcs_mem]
  constructor
  · exact fun h => ⟨fun v hv => h v (List.mem_append_left _ hv), fun v hv => h v (List.mem_append_right _ hv)⟩
  · rintro ⟨h1, h2⟩ v hv
    rcases List.mem_append.mp hv with h | h
    · exact h1 v h
    · exact h2 v h
theorem jtv_eq {n : Nat} {ad ad' g : Nat → Nat} (h : ∀ i, i < n → ad' i = ad i) {v : Value} (hv : jcv n v) : jtv ad' g v = jtv ad g v := by
  cases v with
  | ref i => exact congrArg Value.ref (h i hv)
  | _ => rfl
theorem jtvs_eq {n : Nat} {ad ad' g : Nat → Nat} (h : ∀ i, i < n → ad' i = ad i) {l : List Value} (hv : jcs n l) : l.map (jtv ad' g) = l.map (jtv ad g) := List.map_congr_left fun v hm => jtv_eq h (jcs_mem.mp hv v hm)
/-- a cell as the machine has it -/
def jte (kid g ad : Nat → Nat) (e : va_E) : va_E := match e with
  | .inl (k, n, .inl f) => .inl (kid k, n, .inl f)
  | .inl (k, n, .inr (.inl f)) => .inl (kid k, n, .inr (.inl f))
  | .inl (k, n, .inr (.inr (.inl f))) => .inl (kid k, n, .inr (.inr (.inl f)))
  | .inl (k, n, .inr (.inr (.inr (.inl f)))) => .inl (kid k, n, .inr (.inr (.inr (.inl f))))
  | .inl (k, n, .inr (.inr (.inr (.inr f)))) => .inl (kid k, n, .inr (.inr (.inr (.inr fun i => (f i).map ad))))
  | .inr (c, fs) => .inr (c, fs.map (jtv ad g))
/-- a cell is of a kind, and its references lead to places that are there -/
def jce (ka : List Nat) (n : Nat) (e : va_E) : Prop := match e with
  | .inl (k, _, .inl _) => k = 0
  | .inl (k, _, .inr (.inl _)) => k = 1
  | .inl (_, _, .inr (.inr (.inl _))) => False
  | .inl (_, _, .inr (.inr (.inr (.inl _)))) => False
  | .inl (k, _, .inr (.inr (.inr (.inr f)))) => (∃ c, k = c + 2) ∧ k ∈ ka ∧ ∀ i x, f i = some x → x < n
  | .inr (_, fs) => jcs n fs
theorem jce_mono {ka : List Nat} {n n' : Nat} (h : n ≤ n') {e : va_E} (he : jce ka n e) : jce ka n' e := by
  rcases e with ⟨k, N, f | f | f | f | f⟩ | ⟨c, fs⟩
  · exact he
  · exact he
  · exact he
  · exact he
  · exact ⟨he.1, he.2.1, fun i x hx => Nat.lt_of_lt_of_le (he.2.2 i x hx) h⟩
  · exact jcs_mono h he
theorem jte_eq {ka : List Nat} {kid g ad ad' : Nat → Nat} {n : Nat} (h : ∀ i, i < n → ad' i = ad i) {e : va_E} (he : jce ka n e) : jte kid g ad' e = jte kid g ad e := by
  rcases e with ⟨k, N, f | f | f | f | f⟩ | ⟨c, fs⟩
  · rfl
  · rfl
  · rfl
  · rfl
  · have hf : (fun i => (f i).map ad') = (fun i => (f i).map ad) := by
      funext i
      cases hx : f i with
      | none => rfl
      | some x => exact congrArg some (h x (he.2.2 i x hx))
    show (Sum.inl (kid k, N, .inr (.inr (.inr (.inr fun i => (f i).map ad')))) : va_E) = _
    rw [hf]
    rfl
  · show (Sum.inr (c, fs.map (jtv ad' g)) : va_E) = .inr (c, fs.map (jtv ad g))
    rw [jtvs_eq h he]
def jcl (ka : List Nat) (μ : jS) : Prop := ∀ i, i < μ.2.1 → jce ka μ.2.1 (μ.1 i)
theorem jcl.w {ka : List Nat} {μ : jS} (h : jcl ka μ) {a : Nat} {e : va_E} (he : jce ka μ.2.1 e) : jcl ka (jw μ a e) := by
  intro i hi
  show jce ka μ.2.1 (va_up μ.1 a e i)
  by_cases q : i = a
  · subst q; rw [va_up_self]; exact he
  · rw [va_up_ne _ _ q]; exact h i hi
theorem jcl.new {ka : List Nat} {μ : jS} (h : jcl ka μ) {e : va_E} {k : Nat} (he : jce ka (μ.2.1 + 1) e) : jcl ka (jnew μ e k) := by
  intro i hi
  show jce ka (μ.2.1 + 1) (va_up μ.1 μ.2.1 e i)
  by_cases q : i = μ.2.1
  · subst q; rw [va_up_self]; exact he
  · rw [va_up_ne _ _ q]
    have hi' : i < μ.2.1 + 1 := hi
    exact jce_mono (Nat.le_succ _) (h i (by omega))
/-- the world -/
def jws (kid g ad : Nat → Nat) (μ : jS) : va_W := (List.range μ.2.1).map fun i => (ad i, jte kid g ad (μ.1 i))
theorem jws_get {kid g ad : Nat → Nat} {μ : jS} {i : Nat} (hi : i < μ.2.1) : (jws kid g ad μ)[i]? = some (ad i, jte kid g ad (μ.1 i)) := by
  simp [jws, List.getElem?_map, List.getElem?_range hi]
theorem jws_at {kid g ad : Nat → Nat} {μ : jS} {i : Nat} {e : va_E} (hi : i < μ.2.1) (he : μ.1 i = e) : (jws kid g ad μ)[i]? = some (ad i, jte kid g ad e) := by rw [jws_get hi, he]
theorem jws_set {kid g ad : Nat → Nat} {μ : jS} {i : Nat} {e : va_E} : (jws kid g ad μ).set i (ad i, jte kid g ad e) = jws kid g ad (jw μ i e) := by
  apply List.ext_getElem?
  intro k
  by_cases hk : k < μ.2.1
  · rw [jws_get (μ := jw μ i e) hk]
    by_cases q : k = i
    · subst q
      rw [List.getElem?_set_self (by simpa [jws] using hk)]
      show _ = some (ad k, jte kid g ad (va_up μ.1 k e k))
      rw [va_up_self]
    · rw [List.getElem?_set_ne (fun z => q z.symm), jws_get hk]
      show _ = some (ad k, jte kid g ad (va_up μ.1 i e k))
      rw [va_up_ne _ _ q]
  · rw [List.getElem?_eq_none (by simp [jws]; omega), List.getElem?_eq_none (by simp [jws, jw]; omega)]
theorem jws_new {ka : List Nat} {kid g ad : Nat → Nat} {μ : jS} (hc : jcl ka μ) (q : Nat) (e : va_E) (k : Nat) : jws kid g (va_up ad μ.2.1 q) (jnew μ e k) = jws kid g ad μ ++ [(q, jte kid g (va_up ad μ.2.1 q) e)] := by
  have h : ∀ i, i < μ.2.1 → va_up ad μ.2.1 q i = ad i := fun i hi => va_up_ne _ _ (Nat.ne_of_lt hi)
  show (List.range (μ.2.1 + 1)).map _ = _
  rw [List.range_succ, List.map_append]
  congr 1
  · apply List.map_congr_left
    intro i hi
    have hi := List.mem_range.mp hi
    show (va_up ad μ.2.1 q i, jte kid g (va_up ad μ.2.1 q) (va_up μ.1 μ.2.1 e i)) = _
    rw [va_up_ne _ _ (Nat.ne_of_lt hi), va_up_ne _ _ (Nat.ne_of_lt hi), jte_eq h (hc i hi)]
  · show [(va_up ad μ.2.1 q μ.2.1, jte kid g (va_up ad μ.2.1 q) (va_up μ.1 μ.2.1 e μ.2.1))] = _
    rw [va_up_self, va_up_self]
/-- the locals -/
def jlt (ad g : Nat → Nat) (lv : jL) : jL := lv.map fun q => (q.1, jtv ad g q.2)
theorem jld_mem {lv : jL} {i : Nat} {v : Value} (h : jld lv i = some v) : (i, v) ∈ lv := by
  induction lv with
  | nil => cases h
  | cons q r ih =>
    unfold jld at h
    cases hb : Nat.beq q.1 i with
    | true =>
      rw [hb] at h
      have e : q.1 = i := Nat.eq_of_beq_eq_true hb
      have e2 : q.2 = v := Option.some.inj h
      have : q = (i, v) := by rw [← e, ← e2]
      rw [this]
      exact List.mem_cons_self
    | false =>
      rw [hb] at h
      exact List.mem_cons_of_mem _ (ih h)
theorem jlt_at {ad g : Nat → Nat} {lv : jL} {ls : Array Slot} {nL i : Nat} {v : Value} (h : lv_has ls nL (jlt ad g lv)) (hv : jld lv i = some v) : ls[i]? = some (.val (jtv ad g v)) :=
  h.2.2 (i, jtv ad g v) (List.mem_map.mpr ⟨(i, v), jld_mem hv, rfl⟩)
theorem jlt_filter (ad g : Nat → Nat) (lv : jL) (P : Nat → Nat → Bool) : (jlt ad g lv).filter (fun q => P q.1 q.2.category) = jlt ad g (lv.filter (fun q => P q.1 q.2.category)) := by
  unfold jlt
  rw [List.filter_map]
  congr 1
  apply List.filter_congr
  intro q _
  show P q.1 (jtv ad g q.2).category = P q.1 q.2.category
  rw [jtv_cat]
theorem jlt_s1 (ad g : Nat → Nat) (lv : jL) (i : Nat) (v : Value) : (i, jtv ad g v) :: (jlt ad g lv).filter (fun q => !(q.1 == i) && !(q.1 + 1 == i && q.2.category == 2)) = jlt ad g (js1 lv i v) := by
  rw [jlt_filter ad g lv (fun a b => !(a == i) && !(a + 1 == i && b == 2))]
  rfl
theorem jlt_s2 (ad g : Nat → Nat) (lv : jL) (i : Nat) (v : Value) : (i, jtv ad g v) :: (jlt ad g lv).filter (fun q => !(q.1 == i) && (!(q.1 == i + 1) && !(q.1 + 1 == i && q.2.category == 2))) = jlt ad g (js2 lv i v) := by
  rw [jlt_filter ad g lv (fun a b => !(a == i) && (!(a == i + 1) && !(a + 1 == i && b == 2)))]
  rfl
def jcw (n : Nat) (lv : jL) : Prop := ∀ q ∈ lv, jcv n q.2
theorem jcw.s1 {n : Nat} {lv : jL} (h : jcw n lv) (i : Nat) {v : Value} (hv : jcv n v) : jcw n (js1 lv i v) := by
  intro q hq
  rcases List.mem_cons.mp hq with rfl | hq
  · exact hv
  · exact h q (List.mem_filter.mp hq).1
theorem jcw.s2 {n : Nat} {lv : jL} (h : jcw n lv) (i : Nat) {v : Value} (hv : jcv n v) : jcw n (js2 lv i v) := by
  intro q hq
  rcases List.mem_cons.mp hq with rfl | hq
  · exact hv
  · exact h q (List.mem_filter.mp hq).1
theorem jcw.drop {n : Nat} {lv : jL} (h : jcw n lv) (k : Nat) : jcw n (jdrop lv k) := fun q hq => h q (List.mem_filter.mp hq).1
theorem jcw.mono {n n' : Nat} (h : n ≤ n') {lv : jL} (hl : jcw n lv) : jcw n' lv := fun q hq => jcv_mono h (hl q hq)
theorem jcw.ld {n : Nat} {lv : jL} (h : jcw n lv) {i : Nat} {v : Value} (hv : jld lv i = some v) : jcv n v := h (i, v) (jld_mem hv)
theorem jlt_eq {n : Nat} {ad ad' g : Nat → Nat} (h : ∀ i, i < n → ad' i = ad i) {lv : jL} (hl : jcw n lv) : jlt ad' g lv = jlt ad g lv := List.map_congr_left fun q hq => by rw [jtv_eq h (hl q hq)]
theorem jfit_tv {k : Nat} {v : Value} (ad g : Nat → Nat) (h : jfit k v = true) : jfit k (jtv ad g v) = true := by
  cases v with
  | float x => cases h
  | _ => exact h
/-- all that a point of a body's walk carries -/
def jCx (D : va_G) (cl : List vw_C) (kid g : Nat → Nat) (base : Nat) (ka : List Nat) (s : State) (nL k0 z0 n0 : Nat) (ad0 : Nat → Nat) (lv : jL) (st : List Value) (μ : jS) (H : Heap) (locs : List Loc) (cells slots : Nat) (ls : Array Slot) (ad : Nat → Nat) : Prop :=
  lv_has ls nL (jlt ad g lv) ∧ jcw μ.2.1 lv ∧ jcs μ.2.1 st ∧ va_P D cl (jws kid g ad μ) H ∧ va_D (fun q => base ≤ q) (jws kid g ad μ) ∧ jcl ka μ ∧ va_S (fun q => base ≤ q) s.heap H locs ∧ μ.2.2.1 = k0 + cells ∧ μ.2.2.2 = z0 + slots ∧ n0 ≤ μ.2.1 ∧ ∀ i, i < n0 → ad i = ad0 i
/-- the machine's goal at a point of the pure machine -/
def jWg (p : Program) (l : Launch) (e : Env) (R : Room) (s : State) (m : MethodId) (args : Array Value) (below : List Frame) (meth : Method) (c : Code) (Q : State → Prop) (D : va_G) (cl : List vw_C) (kid g : Nat → Nat) (base : Nat) (ka : List Nat) (nL k0 z0 n0 : Nat) (ad0 : Nat → Nat) (pc : Nat) (lv : jL) (st : List Value) (μ : jS) : Prop :=
  ∀ (H : Heap) (locs : List Loc) (cells slots : Nat) (ls : Array Slot) (ad : Nat → Nat), jCx D cl kid g base ka s nL k0 z0 n0 ad0 lv st μ H locs cells slots ls ad → W p l e R s m args below meth c H locs cells slots Q (F0 m pc ls (st.map (jtv ad g)))
section CX
variable {D : va_G} {cl : List vw_C} {kid g : Nat → Nat} {base : Nat} {ka : List Nat} {s : State} {nL k0 z0 n0 : Nat} {ad0 : Nat → Nat} {lv : jL} {st : List Value} {μ : jS} {H : Heap} {locs : List Loc} {cells slots : Nat} {ls : Array Slot} {ad : Nat → Nat}
theorem jCx.sta {st' : List Value} (X : jCx D cl kid g base ka s nL k0 z0 n0 ad0 lv st μ H locs cells slots ls ad) (h : jcs μ.2.1 st') : jCx D cl kid g base ka s nL k0 z0 n0 ad0 lv st' μ H locs cells slots ls ad :=
  ⟨X.1, X.2.1, h, X.2.2.2⟩
theorem jCx.loc {lv' : jL} {st' : List Value} {ls' : Array Slot} (X : jCx D cl kid g base ka s nL k0 z0 n0 ad0 lv st μ H locs cells slots ls ad) (h1 : lv_has ls' nL (jlt ad g lv')) (h2 : jcw μ.2.1 lv') (h : jcs μ.2.1 st') : jCx D cl kid g base ka s nL k0 z0 n0 ad0 lv' st' μ H locs cells slots ls' ad :=
  ⟨h1, h2, h, X.2.2.2⟩
/-- a cell was written -/
theorem jCx.put {st' : List Value} {a : Nat} {e : va_E} {H1 : Heap} {locs1 : List Loc} (X : jCx D cl kid g base ka s nL k0 z0 n0 ad0 lv st μ H locs cells slots ls ad) (h : jcs μ.2.1 st') (he : jce ka μ.2.1 e) (hP : va_P D cl ((jws kid g ad μ).set a (ad a, jte kid g ad e)) H1) (hD : va_D (fun q => base ≤ q) ((jws kid g ad μ).set a (ad a, jte kid g ad e))) (hS : va_S (fun q => base ≤ q) s.heap H1 locs1) : jCx D cl kid g base ka s nL k0 z0 n0 ad0 lv st' (jw μ a e) H1 locs1 cells slots ls ad := by
  rw [jws_set] at hP hD
  exact ⟨X.1, X.2.1, h, hP, hD, X.2.2.2.2.2.1.w he, hS, X.2.2.2.2.2.2.2⟩
/-- a cell was made -/
theorem jCx.new {st' : List Value} {e : va_E} {k q : Nat} {H1 : Heap} (X : jCx D cl kid g base ka s nL k0 z0 n0 ad0 lv st μ H locs cells slots ls ad) (h : jcs (μ.2.1 + 1) st') (he : jce ka (μ.2.1 + 1) e) (hP : va_P D cl (jws kid g ad μ ++ [(q, jte kid g (va_up ad μ.2.1 q) e)]) H1) (hD : va_D (fun q => base ≤ q) (jws kid g ad μ ++ [(q, jte kid g (va_up ad μ.2.1 q) e)])) (hS : va_S (fun q => base ≤ q) s.heap H1 locs) : jCx D cl kid g base ka s nL k0 z0 n0 ad0 lv st' (jnew μ e k) H1 locs (cells + 1) (slots + k) ls (va_up ad μ.2.1 q) := by
  obtain ⟨x1, x2, x3, x4, x5, x6, x7, x8, x9, x10, x11⟩ := X
  have hu : ∀ i, i < μ.2.1 → va_up ad μ.2.1 q i = ad i := fun i hi => va_up_ne _ _ (Nat.ne_of_lt hi)
  rw [← jws_new x6 q e k] at hP hD
  refine ⟨?_, x2.mono (Nat.le_succ _), h, hP, hD, x6.new he, hS, ?_, ?_, Nat.le_trans x10 (Nat.le_succ _), fun i hi => (hu i (Nat.lt_of_lt_of_le hi x10)).trans (x11 i hi)⟩
  · rw [jlt_eq hu x2]; exact x1
  · show μ.2.2.1 + 1 = _; omega
  · show μ.2.2.2 + k = _; omega
end CX
