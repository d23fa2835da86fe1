/-! Contracts whose end may be a throw; the environment that every method stands in; what the tables must say. -/
def jFE (s t : State) (L : List Loc) (mc ms : Nat) : Prop := s.WarmedH t.vm ∧ s.sameButNew ({ t with vm := s.vm } : State) L mc ms
def jMQ (below : List Frame) (Qc : Array Value → State → Outcome → State → Prop) (a : Array Value) (s : State) (mc ms : Nat) (free : Addr → Prop) : State → Prop := fun t =>
  ∃ o, t.status = .running ∧ Ended t below o ∧ Qc a s o t ∧ ∃ L, jFE s t L mc ms ∧ ∀ q ∈ L, free q.base
theorem jMQ.of {below : List Frame} {Qc : Array Value → State → Outcome → State → Prop} {a : Array Value} {s : State} {mc ms : Nat} {free : Addr → Prop} {t : State} (h : MQ below Qc a s mc ms free t) : jMQ below Qc a s mc ms free t := by
  obtain ⟨o, h1, h2, h3, L, hF, hL⟩ := h
  exact ⟨o, h1, h2, h3, L, hF.2, hL⟩
theorem jW_imp {p : Program} {l : Launch} {e : Env} {R : Room} {s : State} {m : MethodId} {args : Array Value} {below : List Frame} {meth : Method} {c : Code} {H : Heap} {locs : List Loc} {cells slots : Nat} {Q Q' : State → Prop} {g : JFrame} (h : ∀ t, Q t → Q' t) (k : W p l e R s m args below meth c H locs cells slots Q g) : W p l e R s m args below meth c H locs cells slots Q' g := by
  intro T hT X
  obtain ⟨t, a, b⟩ := k T hT X
  exact ⟨t, a, h t b⟩
def jMet (l : Launch) (y : MethodName) (ws : List Cond) (rm : Room) (Pc : Array Value → State → Prop) (Qc : Array Value → State → Outcome → State → Prop) (mc ms : Nat) (free : Addr → Prop) : Prop :=
  MetFree l y (headSpec ws rm) Pc (fun _ _ _ _ _ => True) (fun a st o t => Qc a st o t ∧ ∃ L, jFE st t L mc ms ∧ ∀ q ∈ L, free q.base)
theorem jMet.ofW {l : Launch} {y : MethodName} {ws : List Cond} {rm : Room} {Pc : Array Value → State → Prop} {Qc : Array Value → State → Outcome → State → Prop} {mc ms : Nat} {free : Addr → Prop} {cc : ByteArray} {maxL : Nat} {ret : Option FieldType} {hh : List (Nat × Nat × Nat × Nat)}
    (hy : plainName y.cls = true) (hw : Cond.code y cc maxL ret ∈ ws ∨ Cond.codeWith y cc maxL ret hh ∈ ws)
    (body : ∀ p e s m args below meth c s₁, BodyLoose p l y (headSpec ws rm) cc maxL ret e s m args below meth c s₁ → c.maxLocals = maxL → Pc args s →
      W p l e (headSpec ws rm).room s m args below meth c s.heap [] 0 0 (jMQ below Qc args s mc ms free) (entryFrame m args maxL)) : jMet l y ws rm Pc Qc mc ms free := by
  refine MetFree.of_bodyS (code := cc) (maxLocals := maxL) (ret := ret) hy ?_ ?_
  · intro args s m h hn
    rcases hw with hw | hw
    · obtain ⟨meth, c, h1, h2, h3, h4, h5, h6, -, -⟩ := Cond.code_spec hn (atoms_spec (ws := ws) h _ hw)
      exact ⟨meth, c, h1, h2, h3, h4, h5, h6⟩
    · obtain ⟨m9, meth, c, hn9, h1, h2, h3, h4, -, h5, h6, -⟩ := Cond.codeWith_spec (atoms_spec (ws := ws) h _ hw)
      cases hn.symm.trans hn9
      exact ⟨meth, c, h1, h2, h3, h4, h5, h6⟩
  · intro p e s m args below meth c s₁ B hml hP _
    have hh0 : s₁.heap = s.heap := by rw [B.state]; rfl
    obtain ⟨t, a1, o, b1, b2, b3, b4⟩ := body p e s m args below meth c s₁ B hml hP s₁ hh0 (Stand.of_body B)
    exact ⟨t, o, a1, b1, b2, b3, b4⟩
theorem jMet.toMet {l : Launch} {y : MethodName} {ws : List Cond} {rm : Room} {Pc : Array Value → State → Prop} {Qc : Array Value → State → Outcome → State → Prop} {mc ms : Nat} {free : Addr → Prop} (h : jMet l y ws rm Pc Qc mc ms free) (hr : ∀ a st o t, Qc a st o t → ∃ v, o = .returned v) : Met l y ws rm Pc Qc mc ms free := by
  intro p e ha hc hk s m args below hf happ hP hK
  obtain ⟨n, o, h1, h2, h3, hq, L, hF, hL⟩ := h p e ha hc hk s m args below hf happ hP hK
  exact ⟨n, o, h1, h2, h3, hq, L, ⟨hr _ _ _ _ hq, hF⟩, hL⟩
/-- a link to a nest mate -/
def jNest (w : Cond) : Prop := (∃ a i b n d h, w = .fieldLinkNest a i b n d h) ∨ (∃ a i x h, w = .methodLinkNest a i x h) ∨ (w.onTables = true ∧ w.keepsFace = true)
/-- a static reference whose cell nobody writes; and how it lies -/
def jZs (C n d : String) (A : Nat → Prop) (U : State) (H : Heap) : Prop := va_Zq C n d A U H ∧ ∃ (c : ClassId) (k : Class) (i : Nat) (f : Field) (a : Nat) (cell : Cell), U.vm.findClass C = some c ∧ U.fieldFound? C n d = some (c, k, i, f) ∧ f.isStatic = true ∧ k.statics = some a ∧ H[a]? = some cell ∧ cell.vm.isStatics = true ∧ cell.cls = c ∧ f.slot < cell.slots.size ∧ k.staticTypes[f.slot]? = some f.type ∧ ¬ A a
theorem jZs.moved {C n d : String} {A : Nat → Prop} {u U : State} {H : Heap} (hvm : u.vm.Alike U.vm) (h : jZs C n d A u H) : jZs C n d A U H := by
  obtain ⟨h0, c, k, i, f, a, cell, h1, h2, h3, h4, h5, h6, h7, h8, h9, h10⟩ := h
  obtain ⟨k', hi', he⟩ := State.fieldFound?_setVm hvm h2
  exact ⟨h0.moved hvm, c, k', i, f, a, cell, by rw [hvm.findClass]; exact h1, hi', h3, by rw [he]; exact h4, h5, h6, h7, h8, by rw [he]; exact h9, h10⟩
theorem jZs.kept {C n d : String} {A : Nat → Prop} {U : State} {H H1 : Heap} (h : jZs C n d A U H) (hq : ∀ a : Nat, a < H.size → ¬ A a → H1[a]? = H[a]?) : jZs C n d A U H1 := by
  obtain ⟨h0, c, k, i, f, a, cell, h1, h2, h3, h4, h5, h6, h7, h8, h9, h10⟩ := h
  exact ⟨h0.kept hq, c, k, i, f, a, cell, h1, h2, h3, h4, (hq a (Array.getElem?_eq_some_iff.mp h5).1 h10).trans h5, h6, h7, h8, h9, h10⟩
theorem jZs.lays {C n d : String} {A : Nat → Prop} {U : State} {args : Array Value} (h : jZs C n d A U U.heap) : (Cond.laysStatic C n d).before args U = true := by
  obtain ⟨h0, c, k, i, f, a, cell, h1, h2, h3, h4, h5, h6, h7, h8, h9, h10⟩ := h
  simp [Cond.before, Cond.holds, Cond.value, h1, h2, h3, h4, h5, h6, h7, h8, h9]
/-- the environment: classes and kinds of arrays, the given arrays, the statics that hold them, the two statics of Throwable, links to nest mates, arrays of objects -/
def jEv (D : va_G) (cl : List vw_C) (g : Nat → Nat) (base : Nat) (tys : List (ClassId × FieldType)) (G : jG) (zt : List (String × String × String × Nat)) (zq : List (String × String × String)) (Ns : List Cond) (ao : List String × List (String × String)) (U : State) : Prop :=
  va_K D cl tys U ∧ base ≤ U.heap.size ∧ (∀ k, k < 3 → va_T .int (g k) (G k).1 (fun j => .int ((G k).2 j)) (fun q => base ≤ q) U U.heap) ∧
  (∀ z ∈ zt, va_Z z.1 z.2.1 z.2.2.1 (.ref (g z.2.2.2)) (fun q => base ≤ q) U U.heap) ∧ (∀ z ∈ zq, jZs z.1 z.2.1 z.2.2 (fun q => base ≤ q) U U.heap) ∧ (∀ w ∈ Ns, va_Nw w U) ∧ (∀ C ∈ ao.1, va_AO C U) ∧ ∀ z ∈ ao.2, va_Nc z.1 z.2 U
theorem jEv.moved {D : va_G} {cl : List vw_C} {g : Nat → Nat} {base : Nat} {tys : List (ClassId × FieldType)} {G : jG} {zt : List (String × String × String × Nat)} {zq : List (String × String × String)} {Ns : List Cond} {ao : List String × List (String × String)} {s U : State} (hN : ∀ w ∈ Ns, jNest w) (hW : s.WarmedH U.vm) (hz : s.heap.size ≤ U.heap.size) (hk : ∀ q : Nat, q < s.heap.size → ¬ base ≤ q → U.heap[q]? = s.heap[q]?) (h : jEv D cl g base tys G zt zq Ns ao s) : jEv D cl g base tys G zt zq Ns ao U := by
  obtain ⟨h1, h2, h3, h4, h5, h6, h7, h8⟩ := h
  refine ⟨va_K.moved hW.alike h1, Nat.le_trans h2 hz, fun k hk3 => ((h3 k hk3).kept hk).moved hW.alike, fun z hz => ((h4 z hz).kept hk).moved hW.alike, fun z hz => ((h5 z hz).kept hk).moved hW.alike, fun w hw => ?_, fun C hC => (h7 C hC).moved hW.alike, fun z hz => (h8 z hz).moved hW.alike⟩
  rcases hN w hw with ⟨a, i, b, n, d, hst, rfl⟩ | ⟨a, i, x, hst, rfl⟩ | ⟨hc, hf⟩
  · exact va_Nw.warmF hW (h6 _ hw)
  · exact va_Nw.warmM hW (h6 _ hw)
  · have h1 : w.before #[] (s.setVm U.vm) = true := Cond.before_shiftedFace (State.Shifted.of_warmed hW) w hf (h6 _ hw)
    exact va_tabs hc (u := s.setVm U.vm) (U := U) rfl h1
theorem jEv.blind {D : va_G} {cl : List vw_C} {g : Nat → Nat} {base : Nat} {tys : List (ClassId × FieldType)} {G : jG} {zt : List (String × String × String × Nat)} {zq : List (String × String × String)} {Ns : List Cond} {ao : List String × List (String × String)} {U : State} (hN : ∀ w ∈ Ns, jNest w) (h : jEv D cl g base tys G zt zq Ns ao U) (f : JFrame) (mk : MethodId) (a : Array Value) : jEv D cl g base tys G zt zq Ns ao (U.calling f mk a) :=
  h.moved hN (U := U.calling f mk a) (State.WarmedH.refl U) (Nat.le_refl _) (fun _ _ _ => rfl)
/-- the end of a method: where it leaves the pure machine's memory, and what it answers or throws -/
def jQc (D : va_G) (cl : List vw_C) (kid g : Nat → Nat) (base : Nat) (ka : List Nat) (xn : Nat → String) (n0 : Nat) (ad0 : Nat → Nat) (o : jO) : Array Value → State → Outcome → State → Prop := fun _ st oc t =>
  (∃ ad : Nat → Nat, (∀ i, i < n0 → ad i = ad0 i) ∧ va_P D cl (jws kid g ad o.2) t.heap ∧ va_D (fun q => base ≤ q) (jws kid g ad o.2) ∧ jcl ka o.2 ∧
    match o.1 with
    | .inl v => oc = .returned (v.map (jtv ad g)) ∧ jcs o.2.2.1 v.toList
    | .inr x => ∃ (a : Addr) (ce : Cell), oc = .threw a ∧ t.heap[a]? = some ce ∧ (∀ k, ce.vm ≠ .statics k) ∧ t.vm.findClass (xn x) = some ce.cls) ∧ va_F (fun q => base ≤ q) st t
theorem jlt_args (ad g : Nat → Nat) (as : List Value) : ∀ i, lv_args i (as.map (jtv ad g)) = jlt ad g (lv_args i as) := by
  induction as with
  | nil => intro i; rfl
  | cons v r ih =>
    intro i
    show (i, jtv ad g v) :: lv_args (if (jtv ad g v).category = 2 then i + 2 else i + 1) (r.map (jtv ad g)) = _
    rw [jtv_cat, ih]
    rfl
theorem jcw_args {n : Nat} {as : List Value} (h : jcs n as) : ∀ i, jcw n (lv_args i as) := by
  induction as with
  | nil => intro i q hq; cases hq
  | cons v r ih =>
    intro i q hq
    rcases List.mem_cons.mp hq with rfl | hq
    · exact h.1
    · exact ih h.2 _ q hq
theorem jsl_len (as : List Value) : (lg_sl as).length = (as.map fun v => v.category).sum := by
  induction as with
  | nil => rfl
  | cons v r ih =>
    have e : lg_sl (v :: r) = (if v.category = 2 then [.val v, .second] else [.val v]) ++ lg_sl r := by simp [lg_sl]
    rw [e, List.length_append, ih, List.map_cons, List.sum_cons]
    rcases lv_cat v with h | h
    · rw [h]; rfl
    · rw [h]; rfl
theorem jcat_map (ad g : Nat → Nat) (as : List Value) : ((as.map (jtv ad g)).map fun v => v.category) = as.map fun v => v.category := by
  rw [List.map_map]
  exact List.map_congr_left fun v _ => jtv_cat ad g v
theorem jarg_spec : ∀ (n : Nat) (st acc as rest : List Value), jarg n st acc = some (as, rest) → ∃ xs : List Value, xs.length = n ∧ st = xs ++ rest ∧ as = xs.reverse ++ acc := by
  intro n
  induction n with
  | zero =>
    intro st acc as rest h
    cases h
    exact ⟨[], rfl, rfl, rfl⟩
  | succ n ih =>
    intro st acc as rest h
    cases st with
    | nil => cases h
    | cons v st =>
      obtain ⟨xs, h1, h2, h3⟩ := ih st (v :: acc) as rest h
      exact ⟨v :: xs, by simp [h1], by simp [h2], by simp [h3]⟩
theorem jarg_st {n : Nat} {st as rest : List Value} (h : jarg n st [] = some (as, rest)) : st = as.reverse ++ rest ∧ as.length = n := by
  obtain ⟨xs, h1, h2, h3⟩ := jarg_spec n st [] as rest h
  rw [List.append_nil] at h3
  subst h3
  rw [List.reverse_reverse, List.length_reverse]
  exact ⟨h2, h1⟩
theorem jrec_spec {μ : jS} {c : Nat} {as : List Value} (h : jrec μ (some c) as = true) : ∃ (b : Nat) (As fs : List Value), as = .ref b :: As ∧ μ.1 b = .inr (c, fs) := by
  unfold jrec at h
  simp only at h
  split at h
  · rename_i b As
    split at h
    · rename_i d fs hm
      have := Nat.eq_of_beq_eq_true h
      subst this
      exact ⟨b, As, fs, rfl, hm⟩
    · cases h
  · cases h
