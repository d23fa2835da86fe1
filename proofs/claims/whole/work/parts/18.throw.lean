/-! 'throw new X()' leaves the method with the heap as it was but for one new cell; a call's throw is caught in the caller. -/
section JT
variable {p : Program} {l : Launch} {e : Env} {R : Room} {s : State} {m : MethodId} {args : Array Value} {below : List Frame} {meth : Method} {c : Code} {T : State} {locs : List Loc} {cells slots : Nat}
/-- the same walk, counted from where it stands -/
theorem jx_rebase (X : Stand p l e R s m args below meth c T locs cells slots) (hc : cells ≤ R.cells) (hs : slots ≤ R.slots) : Stand p l e { R with cells := R.cells - cells, slots := R.slots - slots } (T.setFrames (.invoking m args :: below)) m args below meth c T [] 0 0 := by
  obtain ⟨g₀, hfr⟩ := X.frames_eq
  have hcur : T.cur < T.threads.size := State.cur_lt_of_frames hfr
  have hF : (T.setFrames (.invoking m args :: below)).frames = .invoking m args :: below := State.frames_setFrames _ hcur
  have hm' : (T.setFrames (.invoking m args :: below)).vm.method? m = some meth := X.method'
  obtain ⟨th, hth, -⟩ := State.frames_cons hfr
  refine ⟨X.admits, X.cas, X.clock, hF, ?_, ?_, hm', X.code, X.here, X.tail, State.WarmedH.refl _, (State.stackLimits_setFrames _ _ _).symm, (State.stackBytes_setFrames _ _).symm, ?_⟩
  · have h := X.room
    have b : (T.setFrames (.invoking m args :: below)).slotsTrue = true := X.book
    simp only [State.hasRoom, Bool.and_eq_true, decide_eq_true_eq] at h ⊢
    rw [State.localsInUse_invoking X.frames X.method X.code, X.frames] at h
    rw [State.localsInUse_invoking hF hm' X.code, hF, State.stackLimits_setFrames, State.stackBytes_setFrames, X.limits, X.bytes]
    have h1 := X.heapSize
    have h2 := X.used
    have h3 := h.1.1.2
    have h4 := h.1.2
    refine ⟨⟨⟨⟨h.1.1.1.1, h.1.1.1.2⟩, ?_⟩, ?_⟩, b⟩
    · show T.heap.size + (R.cells - cells) ≤ _
      omega
    · show T.slotsUsed + (R.slots - slots) ≤ _
      omega
  · have h := X.hears
    have hv : ∀ x, (T.setFrames (.invoking m args :: below)).vm.method? x = s.vm.method? x := fun x => X.warmed.alike.method? x
    unfold State.hears at h ⊢
    simp only [State.code?_eq, hv] at h ⊢
    exact h
  · have hth' : (T.setFrames (.invoking m args :: below)).cur < (T.setFrames (.invoking m args :: below)).threads.size := State.cur_lt_of_frames hF
    obtain ⟨th2, hth2, -⟩ := State.frames_cons hF
    have h := (State.sameButNew.refl (T.setFrames (.invoking m args :: below)) hth2).setFrames T.frames hth'
    rw [State.setFrames_setFrames, State.setFrames_self hth] at h
    exact h
/-- what was there is there, slot by slot -/
theorem jx_kept {a b : State} {k n : Nat} (h : a.sameButNew b [] k n) {q : Nat} (hq : q < a.heap.size) : b.heap[q]? = a.heap[q]? := by
  have hc : a.heap[q]? = some a.heap[q] := Array.getElem?_eq_getElem hq
  obtain ⟨c', h1, h2, h3, h4⟩ := h.2.2.2.2.2 q _ hc
  rw [h1, hc, h2]
  have e1 : c'.slots = a.heap[q].slots := Array.ext_getElem? fun i => h4 i (by simp)
  rw [e1]
/-- a frame's notes do not matter to what has changed -/
theorem jx_same {a b : State} {F : List Frame} {L : List Loc} {k n : Nat} (h : (a.setFrames F).sameButNew b L k n) : a.sameButNew b L k n := by
  obtain ⟨h1, h2⟩ := h
  refine ⟨?_, h2⟩
  rw [State.setFrames_setFrames] at h1
  exact h1
theorem jx_isRef {C n d : String} {A : Nat → Prop} {U : State} {args : Array Value} (h : va_Zq C n d A U U.heap) : (Cond.isRef (.static C n d)).before args U = true := by
  rcases h with ⟨cf, kf, fi, f, a, cell, h1, h2, h3, h4, h5, h6, h7, h8⟩ | ⟨t, cf, kf, fi, f, a, cell, h1, h2, h3, h4, h5, h6, h7, h8⟩
  · simp [Cond.before, Cond.holds, Cond.value, Term.eval, State.fieldNamed?, h1, h2, h4, h5, h6, h7]
  · simp [Cond.before, Cond.holds, Cond.value, Term.eval, State.fieldNamed?, h1, h2, h4, h5, h6, h7]
end JT
section JTH
variable {p : Program} {l : Launch} {e : Env} {R : Room} {s : State} {m : MethodId} {args : Array Value} {below : List Frame} {meth : Method} {c : Code} {cc : ByteArray} {own : String} {D : va_G} {cl : List vw_C} {kid g : Nat → Nat} {base : Nat} {ka : List Nat} {tys : List (ClassId × FieldType)} {G : jG} {k0 z0 n0 nL : Nat} {ad0 : Nat → Nat} {pc : Nat} {lv : jL} {μ : jS} {xn : Nat → String}
  {zt : List (String × String × String × Nat)} {zq : List (String × String × String)} {Ns Ws : List Cond} {ao : List String × List (String × String)}
theorem jc_throw {x ic iv : Nat} {names : List String} (hgood : ∀ w ∈ Ws, (w.onTables && w.keeps) = true ∨ ∃ ty, w = .arrayClass ty) (hnest : ∀ w ∈ Ns, jNest w)
    (hx : p.tables.exec = Jvm.exec) (hb : c.code = cc) (hml : c.maxLocals = nL) (hown : s.vm.findClass own = some m.cls) (hts : ∀ w ∈ Ws, w.before args s = true) (hE : jEv D cl g base tys G zt zq Ns ao s) (hlocks : meth.locks = false) (htr : e.platform.stackTraces = false)
    (d0 : decode cc pc = .ok (.new ic, 3)) (d1 : decode cc (pc + 3) = .ok (.dup, 1)) (d2 : decode cc (pc + 4) = .ok (.invokespecial iv, 3)) (d3 : decode cc (pc + 7) = .ok (.athrow, 1))
    (w1 : Cond.classLink own ic (xn x) ∈ Ws) (w2 : Cond.instantiable (xn x) 6 ∈ Ws) (w3 : Cond.initialized (xn x) ∈ Ws) (w4 : ∀ w ∈ Jvm.Bundle.ownAtoms0 own iv (xn x) names, w ∈ Ws ∨ (∃ z ∈ zq, w = .isRef (.static z.1 z.2.1 z.2.2)) ∨ (∃ z ∈ zq, w = .laysStatic z.1 z.2.1 z.2.2) ∨ (w ∈ Ns ∧ w.onTables = true))
    (hf1 : Jvm.Bundle.fit (xn x) = true) (hf2 : ∀ n ∈ names, Jvm.Bundle.fit n = true) (hn : names.length ≤ 2) (hRf : 8 ≤ R.frames) (hRl : 120 ≤ R.locals) (hout : ∀ y ∈ c.exceptionTable.toList, covers y (pc + 7) = false)
    (hkE : μ.2.2.1 + 1 = k0 + R.cells) (hzE : μ.2.2.2 + 6 = z0 + R.slots) :
    jWg p l e R s m args below meth c (jMQ below (jQc D cl kid g base ka xn n0 ad0 (.inr x, μ.1, μ.2.1, μ.2.2.1 + 1, μ.2.2.2 + 6)) args s R.cells R.slots (fun q => base ≤ q)) D cl kid g base ka nL k0 z0 n0 ad0 pc lv [] μ := by
  intro H locs cells slots ls ad X T hT XX
  have hc1 := X.2.2.2.2.2.2.2.1
  have hz1 := X.2.2.2.2.2.2.2.2.1
  have hS := X.2.2.2.2.2.2.1
  have X' := jx_rebase XX (by omega) (by omega)
  have hw' : ∀ w ∈ Ws, w.before args (T.setFrames (.invoking m args :: below)) = true := fun w hw => word_at (U := T.setFrames (.invoking m args :: below)) XX.warmed (hgood w hw) (hts w hw)
  have hE' : jEv D cl g base tys G zt zq Ns ao (T.setFrames (.invoking m args :: below)) := hE.moved hnest (U := T.setFrames (.invoking m args :: below)) XX.warmed (by show s.heap.size ≤ T.heap.size; rw [hT]; exact hS.1) (fun q h1 h2 => by show T.heap[q]? = _; rw [hT]; exact hS.2.1 q h1 h2)
  have hown' : (T.setFrames (.invoking m args :: below)).vm.findClass own = some m.cls := by show T.vm.findClass own = _; rw [XX.warmed.alike.findClass]; exact hown
  have hat : ∀ w ∈ Jvm.Bundle.ownAtoms0 own iv (xn x) names, w.before args (T.setFrames (.invoking m args :: below)) = true := by
    intro w hw
    rcases w4 w hw with h | ⟨z, hz, rfl⟩ | ⟨z, hz, rfl⟩ | ⟨h1, h2⟩
    · exact hw' w h
    · exact jx_isRef (hE'.2.2.2.2.1 z hz).1
    · exact (hE'.2.2.2.2.1 z hz).lays
    · exact va_tabs h2 rfl (hE'.2.2.2.2.2.1 w h1)
  have key : W p l e { R with cells := R.cells - cells, slots := R.slots - slots } (T.setFrames (.invoking m args :: below)) m args below meth c T.heap [] 0 0 (fun U => ∃ (a : Addr) (ce : Cell), U.status = .running ∧ Ended U below (.threw a) ∧ (T.setFrames (.invoking m args :: below)).WarmedH U.vm ∧ (T.setFrames (.invoking m args :: below)).sameButNew ({ U with vm := (T.setFrames (.invoking m args :: below)).vm } : State) [] 1 6 ∧ U.heap[a]? = some ce ∧ ce.vm = .none ∧ U.vm.findClass (xn x) = some ce.cls) (F0 m pc ls []) := by
    refine W.newc hx hb hown' (hw' _ w1) (hw' _ w2) (hw' _ w3) (g := F0 m pc ls []) rfl d0 (by show 0 + 1 ≤ R.cells - cells; omega) (by show 0 + 6 ≤ R.slots - slots; omega) (fun cC kC hfc hkC hord hsz => ?_)
    refine lv_dup (pc := pc + 3) (rest := []) hx hb d1 rfl ?_
    intro T2 hT2 X2
    obtain ⟨U, q1, q2, q3, q4, q5, ce, q6, q7⟩ := X2.ctorThrow0 hx htr hown' hf1 hf2 hat (fun y hy => by cases hy) hfc hkC (a := T.heap.size) (by rw [hT2]; simp) (Nat.le_refl _) (g := F0 m (pc + 3 + 1) ls [.ref T.heap.size, .ref T.heap.size]) rfl (by rw [hml]; exact X.1.1) rfl rfl (rest := []) rfl (by rw [hb]; exact d2) (by rw [hb]; exact d3) hout (by show names.length + 3 < R.frames; omega) (by
      show 2 * (F0 m (pc + 3 + 1) ls [.ref T.heap.size, .ref T.heap.size]).monitorRoom + ((Value.ref T.heap.size :: []).map fun v => v.category).sum + (13 * (names.length + 1) + 41) ≤ R.locals
      have := lv_room (m := m) (pc := pc + 3 + 1) (ls := ls) (rest := [.ref T.heap.size, .ref T.heap.size]) (st := [.ref T.heap.size]) (by show 1 + 0 ≤ 8; omega)
      have h13 : 13 * (names.length + 1) ≤ 39 := by omega
      omega) hlocks
    exact ⟨U, q1, T.heap.size, ce, q2, q3, q4, q5, q6, q7.vm, by rw [q4.alike.findClass]; exact q7.cls⟩
  obtain ⟨U, hst, a, ce, q2, q3, q4, q5, q6, q7, q8⟩ := key T rfl X'
  refine ⟨U, hst, .threw a, q2, q3, ?_, locs, ?_, hS.2.2⟩
  · have hkp : ∀ q, q < T.heap.size → U.heap[q]? = T.heap[q]? := fun q hq => jx_kept q5 hq
    have hsz : T.heap.size ≤ U.heap.size := q5.2.1
    refine ⟨⟨ad, X.2.2.2.2.2.2.2.2.2.2, ?_, X.2.2.2.2.1, X.2.2.2.2.2.1, a, ce, rfl, q6, (fun k hk => by rw [q7] at hk; cases hk), q8⟩, ?_⟩
    · refine va_P.kept (ws := jws kid g ad μ) X.2.2.2.1 fun k q hq => ?_
      have := (X.2.2.2.1 k q hq).lt
      rw [← hT] at this
      rw [hkp _ this, hT]
    · refine ⟨Nat.le_trans (by rw [hT]; exact hS.1) hsz, fun q h1 h2 => ?_⟩
      rw [hkp q (Nat.lt_of_lt_of_le h1 (by rw [hT]; exact hS.1)), hT]
      exact hS.2.1 q h1 h2
  · refine ⟨State.WarmedH.trans XX.warmed q4, ?_⟩
    have h1 := XX.same.trans ((jx_same (F := .invoking m args :: below) (a := T) q5).setVm s.vm)
    rw [List.append_nil] at h1
    have e1 : cells + 1 = R.cells := by omega
    have e2 : slots + 6 = R.slots := by omega
    rw [e1, e2] at h1
    exact h1
end JTH
section JK
variable {e : Env} {s : State} {f : JFrame} {a : Addr}
/-- one row of the handler table, its class linked before or only now -/
theorem jx_go {Q : Handler → Pre} {E : CtlPost} {d : Bool} {acts : List Action} {x : ExceptionTableEntry} {t : List ExceptionTableEntry} {k : ClassId} {cell : Cell} (hx : covers x f.pc = true) (h0 : x.catchType ≠ 0) (hl : s.vm.ClassLinks e.platform f.method.cls x.catchType k) (hcell : s.heap[a]? = some cell) (hobj : ∀ k, cell.vm ≠ .statics k) (hk : ∃ k, s.vm.classes[cell.cls]? = some k) (hc : ∃ k', s.vm.classes[k]? = some k') :
    wp (findHandler.go f a (x :: t)) Q E e d acts s ↔ if s.vm.assignable cell.cls k = true then Q (.found x.handlerPc) d acts (s.setVm (s.vm.noted f.method.cls x.catchType (.cls k))) else wp (findHandler.go f a t) Q E e d acts (s.setVm (s.vm.noted f.method.cls x.catchType (.cls k))) := by
  simp only [covers] at hx
  obtain ⟨ha, ht⟩ := (resolveClass_links e.toSetting hl).op (op := VmOp.resolveClass f.method.cls x.catchType) rfl
  have hal : s.vm.Alike (s.vm.noted f.method.cls x.catchType (.cls k)) := (Vm.Alike.refl s.vm).noted _ _ _
  obtain ⟨k1, hk1⟩ := hk
  obtain ⟨k2, hk2⟩ := hc
  obtain ⟨k1', hk1', -⟩ := hal.2.2 _ _ hk1
  obtain ⟨k2', hk2', -⟩ := hal.2.2 _ _ hk2
  by_cases hfit : s.vm.assignable cell.cls k = true
  · have hfit' : (s.vm.noted f.method.cls x.catchType (.cls k)).assignable cell.cls k = true := by rw [hal.assignable]; exact hfit
    rw [if_pos hfit]
    simp [findHandler.go, hx, h0, ha, ht, hcell, hobj, hk1', hk2', hfit', VmOp.dirties, VmOp.acts]
  · have hfit' : (s.vm.noted f.method.cls x.catchType (.cls k)).assignable cell.cls k = false := by rw [hal.assignable]; simpa using hfit
    rw [if_neg hfit]
    simp [findHandler.go, hx, h0, ha, ht, hcell, hobj, hk1', hk2', hfit', VmOp.dirties, VmOp.acts]
/-- the rows lead an exception of class 'thrown' at pc to the handler h -/
def jRows (pl : Platform) (s₀ : State) (d : ClassId) (pc : Nat) (thrown : ClassId) (h : Nat) : List ExceptionTableEntry → Prop
  | [] => False
  | x :: t => (covers x pc = false ∧ jRows pl s₀ d pc thrown h t) ∨ (covers x pc = true ∧ x.catchType ≠ 0 ∧ ∃ k, s₀.vm.ClassLinks pl d x.catchType k ∧ ((s₀.vm.assignable thrown k = true ∧ x.handlerPc = h) ∨ (s₀.vm.assignable thrown k = false ∧ jRows pl s₀ d pc thrown h t)))
theorem jx_find {s₀ : State} {cell : Cell} {h : Nat} (hobj : ∀ k, cell.vm ≠ .statics k) (hk0 : ∃ k, s₀.vm.classes[cell.cls]? = some k) : ∀ (rows : List ExceptionTableEntry) (S : State), s₀.WarmedH S.vm → S.heap[a]? = some cell → jRows e.platform s₀ f.method.cls f.pc cell.cls h rows →
    ∃ vm', s₀.WarmedH vm' ∧ ∀ (Q : Handler → Pre) (E : CtlPost) (d : Bool) (acts : List Action), wp (findHandler.go f a rows) Q E e d acts S ↔ Q (.found h) d acts (S.setVm vm') := by
  obtain ⟨k0, hk0⟩ := hk0
  intro rows
  induction rows with
  | nil => intro S _ _ hr; exact hr.elim
  | cons x t ih =>
    intro S hW hcell hr
    obtain ⟨k0', hk0', -⟩ := hW.alike.2.2 _ _ hk0
    rcases hr with ⟨hx, hr⟩ | ⟨hx, h0, k, hl, hr⟩
    · obtain ⟨vm', hW', hq⟩ := ih S hW hcell hr
      exact ⟨vm', hW', fun Q E d acts => by rw [W.findHandler_go_skip hx]; exact hq Q E d acts⟩
    · obtain ⟨dk, _, _, kt, hd, _, _, _, _, hkt, _, hopen⟩ := hl.here
      obtain ⟨kt', hkt', -⟩ := hW.alike.2.2 _ _ hkt
      have hW2 := hW.noted hd hopen (State.rightAt_cls hl)
      rcases hr with ⟨hfit, rfl⟩ | ⟨hfit, hr⟩
      · refine ⟨_, hW2, fun Q E d acts => ?_⟩
        rw [jx_go hx h0 (hW.classLinks hl) hcell hobj ⟨k0', hk0'⟩ ⟨kt', hkt'⟩, if_pos (by rw [hW.alike.assignable]; exact hfit)]
      · obtain ⟨vm', hW', hq⟩ := ih (S.setVm (S.vm.noted f.method.cls x.catchType (.cls k))) hW2 hcell hr
        refine ⟨vm', hW', fun Q E d acts => ?_⟩
        rw [jx_go hx h0 (hW.classLinks hl) hcell hobj ⟨k0', hk0'⟩ ⟨kt', hkt'⟩, if_neg (by rw [hW.alike.assignable, hfit]; decide)]
        exact hq Q E d acts
theorem jx_step {r : List Frame} {pc : Nat} {vm' : Vm} (hfind : ∀ (Q : Handler → Pre) (E : CtlPost) (d : Bool) (acts : List Action), wp (findHandler f a) Q E e d acts s ↔ Q (.found pc) d acts (s.setVm vm')) :
    (stepThrowing e s a (.java f :: r)).Is ((s.setVm vm').setFrames (.java { f with pc := pc, stack := [.ref a] } :: r)) [] := by
  simp only [stepThrowing, searchFrame, vmDo]
  generalize hr : Sem.go _ e false [] s = res
  obtain ⟨as, rfl, ha⟩ := Sem.eq_ok_of hr (a := Handler.found pc) (s' := s.setVm vm') (acts' := []) (by simp [hfind _ _ _ _])
  exact ⟨rfl, ha⟩
end JK
section JKS
variable {p : Program} {l : Launch} {e : Env} {R : Room} {s : State} {m : MethodId} {args : Array Value} {below : List Frame} {meth : Method} {c : Code} {T : State} {locs : List Loc} {cells slots : Nat}
/-- a throw that lies over this frame goes on at the handler -/
theorem jx_caught (X : Stand p l e R s m args below meth c T locs cells slots) {a : Addr} {f : JFrame} (hf : f.method = m) {cell : Cell} {h : Nat} (hcell : T.heap[a]? = some cell) (hobj : ∀ k, cell.vm ≠ .statics k) (hk0 : ∃ k, s.vm.classes[cell.cls]? = some k) (hr : jRows e.platform s m.cls f.pc cell.cls h c.exceptionTable.toList) :
    ∃ vm', Stand p l e R s m args below meth c (T.setVm vm') locs cells slots ∧ ∀ target, Steps p.tables e below ((T.setVm vm').setTop { f with pc := h, stack := [.ref a] }) target → Steps p.tables e below ((T.setTop f).pushFrame (.throwing a)) target := by
  subst hf
  obtain ⟨vm', hW', hq⟩ := jx_find (e := e) (f := f) (a := a) hobj hk0 c.exceptionTable.toList ((T.setTop f).pushFrame (.throwing a)) X.warmed hcell hr
  refine ⟨vm', X.noted hW', fun target hrest => ?_⟩
  have hfind : ∀ (Q : Handler → Pre) (E : CtlPost) (d : Bool) (acts : List Action), wp (findHandler f a) Q E e d acts ((T.setTop f).pushFrame (.throwing a)) ↔ Q (.found h) d acts (((T.setTop f).pushFrame (.throwing a)).setVm vm') := fun Q E d acts => by
    rw [W.findHandler_eq (s := (T.setTop f).pushFrame (.throwing a)) X.method' X.code]
    exact hq Q E d acts
  obtain ⟨hgo, hw⟩ := X.here.throwing a
  refine Steps.head hgo hw ?_
  rw [stepThread_throwing (frames_entered X.here.top _), (jx_step (s := (T.setTop f).pushFrame (.throwing a)) hfind).1]
  obtain ⟨g₀, hr0⟩ := X.frames_eq
  have hr' : (T.setVm vm').frames = .java g₀ :: below := hr0
  have e1 : ∀ (u : State) (F F' : List Frame), ((u.setFrames F).setVm vm').setFrames F' = (u.setVm vm').setFrames F' := fun u F F' => by
    have h1 : (u.setFrames F).setVm vm' = (u.setVm vm').setFrames F := rfl
    rw [h1, State.setFrames_setFrames]
  rw [State.setTop_of_frames _ hr'] at hrest
  rw [hr0, List.tail_cons, State.pushFrame, e1, State.setTop_of_frames _ hr0, e1]
  exact hrest
end JKS
