/-! A call that throws, caught in the caller: the law's wrappers. -/
/-- the rows of a handler table lead an exception X at pc to the handler h, by the words of the claim -/
def jRt (own : String) (Ws : List Cond) (nc : List (String × String)) (pc : Nat) (X : String) (h : Nat) : List (Nat × Nat × Nat × Nat) → Prop
  | [] => False
  | r :: t => (¬ (r.1 ≤ pc ∧ pc < r.2.1) ∧ jRt own Ws nc pc X h t) ∨ ((r.1 ≤ pc ∧ pc < r.2.1) ∧ r.2.2.2 ≠ 0 ∧ ∃ n, Cond.classLink own r.2.2.2 n ∈ Ws ∧ ((X = n ∧ r.2.2.1 = h) ∨ ((X, n) ∈ nc ∧ jRt own Ws nc pc X h t)))
theorem jx_self (vm : Vm) (c : ClassId) : vm.assignable c c = true := by
  show vm.assignableAux _ c c = true
  unfold Vm.assignableAux
  simp
theorem jx_rows {pl : Platform} (hpl : pl.magicAccessors = ({} : Platform).magicAccessors) {s : State} {args : Array Value} {d thrown : ClassId} {own X : String} {Ws : List Cond} {nc : List (String × String)} {pc h : Nat} (hown : s.vm.findClass own = some d) (hts : ∀ w ∈ Ws, w.before args s = true) (hnc : ∀ z ∈ nc, va_Nc z.1 z.2 s) (hX : s.vm.findClass X = some thrown) :
    ∀ rows : List ExceptionTableEntry, jRt own Ws nc pc X h (rows.map fun h => (h.startPc, h.endPc, h.handlerPc, h.catchType)) → jRows pl s d pc thrown h rows := by
  intro rows
  induction rows with
  | nil => exact fun h => h
  | cons x t ih =>
    intro hr
    rcases hr with ⟨h1, h2⟩ | ⟨h1, h2, n, h3, h4⟩
    · refine Or.inl ⟨?_, ih h2⟩
      have h1 : ¬ (x.startPc ≤ pc ∧ pc < x.endPc) := h1
      unfold covers
      by_cases q : x.startPc ≤ pc
      · have : ¬ pc < x.endPc := fun z => h1 ⟨q, z⟩
        simp [this]
      · simp [q]
    · obtain ⟨c', hc', hcl⟩ := Cond.classLink_spec hown (hts _ h3) pl hpl
      have h1 : x.startPc ≤ pc ∧ pc < x.endPc := h1
      refine Or.inr ⟨by unfold covers; simp [h1.1, h1.2], h2, c', hcl, ?_⟩
      rcases h4 with ⟨h4, h5⟩ | ⟨h4, h5⟩
      · subst h4
        cases hX.symm.trans hc'
        exact Or.inl ⟨jx_self _ _, h5⟩
      · obtain ⟨c1, t1, q1, q2, q3⟩ := hnc _ h4
        cases hX.symm.trans q1
        cases hc'.symm.trans q2
        exact Or.inr ⟨q3, ih h5⟩
/-- what the tables must say of the handlers -/
def jHk (P : jT) (nM : Nat) (nm : Nat → MethodName) (bt : Nat → ByteArray) (hh : Nat → List (Nat × Nat × Nat × Nat)) (xn : Nat → String) (Ws : List Cond) (nc : List (String × String)) : Prop :=
  ∀ j pc x h z, j < nM → P.2.2.1 j pc x = some (h, z) → (∀ ins, P.1 j pc = some ins → ∃ k, ins = .invokevirtual k ∧ ∀ y n rc, P.2.2.2.1 j k = some (y + 2, n, rc) → Cond.methodLink (nm j).cls k (nm y) ∈ Ws) ∧ z < (P.2.2.2.2.1 j).2.2.2.2.2.1 ∧
    ∃ h0, ((decode (bt j) h0 = .ok (.astore z, 2) ∧ h = h0 + 2) ∨ ∃ z' : Fin 4, (z' : Nat) = z ∧ decode (bt j) h0 = .ok (.astore_n z', 1) ∧ h = h0 + 1) ∧ jRt (nm j).cls Ws nc pc (xn x) h0 (hh j)
section JCA
variable {l : Launch} {D : va_G} {cl : List vw_C} {kid g : Nat → Nat} {base : Nat} {ka : List Nat} {tys : List (ClassId × FieldType)} {G : jG} {xn : Nat → String}
  {zt : List (String × String × String × Nat)} {zq : List (String × String × String)} {Ns Ws : List Cond} {ao : List String × List (String × String)} {P : jT} {nM : Nat} {nm : Nat → MethodName} {bt : Nat → ByteArray} {rt : Nat → Option FieldType} {hh : Nat → List (Nat × Nat × Nat × Nat)} {fr lo np : Nat → Nat}
theorem j_catch (O : jOK P cl ka nM nm bt rt hh fr lo np Ws Ns) (hHk : jHk P nM nm bt hh xn Ws ao.2) : jCa l D cl kid g base ka tys G xn zt zq Ns Ws ao P nM nm bt rt hh fr lo := by
  intro j pc k y n x h z ins rc lv st as rest μ μ' Q hj hI hk hy ha hrec h8 hH hle p e R s m args below meth c k0 z0 n0 ad0 hBd hkE hzE hC K
  intro H locs cells slots ls ad X T hT XX
  obtain ⟨hx, hb, hml, hown, hts, hE, hin, hlocks, hret, hRf, hRl, htr, htab⟩ := hBd
  obtain ⟨hgood, hnest, hdec, hmeth, -, -, hcalls⟩ := O
  obtain ⟨hyM, hfr, hlo, hnh, hini, hnp, -, hkind⟩ := hcalls j pc ins k hj hI hk y n rc hy
  obtain ⟨hiv, hz, h0, hst0, hrt⟩ := hHk j pc x h z hj hH
  obtain ⟨k', rfl, hl⟩ := hiv ins hI
  cases hk
  have hl := hl y n rc hy
  obtain ⟨hst, hasn⟩ := jarg_st ha
  obtain ⟨len, hd, hdl⟩ := hdec j pc _ hI
  rcases hdl with z0' | rfl
  · exact absurd z0' (by simp [jlen])
  rcases hkind with ⟨q, -⟩ | ⟨q, -⟩ | ⟨-, ⟨c1, r1, rfl, hr1, hr2⟩, rfl, hinst, hsel, hcode⟩
  · cases q
  · cases q
  obtain ⟨b, As, fs, rfl, hmb⟩ := jrec_spec hrec
  have hcs0 := X.2.2.1
  rw [hst] at hcs0
  have hcas : jcs μ.2.1 (.ref b :: As) := jcs_mem.mpr fun v hv => jcs_mem.mp (jcs_app.mp hcs0).1 v (List.mem_reverse.mpr hv)
  have hstm : st.map (jtv ad g) = (As.map (jtv ad g)).reverse ++ .ref (ad b) :: rest.map (jtv ad g) := by rw [hst]; simp [jtv]
  have hAl : (As.map (jtv ad g)).length = np y := by simpa using hasn
  obtain ⟨cellB, hcB, hoB, hclB⟩ := va_recv hE.1 X.2.2.2.1 hr1 (jws_at (kid := kid) (g := g) (ad := ad) hcas.h hmb)
  rw [hr2] at hclB
  obtain ⟨mk, methM, hnamed, hmethM, hstM, habM⟩ := Cond.instanceMethod_spec (hts _ hinst)
  obtain ⟨methM', cM, hmethM', hcM, -, hlM, -, -, -, hsigM⟩ := Cond.code_spec hnamed (hts _ hcode)
  cases hmethM.symm.trans hmethM'
  obtain ⟨c2, r2, m2, q1, q2, q3, q4, kP, hkP, hkPi⟩ := Cond.selects_spec (hts _ hsel)
  cases hclB.symm.trans q1
  cases (State.methodFound?_of_named hnamed hnh).symm.trans q2
  cases hnamed.symm.trans q3
  have hselP : selectMethod e.platform s.vm cellB.cls mk = .method mk := by rw [Launch.admits_selectMethod XX.admits]; exact q4
  have hlen : (As.map (jtv ad g)).length = methM.sig.parameters.length := by
    rw [hAl]
    rw [hsigM] at hnp
    exact (Option.some.inj hnp).symm
  obtain ⟨vm₁, X₁, hstep₁⟩ := XX.invokevirtual hx hown (hts _ hl) hnamed hmethM hstM hkP hkPi hnh (a := ad b) (cell := cellB) (by rw [hT]; exact hcB) (fun z h => by rw [h] at hoB; cases hoB) hselP hmethM habM hkP hkPi (g := F0 m pc ls (st.map (jtv ad g))) rfl (argsL := As.map (jtv ad g)) (rest := rest.map (jtv ad g)) hlen hstm (by rw [hb]; exact hd)
  have hsum : ((rest.map (jtv ad g)).map fun v => v.category).sum ≤ 8 := by rw [jcat_map]; exact h8
  have hW8 := lv_room (m := m) (pc := pc) (ls := ls) (rest := rest.map (jtv ad g)) hsum
  have hws : ∀ w ∈ Ws, ∀ (a' : Array Value) (U : State), s.WarmedH U.vm → w.before a' U = true := fun w hw a' U hW => word_at hW (hgood w hw) (hts w hw)
  have hn1 := X₁.named hnamed
  obtain ⟨methY, cY, hmY, hcY, -, hlY, -, -, -, -⟩ := Cond.code_spec hn1 (hws _ hcode args (T.setVm vm₁) X₁.warmed)
  obtain ⟨kY, hkY, -⟩ := className_of_methodNamed hn1
  have hinitY : kY.init = .initialized := Cond.initialized_spec (findClass_of_methodNamed hn1) hkY (hws _ hini args (T.setVm vm₁) X₁.warmed)
  have hmc : μ'.2.2.1 = μ.2.2.1 + (μ'.2.2.1 - μ.2.2.1) := by have := hle.2.1; omega
  have hms : μ'.2.2.2 = μ.2.2.2 + (μ'.2.2.2 - μ.2.2.2) := by have := hle.2.2; omega
  have hk1 := X.2.2.2.2.2.2.2.1
  have hk2 := X.2.2.2.2.2.2.2.2.1
  have hf : cells + (μ'.2.2.1 - μ.2.2.1) ≤ R.cells ∧ slots + (μ'.2.2.2 - μ.2.2.2) ≤ R.slots := by omega
  have hS := X.2.2.2.2.2.2.1
  have happ : (headSpec Ws { frames := fr y, locals := lo y, cells := μ'.2.2.1 - μ.2.2.1, slots := μ'.2.2.2 - μ.2.2.2 }).appliesLoose (nm y) e.platform ((T.setVm vm₁).calling (F0 m pc ls (rest.map (jtv ad g))) mk (Value.ref (ad b) :: As.map (jtv ad g)).toArray) = true :=
    Spec.appliesLoose_calling (g := F0 m pc ls (rest.map (jtv ad g))) X₁.here (by rw [hb]; exact hd) hn1 hkY hinitY
      (X₁.room_calling (g := F0 m pc ls (rest.map (jtv ad g))) (R' := { frames := fr y, locals := lo y, cells := μ'.2.2.1 - μ.2.2.1, slots := μ'.2.2.2 - μ.2.2.2 }) (by rw [hml]; exact X.1.1) hmY hcY (by show fr y + 1 ≤ R.frames; rw [hRf]; exact hfr) (by
        rw [hlY, hRl]
        show 2 * (F0 m pc ls (rest.map (jtv ad g))).monitorRoom + ((rest.map (jtv ad g)).map fun v => v.category).sum + ((P.2.2.2.2.1 y).2.2.2.2.2.1 + 11) + lo y ≤ lo j
        omega) hf.1 hf.2) (atoms_intro fun w hw => hws w hw _ _ X₁.warmed)
  obtain ⟨mid, hmid⟩ := X₁.here.above
  have hfrs : ((T.setVm vm₁).setTop (F0 m pc ls (rest.map (jtv ad g)))).frames = (.java (F0 m pc ls (rest.map (jtv ad g))) :: mid) ++ below := by rw [State.frames_setTop' _ X₁.here.top, hmid]; rfl
  have hPre : va_Pc ((Value.ref b :: As).map (jtv ad g)) (fun U => jEv D cl g base tys G zt zq Ns ao U ∧ va_P D cl (jws kid g ad μ) U.heap ∧ va_D (fun q => base ≤ q) (jws kid g ad μ)) (Value.ref (ad b) :: As.map (jtv ad g)).toArray ((T.setVm vm₁).calling (F0 m pc ls (rest.map (jtv ad g))) mk (Value.ref (ad b) :: As.map (jtv ad g)).toArray) :=
    ⟨rfl, hE.moved hnest (U := (T.setVm vm₁).calling (F0 m pc ls (rest.map (jtv ad g))) mk (Value.ref (ad b) :: As.map (jtv ad g)).toArray) X₁.warmed (by show s.heap.size ≤ T.heap.size; rw [hT]; exact hS.1) (fun q h1 h2 => by show T.heap[q]? = _; rw [hT]; exact hS.2.1 q h1 h2), by show va_P D cl (jws kid g ad μ) T.heap; rw [hT]; exact X.2.2.2.1, X.2.2.2.2.1⟩
  obtain ⟨o, s₂, hsteps, -, hend, hq⟩ := Steps.callFree (hC ad) p X₁.admits X₁.cas X₁.clock (acts := []) (m := mk) (args := (Value.ref (ad b) :: As.map (jtv ad g)).toArray) hfrs happ hPre trivial
  rw [State.frames_setTop' _ X₁.here.top, X₁.tail] at hend
  obtain ⟨⟨⟨ad', ha', hP', hD', hC', a, ce, rfl, hce, hnst, hfc⟩, hF⟩, L, hFE, hL⟩ := hq
  obtain ⟨T', X', hWT, hBT, ht⟩ := X₁.outOfThrown (g := F0 m pc ls (rest.map (jtv ad g))) rfl (mk := mk) (a := (Value.ref (ad b) :: As.map (jtv ad g)).toArray) hend hFE.1 hFE.2
  have hTh : T'.heap = s₂.heap := by rw [ht]; exact (Stand.throwing_heap T' _ a).symm
  have hTv : T'.vm = s₂.vm := by rw [ht]; exact (Stand.throwing_vm T' _ a).symm
  have hfcs : s.vm.findClass (xn x) = some ce.cls := by rw [← hTv, X'.warmed.alike.findClass] at hfc; exact hfc
  have hpl : e.platform.magicAccessors = ({} : Platform).magicAccessors := by rw [XX.admits.platform]
  have hrows : jRows e.platform s m.cls pc ce.cls h0 c.exceptionTable.toList := jx_rows hpl hown hts hE.2.2.2.2.2.2.2 hfcs _ (by rw [htab]; exact hrt)
  have hk0 : ∃ k, s.vm.classes[ce.cls]? = some k := Vm.classAt_of_findClass hfcs
  obtain ⟨vm', X'', hst2⟩ := jx_caught X' (f := F0 m pc ls (rest.map (jtv ad g))) rfl (a := a) (cell := ce) (by rw [hTh]; exact hce) hnst hk0 hrows
  have hz1 : H.size ≤ T'.heap.size := by
    have h1 : T.heap.size ≤ s₂.heap.size := hF.1
    rw [hTh, ← hT]
    exact h1
  have hS' : va_S (fun q => base ≤ q) s.heap T'.heap (locs ++ L) := by
    refine ⟨Nat.le_trans hS.1 hz1, fun q h1 h2 => ?_, fun q hq => ?_⟩
    · have h3 : s₂.heap[q]? = T.heap[q]? := hF.2 q (by show q < T.heap.size; rw [hT]; exact Nat.lt_of_lt_of_le h1 hS.1) h2
      rw [hTh, h3, hT]
      exact hS.2.1 q h1 h2
    · rcases List.mem_append.mp hq with h | h
      · exact hS.2.2 q h
      · exact hL q h
  have hlv : lv_has ls (P.2.2.2.2.1 j).2.2.2.2.2.1 (jlt ad' g lv) := by rw [jlt_eq ha' X.2.1]; exact X.1
  have hgo : ∀ ls' : Array Slot, lv_has ls' (P.2.2.2.2.1 j).2.2.2.2.2.1 ((z, Value.ref a) :: (jlt ad' g lv).filter (fun q => !(q.1 == z) && !(q.1 + 1 == z && q.2.category == 2))) → W p l e R s m args below meth c T'.heap (locs ++ L) (cells + (μ'.2.2.1 - μ.2.2.1)) (slots + (μ'.2.2.2 - μ.2.2.2)) Q (F0 m h ls' []) := by
    intro ls' hl'
    have hl2 : lv_has ls' (P.2.2.2.2.1 j).2.2.2.2.2.1 (jlt ad' g (jdrop lv z)) := by
      refine ⟨hl'.1, hl'.2.1, fun q hq => hl'.2.2 q (List.mem_cons_of_mem _ ?_)⟩
      rw [jlt_filter ad' g lv (fun a b => !(a == z) && !(a + 1 == z && b == 2))]
      exact hq
    exact K T'.heap (locs ++ L) _ _ ls' ad' ⟨hl2, (X.2.1.mono hle.1).drop z, trivial, by rw [hTh]; exact hP', hD', hC', hS', by omega, by omega, Nat.le_trans X.2.2.2.2.2.2.2.2.2.1 hle.1, fun i hi => (ha' i (Nat.lt_of_lt_of_le hi X.2.2.2.2.2.2.2.2.2.1)).trans (X.2.2.2.2.2.2.2.2.2.2 i hi)⟩
  have w0 : W p l e R s m args below meth c T'.heap (locs ++ L) (cells + (μ'.2.2.1 - μ.2.2.1)) (slots + (μ'.2.2.2 - μ.2.2.2)) Q (F0 m h0 ls [.ref a]) := by
    rcases hst0 with ⟨hd0, rfl⟩ | ⟨z', rfl, hd0, rfl⟩
    · exact lv_astore hx hb hd0 hlv hz rfl hgo
    · exact lv_astore_n hx hb hd0 rfl hlv hz rfl hgo
  obtain ⟨t2, a1, b1⟩ := w0 (T'.setVm vm') rfl X''
  refine ⟨t2, hstep₁ _ (fun acts => ?_), b1⟩
  rw [doInvoke_state]
  refine hsteps.trans ?_
  rw [ht]
  exact hst2 _ a1
end JCA
