/-! Calls by contract: static, special, virtual, plain and to nest mates; and static ones whose code has handlers. -/
/-- the contract of method j for one run of the pure machine -/
def jCt (l : Launch) (D : va_G) (cl : List vw_C) (kid g : Nat → Nat) (base : Nat) (ka : List Nat) (tys : List (ClassId × FieldType)) (G : jG) (zt : List (String × String × String × Nat)) (zq : List (String × String × String)) (Ns : List Cond) (ao : List String × List (String × String)) (xn : Nat → String) (nm : Nat → MethodName) (fr lo : Nat → Nat) (Ws : List Cond) (j : Nat) (as : List Value) (μ : jS) (o : jO) : Prop :=
  ∀ ad : Nat → Nat, jMet l (nm j) Ws { frames := fr j, locals := lo j, cells := o.2.2.2.1 - μ.2.2.1, slots := o.2.2.2.2 - μ.2.2.2 }
    (va_Pc (as.map (jtv ad g)) (fun U => jEv D cl g base tys G zt zq Ns ao U ∧ va_P D cl (jws kid g ad μ) U.heap ∧ va_D (fun q => base ≤ q) (jws kid g ad μ))) (jQc D cl kid g base ka xn μ.2.1 ad o) (o.2.2.2.1 - μ.2.2.1) (o.2.2.2.2 - μ.2.2.2) (fun q => base ≤ q)
section JRW
variable {p : Program} {l : Launch} {e : Env} {R : Room} {s : State} {m : MethodId} {args : Array Value} {below : List Frame} {meth : Method} {c : Code} {H : Heap} {locs : List Loc} {cells slots : Nat}
/-- va_runS for code with handlers -/
theorem jc_runSW {y : MethodName} {bytes cc : ByteArray} {maxL nL mc ms n index : Nat} {ret : Option FieldType} {hh : List (Nat × Nat × Nat × Nat)} {ws : List Cond} {rm : Room} {Pc : Array Value → State → Prop} {Qc : Array Value → State → Outcome → State → Prop} {free : Addr → Prop} {Ts : List Cond} {own : String} {As rest : List Value} {f : JFrame}
    (S : CallFix p m c cc nL s args Ts own) (hM : Met l y ws rm Pc Qc mc ms free) (hrc : rm.cells = mc) (hrs : rm.slots = ms) (hfr : rm.frames + 1 ≤ R.frames) (hlo : 8 + (maxL + 11) + rm.locals ≤ R.locals) (hws : ∀ w ∈ ws, ∀ (a' : Array Value) (U : State), s.WarmedH U.vm → w.before a' U = true) (hcode : Cond.codeWith y bytes maxL ret hh ∈ ws)
    (hini : (Cond.initialized y.cls).before args s = true) (hy : y.cls ≠ "java/lang/invoke/MethodHandle" ∧ y.cls ≠ "java/lang/invoke/VarHandle") (hlen : ∀ sig, parseMethodDescriptor y.desc = some sig → n = sig.parameters.length) (hl : (Cond.methodLink own index y).before args s = true) (hstat : (Cond.static y).before args s = true) (hp : PreS s H Pc As)
    (hg : f.method = m) (hn : As.length = n) (hsize : f.locals.size = nL) (hstack : f.stack = As.reverse ++ rest) (hW : 2 * f.monitorRoom + (rest.map fun v => v.category).sum ≤ 8) (hdg : decode cc f.pc = .ok (.invokestatic index, 3)) (hf : cells + mc ≤ R.cells ∧ slots + ms ≤ R.slots) :
    va_Run p l e R s m args below meth c H locs cells slots mc ms f rest (Qc As.toArray) free := by
  obtain ⟨hx, hb, hml, ho, -⟩ := S
  have hK : Back l R p e below s args y 3 8 (PreOf R mc ms Pc) (PostOf Qc mc ms free) := va_backW (bytes := bytes) (maxL := maxL) (ret := ret) (hh := hh) hM hp.1 hrc hrs hfr hlo hws hcode (fun a' U hW => word_at hW (Or.inl (by first | rfl | simp [Cond.onTables, Cond.keeps, Cond.steady])) hini)
  intro T hT X
  have hcode' := hws _ hcode args s (State.WarmedH.refl s)
  obtain ⟨mk, methM, cM, hnamed, hmethM, -, -, -, -, -, -, hsigM⟩ := Cond.codeWith_spec hcode'
  have hstatic : methM.isStatic = true := Cond.static_spec hnamed hmethM hstat
  obtain ⟨kP, hkP, -⟩ := className_of_methodNamed hnamed
  have hinitP : kP.init = .initialized := Cond.initialized_spec (findClass_of_methodNamed hnamed) hkP hini
  obtain ⟨vm₁, X₁, hstep₁⟩ := X.invokestatic hx ho hl hnamed hmethM hstatic hkP hinitP hy (g := f) hg (argsL := As) (rest := rest) (hn.trans (hlen _ hsigM)) hstack (by rw [hb]; exact hdg)
  obtain ⟨v, ⟨U', l2, c2, s2⟩, X', ⟨g', mk', t, L, e1, e2, hq, h1, hL, h2, h3⟩, hsteps⟩ := hK m meth c ⟨T.setVm vm₁, locs, cells, slots⟩ { f with stack := rest } (.invokestatic index) mk As.toArray X₁ hg (hsize.trans hml.symm) (by rw [hb]; exact hdg) hW (X₁.named hnamed) ⟨hf.1, hf.2, hp.2 (T.setVm vm₁) hT X₁.warmed⟩
  dsimp only [Pt.U, Pt.locs, Pt.cells, Pt.slots] at X' e1 e2 h1 h2 h3 hsteps
  subst h1; subst h2; subst h3
  exact ⟨v, (T.setVm vm₁).calling g' mk' As.toArray, t, U', L, hT, X', hL, e1, e2, hq, fun target h => hstep₁ _ fun acts => by rw [doInvoke_state]; exact hsteps.trans h⟩
end JRW
section JCC
variable {p : Program} {l : Launch} {e : Env} {R : Room} {s : State} {m : MethodId} {args : Array Value} {below : List Frame} {meth : Method} {c : Code} {D : va_G} {cl : List vw_C} {kid g : Nat → Nat} {base : Nat} {ka : List Nat} {tys : List (ClassId × FieldType)} {G : jG} {k0 z0 n0 : Nat} {ad0 : Nat → Nat} {pc : Nat} {lv : jL} {st : List Value} {μ : jS} {xn : Nat → String} {Q : State → Prop}
  {zt : List (String × String × String × Nat)} {zq : List (String × String × String)} {Ns Ws : List Cond} {ao : List String × List (String × String)} {P : jT} {nM : Nat} {nm : Nat → MethodName} {bt : Nat → ByteArray} {rt : Nat → Option FieldType} {hh : Nat → List (Nat × Nat × Nat × Nat)} {fr lo np : Nat → Nat}
theorem jc_call {j k y n : Nat} {ins : Instr} {rc : Option Nat} {as rest : List Value} {v : Option Value} {μ' : jS}
    (O : jOK P cl ka nM nm bt rt hh fr lo np Ws Ns) (hj : j < nM) (hI : P.1 j pc = some ins) (hk : jcix ins = some k) (hy : P.2.2.2.1 j k = some (y + 2, n, rc)) (ha : jarg n st [] = some (as, rest)) (hrec : jrec μ rc as = true) (h8 : (rest.map fun v => v.category).sum ≤ 8)
    (hx : p.tables.exec = Jvm.exec) (hb : c.code = bt j) (hml : c.maxLocals = (P.2.2.2.2.1 j).2.2.2.2.2.1) (hown : s.vm.findClass (nm j).cls = some m.cls) (hts : ∀ w ∈ Ws, w.before args s = true) (hE : jEv D cl g base tys G zt zq Ns ao s)
    (hRf : R.frames = fr j) (hRl : R.locals = lo j) (hd : ∃ len, decode (bt j) pc = .ok (ins, len) ∧ (jlen ins = 0 ∨ len = jlen ins)) (hkE : μ'.2.2.1 ≤ k0 + R.cells) (hzE : μ'.2.2.2 ≤ z0 + R.slots) (hle : jle μ μ')
    (hC : jCt l D cl kid g base ka tys G zt zq Ns ao xn nm fr lo Ws y as μ (.inl v, μ'))
    (K : jWg p l e R s m args below meth c Q D cl kid g base ka (P.2.2.2.2.1 j).2.2.2.2.2.1 k0 z0 n0 ad0 (pc + 3) lv (v.toList ++ rest) μ') : jWg p l e R s m args below meth c Q D cl kid g base ka (P.2.2.2.2.1 j).2.2.2.2.2.1 k0 z0 n0 ad0 pc lv st μ := by
  intro H locs cells slots ls ad X
  obtain ⟨hgood, hnest, -, hmeth, -, -, hcalls⟩ := O
  obtain ⟨hyM, hfr, hlo, hnh, hini, hnp, hlink, hkind⟩ := hcalls j pc ins k hj hI hk y n rc hy
  obtain ⟨hst, hasn⟩ := jarg_st ha
  have hmc : μ'.2.2.1 = μ.2.2.1 + (μ'.2.2.1 - μ.2.2.1) := by have := hle.2.1; omega
  have hms : μ'.2.2.2 = μ.2.2.2 + (μ'.2.2.2 - μ.2.2.2) := by have := hle.2.2; omega
  have hf : cells + (μ'.2.2.1 - μ.2.2.1) ≤ R.cells ∧ slots + (μ'.2.2.2 - μ.2.2.2) ≤ R.slots := by
    have h1 := X.2.2.2.2.2.2.2.1
    have h2 := X.2.2.2.2.2.2.2.2.1
    omega
  have hws : ∀ w ∈ Ws, ∀ (a' : Array Value) (U : State), s.WarmedH U.vm → w.before a' U = true := fun w hw a' U hW => word_at hW (hgood w hw) (hts w hw)
  have hM := (hC ad).toMet (fun a st o t h => by
    obtain ⟨⟨ad', -, -, -, -, ho, -⟩, -⟩ := h
    exact ⟨_, ho⟩)
  have hbl : FrameBlind (va_Pc (as.map (jtv ad g)) (fun U => jEv D cl g base tys G zt zq Ns ao U ∧ va_P D cl (jws kid g ad μ) U.heap ∧ va_D (fun q => base ≤ q) (jws kid g ad μ))) := fun a U f mk h => ⟨h.1, h.2.1.blind hnest f mk a, h.2.2⟩
  have hpre : ∀ U : State, U.heap = H → s.WarmedH U.vm → va_Pc (as.map (jtv ad g)) (fun U => jEv D cl g base tys G zt zq Ns ao U ∧ va_P D cl (jws kid g ad μ) U.heap ∧ va_D (fun q => base ≤ q) (jws kid g ad μ)) (as.map (jtv ad g)).toArray U := by
    intro U hU hW
    refine ⟨rfl, hE.moved hnest hW (by rw [hU]; exact X.2.2.2.2.2.2.1.1) (fun q h1 h2 => by rw [hU]; exact X.2.2.2.2.2.2.1.2.1 q h1 h2), by rw [hU]; exact X.2.2.2.1, X.2.2.2.2.1⟩
  have hlen : ∀ sig, parseMethodDescriptor (nm y).desc = some sig → np y = sig.parameters.length := by
    intro sig hs
    rw [hs] at hnp
    exact (Option.some.inj hnp).symm
  have hRf' : fr y + 1 ≤ R.frames := by rw [hRf]; exact hfr
  have hRl' : 8 + ((P.2.2.2.2.1 y).2.2.2.2.2.1 + 11) + lo y ≤ R.locals := by rw [hRl]; exact hlo
  have hS : CallFix p m c (bt j) (P.2.2.2.2.1 j).2.2.2.2.2.1 s args Ws (nm j).cls := ⟨hx, hb, hml, hown, hts⟩
  have hsize : (F0 m pc ls (st.map (jtv ad g))).locals.size = (P.2.2.2.2.1 j).2.2.2.2.2.1 := X.1.1
  have hsum : ((rest.map (jtv ad g)).map fun v => v.category).sum ≤ 8 := by rw [jcat_map]; exact h8
  have hW8 := lv_room (m := m) (pc := pc) (ls := ls) (rest := st.map (jtv ad g)) hsum
  have hstm : st.map (jtv ad g) = (as.map (jtv ad g)).reverse ++ rest.map (jtv ad g) := by rw [hst, List.map_append, List.map_reverse]
  have hcs : jcs μ.2.1 rest := by have := X.2.2.1; rw [hst] at this; exact (jcs_app.mp this).2
  have hcas : jcs μ.2.1 as := by have := X.2.2.1; rw [hst] at this; exact jcs_mem.mpr fun v hv => jcs_mem.mp (jcs_app.mp this).1 v (List.mem_reverse.mpr hv)
  obtain ⟨len, hd, hdl⟩ := hd
  have hasl : (as.map (jtv ad g)).length = n := by rw [List.length_map]; exact hasn
  rcases hkind with ⟨rfl, rfl, rfl, hsta⟩ | ⟨rfl, ⟨c1, rfl⟩, rfl, hin, hinst, hret, hcode⟩ | ⟨rfl, ⟨c1, r1, rfl, hr1, hr2⟩, rfl, hinst, hsel, hcode⟩
  · cases hk
    rcases hdl with z | rfl
    · exact absurd z (by simp [jlen])
    rcases hlink with hl | ⟨⟨host, hl⟩, hcode⟩
    · rcases (hmeth y hyM).2.1 with hcode | hcode
      · exact jc_back (va_runS hS hM ⟨⟨rfl, rfl, hRf', hRl', hws, hcode, hts _ hcode, hts _ hini, hnh, hlen, hts _ hl⟩, hts _ hsta⟩ ⟨hbl, hpre⟩ rfl hasl hsize hstm hW8 hd hf) X hcs hle hmc hms K
      · exact jc_back (jc_runSW hS hM rfl rfl hRf' hRl' hws hcode (hts _ hini) hnh hlen (hts _ hl) (hts _ hsta) ⟨hbl, hpre⟩ rfl hasl hsize hstm hW8 hd hf) X hcs hle hmc hms K
    · exact jc_back (va_runSN hS hM ⟨⟨⟨rfl, rfl, hRf', hRl', hws, hcode⟩, hts _ hcode, hts _ hini, hnh, hlen, (hE.2.2.2.2.2.1 _ hl).use rfl⟩, hts _ hsta, trivial⟩ ⟨hbl, hpre⟩ rfl hasl hsize hstm hW8 hd hf) X hcs hle hmc hms K
  · cases hk
    rcases hdl with z | rfl
    · exact absurd z (by simp [jlen])
    obtain ⟨b, As, fs, rfl, hmb⟩ := jrec_spec hrec
    rw [hret] at hcode
    have hstm' : st.map (jtv ad g) = (As.map (jtv ad g)).reverse ++ .ref (ad b) :: rest.map (jtv ad g) := by rw [hstm]; simp [jtv]
    have hAl : (As.map (jtv ad g)).length = np y := by simpa using hasl
    rcases hlink with hl | ⟨⟨host, hl⟩, -⟩
    · exact jc_back (va_runI (b := ad b) (As := As.map (jtv ad g)) hS hM ⟨⟨rfl, rfl, hRf', hRl', hws, hcode, hts _ hcode, hts _ hini, hnh, hlen, hts _ hl⟩, hin, hts _ hinst⟩ ⟨hbl, hpre⟩ rfl hAl hsize hstm' hW8 hd hf) X hcs hle hmc hms K
    · exact jc_back (va_runIN (b := ad b) (As := As.map (jtv ad g)) hS hM ⟨⟨⟨rfl, rfl, hRf', hRl', hws, hcode⟩, hts _ hcode, hts _ hini, hnh, hlen, (hE.2.2.2.2.2.1 _ hl).use rfl⟩, hin, hts _ hinst⟩ ⟨hbl, hpre⟩ rfl hAl hsize hstm' hW8 hd hf) X hcs hle hmc hms K
  · cases hk
    rcases hdl with z | rfl
    · exact absurd z (by simp [jlen])
    obtain ⟨b, As, fs, rfl, hmb⟩ := jrec_spec hrec
    have hstm' : st.map (jtv ad g) = (As.map (jtv ad g)).reverse ++ .ref (ad b) :: rest.map (jtv ad g) := by rw [hstm]; simp [jtv]
    have hAl : (As.map (jtv ad g)).length = np y := by simpa using hasl
    have hrcv := va_recv hE.1 X.2.2.2.1 hr1 (jws_at (kid := kid) (g := g) (ad := ad) hcas.h hmb)
    rw [hr2] at hrcv
    rcases hlink with hl | ⟨⟨host, hl⟩, -⟩
    · exact jc_back (va_runV (b := ad b) (As := As.map (jtv ad g)) hS hM ⟨⟨rfl, rfl, hRf', hRl', hws, hcode, hts _ hcode, hts _ hini, hnh, hlen, hts _ hl⟩, hts _ hinst, hts _ hsel⟩ ⟨hbl, hrcv, hpre⟩ rfl hAl hsize hstm' hW8 hd hf) X hcs hle hmc hms K
    · exact jc_back (va_runVN (b := ad b) (As := As.map (jtv ad g)) hS hM ⟨⟨⟨rfl, rfl, hRf', hRl', hws, hcode⟩, hts _ hcode, hts _ hini, hnh, hlen, (hE.2.2.2.2.2.1 _ hl).use rfl⟩, hts _ hinst, hts _ hsel⟩ ⟨hbl, hrcv, hpre⟩ rfl hAl hsize hstm' hW8 hd hf) X hcs hle hmc hms K
end JCC
