/-! THE CLAIM OUT OF ONE WALK OF THE LAW'S BODY. Your part is whole_start (and what it stands on); all else here is the same for every law, but numbers. -/
def R_law : String := "StrandRuntimeLaw"
def lw_P (b : Addr) (xs : List Int32) (args : Array Value) (s : State) : Prop := args = #[.ref b] ∧ s.IntsAt b xs ∧ xs.length ≤ 1536 ∧ (Jvm.Cond.and given_1 narrow_1).before args s = true
def lw_Q (_ : Array Value) (s : State) (o : Outcome) (t : State) : Prop := o = .returned (some (.int 1)) ∧ Framed s o t [] 601024 7293034
def lw_Z (below : List Frame) (a : Array Value) (s : State) : State → Prop := fun t => ∃ o, t.status = .running ∧ Ended t below o ∧ lw_Q a s o t
/-- what holds at the law's entry: the machine, the code, the tables' words (any of lw_tbl by 'hts w (by decide +kernel)'), the script of L ints xs at the cell b, what the Statement gives of the start (any of its parts by flat_of_before) -/
def lw_At (p : Program) (s : State) (m : MethodId) (meth : Method) (c : Code) (b L : Nat) (xs : Nat → Int32) : Prop :=
  p.tables.exec = Jvm.exec ∧ c.code = code ∧ meth.sig.returnType = ret ∧ c.maxLocals = 8 ∧ s.vm.findClass R_law = some m.cls ∧ (∀ w ∈ lw_tbl, w.before #[Value.ref b] s = true) ∧ va_X b L xs s s.heap ∧ b < s.heap.size ∧ meth.locks = false ∧ (Jvm.Cond.and given_1 narrow_1).before #[Value.ref b] s = true
/-- from the entry, for every script of at most 1536 ints, the law comes to its end with true, if the pure machine's run of it does -/
theorem whole_start {p : Program} {e : Env} {s : State} {m : MethodId} {below : List Frame} {meth : Method} {c : Code} (l : Launch) (hf : l.flags = flags0) {b L : Nat} {xs : Nat → Int32} (hlaw : jLaw L xs) (hcw : (Cond.code x code maxLocals ret).before #[Value.ref b] s = true) (hadm : l.admits e) (hmn : meth.name = x.name) (htab : c.exceptionTable.toList.map (fun h => (h.startPc, h.endPc, h.handlerPc, h.catchType)) = []) (htb : ∀ w ∈ tables_1, w.before #[Value.ref b] s = true) (C0 : lw_At p s m meth c b L xs) : W p l e room_1 s m #[Value.ref b] below meth c s.heap [] 0 0 (lw_Z below #[Value.ref b] s) (entryFrame m ([Value.ref b] : List Value).toArray 8) := by
  obtain ⟨hx, hb, hr, hml, hown, hts, hX, hbl, hlocks, hgv⟩ := C0
  have hWs : ∀ w ∈ jWs, w.before #[Value.ref b] s = true := by
    intro w hw
    rcases List.mem_cons.mp hw with rfl | hw
    · exact hcw
    · exact hts w (List.mem_filter.mp hw).1
  obtain ⟨D, kid, g, tys, hkt, hg0, hE⟩ := j_env hWs htb hX hbl hgv
  obtain ⟨t, ⟨o1, μ'⟩, hex, rfl, hc, hz⟩ := hlaw
  have hz' : μ'.2.2.2 ≤ 60000000 := Nat.le_trans hz (by decide)
  have key := j_sound (D := D) (kid := kid) (g := g) (base := s.heap.size) (G := jG0 L xs) (j_flags hf) hkt t 204 0 [(0, .float 0)] [] jμ0 (.inl (some (.int 1)), μ') hex (by decide) trivial (fun q hq => by
      have hq : q = (0, .float 0) := by simpa using hq
      rw [hq]
      show (0 : UInt32).toNat < 3
      decide) (fun i hi => absurd hi (Nat.not_lt_zero i)) hz' p e { frames := jfr 204, locals := jLo 204, cells := μ'.2.2.1, slots := μ'.2.2.2 } s m #[Value.ref b] below meth c 0 0 0 (fun _ => 0)
    ⟨hx, hb, hml, hown, hWs, hE, hmn, hlocks, hr, rfl, rfl, j_flags hf e hadm, htab⟩ (Nat.zero_add _).symm (Nat.zero_add _).symm
  refine jW_room (R' := { frames := jfr 204, locals := jLo 204, cells := μ'.2.2.1, slots := μ'.2.2.2 }) (by show jfr 204 ≤ room_1.frames; decide +kernel) (by show jLo 204 ≤ room_1.locals; decide +kernel) hc hz ?_
  have hl := lv_entry ([Value.ref b]) (n := 8) (Nat.le_of_ble_eq_true rfl)
  rw [lg_entry_eq]
  have hl2 : lv_has ((lg_sl [Value.ref b] ++ List.replicate (8 - (lg_sl [Value.ref b]).length) Slot.unset).toArray) 8 (jlt (fun _ => 0) g [(0, .float 0)]) := by
    have e1 : jlt (fun _ => 0) g [(0, .float 0)] = lv_args 0 [Value.ref b] := by
      show [(0, Value.ref (g (0 : UInt32).toNat))] = [(0, Value.ref b)]
      rw [show (0 : UInt32).toNat = 0 from rfl, hg0]
    rw [e1]
    exact hl
  have he : jws kid g (fun _ => 0) jμ0 = [] := rfl
  have hP0 : va_P D jCl (jws kid g (fun _ => 0) jμ0) s.heap := fun k q hk => by rw [he] at hk; simp at hk
  have hD0 : va_D (fun q => s.heap.size ≤ q) (jws kid g (fun _ => 0) jμ0) := ⟨fun i j p q hi _ _ => by rw [he] at hi; simp at hi, fun k q hk => by rw [he] at hk; simp at hk⟩
  have w := key s.heap [] 0 0 _ (fun _ => 0) ⟨hl2, (fun q hq => by
      have hq : q = (0, .float 0) := by simpa using hq
      rw [hq]
      show (0 : UInt32).toNat < 3
      decide), trivial, hP0, hD0, fun i hi => absurd hi (Nat.not_lt_zero i), va_S.rf, rfl, rfl, Nat.le_refl _, fun _ _ => rfl⟩
  refine jW_imp (fun t ht => ?_) w
  obtain ⟨oc, h1, h2, ⟨⟨ad, -, -, -, -, hoc, -⟩, -⟩, Lc, hFE, hL⟩ := ht
  have hoc : oc = .returned (some (.int 1)) := hoc
  subst hoc
  refine ⟨_, h1, h2, rfl, ⟨_, rfl⟩, hFE.1, hFE.2.weaken (fun q hq hlt => absurd (hL q hq) (Nat.not_le.mpr hlt)) hc hz⟩
set_option maxHeartbeats 4000000 in
theorem lw_walk (l : Launch) (hf : l.flags = flags0) (hlaw : ∀ L xs, L ≤ 1536 → jLaw L xs) (b : Addr) (xs : List Int32) : MetFree l x (headSpec (Jvm.Cond.code x code maxLocals ret :: tables_1) room_1) (lw_P b xs) (fun _ _ _ _ _ => True) lw_Q := by
  refine MetFree.of_bodyS (code := code) (maxLocals := maxLocals) (ret := ret) (by decide) ?_ ?_
  · intro args s m h hn
    obtain ⟨meth, c, h1, h2, h3, h4, h5, h6, -, -⟩ := Cond.code_spec hn (atoms_spec (ws := Jvm.Cond.code x code maxLocals ret :: tables_1) h _ List.mem_cons_self)
    exact ⟨meth, c, h1, h2, h3, h4, h5, h6⟩
  · intro p e s m args below meth c s₁ B hml0 hP _
    obtain ⟨rfl, hx, hbd, hgv⟩ := hP
    obtain ⟨scr, harrAt, hlist, hof, hsmall⟩ := hx
    obtain ⟨hcb, hkn, -, -⟩ := State.arrayAt?_spec harrAt
    have hown : s.vm.findClass R_law = some m.cls := findClass_of_methodNamed B.named
    have hts0 : ∀ c ∈ (Jvm.Cond.code x code maxLocals ret :: tables_1), c.before #[Value.ref b] s = true := atoms_spec (ws := Jvm.Cond.code x code maxLocals ret :: tables_1) B.pre
    have hts : ∀ w ∈ lw_tbl, w.before #[Value.ref b] s = true := k2_hts_sels lw_privs (fun w hw => hts0 w (List.mem_cons_of_mem _ hw)) lw_privs_ok
    have hml : c.maxLocals = 8 := B.maxLocals_eq (hts0 _ List.mem_cons_self)
    have X₀ : Stand p l e room_1 s m #[Value.ref b] below meth c s₁ [] 0 0 := Stand.of_body B
    have hh0 : s₁.heap = s.heap := by rw [B.state]; rfl
    have hsz : scr.slots.size = xs.length := by rw [← Array.length_toList, hlist, List.length_map]
    have hval : ∀ j : Nat, j < xs.length → scr.slots[j]? = some (.int (xs.getD j 0)) := fun j hj => by
      rw [← Array.getElem?_toList, hlist]
      simp [hj]
    have hbl : b < s.heap.size := (Array.getElem?_eq_some_iff.mp hcb).1
    have hX : va_X b xs.length (fun j => xs.getD j 0) s s.heap := ⟨scr, hcb, hof, hkn, hsz, hval⟩
    have K : W p l e room_1 s m #[Value.ref b] below meth c s₁.heap [] 0 0 (lw_Z below #[Value.ref b] s) (entryFrame m ([Value.ref b] : List Value).toArray 8) := by
      rw [hh0]
      have hcode : meth.code = some c := (Stand.of_body B).code
      have htab : c.exceptionTable.toList.map (fun h => (h.startPc, h.endPc, h.handlerPc, h.catchType)) = [] := by
        have hq := hts0 _ List.mem_cons_self
        have hq2 : (Cond.codeWith x code maxLocals ret []).before #[Value.ref b] s = true := by
          have e1 := Cond.code_iff_codeWith_nil (args := #[Value.ref b]) (first := s) (o := none) (s := s) (idx := []) (x := x) (bytes := code) (maxLocals := maxLocals) (ret := ret)
          unfold Cond.before Cond.holds at hq ⊢
          rw [← e1]
          exact hq
        obtain ⟨m9, meth9, c9, hn9, h1, h2, -, -, h3, -⟩ := Cond.codeWith_spec hq2
        cases B.named.symm.trans hn9
        cases B.method.symm.trans h1
        cases hcode.symm.trans h2
        exact h3
      exact whole_start l hf (hlaw _ _ hbd) (hts0 _ List.mem_cons_self) B.admits (name_of_methodNamed B.named B.method).1 htab (fun w hw => hts0 w (List.mem_cons_of_mem _ hw)) ⟨B.exec, B.bytes, B.returns, hml, hown, hts, hX, hbl, B.notSynchronized, hgv⟩
    obtain ⟨t, a1, o, b1, b2, b3⟩ := K s₁ rfl X₀
    exact ⟨t, o, a1, b1, b2, b3⟩
theorem lw_pre_spec {args : Array Value} {s : State} (h : (Jvm.Cond.and given_1 narrow_1).before args s = true) (hr : rest_1_c.before args s = true) : ∃ (b : Addr) (xs : List Int32), lw_P b xs args s := by
  have hs := flat_of_before _ h
  have hq := flat_of_before _ hr
  have hc : (Cond.count 1).before args s = true := hs _ (by decide +kernel)
  have harr : (Cond.arrayOf (.arg 0) .int).before args s = true := hs _ (by decide +kernel)
  have hle : (Cond.le (.length (.arg 0)) (.int 1536)).before args s = true := hs _ (by decide +kernel)
  have hlen : (Cond.isInt (.length (.arg 0))).before args s = true := hq _ (by decide +kernel)
  have hall : (Cond.all (.arg 0) (.isInt (.elem (.arg 0) (.index 0)))).before args s = true := hq _ (by decide +kernel)
  obtain ⟨b, xs, hb, hx⟩ := State.ints_of_pre rfl harr hlen hall
  have hsm : xs.length < 2 ^ 31 := hx.choose_spec.2.2.2
  have hev : (Term.length (.arg 0)).eval args s none [] s = some (.int xs.length.toInt32) := hx.length_eval hb
  have hv := Cond.le_ints hev (show (Term.int 1536).eval args s none [] s = some (.int 1536) from rfl)
  have hd : xs.length.toInt32 ≤ 1536 := by
    simpa [Cond.before, Cond.holds, hv] using hle
  have hN : xs.length ≤ 1536 := (Int32.ofNat_le_ofNat hsm (by decide)).mp (show Int32.ofNat xs.length ≤ Int32.ofNat 1536 from hd)
  exact ⟨b, xs, Cond.one_arg hc (show args[0]? = some (.ref b) from hb), hx, hN, h⟩
theorem lw_comes (l : Launch) (hfl : l.flags = flags0) (hlaw : ∀ L xs, L ≤ 1536 → jLaw L xs) : Comes l x (Jvm.Cond.code x code maxLocals ret :: tables_1) room_1 (fun tb e args s => Calls_1 tb e args s ∧ rest_1 tb e args s ∧ Pre_1 tb e args s)
    (fun _ _ args s o t => lw_Q args s o t) := by
  intro p e ha hc hk s m args below hf hfit hheap happ hpre
  obtain ⟨b, xs, hP⟩ := lw_pre_spec hpre.2.2 hpre.2.1
  obtain ⟨k, o, h1, h2, h3, hQ⟩ := lw_walk l hfl hlaw b xs p e ha hc hk s m args below hf ((Spec.applies_iff_loose hf).mp happ).1 hP trivial
  exact ⟨k, o, h1, h2, h3, hQ⟩
theorem lw_frame {s t : State} {o : Outcome} {args : Array Value} (h : Framed s o t [] 601024 7293034) :
    Framed s o t (fieldLocs frame_1_writes args s ++ arrayLocs frame_1_arrays args s ++ staticLocs frame_1_statics s) 601024 7293034 := h
theorem lw_limb (hlaw : ∀ L xs, L ≤ 1536 → jLaw L xs) (L : Cond) (hL : ∀ (args : Array Value) (s t : State), L.after args s (.returned (some (.int 1))) t = true) :
    ArmFor flags0 classFile x code maxLocals ret World_1 tables_1 room_1 Calls_1 rest_1 Pre_1
      (fun tb e a s o t => postC L tb e a s o t ∧ Framed s o t (fieldLocs frame_1_writes a s ++ arrayLocs frame_1_arrays a s ++ staticLocs frame_1_statics s) 601024 7293034) := by
  intro l hfl _ _ p e ha hc hk s m args below hf hfit hheap happ hpre
  obtain ⟨k, o, h1, h2, h3, rfl, hF⟩ := lw_comes l hfl hlaw p e ha hc hk s m args below hf hfit hheap happ hpre
  exact ⟨k, _, h1, h2, h3, hL args s _, lw_frame hF⟩
theorem j_vc (hlaw : ∀ L xs, L ≤ 1536 → jLaw L xs) : Claimed_1_1 ∧ Claimed_1_2 := ⟨lw_limb hlaw limb_1_1 (fun args s t => by simp [limb_1_1, Cond.after, Cond.holds, Cond.value]), lw_limb hlaw limb_1_2 (fun args s t => Cond.after_iff.mpr (by
  first | (rw [show limb_1_2 = Cond.eq .result (.int 1) from rfl, Cond.eq_ints (x := 1) (y := 1) rfl rfl]; simp; done) | (simp [limb_1_2, Cond.value, Term.eval]; done)))⟩
