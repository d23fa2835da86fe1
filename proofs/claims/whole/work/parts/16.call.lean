/-! Returns and calls: a body of the pure machine is a body of the machine. -/
/-- what the printed tables must say of the program: names, bytes, handlers, rooms; all that the words of the claim decide -/
def jOK (P : jT) (cl : List vw_C) (ka : List Nat) (nM : Nat) (nm : Nat → MethodName) (bt : Nat → ByteArray) (rt : Nat → Option FieldType) (hh : Nat → List (Nat × Nat × Nat × Nat)) (fr lo np : Nat → Nat) (Ws Ns : List Cond) : Prop :=
  (∀ w ∈ Ws, (w.onTables && w.keeps) = true ∨ ∃ ty, w = .arrayClass ty) ∧ (∀ w ∈ Ns, jNest w) ∧
  (∀ j pc i, P.1 j pc = some i → ∃ len, decode (bt j) pc = .ok (i, len) ∧ (jlen i = 0 ∨ len = jlen i)) ∧
  (∀ j, j < nM → plainName (nm j).cls = true ∧ (Cond.code (nm j) (bt j) (P.2.2.2.2.1 j).2.2.2.2.2.1 (rt j) ∈ Ws ∨ Cond.codeWith (nm j) (bt j) (P.2.2.2.2.1 j).2.2.2.2.2.1 (rt j) (hh j) ∈ Ws) ∧
    (match P.2.2.2.2.2 j with
      | 0 => rt j = some .int
      | 1 => rt j = some .boolean
      | 2 => rt j = some .long
      | 3 => (∃ n, rt j = some (.object n)) ∨ ∃ t, rt j = some (.array t)
      | _ => rt j = none)) ∧
  (∀ j pc i k, j < nM → P.1 j pc = some i → jcix i = some k → ∀ n rc, P.2.2.2.1 j k = some (0, n, rc) → i = .invokespecial k ∧ Cond.methodLink (nm j).cls k Lib.objectInit ∈ Ws ∧ Cond.instanceMethod Lib.objectInit ∈ Ws ∧ Cond.code Lib.objectInit ⟨#[0xb1]⟩ 1 none ∈ Ws ∧ 1 ≤ fr j ∧ 20 ≤ lo j) ∧
  (∀ j pc i k, j < nM → P.1 j pc = some i → jcix i = some k → ∀ n rc, P.2.2.2.1 j k = some (1, n, rc) → i = .invokestatic k ∧ Cond.methodLink (nm j).cls k arraycopyName ∈ Ws ∧ Cond.native arraycopyName ∈ Ws ∧ Cond.static arraycopyName ∈ Ws ∧ Cond.initialized "java/lang/System" ∈ Ws ∧ 1 ≤ fr j ∧ 8 + (nativeFrameWords "java/lang/System" "arraycopy" 5 + 11) ≤ lo j) ∧
  (∀ j pc i k, j < nM → P.1 j pc = some i → jcix i = some k → ∀ y n rc, P.2.2.2.1 j k = some (y + 2, n, rc) →
    y < nM ∧ fr y + 1 ≤ fr j ∧ 8 + ((P.2.2.2.2.1 y).2.2.2.2.2.1 + 11) + lo y ≤ lo j ∧ ((nm y).cls ≠ "java/lang/invoke/MethodHandle" ∧ (nm y).cls ≠ "java/lang/invoke/VarHandle") ∧ Cond.initialized (nm y).cls ∈ Ws ∧ (parseMethodDescriptor (nm y).desc).map (fun d => d.parameters.length) = some (np y) ∧
    (Cond.methodLink (nm j).cls k (nm y) ∈ Ws ∨ ((∃ host, Cond.methodLinkNest (nm j).cls k (nm y) host ∈ Ns) ∧ Cond.code (nm y) (bt y) (P.2.2.2.2.1 y).2.2.2.2.2.1 (rt y) ∈ Ws)) ∧
    ((i = .invokestatic k ∧ rc = none ∧ n = np y ∧ Cond.static (nm y) ∈ Ws) ∨
     (i = .invokespecial k ∧ (∃ c, rc = some c) ∧ n = np y + 1 ∧ (nm y).name = "<init>" ∧ Cond.instanceMethod (nm y) ∈ Ws ∧ rt y = none ∧ Cond.code (nm y) (bt y) (P.2.2.2.2.1 y).2.2.2.2.2.1 (rt y) ∈ Ws) ∨
     (i = .invokevirtual k ∧ (∃ c r, rc = some c ∧ cl[c]? = some r ∧ r.1 = (nm y).cls) ∧ n = np y + 1 ∧ Cond.instanceMethod (nm y) ∈ Ws ∧ Cond.selects (nm y).cls (nm y) (nm y) ∈ Ws ∧ Cond.code (nm y) (bt y) (P.2.2.2.2.1 y).2.2.2.2.2.1 (rt y) ∈ Ws)))
section JC
variable {p : Program} {l : Launch} {e : Env} {R : Room} {s : State} {m : MethodId} {args : Array Value} {below : List Frame} {meth : Method} {c : Code} {cc : ByteArray} {own : String} {D : va_G} {cl : List vw_C} {kid g : Nat → Nat} {base : Nat} {ka : List Nat} {kt : Nat → FieldType} {tys : List (ClassId × FieldType)} {G : jG} {B : jB} {k0 z0 kE zE n0 nL : Nat} {ad0 : Nat → Nat} {pc : Nat} {lv : jL} {st : List Value} {μ : jS} {xn : Nat → String} {Q : State → Prop}
/-- a return -/
theorem jc_ret {i : Instr} {len kr : Nat} {v : Option Value} {ret : Option FieldType} (hx : p.tables.exec = Jvm.exec) (hb : c.code = cc) (hd : decode cc pc = .ok (i, len)) (hlen : jlen i = 0 ∨ len = jlen i) (hlocks : meth.locks = false) (hr : meth.sig.returnType = ret) (hk : match kr with
      | 0 => ret = some .int
      | 1 => ret = some .boolean
      | 2 => ret = some .long
      | 3 => (∃ n, ret = some (.object n)) ∨ ∃ t, ret = some (.array t)
      | _ => ret = none) (hv : jret kr i st = some v) (hkE : μ.2.2.1 = k0 + R.cells) (hzE : μ.2.2.2 = z0 + R.slots) :
    jWg p l e R s m args below meth c (jMQ below (jQc D cl kid g base ka xn n0 ad0 (.inl v, μ)) args s R.cells R.slots (fun q => base ≤ q)) D cl kid g base ka nL k0 z0 n0 ad0 pc lv st μ := by
  intro H locs cells slots ls ad X
  have hc1 : cells = R.cells := by have := X.2.2.2.2.2.2.2.1; omega
  have hs1 : slots = R.slots := by have := X.2.2.2.2.2.2.2.2.1; omega
  subst hc1
  subst hs1
  have hf : ∀ q ∈ locs, base ≤ q.base := X.2.2.2.2.2.2.1.2.2
  have hq : ∀ (w : Option Value), w = v → jcs μ.2.1 w.toList → ∀ t : State, t.heap = H → s.WarmedH t.vm → jQc D cl kid g base ka xn n0 ad0 (.inl v, μ) args s (.returned (w.map (jtv ad g))) t := by
    intro w hw hcs t ht hW
    subst hw
    exact ⟨⟨ad, X.2.2.2.2.2.2.2.2.2.2, by rw [ht]; exact X.2.2.2.1, X.2.2.2.2.1, X.2.2.2.2.2.1, rfl, hcs⟩, X.2.2.2.2.2.2.1.F ht⟩
  refine jW_imp (fun _ => jMQ.of) ?_
  unfold jret at hv
  split at hv
  · rcases hlen with z | rfl
    · exact absurd z (by simp [jlen])
    · split at hv
      · obtain ⟨h1, hv⟩ := jif_some hv
        cases hv
        have h1 : kr = 4 := Nat.eq_of_beq_eq_true h1
        subst h1
        exact W.vret hx hb (hr.trans hk) (hq none rfl trivial) hf hd hlocks
      · cases hv
  · rcases hlen with z | rfl
    · exact absurd z (by simp [jlen])
    · split at hv
      · rename_i x
        obtain ⟨h1, hv⟩ := jif_some hv
        cases hv
        rw [Bool.or_eq_true] at h1
        rcases h1 with h1 | h1
        · have h1 : kr = 0 := Nat.eq_of_beq_eq_true h1
          subst h1
          exact W.iret hx hb (hr.trans hk) (hq (some (.int x)) rfl (jcs.c trivial trivial)) hf hd hlocks
        · rw [Bool.and_eq_true, Bool.or_eq_true] at h1
          obtain ⟨h1, h2⟩ := h1
          have h1 : kr = 1 := Nat.eq_of_beq_eq_true h1
          subst h1
          refine W.zret (ty := .boolean) hx hb (hr.trans hk) ?_ (hq (some (.int x)) rfl (jcs.c trivial trivial)) hf hd hlocks
          rcases h2 with h2 | h2
          · rw [of_decide_eq_true h2]; rfl
          · rw [of_decide_eq_true h2]; rfl
      · cases hv
  · rcases hlen with z | rfl
    · exact absurd z (by simp [jlen])
    · split at hv
      · rename_i x
        obtain ⟨h1, hv⟩ := jif_some hv
        cases hv
        have h1 : kr = 2 := Nat.eq_of_beq_eq_true h1
        subst h1
        exact W.lret hx hb (hr.trans hk) (hq (some (.long x)) rfl (jcs.c trivial trivial)) hf hd hlocks
      · cases hv
  · rcases hlen with z | rfl
    · exact absurd z (by simp [jlen])
    · split at hv
      · rename_i x
        obtain ⟨h1, hv⟩ := jif_some hv
        cases hv
        have h1 : kr = 3 := Nat.eq_of_beq_eq_true h1
        subst h1
        have hk : (∃ n, ret = some (.object n)) ∨ ∃ t, ret = some (.array t) := hk
        obtain ⟨rty, hr1, hr2⟩ : ∃ rty, ret = some rty ∧ ((∃ n, rty = FieldType.object n) ∨ ∃ t, rty = FieldType.array t) := by
          rcases hk with ⟨n, h⟩ | ⟨t, h⟩
          · exact ⟨_, h, Or.inl ⟨n, rfl⟩⟩
          · exact ⟨_, h, Or.inr ⟨t, rfl⟩⟩
        exact W.aret hx hb (hr.trans hr1) hr2 (Or.inr ⟨ad x, rfl⟩) (hq (some (.ref x)) rfl (jcs.c X.2.2.1.h trivial)) hf hd hlocks
      · obtain ⟨h1, hv⟩ := jif_some hv
        cases hv
        have h1 : kr = 3 := Nat.eq_of_beq_eq_true h1
        subst h1
        have hk : (∃ n, ret = some (.object n)) ∨ ∃ t, ret = some (.array t) := hk
        obtain ⟨rty, hr1, hr2⟩ : ∃ rty, ret = some rty ∧ ((∃ n, rty = FieldType.object n) ∨ ∃ t, rty = FieldType.array t) := by
          rcases hk with ⟨n, h⟩ | ⟨t, h⟩
          · exact ⟨_, h, Or.inl ⟨n, rfl⟩⟩
          · exact ⟨_, h, Or.inr ⟨t, rfl⟩⟩
        exact W.aret hx hb (hr.trans hr1) hr2 (Or.inl rfl) (hq (some .null) rfl (jcs.c trivial trivial)) hf hd hlocks
      · cases hv
  · cases hv
/-- Object's constructor -/
theorem jc_obj {k a : Nat} {rest : List Value} (hx : p.tables.exec = Jvm.exec) (hb : c.code = cc) (hml : c.maxLocals = nL) (hown : s.vm.findClass own = some m.cls) (hd : decode cc pc = .ok (.invokespecial k, 3)) (hl : (Cond.methodLink own k Lib.objectInit).before args s = true) (hi : (Cond.instanceMethod Lib.objectInit).before args s = true) (hc : (Cond.code Lib.objectInit ⟨#[0xb1]⟩ 1 none).before args s = true) (hfr : 1 ≤ R.frames) (hlo : 20 ≤ R.locals) (hst : st = .ref a :: rest) (h8 : (rest.map fun v => v.category).sum ≤ 8)
    (K : jWg p l e R s m args below meth c Q D cl kid g base ka nL k0 z0 n0 ad0 (pc + 3) lv rest μ) : jWg p l e R s m args below meth c Q D cl kid g base ka nL k0 z0 n0 ad0 pc lv st μ := by
  intro H locs cells slots ls ad X
  subst hst
  have hsum : ((rest.map (jtv ad g)).map fun v => v.category).sum ≤ 8 := by rw [jcat_map]; exact h8
  refine W.objInit hx hb hown hl hi hc (g := F0 m pc ls ((Value.ref a :: rest).map (jtv ad g))) rfl (by rw [hml]; exact X.1.1) (a := ad a) (rest := rest.map (jtv ad g)) rfl hd hfr ?_ ?_
  · have := lv_room (m := m) (pc := pc) (ls := ls) (rest := (Value.ref a :: rest).map (jtv ad g)) hsum
    omega
  · exact K H locs cells slots ls ad (X.sta X.2.2.1.t)
/-- arraycopy -/
theorem jc_cpy {k : Nat} {as rest : List Value} {μ' : jS} (F : jFx p R s m args meth c cc own D cl kid g base ka kt tys G B k0 z0 kE zE) (hml : c.maxLocals = nL) (hd : decode cc pc = .ok (.invokestatic k, 3)) (hl : (Cond.methodLink own k arraycopyName).before args s = true) (hnat : (Cond.native arraycopyName).before args s = true) (hsta : (Cond.static arraycopyName).before args s = true) (hini : (Cond.initialized "java/lang/System").before args s = true) (hfr : 1 ≤ R.frames) (hlo : 8 + (nativeFrameWords "java/lang/System" "arraycopy" 5 + 11) ≤ R.locals) (hst : st = as.reverse ++ rest) (h8 : (rest.map fun v => v.category).sum ≤ 8) (hm : jcpy μ as = some μ')
    (K : jWg p l e R s m args below meth c Q D cl kid g base ka nL k0 z0 n0 ad0 (pc + 3) lv rest μ') : jWg p l e R s m args below meth c Q D cl kid g base ka nL k0 z0 n0 ad0 pc lv st μ := by
  intro H locs cells slots ls ad X
  obtain ⟨hx, hb, hown, hK, hkt, -⟩ := F
  have hsum : ((rest.map (jtv ad g)).map fun v => v.category).sum ≤ 8 := by rw [jcat_map]; exact h8
  unfold jcpy at hm
  split at hm
  · rename_i a sp b dp n
    subst hst
    have hcs : jcs μ.2.1 (.int n :: .int dp :: .ref b :: .int sp :: .ref a :: rest) := X.2.2.1
    have hb' : b < μ.2.1 := hcs.t.t.h
    have ha' : a < μ.2.1 := hcs.t.t.t.t.h
    split at hm
    · rename_i k1 n1 f1 k2 n2 f2 hma hmb
      obtain ⟨h1, hm⟩ := jif_some hm
      cases hm
      obtain ⟨q1, q2, q3, q4, q5⟩ := of_decide_eq_true h1
      have e1 : k1 = 0 := by have := X.2.2.2.2.2.1 a ha'; rw [hma] at this; exact this
      have e2 : k2 = 0 := by have := X.2.2.2.2.2.1 b hb'; rw [hmb] at this; exact this
      subst e1
      subst e2
      obtain ⟨t0, ht⟩ := hkt.1 0 hkt.2.2.2.2.1
      rw [hkt.2.1] at ht
      exact va_copyi (rest := rest.map (jtv ad g)) hx hb (by rw [hml]; exact X.1.1.symm) hown hl hnat hsta hini hK X.2.2.2.1 X.2.2.2.2.1 X.2.2.2.2.2.2.1 a b t0 t0 (jws_at (kid := kid) (g := g) (ad := ad) ha' hma) (jws_at (kid := kid) (g := g) (ad := ad) hb' hmb) ht ht rfl q1 q2 q3 q4 q5 (fun _ _ => rfl) hfr (by omega) hd
        (fun H1 locs1 hP1 hD1 hS1 => K H1 locs1 cells slots ls ad (X.put (e := .inl (0, n2, .inl (va_cpy f1 f2 sp.toNatClampNeg dp.toNatClampNeg n.toNatClampNeg))) hcs.t.t.t.t.t rfl hP1 hD1 hS1))
    · rename_i k1 n1 f1 k2 n2 f2 hma hmb
      obtain ⟨h1, hm⟩ := jif_some hm
      cases hm
      obtain ⟨q1, q2, q3, q4, q5⟩ := of_decide_eq_true h1
      have e1 : k1 = 1 := by have := X.2.2.2.2.2.1 a ha'; rw [hma] at this; exact this
      have e2 : k2 = 1 := by have := X.2.2.2.2.2.1 b hb'; rw [hmb] at this; exact this
      subst e1
      subst e2
      obtain ⟨t0, ht⟩ := hkt.1 1 hkt.2.2.2.2.2
      rw [hkt.2.2.1] at ht
      exact va_copyl (rest := rest.map (jtv ad g)) hx hb (by rw [hml]; exact X.1.1.symm) hown hl hnat hsta hini hK X.2.2.2.1 X.2.2.2.2.1 X.2.2.2.2.2.2.1 a b t0 t0 (jws_at (kid := kid) (g := g) (ad := ad) ha' hma) (jws_at (kid := kid) (g := g) (ad := ad) hb' hmb) ht ht rfl q1 q2 q3 q4 q5 (fun _ _ => rfl) hfr (by omega) hd
        (fun H1 locs1 hP1 hD1 hS1 => K H1 locs1 cells slots ls ad (X.put (e := .inl (1, n2, .inr (.inl (va_cpy f1 f2 sp.toNatClampNeg dp.toNatClampNeg n.toNatClampNeg)))) hcs.t.t.t.t.t rfl hP1 hD1 hS1))
    · cases hm
  · cases hm
/-- behind a call that returned -/
theorem jc_back {rest : List Value} {v : Option Value} {μ' : jS} {mc ms : Nat} {a : Array Value} {H : Heap} {locs : List Loc} {cells slots : Nat} {ls : Array Slot} {ad : Nat → Nat} {st0 : List Value}
    (hr : va_Run p l e R s m args below meth c H locs cells slots mc ms (F0 m pc ls st0) (rest.map (jtv ad g)) (jQc D cl kid g base ka xn μ.2.1 ad (.inl v, μ') a) (fun q => base ≤ q))
    (X : jCx D cl kid g base ka s nL k0 z0 n0 ad0 lv st μ H locs cells slots ls ad) (hrest : jcs μ.2.1 rest) (hle : jle μ μ') (hmc : μ'.2.2.1 = μ.2.2.1 + mc) (hms : μ'.2.2.2 = μ.2.2.2 + ms)
    (K : jWg p l e R s m args below meth c Q D cl kid g base ka nL k0 z0 n0 ad0 (pc + 3) lv (v.toList ++ rest) μ') : W p l e R s m args below meth c H locs cells slots Q (F0 m pc ls st0) := by
  intro T hT XX
  obtain ⟨v', st₀, t, T', L, h0, X', hL, e1, e2, ⟨⟨ad', ha, hP', hD', hC', hoc, hcv⟩, hF⟩, stp⟩ := hr T hT XX
  have hv : v' = v.map (jtv ad' g) := by injection hoc
  subst hv
  have hz1 : H.size ≤ t.heap.size := by have := hF.1; rw [h0] at this; exact this
  have hS' : va_S (fun q => base ≤ q) s.heap T'.heap (locs ++ L) := by
    refine ⟨Nat.le_trans X.2.2.2.2.2.2.1.1 (by rw [e1]; exact hz1), fun q h1 h2 => ?_, fun q hq => ?_⟩
    · have hq := hF.2 q (by rw [h0]; exact Nat.lt_of_lt_of_le h1 X.2.2.2.2.2.2.1.1) h2
      rw [h0] at hq
      rw [e1, hq]
      exact X.2.2.2.2.2.2.1.2.1 q h1 h2
    · rcases List.mem_append.mp hq with h | h
      · exact X.2.2.2.2.2.2.1.2.2 q h
      · exact hL q h
  have hK := K T'.heap (locs ++ L) (cells + mc) (slots + ms) ls ad' ⟨by rw [jlt_eq ha X.2.1]; exact X.1, X.2.1.mono hle.1, jcs_app.mpr ⟨hcv, jcs_mono hle.1 hrest⟩, by rw [e1]; exact hP', hD', hC', hS', by have := X.2.2.2.2.2.2.2.1; omega, by have := X.2.2.2.2.2.2.2.2.1; omega, Nat.le_trans X.2.2.2.2.2.2.2.2.2.1 hle.1, fun i hi => (ha i (Nat.lt_of_lt_of_le hi X.2.2.2.2.2.2.2.2.2.1)).trans (X.2.2.2.2.2.2.2.2.2.2 i hi)⟩ T' rfl X'
  obtain ⟨t2, a1, b1⟩ := hK
  refine ⟨t2, stp t2 ?_, b1⟩
  have e3 : (v.toList ++ rest).map (jtv ad' g) = (v.map (jtv ad' g)).toList ++ rest.map (jtv ad g) := by
    rw [List.map_append, jtvs_eq ha hrest]
    cases v <;> rfl
  rw [e3] at a1
  exact a1
end JC
