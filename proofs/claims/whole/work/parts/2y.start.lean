/-! From the claim's start to the pure machine's run of the law: the claim follows from 'jLaw' alone. -/
def jtk : List Int32 := [0, 0, 0, 1, 0, 1, 1, 1, 2, 2, 2, 2, 2, 2, 2, 1, 0, 1, 0, 1, 0, 0, 1, 2, 2, 3, 1, 0, 2, 1, 1, 0, 0, 1, 1, 1, 0]
def jpu : List Int32 := [1, 1, 1, 0, 1, 0, 2, 0, 2, 1, 1, 1, 1, 1, 1, 1, 0, 0, 1, 0, 0, 1, 1, 0, 1, 0, 1, 1, 0, 2, 0, 2, 0, 0, 0, 0, 1]
def jTk (i : Nat) : Int32 := jtk.getD i 0
def jPu (i : Nat) : Int32 := jpu.getD i 0
def jG0 (L : Nat) (xs : Nat → Int32) : jG := fun k => match k with
  | 0 => (L, xs)
  | 1 => (37, jTk)
  | 2 => (37, jPu)
  | _ => (0, fun _ => 0)
def jμ0 : jS := (fun _ => .inr (0, []), 0, 0, 0)
/-- **WHAT IS LEFT**: the pure machine's run of the law ends with true, within the claim's room -/
def jLaw (L : Nat) (xs : Nat → Int32) : Prop := jX (jG0 L xs) jP 204 0 [(0, .float 0)] [] jμ0 (fun o μ => o = .inl (some (.int 1)) ∧ μ.2.2.1 ≤ 601024 ∧ μ.2.2.2 ≤ 7293034)
theorem jtk_words : (List.range 37).all (fun j => decide (Cond.eq (.elem (.static "StrandRuntime" "TAKES" "[I") (.int (Int32.ofNat j))) (.int (jTk j)) ∈ flatC (Cond.and given_1 narrow_1))) = true := by decide +kernel
theorem jpu_words : (List.range 37).all (fun j => decide (Cond.eq (.elem (.static "StrandRuntime" "PUSHES" "[I") (.int (Int32.ofNat j))) (.int (jPu j)) ∈ flatC (Cond.and given_1 narrow_1))) = true := by decide +kernel
theorem ji_at {c : Nat} (h : c < 16) : Cond.instantiable (jcn c) (jfl c).length ∈ jWs := by
  have h1 : c ∈ jwi.map (fun e => e.1) := by rw [jwi_keys]; exact List.mem_range.mpr h
  obtain ⟨⟨a, n⟩, he, e⟩ := List.mem_map.mp h1
  have e : a = c := e
  subst e
  exact jat_in (List.all_eq_true.mp jwi_ok _ he)
theorem jao_at {C : String} (h : C ∈ jao.1) : Cond.arrayOver (.object C) ∈ tables_1 := by
  obtain ⟨h1, h2⟩ := jwao_ok
  obtain ⟨i, hi⟩ := List.getElem?_of_mem h
  have hl : i < jwao.length := by rw [h2]; exact (List.getElem?_eq_some_iff.mp hi).1
  have hz : (jwao.zip jao.1)[i]? = some (jwao[i], C) := by
    rw [List.getElem?_zip_eq_some]
    exact ⟨List.getElem?_eq_getElem hl, hi⟩
  have h3 := List.all_eq_true.mp h1 _ (List.mem_of_getElem? hz)
  have h4 := jatW_in h3
  rcases List.mem_append.mp h4 with z | z
  · obtain ⟨q, -, e⟩ := List.mem_map.mp z
    cases e
  · exact z
theorem jnc_words : jao.2.all (fun z => decide (Cond.not (.castable z.1 z.2) ∈ flatC (Cond.and given_1 narrow_1))) = true := by decide +kernel
theorem jin_tbl {w : Cond} (h : w ∈ lw_tbl) (hn : ∀ q : MethodName × Nat, Cond.selects q.1.cls q.1 q.1 ≠ w) : w ∈ tables_1 := by
  rcases List.mem_append.mp h with z | z
  · obtain ⟨q, -, e⟩ := List.mem_map.mp z
    exact absurd e (hn q)
  · exact z
theorem jst_words : Cond.laysStatic "StrandRuntime" "TAKES" "[I" ∈ tables_1 ∧ Cond.laysStatic "StrandRuntime" "PUSHES" "[I" ∈ tables_1 ∧ Cond.initialized "StrandRuntime" ∈ tables_1 ∧ Cond.initialized "java/lang/Throwable" ∈ tables_1 ∧ Cond.laysStatic "java/lang/Throwable" "UNASSIGNED_STACK" "[Ljava/lang/StackTraceElement;" ∈ tables_1 ∧ Cond.laysStatic "java/lang/Throwable" "SUPPRESSED_SENTINEL" "Ljava/util/List;" ∈ tables_1 := by
  have h := jw5
  simp only [Bool.and_eq_true] at h
  obtain ⟨a1, a2, a3, a4, a5, a6⟩ := h
  exact ⟨jin_tbl (jatW_in a1) (fun q e => by cases e), jin_tbl (jatW_in a2) (fun q e => by cases e), jin_tbl (jatW_in a3) (fun q e => by cases e), jin_tbl (jatW_in a4) (fun q e => by cases e), jin_tbl (jatW_in a5) (fun q e => by cases e), jin_tbl (jatW_in a6) (fun q e => by cases e)⟩
theorem jka_lt : ∀ k ∈ jka, k < 18 := by decide
theorem j_flags {l : Launch} (hf : l.flags = flags0) (e : Env) (h : l.admits e) : e.platform.stackTraces = false := by
  have h1 : e.platform.stackTraces = l.stackTraces := congrArg Platform.stackTraces h.platform
  rw [h1]
  unfold Launch.stackTraces
  rw [hf]
  decide +kernel
theorem jZs_of {args : Array Value} {s : State} {C n d : String} {A : Nat → Prop} (h0 : va_Zq C n d A s s.heap) (h : (Cond.laysStatic C n d).before args s = true) (hA : ∀ a : Nat, a < s.heap.size → ¬ A a) : jZs C n d A s s.heap := by
  obtain ⟨c, k, i, f, a, cell, h1, h2, h3, h4, h5, h6, h7, h8, h9⟩ := Cond.laysStatic_spec h
  exact ⟨h0, c, k, i, f, a, cell, h1, h2, h3, h4, h5, h6, h7, h8, h9, hA a (Array.getElem?_eq_some_iff.mp h5).1⟩
theorem j_env {s : State} {b L : Nat} {xs : Nat → Int32} (hts : ∀ w ∈ jWs, w.before #[Value.ref b] s = true) (htb : ∀ w ∈ tables_1, w.before #[Value.ref b] s = true) (hX : va_X b L xs s s.heap) (hbl : b < s.heap.size) (hgv : (Jvm.Cond.and given_1 narrow_1).before #[Value.ref b] s = true) :
    ∃ (D : va_G) (kid g : Nat → Nat) (tys : List (ClassId × FieldType)), jKt jCl kid jka jkt tys ∧ g 0 = b ∧ jEv D jCl g s.heap.size tys (jG0 L xs) jzt jzq jNs jao s := by
  have hs := flat_of_before _ hgv
  have hA : ∀ a : Nat, a < s.heap.size → ¬ s.heap.size ≤ a := fun a h => Nat.not_le.mpr h
  -- classes
  have hD0 : ∀ c : Nat, ∃ q : ClassId × (Nat → Nat), c < 16 → u_Kn s (jcn c) (jfT c) (jfl c).length q.1 q.2 := by
    intro c
    by_cases hc : c < 16
    · obtain ⟨cC, iS, h⟩ := u_known (N := (jfl c).length) hts (jcls hc).1 (hts _ (ji_at hc))
      exact ⟨(cC, iS), fun _ => h⟩
    · exact ⟨(0, fun _ => 0), fun z => absurd z hc⟩
  obtain ⟨fD, hD⟩ := Classical.axiomOfChoice hD0
  -- kinds of arrays
  have hO : ∀ c : Nat, jcn c ∈ jao.1 → ∃ id : Nat, ArrOfT s id (jkt (c + 2)) ∧ va_RA s id (jkt (c + 2)) := by
    intro c hc
    obtain ⟨comp, d, kA, f1, f2, f3, f4, f5⟩ := Cond.arrayOver_spec (htb _ (jao_at hc))
    exact ⟨d, fun n z => ⟨fun k h => (by cases h), kA, f3, comp, f4⟩, kA, comp, f3, f4, f1, f5⟩
  have hk0 : ∀ k : Nat, ∃ id : Nat, k ∈ jka → ArrOfT s id (jkt k) ∧ va_RA s id (jkt k) := by
    intro k
    by_cases hk : k ∈ jka
    · have h1 : ∃ id : Nat, ArrOfT s id (jkt k) ∧ va_RA s id (jkt k) := by
        have hk' : k = 0 ∨ k = 1 ∨ k = 2 + 2 ∨ k = 10 + 2 ∨ k = 11 + 2 ∨ k = 12 + 2 ∨ k = 13 + 2 ∨ k = 14 + 2 := by simpa [jka] using hk
        rcases hk' with rfl | rfl | rfl | rfl | rfl | rfl | rfl | rfl
        · obtain ⟨d, kA, comp, h1, h2, h3⟩ := Cond.arrayClass_spec (hts _ jw4'.2.2.2.2.2.1)
          exact ⟨d, fun n z => ⟨fun k h => (by cases h), kA, h2, comp, h3⟩, h1⟩
        · obtain ⟨d, kA, comp, h1, h2, h3⟩ := Cond.arrayClass_spec (hts _ jw4'.2.2.2.2.2.2)
          exact ⟨d, fun n z => ⟨fun k h => (by cases h), kA, h2, comp, h3⟩, h1⟩
        · exact hO 2 (by decide)
        · exact hO 10 (by decide)
        · exact hO 11 (by decide)
        · exact hO 12 (by decide)
        · exact hO 13 (by decide)
        · exact hO 14 (by decide)
      obtain ⟨id, h⟩ := h1
      exact ⟨id, fun _ => h⟩
    · exact ⟨0, fun z => absurd z hk⟩
  obtain ⟨kid, hkid⟩ := Classical.axiomOfChoice hk0
  -- given arrays
  obtain ⟨w7, w2, w3, w4, w5, w6⟩ := jst_words
  obtain ⟨t1, e1, T1⟩ := va_Tof (args := #[Value.ref b]) (s := s) (tm := .static "StrandRuntime" "TAKES" "[I") (ty := .int) (N := 37) (f := fun j => .int (jTk j)) (A := fun q => s.heap.size ≤ q) (by decide) (hs _ (by decide +kernel)) (va_eqt (hs _ (by decide +kernel))) (fun j hj => va_eqt (hs _ (of_decide_eq_true (jall jtk_words hj)))) hA
  obtain ⟨t2, e2, T2⟩ := va_Tof (args := #[Value.ref b]) (s := s) (tm := .static "StrandRuntime" "PUSHES" "[I") (ty := .int) (N := 37) (f := fun j => .int (jPu j)) (A := fun q => s.heap.size ≤ q) (by decide) (hs _ (by decide +kernel)) (va_eqt (hs _ (by decide +kernel))) (fun j hj => va_eqt (hs _ (of_decide_eq_true (jall jpu_words hj)))) hA
  refine ⟨(fun c => (fD c).1, fun c => (fD c).2), kid, fun k => match k with
    | 0 => b
    | 1 => t1
    | _ => t2, jka.map fun k => (kid k, jkt k), ?_, rfl, ?_⟩
  · refine ⟨fun k hk => ?_, rfl, rfl, fun c hc => ⟨_, jCl_get (by have := jka_lt _ hc; omega), rfl⟩, by decide, by decide⟩
    exact List.getElem?_of_mem (List.mem_map.mpr ⟨k, hk, rfl⟩)
  · refine ⟨⟨fun c q hc => ?_, fun k q hk => ?_⟩, Nat.le_refl _, fun k hk => ?_, fun z hz => ?_, fun z hz => ?_, fun w hw => ?_, fun C hC => ?_, fun z hz => ?_⟩
    · have hc16 : c < 16 := by
        have := (List.getElem?_eq_some_iff.mp hc).1
        simpa [jCl] using this
      rw [jCl_get hc16] at hc
      cases hc
      exact hD c hc16
    · obtain ⟨k', hk', rfl⟩ := List.mem_map.mp (List.mem_of_getElem? hk)
      exact hkid k' hk'
    · rcases (show k = 0 ∨ k = 1 ∨ k = 2 by omega) with rfl | rfl | rfl
      · obtain ⟨scr, h1, h2, h3, h4, h5⟩ := hX
        exact ⟨scr, h1, h2, h3, Nat.le_of_eq h4.symm, (by rw [h4]; rfl), h5, hA b hbl⟩
      · exact T1
      · exact T2
    · have hz' : z = ("StrandRuntime", "TAKES", "[I", 1) ∨ z = ("StrandRuntime", "PUSHES", "[I", 2) := by simpa [jzt] using hz
      rcases hz' with rfl | rfl
      · exact va_Zref (htb _ w7) (htb _ w3) e1 hA
      · exact va_Zref (htb _ w2) (htb _ w3) e2 hA
    · have hz' : z = ("java/lang/Throwable", "UNASSIGNED_STACK", "[Ljava/lang/StackTraceElement;") ∨ z = ("java/lang/Throwable", "SUPPRESSED_SENTINEL", "Ljava/util/List;") := by simpa [jzq] using hz
      rcases hz' with rfl | rfl
      · exact jZs_of (va_Zqof (htb _ w5) (htb _ w4) (hs _ (by decide +kernel)) hA) (htb _ w5) hA
      · exact jZs_of (va_Zqof (htb _ w6) (htb _ w4) (hs _ (by decide +kernel)) hA) (htb _ w6) hA
    · have hm := List.mem_filter.mp hw
      have ho : w.onTables = true := by
        rcases jNs_nest w hw with ⟨a, i, c, n, d, h, rfl⟩ | ⟨a, i, y, h, rfl⟩ | h
        · rfl
        · rfl
        · exact h.1
      exact va_Nw.of ho (htb w hm.1)
    · exact va_AO.of (htb _ (jao_at hC))
    · exact va_Nc.of (hs _ (of_decide_eq_true (List.all_eq_true.mp jnc_words _ hz)))
/-- a walk in less room -/
theorem jW_room {p : Program} {l : Launch} {e : Env} {R R' : Room} {s : State} {m : MethodId} {args : Array Value} {below : List Frame} {meth : Method} {c : Code} {H : Heap} {locs : List Loc} {cells slots : Nat} {Q : State → Prop} {g : JFrame} (h1 : R'.frames ≤ R.frames) (h2 : R'.locals ≤ R.locals) (h3 : R'.cells ≤ R.cells) (h4 : R'.slots ≤ R.slots) (k : W p l e R' s m args below meth c H locs cells slots Q g) : W p l e R s m args below meth c H locs cells slots Q g := by
  intro T hT X
  refine k T hT ⟨X.admits, X.cas, X.clock, X.frames, ?_, X.hears, X.method, X.code, X.here, X.tail, X.warmed, X.limits, X.bytes, X.same⟩
  have h := X.room
  simp only [State.hasRoom, Bool.and_eq_true, decide_eq_true_eq] at h ⊢
  obtain ⟨⟨⟨⟨a1, a2, a3, a4, a5, a6⟩, a7⟩, a8⟩, a9⟩ := h
  exact ⟨⟨⟨⟨by omega, by omega, by omega, by omega, by omega, a6⟩, by omega⟩, by omega⟩, a9⟩
