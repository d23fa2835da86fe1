/-! Fields, new objects, arrays, statics, constants: what the checks say. -/
theorem jkey3 {α β : Type} {l : List (Nat × Nat × β)} {tb : Nat → List (Nat × α)} {m : Nat} (hk : l.map (fun e => (e.1, e.2.1)) = (List.range m).flatMap (fun o => (tb o).map fun q => (o, q.1))) {o k : Nat} {v : α} (ho : o < m) (h : jlk (tb o) k = some v) : ∃ n, (o, k, n) ∈ l := by
  have h1 : (o, k) ∈ l.map (fun e => (e.1, e.2.1)) := by
    rw [hk]
    exact List.mem_flatMap.mpr ⟨o, List.mem_range.mpr ho, List.mem_map.mpr ⟨(k, v), jlk_mem h, rfl⟩⟩
  obtain ⟨⟨a, b, n⟩, he, e⟩ := List.mem_map.mp h1
  have e1 : a = o := congrArg Prod.fst e
  have e2 : b = k := congrArg Prod.snd e
  subst e1
  subst e2
  exact ⟨n, he⟩
def jn9 (j : Nat) : Bool := !jni j || decide ((jnm j).name = "<init>")
theorem jni_all : (List.range 205).all jn9 = true := by decide +kernel
theorem jnd_all : (List.range 16).all (fun c => (List.range (jfl c).length).all (fun a => (List.range (jfl c).length).all fun b => Nat.beq a b || decide ((jfT c a).2.1 ≠ (jfT c b).2.1))) = true := by decide +kernel
theorem jow_lt {j : Nat} (h : j < 205) : jow j < 18 ∧ (jnm j).cls = jcn (jow j) := by
  have h1 := jall jm2_all h
  unfold jm2 at h1
  rw [Bool.and_eq_true] at h1
  exact ⟨Nat.le_of_ble_eq_true h1.2, of_decide_eq_true h1.1⟩
theorem jlay_at {c k : Nat} (h : c < 16) (hk : k < (jfl c).length) : u_lay (jcn c) (jfT c) k ∈ jWs ∧ parseFieldDescriptor (jfT c k).2.2.1 = some (jty c k) := by
  have h1 : (c, k) ∈ jwl.map (fun e => (e.1, e.2.1)) := by
    rw [jwl_keys]
    exact List.mem_flatMap.mpr ⟨c, List.mem_range.mpr h, List.mem_map.mpr ⟨k, List.mem_range.mpr hk, rfl⟩⟩
  obtain ⟨⟨a, b, n⟩, he, e⟩ := List.mem_map.mp h1
  have e1 : a = c := congrArg Prod.fst e
  have e2 : b = k := congrArg Prod.snd e
  subst e1
  subst e2
  have q := List.all_eq_true.mp jwl_ok _ he
  simp only [jlay, Bool.and_eq_true] at q
  exact ⟨jat_in q.1, of_decide_eq_true q.2⟩
theorem jcls {c : Nat} (h : c < 16) : (∀ w ∈ u_ws (jcn c) (jfT c) (jfl c).length, w ∈ jWs) ∧ (∀ k, k < (jfl c).length → parseFieldDescriptor (jfT c k).2.2.1 = some (jty c k)) ∧ ∀ a, a < (jfl c).length → ∀ b, b < (jfl c).length → a ≠ b → (jfT c a).2.1 ≠ (jfT c b).2.1 := by
  refine ⟨fun w hw => ?_, fun k hk => (jlay_at h hk).2, fun a ha b hb hab => ?_⟩
  · obtain ⟨k, hk, rfl⟩ := List.mem_map.mp hw
    exact (jlay_at h (List.mem_range.mp hk)).1
  · have q := jall (jall (jall jnd_all h) ha) hb
    rw [Bool.or_eq_true] at q
    rcases q with q | q
    · exact absurd (Nat.eq_of_beq_eq_true q) hab
    · exact of_decide_eq_true q
theorem jw4' : Cond.instanceMethod Lib.objectInit ∈ jWs ∧ Cond.code Lib.objectInit ⟨#[0xb1]⟩ 1 none ∈ jWs ∧ Cond.native arraycopyName ∈ jWs ∧ Cond.static arraycopyName ∈ jWs ∧ Cond.initialized "java/lang/System" ∈ jWs ∧ Cond.arrayClass .int ∈ jWs ∧ Cond.arrayClass .long ∈ jWs := by
  have h := jw4
  simp only [Bool.and_eq_true] at h
  obtain ⟨a1, a2, a3, a4, a5, a6, a7⟩ := h
  exact ⟨jat_in a1, jat_in a2, jat_in a3, jat_in a4, jat_in a5, jat_in a6, jat_in a7⟩
/-- the tables of a method say what they must -/
theorem jTb_ok {D : va_G} {g : Nat → Nat} {base : Nat} {tys : List (ClassId × FieldType)} {G : jG} {j : Nat} {s : State} {args : Array Value} {meth : Method} (hj : j < 205) (hts : ∀ w ∈ jWs, w.before args s = true) (hE : jEv D jCl g base tys G jzt jzq jNs jao s) (hn : meth.name = (jnm j).name) : jTb jCl g base jka s args meth (jnm j).cls (jP.2.2.2.2.1 j) := by
  obtain ⟨ho, hcn⟩ := jow_lt hj
  rw [hcn]
  refine ⟨fun k q hq => ?_, fun k q hq => ?_, fun k c' hq => ?_, fun k d hq => ?_, fun k v hq => ?_, ?_, ?_, fun hi => ?_⟩
  · have hq : jlk (jtFl (jow j)) k = some q := hq
    obtain ⟨n, hn1⟩ := jkey3 jwf_keys ho hq
    have hm := List.all_eq_true.mp jwf_ok _ hn1
    obtain ⟨c, f, kd, fin⟩ := q
    simp only [jg1, hq, Bool.and_eq_true] at hm
    obtain ⟨m1, m2, m3, m4, m5⟩ := hm
    have hc : c < 16 := Nat.le_of_ble_eq_true m1
    obtain ⟨k1, k2, k3⟩ := jcls hc
    refine ⟨jcn c, jfT c, (jfl c).length, jWs, jty c, hts, k1, jCl_get hc, Nat.le_of_ble_eq_true m2, of_decide_eq_true m3, k2, k3, fun v hv => jkf_fit m4 hv, ?_⟩
    cases fin with
    | true =>
      simp only [cond_true, Bool.and_eq_true] at m5
      obtain ⟨p1, p2, p3⟩ := m5
      have e1 : c = jow j := Nat.eq_of_beq_eq_true p2
      exact Or.inl ⟨rfl, p1, by rw [e1], hts _ (jat_in p3)⟩
    | false =>
      simp only [cond_false, Bool.and_eq_true, Bool.or_eq_true] at m5
      refine Or.inr ⟨rfl, ?_, ?_⟩
      · rcases m5.1 with p | p
        · exact Or.inl (by simpa using p)
        · have e1 : kd = 4 := Nat.eq_of_beq_eq_true p
          exact Or.inr fun v => by show jfit kd v = false; rw [e1]; exact jfit4 v
      · rcases m5.2 with p | p
        · exact Or.inl (hts _ (jat_in p))
        · exact Or.inr ⟨jho (jow j), (hE.2.2.2.2.2.1 _ (jatN_in p)).use rfl⟩
  · have hq : jlk (jtNl (jow j)) k = some q := hq
    obtain ⟨n, hn1⟩ := jkey3 jwn_keys ho hq
    have hm := List.all_eq_true.mp jwn_ok _ hn1
    obtain ⟨c, fs⟩ := q
    simp only [jn1, hq, Bool.and_eq_true] at hm
    obtain ⟨m1, m2, m3, m4, m5, m6, m7⟩ := hm
    have hc : c < 16 := Nat.le_of_ble_eq_true m1
    obtain ⟨k1, k2, k3⟩ := jcls hc
    exact ⟨jcn c, jfT c, (jfl c).length, jWs, jty c, hts, k1, jCl_get hc, k2, hts _ (jat_in m2), hts _ (jat_in m3), hts _ (jat_in m4), Nat.eq_of_beq_eq_true m5, fun i hi => of_decide_eq_true (jall m6 hi), jpl_cs m7, fun ad g => jpl_fix m7 ad g⟩
  · have hq : jlk (jtAl (jow j)) k = some c' := hq
    obtain ⟨n, hn1⟩ := jkey3 jwa_keys ho hq
    have hm := List.all_eq_true.mp jwa_ok _ hn1
    unfold ja1 at hm
    simp only [hq] at hm
    split at hm
    · rename_i c hc'
      have hc' : c' = c + 2 := Option.some.inj hc'
      simp only [Bool.and_eq_true] at hm
      have hc : c < 16 := Nat.le_of_ble_eq_true hm.1
      exact ⟨c, _, hc', by rw [hc']; exact of_decide_eq_true hm.2.1, jCl_get hc, hts _ (jat_in hm.2.2.1), hE.2.2.2.2.2.2.1 _ (of_decide_eq_true hm.2.2.2)⟩
    · cases hm
  · have hq : jlk (jtSl (jow j)) k = some d := hq
    obtain ⟨n, hn1⟩ := jkey3 jwst_keys ho hq
    have hm := List.all_eq_true.mp jwst_ok _ hn1
    unfold js3 at hm
    simp only [hq] at hm
    split at hm
    · rename_i hd
      obtain rfl : d = 1 := Option.some.inj hd
      refine ⟨by decide, "StrandRuntime", "TAKES", "[I", hE.2.2.2.1 ("StrandRuntime", "TAKES", "[I", 1) (by decide), ?_⟩
      rcases (Bool.or_eq_true _ _).mp hm with p | p
      · exact Or.inl (hts _ (jat_in p))
      · exact Or.inr ⟨_, (hE.2.2.2.2.2.1 _ (jatN_in p)).use rfl⟩
    · rename_i hd
      obtain rfl : d = 2 := Option.some.inj hd
      refine ⟨by decide, "StrandRuntime", "PUSHES", "[I", hE.2.2.2.1 ("StrandRuntime", "PUSHES", "[I", 2) (by decide), ?_⟩
      rcases (Bool.or_eq_true _ _).mp hm with p | p
      · exact Or.inl (hts _ (jat_in p))
      · exact Or.inr ⟨_, (hE.2.2.2.2.2.1 _ (jatN_in p)).use rfl⟩
    · cases hm
  · have hq : jlk (jtLl (jow j)) k = some v := hq
    obtain ⟨n, hn1⟩ := jkey3 jwlo_keys ho hq
    have hm := List.all_eq_true.mp jwlo_ok _ hn1
    simp only [jl1, hq] at hm
    exact hts _ (jat_in hm)
  · exact hts _ jw4'.2.2.2.2.2.1
  · exact hts _ jw4'.2.2.2.2.2.2
  · rw [hn]
    have hy := jall jni_all hj
    unfold jn9 at hy
    have hi : jni j = true := hi
    rw [hi] at hy
    simpa using hy
