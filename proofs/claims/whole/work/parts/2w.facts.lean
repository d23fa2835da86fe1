/-! All that the main row asks of the tables. -/
theorem jq_at {j pc : Nat} {i : Instr} {k y n : Nat} {rc : Option Nat} (hj : j < 205) (hI : jcI j pc = some i) (hk : jcix i = some k) (hy : jlk (jtCl (jow j)) k = some (y, n, rc)) : jq2 j i k y n rc = true := by
  have h := jq1_all hj (jcI_ok hI).1
  unfold jq1 at h
  simp only [hI, hk, hy] at h
  exact h
theorem jq3_at {j k y n : Nat} {rc : Option Nat} (hj : j < 205) (hy : jlk (jtCl (jow j)) k = some (y, n, rc)) : ∃ i, jq3 (jow j, k, y, i) = true := by
  have h1 : (jow j, k, y) ∈ jwc.map (fun e => (e.1, e.2.1, e.2.2.1)) := by
    rw [jwc_keys]
    exact List.mem_flatMap.mpr ⟨jow j, List.mem_range.mpr (jow_lt hj).1, List.mem_map.mpr ⟨(k, y, n, rc), jlk_mem hy, rfl⟩⟩
  obtain ⟨⟨a, b, c, i⟩, he, e⟩ := List.mem_map.mp h1
  have e1 : a = jow j := congrArg Prod.fst e
  have e2 : b = k := congrArg (fun q => q.2.1) e
  have e3 : c = y := congrArg (fun q => q.2.2) e
  subst e1
  subst e2
  subst e3
  exact ⟨i, List.all_eq_true.mp jwc_ok _ he⟩
theorem jm_at {j : Nat} (hj : j < 205) : plainName (jnm j).cls = true ∧ (Cond.code (jnm j) (jbt j) (jmx j) (jrtT j) ∈ jWs ∨ Cond.codeWith (jnm j) (jbt j) (jmx j) (jrtT j) (jhh j) ∈ jWs) ∧ jkk (jkr j) (jrtT j) = true ∧ ((jhh j).isEmpty = true → Cond.code (jnm j) (jbt j) (jmx j) (jrtT j) ∈ jWs) := by
  obtain ⟨e0, he0, h, -⟩ := jwm_at hj
  obtain ⟨j', e1, e2, e3, e4⟩ := e0
  have he0 : j' = j := he0
  subst he0
  simp only [jm1, Bool.and_eq_true] at h
  obtain ⟨h1, h2, h3⟩ := h
  cases he : (jhh j').isEmpty with
  | true =>
    rw [he, cond_true, Bool.or_eq_true] at h3
    have hc : Cond.code (jnm j') (jbt j') (jmx j') (jrtT j') ∈ jWs := by
      rcases h3 with h3 | h3
      · obtain rfl := Nat.eq_of_beq_eq_true h3
        exact List.mem_cons_self
      · exact jat_in h3
    exact ⟨h1, Or.inl hc, h2, fun _ => hc⟩
  | false =>
    rw [he, cond_false] at h3
    exact ⟨h1, Or.inr (jat_in h3), h2, fun z => by cases z⟩
theorem jOK_ok : jOK jP jCl jka 205 jnm jbt jrtT jhh jfr jLo jnp jWs jNs := by
  refine ⟨jWs_good, jNs_nest, fun j pc i h => (jcI_ok h).2, fun j hj => ⟨(jm_at hj).1, (jm_at hj).2.1, jkk_spec (jm_at hj).2.2.1⟩, ?_, ?_, ?_⟩
  · intro j pc i k hj hI hk n rc hy
    have h := jq_at hj hI hk hy
    obtain ⟨ix, h2⟩ := jq3_at hj hy
    simp only [jq2, Bool.and_eq_true] at h
    have h2 : jat ix (.methodLink (jcn (jow j)) k Lib.objectInit) = true := h2
    rw [← (jow_lt hj).2] at h2
    exact ⟨of_decide_eq_true h.1, jat_in h2, jw4'.1, jw4'.2.1, Nat.le_of_ble_eq_true h.2.1, Nat.le_of_ble_eq_true h.2.2⟩
  · intro j pc i k hj hI hk n rc hy
    have h := jq_at hj hI hk hy
    obtain ⟨ix, h2⟩ := jq3_at hj hy
    simp only [jq2, Bool.and_eq_true] at h
    have h2 : jat ix (.methodLink (jcn (jow j)) k arraycopyName) = true := h2
    rw [← (jow_lt hj).2] at h2
    exact ⟨of_decide_eq_true h.1, jat_in h2, jw4'.2.2.1, jw4'.2.2.2.1, jw4'.2.2.2.2.1, Nat.le_of_ble_eq_true h.2.1, Nat.le_of_ble_eq_true h.2.2⟩
  · intro j pc i k hj hI hk y n rc hy
    have h := jq_at hj hI hk hy
    obtain ⟨ix, h2⟩ := jq3_at hj hy
    simp only [jq2, Bool.and_eq_true] at h
    obtain ⟨a1, a2, a3, a4⟩ := h
    have hy4 : y < 204 := Nat.le_of_ble_eq_true a1
    have hy5 : y < 205 := Nat.lt_of_lt_of_le hy4 (by decide)
    obtain ⟨e0, he0, -, hw⟩ := jwm_at hy5
    obtain ⟨y', z1, z2, z3, z4⟩ := e0
    have he0 : y' = y := he0
    subst he0
    simp only [jy1, Bool.or_eq_true, Bool.and_eq_true] at hw
    rcases hw with hw | hw
    · exact absurd (Nat.eq_of_beq_eq_true hw) (Nat.ne_of_lt hy4)
    obtain ⟨b1, b2, b3, b4, b5⟩ := hw
    have h2 : (jat ix (.methodLink (jcn (jow j)) k (jnm y')) || (jatN ix (.methodLinkNest (jcn (jow j)) k (jnm y') (jho (jow j))) && (jhh y').isEmpty)) = true := h2
    rw [← (jow_lt hj).2, Bool.or_eq_true, Bool.and_eq_true] at h2
    refine ⟨hy5, Nat.le_of_ble_eq_true a2, Nat.le_of_ble_eq_true a3, ⟨of_decide_eq_true b1, of_decide_eq_true b2⟩, jat_in b3, of_decide_eq_true b4, ?_, ?_⟩
    · rcases h2 with h2 | h2
      · exact Or.inl (jat_in h2)
      · exact Or.inr ⟨⟨_, jatN_in h2.1⟩, (jm_at hy5).2.2.2 h2.2⟩
    · cases hkd : jkd y' with
      | zero =>
        simp only [hkd, Bool.and_eq_true] at a4 b5
        exact Or.inl ⟨of_decide_eq_true a4.1, of_decide_eq_true a4.2.1, Nat.eq_of_beq_eq_true a4.2.2, jat_in b5⟩
      | succ n1 => cases n1 with
        | zero =>
          simp only [hkd, Bool.and_eq_true] at a4 b5
          obtain ⟨c, hc⟩ := Option.isSome_iff_exists.mp a4.2.1
          exact Or.inr (Or.inl ⟨of_decide_eq_true a4.1, ⟨c, hc⟩, Nat.eq_of_beq_eq_true a4.2.2, of_decide_eq_true b5.1, jat_in b5.2.1, of_decide_eq_true b5.2.2.1, (jm_at hy5).2.2.2 b5.2.2.2⟩)
        | succ n2 =>
          simp only [hkd, Bool.and_eq_true] at a4 b5
          refine Or.inr (Or.inr ⟨of_decide_eq_true a4.1, ⟨jow y', _, of_decide_eq_true a4.2.1, jCl_get (Nat.le_of_ble_eq_true b5.2.2.2), (jow_lt hy5).2.symm⟩, Nat.eq_of_beq_eq_true a4.2.2, jat_in b5.1, jat_in b5.2.1, (jm_at hy5).2.2.2 b5.2.2.1⟩)
/-! handlers and throws -/
/-- no plain code word speaks of the law's own class but the law's -/
def jlc (w : Cond) : Bool := match w with
  | .code y _ _ _ => decide (y.cls = "StrandRuntimeLaw")
  | _ => false
theorem jlc_none : (k2_sels lw_privs).any jlc = false ∧ tables_1_1.any jlc = false ∧ tables_1_2.any jlc = false ∧ tables_1_3.any jlc = false ∧ tables_1_4.any jlc = false ∧ tables_1_5.any jlc = false ∧ tables_1_6.any jlc = false ∧ tables_1_7.any jlc = false := by decide +kernel
def jhe (j : Nat) : Bool := (jhh j).isEmpty || (decide ((jnm j).cls = "StrandRuntimeLaw") && decide (jnm j ≠ x))
theorem jhe_all : (List.range 205).all jhe = true := by decide +kernel
theorem jlc_tbl : lw_tbl.any jlc = false := by
  obtain ⟨h0, h1, h2, h3, h4, h5, h6, h7⟩ := jlc_none
  show (k2_sels lw_privs ++ (tables_1_1 ++ (tables_1_2 ++ (tables_1_3 ++ (tables_1_4 ++ (tables_1_5 ++ (tables_1_6 ++ tables_1_7))))))).any jlc = false
  simp only [List.any_append, h0, h1, h2, h3, h4, h5, h6, h7, Bool.or_false]
theorem jhhE {j : Nat} (hj : j < 205) (h : Cond.code (jnm j) (jbt j) (jmx j) (jrtT j) ∈ jWs) : jhh j = [] := by
  have q := jall jhe_all hj
  unfold jhe at q
  rw [Bool.or_eq_true, Bool.and_eq_true] at q
  rcases q with q | q
  · simpa using q
  · rcases List.mem_cons.mp h with e | h
    · injection e with e1
      exact absurd e1 (of_decide_eq_true q.2)
    · have h1 := (List.mem_filter.mp h).1
      have h2 : lw_tbl.any jlc = true := List.any_eq_true.mpr ⟨_, h1, q.1⟩
      rw [jlc_tbl] at h2
      cases h2
/-- a word of the exceptions -/
def jhx (w : Cond) : Bool := decide (w ∈ jjw) && goodWord w
theorem jhx_in {w : Cond} (h : jhx w = true) : w ∈ jWs := by
  unfold jhx at h
  rw [Bool.and_eq_true] at h
  have h1 := of_decide_eq_true h.1
  unfold jjw at h1
  obtain ⟨n, -, hn⟩ := List.mem_filterMap.mp h1
  exact List.mem_cons_of_mem _ (List.mem_filter.mpr ⟨jsg_in (List.mem_of_getElem? hn), h.2⟩)
/-- ... that lies among the faces -/
def jhn (w : Cond) : Bool := decide (w ∈ jjw) && jisN w
theorem jhn_in {w : Cond} (h : jhn w = true) : w ∈ jNs := by
  unfold jhn at h
  rw [Bool.and_eq_true] at h
  have h1 := of_decide_eq_true h.1
  unfold jjw at h1
  obtain ⟨n, -, hn⟩ := List.mem_filterMap.mp h1
  rcases List.mem_append.mp (jsg_in (List.mem_of_getElem? hn)) with z | z
  · obtain ⟨q, -, e⟩ := List.mem_map.mp z
    rw [← e] at h
    cases h.2
  · exact List.mem_filter.mpr ⟨z, h.2⟩
def jxs : List String := ["java/lang/RuntimeException", "java/lang/Exception"]
def jwx (w : Cond) : Bool := jhx w || (decide (w = .isRef (.static "java/lang/Throwable" "UNASSIGNED_STACK" "[Ljava/lang/StackTraceElement;")) || (decide (w = .isRef (.static "java/lang/Throwable" "SUPPRESSED_SENTINEL" "Ljava/util/List;")) || (decide (w = .laysStatic "java/lang/Throwable" "UNASSIGNED_STACK" "[Ljava/lang/StackTraceElement;") || (decide (w = .laysStatic "java/lang/Throwable" "SUPPRESSED_SENTINEL" "Ljava/util/List;") || (jhn w && w.onTables)))))
def jx1 (j : Nat) (e : Nat × Nat) : Bool := match decode (jbt j) e.1 with
  | .ok (.new ic, 3) => decide (decode (jbt j) (e.1 + 3) = .ok (.dup, 1)) && (match decode (jbt j) (e.1 + 4) with
    | .ok (.invokespecial iv, 3) => decide (decode (jbt j) (e.1 + 7) = .ok (.athrow, 1)) && (jhx (.classLink (jcn (jow j)) ic (jxn e.2)) && (jhx (.instantiable (jxn e.2) 6) && (jhx (.initialized (jxn e.2)) && ((Jvm.Bundle.ownAtoms0 (jcn (jow j)) iv (jxn e.2) jxs).all jwx && (Jvm.Bundle.fit (jxn e.2) && (jxs.all Jvm.Bundle.fit && (Nat.ble 8 (jfr j) && (Nat.ble 120 (jLo j) && (jhh j).isEmpty))))))))
    | _ => false)
  | _ => false
theorem jx1_all : jcXl.all (fun e => Nat.blt e.1 205 && e.2.all (jx1 e.1)) = true := by decide +kernel
theorem jwx_spec {w : Cond} (h : jwx w = true) : w ∈ jWs ∨ (∃ z ∈ jzq, w = .isRef (.static z.1 z.2.1 z.2.2)) ∨ (∃ z ∈ jzq, w = .laysStatic z.1 z.2.1 z.2.2) ∨ (w ∈ jNs ∧ w.onTables = true) := by
  unfold jwx at h
  simp only [Bool.or_eq_true, Bool.and_eq_true] at h
  rcases h with h | h | h | h | h | h
  · exact Or.inl (jhx_in h)
  · exact Or.inr (Or.inl ⟨_, List.mem_cons_self, of_decide_eq_true h⟩)
  · exact Or.inr (Or.inl ⟨_, List.mem_cons_of_mem _ List.mem_cons_self, of_decide_eq_true h⟩)
  · exact Or.inr (Or.inr (Or.inl ⟨_, List.mem_cons_self, of_decide_eq_true h⟩))
  · exact Or.inr (Or.inr (Or.inl ⟨_, List.mem_cons_of_mem _ List.mem_cons_self, of_decide_eq_true h⟩))
  · exact Or.inr (Or.inr (Or.inr ⟨jhn_in h.1, h.2⟩))
theorem jTh_ok {l : Launch} {D : va_G} {kid g : Nat → Nat} {base : Nat} {tys : List (ClassId × FieldType)} {G : jG} : jTh l D jCl kid g base jka tys G jxn jzt jzq jNs jWs jao jP 205 jnm jbt jrtT jhh jfr jLo := by
  intro j pc y lv μ hj hX p e R s m args below meth c k0 z0 n0 ad0 hBd hkE hzE
  obtain ⟨hx, hb, hml, hown, hts, hE, hin, hlocks, hret, hRf, hRl, htr, htab⟩ := hBd
  have hX : jcX j pc = some y := hX
  unfold jcX at hX
  split at hX
  · rename_i lx hlx
    have h1 := List.all_eq_true.mp jx1_all _ (jlk_mem hlx)
    rw [Bool.and_eq_true] at h1
    have h2 := List.all_eq_true.mp h1.2 _ (jlk_mem hX)
    unfold jx1 at h2
    split at h2
    · rename_i ic d0
      rw [Bool.and_eq_true] at h2
      obtain ⟨d1, h2⟩ := h2
      split at h2
      · rename_i iv d2
        simp only [Bool.and_eq_true] at h2
        obtain ⟨d3, w1, w2, w3, w4, f1, f2, r1, r2, hemp⟩ := h2
        rw [(jow_lt hj).2] at hown
        refine jc_throw (names := jxs) jWs_good jNs_nest hx hb hml hown hts hE hlocks htr d0 (of_decide_eq_true d1) d2 (of_decide_eq_true d3) (jhx_in w1) (jhx_in w2) (jhx_in w3) (fun w hw => jwx_spec (List.all_eq_true.mp w4 w hw)) f1 (fun n hn => List.all_eq_true.mp f2 n hn) (by decide) (by rw [hRf]; exact Nat.le_of_ble_eq_true r1) (by rw [hRl]; exact Nat.le_of_ble_eq_true r2) (fun q hq => ?_) hkE hzE
        have he : jhh j = [] := by simpa using hemp
        rw [he] at htab
        have := List.map_eq_nil_iff.mp htab
        rw [this] at hq
        cases hq
      · cases h2
    · cases h2
  · cases hX
