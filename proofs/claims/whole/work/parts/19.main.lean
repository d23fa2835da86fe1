/-! The main row: what the pure machine does, the machine does. -/
section JM
variable {l : Launch} {D : va_G} {cl : List vw_C} {kid g : Nat → Nat} {base : Nat} {ka : List Nat} {kt : Nat → FieldType} {tys : List (ClassId × FieldType)} {G : jG} {xn : Nat → String}
  {zt : List (String × String × String × Nat)} {zq : List (String × String × String)} {Ns Ws : List Cond} {ao : List String × List (String × String)} {P : jT} {nM : Nat} {nm : Nat → MethodName} {bt : Nat → ByteArray} {rt : Nat → Option FieldType} {hh : Nat → List (Nat × Nat × Nat × Nat)} {fr lo np : Nat → Nat}
/-- a method's contract out of its body -/
theorem j_ct {t : Nat} (O : jOK P cl ka nM nm bt rt hh fr lo np Ws Ns) (hst : ∀ e, l.admits e → e.platform.stackTraces = false) (ih : jBo l D cl kid g base ka tys G xn zt zq Ns Ws ao P nM nm bt rt hh fr lo t) {j : Nat} {as : List Value} {μ : jS} {o : jO} (h : jex G P t j 0 (lv_args 0 as) [] μ = some o) (hj : j < nM) (hw : (as.map fun v => v.category).sum ≤ (P.2.2.2.2.1 j).2.2.2.2.2.1) (hcs : jcs μ.2.1 as) (hcl : jcl ka μ) (hz : o.2.2.2.2 ≤ 60000000) (hhE : Cond.code (nm j) (bt j) (P.2.2.2.2.1 j).2.2.2.2.2.1 (rt j) ∈ Ws → hh j = []) : jCt l D cl kid g base ka tys G zt zq Ns ao xn nm fr lo Ws j as μ o := by
  intro ad
  obtain ⟨hp1, hp2, hp3⟩ := O.2.2.2.1 j hj
  have hle := jex_mono _ _ _ _ _ _ _ h
  refine jMet.ofW (cc := bt j) (maxL := (P.2.2.2.2.1 j).2.2.2.2.2.1) (ret := rt j) (hh := hh j) hp1 hp2 ?_
  intro p e s m args below meth c s₁ B hml hv
  obtain ⟨rfl, hE, hP, hD⟩ := hv
  have hts := atoms_spec (ws := Ws) B.pre
  have hown : s.vm.findClass (nm j).cls = some m.cls := findClass_of_methodNamed B.named
  have hin : meth.name = (nm j).name := (name_of_methodNamed B.named B.method).1
  have hcode : meth.code = some c := (Stand.of_body B).code
  have htab : c.exceptionTable.toList.map (fun h => (h.startPc, h.endPc, h.handlerPc, h.catchType)) = hh j := by
    rcases hp2 with hp2 | hp2
    · rw [hhE hp2]
      have hq := hts _ hp2
      have hq2 : (Cond.codeWith (nm j) (bt j) (P.2.2.2.2.1 j).2.2.2.2.2.1 (rt j) []).before (as.map (jtv ad g)).toArray s = true := by
        have e1 := Cond.code_iff_codeWith_nil (args := (as.map (jtv ad g)).toArray) (first := s) (o := none) (s := s) (idx := []) (x := nm j) (bytes := bt j) (maxLocals := (P.2.2.2.2.1 j).2.2.2.2.2.1) (ret := rt j)
        unfold Cond.before Cond.holds at hq ⊢
        rw [← e1]
        exact hq
      obtain ⟨m9, meth9, c9, hn9, h1, h2, -, -, h3, -⟩ := Cond.codeWith_spec hq2
      cases B.named.symm.trans hn9
      cases B.method.symm.trans h1
      cases hcode.symm.trans h2
      exact h3
    · obtain ⟨m9, meth9, c9, hn9, h1, h2, -, -, h3, -⟩ := Cond.codeWith_spec (hts _ hp2)
      cases B.named.symm.trans hn9
      cases B.method.symm.trans h1
      cases hcode.symm.trans h2
      exact h3
  have hl := lv_entry (as.map (jtv ad g)) (n := (P.2.2.2.2.1 j).2.2.2.2.2.1) (by rw [jsl_len, jcat_map]; exact hw)
  rw [jlt_args] at hl
  rw [lg_entry_eq]
  have hS : va_S (fun q => base ≤ q) s.heap s.heap [] := va_S.rf
  exact ih j 0 (lv_args 0 as) [] μ o h hj trivial (jcw_args hcs 0) hcl hz p e (headSpec Ws { frames := fr j, locals := lo j, cells := o.2.2.2.1 - μ.2.2.1, slots := o.2.2.2.2 - μ.2.2.2 }).room s m _ below meth c μ.2.2.1 μ.2.2.2 μ.2.1 ad
    ⟨B.exec, B.bytes, hml, hown, hts, hE, hin, B.notSynchronized, B.returns, rfl, rfl, hst e B.admits, htab⟩ (by show _ = μ.2.2.1 + (o.2.2.2.1 - μ.2.2.1); have := hle.2.1; omega) (by show _ = μ.2.2.2 + (o.2.2.2.2 - μ.2.2.2); have := hle.2.2; omega)
    s.heap [] 0 0 _ ad ⟨hl, jcw_args hcs 0, trivial, hP, hD, hcl, hS, rfl, rfl, Nat.le_refl _, fun _ _ => rfl⟩
theorem j_body (O : jOK P cl ka nM nm bt rt hh fr lo np Ws Ns) (hst : ∀ e, l.admits e → e.platform.stackTraces = false) (hkt : jKt cl kid ka kt tys) (hhE : ∀ j, j < nM → Cond.code (nm j) (bt j) (P.2.2.2.2.1 j).2.2.2.2.2.1 (rt j) ∈ Ws → hh j = [])
    (hB : ∀ (j : Nat) (s : State) (args : Array Value) (meth : Method), j < nM → (∀ w ∈ Ws, w.before args s = true) → jEv D cl g base tys G zt zq Ns ao s → meth.name = (nm j).name → jTb cl g base ka s args meth (nm j).cls (P.2.2.2.2.1 j))
    (hTh : jTh l D cl kid g base ka tys G xn zt zq Ns Ws ao P nM nm bt rt hh fr lo) (hCa : jCa l D cl kid g base ka tys G xn zt zq Ns Ws ao P nM nm bt rt hh fr lo) : ∀ t, jBo l D cl kid g base ka tys G xn zt zq Ns Ws ao P nM nm bt rt hh fr lo t := by
  intro t
  induction t with
  | zero => intro j pc lv st μ o h; simp [jex] at h
  | succ t ih =>
    intro j pc lv st μ o h hj hcs hcw hcl hz p e R s m args below meth c k0 z0 n0 ad0 hBd hk0 hz0
    have hBd' := hBd
    obtain ⟨hx, hb, hml, hown, hts, hE, hin, hlocks, hret, hRf, hRl, htr, htab⟩ := hBd'
    have hRs : R.slots ≤ 60000000 := by omega
    have F : jFx p R s m args meth c (bt j) (nm j).cls D cl kid g base ka kt tys G (P.2.2.2.2.1 j) k0 z0 o.2.2.2.1 o.2.2.2.2 := ⟨hx, hb, hown, hE.1, hkt, hE.2.1, hE.2.2.1, hk0, hz0, hRs, hB j s args meth hj hts hE hin⟩
    rcases jex_inv h with ⟨x, hX, rfl, rfl⟩ | ⟨hX, i, hI, ⟨q, hq, h⟩ | ⟨hs, v, hv, rfl⟩ | ⟨hs, hv, k, y, n, rc, as, rest, hk, hy, ha, hr, h8, hc⟩⟩
    · exact hTh j pc x lv μ hj hX p e R s m args below meth c k0 z0 n0 ad0 hBd hk0 hz0
    · obtain ⟨len, hd, hlen⟩ := O.2.2.1 j pc i hI
      have hm := jex_mono _ _ _ _ _ _ _ h
      intro H locs cells slots ls ad X
      exact js_all F hd hlen hq ⟨hm.2.1, hm.2.2⟩ (fun H1 locs1 cells1 slots1 ls1 ad1 X1 => ih j q.1 q.2.1 q.2.2.1 q.2.2.2 o h hj X1.2.2.1 X1.2.1 X1.2.2.2.2.2.1 hz p e R s m args below meth c k0 z0 n0 ad0 hBd hk0 hz0 H1 locs1 cells1 slots1 ls1 ad1 X1) H locs cells slots ls ad X
    · obtain ⟨len, hd, hlen⟩ := O.2.2.1 j pc i hI
      exact jc_ret hx hb hd hlen hlocks hret (O.2.2.2.1 j hj).2.2 hv hk0 hz0
    · obtain ⟨hst1, hasn⟩ := jarg_st ha
      rw [hst1] at hcs
      have hcr : jcs μ.2.1 rest := (jcs_app.mp hcs).2
      have hca : jcs μ.2.1 as := jcs_mem.mpr fun v hv => jcs_mem.mp (jcs_app.mp hcs).1 v (List.mem_reverse.mpr hv)
      have hdc := O.2.2.1 j pc i hI
      rcases hc with ⟨rfl, a, rfl, h⟩ | ⟨rfl, μ', hm, h⟩ | ⟨y', v, μ', rfl, hw, hm, h⟩ | ⟨y', x, μ', hh1, z, rfl, hw, hm, hz1, h⟩
      · obtain ⟨rfl, w1, w2, w3, w4, w5⟩ := O.2.2.2.2.1 j pc i k hj hI hk n rc hy
        obtain ⟨len, hd, hlen⟩ := hdc
        rcases hlen with z | rfl
        · exact absurd z (by simp [jlen])
        · exact jc_obj hx hb hml hown hd (hts _ w1) (hts _ w2) (hts _ w3) (by rw [hRf]; exact w4) (by rw [hRl]; exact w5) hst1 h8
            (ih j (pc + 3) lv rest μ o h hj hcr hcw hcl hz p e R s m args below meth c k0 z0 n0 ad0 hBd hk0 hz0)
      · obtain ⟨rfl, w1, w2, w3, w4, w5, w6⟩ := O.2.2.2.2.2.1 j pc i k hj hI hk n rc hy
        obtain ⟨len, hd, hlen⟩ := hdc
        rcases hlen with z | rfl
        · exact absurd z (by simp [jlen])
        · exact jc_cpy F hml hd (hts _ w1) (hts _ w2) (hts _ w3) (hts _ w4) (by rw [hRf]; exact w5) (by rw [hRl]; exact w6) hst1 h8 hm
            (fun H1 locs1 cells1 slots1 ls1 ad1 X1 => ih j (pc + 3) lv rest μ' o h hj X1.2.2.1 X1.2.1 X1.2.2.2.2.2.1 hz p e R s m args below meth c k0 z0 n0 ad0 hBd hk0 hz0 H1 locs1 cells1 slots1 ls1 ad1 X1)
      · have hle1 : jle μ μ' := jex_mono _ _ _ _ _ _ _ hm
        have hle2 := jex_mono _ _ _ _ _ _ _ h
        obtain ⟨hyM, -⟩ := O.2.2.2.2.2.2 j pc i k hj hI hk y' n rc hy
        have hq1 : μ'.2.2.1 ≤ k0 + R.cells := by have := hle2.2.1; omega
        have hq2 : μ'.2.2.2 ≤ z0 + R.slots := by have := hle2.2.2; omega
        have hC := j_ct O hst ih hm hyM hw hca hcl (Nat.le_trans hle2.2.2 hz) (hhE y' hyM)
        exact jc_call O hj hI hk hy ha hr h8 hx hb hml hown hts hE hRf hRl hdc hq1 hq2 hle1 hC
          (fun H1 locs1 cells1 slots1 ls1 ad1 X1 => ih j (pc + 3) lv (v.toList ++ rest) μ' o h hj X1.2.2.1 X1.2.1 X1.2.2.2.2.2.1 hz p e R s m args below meth c k0 z0 n0 ad0 hBd hk0 hz0 H1 locs1 cells1 slots1 ls1 ad1 X1)
      · have hle1 : jle μ μ' := jex_mono _ _ _ _ _ _ _ hm
        have hle2 := jex_mono _ _ _ _ _ _ _ h
        obtain ⟨hyM, -⟩ := O.2.2.2.2.2.2 j pc i k hj hI hk y' n rc hy
        have hq1 : μ'.2.2.1 ≤ k0 + R.cells := by have := hle2.2.1; omega
        have hq2 : μ'.2.2.2 ≤ z0 + R.slots := by have := hle2.2.2; omega
        have hC := j_ct O hst ih hm hyM hw hca hcl (Nat.le_trans hle2.2.2 hz) (hhE y' hyM)
        exact hCa j pc k y' n x hh1 z i rc lv st as rest μ μ' _ hj hI hk hy ha hr h8 hz1 hle1 p e R s m args below meth c k0 z0 n0 ad0 hBd hq1 hq2 hC
          (fun H1 locs1 cells1 slots1 ls1 ad1 X1 => ih j hh1 (jdrop lv z) [] μ' o h hj X1.2.2.1 X1.2.1 X1.2.2.2.2.2.1 hz p e R s m args below meth c k0 z0 n0 ad0 hBd hk0 hz0 H1 locs1 cells1 slots1 ls1 ad1 X1)
end JM
