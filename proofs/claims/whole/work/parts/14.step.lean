/-! Every instruction of the pure machine that neither calls nor returns is the machine's. -/
theorem jcs.h {n : Nat} {v : Value} {r : List Value} (h : jcs n (v :: r)) : jcv n v := h.1
theorem jcs.t {n : Nat} {v : Value} {r : List Value} (h : jcs n (v :: r)) : jcs n r := h.2
theorem jcs.c {n : Nat} {v : Value} {r : List Value} (h : jcv n v) (k : jcs n r) : jcs n (v :: r) := ⟨h, k⟩
theorem jin_in {i : Int32} {n : Nat} (h : jin i n = true) : vp_in i n := by
  have h2 : ¬ (i < 0 ∨ n ≤ i.toNatClampNeg) := of_decide_eq_true h
  exact h2
theorem jtg_spec {pc t : Nat} {off : Int} (h : jtg pc off = some t) : (pc : Int) + off = (t : Int) := by
  unfold jtg at h
  split at h
  · rename_i t' e
    cases h
    exact e
  · cases h
/-- an instruction's length, where it has one length (0: a switch) -/
def jlen (i : Instr) : Nat := match i with
  | .tableswitch _ _ _ _ => 0
  | .lookupswitch _ _ => 0
  | .bipush _ => 2
  | .iload _ => 2
  | .lload _ => 2
  | .aload _ => 2
  | .istore _ => 2
  | .lstore _ => 2
  | .astore _ => 2
  | .newarray _ => 2
  | .sipush _ => 3
  | .ldc2_w _ => 3
  | .iinc _ _ => 3
  | .goto _ => 3
  | .ifCond _ _ => 3
  | .if_icmp _ _ => 3
  | .ifnull _ => 3
  | .ifnonnull _ => 3
  | .getfield _ => 3
  | .putfield _ => 3
  | .getstatic _ => 3
  | .new _ => 3
  | .anewarray _ => 3
  | .invokevirtual _ => 3
  | .invokespecial _ => 3
  | .invokestatic _ => 3
  | _ => 1
/-- what the tables say of a field's index -/
def jFd (cl : List vw_C) (s : State) (args : Array Value) (own : String) (k : Nat) (q : Nat × Nat × Nat × Bool) : Prop :=
  ∃ (C : String) (T : u_T) (N : Nat) (Ts : List Cond) (ty0 : Nat → FieldType), (∀ w ∈ Ts, w.before args s = true) ∧ (∀ w ∈ u_ws C T N, w ∈ Ts) ∧ cl[q.1]? = some (C, T, N) ∧ q.2.1 < N ∧ (T q.2.1).1 = C ∧
    (∀ k, k < N → parseFieldDescriptor (T k).2.2.1 = some (ty0 k)) ∧ (∀ a, a < N → ∀ b, b < N → a ≠ b → (T a).2.1 ≠ (T b).2.1) ∧ (∀ v, jfit q.2.2.1 v = true → narrow (ty0 q.2.1) v = v ∧ fits (ty0 q.2.1) v = true) ∧
    ((q.2.2.2 = true ∧ (T q.2.1).2.2.2 = true ∧ C = own ∧ (Cond.fieldLink own k C (T q.2.1).2.1 (T q.2.1).2.2.1).before args s = true) ∨
     (q.2.2.2 = false ∧ ((T q.2.1).2.2.2 = false ∨ ∀ v, jfit q.2.2.1 v = false) ∧ ((Cond.fieldLink own k C (T q.2.1).2.1 (T q.2.1).2.2.1).before args s = true ∨ ∃ host, (Cond.fieldLinkNest own k C (T q.2.1).2.1 (T q.2.1).2.2.1 host).before args s = true)))
/-- what they say of a new object's -/
def jNd (cl : List vw_C) (s : State) (args : Array Value) (own : String) (k : Nat) (q : Nat × List Value) : Prop :=
  ∃ (C : String) (T : u_T) (N : Nat) (Ts : List Cond) (ty0 : Nat → FieldType), (∀ w ∈ Ts, w.before args s = true) ∧ (∀ w ∈ u_ws C T N, w ∈ Ts) ∧ cl[q.1]? = some (C, T, N) ∧ (∀ k, k < N → parseFieldDescriptor (T k).2.2.1 = some (ty0 k)) ∧
    (Cond.classLink own k C).before args s = true ∧ (Cond.instantiable C N).before args s = true ∧ (Cond.initialized C).before args s = true ∧ q.2.length = N ∧ (∀ j, j < N → defaultValue (ty0 j) = vp_V q.2 j) ∧ jcs 0 q.2 ∧ ∀ ad g : Nat → Nat, q.2.map (jtv ad g) = q.2
/-- what they say of one method's tables -/
def jTb (cl : List vw_C) (g : Nat → Nat) (base : Nat) (ka : List Nat) (s : State) (args : Array Value) (meth : Method) (own : String) (B : jB) : Prop :=
  (∀ k q, B.1 k = some q → jFd cl s args own k q) ∧ (∀ k q, B.2.1 k = some q → jNd cl s args own k q) ∧
  (∀ k c', B.2.2.1 k = some c' → ∃ (c : Nat) (r : vw_C), c' = c + 2 ∧ c' ∈ ka ∧ cl[c]? = some r ∧ (Cond.classLink own k r.1).before args s = true ∧ va_AO r.1 s) ∧
  (∀ k d, B.2.2.2.1 k = some d → d < 3 ∧ ∃ (C n ty : String), va_Z C n ty (.ref (g d)) (fun q => base ≤ q) s s.heap ∧ ((Cond.fieldLink own k C n ty).before args s = true ∨ ∃ host, (Cond.fieldLinkNest own k C n ty host).before args s = true)) ∧
  (∀ k v, B.2.2.2.2.1 k = some v → (Cond.constantLong own k v).before args s = true) ∧
  (Cond.arrayClass .int).before args s = true ∧ (Cond.arrayClass .long).before args s = true ∧ (B.2.2.2.2.2.2 = true → meth.name = "<init>")
/-- kinds of arrays -/
def jKt (cl : List vw_C) (kid : Nat → Nat) (ka : List Nat) (kt : Nat → FieldType) (tys : List (ClassId × FieldType)) : Prop :=
  (∀ k ∈ ka, ∃ t0 : Nat, tys[t0]? = some (kid k, kt k)) ∧ kt 0 = .int ∧ kt 1 = .long ∧ (∀ c, c + 2 ∈ ka → ∃ r, cl[c]? = some r ∧ kt (c + 2) = .object r.1) ∧ 0 ∈ ka ∧ 1 ∈ ka
/-- what a body's walk stands on -/
def jFx (p : Program) (R : Room) (s : State) (m : MethodId) (args : Array Value) (meth : Method) (c : Code) (cc : ByteArray) (own : String) (D : va_G) (cl : List vw_C) (kid g : Nat → Nat) (base : Nat) (ka : List Nat) (kt : Nat → FieldType) (tys : List (ClassId × FieldType)) (G : jG) (B : jB) (k0 z0 kE zE : Nat) : Prop :=
  p.tables.exec = Jvm.exec ∧ c.code = cc ∧ s.vm.findClass own = some m.cls ∧ va_K D cl tys s ∧ jKt cl kid ka kt tys ∧ base ≤ s.heap.size ∧ (∀ k, k < 3 → va_T .int (g k) (G k).1 (fun j => .int ((G k).2 j)) (fun q => base ≤ q) s s.heap) ∧
  kE = k0 + R.cells ∧ zE = z0 + R.slots ∧ R.slots ≤ 60000000 ∧ jTb cl g base ka s args meth own B
section JS
variable {p : Program} {l : Launch} {e : Env} {R : Room} {s : State} {m : MethodId} {args : Array Value} {below : List Frame} {meth : Method} {c : Code} {Q : State → Prop} {cc : ByteArray} {own : String} {D : va_G} {cl : List vw_C} {kid g : Nat → Nat} {base : Nat} {ka : List Nat} {kt : Nat → FieldType} {tys : List (ClassId × FieldType)} {G : jG} {B : jB} {k0 z0 kE zE n0 : Nat} {ad0 : Nat → Nat} {pc : Nat} {lv : jL} {st : List Value} {μ : jS} {q : jN}
theorem js_iconst {k : Int} (F : jFx p R s m args meth c cc own D cl kid g base ka kt tys G B k0 z0 kE zE) (hd : decode cc pc = .ok ((.iconst k), 1)) (h : jstep G B (.iconst k) pc lv st μ = some q) (K : jWg p l e R s m args below meth c Q D cl kid g base ka B.2.2.2.2.2.1 k0 z0 n0 ad0 q.1 q.2.1 q.2.2.1 q.2.2.2) : jWg p l e R s m args below meth c Q D cl kid g base ka B.2.2.2.2.2.1 k0 z0 n0 ad0 pc lv st μ := by
  intro H locs cells slots ls ad X
  obtain ⟨hx, hb, hown, hK, hkt, hbase, hG, hkE, hzE, hRs, hB⟩ := F
  simp only [jstep] at h
  cases h
  exact lv_iconst hx hb hd rfl (K H locs cells slots ls ad (X.sta (jcs.c trivial X.2.2.1)))
theorem js_bipush {k : Int} (F : jFx p R s m args meth c cc own D cl kid g base ka kt tys G B k0 z0 kE zE) (hd : decode cc pc = .ok ((.bipush k), 2)) (h : jstep G B (.bipush k) pc lv st μ = some q) (K : jWg p l e R s m args below meth c Q D cl kid g base ka B.2.2.2.2.2.1 k0 z0 n0 ad0 q.1 q.2.1 q.2.2.1 q.2.2.2) : jWg p l e R s m args below meth c Q D cl kid g base ka B.2.2.2.2.2.1 k0 z0 n0 ad0 pc lv st μ := by
  intro H locs cells slots ls ad X
  obtain ⟨hx, hb, hown, hK, hkt, hbase, hG, hkE, hzE, hRs, hB⟩ := F
  simp only [jstep] at h
  cases h
  exact lv_bipush hx hb hd rfl (K H locs cells slots ls ad (X.sta (jcs.c trivial X.2.2.1)))
theorem js_sipush {k : Int} (F : jFx p R s m args meth c cc own D cl kid g base ka kt tys G B k0 z0 kE zE) (hd : decode cc pc = .ok ((.sipush k), 3)) (h : jstep G B (.sipush k) pc lv st μ = some q) (K : jWg p l e R s m args below meth c Q D cl kid g base ka B.2.2.2.2.2.1 k0 z0 n0 ad0 q.1 q.2.1 q.2.2.1 q.2.2.2) : jWg p l e R s m args below meth c Q D cl kid g base ka B.2.2.2.2.2.1 k0 z0 n0 ad0 pc lv st μ := by
  intro H locs cells slots ls ad X
  obtain ⟨hx, hb, hown, hK, hkt, hbase, hG, hkE, hzE, hRs, hB⟩ := F
  simp only [jstep] at h
  cases h
  exact lv_sipush hx hb hd rfl (K H locs cells slots ls ad (X.sta (jcs.c trivial X.2.2.1)))
theorem js_lconst {k : Fin 2} (F : jFx p R s m args meth c cc own D cl kid g base ka kt tys G B k0 z0 kE zE) (hd : decode cc pc = .ok ((.lconst k), 1)) (h : jstep G B (.lconst k) pc lv st μ = some q) (K : jWg p l e R s m args below meth c Q D cl kid g base ka B.2.2.2.2.2.1 k0 z0 n0 ad0 q.1 q.2.1 q.2.2.1 q.2.2.2) : jWg p l e R s m args below meth c Q D cl kid g base ka B.2.2.2.2.2.1 k0 z0 n0 ad0 pc lv st μ := by
  intro H locs cells slots ls ad X
  obtain ⟨hx, hb, hown, hK, hkt, hbase, hG, hkE, hzE, hRs, hB⟩ := F
  simp only [jstep] at h
  cases h
  exact lv_lconst hx hb hd rfl (K H locs cells slots ls ad (X.sta (jcs.c trivial X.2.2.1)))
theorem js_null  (F : jFx p R s m args meth c cc own D cl kid g base ka kt tys G B k0 z0 kE zE) (hd : decode cc pc = .ok (.aconst_null, 1)) (h : jstep G B .aconst_null pc lv st μ = some q) (K : jWg p l e R s m args below meth c Q D cl kid g base ka B.2.2.2.2.2.1 k0 z0 n0 ad0 q.1 q.2.1 q.2.2.1 q.2.2.2) : jWg p l e R s m args below meth c Q D cl kid g base ka B.2.2.2.2.2.1 k0 z0 n0 ad0 pc lv st μ := by
  intro H locs cells slots ls ad X
  obtain ⟨hx, hb, hown, hK, hkt, hbase, hG, hkE, hzE, hRs, hB⟩ := F
  simp only [jstep] at h
  cases h
  exact lv_null hx hb hd (K H locs cells slots ls ad (X.sta (jcs.c trivial X.2.2.1)))
theorem js_ldc2 {k : Nat} (F : jFx p R s m args meth c cc own D cl kid g base ka kt tys G B k0 z0 kE zE) (hd : decode cc pc = .ok ((.ldc2_w k), 3)) (h : jstep G B (.ldc2_w k) pc lv st μ = some q) (K : jWg p l e R s m args below meth c Q D cl kid g base ka B.2.2.2.2.2.1 k0 z0 n0 ad0 q.1 q.2.1 q.2.2.1 q.2.2.2) : jWg p l e R s m args below meth c Q D cl kid g base ka B.2.2.2.2.2.1 k0 z0 n0 ad0 pc lv st μ := by
  intro H locs cells slots ls ad X
  obtain ⟨hx, hb, hown, hK, hkt, hbase, hG, hkE, hzE, hRs, hB⟩ := F
  simp only [jstep] at h
  split at h
  · rename_i v hv
    cases h
    exact lv_ldc2 hx hb hown (hB.2.2.2.2.1 k v hv) hd (K H locs cells slots ls ad (X.sta (jcs.c trivial X.2.2.1)))
  · cases h
theorem js_iload {k : Nat} (F : jFx p R s m args meth c cc own D cl kid g base ka kt tys G B k0 z0 kE zE) (hd : decode cc pc = .ok ((.iload k), 2)) (h : jstep G B (.iload k) pc lv st μ = some q) (K : jWg p l e R s m args below meth c Q D cl kid g base ka B.2.2.2.2.2.1 k0 z0 n0 ad0 q.1 q.2.1 q.2.2.1 q.2.2.2) : jWg p l e R s m args below meth c Q D cl kid g base ka B.2.2.2.2.2.1 k0 z0 n0 ad0 pc lv st μ := by
  intro H locs cells slots ls ad X
  obtain ⟨hx, hb, hown, hK, hkt, hbase, hG, hkE, hzE, hRs, hB⟩ := F
  simp only [jstep] at h
  split at h
  · rename_i x hv
    cases h
    exact lv_iload hx hb hd (jlt_at X.1 hv) (K H locs cells slots ls ad (X.sta (jcs.c trivial X.2.2.1)))
  · cases h
theorem js_iload_n {k : Fin 4} (F : jFx p R s m args meth c cc own D cl kid g base ka kt tys G B k0 z0 kE zE) (hd : decode cc pc = .ok ((.iload_n k), 1)) (h : jstep G B (.iload_n k) pc lv st μ = some q) (K : jWg p l e R s m args below meth c Q D cl kid g base ka B.2.2.2.2.2.1 k0 z0 n0 ad0 q.1 q.2.1 q.2.2.1 q.2.2.2) : jWg p l e R s m args below meth c Q D cl kid g base ka B.2.2.2.2.2.1 k0 z0 n0 ad0 pc lv st μ := by
  intro H locs cells slots ls ad X
  obtain ⟨hx, hb, hown, hK, hkt, hbase, hG, hkE, hzE, hRs, hB⟩ := F
  simp only [jstep] at h
  split at h
  · rename_i x hv
    cases h
    exact lv_iload_n hx hb hd rfl (jlt_at X.1 hv) (K H locs cells slots ls ad (X.sta (jcs.c trivial X.2.2.1)))
  · cases h
theorem js_lload {k : Nat} (F : jFx p R s m args meth c cc own D cl kid g base ka kt tys G B k0 z0 kE zE) (hd : decode cc pc = .ok ((.lload k), 2)) (h : jstep G B (.lload k) pc lv st μ = some q) (K : jWg p l e R s m args below meth c Q D cl kid g base ka B.2.2.2.2.2.1 k0 z0 n0 ad0 q.1 q.2.1 q.2.2.1 q.2.2.2) : jWg p l e R s m args below meth c Q D cl kid g base ka B.2.2.2.2.2.1 k0 z0 n0 ad0 pc lv st μ := by
  intro H locs cells slots ls ad X
  obtain ⟨hx, hb, hown, hK, hkt, hbase, hG, hkE, hzE, hRs, hB⟩ := F
  simp only [jstep] at h
  split at h
  · rename_i x hv
    cases h
    exact lv_lload hx hb hd (jlt_at X.1 hv) (K H locs cells slots ls ad (X.sta (jcs.c trivial X.2.2.1)))
  · cases h
theorem js_lload_n {k : Fin 4} (F : jFx p R s m args meth c cc own D cl kid g base ka kt tys G B k0 z0 kE zE) (hd : decode cc pc = .ok ((.lload_n k), 1)) (h : jstep G B (.lload_n k) pc lv st μ = some q) (K : jWg p l e R s m args below meth c Q D cl kid g base ka B.2.2.2.2.2.1 k0 z0 n0 ad0 q.1 q.2.1 q.2.2.1 q.2.2.2) : jWg p l e R s m args below meth c Q D cl kid g base ka B.2.2.2.2.2.1 k0 z0 n0 ad0 pc lv st μ := by
  intro H locs cells slots ls ad X
  obtain ⟨hx, hb, hown, hK, hkt, hbase, hG, hkE, hzE, hRs, hB⟩ := F
  simp only [jstep] at h
  split at h
  · rename_i x hv
    cases h
    exact lv_lload_n hx hb hd rfl (jlt_at X.1 hv) (K H locs cells slots ls ad (X.sta (jcs.c trivial X.2.2.1)))
  · cases h
theorem js_aload {k : Nat} (F : jFx p R s m args meth c cc own D cl kid g base ka kt tys G B k0 z0 kE zE) (hd : decode cc pc = .ok ((.aload k), 2)) (h : jstep G B (.aload k) pc lv st μ = some q) (K : jWg p l e R s m args below meth c Q D cl kid g base ka B.2.2.2.2.2.1 k0 z0 n0 ad0 q.1 q.2.1 q.2.2.1 q.2.2.2) : jWg p l e R s m args below meth c Q D cl kid g base ka B.2.2.2.2.2.1 k0 z0 n0 ad0 pc lv st μ := by
  intro H locs cells slots ls ad X
  obtain ⟨hx, hb, hown, hK, hkt, hbase, hG, hkE, hzE, hRs, hB⟩ := F
  simp only [jstep] at h
  split at h
  · rename_i x hv
    cases h
    exact lv_aload hx hb hd (jlt_at X.1 hv) (K H locs cells slots ls ad (X.sta (jcs.c (X.2.1.ld hv) X.2.2.1)))
  · rename_i hv
    cases h
    exact lv_aloadN hx hb hd (jlt_at X.1 hv) (K H locs cells slots ls ad (X.sta (jcs.c trivial X.2.2.1)))
  · rename_i x hv
    cases h
    exact lv_aload hx hb hd (jlt_at X.1 hv) (K H locs cells slots ls ad (X.sta (jcs.c (X.2.1.ld hv) X.2.2.1)))
  · cases h
theorem js_aload_n {k : Fin 4} (F : jFx p R s m args meth c cc own D cl kid g base ka kt tys G B k0 z0 kE zE) (hd : decode cc pc = .ok ((.aload_n k), 1)) (h : jstep G B (.aload_n k) pc lv st μ = some q) (K : jWg p l e R s m args below meth c Q D cl kid g base ka B.2.2.2.2.2.1 k0 z0 n0 ad0 q.1 q.2.1 q.2.2.1 q.2.2.2) : jWg p l e R s m args below meth c Q D cl kid g base ka B.2.2.2.2.2.1 k0 z0 n0 ad0 pc lv st μ := by
  intro H locs cells slots ls ad X
  obtain ⟨hx, hb, hown, hK, hkt, hbase, hG, hkE, hzE, hRs, hB⟩ := F
  simp only [jstep] at h
  split at h
  · rename_i x hv
    cases h
    exact lv_aload_n hx hb hd rfl (jlt_at X.1 hv) (K H locs cells slots ls ad (X.sta (jcs.c (X.2.1.ld hv) X.2.2.1)))
  · rename_i hv
    cases h
    exact lv_aload_nN hx hb hd rfl (jlt_at X.1 hv) (K H locs cells slots ls ad (X.sta (jcs.c trivial X.2.2.1)))
  · rename_i x hv
    cases h
    exact lv_aload_n hx hb hd rfl (jlt_at X.1 hv) (K H locs cells slots ls ad (X.sta (jcs.c (X.2.1.ld hv) X.2.2.1)))
  · cases h
theorem js_istore {k : Nat} (F : jFx p R s m args meth c cc own D cl kid g base ka kt tys G B k0 z0 kE zE) (hd : decode cc pc = .ok ((.istore k), 2)) (h : jstep G B (.istore k) pc lv st μ = some q) (K : jWg p l e R s m args below meth c Q D cl kid g base ka B.2.2.2.2.2.1 k0 z0 n0 ad0 q.1 q.2.1 q.2.2.1 q.2.2.2) : jWg p l e R s m args below meth c Q D cl kid g base ka B.2.2.2.2.2.1 k0 z0 n0 ad0 pc lv st μ := by
  intro H locs cells slots ls ad X
  obtain ⟨hx, hb, hown, hK, hkt, hbase, hG, hkE, hzE, hRs, hB⟩ := F
  simp only [jstep] at h
  split at h
  · rename_i x st
    obtain ⟨h1, h⟩ := jif_some h
    cases h
    exact lv_istore hx hb hd X.1 (Nat.le_of_ble_eq_true h1) (jlt_s1 ad g lv _ (.int x)) (fun ls' hl => K H locs cells slots ls' ad (X.loc hl (X.2.1.s1 _ trivial) X.2.2.1.t))
  · cases h
theorem js_lstore {k : Nat} (F : jFx p R s m args meth c cc own D cl kid g base ka kt tys G B k0 z0 kE zE) (hd : decode cc pc = .ok ((.lstore k), 2)) (h : jstep G B (.lstore k) pc lv st μ = some q) (K : jWg p l e R s m args below meth c Q D cl kid g base ka B.2.2.2.2.2.1 k0 z0 n0 ad0 q.1 q.2.1 q.2.2.1 q.2.2.2) : jWg p l e R s m args below meth c Q D cl kid g base ka B.2.2.2.2.2.1 k0 z0 n0 ad0 pc lv st μ := by
  intro H locs cells slots ls ad X
  obtain ⟨hx, hb, hown, hK, hkt, hbase, hG, hkE, hzE, hRs, hB⟩ := F
  simp only [jstep] at h
  split at h
  · rename_i x st
    obtain ⟨h1, h⟩ := jif_some h
    cases h
    exact lv_lstore hx hb hd X.1 (Nat.le_of_ble_eq_true h1) (jlt_s2 ad g lv _ (.long x)) (fun ls' hl => K H locs cells slots ls' ad (X.loc hl (X.2.1.s2 _ trivial) X.2.2.1.t))
  · cases h
theorem js_astore {k : Nat} (F : jFx p R s m args meth c cc own D cl kid g base ka kt tys G B k0 z0 kE zE) (hd : decode cc pc = .ok ((.astore k), 2)) (h : jstep G B (.astore k) pc lv st μ = some q) (K : jWg p l e R s m args below meth c Q D cl kid g base ka B.2.2.2.2.2.1 k0 z0 n0 ad0 q.1 q.2.1 q.2.2.1 q.2.2.2) : jWg p l e R s m args below meth c Q D cl kid g base ka B.2.2.2.2.2.1 k0 z0 n0 ad0 pc lv st μ := by
  intro H locs cells slots ls ad X
  obtain ⟨hx, hb, hown, hK, hkt, hbase, hG, hkE, hzE, hRs, hB⟩ := F
  simp only [jstep] at h
  split at h
  · rename_i x st
    obtain ⟨h1, h⟩ := jif_some h
    cases h
    exact lv_astore hx hb hd X.1 (Nat.le_of_ble_eq_true h1) (jlt_s1 ad g lv _ (.ref x)) (fun ls' hl => K H locs cells slots ls' ad (X.loc hl (X.2.1.s1 _ X.2.2.1.h) X.2.2.1.t))
  · rename_i st
    obtain ⟨h1, h⟩ := jif_some h
    cases h
    exact lv_astoreN hx hb hd X.1 (Nat.le_of_ble_eq_true h1) (jlt_s1 ad g lv _ .null) (fun ls' hl => K H locs cells slots ls' ad (X.loc hl (X.2.1.s1 _ trivial) X.2.2.1.t))
  · cases h
theorem js_istore_n {k : Fin 4} (F : jFx p R s m args meth c cc own D cl kid g base ka kt tys G B k0 z0 kE zE) (hd : decode cc pc = .ok ((.istore_n k), 1)) (h : jstep G B (.istore_n k) pc lv st μ = some q) (K : jWg p l e R s m args below meth c Q D cl kid g base ka B.2.2.2.2.2.1 k0 z0 n0 ad0 q.1 q.2.1 q.2.2.1 q.2.2.2) : jWg p l e R s m args below meth c Q D cl kid g base ka B.2.2.2.2.2.1 k0 z0 n0 ad0 pc lv st μ := by
  intro H locs cells slots ls ad X
  obtain ⟨hx, hb, hown, hK, hkt, hbase, hG, hkE, hzE, hRs, hB⟩ := F
  simp only [jstep] at h
  split at h
  · rename_i x st
    obtain ⟨h1, h⟩ := jif_some h
    cases h
    exact lv_istore_n hx hb hd rfl X.1 (Nat.le_of_ble_eq_true h1) (jlt_s1 ad g lv _ (.int x)) (fun ls' hl => K H locs cells slots ls' ad (X.loc hl (X.2.1.s1 _ trivial) X.2.2.1.t))
  · cases h
theorem js_lstore_n {k : Fin 4} (F : jFx p R s m args meth c cc own D cl kid g base ka kt tys G B k0 z0 kE zE) (hd : decode cc pc = .ok ((.lstore_n k), 1)) (h : jstep G B (.lstore_n k) pc lv st μ = some q) (K : jWg p l e R s m args below meth c Q D cl kid g base ka B.2.2.2.2.2.1 k0 z0 n0 ad0 q.1 q.2.1 q.2.2.1 q.2.2.2) : jWg p l e R s m args below meth c Q D cl kid g base ka B.2.2.2.2.2.1 k0 z0 n0 ad0 pc lv st μ := by
  intro H locs cells slots ls ad X
  obtain ⟨hx, hb, hown, hK, hkt, hbase, hG, hkE, hzE, hRs, hB⟩ := F
  simp only [jstep] at h
  split at h
  · rename_i x st
    obtain ⟨h1, h⟩ := jif_some h
    cases h
    exact lv_lstore_n hx hb hd rfl X.1 (Nat.le_of_ble_eq_true h1) (jlt_s2 ad g lv _ (.long x)) (fun ls' hl => K H locs cells slots ls' ad (X.loc hl (X.2.1.s2 _ trivial) X.2.2.1.t))
  · cases h
theorem js_astore_n {k : Fin 4} (F : jFx p R s m args meth c cc own D cl kid g base ka kt tys G B k0 z0 kE zE) (hd : decode cc pc = .ok ((.astore_n k), 1)) (h : jstep G B (.astore_n k) pc lv st μ = some q) (K : jWg p l e R s m args below meth c Q D cl kid g base ka B.2.2.2.2.2.1 k0 z0 n0 ad0 q.1 q.2.1 q.2.2.1 q.2.2.2) : jWg p l e R s m args below meth c Q D cl kid g base ka B.2.2.2.2.2.1 k0 z0 n0 ad0 pc lv st μ := by
  intro H locs cells slots ls ad X
  obtain ⟨hx, hb, hown, hK, hkt, hbase, hG, hkE, hzE, hRs, hB⟩ := F
  simp only [jstep] at h
  split at h
  · rename_i x st
    obtain ⟨h1, h⟩ := jif_some h
    cases h
    exact lv_astore_n hx hb hd rfl X.1 (Nat.le_of_ble_eq_true h1) (jlt_s1 ad g lv _ (.ref x)) (fun ls' hl => K H locs cells slots ls' ad (X.loc hl (X.2.1.s1 _ X.2.2.1.h) X.2.2.1.t))
  · rename_i st
    obtain ⟨h1, h⟩ := jif_some h
    cases h
    exact lv_astore_nN hx hb hd rfl X.1 (Nat.le_of_ble_eq_true h1) (jlt_s1 ad g lv _ .null) (fun ls' hl => K H locs cells slots ls' ad (X.loc hl (X.2.1.s1 _ trivial) X.2.2.1.t))
  · cases h
theorem js_iinc {k : Nat} {n : Int} (F : jFx p R s m args meth c cc own D cl kid g base ka kt tys G B k0 z0 kE zE) (hd : decode cc pc = .ok ((.iinc k n), 3)) (h : jstep G B (.iinc k n) pc lv st μ = some q) (K : jWg p l e R s m args below meth c Q D cl kid g base ka B.2.2.2.2.2.1 k0 z0 n0 ad0 q.1 q.2.1 q.2.2.1 q.2.2.2) : jWg p l e R s m args below meth c Q D cl kid g base ka B.2.2.2.2.2.1 k0 z0 n0 ad0 pc lv st μ := by
  intro H locs cells slots ls ad X
  obtain ⟨hx, hb, hown, hK, hkt, hbase, hG, hkE, hzE, hRs, hB⟩ := F
  simp only [jstep] at h
  split at h
  · rename_i x hv
    obtain ⟨h1, h⟩ := jif_some h
    cases h
    obtain ⟨i, hi⟩ := List.getElem?_of_mem (List.mem_map.mpr ⟨(k, .int x), jld_mem hv, rfl⟩ : (k, jtv ad g (.int x)) ∈ jlt ad g lv)
    exact lv_iinc hx hb hd X.1 hi rfl (Nat.le_of_ble_eq_true h1) (jlt_s1 ad g lv k (.int (x + Int32.ofInt n))) (fun ls' hl => K H locs cells slots ls' ad (X.loc hl (X.2.1.s1 _ trivial) X.2.2.1))
  · cases h
theorem js_iadd  (F : jFx p R s m args meth c cc own D cl kid g base ka kt tys G B k0 z0 kE zE) (hd : decode cc pc = .ok (.iadd, 1)) (h : jstep G B .iadd pc lv st μ = some q) (K : jWg p l e R s m args below meth c Q D cl kid g base ka B.2.2.2.2.2.1 k0 z0 n0 ad0 q.1 q.2.1 q.2.2.1 q.2.2.2) : jWg p l e R s m args below meth c Q D cl kid g base ka B.2.2.2.2.2.1 k0 z0 n0 ad0 pc lv st μ := by
  intro H locs cells slots ls ad X
  obtain ⟨hx, hb, hown, hK, hkt, hbase, hG, hkE, hzE, hRs, hB⟩ := F
  simp only [jstep] at h
  split at h
  · cases h
    exact lv_iadd hx hb hd (K H locs cells slots ls ad (X.sta (jcs.c trivial X.2.2.1.t.t)))
  · cases h
theorem js_isub  (F : jFx p R s m args meth c cc own D cl kid g base ka kt tys G B k0 z0 kE zE) (hd : decode cc pc = .ok (.isub, 1)) (h : jstep G B .isub pc lv st μ = some q) (K : jWg p l e R s m args below meth c Q D cl kid g base ka B.2.2.2.2.2.1 k0 z0 n0 ad0 q.1 q.2.1 q.2.2.1 q.2.2.2) : jWg p l e R s m args below meth c Q D cl kid g base ka B.2.2.2.2.2.1 k0 z0 n0 ad0 pc lv st μ := by
  intro H locs cells slots ls ad X
  obtain ⟨hx, hb, hown, hK, hkt, hbase, hG, hkE, hzE, hRs, hB⟩ := F
  simp only [jstep] at h
  split at h
  · cases h
    exact lv_isub hx hb hd (K H locs cells slots ls ad (X.sta (jcs.c trivial X.2.2.1.t.t)))
  · cases h
theorem js_imul  (F : jFx p R s m args meth c cc own D cl kid g base ka kt tys G B k0 z0 kE zE) (hd : decode cc pc = .ok (.imul, 1)) (h : jstep G B .imul pc lv st μ = some q) (K : jWg p l e R s m args below meth c Q D cl kid g base ka B.2.2.2.2.2.1 k0 z0 n0 ad0 q.1 q.2.1 q.2.2.1 q.2.2.2) : jWg p l e R s m args below meth c Q D cl kid g base ka B.2.2.2.2.2.1 k0 z0 n0 ad0 pc lv st μ := by
  intro H locs cells slots ls ad X
  obtain ⟨hx, hb, hown, hK, hkt, hbase, hG, hkE, hzE, hRs, hB⟩ := F
  simp only [jstep] at h
  split at h
  · cases h
    exact lv_imul hx hb hd (K H locs cells slots ls ad (X.sta (jcs.c trivial X.2.2.1.t.t)))
  · cases h
theorem js_iand  (F : jFx p R s m args meth c cc own D cl kid g base ka kt tys G B k0 z0 kE zE) (hd : decode cc pc = .ok (.iand, 1)) (h : jstep G B .iand pc lv st μ = some q) (K : jWg p l e R s m args below meth c Q D cl kid g base ka B.2.2.2.2.2.1 k0 z0 n0 ad0 q.1 q.2.1 q.2.2.1 q.2.2.2) : jWg p l e R s m args below meth c Q D cl kid g base ka B.2.2.2.2.2.1 k0 z0 n0 ad0 pc lv st μ := by
  intro H locs cells slots ls ad X
  obtain ⟨hx, hb, hown, hK, hkt, hbase, hG, hkE, hzE, hRs, hB⟩ := F
  simp only [jstep] at h
  split at h
  · cases h
    exact lv_iand hx hb hd (K H locs cells slots ls ad (X.sta (jcs.c trivial X.2.2.1.t.t)))
  · cases h
theorem js_ladd  (F : jFx p R s m args meth c cc own D cl kid g base ka kt tys G B k0 z0 kE zE) (hd : decode cc pc = .ok (.ladd, 1)) (h : jstep G B .ladd pc lv st μ = some q) (K : jWg p l e R s m args below meth c Q D cl kid g base ka B.2.2.2.2.2.1 k0 z0 n0 ad0 q.1 q.2.1 q.2.2.1 q.2.2.2) : jWg p l e R s m args below meth c Q D cl kid g base ka B.2.2.2.2.2.1 k0 z0 n0 ad0 pc lv st μ := by
  intro H locs cells slots ls ad X
  obtain ⟨hx, hb, hown, hK, hkt, hbase, hG, hkE, hzE, hRs, hB⟩ := F
  simp only [jstep] at h
  split at h
  · cases h
    exact lv_ladd hx hb hd (K H locs cells slots ls ad (X.sta (jcs.c trivial X.2.2.1.t.t)))
  · cases h
theorem js_lsub  (F : jFx p R s m args meth c cc own D cl kid g base ka kt tys G B k0 z0 kE zE) (hd : decode cc pc = .ok (.lsub, 1)) (h : jstep G B .lsub pc lv st μ = some q) (K : jWg p l e R s m args below meth c Q D cl kid g base ka B.2.2.2.2.2.1 k0 z0 n0 ad0 q.1 q.2.1 q.2.2.1 q.2.2.2) : jWg p l e R s m args below meth c Q D cl kid g base ka B.2.2.2.2.2.1 k0 z0 n0 ad0 pc lv st μ := by
  intro H locs cells slots ls ad X
  obtain ⟨hx, hb, hown, hK, hkt, hbase, hG, hkE, hzE, hRs, hB⟩ := F
  simp only [jstep] at h
  split at h
  · cases h
    exact lv_lsub hx hb hd (K H locs cells slots ls ad (X.sta (jcs.c trivial X.2.2.1.t.t)))
  · cases h
theorem js_lmul  (F : jFx p R s m args meth c cc own D cl kid g base ka kt tys G B k0 z0 kE zE) (hd : decode cc pc = .ok (.lmul, 1)) (h : jstep G B .lmul pc lv st μ = some q) (K : jWg p l e R s m args below meth c Q D cl kid g base ka B.2.2.2.2.2.1 k0 z0 n0 ad0 q.1 q.2.1 q.2.2.1 q.2.2.2) : jWg p l e R s m args below meth c Q D cl kid g base ka B.2.2.2.2.2.1 k0 z0 n0 ad0 pc lv st μ := by
  intro H locs cells slots ls ad X
  obtain ⟨hx, hb, hown, hK, hkt, hbase, hG, hkE, hzE, hRs, hB⟩ := F
  simp only [jstep] at h
  split at h
  · cases h
    exact lv_lmul hx hb hd (K H locs cells slots ls ad (X.sta (jcs.c trivial X.2.2.1.t.t)))
  · cases h
theorem js_lcmp  (F : jFx p R s m args meth c cc own D cl kid g base ka kt tys G B k0 z0 kE zE) (hd : decode cc pc = .ok (.lcmp, 1)) (h : jstep G B .lcmp pc lv st μ = some q) (K : jWg p l e R s m args below meth c Q D cl kid g base ka B.2.2.2.2.2.1 k0 z0 n0 ad0 q.1 q.2.1 q.2.2.1 q.2.2.2) : jWg p l e R s m args below meth c Q D cl kid g base ka B.2.2.2.2.2.1 k0 z0 n0 ad0 pc lv st μ := by
  intro H locs cells slots ls ad X
  obtain ⟨hx, hb, hown, hK, hkt, hbase, hG, hkE, hzE, hRs, hB⟩ := F
  simp only [jstep] at h
  split at h
  · cases h
    exact W.lcmp hx hb hd (K H locs cells slots ls ad (X.sta (jcs.c trivial X.2.2.1.t.t)))
  · cases h
theorem js_irem  (F : jFx p R s m args meth c cc own D cl kid g base ka kt tys G B k0 z0 kE zE) (hd : decode cc pc = .ok (.irem, 1)) (h : jstep G B .irem pc lv st μ = some q) (K : jWg p l e R s m args below meth c Q D cl kid g base ka B.2.2.2.2.2.1 k0 z0 n0 ad0 q.1 q.2.1 q.2.2.1 q.2.2.2) : jWg p l e R s m args below meth c Q D cl kid g base ka B.2.2.2.2.2.1 k0 z0 n0 ad0 pc lv st μ := by
  intro H locs cells slots ls ad X
  obtain ⟨hx, hb, hown, hK, hkt, hbase, hG, hkE, hzE, hRs, hB⟩ := F
  simp only [jstep] at h
  split at h
  · obtain ⟨h1, h⟩ := jif_some h
    cases h
    exact lv_irem hx hb hd (of_decide_eq_true h1) (K H locs cells slots ls ad (X.sta (jcs.c trivial X.2.2.1.t.t)))
  · cases h
theorem js_ldiv  (F : jFx p R s m args meth c cc own D cl kid g base ka kt tys G B k0 z0 kE zE) (hd : decode cc pc = .ok (.ldiv, 1)) (h : jstep G B .ldiv pc lv st μ = some q) (K : jWg p l e R s m args below meth c Q D cl kid g base ka B.2.2.2.2.2.1 k0 z0 n0 ad0 q.1 q.2.1 q.2.2.1 q.2.2.2) : jWg p l e R s m args below meth c Q D cl kid g base ka B.2.2.2.2.2.1 k0 z0 n0 ad0 pc lv st μ := by
  intro H locs cells slots ls ad X
  obtain ⟨hx, hb, hown, hK, hkt, hbase, hG, hkE, hzE, hRs, hB⟩ := F
  simp only [jstep] at h
  split at h
  · obtain ⟨h1, h⟩ := jif_some h
    cases h
    exact lv_ldiv hx hb hd (of_decide_eq_true h1) (K H locs cells slots ls ad (X.sta (jcs.c trivial X.2.2.1.t.t)))
  · cases h
theorem js_i2l  (F : jFx p R s m args meth c cc own D cl kid g base ka kt tys G B k0 z0 kE zE) (hd : decode cc pc = .ok (.i2l, 1)) (h : jstep G B .i2l pc lv st μ = some q) (K : jWg p l e R s m args below meth c Q D cl kid g base ka B.2.2.2.2.2.1 k0 z0 n0 ad0 q.1 q.2.1 q.2.2.1 q.2.2.2) : jWg p l e R s m args below meth c Q D cl kid g base ka B.2.2.2.2.2.1 k0 z0 n0 ad0 pc lv st μ := by
  intro H locs cells slots ls ad X
  obtain ⟨hx, hb, hown, hK, hkt, hbase, hG, hkE, hzE, hRs, hB⟩ := F
  simp only [jstep] at h
  split at h
  · cases h
    exact lv_i2l hx hb hd rfl (K H locs cells slots ls ad (X.sta (jcs.c trivial X.2.2.1.t)))
  · cases h
theorem js_l2i  (F : jFx p R s m args meth c cc own D cl kid g base ka kt tys G B k0 z0 kE zE) (hd : decode cc pc = .ok (.l2i, 1)) (h : jstep G B .l2i pc lv st μ = some q) (K : jWg p l e R s m args below meth c Q D cl kid g base ka B.2.2.2.2.2.1 k0 z0 n0 ad0 q.1 q.2.1 q.2.2.1 q.2.2.2) : jWg p l e R s m args below meth c Q D cl kid g base ka B.2.2.2.2.2.1 k0 z0 n0 ad0 pc lv st μ := by
  intro H locs cells slots ls ad X
  obtain ⟨hx, hb, hown, hK, hkt, hbase, hG, hkE, hzE, hRs, hB⟩ := F
  simp only [jstep] at h
  split at h
  · cases h
    exact lv_l2i hx hb hd rfl (K H locs cells slots ls ad (X.sta (jcs.c trivial X.2.2.1.t)))
  · cases h
theorem js_dup  (F : jFx p R s m args meth c cc own D cl kid g base ka kt tys G B k0 z0 kE zE) (hd : decode cc pc = .ok (.dup, 1)) (h : jstep G B .dup pc lv st μ = some q) (K : jWg p l e R s m args below meth c Q D cl kid g base ka B.2.2.2.2.2.1 k0 z0 n0 ad0 q.1 q.2.1 q.2.2.1 q.2.2.2) : jWg p l e R s m args below meth c Q D cl kid g base ka B.2.2.2.2.2.1 k0 z0 n0 ad0 pc lv st μ := by
  intro H locs cells slots ls ad X
  obtain ⟨hx, hb, hown, hK, hkt, hbase, hG, hkE, hzE, hRs, hB⟩ := F
  simp only [jstep] at h
  split at h
  · obtain ⟨h1, h⟩ := jif_some h
    cases h
    exact lv_dup hx hb hd (by rw [jtv_cat]; exact Nat.eq_of_beq_eq_true h1) (K H locs cells slots ls ad (X.sta (jcs.c X.2.2.1.h X.2.2.1)))
  · cases h
theorem js_pop  (F : jFx p R s m args meth c cc own D cl kid g base ka kt tys G B k0 z0 kE zE) (hd : decode cc pc = .ok (.pop, 1)) (h : jstep G B .pop pc lv st μ = some q) (K : jWg p l e R s m args below meth c Q D cl kid g base ka B.2.2.2.2.2.1 k0 z0 n0 ad0 q.1 q.2.1 q.2.2.1 q.2.2.2) : jWg p l e R s m args below meth c Q D cl kid g base ka B.2.2.2.2.2.1 k0 z0 n0 ad0 pc lv st μ := by
  intro H locs cells slots ls ad X
  obtain ⟨hx, hb, hown, hK, hkt, hbase, hG, hkE, hzE, hRs, hB⟩ := F
  simp only [jstep] at h
  split at h
  · obtain ⟨h1, h⟩ := jif_some h
    cases h
    exact lv_pop hx hb hd (by rw [jtv_cat]; exact Nat.eq_of_beq_eq_true h1) (K H locs cells slots ls ad (X.sta X.2.2.1.t))
  · cases h
theorem js_dup_x1  (F : jFx p R s m args meth c cc own D cl kid g base ka kt tys G B k0 z0 kE zE) (hd : decode cc pc = .ok (.dup_x1, 1)) (h : jstep G B .dup_x1 pc lv st μ = some q) (K : jWg p l e R s m args below meth c Q D cl kid g base ka B.2.2.2.2.2.1 k0 z0 n0 ad0 q.1 q.2.1 q.2.2.1 q.2.2.2) : jWg p l e R s m args below meth c Q D cl kid g base ka B.2.2.2.2.2.1 k0 z0 n0 ad0 pc lv st μ := by
  intro H locs cells slots ls ad X
  obtain ⟨hx, hb, hown, hK, hkt, hbase, hG, hkE, hzE, hRs, hB⟩ := F
  simp only [jstep] at h
  split at h
  · obtain ⟨h1, h⟩ := jif_some h
    cases h
    rw [Bool.and_eq_true] at h1
    exact lv_dup_x1 hx hb hd (by rw [jtv_cat]; exact Nat.eq_of_beq_eq_true h1.1) (by rw [jtv_cat]; exact Nat.eq_of_beq_eq_true h1.2) (K H locs cells slots ls ad (X.sta (jcs.c X.2.2.1.h (jcs.c X.2.2.1.t.h (jcs.c X.2.2.1.h X.2.2.1.t.t)))))
  · cases h
theorem js_dup2  (F : jFx p R s m args meth c cc own D cl kid g base ka kt tys G B k0 z0 kE zE) (hd : decode cc pc = .ok (.dup2, 1)) (h : jstep G B .dup2 pc lv st μ = some q) (K : jWg p l e R s m args below meth c Q D cl kid g base ka B.2.2.2.2.2.1 k0 z0 n0 ad0 q.1 q.2.1 q.2.2.1 q.2.2.2) : jWg p l e R s m args below meth c Q D cl kid g base ka B.2.2.2.2.2.1 k0 z0 n0 ad0 pc lv st μ := by
  intro H locs cells slots ls ad X
  obtain ⟨hx, hb, hown, hK, hkt, hbase, hG, hkE, hzE, hRs, hB⟩ := F
  simp only [jstep] at h
  split at h
  · obtain ⟨h1, h⟩ := jif_some h
    cases h
    rw [Bool.and_eq_true] at h1
    exact lv_dup2_11 hx hb hd (by rw [jtv_cat]; exact Nat.eq_of_beq_eq_true h1.1) (by rw [jtv_cat]; exact Nat.eq_of_beq_eq_true h1.2) (K H locs cells slots ls ad (X.sta (jcs.c X.2.2.1.h (jcs.c X.2.2.1.t.h X.2.2.1))))
  · cases h
theorem js_goto {off : Int} (F : jFx p R s m args meth c cc own D cl kid g base ka kt tys G B k0 z0 kE zE) (hd : decode cc pc = .ok ((.goto off), 3)) (h : jstep G B (.goto off) pc lv st μ = some q) (K : jWg p l e R s m args below meth c Q D cl kid g base ka B.2.2.2.2.2.1 k0 z0 n0 ad0 q.1 q.2.1 q.2.2.1 q.2.2.2) : jWg p l e R s m args below meth c Q D cl kid g base ka B.2.2.2.2.2.1 k0 z0 n0 ad0 pc lv st μ := by
  intro H locs cells slots ls ad X
  obtain ⟨hx, hb, hown, hK, hkt, hbase, hG, hkE, hzE, hRs, hB⟩ := F
  simp only [jstep] at h
  split at h
  · rename_i t ht
    cases h
    exact lv_goto hx hb hd (jtg_spec ht) (K H locs cells slots ls ad (X.sta X.2.2.1))
  · cases h
theorem js_if_eq {off : Int} (F : jFx p R s m args meth c cc own D cl kid g base ka kt tys G B k0 z0 kE zE) (hd : decode cc pc = .ok ((.ifCond .eq off), 3)) (h : jstep G B (.ifCond .eq off) pc lv st μ = some q) (K : jWg p l e R s m args below meth c Q D cl kid g base ka B.2.2.2.2.2.1 k0 z0 n0 ad0 q.1 q.2.1 q.2.2.1 q.2.2.2) : jWg p l e R s m args below meth c Q D cl kid g base ka B.2.2.2.2.2.1 k0 z0 n0 ad0 pc lv st μ := by
  intro H locs cells slots ls ad X
  obtain ⟨hx, hb, hown, hK, hkt, hbase, hG, hkE, hzE, hRs, hB⟩ := F
  simp only [jstep] at h
  split at h
  · rename_i x st
    split at h
    · rename_i t ht
      cases h
      have K1 := K H locs cells slots ls ad (X.sta X.2.2.1.t)
      refine lv_if_eq hx hb hd (jtg_spec ht) (fun hc => ?_) (fun hc => ?_)
      · rw [show jcmp .eq x 0 = true from decide_eq_true hc] at K1
        exact K1
      · rw [show jcmp .eq x 0 = false from decide_eq_false hc] at K1
        exact K1
    · cases h
  · cases h
theorem js_if_ne {off : Int} (F : jFx p R s m args meth c cc own D cl kid g base ka kt tys G B k0 z0 kE zE) (hd : decode cc pc = .ok ((.ifCond .ne off), 3)) (h : jstep G B (.ifCond .ne off) pc lv st μ = some q) (K : jWg p l e R s m args below meth c Q D cl kid g base ka B.2.2.2.2.2.1 k0 z0 n0 ad0 q.1 q.2.1 q.2.2.1 q.2.2.2) : jWg p l e R s m args below meth c Q D cl kid g base ka B.2.2.2.2.2.1 k0 z0 n0 ad0 pc lv st μ := by
  intro H locs cells slots ls ad X
  obtain ⟨hx, hb, hown, hK, hkt, hbase, hG, hkE, hzE, hRs, hB⟩ := F
  simp only [jstep] at h
  split at h
  · rename_i x st
    split at h
    · rename_i t ht
      cases h
      have K1 := K H locs cells slots ls ad (X.sta X.2.2.1.t)
      refine lv_if_ne hx hb hd (jtg_spec ht) (fun hc => ?_) (fun hc => ?_)
      · rw [show jcmp .ne x 0 = true from decide_eq_true hc] at K1
        exact K1
      · rw [show jcmp .ne x 0 = false from decide_eq_false (fun z => z hc)] at K1
        exact K1
    · cases h
  · cases h
theorem js_if_lt {off : Int} (F : jFx p R s m args meth c cc own D cl kid g base ka kt tys G B k0 z0 kE zE) (hd : decode cc pc = .ok ((.ifCond .lt off), 3)) (h : jstep G B (.ifCond .lt off) pc lv st μ = some q) (K : jWg p l e R s m args below meth c Q D cl kid g base ka B.2.2.2.2.2.1 k0 z0 n0 ad0 q.1 q.2.1 q.2.2.1 q.2.2.2) : jWg p l e R s m args below meth c Q D cl kid g base ka B.2.2.2.2.2.1 k0 z0 n0 ad0 pc lv st μ := by
  intro H locs cells slots ls ad X
  obtain ⟨hx, hb, hown, hK, hkt, hbase, hG, hkE, hzE, hRs, hB⟩ := F
  simp only [jstep] at h
  split at h
  · rename_i x st
    split at h
    · rename_i t ht
      cases h
      have K1 := K H locs cells slots ls ad (X.sta X.2.2.1.t)
      refine lv_if_lt hx hb hd (jtg_spec ht) (fun hc => ?_) (fun hc => ?_)
      · rw [show jcmp .lt x 0 = true from decide_eq_true hc] at K1
        exact K1
      · rw [show jcmp .lt x 0 = false from decide_eq_false hc] at K1
        exact K1
    · cases h
  · cases h
theorem js_if_ge {off : Int} (F : jFx p R s m args meth c cc own D cl kid g base ka kt tys G B k0 z0 kE zE) (hd : decode cc pc = .ok ((.ifCond .ge off), 3)) (h : jstep G B (.ifCond .ge off) pc lv st μ = some q) (K : jWg p l e R s m args below meth c Q D cl kid g base ka B.2.2.2.2.2.1 k0 z0 n0 ad0 q.1 q.2.1 q.2.2.1 q.2.2.2) : jWg p l e R s m args below meth c Q D cl kid g base ka B.2.2.2.2.2.1 k0 z0 n0 ad0 pc lv st μ := by
  intro H locs cells slots ls ad X
  obtain ⟨hx, hb, hown, hK, hkt, hbase, hG, hkE, hzE, hRs, hB⟩ := F
  simp only [jstep] at h
  split at h
  · rename_i x st
    split at h
    · rename_i t ht
      cases h
      have K1 := K H locs cells slots ls ad (X.sta X.2.2.1.t)
      refine lv_if_ge hx hb hd (jtg_spec ht) (fun hc => ?_) (fun hc => ?_)
      · rw [show jcmp .ge x 0 = true from decide_eq_true hc] at K1
        exact K1
      · rw [show jcmp .ge x 0 = false from decide_eq_false hc] at K1
        exact K1
    · cases h
  · cases h
theorem js_if_gt {off : Int} (F : jFx p R s m args meth c cc own D cl kid g base ka kt tys G B k0 z0 kE zE) (hd : decode cc pc = .ok ((.ifCond .gt off), 3)) (h : jstep G B (.ifCond .gt off) pc lv st μ = some q) (K : jWg p l e R s m args below meth c Q D cl kid g base ka B.2.2.2.2.2.1 k0 z0 n0 ad0 q.1 q.2.1 q.2.2.1 q.2.2.2) : jWg p l e R s m args below meth c Q D cl kid g base ka B.2.2.2.2.2.1 k0 z0 n0 ad0 pc lv st μ := by
  intro H locs cells slots ls ad X
  obtain ⟨hx, hb, hown, hK, hkt, hbase, hG, hkE, hzE, hRs, hB⟩ := F
  simp only [jstep] at h
  split at h
  · rename_i x st
    split at h
    · rename_i t ht
      cases h
      have K1 := K H locs cells slots ls ad (X.sta X.2.2.1.t)
      refine lv_if_gt hx hb hd (jtg_spec ht) (fun hc => ?_) (fun hc => ?_)
      · rw [show jcmp .gt x 0 = true from decide_eq_true hc] at K1
        exact K1
      · rw [show jcmp .gt x 0 = false from decide_eq_false hc] at K1
        exact K1
    · cases h
  · cases h
theorem js_if_le {off : Int} (F : jFx p R s m args meth c cc own D cl kid g base ka kt tys G B k0 z0 kE zE) (hd : decode cc pc = .ok ((.ifCond .le off), 3)) (h : jstep G B (.ifCond .le off) pc lv st μ = some q) (K : jWg p l e R s m args below meth c Q D cl kid g base ka B.2.2.2.2.2.1 k0 z0 n0 ad0 q.1 q.2.1 q.2.2.1 q.2.2.2) : jWg p l e R s m args below meth c Q D cl kid g base ka B.2.2.2.2.2.1 k0 z0 n0 ad0 pc lv st μ := by
  intro H locs cells slots ls ad X
  obtain ⟨hx, hb, hown, hK, hkt, hbase, hG, hkE, hzE, hRs, hB⟩ := F
  simp only [jstep] at h
  split at h
  · rename_i x st
    split at h
    · rename_i t ht
      cases h
      have K1 := K H locs cells slots ls ad (X.sta X.2.2.1.t)
      refine lv_if_le hx hb hd (jtg_spec ht) (fun hc => ?_) (fun hc => ?_)
      · rw [show jcmp .le x 0 = true from decide_eq_true hc] at K1
        exact K1
      · rw [show jcmp .le x 0 = false from decide_eq_false hc] at K1
        exact K1
    · cases h
  · cases h
theorem js_icmp_eq {off : Int} (F : jFx p R s m args meth c cc own D cl kid g base ka kt tys G B k0 z0 kE zE) (hd : decode cc pc = .ok ((.if_icmp .eq off), 3)) (h : jstep G B (.if_icmp .eq off) pc lv st μ = some q) (K : jWg p l e R s m args below meth c Q D cl kid g base ka B.2.2.2.2.2.1 k0 z0 n0 ad0 q.1 q.2.1 q.2.2.1 q.2.2.2) : jWg p l e R s m args below meth c Q D cl kid g base ka B.2.2.2.2.2.1 k0 z0 n0 ad0 pc lv st μ := by
  intro H locs cells slots ls ad X
  obtain ⟨hx, hb, hown, hK, hkt, hbase, hG, hkE, hzE, hRs, hB⟩ := F
  simp only [jstep] at h
  split at h
  · rename_i y x st
    split at h
    · rename_i t ht
      cases h
      have K1 := K H locs cells slots ls ad (X.sta X.2.2.1.t.t)
      refine lv_icmp_eq hx hb hd (jtg_spec ht) (fun hc => ?_) (fun hc => ?_)
      · rw [show jcmp .eq x y = true from decide_eq_true hc] at K1
        exact K1
      · rw [show jcmp .eq x y = false from decide_eq_false hc] at K1
        exact K1
    · cases h
  · cases h
theorem js_icmp_ne {off : Int} (F : jFx p R s m args meth c cc own D cl kid g base ka kt tys G B k0 z0 kE zE) (hd : decode cc pc = .ok ((.if_icmp .ne off), 3)) (h : jstep G B (.if_icmp .ne off) pc lv st μ = some q) (K : jWg p l e R s m args below meth c Q D cl kid g base ka B.2.2.2.2.2.1 k0 z0 n0 ad0 q.1 q.2.1 q.2.2.1 q.2.2.2) : jWg p l e R s m args below meth c Q D cl kid g base ka B.2.2.2.2.2.1 k0 z0 n0 ad0 pc lv st μ := by
  intro H locs cells slots ls ad X
  obtain ⟨hx, hb, hown, hK, hkt, hbase, hG, hkE, hzE, hRs, hB⟩ := F
  simp only [jstep] at h
  split at h
  · rename_i y x st
    split at h
    · rename_i t ht
      cases h
      have K1 := K H locs cells slots ls ad (X.sta X.2.2.1.t.t)
      refine lv_icmp_ne hx hb hd (jtg_spec ht) (fun hc => ?_) (fun hc => ?_)
      · rw [show jcmp .ne x y = true from decide_eq_true hc] at K1
        exact K1
      · rw [show jcmp .ne x y = false from decide_eq_false (fun z => z hc)] at K1
        exact K1
    · cases h
  · cases h
theorem js_icmp_lt {off : Int} (F : jFx p R s m args meth c cc own D cl kid g base ka kt tys G B k0 z0 kE zE) (hd : decode cc pc = .ok ((.if_icmp .lt off), 3)) (h : jstep G B (.if_icmp .lt off) pc lv st μ = some q) (K : jWg p l e R s m args below meth c Q D cl kid g base ka B.2.2.2.2.2.1 k0 z0 n0 ad0 q.1 q.2.1 q.2.2.1 q.2.2.2) : jWg p l e R s m args below meth c Q D cl kid g base ka B.2.2.2.2.2.1 k0 z0 n0 ad0 pc lv st μ := by
  intro H locs cells slots ls ad X
  obtain ⟨hx, hb, hown, hK, hkt, hbase, hG, hkE, hzE, hRs, hB⟩ := F
  simp only [jstep] at h
  split at h
  · rename_i y x st
    split at h
    · rename_i t ht
      cases h
      have K1 := K H locs cells slots ls ad (X.sta X.2.2.1.t.t)
      refine lv_icmp_lt hx hb hd (jtg_spec ht) (fun hc => ?_) (fun hc => ?_)
      · rw [show jcmp .lt x y = true from decide_eq_true hc] at K1
        exact K1
      · rw [show jcmp .lt x y = false from decide_eq_false hc] at K1
        exact K1
    · cases h
  · cases h
theorem js_icmp_ge {off : Int} (F : jFx p R s m args meth c cc own D cl kid g base ka kt tys G B k0 z0 kE zE) (hd : decode cc pc = .ok ((.if_icmp .ge off), 3)) (h : jstep G B (.if_icmp .ge off) pc lv st μ = some q) (K : jWg p l e R s m args below meth c Q D cl kid g base ka B.2.2.2.2.2.1 k0 z0 n0 ad0 q.1 q.2.1 q.2.2.1 q.2.2.2) : jWg p l e R s m args below meth c Q D cl kid g base ka B.2.2.2.2.2.1 k0 z0 n0 ad0 pc lv st μ := by
  intro H locs cells slots ls ad X
  obtain ⟨hx, hb, hown, hK, hkt, hbase, hG, hkE, hzE, hRs, hB⟩ := F
  simp only [jstep] at h
  split at h
  · rename_i y x st
    split at h
    · rename_i t ht
      cases h
      have K1 := K H locs cells slots ls ad (X.sta X.2.2.1.t.t)
      refine lv_icmp_ge hx hb hd (jtg_spec ht) (fun hc => ?_) (fun hc => ?_)
      · rw [show jcmp .ge x y = true from decide_eq_true hc] at K1
        exact K1
      · rw [show jcmp .ge x y = false from decide_eq_false hc] at K1
        exact K1
    · cases h
  · cases h
theorem js_icmp_gt {off : Int} (F : jFx p R s m args meth c cc own D cl kid g base ka kt tys G B k0 z0 kE zE) (hd : decode cc pc = .ok ((.if_icmp .gt off), 3)) (h : jstep G B (.if_icmp .gt off) pc lv st μ = some q) (K : jWg p l e R s m args below meth c Q D cl kid g base ka B.2.2.2.2.2.1 k0 z0 n0 ad0 q.1 q.2.1 q.2.2.1 q.2.2.2) : jWg p l e R s m args below meth c Q D cl kid g base ka B.2.2.2.2.2.1 k0 z0 n0 ad0 pc lv st μ := by
  intro H locs cells slots ls ad X
  obtain ⟨hx, hb, hown, hK, hkt, hbase, hG, hkE, hzE, hRs, hB⟩ := F
  simp only [jstep] at h
  split at h
  · rename_i y x st
    split at h
    · rename_i t ht
      cases h
      have K1 := K H locs cells slots ls ad (X.sta X.2.2.1.t.t)
      refine lv_icmp_gt hx hb hd (jtg_spec ht) (fun hc => ?_) (fun hc => ?_)
      · rw [show jcmp .gt x y = true from decide_eq_true hc] at K1
        exact K1
      · rw [show jcmp .gt x y = false from decide_eq_false hc] at K1
        exact K1
    · cases h
  · cases h
theorem js_icmp_le {off : Int} (F : jFx p R s m args meth c cc own D cl kid g base ka kt tys G B k0 z0 kE zE) (hd : decode cc pc = .ok ((.if_icmp .le off), 3)) (h : jstep G B (.if_icmp .le off) pc lv st μ = some q) (K : jWg p l e R s m args below meth c Q D cl kid g base ka B.2.2.2.2.2.1 k0 z0 n0 ad0 q.1 q.2.1 q.2.2.1 q.2.2.2) : jWg p l e R s m args below meth c Q D cl kid g base ka B.2.2.2.2.2.1 k0 z0 n0 ad0 pc lv st μ := by
  intro H locs cells slots ls ad X
  obtain ⟨hx, hb, hown, hK, hkt, hbase, hG, hkE, hzE, hRs, hB⟩ := F
  simp only [jstep] at h
  split at h
  · rename_i y x st
    split at h
    · rename_i t ht
      cases h
      have K1 := K H locs cells slots ls ad (X.sta X.2.2.1.t.t)
      refine lv_icmp_le hx hb hd (jtg_spec ht) (fun hc => ?_) (fun hc => ?_)
      · rw [show jcmp .le x y = true from decide_eq_true hc] at K1
        exact K1
      · rw [show jcmp .le x y = false from decide_eq_false hc] at K1
        exact K1
    · cases h
  · cases h
theorem js_ifnull {off : Int} (F : jFx p R s m args meth c cc own D cl kid g base ka kt tys G B k0 z0 kE zE) (hd : decode cc pc = .ok ((.ifnull off), 3)) (h : jstep G B (.ifnull off) pc lv st μ = some q) (K : jWg p l e R s m args below meth c Q D cl kid g base ka B.2.2.2.2.2.1 k0 z0 n0 ad0 q.1 q.2.1 q.2.2.1 q.2.2.2) : jWg p l e R s m args below meth c Q D cl kid g base ka B.2.2.2.2.2.1 k0 z0 n0 ad0 pc lv st μ := by
  intro H locs cells slots ls ad X
  obtain ⟨hx, hb, hown, hK, hkt, hbase, hG, hkE, hzE, hRs, hB⟩ := F
  simp only [jstep] at h
  split at h
  · split at h
    · rename_i t ht
      cases h
      exact lv_ifnullN hx hb hd (jtg_spec ht) (K H locs cells slots ls ad (X.sta X.2.2.1.t))
    · cases h
  · cases h
    exact lv_ifnull hx hb hd (K H locs cells slots ls ad (X.sta X.2.2.1.t))
  · cases h
theorem js_ifnonnull {off : Int} (F : jFx p R s m args meth c cc own D cl kid g base ka kt tys G B k0 z0 kE zE) (hd : decode cc pc = .ok ((.ifnonnull off), 3)) (h : jstep G B (.ifnonnull off) pc lv st μ = some q) (K : jWg p l e R s m args below meth c Q D cl kid g base ka B.2.2.2.2.2.1 k0 z0 n0 ad0 q.1 q.2.1 q.2.2.1 q.2.2.2) : jWg p l e R s m args below meth c Q D cl kid g base ka B.2.2.2.2.2.1 k0 z0 n0 ad0 pc lv st μ := by
  intro H locs cells slots ls ad X
  obtain ⟨hx, hb, hown, hK, hkt, hbase, hG, hkE, hzE, hRs, hB⟩ := F
  simp only [jstep] at h
  split at h
  · cases h
    exact lv_ifnonnullN hx hb hd (K H locs cells slots ls ad (X.sta X.2.2.1.t))
  · split at h
    · rename_i t ht
      cases h
      exact lv_ifnonnull hx hb hd (jtg_spec ht) (K H locs cells slots ls ad (X.sta X.2.2.1.t))
    · cases h
  · cases h
theorem js_tsw {d lo hi : Int} {offs : Array Int} {len : Nat} (F : jFx p R s m args meth c cc own D cl kid g base ka kt tys G B k0 z0 kE zE) (hd : decode cc pc = .ok ((.tableswitch d lo hi offs), len)) (h : jstep G B (.tableswitch d lo hi offs) pc lv st μ = some q) (K : jWg p l e R s m args below meth c Q D cl kid g base ka B.2.2.2.2.2.1 k0 z0 n0 ad0 q.1 q.2.1 q.2.2.1 q.2.2.2) : jWg p l e R s m args below meth c Q D cl kid g base ka B.2.2.2.2.2.1 k0 z0 n0 ad0 pc lv st μ := by
  intro H locs cells slots ls ad X
  obtain ⟨hx, hb, hown, hK, hkt, hbase, hG, hkE, hzE, hRs, hB⟩ := F
  simp only [jstep] at h
  split at h
  · rename_i x st
    by_cases hc : x.toInt < lo ∨ hi < x.toInt
    · rw [decide_eq_true hc, cond_true] at h
      split at h
      · rename_i t ht
        cases h
        exact lv_tableOut hx hb hd hc (jtg_spec ht) (K H locs cells slots ls ad (X.sta X.2.2.1.t))
      · cases h
    · rw [decide_eq_false hc, cond_false] at h
      split at h
      · rename_i o ho
        split at h
        · rename_i t ht
          cases h
          exact lv_tableIn hx hb hd (fun z => hc (Or.inl z)) (fun z => hc (Or.inr z)) ho (jtg_spec ht) (K H locs cells slots ls ad (X.sta X.2.2.1.t))
        · cases h
      · cases h
  · cases h
theorem js_lsw {d : Int} {ps : Array (Int × Int)} {len : Nat} (F : jFx p R s m args meth c cc own D cl kid g base ka kt tys G B k0 z0 kE zE) (hd : decode cc pc = .ok ((.lookupswitch d ps), len)) (h : jstep G B (.lookupswitch d ps) pc lv st μ = some q) (K : jWg p l e R s m args below meth c Q D cl kid g base ka B.2.2.2.2.2.1 k0 z0 n0 ad0 q.1 q.2.1 q.2.2.1 q.2.2.2) : jWg p l e R s m args below meth c Q D cl kid g base ka B.2.2.2.2.2.1 k0 z0 n0 ad0 pc lv st μ := by
  intro H locs cells slots ls ad X
  obtain ⟨hx, hb, hown, hK, hkt, hbase, hG, hkE, hzE, hRs, hB⟩ := F
  simp only [jstep] at h
  split at h
  · rename_i x st
    split at h
    · rename_i t ht
      obtain ⟨h1, h⟩ := jif_some h
      cases h
      exact lv_lookup hx hb hd h1 rfl (jtg_spec ht) (K H locs cells slots ls ad (X.sta X.2.2.1.t))
    · cases h
  · cases h
theorem js_getfield {k : Nat} (F : jFx p R s m args meth c cc own D cl kid g base ka kt tys G B k0 z0 kE zE) (hd : decode cc pc = .ok ((.getfield k), 3)) (h : jstep G B (.getfield k) pc lv st μ = some q) (K : jWg p l e R s m args below meth c Q D cl kid g base ka B.2.2.2.2.2.1 k0 z0 n0 ad0 q.1 q.2.1 q.2.2.1 q.2.2.2) : jWg p l e R s m args below meth c Q D cl kid g base ka B.2.2.2.2.2.1 k0 z0 n0 ad0 pc lv st μ := by
  intro H locs cells slots ls ad X
  obtain ⟨hx, hb, hown, hK, hkt, hbase, hG, hkE, hzE, hRs, hB⟩ := F
  simp only [jstep] at h
  split at h
  · rename_i a st
    split at h
    · rename_i c1 f1 kd1 fin1 hf
      split at h
      · rename_i d fs hm
        split at h
        · rename_i v hv
          obtain ⟨h1, h⟩ := jif_some h
          cases h
          have e1 : d = c1 := Nat.eq_of_beq_eq_true h1
          subst e1
          obtain ⟨C, T, N, Ts, ty0, hts, hin, hc, hk, hT1, hty, hnm, hfit, hl⟩ := hB.1 k _ hf
          have he := jws_at (kid := kid) (g := g) (ad := ad) X.2.2.1.h hm
          have hv2 : (fs.map (jtv ad g))[f1]? = some (jtv ad g v) := by rw [List.getElem?_map, hv]; rfl
          have hcv : jcv μ.2.1 v := jcs_mem.mp (show jcs μ.2.1 fs from by have := X.2.2.2.2.2.1 a X.2.2.1.h; rw [hm] at this; exact this) v (List.mem_of_getElem? hv)
          have K1 := K H locs cells slots ls ad (X.sta (jcs.c hcv X.2.2.1.t))
          have hsame : ∀ x, s.fieldFound? (T f1).1 (T f1).2.1 (T f1).2.2.1 = some x → s.fieldFound? C (T f1).2.1 (T f1).2.2.1 = some x := by rw [hT1]; exact fun _ z => z
          rcases hl with ⟨-, -, -, hl⟩ | ⟨-, -, hl | ⟨host, hl⟩⟩
          · exact va_get hx hb hts hin hown hK X.2.2.2.1 a he hc f1 hk hl hsame hv2 hd K1
          · exact va_get hx hb hts hin hown hK X.2.2.2.1 a he hc f1 hk hl hsame hv2 hd K1
          · exact va_getN hx hb hts hin hown hK X.2.2.2.1 a he hc f1 hk hl hsame hv2 hd K1
        · cases h
      · cases h
    · cases h
  · cases h
theorem js_putfield {k : Nat} (F : jFx p R s m args meth c cc own D cl kid g base ka kt tys G B k0 z0 kE zE) (hd : decode cc pc = .ok ((.putfield k), 3)) (h : jstep G B (.putfield k) pc lv st μ = some q) (K : jWg p l e R s m args below meth c Q D cl kid g base ka B.2.2.2.2.2.1 k0 z0 n0 ad0 q.1 q.2.1 q.2.2.1 q.2.2.2) : jWg p l e R s m args below meth c Q D cl kid g base ka B.2.2.2.2.2.1 k0 z0 n0 ad0 pc lv st μ := by
  intro H locs cells slots ls ad X
  obtain ⟨hx, hb, hown, hK, hkt, hbase, hG, hkE, hzE, hRs, hB⟩ := F
  simp only [jstep] at h
  split at h
  · rename_i v a st
    split at h
    · rename_i c1 f1 kd1 fin1 hf
      split at h
      · rename_i d fs hm
        obtain ⟨h1, h⟩ := jif_some h
        cases h
        simp only [Bool.and_eq_true] at h1
        obtain ⟨e1, h2, h3, h4⟩ := h1
        have e1 : d = c1 := Nat.eq_of_beq_eq_true e1
        subst e1
        obtain ⟨C, T, N, Ts, ty0, hts, hin, hc, hk, hT1, hty, hnm, hfit, hl⟩ := hB.1 k _ hf
        have he := jws_at (kid := kid) (g := g) (ad := ad) X.2.2.1.t.h hm
        have hfs : jcs μ.2.1 fs := by have := X.2.2.2.2.2.1 a X.2.2.1.t.h; rw [hm] at this; exact this
        have hcs : jcs μ.2.1 (fs.set f1 v) := jcs_mem.mpr fun w hw => by
          rcases List.mem_or_eq_of_mem_set hw with hw | hw
          · exact jcs_mem.mp hfs w hw
          · rw [hw]; exact X.2.2.1.h
        have hlen : f1 < (fs.map (jtv ad g)).length := by rw [List.length_map]; exact Nat.le_of_ble_eq_true h2
        have hset : (fs.map (jtv ad g)).set f1 (jtv ad g v) = (fs.set f1 v).map (jtv ad g) := (List.map_set).symm
        have hsame : ∀ x, s.fieldFound? (T f1).1 (T f1).2.1 (T f1).2.2.1 = some x → s.fieldFound? C (T f1).2.1 (T f1).2.2.1 = some x := by rw [hT1]; exact fun _ z => z
        have hff := hfit _ (jfit_tv ad g h3)
        have K1 : ∀ (H1 : Heap) (locs1 : List Loc), va_P D cl ((jws kid g ad μ).set a (ad a, .inr (d, (fs.map (jtv ad g)).set f1 (jtv ad g v)))) H1 → va_D (fun q => base ≤ q) ((jws kid g ad μ).set a (ad a, .inr (d, (fs.map (jtv ad g)).set f1 (jtv ad g v)))) → va_S (fun q => base ≤ q) s.heap H1 locs1 → W p l e R s m args below meth c H1 locs1 cells slots Q (F0 m (pc + 3) ls (st.map (jtv ad g))) := by
          intro H1 locs1 hP1 hD1 hS1
          rw [hset] at hP1 hD1
          exact K H1 locs1 cells slots ls ad (X.put (e := .inr (d, fs.set f1 v)) X.2.2.1.t.t hcs hP1 hD1 hS1)
        rcases hl with ⟨q1, q2, q3, hl⟩ | ⟨q1, q2, hl⟩
        · have q1 : fin1 = true := q1
          subst q1
          exact va_putF hx hb hts hin ty0 hty hnm hown hK X.2.2.2.1 X.2.2.2.2.1 X.2.2.2.2.2.2.1 a he hc f1 hk hl hsame q2 (hB.2.2.2.2.2.2.2 (by simpa using h4)) (hT1.trans q3) (hty f1 hk) hff.1 hff.2 hlen hd K1
        · rcases q2 with q2 | q2
          · rcases hl with hl | ⟨host, hl⟩
            · exact va_put hx hb hts hin ty0 hty hnm hown hK X.2.2.2.1 X.2.2.2.2.1 X.2.2.2.2.2.2.1 a he hc f1 hk hl hsame q2 (hty f1 hk) hff.1 hff.2 hlen hd K1
            · exact va_putN hx hb hts hin ty0 hty hnm hown hK X.2.2.2.1 X.2.2.2.2.1 X.2.2.2.2.2.2.1 a he hc f1 hk hl hsame q2 (hty f1 hk) hff.1 hff.2 hlen hd K1
          · rw [q2 v] at h3; cases h3
      · cases h
    · cases h
  · cases h
theorem js_getstatic {k : Nat} (F : jFx p R s m args meth c cc own D cl kid g base ka kt tys G B k0 z0 kE zE) (hd : decode cc pc = .ok ((.getstatic k), 3)) (h : jstep G B (.getstatic k) pc lv st μ = some q) (K : jWg p l e R s m args below meth c Q D cl kid g base ka B.2.2.2.2.2.1 k0 z0 n0 ad0 q.1 q.2.1 q.2.2.1 q.2.2.2) : jWg p l e R s m args below meth c Q D cl kid g base ka B.2.2.2.2.2.1 k0 z0 n0 ad0 pc lv st μ := by
  intro H locs cells slots ls ad X
  obtain ⟨hx, hb, hown, hK, hkt, hbase, hG, hkE, hzE, hRs, hB⟩ := F
  simp only [jstep] at h
  split at h
  · rename_i d hv
    cases h
    obtain ⟨hd3, C, n, ty, hZ, hl⟩ := hB.2.2.2.1 k d hv
    have e1 : (UInt32.ofNat d).toNat = d := by rcases (show d = 0 ∨ d = 1 ∨ d = 2 by omega) with rfl | rfl | rfl <;> rfl
    have K1 := K H locs cells slots ls ad (X.sta (jcs.c (show (UInt32.ofNat d).toNat < 3 by rw [e1]; exact hd3) X.2.2.1))
    have e2 : jtv ad g (.float (UInt32.ofNat d)) = .ref (g d) := by show Value.ref (g (UInt32.ofNat d).toNat) = _; rw [e1]
    have K2 : W p l e R s m args below meth c H locs cells slots Q (F0 m (pc + 3) ls (jtv ad g (.float (UInt32.ofNat d)) :: st.map (jtv ad g))) := K1
    rw [e2] at K2
    rcases hl with hl | ⟨host, hl⟩
    · exact va_gets hx hb hZ X.2.2.2.2.2.2.1 hown hl (fun _ z => z) hd K2
    · exact va_getsN hx hb hZ X.2.2.2.2.2.2.1 hown hl (fun _ z => z) hd K2
  · cases h
theorem js_alen  (F : jFx p R s m args meth c cc own D cl kid g base ka kt tys G B k0 z0 kE zE) (hd : decode cc pc = .ok (.arraylength, 1)) (h : jstep G B .arraylength pc lv st μ = some q) (K : jWg p l e R s m args below meth c Q D cl kid g base ka B.2.2.2.2.2.1 k0 z0 n0 ad0 q.1 q.2.1 q.2.2.1 q.2.2.2) : jWg p l e R s m args below meth c Q D cl kid g base ka B.2.2.2.2.2.1 k0 z0 n0 ad0 pc lv st μ := by
  intro H locs cells slots ls ad X
  obtain ⟨hx, hb, hown, hK, hkt, hbase, hG, hkE, hzE, hRs, hB⟩ := F
  simp only [jstep] at h
  split at h
  · rename_i a st
    split at h
    · rename_i k1 n1 x1 hm
      cases h
      have hc := X.2.2.2.2.2.1 a X.2.2.1.h
      rw [hm] at hc
      have he := jws_at (kid := kid) (g := g) (ad := ad) X.2.2.1.h hm
      have K1 := K H locs cells slots ls ad (X.sta (jcs.c trivial X.2.2.1.t))
      rcases x1 with f | f | f | f | f
      · have hc : k1 = 0 := hc
        subst hc
        obtain ⟨t0, ht⟩ := hkt.1 0 hkt.2.2.2.2.1
        exact va_alen hx hb hK X.2.2.2.1 a t0 he ht rfl hd K1
      · have hc : k1 = 1 := hc
        subst hc
        obtain ⟨t0, ht⟩ := hkt.1 1 hkt.2.2.2.2.2
        exact va_alen hx hb hK X.2.2.2.1 a t0 he ht rfl hd K1
      · exact hc.elim
      · exact hc.elim
      · obtain ⟨t0, ht⟩ := hkt.1 k1 hc.2.1
        exact va_alen hx hb hK X.2.2.2.1 a t0 he ht rfl hd K1
    · cases h
  · rename_i d st
    cases h
    exact va_tlen hx hb (hG d.toNat X.2.2.1.h) X.2.2.2.2.2.2.1 rfl hd (K H locs cells slots ls ad (X.sta (jcs.c trivial X.2.2.1.t)))
  · cases h
theorem js_iald  (F : jFx p R s m args meth c cc own D cl kid g base ka kt tys G B k0 z0 kE zE) (hd : decode cc pc = .ok (.iaload, 1)) (h : jstep G B .iaload pc lv st μ = some q) (K : jWg p l e R s m args below meth c Q D cl kid g base ka B.2.2.2.2.2.1 k0 z0 n0 ad0 q.1 q.2.1 q.2.2.1 q.2.2.2) : jWg p l e R s m args below meth c Q D cl kid g base ka B.2.2.2.2.2.1 k0 z0 n0 ad0 pc lv st μ := by
  intro H locs cells slots ls ad X
  obtain ⟨hx, hb, hown, hK, hkt, hbase, hG, hkE, hzE, hRs, hB⟩ := F
  simp only [jstep] at h
  split at h
  · rename_i i a st
    split at h
    · rename_i k1 n1 f1 hm
      obtain ⟨h1, h⟩ := jif_some h
      cases h
      have hc : k1 = 0 := by have := X.2.2.2.2.2.1 a X.2.2.1.t.h; rw [hm] at this; exact this
      subst hc
      obtain ⟨t0, ht⟩ := hkt.1 0 hkt.2.2.2.2.1
      rw [hkt.2.1] at ht
      exact va_iald hx hb hK X.2.2.2.1 a t0 (jws_at (kid := kid) (g := g) (ad := ad) X.2.2.1.t.h hm) ht (jin_in h1) hd (K H locs cells slots ls ad (X.sta (jcs.c trivial X.2.2.1.t.t)))
    · cases h
  · rename_i i d st
    obtain ⟨h1, h⟩ := jif_some h
    cases h
    exact va_ti hx hb (hG d.toNat X.2.2.1.t.h) X.2.2.2.2.2.2.1 (jin_in h1) rfl hd (K H locs cells slots ls ad (X.sta (jcs.c trivial X.2.2.1.t.t)))
  · cases h
theorem js_lald  (F : jFx p R s m args meth c cc own D cl kid g base ka kt tys G B k0 z0 kE zE) (hd : decode cc pc = .ok (.laload, 1)) (h : jstep G B .laload pc lv st μ = some q) (K : jWg p l e R s m args below meth c Q D cl kid g base ka B.2.2.2.2.2.1 k0 z0 n0 ad0 q.1 q.2.1 q.2.2.1 q.2.2.2) : jWg p l e R s m args below meth c Q D cl kid g base ka B.2.2.2.2.2.1 k0 z0 n0 ad0 pc lv st μ := by
  intro H locs cells slots ls ad X
  obtain ⟨hx, hb, hown, hK, hkt, hbase, hG, hkE, hzE, hRs, hB⟩ := F
  simp only [jstep] at h
  split at h
  · rename_i i a st
    split at h
    · rename_i k1 n1 f1 hm
      obtain ⟨h1, h⟩ := jif_some h
      cases h
      have hc : k1 = 1 := by have := X.2.2.2.2.2.1 a X.2.2.1.t.h; rw [hm] at this; exact this
      subst hc
      obtain ⟨t0, ht⟩ := hkt.1 1 hkt.2.2.2.2.2
      rw [hkt.2.2.1] at ht
      exact va_lald hx hb hK X.2.2.2.1 a t0 (jws_at (kid := kid) (g := g) (ad := ad) X.2.2.1.t.h hm) ht (jin_in h1) hd (K H locs cells slots ls ad (X.sta (jcs.c trivial X.2.2.1.t.t)))
    · cases h
  · cases h
theorem js_aald  (F : jFx p R s m args meth c cc own D cl kid g base ka kt tys G B k0 z0 kE zE) (hd : decode cc pc = .ok (.aaload, 1)) (h : jstep G B .aaload pc lv st μ = some q) (K : jWg p l e R s m args below meth c Q D cl kid g base ka B.2.2.2.2.2.1 k0 z0 n0 ad0 q.1 q.2.1 q.2.2.1 q.2.2.2) : jWg p l e R s m args below meth c Q D cl kid g base ka B.2.2.2.2.2.1 k0 z0 n0 ad0 pc lv st μ := by
  intro H locs cells slots ls ad X
  obtain ⟨hx, hb, hown, hK, hkt, hbase, hG, hkE, hzE, hRs, hB⟩ := F
  simp only [jstep] at h
  split at h
  · rename_i i a st
    split at h
    · rename_i k1 n1 f1 hm
      obtain ⟨h1, h⟩ := jif_some h
      cases h
      have hc := X.2.2.2.2.2.1 a X.2.2.1.t.h
      rw [hm] at hc
      obtain ⟨⟨c1, hc1⟩, hc2, hc3⟩ := hc
      subst hc1
      obtain ⟨t0, ht⟩ := hkt.1 _ hc2
      obtain ⟨r, hr1, hr2⟩ := hkt.2.2.2.1 c1 hc2
      rw [hr2] at ht
      have hcv : jcv μ.2.1 (va_rf (f1 i.toNatClampNeg)) := by
        cases hx : f1 i.toNatClampNeg with
        | none => exact trivial
        | some x => exact hc3 _ x hx
      have K1 := K H locs cells slots ls ad (X.sta (jcs.c hcv X.2.2.1.t.t))
      have e1 : jtv ad g (va_rf (f1 i.toNatClampNeg)) = va_rf ((f1 i.toNatClampNeg).map ad) := by cases f1 i.toNatClampNeg <;> rfl
      refine va_aldq hx hb hK X.2.2.2.1 a t0 (jws_at (kid := kid) (g := g) (ad := ad) X.2.2.1.t.h hm) ht (jin_in h1) hd ?_
      show W p l e R s m args below meth c H locs cells slots Q (F0 m (pc + 1) ls (va_rf ((f1 i.toNatClampNeg).map ad) :: st.map (jtv ad g)))
      rw [← e1]
      exact K1
    · cases h
  · cases h
theorem js_iast  (F : jFx p R s m args meth c cc own D cl kid g base ka kt tys G B k0 z0 kE zE) (hd : decode cc pc = .ok (.iastore, 1)) (h : jstep G B .iastore pc lv st μ = some q) (K : jWg p l e R s m args below meth c Q D cl kid g base ka B.2.2.2.2.2.1 k0 z0 n0 ad0 q.1 q.2.1 q.2.2.1 q.2.2.2) : jWg p l e R s m args below meth c Q D cl kid g base ka B.2.2.2.2.2.1 k0 z0 n0 ad0 pc lv st μ := by
  intro H locs cells slots ls ad X
  obtain ⟨hx, hb, hown, hK, hkt, hbase, hG, hkE, hzE, hRs, hB⟩ := F
  simp only [jstep] at h
  split at h
  · rename_i x i a st
    split at h
    · rename_i k1 n1 f1 hm
      obtain ⟨h1, h⟩ := jif_some h
      cases h
      have hc : k1 = 0 := by have := X.2.2.2.2.2.1 a X.2.2.1.t.t.h; rw [hm] at this; exact this
      subst hc
      obtain ⟨t0, ht⟩ := hkt.1 0 hkt.2.2.2.2.1
      rw [hkt.2.1] at ht
      exact va_iast hx hb hK X.2.2.2.1 X.2.2.2.2.1 X.2.2.2.2.2.2.1 a t0 (jws_at (kid := kid) (g := g) (ad := ad) X.2.2.1.t.t.h hm) ht (jin_in h1) hd (fun H1 locs1 hP1 hD1 hS1 => K H1 locs1 cells slots ls ad (X.put (e := .inl (0, n1, .inl (upd f1 i.toNatClampNeg x))) X.2.2.1.t.t.t rfl hP1 hD1 hS1))
    · cases h
  · cases h
theorem js_last  (F : jFx p R s m args meth c cc own D cl kid g base ka kt tys G B k0 z0 kE zE) (hd : decode cc pc = .ok (.lastore, 1)) (h : jstep G B .lastore pc lv st μ = some q) (K : jWg p l e R s m args below meth c Q D cl kid g base ka B.2.2.2.2.2.1 k0 z0 n0 ad0 q.1 q.2.1 q.2.2.1 q.2.2.2) : jWg p l e R s m args below meth c Q D cl kid g base ka B.2.2.2.2.2.1 k0 z0 n0 ad0 pc lv st μ := by
  intro H locs cells slots ls ad X
  obtain ⟨hx, hb, hown, hK, hkt, hbase, hG, hkE, hzE, hRs, hB⟩ := F
  simp only [jstep] at h
  split at h
  · rename_i x i a st
    split at h
    · rename_i k1 n1 f1 hm
      obtain ⟨h1, h⟩ := jif_some h
      cases h
      have hc : k1 = 1 := by have := X.2.2.2.2.2.1 a X.2.2.1.t.t.h; rw [hm] at this; exact this
      subst hc
      obtain ⟨t0, ht⟩ := hkt.1 1 hkt.2.2.2.2.2
      rw [hkt.2.2.1] at ht
      exact va_last hx hb hK X.2.2.2.1 X.2.2.2.2.1 X.2.2.2.2.2.2.1 a t0 (jws_at (kid := kid) (g := g) (ad := ad) X.2.2.1.t.t.h hm) ht (jin_in h1) hd (fun H1 locs1 hP1 hD1 hS1 => K H1 locs1 cells slots ls ad (X.put (e := .inl (1, n1, .inr (.inl (vp_updL f1 i.toNatClampNeg x)))) X.2.2.1.t.t.t rfl hP1 hD1 hS1))
    · cases h
  · cases h
theorem js_aast  (F : jFx p R s m args meth c cc own D cl kid g base ka kt tys G B k0 z0 kE zE) (hd : decode cc pc = .ok (.aastore, 1)) (h : jstep G B .aastore pc lv st μ = some q) (K : jWg p l e R s m args below meth c Q D cl kid g base ka B.2.2.2.2.2.1 k0 z0 n0 ad0 q.1 q.2.1 q.2.2.1 q.2.2.2) : jWg p l e R s m args below meth c Q D cl kid g base ka B.2.2.2.2.2.1 k0 z0 n0 ad0 pc lv st μ := by
  intro H locs cells slots ls ad X
  obtain ⟨hx, hb, hown, hK, hkt, hbase, hG, hkE, hzE, hRs, hB⟩ := F
  simp only [jstep] at h
  split at h
  · rename_i b i a st
    split at h
    · rename_i k1 n1 f1 hm
      split at h
      · rename_i d1 vs hmb
        obtain ⟨h1, h⟩ := jif_some h
        cases h
        rw [Bool.and_eq_true] at h1
        have hk1 : k1 = d1 + 2 := Nat.eq_of_beq_eq_true h1.2
        subst hk1
        have hc := X.2.2.2.2.2.1 a X.2.2.1.t.t.h
        rw [hm] at hc
        obtain ⟨hc1, hc2, hc3⟩ := hc
        obtain ⟨t0, ht⟩ := hkt.1 _ hc2
        obtain ⟨r, hr1, hr2⟩ := hkt.2.2.2.1 d1 hc2
        rw [hr2] at ht
        have hce : jce ka μ.2.1 (.inl (d1 + 2, n1, .inr (.inr (.inr (.inr (va_up f1 i.toNatClampNeg (some b))))))) := ⟨hc1, hc2, fun j x hx => by
          by_cases q : j = i.toNatClampNeg
          · subst q; rw [va_up_self] at hx; cases hx; exact X.2.2.1.h
          · rw [va_up_ne _ _ q] at hx; exact hc3 j x hx⟩
        have e1 : (fun j => (va_up f1 i.toNatClampNeg (some b) j).map ad) = va_up (fun j => (f1 j).map ad) i.toNatClampNeg (some (ad b)) := by
          funext j
          by_cases q : j = i.toNatClampNeg
          · subst q; rw [va_up_self, va_up_self]; rfl
          · rw [va_up_ne _ _ q, va_up_ne _ _ q]
        refine va_astq hx hb hK X.2.2.2.1 X.2.2.2.2.1 X.2.2.2.2.2.2.1 a t0 b d1 (jws_at (kid := kid) (g := g) (ad := ad) X.2.2.1.t.t.h hm) ht (jws_at (kid := kid) (g := g) (ad := ad) X.2.2.1.h hmb) hr1 (jin_in h1.1) hd (fun H1 locs1 hP1 hD1 hS1 => ?_)
        rw [← e1] at hP1 hD1
        exact K H1 locs1 cells slots ls ad (X.put (e := .inl (d1 + 2, n1, .inr (.inr (.inr (.inr (va_up f1 i.toNatClampNeg (some b))))))) X.2.2.1.t.t.t hce hP1 hD1 hS1)
      · cases h
    · cases h
  · cases h
theorem js_newarray_int  (F : jFx p R s m args meth c cc own D cl kid g base ka kt tys G B k0 z0 kE zE) (hd : decode cc pc = .ok ((.newarray .int), 2)) (h : jstep G B (.newarray .int) pc lv st μ = some q) (hE : q.2.2.2.2.2.1 ≤ kE ∧ q.2.2.2.2.2.2 ≤ zE) (K : jWg p l e R s m args below meth c Q D cl kid g base ka B.2.2.2.2.2.1 k0 z0 n0 ad0 q.1 q.2.1 q.2.2.1 q.2.2.2) : jWg p l e R s m args below meth c Q D cl kid g base ka B.2.2.2.2.2.1 k0 z0 n0 ad0 pc lv st μ := by
  intro H locs cells slots ls ad X
  obtain ⟨hx, hb, hown, hK, hkt, hbase, hG, hkE, hzE, hRs, hB⟩ := F
  simp only [jstep] at h
  split at h
  · rename_i n st
    obtain ⟨h1, h⟩ := jif_some h
    cases h
    have hE1 : μ.2.2.1 + 1 ≤ kE := hE.1
    have hE2 : μ.2.2.2 + n.toNatClampNeg ≤ zE := hE.2
    have hk := X.2.2.2.2.2.2.2.1
    have hz := X.2.2.2.2.2.2.2.2.1
    have hb1 : n.toNatClampNeg * componentBytes .int ≤ 536870912 := by show n.toNatClampNeg * 4 ≤ _; omega
    refine va_newa hx hb (atype := .int) hB.2.2.2.2.2.1 rfl hK X.2.2.2.1 X.2.2.2.2.1 X.2.2.2.2.2.2.1 (fun q hq => Nat.le_trans hbase hq) (a0 := (n.toNatClampNeg, .inl fun _ => 0)) (fun cA => rfl) (of_decide_eq_true h1) rfl hb1 (by omega) (by omega) hd (fun a cA H1 hK1 hP1 hD1 hS1 => ?_)
    obtain ⟨t0, ht⟩ := hkt.1 0 hkt.2.2.2.2.1
    rw [hkt.2.1] at ht
    have r1 : s.vm.findClass ("[" ++ FieldType.int.toString) = some (kid 0) := (hK.2 t0 _ ht).2
    have r2 : s.vm.findClass ("[" ++ FieldType.int.toString) = some cA := (hK1.2 tys.length (cA, .int) (by simp; rfl)).2
    have e1 : cA = kid 0 := Option.some.inj (r2.symm.trans r1)
    subst e1
    have K1 := K H1 locs (cells + 1) (slots + n.toNatClampNeg) ls (va_up ad μ.2.1 a) (X.new (e := .inl (0, n.toNatClampNeg, .inl fun _ => 0)) (k := n.toNatClampNeg) (jcs.c (Nat.lt_succ_self _) (jcs_mono (Nat.le_succ _) X.2.2.1.t)) rfl hP1 hD1 hS1)
    have e2 : (st.map (jtv (va_up ad μ.2.1 a) g)) = st.map (jtv ad g) := jtvs_eq (fun i hi => va_up_ne _ _ (Nat.ne_of_lt hi)) X.2.2.1.t
    have e3 : jtv (va_up ad μ.2.1 a) g (.ref μ.2.1) = .ref a := by show Value.ref (va_up ad μ.2.1 a μ.2.1) = _; rw [va_up_self]
    have K2 : W p l e R s m args below meth c H1 locs (cells + 1) (slots + n.toNatClampNeg) Q (F0 m (pc + 2) ls (jtv (va_up ad μ.2.1 a) g (.ref μ.2.1) :: st.map (jtv (va_up ad μ.2.1 a) g))) := K1
    rw [e2, e3] at K2
    exact K2
  · cases h
theorem js_newarray_long  (F : jFx p R s m args meth c cc own D cl kid g base ka kt tys G B k0 z0 kE zE) (hd : decode cc pc = .ok ((.newarray .long), 2)) (h : jstep G B (.newarray .long) pc lv st μ = some q) (hE : q.2.2.2.2.2.1 ≤ kE ∧ q.2.2.2.2.2.2 ≤ zE) (K : jWg p l e R s m args below meth c Q D cl kid g base ka B.2.2.2.2.2.1 k0 z0 n0 ad0 q.1 q.2.1 q.2.2.1 q.2.2.2) : jWg p l e R s m args below meth c Q D cl kid g base ka B.2.2.2.2.2.1 k0 z0 n0 ad0 pc lv st μ := by
  intro H locs cells slots ls ad X
  obtain ⟨hx, hb, hown, hK, hkt, hbase, hG, hkE, hzE, hRs, hB⟩ := F
  simp only [jstep] at h
  split at h
  · rename_i n st
    obtain ⟨h1, h⟩ := jif_some h
    cases h
    have hE1 : μ.2.2.1 + 1 ≤ kE := hE.1
    have hE2 : μ.2.2.2 + n.toNatClampNeg ≤ zE := hE.2
    have hk := X.2.2.2.2.2.2.2.1
    have hz := X.2.2.2.2.2.2.2.2.1
    have hb1 : n.toNatClampNeg * componentBytes .long ≤ 536870912 := by show n.toNatClampNeg * 8 ≤ _; omega
    refine va_newa hx hb (atype := .long) hB.2.2.2.2.2.2.1 rfl hK X.2.2.2.1 X.2.2.2.2.1 X.2.2.2.2.2.2.1 (fun q hq => Nat.le_trans hbase hq) (a0 := (n.toNatClampNeg, .inr (.inl fun _ => 0))) (fun cA => rfl) (of_decide_eq_true h1) rfl hb1 (by omega) (by omega) hd (fun a cA H1 hK1 hP1 hD1 hS1 => ?_)
    obtain ⟨t0, ht⟩ := hkt.1 1 hkt.2.2.2.2.2
    rw [hkt.2.2.1] at ht
    have r1 : s.vm.findClass ("[" ++ FieldType.long.toString) = some (kid 1) := (hK.2 t0 _ ht).2
    have r2 : s.vm.findClass ("[" ++ FieldType.long.toString) = some cA := (hK1.2 tys.length (cA, .long) (by simp; rfl)).2
    have e1 : cA = kid 1 := Option.some.inj (r2.symm.trans r1)
    subst e1
    have K1 := K H1 locs (cells + 1) (slots + n.toNatClampNeg) ls (va_up ad μ.2.1 a) (X.new (e := .inl (1, n.toNatClampNeg, .inr (.inl fun _ => 0))) (k := n.toNatClampNeg) (jcs.c (Nat.lt_succ_self _) (jcs_mono (Nat.le_succ _) X.2.2.1.t)) rfl hP1 hD1 hS1)
    have e2 : (st.map (jtv (va_up ad μ.2.1 a) g)) = st.map (jtv ad g) := jtvs_eq (fun i hi => va_up_ne _ _ (Nat.ne_of_lt hi)) X.2.2.1.t
    have e3 : jtv (va_up ad μ.2.1 a) g (.ref μ.2.1) = .ref a := by show Value.ref (va_up ad μ.2.1 a μ.2.1) = _; rw [va_up_self]
    have K2 : W p l e R s m args below meth c H1 locs (cells + 1) (slots + n.toNatClampNeg) Q (F0 m (pc + 2) ls (jtv (va_up ad μ.2.1 a) g (.ref μ.2.1) :: st.map (jtv (va_up ad μ.2.1 a) g))) := K1
    rw [e2, e3] at K2
    exact K2
  · cases h
theorem js_anewarray {k : Nat} (F : jFx p R s m args meth c cc own D cl kid g base ka kt tys G B k0 z0 kE zE) (hd : decode cc pc = .ok ((.anewarray k), 3)) (h : jstep G B (.anewarray k) pc lv st μ = some q) (hE : q.2.2.2.2.2.1 ≤ kE ∧ q.2.2.2.2.2.2 ≤ zE) (K : jWg p l e R s m args below meth c Q D cl kid g base ka B.2.2.2.2.2.1 k0 z0 n0 ad0 q.1 q.2.1 q.2.2.1 q.2.2.2) : jWg p l e R s m args below meth c Q D cl kid g base ka B.2.2.2.2.2.1 k0 z0 n0 ad0 pc lv st μ := by
  intro H locs cells slots ls ad X
  obtain ⟨hx, hb, hown, hK, hkt, hbase, hG, hkE, hzE, hRs, hB⟩ := F
  simp only [jstep] at h
  split at h
  · rename_i n st
    split at h
    · rename_i c1 hc1
      obtain ⟨h1, h⟩ := jif_some h
      cases h
      obtain ⟨c2, r, rfl, hka, hr, hcl, hao⟩ := hB.2.2.1 k c1 hc1
      have hE1 : μ.2.2.1 + 1 ≤ kE := hE.1
      have hE2 : μ.2.2.2 + n.toNatClampNeg ≤ zE := hE.2
      have hk := X.2.2.2.2.2.2.2.1
      have hz := X.2.2.2.2.2.2.2.2.1
      refine va_newq hx hb hown hcl hao hK X.2.2.2.1 X.2.2.2.2.1 X.2.2.2.2.2.2.1 (fun q hq => Nat.le_trans hbase hq) (of_decide_eq_true h1) rfl (by omega) (by omega) (by omega) hd (fun a cA H1 hK1 hP1 hD1 hS1 => ?_)
      obtain ⟨t0, ht⟩ := hkt.1 _ hka
      obtain ⟨r2, hr2, hr3⟩ := hkt.2.2.2.1 c2 hka
      rw [hr3] at ht
      cases hr.symm.trans hr2
      have r1 : s.vm.findClass ("[" ++ (FieldType.object r.1).toString) = some (kid (c2 + 2)) := by obtain ⟨kA, comp, z1, z2, z3, z4⟩ := (hK.2 t0 _ ht).2; exact z4
      have r2 : s.vm.findClass ("[" ++ (FieldType.object r.1).toString) = some cA := by obtain ⟨kA, comp, z1, z2, z3, z4⟩ := (hK1.2 tys.length (cA, .object r.1) (by simp)).2; exact z4
      have e1 : cA = kid (c2 + 2) := Option.some.inj (r2.symm.trans r1)
      subst e1
      have hce : jce ka (μ.2.1 + 1) (.inl (c2 + 2, n.toNatClampNeg, .inr (.inr (.inr (.inr fun _ => none))))) := ⟨⟨c2, rfl⟩, hka, fun i x hx => by cases hx⟩
      have K1 := K H1 locs (cells + 1) (slots + n.toNatClampNeg) ls (va_up ad μ.2.1 a) (X.new (e := .inl (c2 + 2, n.toNatClampNeg, .inr (.inr (.inr (.inr fun _ => none))))) (k := n.toNatClampNeg) (jcs.c (Nat.lt_succ_self _) (jcs_mono (Nat.le_succ _) X.2.2.1.t)) hce hP1 hD1 hS1)
      have e2 : (st.map (jtv (va_up ad μ.2.1 a) g)) = st.map (jtv ad g) := jtvs_eq (fun i hi => va_up_ne _ _ (Nat.ne_of_lt hi)) X.2.2.1.t
      have e3 : jtv (va_up ad μ.2.1 a) g (.ref μ.2.1) = .ref a := by show Value.ref (va_up ad μ.2.1 a μ.2.1) = _; rw [va_up_self]
      have K2 : W p l e R s m args below meth c H1 locs (cells + 1) (slots + n.toNatClampNeg) Q (F0 m (pc + 3) ls (jtv (va_up ad μ.2.1 a) g (.ref μ.2.1) :: st.map (jtv (va_up ad μ.2.1 a) g))) := K1
      rw [e2, e3] at K2
      exact K2
    · cases h
  · cases h
theorem js_new {k : Nat} (F : jFx p R s m args meth c cc own D cl kid g base ka kt tys G B k0 z0 kE zE) (hd : decode cc pc = .ok ((.new k), 3)) (h : jstep G B (.new k) pc lv st μ = some q) (hE : q.2.2.2.2.2.1 ≤ kE ∧ q.2.2.2.2.2.2 ≤ zE) (K : jWg p l e R s m args below meth c Q D cl kid g base ka B.2.2.2.2.2.1 k0 z0 n0 ad0 q.1 q.2.1 q.2.2.1 q.2.2.2) : jWg p l e R s m args below meth c Q D cl kid g base ka B.2.2.2.2.2.1 k0 z0 n0 ad0 pc lv st μ := by
  intro H locs cells slots ls ad X
  obtain ⟨hx, hb, hown, hK, hkt, hbase, hG, hkE, hzE, hRs, hB⟩ := F
  simp only [jstep] at h
  split at h
  · rename_i c1 fs hc1
    cases h
    obtain ⟨C, T, N, Ts, ty0, hts, hin, hc, hty, hcl, hins, hini, hlen, hdf, hcs, hfix⟩ := hB.2.1 k _ hc1
    have hlen : fs.length = N := hlen
    have hE1 : μ.2.2.1 + 1 ≤ kE := hE.1
    have hE2 : μ.2.2.2 + fs.length ≤ zE := hE.2
    have hk := X.2.2.2.2.2.2.2.1
    have hz := X.2.2.2.2.2.2.2.2.1
    refine va_new hx hb hts hin ty0 hty hown hcl hins hini hK X.2.2.2.1 X.2.2.2.2.1 X.2.2.2.2.2.2.1 (fun q hq => Nat.le_trans hbase hq) hc hdf (by omega) (by omega) hd (fun a H1 hP1 hD1 hS1 => ?_)
    subst hlen
    have e0 : jte kid g (va_up ad μ.2.1 a) (.inr (c1, fs)) = .inr (c1, fs) := by show (Sum.inr (c1, fs.map (jtv (va_up ad μ.2.1 a) g)) : va_E) = _; rw [hfix]
    rw [← e0] at hP1 hD1
    have K1 := K H1 locs (cells + 1) (slots + fs.length) ls (va_up ad μ.2.1 a) (X.new (e := .inr (c1, fs)) (k := fs.length) (jcs.c (Nat.lt_succ_self _) (jcs_mono (Nat.le_succ _) X.2.2.1)) (jcs_mono (Nat.zero_le _) hcs) hP1 hD1 hS1)
    have e2 : (st.map (jtv (va_up ad μ.2.1 a) g)) = st.map (jtv ad g) := jtvs_eq (fun i hi => va_up_ne _ _ (Nat.ne_of_lt hi)) X.2.2.1
    have e3 : jtv (va_up ad μ.2.1 a) g (.ref μ.2.1) = .ref a := by show Value.ref (va_up ad μ.2.1 a μ.2.1) = _; rw [va_up_self]
    have K2 : W p l e R s m args below meth c H1 locs (cells + 1) (slots + fs.length) Q (F0 m (pc + 3) ls (jtv (va_up ad μ.2.1 a) g (.ref μ.2.1) :: st.map (jtv (va_up ad μ.2.1 a) g))) := K1
    rw [e2, e3] at K2
    exact K2
  · cases h
theorem js_all {i : Instr} {len : Nat} (F : jFx p R s m args meth c cc own D cl kid g base ka kt tys G B k0 z0 kE zE) (hd : decode cc pc = .ok (i, len)) (hlen : jlen i = 0 ∨ len = jlen i) (h : jstep G B i pc lv st μ = some q) (hE : q.2.2.2.2.2.1 ≤ kE ∧ q.2.2.2.2.2.2 ≤ zE) (K : jWg p l e R s m args below meth c Q D cl kid g base ka B.2.2.2.2.2.1 k0 z0 n0 ad0 q.1 q.2.1 q.2.2.1 q.2.2.2) : jWg p l e R s m args below meth c Q D cl kid g base ka B.2.2.2.2.2.1 k0 z0 n0 ad0 pc lv st μ := by
  cases i with
  | iconst => 
    rcases hlen with z | rfl
    · exact absurd z (by simp [jlen])
    · exact js_iconst F hd h K
  | lconst => 
    rcases hlen with z | rfl
    · exact absurd z (by simp [jlen])
    · exact js_lconst F hd h K
  | aconst_null => 
    rcases hlen with z | rfl
    · exact absurd z (by simp [jlen])
    · exact js_null F hd h K
  | iload_n => 
    rcases hlen with z | rfl
    · exact absurd z (by simp [jlen])
    · exact js_iload_n F hd h K
  | lload_n => 
    rcases hlen with z | rfl
    · exact absurd z (by simp [jlen])
    · exact js_lload_n F hd h K
  | aload_n => 
    rcases hlen with z | rfl
    · exact absurd z (by simp [jlen])
    · exact js_aload_n F hd h K
  | istore_n => 
    rcases hlen with z | rfl
    · exact absurd z (by simp [jlen])
    · exact js_istore_n F hd h K
  | lstore_n => 
    rcases hlen with z | rfl
    · exact absurd z (by simp [jlen])
    · exact js_lstore_n F hd h K
  | astore_n => 
    rcases hlen with z | rfl
    · exact absurd z (by simp [jlen])
    · exact js_astore_n F hd h K
  | arraylength => 
    rcases hlen with z | rfl
    · exact absurd z (by simp [jlen])
    · exact js_alen F hd h K
  | iaload => 
    rcases hlen with z | rfl
    · exact absurd z (by simp [jlen])
    · exact js_iald F hd h K
  | laload => 
    rcases hlen with z | rfl
    · exact absurd z (by simp [jlen])
    · exact js_lald F hd h K
  | aaload => 
    rcases hlen with z | rfl
    · exact absurd z (by simp [jlen])
    · exact js_aald F hd h K
  | iastore => 
    rcases hlen with z | rfl
    · exact absurd z (by simp [jlen])
    · exact js_iast F hd h K
  | lastore => 
    rcases hlen with z | rfl
    · exact absurd z (by simp [jlen])
    · exact js_last F hd h K
  | aastore => 
    rcases hlen with z | rfl
    · exact absurd z (by simp [jlen])
    · exact js_aast F hd h K
  | bipush => 
    rcases hlen with z | rfl
    · exact absurd z (by simp [jlen])
    · exact js_bipush F hd h K
  | sipush => 
    rcases hlen with z | rfl
    · exact absurd z (by simp [jlen])
    · exact js_sipush F hd h K
  | ldc2_w => 
    rcases hlen with z | rfl
    · exact absurd z (by simp [jlen])
    · exact js_ldc2 F hd h K
  | iload => 
    rcases hlen with z | rfl
    · exact absurd z (by simp [jlen])
    · exact js_iload F hd h K
  | lload => 
    rcases hlen with z | rfl
    · exact absurd z (by simp [jlen])
    · exact js_lload F hd h K
  | aload => 
    rcases hlen with z | rfl
    · exact absurd z (by simp [jlen])
    · exact js_aload F hd h K
  | istore => 
    rcases hlen with z | rfl
    · exact absurd z (by simp [jlen])
    · exact js_istore F hd h K
  | lstore => 
    rcases hlen with z | rfl
    · exact absurd z (by simp [jlen])
    · exact js_lstore F hd h K
  | astore => 
    rcases hlen with z | rfl
    · exact absurd z (by simp [jlen])
    · exact js_astore F hd h K
  | iinc => 
    rcases hlen with z | rfl
    · exact absurd z (by simp [jlen])
    · exact js_iinc F hd h K
  | goto => 
    rcases hlen with z | rfl
    · exact absurd z (by simp [jlen])
    · exact js_goto F hd h K
  | ifnull => 
    rcases hlen with z | rfl
    · exact absurd z (by simp [jlen])
    · exact js_ifnull F hd h K
  | ifnonnull => 
    rcases hlen with z | rfl
    · exact absurd z (by simp [jlen])
    · exact js_ifnonnull F hd h K
  | getfield => 
    rcases hlen with z | rfl
    · exact absurd z (by simp [jlen])
    · exact js_getfield F hd h K
  | putfield => 
    rcases hlen with z | rfl
    · exact absurd z (by simp [jlen])
    · exact js_putfield F hd h K
  | getstatic => 
    rcases hlen with z | rfl
    · exact absurd z (by simp [jlen])
    · exact js_getstatic F hd h K
  | iadd => 
    rcases hlen with z | rfl
    · exact absurd z (by simp [jlen])
    · exact js_iadd F hd h K
  | isub => 
    rcases hlen with z | rfl
    · exact absurd z (by simp [jlen])
    · exact js_isub F hd h K
  | imul => 
    rcases hlen with z | rfl
    · exact absurd z (by simp [jlen])
    · exact js_imul F hd h K
  | iand => 
    rcases hlen with z | rfl
    · exact absurd z (by simp [jlen])
    · exact js_iand F hd h K
  | irem => 
    rcases hlen with z | rfl
    · exact absurd z (by simp [jlen])
    · exact js_irem F hd h K
  | ladd => 
    rcases hlen with z | rfl
    · exact absurd z (by simp [jlen])
    · exact js_ladd F hd h K
  | lsub => 
    rcases hlen with z | rfl
    · exact absurd z (by simp [jlen])
    · exact js_lsub F hd h K
  | lmul => 
    rcases hlen with z | rfl
    · exact absurd z (by simp [jlen])
    · exact js_lmul F hd h K
  | ldiv => 
    rcases hlen with z | rfl
    · exact absurd z (by simp [jlen])
    · exact js_ldiv F hd h K
  | lcmp => 
    rcases hlen with z | rfl
    · exact absurd z (by simp [jlen])
    · exact js_lcmp F hd h K
  | i2l => 
    rcases hlen with z | rfl
    · exact absurd z (by simp [jlen])
    · exact js_i2l F hd h K
  | l2i => 
    rcases hlen with z | rfl
    · exact absurd z (by simp [jlen])
    · exact js_l2i F hd h K
  | dup => 
    rcases hlen with z | rfl
    · exact absurd z (by simp [jlen])
    · exact js_dup F hd h K
  | pop => 
    rcases hlen with z | rfl
    · exact absurd z (by simp [jlen])
    · exact js_pop F hd h K
  | dup_x1 => 
    rcases hlen with z | rfl
    · exact absurd z (by simp [jlen])
    · exact js_dup_x1 F hd h K
  | dup2 => 
    rcases hlen with z | rfl
    · exact absurd z (by simp [jlen])
    · exact js_dup2 F hd h K
  | anewarray => 
    rcases hlen with z | rfl
    · exact absurd z (by simp [jlen])
    · exact js_anewarray F hd h hE K
  | new => 
    rcases hlen with z | rfl
    · exact absurd z (by simp [jlen])
    · exact js_new F hd h hE K
  | newarray ty => 
    rcases hlen with z | rfl
    · exact absurd z (by simp [jlen])
    · cases ty with
      | int => exact js_newarray_int F hd h hE K
      | long => exact js_newarray_long F hd h hE K
      | _ => simp only [jstep] at h; cases h
  | ifCond cnd off => 
    rcases hlen with z | rfl
    · exact absurd z (by simp [jlen])
    · cases cnd with
      | eq => exact js_if_eq F hd h K
      | ne => exact js_if_ne F hd h K
      | lt => exact js_if_lt F hd h K
      | ge => exact js_if_ge F hd h K
      | gt => exact js_if_gt F hd h K
      | le => exact js_if_le F hd h K
  | if_icmp cnd off => 
    rcases hlen with z | rfl
    · exact absurd z (by simp [jlen])
    · cases cnd with
      | eq => exact js_icmp_eq F hd h K
      | ne => exact js_icmp_ne F hd h K
      | lt => exact js_icmp_lt F hd h K
      | ge => exact js_icmp_ge F hd h K
      | gt => exact js_icmp_gt F hd h K
      | le => exact js_icmp_le F hd h K
  | tableswitch d lo hi offs => exact js_tsw F hd h K
  | lookupswitch d ps => exact js_lsw F hd h K
  | _ => simp only [jstep] at h; cases h
end JS
