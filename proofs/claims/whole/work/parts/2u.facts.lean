/-! The printed tables' facts, by checks that Lean runs. -/
def jWs : List Cond := Cond.code x code maxLocals ret :: lw_tbl.filter goodWord
def jisN (w : Cond) : Bool := match w with
  | .fieldLinkNest _ _ _ _ _ _ => true
  | .methodLinkNest _ _ _ _ => true
  | _ => false
def jNs : List Cond := tables_1.filter jisN
def jhas (w : Cond) : Bool := decide (w ∈ lw_tbl) && goodWord w
def jhasN (w : Cond) : Bool := decide (w ∈ tables_1) && jisN w
theorem jhas_in {w : Cond} (h : jhas w = true) : w ∈ jWs := by
  unfold jhas at h
  rw [Bool.and_eq_true] at h
  exact List.mem_cons_of_mem _ (List.mem_filter.mpr ⟨of_decide_eq_true h.1, h.2⟩)
theorem jhasN_in {w : Cond} (h : jhasN w = true) : w ∈ jNs := by
  unfold jhasN at h
  rw [Bool.and_eq_true] at h
  exact List.mem_filter.mpr ⟨of_decide_eq_true h.1, h.2⟩
theorem jWs_good : ∀ w ∈ jWs, (w.onTables && w.keeps) = true ∨ ∃ ty, w = .arrayClass ty := by
  intro w hw
  rcases List.mem_cons.mp hw with rfl | hw
  · exact Or.inl rfl
  · exact good_of_word (List.mem_filter.mp hw).2
theorem jNs_nest : ∀ w ∈ jNs, jNest w := by
  intro w hw
  have h := (List.mem_filter.mp hw).2
  unfold jisN at h
  split at h
  · exact Or.inl ⟨_, _, _, _, _, _, rfl⟩
  · exact Or.inr ⟨_, _, _, _, rfl⟩
  · cases h
theorem jall {n : Nat} {f : Nat → Bool} (h : (List.range n).all f = true) {i : Nat} (hi : i < n) : f i = true := List.all_eq_true.mp h i (List.mem_range.mpr hi)
/-- fields of class c -/
def jfT (c : Nat) : u_T := fun k => (jfl c).getD k ("", "", "", false)
def jCl : List vw_C := (List.range 16).map fun c => (jcn c, jfT c, (jfl c).length)
theorem jCl_get {c : Nat} (h : c < 16) : jCl[c]? = some (jcn c, jfT c, (jfl c).length) := by simp [jCl, List.getElem?_map, List.getElem?_range h]
def jkt (k : Nat) : FieldType := match k with
  | 0 => .int
  | 1 => .long
  | c + 2 => .object (jcn c)
def jka : List Nat := [0, 1, 4, 12, 13, 14, 15, 16]
def jzt : List (String × String × String × Nat) := [("StrandRuntime", "TAKES", "[I", 1), ("StrandRuntime", "PUSHES", "[I", 2)]
def jzq : List (String × String × String) := [("java/lang/Throwable", "UNASSIGNED_STACK", "[Ljava/lang/StackTraceElement;"), ("java/lang/Throwable", "SUPPRESSED_SENTINEL", "Ljava/util/List;")]
def jao : List String × List (String × String) := ([jcn 2, jcn 10, jcn 11, jcn 12, jcn 13, jcn 14], [("java/lang/IllegalArgumentException", "java/lang/IllegalStateException"), ("java/lang/IllegalArgumentException", "java/lang/IndexOutOfBoundsException"), ("java/lang/IllegalStateException", "java/lang/IllegalArgumentException"), ("java/lang/IllegalStateException", "java/lang/IndexOutOfBoundsException"), ("java/lang/IndexOutOfBoundsException", "java/lang/IllegalArgumentException"), ("java/lang/IndexOutOfBoundsException", "java/lang/IllegalStateException")])
def jho (o : Nat) : String := bif Nat.blt o 12 then "StrandRuntime" else "StrandRuntimeModel"
/-! methods -/
def jkk (k : Nat) (r : Option FieldType) : Bool := match r with
  | some .int => Nat.beq k 0
  | some .boolean => Nat.beq k 1
  | some .long => Nat.beq k 2
  | some (.object _) => Nat.beq k 3
  | some (.array _) => Nat.beq k 3
  | none => Nat.beq k 4
  | _ => false
theorem jkk_spec {k : Nat} {r : Option FieldType} (h : jkk k r = true) : match k with
      | 0 => r = some .int
      | 1 => r = some .boolean
      | 2 => r = some .long
      | 3 => (∃ n, r = some (.object n)) ∨ ∃ t, r = some (.array t)
      | _ => r = none := by
  unfold jkk at h
  split at h
  · obtain rfl := Nat.eq_of_beq_eq_true h; rfl
  · obtain rfl := Nat.eq_of_beq_eq_true h; rfl
  · obtain rfl := Nat.eq_of_beq_eq_true h; rfl
  · obtain rfl := Nat.eq_of_beq_eq_true h; exact Or.inl ⟨_, rfl⟩
  · obtain rfl := Nat.eq_of_beq_eq_true h; exact Or.inr ⟨_, rfl⟩
  · obtain rfl := Nat.eq_of_beq_eq_true h; rfl
  · cases h
def jm1 (j : Nat) : Bool := plainName (jnm j).cls && (jkk (jkr j) (jrtT j) && (bif (jhh j).isEmpty then (Nat.beq j 204 || jhas (Cond.code (jnm j) (jbt j) (jmx j) (jrtT j))) else jhas (Cond.codeWith (jnm j) (jbt j) (jmx j) (jrtT j) (jhh j))))
theorem jm1_all : (List.range 205).all jm1 = true := by decide +kernel
/-! what a method is: 0 static, 1 a constructor, 2 called by its object's class -/
def jkd (y : Nat) : Nat := bif jni y then 1 else (bif jsta y then 0 else 2)
def jy1 (y : Nat) : Bool := decide ((jnm y).cls ≠ "java/lang/invoke/MethodHandle") && (decide ((jnm y).cls ≠ "java/lang/invoke/VarHandle") && (jhas (Cond.initialized (jnm y).cls) && (decide ((parseMethodDescriptor (jnm y).desc).map (fun d => d.parameters.length) = some (jnp y)) &&
  (match jkd y with
    | 0 => jhas (Cond.static (jnm y))
    | 1 => decide ((jnm y).name = "<init>") && (jhas (Cond.instanceMethod (jnm y)) && (decide (jrtT y = none) && (jhh y).isEmpty))
    | _ => jhas (Cond.instanceMethod (jnm y)) && (jhas (Cond.selects (jnm y).cls (jnm y) (jnm y)) && ((jhh y).isEmpty && (Nat.blt (jow y) 16)))))))
theorem jy1_all : (List.range 204).all jy1 = true := by decide +kernel
def jm2 (j : Nat) : Bool := decide ((jnm j).cls = jcn (jow j)) && Nat.blt (jow j) 18
theorem jm2_all : (List.range 205).all jm2 = true := by decide +kernel
/-! calls -/
def jq2 (j : Nat) (i : Instr) (k y n : Nat) (rc : Option Nat) : Bool := match y with
  | 0 => decide (i = .invokespecial k) && (Nat.ble 1 (jfr j) && Nat.ble 20 (jlo j))
  | 1 => decide (i = .invokestatic k) && (Nat.ble 1 (jfr j) && Nat.ble (8 + (nativeFrameWords "java/lang/System" "arraycopy" 5 + 11)) (jlo j))
  | y + 2 => Nat.blt y 204 && (Nat.ble (jfr y + 1) (jfr j) && (Nat.ble (8 + (jmx y + 11) + jlo y) (jlo j) &&
    (match jkd y with
      | 0 => decide (i = .invokestatic k) && (decide (rc = none) && Nat.beq n (jnp y))
      | 1 => decide (i = .invokespecial k) && (rc.isSome && Nat.beq n (jnp y + 1))
      | _ => decide (i = .invokevirtual k) && (decide (rc = some (jow y)) && Nat.beq n (jnp y + 1)))))
def jq1 (j pc : Nat) : Bool := match jcI j pc with
  | none => true
  | some i => match jcix i with
    | none => true
    | some k => match jlk (jtCl (jow j)) k with
      | none => true
      | some (y, n, rc) => jq2 j i k y n rc
theorem jq1_all : (List.range 205).all (fun j => (List.range (jsz j)).all (jq1 j)) = true := by decide +kernel
def jq3 (o : Nat) (e : Nat × (Nat × Nat × Option Nat)) : Bool := match e.2.1 with
  | 0 => jhas (.methodLink (jcn o) e.1 Lib.objectInit)
  | 1 => jhas (.methodLink (jcn o) e.1 arraycopyName)
  | y + 2 => jhas (.methodLink (jcn o) e.1 (jnm y)) || (jhasN (.methodLinkNest (jcn o) e.1 (jnm y) (jho o)) && (jhh y).isEmpty)
theorem jq3_all : (List.range 18).all (fun o => (jtCl o).all (jq3 o)) = true := by decide +kernel
theorem jw_obj : jhas (Cond.instanceMethod Lib.objectInit) && jhas (Cond.code Lib.objectInit ⟨#[0xb1]⟩ 1 none) = true := by decide +kernel
theorem jw_cpy : jhas (Cond.native arraycopyName) && (jhas (Cond.static arraycopyName) && jhas (Cond.initialized "java/lang/System")) = true := by decide +kernel
