/-! The printed tables' facts, by checks that Lean runs. -/
def jWs : List Cond := Cond.code x code maxLocals ret :: lw_tbl.filter goodWord
def jisN (w : Cond) : Bool := match w with
  | .fieldLinkNest _ _ _ _ _ _ => true
  | .methodLinkNest _ _ _ _ => true
  | .declares _ => true
  | .castable _ _ => true
  | _ => false
def jNs : List Cond := tables_1.filter jisN
theorem jWs_good : ∀ w ∈ jWs, (w.onTables && w.keeps) = true ∨ ∃ ty, w = .arrayClass ty := by
  intro w hw
  rcases List.mem_cons.mp hw with rfl | hw
  · exact Or.inl rfl
  · exact good_of_word (List.mem_filter.mp hw).2
theorem jNs_nest : ∀ w ∈ jNs, jNest w := by
  intro w hw
  have h := (List.mem_filter.mp hw).2
  unfold jisN at h
  split at h
  · exact Or.inl ⟨_, _, _, _, _, _, rfl⟩
  · exact Or.inr (Or.inl ⟨_, _, _, _, rfl⟩)
  · exact Or.inr (Or.inr ⟨rfl, rfl⟩)
  · exact Or.inr (Or.inr ⟨rfl, rfl⟩)
  · cases h
theorem jall {n : Nat} {f : Nat → Bool} (h : (List.range n).all f = true) {i : Nat} (hi : i < n) : f i = true := List.all_eq_true.mp h i (List.mem_range.mpr hi)
/-- fields of class c -/
def jfT (c : Nat) : u_T := fun k => (jfl c).getD k ("", "", "", false)
def jCl : List vw_C := (List.range 16).map fun c => (jcn c, jfT c, (jfl c).length)
theorem jCl_get {c : Nat} (h : c < 16) : jCl[c]? = some (jcn c, jfT c, (jfl c).length) := by simp [jCl, List.getElem?_map, List.getElem?_range h]
def jkt (k : Nat) : FieldType := match k with
  | 0 => .int
  | 1 => .long
  | c + 2 => .object (jcn c)
def jka : List Nat := [0, 1, 4, 12, 13, 14, 15, 16]
def jzt : List (String × String × String × Nat) := [("StrandRuntime", "TAKES", "[I", 1), ("StrandRuntime", "PUSHES", "[I", 2)]
def jzq : List (String × String × String) := [("java/lang/Throwable", "UNASSIGNED_STACK", "[Ljava/lang/StackTraceElement;"), ("java/lang/Throwable", "SUPPRESSED_SENTINEL", "Ljava/util/List;")]
def jao : List String × List (String × String) := ([jcn 2, jcn 10, jcn 11, jcn 12, jcn 13, jcn 14], [("java/lang/IllegalArgumentException", "java/lang/IllegalStateException"), ("java/lang/IllegalArgumentException", "java/lang/IndexOutOfBoundsException"), ("java/lang/IllegalStateException", "java/lang/IllegalArgumentException"), ("java/lang/IllegalStateException", "java/lang/IndexOutOfBoundsException"), ("java/lang/IndexOutOfBoundsException", "java/lang/IllegalArgumentException"), ("java/lang/IndexOutOfBoundsException", "java/lang/IllegalStateException")])
def jho (o : Nat) : String := bif Nat.blt o 12 then "StrandRuntime" else "StrandRuntimeModel"
/-! methods -/
def jkk (k : Nat) (r : Option FieldType) : Bool := match r with
  | some .int => Nat.beq k 0
  | some .boolean => Nat.beq k 1
  | some .long => Nat.beq k 2
  | some (.object _) => Nat.beq k 3
  | some (.array _) => Nat.beq k 3
  | none => Nat.beq k 4
  | _ => false
theorem jkk_spec {k : Nat} {r : Option FieldType} : jkk k r = true → match k with
      | 0 => r = some .int
      | 1 => r = some .boolean
      | 2 => r = some .long
      | 3 => (∃ n, r = some (.object n)) ∨ ∃ t, r = some (.array t)
      | _ => r = none := by
  intro h
  unfold jkk at h
  split at h
  · obtain rfl := Nat.eq_of_beq_eq_true h; rfl
  · obtain rfl := Nat.eq_of_beq_eq_true h; rfl
  · obtain rfl := Nat.eq_of_beq_eq_true h; rfl
  · obtain rfl := Nat.eq_of_beq_eq_true h; exact Or.inl ⟨_, rfl⟩
  · obtain rfl := Nat.eq_of_beq_eq_true h; exact Or.inr ⟨_, rfl⟩
  · obtain rfl := Nat.eq_of_beq_eq_true h; rfl
  · cases h
/-! what a method is: 0 static, 1 a constructor, 2 called by its object's class -/
def jkd (y : Nat) : Nat := bif jni y then 1 else (bif jsta y then 0 else 2)
def jm2 (j : Nat) : Bool := decide ((jnm j).cls = jcn (jow j)) && Nat.blt (jow j) 18
theorem jm2_all : (List.range 205).all jm2 = true := by decide +kernel
/-! calls -/
def jLo (j : Nat) : Nat := jlo j + 8
def jq2 (j : Nat) (i : Instr) (k y n : Nat) (rc : Option Nat) : Bool := match y with
  | 0 => decide (i = .invokespecial k) && (Nat.ble 1 (jfr j) && Nat.ble 20 (jLo j))
  | 1 => decide (i = .invokestatic k) && (Nat.ble 1 (jfr j) && Nat.ble (8 + (nativeFrameWords "java/lang/System" "arraycopy" 5 + 11)) (jLo j))
  | y + 2 => Nat.blt y 204 && (Nat.ble (jfr y + 1) (jfr j) && (Nat.ble (8 + (jmx y + 11) + jLo y) (jLo j) &&
    (match jkd y with
      | 0 => decide (i = .invokestatic k) && (decide (rc = none) && Nat.beq n (jnp y))
      | 1 => decide (i = .invokespecial k) && (rc.isSome && Nat.beq n (jnp y + 1))
      | _ => decide (i = .invokevirtual k) && (decide (rc = some (jow y)) && Nat.beq n (jnp y + 1)))))
def jq1 (j pc : Nat) : Bool := match jcI j pc with
  | none => true
  | some i => match jcix i with
    | none => true
    | some k => match jlk (jtCl (jow j)) k with
      | none => true
      | some (y, n, rc) => jq2 j i k y n rc
theorem jq1_0 : (List.range 15).all (fun i => (List.range (jsz (15 * 0 + i))).all (jq1 (15 * 0 + i))) = true := by decide +kernel
theorem jq1_1 : (List.range 15).all (fun i => (List.range (jsz (15 * 1 + i))).all (jq1 (15 * 1 + i))) = true := by decide +kernel
theorem jq1_2 : (List.range 15).all (fun i => (List.range (jsz (15 * 2 + i))).all (jq1 (15 * 2 + i))) = true := by decide +kernel
theorem jq1_3 : (List.range 15).all (fun i => (List.range (jsz (15 * 3 + i))).all (jq1 (15 * 3 + i))) = true := by decide +kernel
theorem jq1_4 : (List.range 15).all (fun i => (List.range (jsz (15 * 4 + i))).all (jq1 (15 * 4 + i))) = true := by decide +kernel
theorem jq1_5 : (List.range 15).all (fun i => (List.range (jsz (15 * 5 + i))).all (jq1 (15 * 5 + i))) = true := by decide +kernel
theorem jq1_6 : (List.range 15).all (fun i => (List.range (jsz (15 * 6 + i))).all (jq1 (15 * 6 + i))) = true := by decide +kernel
theorem jq1_7 : (List.range 15).all (fun i => (List.range (jsz (15 * 7 + i))).all (jq1 (15 * 7 + i))) = true := by decide +kernel
theorem jq1_8 : (List.range 15).all (fun i => (List.range (jsz (15 * 8 + i))).all (jq1 (15 * 8 + i))) = true := by decide +kernel
theorem jq1_9 : (List.range 15).all (fun i => (List.range (jsz (15 * 9 + i))).all (jq1 (15 * 9 + i))) = true := by decide +kernel
theorem jq1_10 : (List.range 15).all (fun i => (List.range (jsz (15 * 10 + i))).all (jq1 (15 * 10 + i))) = true := by decide +kernel
theorem jq1_11 : (List.range 15).all (fun i => (List.range (jsz (15 * 11 + i))).all (jq1 (15 * 11 + i))) = true := by decide +kernel
theorem jq1_12 : (List.range 15).all (fun i => (List.range (jsz (15 * 12 + i))).all (jq1 (15 * 12 + i))) = true := by decide +kernel
theorem jq1_13 : (List.range 15).all (fun i => (List.range (jsz (15 * 13 + i))).all (jq1 (15 * 13 + i))) = true := by decide +kernel
theorem jq1_all {j : Nat} (h : j < 205) {pc : Nat} (hp : pc < jsz j) : jq1 j pc = true := by
  have e : 15 * (j / 15) + j % 15 = j := Nat.div_add_mod j 15
  have hm : j % 15 < 15 := Nat.mod_lt _ (by decide)
  have key : (List.range (jsz (15 * (j / 15) + j % 15))).all (jq1 (15 * (j / 15) + j % 15)) = true := by
    rcases (by omega : j / 15 = 0 ∨ j / 15 = 1 ∨ j / 15 = 2 ∨ j / 15 = 3 ∨ j / 15 = 4 ∨ j / 15 = 5 ∨ j / 15 = 6 ∨ j / 15 = 7 ∨ j / 15 = 8 ∨ j / 15 = 9 ∨ j / 15 = 10 ∨ j / 15 = 11 ∨ j / 15 = 12 ∨ j / 15 = 13) with h | h | h | h | h | h | h | h | h | h | h | h | h | h
    · rw [h]; exact jall jq1_0 hm
    · rw [h]; exact jall jq1_1 hm
    · rw [h]; exact jall jq1_2 hm
    · rw [h]; exact jall jq1_3 hm
    · rw [h]; exact jall jq1_4 hm
    · rw [h]; exact jall jq1_5 hm
    · rw [h]; exact jall jq1_6 hm
    · rw [h]; exact jall jq1_7 hm
    · rw [h]; exact jall jq1_8 hm
    · rw [h]; exact jall jq1_9 hm
    · rw [h]; exact jall jq1_10 hm
    · rw [h]; exact jall jq1_11 hm
    · rw [h]; exact jall jq1_12 hm
    · rw [h]; exact jall jq1_13 hm
  rw [e] at key
  exact jall key hp
/-- a field's kind and its type -/
def jkf (k : Nat) (t : FieldType) : Bool := match t with
  | .int => Nat.beq k 0 || Nat.beq k 4
  | .boolean => Nat.beq k 1 || Nat.beq k 4
  | .long => Nat.beq k 2 || Nat.beq k 4
  | .object _ => Nat.beq k 3 || Nat.beq k 4
  | .array _ => Nat.beq k 3 || Nat.beq k 4
  | _ => false
theorem jfit4 (v : Value) : jfit 4 v = false := by cases v <;> rfl
theorem jkf_fit {k : Nat} {t : FieldType} (h : jkf k t = true) {v : Value} (hv : jfit k v = true) : narrow t v = v ∧ fits t v = true := by
  have h4 : ¬ k = 4 := fun e => by subst e; rw [jfit4] at hv; cases hv
  have K : ∀ n, (Nat.beq k n || Nat.beq k 4) = true → k = n := fun n h => by
    rw [Bool.or_eq_true] at h
    rcases h with h | h
    · exact Nat.eq_of_beq_eq_true h
    · exact absurd (Nat.eq_of_beq_eq_true h) h4
  cases t with
  | int =>
    obtain rfl := K 0 h
    cases v with
    | int x => exact ⟨rfl, rfl⟩
    | _ => cases hv
  | boolean =>
    obtain rfl := K 1 h
    cases v with
    | int x =>
      have hx : x = 0 ∨ x = 1 := by
        simp only [jfit] at hv
        rcases (Bool.or_eq_true _ _).mp hv with hv | hv
        · cases hv
        · rcases (Bool.or_eq_true _ _).mp (Bool.and_eq_true _ _ ▸ hv).2 with q | q
          · exact Or.inl (of_decide_eq_true q)
          · exact Or.inr (of_decide_eq_true q)
      rcases hx with rfl | rfl
      · exact ⟨rfl, rfl⟩
      · exact ⟨rfl, rfl⟩
    | _ => cases hv
  | long =>
    obtain rfl := K 2 h
    cases v with
    | long x => exact ⟨rfl, rfl⟩
    | int x => simp [jfit] at hv
    | _ => cases hv
  | object n =>
    obtain rfl := K 3 h
    cases v with
    | ref x => exact ⟨rfl, rfl⟩
    | null => exact ⟨rfl, rfl⟩
    | int x => simp [jfit] at hv
    | _ => cases hv
  | array n =>
    obtain rfl := K 3 h
    cases v with
    | ref x => exact ⟨rfl, rfl⟩
    | null => exact ⟨rfl, rfl⟩
    | int x => simp [jfit] at hv
    | _ => cases hv
  | _ => cases h
def jpl (v : Value) : Bool := match v with
  | .int _ => true
  | .long _ => true
  | .null => true
  | _ => false
theorem jpl_cs {l : List Value} (h : l.all jpl = true) : jcs 0 l := jcs_mem.mpr fun v hv => by
  have := List.all_eq_true.mp h v hv
  cases v with
  | ref i => cases this
  | float i => cases this
  | _ => exact trivial
theorem jpl_fix {l : List Value} (h : l.all jpl = true) (ad g : Nat → Nat) : l.map (jtv ad g) = l := by
  have e : l.map (jtv ad g) = l.map id := List.map_congr_left fun v hv => by
    have := List.all_eq_true.mp h v hv
    cases v with
    | ref i => cases this
    | float i => cases this
    | _ => rfl
  rw [e, List.map_id]
