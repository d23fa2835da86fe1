/-! printed by facts.py: the methods: where their words stand; the checks -/
def jm1 (e : Nat × Nat × Nat × Nat × Nat) : Bool := plainName (jnm e.1).cls && (jkk (jkr e.1) (jrtT e.1) && (bif (jhh e.1).isEmpty then (Nat.beq e.1 204 || jat e.2.1 (Cond.code (jnm e.1) (jbt e.1) (jmx e.1) (jrtT e.1))) else jat e.2.1 (Cond.codeWith (jnm e.1) (jbt e.1) (jmx e.1) (jrtT e.1) (jhh e.1))))
def jy1 (e : Nat × Nat × Nat × Nat × Nat) : Bool := Nat.beq e.1 204 || (decide ((jnm e.1).cls ≠ "java/lang/invoke/MethodHandle") && (decide ((jnm e.1).cls ≠ "java/lang/invoke/VarHandle") && (jat e.2.2.1 (Cond.initialized (jnm e.1).cls) && (decide ((parseMethodDescriptor (jnm e.1).desc).map (fun d => d.parameters.length) = some (jnp e.1)) &&
  (match jkd e.1 with
    | 0 => jat e.2.2.2.1 (Cond.static (jnm e.1))
    | 1 => decide ((jnm e.1).name = "<init>") && (jat e.2.2.2.1 (Cond.instanceMethod (jnm e.1)) && (decide (jrtT e.1 = none) && (jhh e.1).isEmpty))
    | _ => jat e.2.2.2.1 (Cond.instanceMethod (jnm e.1)) && (jat e.2.2.2.2 (Cond.selects (jnm e.1).cls (jnm e.1) (jnm e.1)) && ((jhh e.1).isEmpty && (Nat.blt (jow e.1) 16))))))))
def jmy (e : Nat × Nat × Nat × Nat × Nat) : Bool := jm1 e && jy1 e
def jwm_32 : List (Nat × Nat × Nat × Nat × Nat) := [(188, 6208, 1012, 6207, 40)]
theorem jwm_32_c : jat 6208 (Cond.code (jnm 188) (jbt 188) (jmx 188) (jrtT 188)) = true := by
  have hv : (jsg (6208 / 1000))[6208 % 1000]? = some (Cond.code (jnm 188) (jbt 188) (jmx 188) (jrtT 188)) := by rfl
  have hg : goodWord (Cond.code (jnm 188) (jbt 188) (jmx 188) (jrtT 188)) = true := by rfl
  unfold jat jatW
  rw [hv, hg, Bool.and_true]
  exact decide_eq_true rfl
theorem jwm_32_ok : jwm_32.all jmy = true := by
  have hy : jy1 (188, 6208, 1012, 6207, 40) = true := by decide +kernel
  have hp : plainName (jnm 188).cls = true := by decide +kernel
  have hk : jkk (jkr 188) (jrtT 188) = true := by decide +kernel
  have hh : (jhh 188).isEmpty = true := by decide +kernel
  have hm : jm1 (188, 6208, 1012, 6207, 40) = true := by
    show (plainName (jnm 188).cls && (jkk (jkr 188) (jrtT 188) && (bif (jhh 188).isEmpty then (Nat.beq 188 204 || jat 6208 (Cond.code (jnm 188) (jbt 188) (jmx 188) (jrtT 188))) else jat 6208 (Cond.codeWith (jnm 188) (jbt 188) (jmx 188) (jrtT 188) (jhh 188))))) = true
    rw [hp, hk, hh, jwm_32_c, Bool.or_true]
    rfl
  show ((jm1 (188, 6208, 1012, 6207, 40) && jy1 (188, 6208, 1012, 6207, 40)) && true) = true
  rw [hm, hy]
  rfl
