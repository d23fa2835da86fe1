/-! A pure machine for the bytecode of class, reference and law. Memory is by PLACES (0, 1, 2 .. in the order in which cells were made): a reference in the pure memory is a place. '.float k' stands for a given array (0: the script, 1: TAKES, 2: PUSHES), which nobody writes. Kinds of arrays: 0 int[], 1 long[], c + 2: of objects of class c. -/
abbrev jM : Type := Nat → va_E
/-- the memory, how many places it has, cells made so far, slots made so far (an exception's cell counts in the third, not in the second) -/
abbrev jS : Type := jM × Nat × Nat × Nat
abbrev jL : Type := List (Nat × Value)
/-- given arrays: how long, what -/
abbrev jG : Type := Nat → Nat × (Nat → Int32)
abbrev jN : Type := Nat × jL × List Value × jS
def jif {α : Type} (b : Bool) (x : Option α) : Option α := bif b then x else none
theorem jif_some {α : Type} {b : Bool} {x : Option α} {r : α} (h : jif b x = some r) : b = true ∧ x = some r := by
  cases b with
  | false => cases h
  | true => exact ⟨rfl, h⟩
theorem jif_true {α : Type} {b : Bool} {x : Option α} (h : b = true) : jif b x = x := by rw [h]; rfl
def jld (lv : jL) (i : Nat) : Option Value := match lv with
  | [] => none
  | q :: r => bif Nat.beq q.1 i then some q.2 else jld r i
def js1 (lv : jL) (i : Nat) (v : Value) : jL := (i, v) :: lv.filter (fun q => !(q.1 == i) && !(q.1 + 1 == i && q.2.category == 2))
def js2 (lv : jL) (i : Nat) (v : Value) : jL := (i, v) :: lv.filter (fun q => !(q.1 == i) && (!(q.1 == i + 1) && !(q.1 + 1 == i && q.2.category == 2)))
def jtg (pc : Nat) (off : Int) : Option Nat := match (pc : Int) + off with
  | .ofNat t => some t
  | .negSucc _ => none
def jin (i : Int32) (n : Nat) : Bool := decide (¬ (i < 0 ∨ n ≤ i.toNatClampNeg))
def jcmp (c : ClassFile.Cond) (x y : Int32) : Bool := match c with
  | .eq => decide (x = y)
  | .ne => decide (¬ x = y)
  | .lt => decide (x < y)
  | .ge => decide (y ≤ x)
  | .gt => decide (y < x)
  | .le => decide (x ≤ y)
def jw (μ : jS) (a : Nat) (e : va_E) : jS := (va_up μ.1 a e, μ.2)
/-- a new cell of so many slots -/
def jnew (μ : jS) (e : va_E) (n : Nat) : jS := (va_up μ.1 μ.2.1 e, μ.2.1 + 1, μ.2.2.1 + 1, μ.2.2.2 + n)
/-- what a field of a kind takes: 0 int, 1 boolean, 2 long, 3 reference -/
def jfit (k : Nat) (v : Value) : Bool := match v with
  | .int x => Nat.beq k 0 || (Nat.beq k 1 && (decide (x = 0) || decide (x = 1)))
  | .long _ => Nat.beq k 2
  | .ref _ => Nat.beq k 3
  | .null => Nat.beq k 3
  | _ => false
/-- tables of one method: fields (class, number, kind, final), new (class, first values), kinds of object arrays, given arrays, long constants, how many locals, is it a constructor -/
abbrev jB : Type := (Nat → Option (Nat × Nat × Nat × Bool)) × (Nat → Option (Nat × List Value)) × (Nat → Option Nat) × (Nat → Option Nat) × (Nat → Option Int64) × Nat × Bool
/-- what an instruction that neither calls nor returns does -/
def jstep (G : jG) (B : jB) (i : Instr) (pc : Nat) (lv : jL) (st : List Value) (μ : jS) : Option jN :=
  match i with
  | .iconst k => some (pc + 1, lv, .int (Int32.ofInt k) :: st, μ)
  | .bipush k => some (pc + 2, lv, .int (Int8.ofInt k).toInt32 :: st, μ)
  | .sipush k => some (pc + 3, lv, .int (Int16.ofInt k).toInt32 :: st, μ)
  | .lconst k => some (pc + 1, lv, .long (Int64.ofNat (k : Nat)) :: st, μ)
  | .ldc2_w k => match B.2.2.2.2.1 k with
    | some v => some (pc + 3, lv, .long v :: st, μ)
    | none => none
  | .aconst_null => some (pc + 1, lv, .null :: st, μ)
  | .iload k => match jld lv k with
    | some (.int x) => some (pc + 2, lv, .int x :: st, μ)
    | _ => none
  | .iload_n k => match jld lv k with
    | some (.int x) => some (pc + 1, lv, .int x :: st, μ)
    | _ => none
  | .lload k => match jld lv k with
    | some (.long x) => some (pc + 2, lv, .long x :: st, μ)
    | _ => none
  | .lload_n k => match jld lv k with
    | some (.long x) => some (pc + 1, lv, .long x :: st, μ)
    | _ => none
  | .aload k => match jld lv k with
    | some (.ref x) => some (pc + 2, lv, .ref x :: st, μ)
    | some .null => some (pc + 2, lv, .null :: st, μ)
    | some (.float x) => some (pc + 2, lv, .float x :: st, μ)
    | _ => none
  | .aload_n k => match jld lv k with
    | some (.ref x) => some (pc + 1, lv, .ref x :: st, μ)
    | some .null => some (pc + 1, lv, .null :: st, μ)
    | some (.float x) => some (pc + 1, lv, .float x :: st, μ)
    | _ => none
  | .istore k => match st with
    | .int x :: st => jif (Nat.blt k B.2.2.2.2.2.1) (some (pc + 2, js1 lv k (.int x), st, μ))
    | _ => none
  | .istore_n k => match st with
    | .int x :: st => jif (Nat.blt k B.2.2.2.2.2.1) (some (pc + 1, js1 lv k (.int x), st, μ))
    | _ => none
  | .lstore k => match st with
    | .long x :: st => jif (Nat.blt (k + 1) B.2.2.2.2.2.1) (some (pc + 2, js2 lv k (.long x), st, μ))
    | _ => none
  | .lstore_n k => match st with
    | .long x :: st => jif (Nat.blt ((k : Nat) + 1) B.2.2.2.2.2.1) (some (pc + 1, js2 lv k (.long x), st, μ))
    | _ => none
  | .astore k => match st with
    | .ref x :: st => jif (Nat.blt k B.2.2.2.2.2.1) (some (pc + 2, js1 lv k (.ref x), st, μ))
    | .null :: st => jif (Nat.blt k B.2.2.2.2.2.1) (some (pc + 2, js1 lv k .null, st, μ))
    | _ => none
  | .astore_n k => match st with
    | .ref x :: st => jif (Nat.blt k B.2.2.2.2.2.1) (some (pc + 1, js1 lv k (.ref x), st, μ))
    | .null :: st => jif (Nat.blt k B.2.2.2.2.2.1) (some (pc + 1, js1 lv k .null, st, μ))
    | _ => none
  | .iinc k n => match jld lv k with
    | some (.int x) => jif (Nat.blt k B.2.2.2.2.2.1) (some (pc + 3, js1 lv k (.int (x + Int32.ofInt n)), st, μ))
    | _ => none
  | .iadd => match st with
    | .int y :: .int x :: st => some (pc + 1, lv, .int (x + y) :: st, μ)
    | _ => none
  | .isub => match st with
    | .int y :: .int x :: st => some (pc + 1, lv, .int (x - y) :: st, μ)
    | _ => none
  | .imul => match st with
    | .int y :: .int x :: st => some (pc + 1, lv, .int (x * y) :: st, μ)
    | _ => none
  | .iand => match st with
    | .int y :: .int x :: st => some (pc + 1, lv, .int (x &&& y) :: st, μ)
    | _ => none
  | .irem => match st with
    | .int y :: .int x :: st => jif (decide (¬ y = 0)) (some (pc + 1, lv, .int (x - x / y * y) :: st, μ))
    | _ => none
  | .ladd => match st with
    | .long y :: .long x :: st => some (pc + 1, lv, .long (x + y) :: st, μ)
    | _ => none
  | .lsub => match st with
    | .long y :: .long x :: st => some (pc + 1, lv, .long (x - y) :: st, μ)
    | _ => none
  | .lmul => match st with
    | .long y :: .long x :: st => some (pc + 1, lv, .long (x * y) :: st, μ)
    | _ => none
  | .ldiv => match st with
    | .long y :: .long x :: st => jif (decide (¬ y = 0)) (some (pc + 1, lv, .long (x / y) :: st, μ))
    | _ => none
  | .lcmp => match st with
    | .long y :: .long x :: st => some (pc + 1, lv, .int (lg_cmp x y) :: st, μ)
    | _ => none
  | .i2l => match st with
    | .int x :: st => some (pc + 1, lv, .long x.toInt64 :: st, μ)
    | _ => none
  | .l2i => match st with
    | .long x :: st => some (pc + 1, lv, .int x.toInt32 :: st, μ)
    | _ => none
  | .dup => match st with
    | v :: st => jif (Nat.beq v.category 1) (some (pc + 1, lv, v :: v :: st, μ))
    | _ => none
  | .pop => match st with
    | v :: st => jif (Nat.beq v.category 1) (some (pc + 1, lv, st, μ))
    | _ => none
  | .dup_x1 => match st with
    | v :: w :: st => jif (Nat.beq v.category 1 && Nat.beq w.category 1) (some (pc + 1, lv, v :: w :: v :: st, μ))
    | _ => none
  | .dup2 => match st with
    | v :: w :: st => jif (Nat.beq v.category 1 && Nat.beq w.category 1) (some (pc + 1, lv, v :: w :: v :: w :: st, μ))
    | _ => none
  | .goto off => match jtg pc off with
    | some t => some (t, lv, st, μ)
    | none => none
  | .ifCond c off => match st with
    | .int x :: st => match jtg pc off with
      | some t => some (bif jcmp c x 0 then t else pc + 3, lv, st, μ)
      | none => none
    | _ => none
  | .if_icmp c off => match st with
    | .int y :: .int x :: st => match jtg pc off with
      | some t => some (bif jcmp c x y then t else pc + 3, lv, st, μ)
      | none => none
    | _ => none
  | .ifnull off => match st with
    | .null :: st => match jtg pc off with
      | some t => some (t, lv, st, μ)
      | none => none
    | .ref _ :: st => some (pc + 3, lv, st, μ)
    | _ => none
  | .ifnonnull off => match st with
    | .null :: st => some (pc + 3, lv, st, μ)
    | .ref _ :: st => match jtg pc off with
      | some t => some (t, lv, st, μ)
      | none => none
    | _ => none
  | .tableswitch d lo hi offs => match st with
    | .int x :: st => bif decide (x.toInt < lo ∨ hi < x.toInt) then (match jtg pc d with
        | some t => some (t, lv, st, μ)
        | none => none) else (match offs[(x.toInt - lo).toNat]? with
        | some o => (match jtg pc o with
          | some t => some (t, lv, st, μ)
          | none => none)
        | none => none)
    | _ => none
  | .lookupswitch d ps => match st with
    | .int x :: st => match jtg pc (Op.lookupswitch.offset ps.toList d x.toInt) with
      | some t => jif ((ps.toList.zip (ps.toList.drop 1)).all (fun (a, next) => a.1 < next.1)) (some (t, lv, st, μ))
      | none => none
    | _ => none
  | .getfield k => match st with
    | .ref a :: st => match B.1 k with
      | some (c, f, _, _) => match μ.1 a with
        | .inr (d, fs) => match fs[f]? with
          | some v => jif (Nat.beq d c) (some (pc + 3, lv, v :: st, μ))
          | none => none
        | _ => none
      | none => none
    | _ => none
  | .putfield k => match st with
    | v :: .ref a :: st => match B.1 k with
      | some (c, f, kd, fin) => match μ.1 a with
        | .inr (d, fs) => jif (Nat.beq d c && (Nat.blt f fs.length && (jfit kd v && (!fin || B.2.2.2.2.2.2)))) (some (pc + 3, lv, st, jw μ a (.inr (d, fs.set f v))))
        | _ => none
      | none => none
    | _ => none
  | .getstatic k => match B.2.2.2.1 k with
    | some g => some (pc + 3, lv, .float (UInt32.ofNat g) :: st, μ)
    | none => none
  | .arraylength => match st with
    | .ref a :: st => match μ.1 a with
      | .inl (_, n, _) => some (pc + 1, lv, .int (Int32.ofNat n) :: st, μ)
      | _ => none
    | .float g :: st => some (pc + 1, lv, .int (Int32.ofNat (G g.toNat).1) :: st, μ)
    | _ => none
  | .iaload => match st with
    | .int i :: .ref a :: st => match μ.1 a with
      | .inl (_, n, .inl f) => jif (jin i n) (some (pc + 1, lv, .int (f i.toNatClampNeg) :: st, μ))
      | _ => none
    | .int i :: .float g :: st => jif (jin i (G g.toNat).1) (some (pc + 1, lv, .int ((G g.toNat).2 i.toNatClampNeg) :: st, μ))
    | _ => none
  | .laload => match st with
    | .int i :: .ref a :: st => match μ.1 a with
      | .inl (_, n, .inr (.inl f)) => jif (jin i n) (some (pc + 1, lv, .long (f i.toNatClampNeg) :: st, μ))
      | _ => none
    | _ => none
  | .aaload => match st with
    | .int i :: .ref a :: st => match μ.1 a with
      | .inl (_, n, .inr (.inr (.inr (.inr f)))) => jif (jin i n) (some (pc + 1, lv, va_rf (f i.toNatClampNeg) :: st, μ))
      | _ => none
    | _ => none
  | .iastore => match st with
    | .int x :: .int i :: .ref a :: st => match μ.1 a with
      | .inl (c, n, .inl f) => jif (jin i n) (some (pc + 1, lv, st, jw μ a (.inl (c, n, .inl (upd f i.toNatClampNeg x)))))
      | _ => none
    | _ => none
  | .lastore => match st with
    | .long x :: .int i :: .ref a :: st => match μ.1 a with
      | .inl (c, n, .inr (.inl f)) => jif (jin i n) (some (pc + 1, lv, st, jw μ a (.inl (c, n, .inr (.inl (vp_updL f i.toNatClampNeg x))))))
      | _ => none
    | _ => none
  | .aastore => match st with
    | .ref b :: .int i :: .ref a :: st => match μ.1 a with
      | .inl (c, n, .inr (.inr (.inr (.inr f)))) => match μ.1 b with
        | .inr (d, _) => jif (jin i n && Nat.beq c (d + 2)) (some (pc + 1, lv, st, jw μ a (.inl (c, n, .inr (.inr (.inr (.inr (va_up f i.toNatClampNeg (some b)))))))))
        | _ => none
      | _ => none
    | _ => none
  | .newarray .int => match st with
    | .int n :: st => jif (decide (¬ n < 0)) (some (pc + 2, lv, .ref μ.2.1 :: st, jnew μ (.inl (0, n.toNatClampNeg, .inl fun _ => 0)) n.toNatClampNeg))
    | _ => none
  | .newarray .long => match st with
    | .int n :: st => jif (decide (¬ n < 0)) (some (pc + 2, lv, .ref μ.2.1 :: st, jnew μ (.inl (1, n.toNatClampNeg, .inr (.inl fun _ => 0))) n.toNatClampNeg))
    | _ => none
  | .anewarray k => match st with
    | .int n :: st => match B.2.2.1 k with
      | some c => jif (decide (¬ n < 0)) (some (pc + 3, lv, .ref μ.2.1 :: st, jnew μ (.inl (c, n.toNatClampNeg, .inr (.inr (.inr (.inr fun _ => none))))) n.toNatClampNeg))
      | none => none
    | _ => none
  | .new k => match B.2.1 k with
    | some (c, fs) => some (pc + 3, lv, .ref μ.2.1 :: st, jnew μ (.inr (c, fs)) fs.length)
    | none => none
  | _ => none
/-- the first n of the stack, as arguments; and the rest -/
def jarg : Nat → List Value → List Value → Option (List Value × List Value)
  | 0, st, acc => some (acc, st)
  | n + 1, v :: st, acc => jarg n st (v :: acc)
  | _ + 1, [], _ => none
/-- System.arraycopy between two arrays of one kind -/
def jcpy (μ : jS) (as : List Value) : Option jS := match as with
  | [.ref a, .int sp, .ref b, .int dp, .int n] => match μ.1 a, μ.1 b with
    | .inl (_, n0, .inl f), .inl (c, n1, .inl g) => jif (decide (¬ sp < 0 ∧ ¬ dp < 0 ∧ ¬ n < 0 ∧ sp.toNatClampNeg + n.toNatClampNeg ≤ n0 ∧ dp.toNatClampNeg + n.toNatClampNeg ≤ n1)) (some (jw μ b (.inl (c, n1, .inl (va_cpy f g sp.toNatClampNeg dp.toNatClampNeg n.toNatClampNeg)))))
    | .inl (_, n0, .inr (.inl f)), .inl (c, n1, .inr (.inl g)) => jif (decide (¬ sp < 0 ∧ ¬ dp < 0 ∧ ¬ n < 0 ∧ sp.toNatClampNeg + n.toNatClampNeg ≤ n0 ∧ dp.toNatClampNeg + n.toNatClampNeg ≤ n1)) (some (jw μ b (.inl (c, n1, .inr (.inl (va_cpy f g sp.toNatClampNeg dp.toNatClampNeg n.toNatClampNeg))))))
    | _, _ => none
  | _ => none
/-- what a virtual or special call asks of its receiver -/
def jrec (μ : jS) (rc : Option Nat) (as : List Value) : Bool := match rc with
  | none => true
  | some c => match as with
    | .ref b :: _ => (match μ.1 b with
      | .inr (d, _) => Nat.beq d c
      | _ => false)
    | _ => false
/-- the program's tables, all by method: code; where 'throw new' begins, of which class; handlers (pc, class: where it goes on behind the astore, which local that took); calls (0 Object's constructor, 1 arraycopy, method + 2; how many arguments; the receiver's class); jstep's; what kind it returns (0 int, 1 boolean, 2 long, 3 reference, 4 nothing) -/
abbrev jT : Type := (Nat → Nat → Option Instr) × (Nat → Nat → Option Nat) × (Nat → Nat → Nat → Option (Nat × Nat)) × (Nat → Nat → Option (Nat × Nat × Option Nat)) × (Nat → jB) × (Nat → Nat)
abbrev jO : Type := (Option Value ⊕ Nat) × jS
/-- the end of a body that returns a value of kind k -/
def jret (k : Nat) (i : Instr) (st : List Value) : Option (Option Value) := match i with
  | .return_ => match st with
    | [] => jif (Nat.beq k 4) (some none)
    | _ => none
  | .ireturn => match st with
    | [.int x] => jif (Nat.beq k 0 || (Nat.beq k 1 && (decide (x = 0) || decide (x = 1)))) (some (some (.int x)))
    | _ => none
  | .lreturn => match st with
    | [.long x] => jif (Nat.beq k 2) (some (some (.long x)))
    | _ => none
  | .areturn => match st with
    | [.ref x] => jif (Nat.beq k 3) (some (some (.ref x)))
    | [.null] => jif (Nat.beq k 3) (some (some .null))
    | _ => none
  | _ => none
def jcix (i : Instr) : Option Nat := match i with
  | .invokevirtual k => some k
  | .invokespecial k => some k
  | .invokestatic k => some k
  | _ => none
/-- the locals that are left when local k has taken an exception -/
def jdrop (lv : jL) (k : Nat) : jL := lv.filter (fun q => !(q.1 == k) && !(q.1 + 1 == k && q.2.category == 2))
def jex (G : jG) (P : jT) : Nat → Nat → Nat → jL → List Value → jS → Option jO
  | 0, _, _, _, _, _ => none
  | t + 1, j, pc, lv, st, μ =>
    match P.2.1 j pc with
    | some x => (match st with
      | [] => some (.inr x, μ.1, μ.2.1, μ.2.2.1 + 1, μ.2.2.2 + 6)
      | _ => none)
    | none => match P.1 j pc with
      | none => none
      | some i => match jstep G (P.2.2.2.2.1 j) i pc lv st μ with
        | some q => jex G P t j q.1 q.2.1 q.2.2.1 q.2.2.2
        | none => match jret (P.2.2.2.2.2 j) i st with
          | some v => some (.inl v, μ)
          | none => match jcix i with
            | none => none
            | some k => match P.2.2.2.1 j k with
              | none => none
              | some (y, n, rc) => match jarg n st [] with
                | none => none
                | some (as, rest) => bif !(jrec μ rc as && Nat.ble (rest.map fun v => v.category).sum 8) then none else match y with
                  | 0 => (match as with
                    | [.ref _] => jex G P t j (pc + 3) lv rest μ
                    | _ => none)
                  | 1 => (match jcpy μ as with
                    | none => none
                    | some μ' => jex G P t j (pc + 3) lv rest μ')
                  | y + 2 => match jif (Nat.ble (as.map fun v => v.category).sum (P.2.2.2.2.1 y).2.2.2.2.2.1) (jex G P t y 0 (lv_args 0 as) [] μ) with
                    | none => none
                    | some (.inl v, μ') => jex G P t j (pc + 3) lv (v.toList ++ rest) μ'
                    | some (.inr x, μ') => match P.2.2.1 j pc x with
                      | none => none
                      | some (h, z) => jex G P t j h (jdrop lv z) [] μ'
/-- from here the body comes to an end with Q -/
def jX (G : jG) (P : jT) (j pc : Nat) (lv : jL) (st : List Value) (μ : jS) (Q : Option Value ⊕ Nat → jS → Prop) : Prop := ∃ t o, jex G P t j pc lv st μ = some o ∧ Q o.1 o.2
