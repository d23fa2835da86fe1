/-! printed by tables2.py: the tables -/
theorem jleaf {cc : ByteArray} {f : Nat → Option Instr} {n : Nat} (hd : (List.range n).all (jchk cc f) = true) (hl : ∀ pc i, f pc = some i → pc < n) {pc : Nat} {i : Instr} (h : f pc = some i) : pc < n ∧ ∃ len, decode cc pc = .ok (i, len) ∧ (jlen i = 0 ∨ len = jlen i) := ⟨hl pc i h, jchk_spec hd (hl pc i h) h⟩
def jcI_0 (j pc : Nat) : Option Instr := bif Nat.blt j 8 then (bif Nat.blt j 4 then (bif Nat.blt j 2 then (bif Nat.blt j 1 then (bif Nat.beq j 0 then jc0 pc else none)
  else (bif Nat.beq j 1 then jc1 pc else none))
  else (bif Nat.blt j 3 then (bif Nat.beq j 2 then jc2 pc else none)
  else (bif Nat.beq j 3 then jc3 pc else none)))
  else (bif Nat.blt j 6 then (bif Nat.blt j 5 then (bif Nat.beq j 4 then jc4 pc else none)
  else (bif Nat.beq j 5 then jc5 pc else none))
  else (bif Nat.blt j 7 then (bif Nat.beq j 6 then jc6 pc else none)
  else (bif Nat.beq j 7 then jc7 pc else none))))
else (bif Nat.blt j 12 then (bif Nat.blt j 10 then (bif Nat.blt j 9 then (bif Nat.beq j 8 then jc8 pc else none)
  else (bif Nat.beq j 9 then jc9 pc else none))
  else (bif Nat.blt j 11 then (bif Nat.beq j 10 then jc10 pc else none)
  else (bif Nat.beq j 11 then jc11 pc else none)))
  else (bif Nat.blt j 14 then (bif Nat.blt j 13 then (bif Nat.beq j 12 then jc12 pc else none)
  else (bif Nat.beq j 13 then jc13 pc else none))
  else (bif Nat.blt j 15 then (bif Nat.beq j 14 then jc14 pc else none)
  else (bif Nat.beq j 15 then jc15 pc else none))))
theorem jcI_0_ok {j pc : Nat} {i : Instr} (h : jcI_0 j pc = some i) : pc < jsz j ∧ ∃ len, decode (jbt j) pc = .ok (i, len) ∧ (jlen i = 0 ∨ len = jlen i) := by
  unfold jcI_0 at h
  cases hc8 : Nat.blt j 8 with
  | true =>
    rw [hc8, cond_true] at h
    cases hc4 : Nat.blt j 4 with
    | true =>
      rw [hc4, cond_true] at h
      cases hc2 : Nat.blt j 2 with
      | true =>
        rw [hc2, cond_true] at h
        cases hc1 : Nat.blt j 1 with
        | true =>
          rw [hc1, cond_true] at h
          cases hb0 : Nat.beq j 0 with
          | true =>
            obtain rfl := Nat.eq_of_beq_eq_true hb0
            exact jleaf (f := jc0) jd0 (fun _ _ q => (jlim_some q).1) h
          | false => rw [hb0] at h; cases h
        | false =>
          rw [hc1, cond_false] at h
          cases hb1 : Nat.beq j 1 with
          | true =>
            obtain rfl := Nat.eq_of_beq_eq_true hb1
            exact jleaf (f := jc1) jd1 (fun _ _ q => (jlim_some q).1) h
          | false => rw [hb1] at h; cases h
      | false =>
        rw [hc2, cond_false] at h
        cases hc3 : Nat.blt j 3 with
        | true =>
          rw [hc3, cond_true] at h
          cases hb2 : Nat.beq j 2 with
          | true =>
            obtain rfl := Nat.eq_of_beq_eq_true hb2
            exact jleaf (f := jc2) jd2 (fun _ _ q => (jlim_some q).1) h
          | false => rw [hb2] at h; cases h
        | false =>
          rw [hc3, cond_false] at h
          cases hb3 : Nat.beq j 3 with
          | true =>
            obtain rfl := Nat.eq_of_beq_eq_true hb3
            exact jleaf (f := jc3) jd3 (fun _ _ q => (jlim_some q).1) h
          | false => rw [hb3] at h; cases h
    | false =>
      rw [hc4, cond_false] at h
      cases hc6 : Nat.blt j 6 with
      | true =>
        rw [hc6, cond_true] at h
        cases hc5 : Nat.blt j 5 with
        | true =>
          rw [hc5, cond_true] at h
          cases hb4 : Nat.beq j 4 with
          | true =>
            obtain rfl := Nat.eq_of_beq_eq_true hb4
            exact jleaf (f := jc4) jd4 (fun _ _ q => (jlim_some q).1) h
          | false => rw [hb4] at h; cases h
        | false =>
          rw [hc5, cond_false] at h
          cases hb5 : Nat.beq j 5 with
          | true =>
            obtain rfl := Nat.eq_of_beq_eq_true hb5
            exact jleaf (f := jc5) jd5 (fun _ _ q => (jlim_some q).1) h
          | false => rw [hb5] at h; cases h
      | false =>
        rw [hc6, cond_false] at h
        cases hc7 : Nat.blt j 7 with
        | true =>
          rw [hc7, cond_true] at h
          cases hb6 : Nat.beq j 6 with
          | true =>
            obtain rfl := Nat.eq_of_beq_eq_true hb6
            exact jleaf (f := jc6) jd6 (fun _ _ q => (jlim_some q).1) h
          | false => rw [hb6] at h; cases h
        | false =>
          rw [hc7, cond_false] at h
          cases hb7 : Nat.beq j 7 with
          | true =>
            obtain rfl := Nat.eq_of_beq_eq_true hb7
            exact jleaf (f := jc7) jd7 (fun _ _ q => (jlim_some q).1) h
          | false => rw [hb7] at h; cases h
  | false =>
    rw [hc8, cond_false] at h
    cases hc12 : Nat.blt j 12 with
    | true =>
      rw [hc12, cond_true] at h
      cases hc10 : Nat.blt j 10 with
      | true =>
        rw [hc10, cond_true] at h
        cases hc9 : Nat.blt j 9 with
        | true =>
          rw [hc9, cond_true] at h
          cases hb8 : Nat.beq j 8 with
          | true =>
            obtain rfl := Nat.eq_of_beq_eq_true hb8
            exact jleaf (f := jc8) jd8 (fun _ _ q => (jlim_some q).1) h
          | false => rw [hb8] at h; cases h
        | false =>
          rw [hc9, cond_false] at h
          cases hb9 : Nat.beq j 9 with
          | true =>
            obtain rfl := Nat.eq_of_beq_eq_true hb9
            exact jleaf (f := jc9) jd9 (fun _ _ q => (jlim_some q).1) h
          | false => rw [hb9] at h; cases h
      | false =>
        rw [hc10, cond_false] at h
        cases hc11 : Nat.blt j 11 with
        | true =>
          rw [hc11, cond_true] at h
          cases hb10 : Nat.beq j 10 with
          | true =>
            obtain rfl := Nat.eq_of_beq_eq_true hb10
            exact jleaf (f := jc10) jd10 (fun _ _ q => (jlim_some q).1) h
          | false => rw [hb10] at h; cases h
        | false =>
          rw [hc11, cond_false] at h
          cases hb11 : Nat.beq j 11 with
          | true =>
            obtain rfl := Nat.eq_of_beq_eq_true hb11
            exact jleaf (f := jc11) jd11 (fun _ _ q => (jlim_some q).1) h
          | false => rw [hb11] at h; cases h
    | false =>
      rw [hc12, cond_false] at h
      cases hc14 : Nat.blt j 14 with
      | true =>
        rw [hc14, cond_true] at h
        cases hc13 : Nat.blt j 13 with
        | true =>
          rw [hc13, cond_true] at h
          cases hb12 : Nat.beq j 12 with
          | true =>
            obtain rfl := Nat.eq_of_beq_eq_true hb12
            exact jleaf (f := jc12) jd12 (fun _ _ q => (jlim_some q).1) h
          | false => rw [hb12] at h; cases h
        | false =>
          rw [hc13, cond_false] at h
          cases hb13 : Nat.beq j 13 with
          | true =>
            obtain rfl := Nat.eq_of_beq_eq_true hb13
            exact jleaf (f := jc13) jd13 (fun _ _ q => (jlim_some q).1) h
          | false => rw [hb13] at h; cases h
      | false =>
        rw [hc14, cond_false] at h
        cases hc15 : Nat.blt j 15 with
        | true =>
          rw [hc15, cond_true] at h
          cases hb14 : Nat.beq j 14 with
          | true =>
            obtain rfl := Nat.eq_of_beq_eq_true hb14
            exact jleaf (f := jc14) jd14 (fun _ _ q => (jlim_some q).1) h
          | false => rw [hb14] at h; cases h
        | false =>
          rw [hc15, cond_false] at h
          cases hb15 : Nat.beq j 15 with
          | true =>
            obtain rfl := Nat.eq_of_beq_eq_true hb15
            exact jleaf (f := jc15) jd15 (fun _ _ q => (jlim_some q).1) h
          | false => rw [hb15] at h; cases h
def jcI_1 (j pc : Nat) : Option Instr := bif Nat.blt j 24 then (bif Nat.blt j 20 then (bif Nat.blt j 18 then (bif Nat.blt j 17 then (bif Nat.beq j 16 then jc16 pc else none)
  else (bif Nat.beq j 17 then jc17 pc else none))
  else (bif Nat.blt j 19 then (bif Nat.beq j 18 then jc18 pc else none)
  else (bif Nat.beq j 19 then jc19 pc else none)))
  else (bif Nat.blt j 22 then (bif Nat.blt j 21 then (bif Nat.beq j 20 then jc20 pc else none)
  else (bif Nat.beq j 21 then jc21 pc else none))
  else (bif Nat.blt j 23 then (bif Nat.beq j 22 then jc22 pc else none)
  else (bif Nat.beq j 23 then jc23 pc else none))))
else (bif Nat.blt j 28 then (bif Nat.blt j 26 then (bif Nat.blt j 25 then (bif Nat.beq j 24 then jc24 pc else none)
  else (bif Nat.beq j 25 then jc25 pc else none))
  else (bif Nat.blt j 27 then (bif Nat.beq j 26 then jc26 pc else none)
  else (bif Nat.beq j 27 then jc27 pc else none)))
  else (bif Nat.blt j 30 then (bif Nat.blt j 29 then (bif Nat.beq j 28 then jc28 pc else none)
  else (bif Nat.beq j 29 then jc29 pc else none))
  else (bif Nat.blt j 31 then (bif Nat.beq j 30 then jc30 pc else none)
  else (bif Nat.beq j 31 then jc31 pc else none))))
theorem jcI_1_ok {j pc : Nat} {i : Instr} (h : jcI_1 j pc = some i) : pc < jsz j ∧ ∃ len, decode (jbt j) pc = .ok (i, len) ∧ (jlen i = 0 ∨ len = jlen i) := by
  unfold jcI_1 at h
  cases hc24 : Nat.blt j 24 with
  | true =>
    rw [hc24, cond_true] at h
    cases hc20 : Nat.blt j 20 with
    | true =>
      rw [hc20, cond_true] at h
      cases hc18 : Nat.blt j 18 with
      | true =>
        rw [hc18, cond_true] at h
        cases hc17 : Nat.blt j 17 with
        | true =>
          rw [hc17, cond_true] at h
          cases hb16 : Nat.beq j 16 with
          | true =>
            obtain rfl := Nat.eq_of_beq_eq_true hb16
            exact jleaf (f := jc16) jd16 (fun _ _ q => (jlim_some q).1) h
          | false => rw [hb16] at h; cases h
        | false =>
          rw [hc17, cond_false] at h
          cases hb17 : Nat.beq j 17 with
          | true =>
            obtain rfl := Nat.eq_of_beq_eq_true hb17
            exact jleaf (f := jc17) jd17 (fun _ _ q => (jlim_some q).1) h
          | false => rw [hb17] at h; cases h
      | false =>
        rw [hc18, cond_false] at h
        cases hc19 : Nat.blt j 19 with
        | true =>
          rw [hc19, cond_true] at h
          cases hb18 : Nat.beq j 18 with
          | true =>
            obtain rfl := Nat.eq_of_beq_eq_true hb18
            exact jleaf (f := jc18) jd18 (fun _ _ q => (jlim_some q).1) h
          | false => rw [hb18] at h; cases h
        | false =>
          rw [hc19, cond_false] at h
          cases hb19 : Nat.beq j 19 with
          | true =>
            obtain rfl := Nat.eq_of_beq_eq_true hb19
            exact jleaf (f := jc19) jd19 (fun _ _ q => (jlim_some q).1) h
          | false => rw [hb19] at h; cases h
    | false =>
      rw [hc20, cond_false] at h
      cases hc22 : Nat.blt j 22 with
      | true =>
        rw [hc22, cond_true] at h
        cases hc21 : Nat.blt j 21 with
        | true =>
          rw [hc21, cond_true] at h
          cases hb20 : Nat.beq j 20 with
          | true =>
            obtain rfl := Nat.eq_of_beq_eq_true hb20
            exact jleaf (f := jc20) jd20 (fun _ _ q => (jlim_some q).1) h
          | false => rw [hb20] at h; cases h
        | false =>
          rw [hc21, cond_false] at h
          cases hb21 : Nat.beq j 21 with
          | true =>
            obtain rfl := Nat.eq_of_beq_eq_true hb21
            exact jleaf (f := jc21) jd21 (fun _ _ q => (jlim_some q).1) h
          | false => rw [hb21] at h; cases h
      | false =>
        rw [hc22, cond_false] at h
        cases hc23 : Nat.blt j 23 with
        | true =>
          rw [hc23, cond_true] at h
          cases hb22 : Nat.beq j 22 with
          | true =>
            obtain rfl := Nat.eq_of_beq_eq_true hb22
            exact jleaf (f := jc22) jd22 (fun _ _ q => (jlim_some q).1) h
          | false => rw [hb22] at h; cases h
        | false =>
          rw [hc23, cond_false] at h
          cases hb23 : Nat.beq j 23 with
          | true =>
            obtain rfl := Nat.eq_of_beq_eq_true hb23
            exact jleaf (f := jc23) jd23 (fun _ _ q => (jlim_some q).1) h
          | false => rw [hb23] at h; cases h
  | false =>
    rw [hc24, cond_false] at h
    cases hc28 : Nat.blt j 28 with
    | true =>
      rw [hc28, cond_true] at h
      cases hc26 : Nat.blt j 26 with
      | true =>
        rw [hc26, cond_true] at h
        cases hc25 : Nat.blt j 25 with
        | true =>
          rw [hc25, cond_true] at h
          cases hb24 : Nat.beq j 24 with
          | true =>
            obtain rfl := Nat.eq_of_beq_eq_true hb24
            exact jleaf (f := jc24) jd24 (fun _ _ q => (jlim_some q).1) h
          | false => rw [hb24] at h; cases h
        | false =>
          rw [hc25, cond_false] at h
          cases hb25 : Nat.beq j 25 with
          | true =>
            obtain rfl := Nat.eq_of_beq_eq_true hb25
            exact jleaf (f := jc25) jd25 (fun _ _ q => (jlim_some q).1) h
          | false => rw [hb25] at h; cases h
      | false =>
        rw [hc26, cond_false] at h
        cases hc27 : Nat.blt j 27 with
        | true =>
          rw [hc27, cond_true] at h
          cases hb26 : Nat.beq j 26 with
          | true =>
            obtain rfl := Nat.eq_of_beq_eq_true hb26
            exact jleaf (f := jc26) jd26 (fun _ _ q => (jlim_some q).1) h
          | false => rw [hb26] at h; cases h
        | false =>
          rw [hc27, cond_false] at h
          cases hb27 : Nat.beq j 27 with
          | true =>
            obtain rfl := Nat.eq_of_beq_eq_true hb27
            exact jleaf (f := jc27) jd27 (fun _ _ q => (jlim_some q).1) h
          | false => rw [hb27] at h; cases h
    | false =>
      rw [hc28, cond_false] at h
      cases hc30 : Nat.blt j 30 with
      | true =>
        rw [hc30, cond_true] at h
        cases hc29 : Nat.blt j 29 with
        | true =>
          rw [hc29, cond_true] at h
          cases hb28 : Nat.beq j 28 with
          | true =>
            obtain rfl := Nat.eq_of_beq_eq_true hb28
            exact jleaf (f := jc28) jd28 (fun _ _ q => (jlim_some q).1) h
          | false => rw [hb28] at h; cases h
        | false =>
          rw [hc29, cond_false] at h
          cases hb29 : Nat.beq j 29 with
          | true =>
            obtain rfl := Nat.eq_of_beq_eq_true hb29
            exact jleaf (f := jc29) jd29 (fun _ _ q => (jlim_some q).1) h
          | false => rw [hb29] at h; cases h
      | false =>
        rw [hc30, cond_false] at h
        cases hc31 : Nat.blt j 31 with
        | true =>
          rw [hc31, cond_true] at h
          cases hb30 : Nat.beq j 30 with
          | true =>
            obtain rfl := Nat.eq_of_beq_eq_true hb30
            exact jleaf (f := jc30) jd30 (fun _ _ q => (jlim_some q).1) h
          | false => rw [hb30] at h; cases h
        | false =>
          rw [hc31, cond_false] at h
          cases hb31 : Nat.beq j 31 with
          | true =>
            obtain rfl := Nat.eq_of_beq_eq_true hb31
            exact jleaf (f := jc31) jd31 (fun _ _ q => (jlim_some q).1) h
          | false => rw [hb31] at h; cases h
def jcI_2 (j pc : Nat) : Option Instr := bif Nat.blt j 40 then (bif Nat.blt j 36 then (bif Nat.blt j 34 then (bif Nat.blt j 33 then (bif Nat.beq j 32 then jc32 pc else none)
  else (bif Nat.beq j 33 then jc33 pc else none))
  else (bif Nat.blt j 35 then (bif Nat.beq j 34 then jc34 pc else none)
  else (bif Nat.beq j 35 then jc35 pc else none)))
  else (bif Nat.blt j 38 then (bif Nat.blt j 37 then (bif Nat.beq j 36 then jc36 pc else none)
  else (bif Nat.beq j 37 then jc37 pc else none))
  else (bif Nat.blt j 39 then (bif Nat.beq j 38 then jc38 pc else none)
  else (bif Nat.beq j 39 then jc39 pc else none))))
else (bif Nat.blt j 44 then (bif Nat.blt j 42 then (bif Nat.blt j 41 then (bif Nat.beq j 40 then jc40 pc else none)
  else (bif Nat.beq j 41 then jc41 pc else none))
  else (bif Nat.blt j 43 then (bif Nat.beq j 42 then jc42 pc else none)
  else (bif Nat.beq j 43 then jc43 pc else none)))
  else (bif Nat.blt j 46 then (bif Nat.blt j 45 then (bif Nat.beq j 44 then jc44 pc else none)
  else (bif Nat.beq j 45 then jc45 pc else none))
  else (bif Nat.blt j 47 then (bif Nat.beq j 46 then jc46 pc else none)
  else (bif Nat.beq j 47 then jc47 pc else none))))
theorem jcI_2_ok {j pc : Nat} {i : Instr} (h : jcI_2 j pc = some i) : pc < jsz j ∧ ∃ len, decode (jbt j) pc = .ok (i, len) ∧ (jlen i = 0 ∨ len = jlen i) := by
  unfold jcI_2 at h
  cases hc40 : Nat.blt j 40 with
  | true =>
    rw [hc40, cond_true] at h
    cases hc36 : Nat.blt j 36 with
    | true =>
      rw [hc36, cond_true] at h
      cases hc34 : Nat.blt j 34 with
      | true =>
        rw [hc34, cond_true] at h
        cases hc33 : Nat.blt j 33 with
        | true =>
          rw [hc33, cond_true] at h
          cases hb32 : Nat.beq j 32 with
          | true =>
            obtain rfl := Nat.eq_of_beq_eq_true hb32
            exact jleaf (f := jc32) jd32 (fun _ _ q => (jlim_some q).1) h
          | false => rw [hb32] at h; cases h
        | false =>
          rw [hc33, cond_false] at h
          cases hb33 : Nat.beq j 33 with
          | true =>
            obtain rfl := Nat.eq_of_beq_eq_true hb33
            exact jleaf (f := jc33) jd33 (fun _ _ q => (jlim_some q).1) h
          | false => rw [hb33] at h; cases h
      | false =>
        rw [hc34, cond_false] at h
        cases hc35 : Nat.blt j 35 with
        | true =>
          rw [hc35, cond_true] at h
          cases hb34 : Nat.beq j 34 with
          | true =>
            obtain rfl := Nat.eq_of_beq_eq_true hb34
            exact jleaf (f := jc34) jd34 (fun _ _ q => (jlim_some q).1) h
          | false => rw [hb34] at h; cases h
        | false =>
          rw [hc35, cond_false] at h
          cases hb35 : Nat.beq j 35 with
          | true =>
            obtain rfl := Nat.eq_of_beq_eq_true hb35
            exact jleaf (f := jc35) jd35 (fun _ _ q => (jlim_some q).1) h
          | false => rw [hb35] at h; cases h
    | false =>
      rw [hc36, cond_false] at h
      cases hc38 : Nat.blt j 38 with
      | true =>
        rw [hc38, cond_true] at h
        cases hc37 : Nat.blt j 37 with
        | true =>
          rw [hc37, cond_true] at h
          cases hb36 : Nat.beq j 36 with
          | true =>
            obtain rfl := Nat.eq_of_beq_eq_true hb36
            exact jleaf (f := jc36) jd36 (fun _ _ q => (jlim_some q).1) h
          | false => rw [hb36] at h; cases h
        | false =>
          rw [hc37, cond_false] at h
          cases hb37 : Nat.beq j 37 with
          | true =>
            obtain rfl := Nat.eq_of_beq_eq_true hb37
            exact jleaf (f := jc37) jd37 (fun _ _ q => (jlim_some q).1) h
          | false => rw [hb37] at h; cases h
      | false =>
        rw [hc38, cond_false] at h
        cases hc39 : Nat.blt j 39 with
        | true =>
          rw [hc39, cond_true] at h
          cases hb38 : Nat.beq j 38 with
          | true =>
            obtain rfl := Nat.eq_of_beq_eq_true hb38
            exact jleaf (f := jc38) jd38 (fun _ _ q => (jlim_some q).1) h
          | false => rw [hb38] at h; cases h
        | false =>
          rw [hc39, cond_false] at h
          cases hb39 : Nat.beq j 39 with
          | true =>
            obtain rfl := Nat.eq_of_beq_eq_true hb39
            exact jleaf (f := jc39) jd39 (fun _ _ q => (jlim_some q).1) h
          | false => rw [hb39] at h; cases h
  | false =>
    rw [hc40, cond_false] at h
    cases hc44 : Nat.blt j 44 with
    | true =>
      rw [hc44, cond_true] at h
      cases hc42 : Nat.blt j 42 with
      | true =>
        rw [hc42, cond_true] at h
        cases hc41 : Nat.blt j 41 with
        | true =>
          rw [hc41, cond_true] at h
          cases hb40 : Nat.beq j 40 with
          | true =>
            obtain rfl := Nat.eq_of_beq_eq_true hb40
            exact jleaf (f := jc40) jd40 (fun _ _ q => (jlim_some q).1) h
          | false => rw [hb40] at h; cases h
        | false =>
          rw [hc41, cond_false] at h
          cases hb41 : Nat.beq j 41 with
          | true =>
            obtain rfl := Nat.eq_of_beq_eq_true hb41
            exact jleaf (f := jc41) jd41 (fun _ _ q => (jlim_some q).1) h
          | false => rw [hb41] at h; cases h
      | false =>
        rw [hc42, cond_false] at h
        cases hc43 : Nat.blt j 43 with
        | true =>
          rw [hc43, cond_true] at h
          cases hb42 : Nat.beq j 42 with
          | true =>
            obtain rfl := Nat.eq_of_beq_eq_true hb42
            exact jleaf (f := jc42) jd42 (fun _ _ q => (jlim_some q).1) h
          | false => rw [hb42] at h; cases h
        | false =>
          rw [hc43, cond_false] at h
          cases hb43 : Nat.beq j 43 with
          | true =>
            obtain rfl := Nat.eq_of_beq_eq_true hb43
            exact jleaf (f := jc43) jd43 (fun _ _ q => (jlim_some q).1) h
          | false => rw [hb43] at h; cases h
    | false =>
      rw [hc44, cond_false] at h
      cases hc46 : Nat.blt j 46 with
      | true =>
        rw [hc46, cond_true] at h
        cases hc45 : Nat.blt j 45 with
        | true =>
          rw [hc45, cond_true] at h
          cases hb44 : Nat.beq j 44 with
          | true =>
            obtain rfl := Nat.eq_of_beq_eq_true hb44
            exact jleaf (f := jc44) jd44 (fun _ _ q => (jlim_some q).1) h
          | false => rw [hb44] at h; cases h
        | false =>
          rw [hc45, cond_false] at h
          cases hb45 : Nat.beq j 45 with
          | true =>
            obtain rfl := Nat.eq_of_beq_eq_true hb45
            exact jleaf (f := jc45) jd45 (fun _ _ q => (jlim_some q).1) h
          | false => rw [hb45] at h; cases h
      | false =>
        rw [hc46, cond_false] at h
        cases hc47 : Nat.blt j 47 with
        | true =>
          rw [hc47, cond_true] at h
          cases hb46 : Nat.beq j 46 with
          | true =>
            obtain rfl := Nat.eq_of_beq_eq_true hb46
            exact jleaf (f := jc46) jd46 (fun _ _ q => (jlim_some q).1) h
          | false => rw [hb46] at h; cases h
        | false =>
          rw [hc47, cond_false] at h
          cases hb47 : Nat.beq j 47 with
          | true =>
            obtain rfl := Nat.eq_of_beq_eq_true hb47
            exact jleaf (f := jc47) jd47 (fun _ _ q => (jlim_some q).1) h
          | false => rw [hb47] at h; cases h
def jcI_3 (j pc : Nat) : Option Instr := bif Nat.blt j 56 then (bif Nat.blt j 52 then (bif Nat.blt j 50 then (bif Nat.blt j 49 then (bif Nat.beq j 48 then jc48 pc else none)
  else (bif Nat.beq j 49 then jc49 pc else none))
  else (bif Nat.blt j 51 then (bif Nat.beq j 50 then jc50 pc else none)
  else (bif Nat.beq j 51 then jc51 pc else none)))
  else (bif Nat.blt j 54 then (bif Nat.blt j 53 then (bif Nat.beq j 52 then jc52 pc else none)
  else (bif Nat.beq j 53 then jc53 pc else none))
  else (bif Nat.blt j 55 then (bif Nat.beq j 54 then jc54 pc else none)
  else (bif Nat.beq j 55 then jc55 pc else none))))
else (bif Nat.blt j 60 then (bif Nat.blt j 58 then (bif Nat.blt j 57 then (bif Nat.beq j 56 then jc56 pc else none)
  else (bif Nat.beq j 57 then jc57 pc else none))
  else (bif Nat.blt j 59 then (bif Nat.beq j 58 then jc58 pc else none)
  else (bif Nat.beq j 59 then jc59 pc else none)))
  else (bif Nat.blt j 62 then (bif Nat.blt j 61 then (bif Nat.beq j 60 then jc60 pc else none)
  else (bif Nat.beq j 61 then jc61 pc else none))
  else (bif Nat.blt j 63 then (bif Nat.beq j 62 then jc62 pc else none)
  else (bif Nat.beq j 63 then jc63 pc else none))))
theorem jcI_3_ok {j pc : Nat} {i : Instr} (h : jcI_3 j pc = some i) : pc < jsz j ∧ ∃ len, decode (jbt j) pc = .ok (i, len) ∧ (jlen i = 0 ∨ len = jlen i) := by
  unfold jcI_3 at h
  cases hc56 : Nat.blt j 56 with
  | true =>
    rw [hc56, cond_true] at h
    cases hc52 : Nat.blt j 52 with
    | true =>
      rw [hc52, cond_true] at h
      cases hc50 : Nat.blt j 50 with
      | true =>
        rw [hc50, cond_true] at h
        cases hc49 : Nat.blt j 49 with
        | true =>
          rw [hc49, cond_true] at h
          cases hb48 : Nat.beq j 48 with
          | true =>
            obtain rfl := Nat.eq_of_beq_eq_true hb48
            exact jleaf (f := jc48) jd48 (fun _ _ q => (jlim_some q).1) h
          | false => rw [hb48] at h; cases h
        | false =>
          rw [hc49, cond_false] at h
          cases hb49 : Nat.beq j 49 with
          | true =>
            obtain rfl := Nat.eq_of_beq_eq_true hb49
            exact jleaf (f := jc49) jd49 (fun _ _ q => (jlim_some q).1) h
          | false => rw [hb49] at h; cases h
      | false =>
        rw [hc50, cond_false] at h
        cases hc51 : Nat.blt j 51 with
        | true =>
          rw [hc51, cond_true] at h
          cases hb50 : Nat.beq j 50 with
          | true =>
            obtain rfl := Nat.eq_of_beq_eq_true hb50
            exact jleaf (f := jc50) jd50 (fun _ _ q => (jlim_some q).1) h
          | false => rw [hb50] at h; cases h
        | false =>
          rw [hc51, cond_false] at h
          cases hb51 : Nat.beq j 51 with
          | true =>
            obtain rfl := Nat.eq_of_beq_eq_true hb51
            exact jleaf (f := jc51) jd51 (fun _ _ q => (jlim_some q).1) h
          | false => rw [hb51] at h; cases h
    | false =>
      rw [hc52, cond_false] at h
      cases hc54 : Nat.blt j 54 with
      | true =>
        rw [hc54, cond_true] at h
        cases hc53 : Nat.blt j 53 with
        | true =>
          rw [hc53, cond_true] at h
          cases hb52 : Nat.beq j 52 with
          | true =>
            obtain rfl := Nat.eq_of_beq_eq_true hb52
            exact jleaf (f := jc52) jd52 (fun _ _ q => (jlim_some q).1) h
          | false => rw [hb52] at h; cases h
        | false =>
          rw [hc53, cond_false] at h
          cases hb53 : Nat.beq j 53 with
          | true =>
            obtain rfl := Nat.eq_of_beq_eq_true hb53
            exact jleaf (f := jc53) jd53 (fun _ _ q => (jlim_some q).1) h
          | false => rw [hb53] at h; cases h
      | false =>
        rw [hc54, cond_false] at h
        cases hc55 : Nat.blt j 55 with
        | true =>
          rw [hc55, cond_true] at h
          cases hb54 : Nat.beq j 54 with
          | true =>
            obtain rfl := Nat.eq_of_beq_eq_true hb54
            exact jleaf (f := jc54) jd54 (fun _ _ q => (jlim_some q).1) h
          | false => rw [hb54] at h; cases h
        | false =>
          rw [hc55, cond_false] at h
          cases hb55 : Nat.beq j 55 with
          | true =>
            obtain rfl := Nat.eq_of_beq_eq_true hb55
            exact jleaf (f := jc55) jd55 (fun _ _ q => (jlim_some q).1) h
          | false => rw [hb55] at h; cases h
  | false =>
    rw [hc56, cond_false] at h
    cases hc60 : Nat.blt j 60 with
    | true =>
      rw [hc60, cond_true] at h
      cases hc58 : Nat.blt j 58 with
      | true =>
        rw [hc58, cond_true] at h
        cases hc57 : Nat.blt j 57 with
        | true =>
          rw [hc57, cond_true] at h
          cases hb56 : Nat.beq j 56 with
          | true =>
            obtain rfl := Nat.eq_of_beq_eq_true hb56
            exact jleaf (f := jc56) jd56 (fun _ _ q => (jlim_some q).1) h
          | false => rw [hb56] at h; cases h
        | false =>
          rw [hc57, cond_false] at h
          cases hb57 : Nat.beq j 57 with
          | true =>
            obtain rfl := Nat.eq_of_beq_eq_true hb57
            exact jleaf (f := jc57) jd57 (fun _ _ q => (jlim_some q).1) h
          | false => rw [hb57] at h; cases h
      | false =>
        rw [hc58, cond_false] at h
        cases hc59 : Nat.blt j 59 with
        | true =>
          rw [hc59, cond_true] at h
          cases hb58 : Nat.beq j 58 with
          | true =>
            obtain rfl := Nat.eq_of_beq_eq_true hb58
            exact jleaf (f := jc58) jd58 (fun _ _ q => (jlim_some q).1) h
          | false => rw [hb58] at h; cases h
        | false =>
          rw [hc59, cond_false] at h
          cases hb59 : Nat.beq j 59 with
          | true =>
            obtain rfl := Nat.eq_of_beq_eq_true hb59
            exact jleaf (f := jc59) jd59 (fun _ _ q => (jlim_some q).1) h
          | false => rw [hb59] at h; cases h
    | false =>
      rw [hc60, cond_false] at h
      cases hc62 : Nat.blt j 62 with
      | true =>
        rw [hc62, cond_true] at h
        cases hc61 : Nat.blt j 61 with
        | true =>
          rw [hc61, cond_true] at h
          cases hb60 : Nat.beq j 60 with
          | true =>
            obtain rfl := Nat.eq_of_beq_eq_true hb60
            exact jleaf (f := jc60) jd60 (fun _ _ q => (jlim_some q).1) h
          | false => rw [hb60] at h; cases h
        | false =>
          rw [hc61, cond_false] at h
          cases hb61 : Nat.beq j 61 with
          | true =>
            obtain rfl := Nat.eq_of_beq_eq_true hb61
            exact jleaf (f := jc61) jd61 (fun _ _ q => (jlim_some q).1) h
          | false => rw [hb61] at h; cases h
      | false =>
        rw [hc62, cond_false] at h
        cases hc63 : Nat.blt j 63 with
        | true =>
          rw [hc63, cond_true] at h
          cases hb62 : Nat.beq j 62 with
          | true =>
            obtain rfl := Nat.eq_of_beq_eq_true hb62
            exact jleaf (f := jc62) jd62 (fun _ _ q => (jlim_some q).1) h
          | false => rw [hb62] at h; cases h
        | false =>
          rw [hc63, cond_false] at h
          cases hb63 : Nat.beq j 63 with
          | true =>
            obtain rfl := Nat.eq_of_beq_eq_true hb63
            exact jleaf (f := jc63) jd63 (fun _ _ q => (jlim_some q).1) h
          | false => rw [hb63] at h; cases h
def jcI_4 (j pc : Nat) : Option Instr := bif Nat.blt j 72 then (bif Nat.blt j 68 then (bif Nat.blt j 66 then (bif Nat.blt j 65 then (bif Nat.beq j 64 then jc64 pc else none)
  else (bif Nat.beq j 65 then jc65 pc else none))
  else (bif Nat.blt j 67 then (bif Nat.beq j 66 then jc66 pc else none)
  else (bif Nat.beq j 67 then jc67 pc else none)))
  else (bif Nat.blt j 70 then (bif Nat.blt j 69 then (bif Nat.beq j 68 then jc68 pc else none)
  else (bif Nat.beq j 69 then jc69 pc else none))
  else (bif Nat.blt j 71 then (bif Nat.beq j 70 then jc70 pc else none)
  else (bif Nat.beq j 71 then jc71 pc else none))))
else (bif Nat.blt j 76 then (bif Nat.blt j 74 then (bif Nat.blt j 73 then (bif Nat.beq j 72 then jc72 pc else none)
  else (bif Nat.beq j 73 then jc73 pc else none))
  else (bif Nat.blt j 75 then (bif Nat.beq j 74 then jc74 pc else none)
  else (bif Nat.beq j 75 then jc75 pc else none)))
  else (bif Nat.blt j 78 then (bif Nat.blt j 77 then (bif Nat.beq j 76 then jc76 pc else none)
  else (bif Nat.beq j 77 then jc77 pc else none))
  else (bif Nat.blt j 79 then (bif Nat.beq j 78 then jc78 pc else none)
  else (bif Nat.beq j 79 then jc79 pc else none))))
theorem jcI_4_ok {j pc : Nat} {i : Instr} (h : jcI_4 j pc = some i) : pc < jsz j ∧ ∃ len, decode (jbt j) pc = .ok (i, len) ∧ (jlen i = 0 ∨ len = jlen i) := by
  unfold jcI_4 at h
  cases hc72 : Nat.blt j 72 with
  | true =>
    rw [hc72, cond_true] at h
    cases hc68 : Nat.blt j 68 with
    | true =>
      rw [hc68, cond_true] at h
      cases hc66 : Nat.blt j 66 with
      | true =>
        rw [hc66, cond_true] at h
        cases hc65 : Nat.blt j 65 with
        | true =>
          rw [hc65, cond_true] at h
          cases hb64 : Nat.beq j 64 with
          | true =>
            obtain rfl := Nat.eq_of_beq_eq_true hb64
            exact jleaf (f := jc64) jd64 (fun _ _ q => (jlim_some q).1) h
          | false => rw [hb64] at h; cases h
        | false =>
          rw [hc65, cond_false] at h
          cases hb65 : Nat.beq j 65 with
          | true =>
            obtain rfl := Nat.eq_of_beq_eq_true hb65
            exact jleaf (f := jc65) jd65 (fun _ _ q => (jlim_some q).1) h
          | false => rw [hb65] at h; cases h
      | false =>
        rw [hc66, cond_false] at h
        cases hc67 : Nat.blt j 67 with
        | true =>
          rw [hc67, cond_true] at h
          cases hb66 : Nat.beq j 66 with
          | true =>
            obtain rfl := Nat.eq_of_beq_eq_true hb66
            exact jleaf (f := jc66) jd66 (fun _ _ q => (jlim_some q).1) h
          | false => rw [hb66] at h; cases h
        | false =>
          rw [hc67, cond_false] at h
          cases hb67 : Nat.beq j 67 with
          | true =>
            obtain rfl := Nat.eq_of_beq_eq_true hb67
            exact jleaf (f := jc67) jd67 (fun _ _ q => (jlim_some q).1) h
          | false => rw [hb67] at h; cases h
    | false =>
      rw [hc68, cond_false] at h
      cases hc70 : Nat.blt j 70 with
      | true =>
        rw [hc70, cond_true] at h
        cases hc69 : Nat.blt j 69 with
        | true =>
          rw [hc69, cond_true] at h
          cases hb68 : Nat.beq j 68 with
          | true =>
            obtain rfl := Nat.eq_of_beq_eq_true hb68
            exact jleaf (f := jc68) jd68 (fun _ _ q => (jlim_some q).1) h
          | false => rw [hb68] at h; cases h
        | false =>
          rw [hc69, cond_false] at h
          cases hb69 : Nat.beq j 69 with
          | true =>
            obtain rfl := Nat.eq_of_beq_eq_true hb69
            exact jleaf (f := jc69) jd69 (fun _ _ q => (jlim_some q).1) h
          | false => rw [hb69] at h; cases h
      | false =>
        rw [hc70, cond_false] at h
        cases hc71 : Nat.blt j 71 with
        | true =>
          rw [hc71, cond_true] at h
          cases hb70 : Nat.beq j 70 with
          | true =>
            obtain rfl := Nat.eq_of_beq_eq_true hb70
            exact jleaf (f := jc70) jd70 (fun _ _ q => (jlim_some q).1) h
          | false => rw [hb70] at h; cases h
        | false =>
          rw [hc71, cond_false] at h
          cases hb71 : Nat.beq j 71 with
          | true =>
            obtain rfl := Nat.eq_of_beq_eq_true hb71
            exact jleaf (f := jc71) jd71 (fun _ _ q => (jlim_some q).1) h
          | false => rw [hb71] at h; cases h
  | false =>
    rw [hc72, cond_false] at h
    cases hc76 : Nat.blt j 76 with
    | true =>
      rw [hc76, cond_true] at h
      cases hc74 : Nat.blt j 74 with
      | true =>
        rw [hc74, cond_true] at h
        cases hc73 : Nat.blt j 73 with
        | true =>
          rw [hc73, cond_true] at h
          cases hb72 : Nat.beq j 72 with
          | true =>
            obtain rfl := Nat.eq_of_beq_eq_true hb72
            exact jleaf (f := jc72) jd72 (fun _ _ q => (jlim_some q).1) h
          | false => rw [hb72] at h; cases h
        | false =>
          rw [hc73, cond_false] at h
          cases hb73 : Nat.beq j 73 with
          | true =>
            obtain rfl := Nat.eq_of_beq_eq_true hb73
            exact jleaf (f := jc73) jd73 (fun _ _ q => (jlim_some q).1) h
          | false => rw [hb73] at h; cases h
      | false =>
        rw [hc74, cond_false] at h
        cases hc75 : Nat.blt j 75 with
        | true =>
          rw [hc75, cond_true] at h
          cases hb74 : Nat.beq j 74 with
          | true =>
            obtain rfl := Nat.eq_of_beq_eq_true hb74
            exact jleaf (f := jc74) jd74 (fun _ _ q => (jlim_some q).1) h
          | false => rw [hb74] at h; cases h
        | false =>
          rw [hc75, cond_false] at h
          cases hb75 : Nat.beq j 75 with
          | true =>
            obtain rfl := Nat.eq_of_beq_eq_true hb75
            exact jleaf (f := jc75) jd75 (fun _ _ q => (jlim_some q).1) h
          | false => rw [hb75] at h; cases h
    | false =>
      rw [hc76, cond_false] at h
      cases hc78 : Nat.blt j 78 with
      | true =>
        rw [hc78, cond_true] at h
        cases hc77 : Nat.blt j 77 with
        | true =>
          rw [hc77, cond_true] at h
          cases hb76 : Nat.beq j 76 with
          | true =>
            obtain rfl := Nat.eq_of_beq_eq_true hb76
            exact jleaf (f := jc76) jd76 (fun _ _ q => (jlim_some q).1) h
          | false => rw [hb76] at h; cases h
        | false =>
          rw [hc77, cond_false] at h
          cases hb77 : Nat.beq j 77 with
          | true =>
            obtain rfl := Nat.eq_of_beq_eq_true hb77
            exact jleaf (f := jc77) jd77 (fun _ _ q => (jlim_some q).1) h
          | false => rw [hb77] at h; cases h
      | false =>
        rw [hc78, cond_false] at h
        cases hc79 : Nat.blt j 79 with
        | true =>
          rw [hc79, cond_true] at h
          cases hb78 : Nat.beq j 78 with
          | true =>
            obtain rfl := Nat.eq_of_beq_eq_true hb78
            exact jleaf (f := jc78) jd78 (fun _ _ q => (jlim_some q).1) h
          | false => rw [hb78] at h; cases h
        | false =>
          rw [hc79, cond_false] at h
          cases hb79 : Nat.beq j 79 with
          | true =>
            obtain rfl := Nat.eq_of_beq_eq_true hb79
            exact jleaf (f := jc79) jd79 (fun _ _ q => (jlim_some q).1) h
          | false => rw [hb79] at h; cases h
def jcI_5 (j pc : Nat) : Option Instr := bif Nat.blt j 88 then (bif Nat.blt j 84 then (bif Nat.blt j 82 then (bif Nat.blt j 81 then (bif Nat.beq j 80 then jc80 pc else none)
  else (bif Nat.beq j 81 then jc81 pc else none))
  else (bif Nat.blt j 83 then (bif Nat.beq j 82 then jc82 pc else none)
  else (bif Nat.beq j 83 then jc83 pc else none)))
  else (bif Nat.blt j 86 then (bif Nat.blt j 85 then (bif Nat.beq j 84 then jc84 pc else none)
  else (bif Nat.beq j 85 then jc85 pc else none))
  else (bif Nat.blt j 87 then (bif Nat.beq j 86 then jc86 pc else none)
  else (bif Nat.beq j 87 then jc87 pc else none))))
else (bif Nat.blt j 92 then (bif Nat.blt j 90 then (bif Nat.blt j 89 then (bif Nat.beq j 88 then jc88 pc else none)
  else (bif Nat.beq j 89 then jc89 pc else none))
  else (bif Nat.blt j 91 then (bif Nat.beq j 90 then jc90 pc else none)
  else (bif Nat.beq j 91 then jc91 pc else none)))
  else (bif Nat.blt j 94 then (bif Nat.blt j 93 then (bif Nat.beq j 92 then jc92 pc else none)
  else (bif Nat.beq j 93 then jc93 pc else none))
  else (bif Nat.blt j 95 then (bif Nat.beq j 94 then jc94 pc else none)
  else (bif Nat.beq j 95 then jc95 pc else none))))
theorem jcI_5_ok {j pc : Nat} {i : Instr} (h : jcI_5 j pc = some i) : pc < jsz j ∧ ∃ len, decode (jbt j) pc = .ok (i, len) ∧ (jlen i = 0 ∨ len = jlen i) := by
  unfold jcI_5 at h
  cases hc88 : Nat.blt j 88 with
  | true =>
    rw [hc88, cond_true] at h
    cases hc84 : Nat.blt j 84 with
    | true =>
      rw [hc84, cond_true] at h
      cases hc82 : Nat.blt j 82 with
      | true =>
        rw [hc82, cond_true] at h
        cases hc81 : Nat.blt j 81 with
        | true =>
          rw [hc81, cond_true] at h
          cases hb80 : Nat.beq j 80 with
          | true =>
            obtain rfl := Nat.eq_of_beq_eq_true hb80
            exact jleaf (f := jc80) jd80 (fun _ _ q => (jlim_some q).1) h
          | false => rw [hb80] at h; cases h
        | false =>
          rw [hc81, cond_false] at h
          cases hb81 : Nat.beq j 81 with
          | true =>
            obtain rfl := Nat.eq_of_beq_eq_true hb81
            exact jleaf (f := jc81) jd81 (fun _ _ q => (jlim_some q).1) h
          | false => rw [hb81] at h; cases h
      | false =>
        rw [hc82, cond_false] at h
        cases hc83 : Nat.blt j 83 with
        | true =>
          rw [hc83, cond_true] at h
          cases hb82 : Nat.beq j 82 with
          | true =>
            obtain rfl := Nat.eq_of_beq_eq_true hb82
            exact jleaf (f := jc82) jd82 (fun _ _ q => (jlim_some q).1) h
          | false => rw [hb82] at h; cases h
        | false =>
          rw [hc83, cond_false] at h
          cases hb83 : Nat.beq j 83 with
          | true =>
            obtain rfl := Nat.eq_of_beq_eq_true hb83
            exact jleaf (f := jc83) jd83 (fun _ _ q => (jlim_some q).1) h
          | false => rw [hb83] at h; cases h
    | false =>
      rw [hc84, cond_false] at h
      cases hc86 : Nat.blt j 86 with
      | true =>
        rw [hc86, cond_true] at h
        cases hc85 : Nat.blt j 85 with
        | true =>
          rw [hc85, cond_true] at h
          cases hb84 : Nat.beq j 84 with
          | true =>
            obtain rfl := Nat.eq_of_beq_eq_true hb84
            exact jleaf (f := jc84) jd84 (fun _ _ q => (jlim_some q).1) h
          | false => rw [hb84] at h; cases h
        | false =>
          rw [hc85, cond_false] at h
          cases hb85 : Nat.beq j 85 with
          | true =>
            obtain rfl := Nat.eq_of_beq_eq_true hb85
            exact jleaf (f := jc85) jd85 (fun _ _ q => (jlim_some q).1) h
          | false => rw [hb85] at h; cases h
      | false =>
        rw [hc86, cond_false] at h
        cases hc87 : Nat.blt j 87 with
        | true =>
          rw [hc87, cond_true] at h
          cases hb86 : Nat.beq j 86 with
          | true =>
            obtain rfl := Nat.eq_of_beq_eq_true hb86
            exact jleaf (f := jc86) jd86 (fun _ _ q => (jlim_some q).1) h
          | false => rw [hb86] at h; cases h
        | false =>
          rw [hc87, cond_false] at h
          cases hb87 : Nat.beq j 87 with
          | true =>
            obtain rfl := Nat.eq_of_beq_eq_true hb87
            exact jleaf (f := jc87) jd87 (fun _ _ q => (jlim_some q).1) h
          | false => rw [hb87] at h; cases h
  | false =>
    rw [hc88, cond_false] at h
    cases hc92 : Nat.blt j 92 with
    | true =>
      rw [hc92, cond_true] at h
      cases hc90 : Nat.blt j 90 with
      | true =>
        rw [hc90, cond_true] at h
        cases hc89 : Nat.blt j 89 with
        | true =>
          rw [hc89, cond_true] at h
          cases hb88 : Nat.beq j 88 with
          | true =>
            obtain rfl := Nat.eq_of_beq_eq_true hb88
            exact jleaf (f := jc88) jd88 (fun _ _ q => (jlim_some q).1) h
          | false => rw [hb88] at h; cases h
        | false =>
          rw [hc89, cond_false] at h
          cases hb89 : Nat.beq j 89 with
          | true =>
            obtain rfl := Nat.eq_of_beq_eq_true hb89
            exact jleaf (f := jc89) jd89 (fun _ _ q => (jlim_some q).1) h
          | false => rw [hb89] at h; cases h
      | false =>
        rw [hc90, cond_false] at h
        cases hc91 : Nat.blt j 91 with
        | true =>
          rw [hc91, cond_true] at h
          cases hb90 : Nat.beq j 90 with
          | true =>
            obtain rfl := Nat.eq_of_beq_eq_true hb90
            exact jleaf (f := jc90) jd90 (fun _ _ q => (jlim_some q).1) h
          | false => rw [hb90] at h; cases h
        | false =>
          rw [hc91, cond_false] at h
          cases hb91 : Nat.beq j 91 with
          | true =>
            obtain rfl := Nat.eq_of_beq_eq_true hb91
            exact jleaf (f := jc91) jd91 (fun _ _ q => (jlim_some q).1) h
          | false => rw [hb91] at h; cases h
    | false =>
      rw [hc92, cond_false] at h
      cases hc94 : Nat.blt j 94 with
      | true =>
        rw [hc94, cond_true] at h
        cases hc93 : Nat.blt j 93 with
        | true =>
          rw [hc93, cond_true] at h
          cases hb92 : Nat.beq j 92 with
          | true =>
            obtain rfl := Nat.eq_of_beq_eq_true hb92
            exact jleaf (f := jc92) jd92 (fun _ _ q => (jlim_some q).1) h
          | false => rw [hb92] at h; cases h
        | false =>
          rw [hc93, cond_false] at h
          cases hb93 : Nat.beq j 93 with
          | true =>
            obtain rfl := Nat.eq_of_beq_eq_true hb93
            exact jleaf (f := jc93) jd93 (fun _ _ q => (jlim_some q).1) h
          | false => rw [hb93] at h; cases h
      | false =>
        rw [hc94, cond_false] at h
        cases hc95 : Nat.blt j 95 with
        | true =>
          rw [hc95, cond_true] at h
          cases hb94 : Nat.beq j 94 with
          | true =>
            obtain rfl := Nat.eq_of_beq_eq_true hb94
            exact jleaf (f := jc94) jd94 (fun _ _ q => (jlim_some q).1) h
          | false => rw [hb94] at h; cases h
        | false =>
          rw [hc95, cond_false] at h
          cases hb95 : Nat.beq j 95 with
          | true =>
            obtain rfl := Nat.eq_of_beq_eq_true hb95
            exact jleaf (f := jc95) jd95 (fun _ _ q => (jlim_some q).1) h
          | false => rw [hb95] at h; cases h
def jcI_6 (j pc : Nat) : Option Instr := bif Nat.blt j 104 then (bif Nat.blt j 100 then (bif Nat.blt j 98 then (bif Nat.blt j 97 then (bif Nat.beq j 96 then jc96 pc else none)
  else (bif Nat.beq j 97 then jc97 pc else none))
  else (bif Nat.blt j 99 then (bif Nat.beq j 98 then jc98 pc else none)
  else (bif Nat.beq j 99 then jc99 pc else none)))
  else (bif Nat.blt j 102 then (bif Nat.blt j 101 then (bif Nat.beq j 100 then jc100 pc else none)
  else (bif Nat.beq j 101 then jc101 pc else none))
  else (bif Nat.blt j 103 then (bif Nat.beq j 102 then jc102 pc else none)
  else (bif Nat.beq j 103 then jc103 pc else none))))
else (bif Nat.blt j 108 then (bif Nat.blt j 106 then (bif Nat.blt j 105 then (bif Nat.beq j 104 then jc104 pc else none)
  else (bif Nat.beq j 105 then jc105 pc else none))
  else (bif Nat.blt j 107 then (bif Nat.beq j 106 then jc106 pc else none)
  else (bif Nat.beq j 107 then jc107 pc else none)))
  else (bif Nat.blt j 110 then (bif Nat.blt j 109 then (bif Nat.beq j 108 then jc108 pc else none)
  else (bif Nat.beq j 109 then jc109 pc else none))
  else (bif Nat.blt j 111 then (bif Nat.beq j 110 then jc110 pc else none)
  else (bif Nat.beq j 111 then jc111 pc else none))))
theorem jcI_6_ok {j pc : Nat} {i : Instr} (h : jcI_6 j pc = some i) : pc < jsz j ∧ ∃ len, decode (jbt j) pc = .ok (i, len) ∧ (jlen i = 0 ∨ len = jlen i) := by
  unfold jcI_6 at h
  cases hc104 : Nat.blt j 104 with
  | true =>
    rw [hc104, cond_true] at h
    cases hc100 : Nat.blt j 100 with
    | true =>
      rw [hc100, cond_true] at h
      cases hc98 : Nat.blt j 98 with
      | true =>
        rw [hc98, cond_true] at h
        cases hc97 : Nat.blt j 97 with
        | true =>
          rw [hc97, cond_true] at h
          cases hb96 : Nat.beq j 96 with
          | true =>
            obtain rfl := Nat.eq_of_beq_eq_true hb96
            exact jleaf (f := jc96) jd96 (fun _ _ q => (jlim_some q).1) h
          | false => rw [hb96] at h; cases h
        | false =>
          rw [hc97, cond_false] at h
          cases hb97 : Nat.beq j 97 with
          | true =>
            obtain rfl := Nat.eq_of_beq_eq_true hb97
            exact jleaf (f := jc97) jd97 (fun _ _ q => (jlim_some q).1) h
          | false => rw [hb97] at h; cases h
      | false =>
        rw [hc98, cond_false] at h
        cases hc99 : Nat.blt j 99 with
        | true =>
          rw [hc99, cond_true] at h
          cases hb98 : Nat.beq j 98 with
          | true =>
            obtain rfl := Nat.eq_of_beq_eq_true hb98
            exact jleaf (f := jc98) jd98 (fun _ _ q => (jlim_some q).1) h
          | false => rw [hb98] at h; cases h
        | false =>
          rw [hc99, cond_false] at h
          cases hb99 : Nat.beq j 99 with
          | true =>
            obtain rfl := Nat.eq_of_beq_eq_true hb99
            exact jleaf (f := jc99) jd99 (fun _ _ q => (jlim_some q).1) h
          | false => rw [hb99] at h; cases h
    | false =>
      rw [hc100, cond_false] at h
      cases hc102 : Nat.blt j 102 with
      | true =>
        rw [hc102, cond_true] at h
        cases hc101 : Nat.blt j 101 with
        | true =>
          rw [hc101, cond_true] at h
          cases hb100 : Nat.beq j 100 with
          | true =>
            obtain rfl := Nat.eq_of_beq_eq_true hb100
            exact jleaf (f := jc100) jd100 (fun _ _ q => (jlim_some q).1) h
          | false => rw [hb100] at h; cases h
        | false =>
          rw [hc101, cond_false] at h
          cases hb101 : Nat.beq j 101 with
          | true =>
            obtain rfl := Nat.eq_of_beq_eq_true hb101
            exact jleaf (f := jc101) jd101 (fun _ _ q => (jlim_some q).1) h
          | false => rw [hb101] at h; cases h
      | false =>
        rw [hc102, cond_false] at h
        cases hc103 : Nat.blt j 103 with
        | true =>
          rw [hc103, cond_true] at h
          cases hb102 : Nat.beq j 102 with
          | true =>
            obtain rfl := Nat.eq_of_beq_eq_true hb102
            exact jleaf (f := jc102) jd102 (fun _ _ q => (jlim_some q).1) h
          | false => rw [hb102] at h; cases h
        | false =>
          rw [hc103, cond_false] at h
          cases hb103 : Nat.beq j 103 with
          | true =>
            obtain rfl := Nat.eq_of_beq_eq_true hb103
            exact jleaf (f := jc103) jd103 (fun _ _ q => (jlim_some q).1) h
          | false => rw [hb103] at h; cases h
  | false =>
    rw [hc104, cond_false] at h
    cases hc108 : Nat.blt j 108 with
    | true =>
      rw [hc108, cond_true] at h
      cases hc106 : Nat.blt j 106 with
      | true =>
        rw [hc106, cond_true] at h
        cases hc105 : Nat.blt j 105 with
        | true =>
          rw [hc105, cond_true] at h
          cases hb104 : Nat.beq j 104 with
          | true =>
            obtain rfl := Nat.eq_of_beq_eq_true hb104
            exact jleaf (f := jc104) jd104 (fun _ _ q => (jlim_some q).1) h
          | false => rw [hb104] at h; cases h
        | false =>
          rw [hc105, cond_false] at h
          cases hb105 : Nat.beq j 105 with
          | true =>
            obtain rfl := Nat.eq_of_beq_eq_true hb105
            exact jleaf (f := jc105) jd105 (fun _ _ q => (jlim_some q).1) h
          | false => rw [hb105] at h; cases h
      | false =>
        rw [hc106, cond_false] at h
        cases hc107 : Nat.blt j 107 with
        | true =>
          rw [hc107, cond_true] at h
          cases hb106 : Nat.beq j 106 with
          | true =>
            obtain rfl := Nat.eq_of_beq_eq_true hb106
            exact jleaf (f := jc106) jd106 (fun _ _ q => (jlim_some q).1) h
          | false => rw [hb106] at h; cases h
        | false =>
          rw [hc107, cond_false] at h
          cases hb107 : Nat.beq j 107 with
          | true =>
            obtain rfl := Nat.eq_of_beq_eq_true hb107
            exact jleaf (f := jc107) jd107 (fun _ _ q => (jlim_some q).1) h
          | false => rw [hb107] at h; cases h
    | false =>
      rw [hc108, cond_false] at h
      cases hc110 : Nat.blt j 110 with
      | true =>
        rw [hc110, cond_true] at h
        cases hc109 : Nat.blt j 109 with
        | true =>
          rw [hc109, cond_true] at h
          cases hb108 : Nat.beq j 108 with
          | true =>
            obtain rfl := Nat.eq_of_beq_eq_true hb108
            exact jleaf (f := jc108) jd108 (fun _ _ q => (jlim_some q).1) h
          | false => rw [hb108] at h; cases h
        | false =>
          rw [hc109, cond_false] at h
          cases hb109 : Nat.beq j 109 with
          | true =>
            obtain rfl := Nat.eq_of_beq_eq_true hb109
            exact jleaf (f := jc109) jd109 (fun _ _ q => (jlim_some q).1) h
          | false => rw [hb109] at h; cases h
      | false =>
        rw [hc110, cond_false] at h
        cases hc111 : Nat.blt j 111 with
        | true =>
          rw [hc111, cond_true] at h
          cases hb110 : Nat.beq j 110 with
          | true =>
            obtain rfl := Nat.eq_of_beq_eq_true hb110
            exact jleaf (f := jc110) jd110 (fun _ _ q => (jlim_some q).1) h
          | false => rw [hb110] at h; cases h
        | false =>
          rw [hc111, cond_false] at h
          cases hb111 : Nat.beq j 111 with
          | true =>
            obtain rfl := Nat.eq_of_beq_eq_true hb111
            exact jleaf (f := jc111) jd111 (fun _ _ q => (jlim_some q).1) h
          | false => rw [hb111] at h; cases h
def jcI_7 (j pc : Nat) : Option Instr := bif Nat.blt j 120 then (bif Nat.blt j 116 then (bif Nat.blt j 114 then (bif Nat.blt j 113 then (bif Nat.beq j 112 then jc112 pc else none)
  else (bif Nat.beq j 113 then jc113 pc else none))
  else (bif Nat.blt j 115 then (bif Nat.beq j 114 then jc114 pc else none)
  else (bif Nat.beq j 115 then jc115 pc else none)))
  else (bif Nat.blt j 118 then (bif Nat.blt j 117 then (bif Nat.beq j 116 then jc116 pc else none)
  else (bif Nat.beq j 117 then jc117 pc else none))
  else (bif Nat.blt j 119 then (bif Nat.beq j 118 then jc118 pc else none)
  else (bif Nat.beq j 119 then jc119 pc else none))))
else (bif Nat.blt j 124 then (bif Nat.blt j 122 then (bif Nat.blt j 121 then (bif Nat.beq j 120 then jc120 pc else none)
  else (bif Nat.beq j 121 then jc121 pc else none))
  else (bif Nat.blt j 123 then (bif Nat.beq j 122 then jc122 pc else none)
  else (bif Nat.beq j 123 then jc123 pc else none)))
  else (bif Nat.blt j 126 then (bif Nat.blt j 125 then (bif Nat.beq j 124 then jc124 pc else none)
  else (bif Nat.beq j 125 then jc125 pc else none))
  else (bif Nat.blt j 127 then (bif Nat.beq j 126 then jc126 pc else none)
  else (bif Nat.beq j 127 then jc127 pc else none))))
theorem jcI_7_ok {j pc : Nat} {i : Instr} (h : jcI_7 j pc = some i) : pc < jsz j ∧ ∃ len, decode (jbt j) pc = .ok (i, len) ∧ (jlen i = 0 ∨ len = jlen i) := by
  unfold jcI_7 at h
  cases hc120 : Nat.blt j 120 with
  | true =>
    rw [hc120, cond_true] at h
    cases hc116 : Nat.blt j 116 with
    | true =>
      rw [hc116, cond_true] at h
      cases hc114 : Nat.blt j 114 with
      | true =>
        rw [hc114, cond_true] at h
        cases hc113 : Nat.blt j 113 with
        | true =>
          rw [hc113, cond_true] at h
          cases hb112 : Nat.beq j 112 with
          | true =>
            obtain rfl := Nat.eq_of_beq_eq_true hb112
            exact jleaf (f := jc112) jd112 (fun _ _ q => (jlim_some q).1) h
          | false => rw [hb112] at h; cases h
        | false =>
          rw [hc113, cond_false] at h
          cases hb113 : Nat.beq j 113 with
          | true =>
            obtain rfl := Nat.eq_of_beq_eq_true hb113
            exact jleaf (f := jc113) jd113 (fun _ _ q => (jlim_some q).1) h
          | false => rw [hb113] at h; cases h
      | false =>
        rw [hc114, cond_false] at h
        cases hc115 : Nat.blt j 115 with
        | true =>
          rw [hc115, cond_true] at h
          cases hb114 : Nat.beq j 114 with
          | true =>
            obtain rfl := Nat.eq_of_beq_eq_true hb114
            exact jleaf (f := jc114) jd114 (fun _ _ q => (jlim_some q).1) h
          | false => rw [hb114] at h; cases h
        | false =>
          rw [hc115, cond_false] at h
          cases hb115 : Nat.beq j 115 with
          | true =>
            obtain rfl := Nat.eq_of_beq_eq_true hb115
            exact jleaf (f := jc115) jd115 (fun _ _ q => (jlim_some q).1) h
          | false => rw [hb115] at h; cases h
    | false =>
      rw [hc116, cond_false] at h
      cases hc118 : Nat.blt j 118 with
      | true =>
        rw [hc118, cond_true] at h
        cases hc117 : Nat.blt j 117 with
        | true =>
          rw [hc117, cond_true] at h
          cases hb116 : Nat.beq j 116 with
          | true =>
            obtain rfl := Nat.eq_of_beq_eq_true hb116
            exact jleaf (f := jc116) jd116 (fun _ _ q => (jlim_some q).1) h
          | false => rw [hb116] at h; cases h
        | false =>
          rw [hc117, cond_false] at h
          cases hb117 : Nat.beq j 117 with
          | true =>
            obtain rfl := Nat.eq_of_beq_eq_true hb117
            exact jleaf (f := jc117) jd117 (fun _ _ q => (jlim_some q).1) h
          | false => rw [hb117] at h; cases h
      | false =>
        rw [hc118, cond_false] at h
        cases hc119 : Nat.blt j 119 with
        | true =>
          rw [hc119, cond_true] at h
          cases hb118 : Nat.beq j 118 with
          | true =>
            obtain rfl := Nat.eq_of_beq_eq_true hb118
            exact jleaf (f := jc118) jd118 (fun _ _ q => (jlim_some q).1) h
          | false => rw [hb118] at h; cases h
        | false =>
          rw [hc119, cond_false] at h
          cases hb119 : Nat.beq j 119 with
          | true =>
            obtain rfl := Nat.eq_of_beq_eq_true hb119
            exact jleaf (f := jc119) jd119 (fun _ _ q => (jlim_some q).1) h
          | false => rw [hb119] at h; cases h
  | false =>
    rw [hc120, cond_false] at h
    cases hc124 : Nat.blt j 124 with
    | true =>
      rw [hc124, cond_true] at h
      cases hc122 : Nat.blt j 122 with
      | true =>
        rw [hc122, cond_true] at h
        cases hc121 : Nat.blt j 121 with
        | true =>
          rw [hc121, cond_true] at h
          cases hb120 : Nat.beq j 120 with
          | true =>
            obtain rfl := Nat.eq_of_beq_eq_true hb120
            exact jleaf (f := jc120) jd120 (fun _ _ q => (jlim_some q).1) h
          | false => rw [hb120] at h; cases h
        | false =>
          rw [hc121, cond_false] at h
          cases hb121 : Nat.beq j 121 with
          | true =>
            obtain rfl := Nat.eq_of_beq_eq_true hb121
            exact jleaf (f := jc121) jd121 (fun _ _ q => (jlim_some q).1) h
          | false => rw [hb121] at h; cases h
      | false =>
        rw [hc122, cond_false] at h
        cases hc123 : Nat.blt j 123 with
        | true =>
          rw [hc123, cond_true] at h
          cases hb122 : Nat.beq j 122 with
          | true =>
            obtain rfl := Nat.eq_of_beq_eq_true hb122
            exact jleaf (f := jc122) jd122 (fun _ _ q => (jlim_some q).1) h
          | false => rw [hb122] at h; cases h
        | false =>
          rw [hc123, cond_false] at h
          cases hb123 : Nat.beq j 123 with
          | true =>
            obtain rfl := Nat.eq_of_beq_eq_true hb123
            exact jleaf (f := jc123) jd123 (fun _ _ q => (jlim_some q).1) h
          | false => rw [hb123] at h; cases h
    | false =>
      rw [hc124, cond_false] at h
      cases hc126 : Nat.blt j 126 with
      | true =>
        rw [hc126, cond_true] at h
        cases hc125 : Nat.blt j 125 with
        | true =>
          rw [hc125, cond_true] at h
          cases hb124 : Nat.beq j 124 with
          | true =>
            obtain rfl := Nat.eq_of_beq_eq_true hb124
            exact jleaf (f := jc124) jd124 (fun _ _ q => (jlim_some q).1) h
          | false => rw [hb124] at h; cases h
        | false =>
          rw [hc125, cond_false] at h
          cases hb125 : Nat.beq j 125 with
          | true =>
            obtain rfl := Nat.eq_of_beq_eq_true hb125
            exact jleaf (f := jc125) jd125 (fun _ _ q => (jlim_some q).1) h
          | false => rw [hb125] at h; cases h
      | false =>
        rw [hc126, cond_false] at h
        cases hc127 : Nat.blt j 127 with
        | true =>
          rw [hc127, cond_true] at h
          cases hb126 : Nat.beq j 126 with
          | true =>
            obtain rfl := Nat.eq_of_beq_eq_true hb126
            exact jleaf (f := jc126) jd126 (fun _ _ q => (jlim_some q).1) h
          | false => rw [hb126] at h; cases h
        | false =>
          rw [hc127, cond_false] at h
          cases hb127 : Nat.beq j 127 with
          | true =>
            obtain rfl := Nat.eq_of_beq_eq_true hb127
            exact jleaf (f := jc127) jd127 (fun _ _ q => (jlim_some q).1) h
          | false => rw [hb127] at h; cases h
def jcI_8 (j pc : Nat) : Option Instr := bif Nat.blt j 136 then (bif Nat.blt j 132 then (bif Nat.blt j 130 then (bif Nat.blt j 129 then (bif Nat.beq j 128 then jc128 pc else none)
  else (bif Nat.beq j 129 then jc129 pc else none))
  else (bif Nat.blt j 131 then (bif Nat.beq j 130 then jc130 pc else none)
  else (bif Nat.beq j 131 then jc131 pc else none)))
  else (bif Nat.blt j 134 then (bif Nat.blt j 133 then (bif Nat.beq j 132 then jc132 pc else none)
  else (bif Nat.beq j 133 then jc133 pc else none))
  else (bif Nat.blt j 135 then (bif Nat.beq j 134 then jc134 pc else none)
  else (bif Nat.beq j 135 then jc135 pc else none))))
else (bif Nat.blt j 140 then (bif Nat.blt j 138 then (bif Nat.blt j 137 then (bif Nat.beq j 136 then jc136 pc else none)
  else (bif Nat.beq j 137 then jc137 pc else none))
  else (bif Nat.blt j 139 then (bif Nat.beq j 138 then jc138 pc else none)
  else (bif Nat.beq j 139 then jc139 pc else none)))
  else (bif Nat.blt j 142 then (bif Nat.blt j 141 then (bif Nat.beq j 140 then jc140 pc else none)
  else (bif Nat.beq j 141 then jc141 pc else none))
  else (bif Nat.blt j 143 then (bif Nat.beq j 142 then jc142 pc else none)
  else (bif Nat.beq j 143 then jc143 pc else none))))
theorem jcI_8_ok {j pc : Nat} {i : Instr} (h : jcI_8 j pc = some i) : pc < jsz j ∧ ∃ len, decode (jbt j) pc = .ok (i, len) ∧ (jlen i = 0 ∨ len = jlen i) := by
  unfold jcI_8 at h
  cases hc136 : Nat.blt j 136 with
  | true =>
    rw [hc136, cond_true] at h
    cases hc132 : Nat.blt j 132 with
    | true =>
      rw [hc132, cond_true] at h
      cases hc130 : Nat.blt j 130 with
      | true =>
        rw [hc130, cond_true] at h
        cases hc129 : Nat.blt j 129 with
        | true =>
          rw [hc129, cond_true] at h
          cases hb128 : Nat.beq j 128 with
          | true =>
            obtain rfl := Nat.eq_of_beq_eq_true hb128
            exact jleaf (f := jc128) jd128 (fun _ _ q => (jlim_some q).1) h
          | false => rw [hb128] at h; cases h
        | false =>
          rw [hc129, cond_false] at h
          cases hb129 : Nat.beq j 129 with
          | true =>
            obtain rfl := Nat.eq_of_beq_eq_true hb129
            exact jleaf (f := jc129) jd129 (fun _ _ q => (jlim_some q).1) h
          | false => rw [hb129] at h; cases h
      | false =>
        rw [hc130, cond_false] at h
        cases hc131 : Nat.blt j 131 with
        | true =>
          rw [hc131, cond_true] at h
          cases hb130 : Nat.beq j 130 with
          | true =>
            obtain rfl := Nat.eq_of_beq_eq_true hb130
            exact jleaf (f := jc130) jd130 (fun _ _ q => (jlim_some q).1) h
          | false => rw [hb130] at h; cases h
        | false =>
          rw [hc131, cond_false] at h
          cases hb131 : Nat.beq j 131 with
          | true =>
            obtain rfl := Nat.eq_of_beq_eq_true hb131
            exact jleaf (f := jc131) jd131 (fun _ _ q => (jlim_some q).1) h
          | false => rw [hb131] at h; cases h
    | false =>
      rw [hc132, cond_false] at h
      cases hc134 : Nat.blt j 134 with
      | true =>
        rw [hc134, cond_true] at h
        cases hc133 : Nat.blt j 133 with
        | true =>
          rw [hc133, cond_true] at h
          cases hb132 : Nat.beq j 132 with
          | true =>
            obtain rfl := Nat.eq_of_beq_eq_true hb132
            exact jleaf (f := jc132) jd132 (fun _ _ q => (jlim_some q).1) h
          | false => rw [hb132] at h; cases h
        | false =>
          rw [hc133, cond_false] at h
          cases hb133 : Nat.beq j 133 with
          | true =>
            obtain rfl := Nat.eq_of_beq_eq_true hb133
            exact jleaf (f := jc133) jd133 (fun _ _ q => (jlim_some q).1) h
          | false => rw [hb133] at h; cases h
      | false =>
        rw [hc134, cond_false] at h
        cases hc135 : Nat.blt j 135 with
        | true =>
          rw [hc135, cond_true] at h
          cases hb134 : Nat.beq j 134 with
          | true =>
            obtain rfl := Nat.eq_of_beq_eq_true hb134
            exact jleaf (f := jc134) jd134 (fun _ _ q => (jlim_some q).1) h
          | false => rw [hb134] at h; cases h
        | false =>
          rw [hc135, cond_false] at h
          cases hb135 : Nat.beq j 135 with
          | true =>
            obtain rfl := Nat.eq_of_beq_eq_true hb135
            exact jleaf (f := jc135) jd135 (fun _ _ q => (jlim_some q).1) h
          | false => rw [hb135] at h; cases h
  | false =>
    rw [hc136, cond_false] at h
    cases hc140 : Nat.blt j 140 with
    | true =>
      rw [hc140, cond_true] at h
      cases hc138 : Nat.blt j 138 with
      | true =>
        rw [hc138, cond_true] at h
        cases hc137 : Nat.blt j 137 with
        | true =>
          rw [hc137, cond_true] at h
          cases hb136 : Nat.beq j 136 with
          | true =>
            obtain rfl := Nat.eq_of_beq_eq_true hb136
            exact jleaf (f := jc136) jd136 (fun _ _ q => (jlim_some q).1) h
          | false => rw [hb136] at h; cases h
        | false =>
          rw [hc137, cond_false] at h
          cases hb137 : Nat.beq j 137 with
          | true =>
            obtain rfl := Nat.eq_of_beq_eq_true hb137
            exact jleaf (f := jc137) jd137 (fun _ _ q => (jlim_some q).1) h
          | false => rw [hb137] at h; cases h
      | false =>
        rw [hc138, cond_false] at h
        cases hc139 : Nat.blt j 139 with
        | true =>
          rw [hc139, cond_true] at h
          cases hb138 : Nat.beq j 138 with
          | true =>
            obtain rfl := Nat.eq_of_beq_eq_true hb138
            exact jleaf (f := jc138) jd138 (fun _ _ q => (jlim_some q).1) h
          | false => rw [hb138] at h; cases h
        | false =>
          rw [hc139, cond_false] at h
          cases hb139 : Nat.beq j 139 with
          | true =>
            obtain rfl := Nat.eq_of_beq_eq_true hb139
            exact jleaf (f := jc139) jd139 (fun _ _ q => (jlim_some q).1) h
          | false => rw [hb139] at h; cases h
    | false =>
      rw [hc140, cond_false] at h
      cases hc142 : Nat.blt j 142 with
      | true =>
        rw [hc142, cond_true] at h
        cases hc141 : Nat.blt j 141 with
        | true =>
          rw [hc141, cond_true] at h
          cases hb140 : Nat.beq j 140 with
          | true =>
            obtain rfl := Nat.eq_of_beq_eq_true hb140
            exact jleaf (f := jc140) jd140 (fun _ _ q => (jlim_some q).1) h
          | false => rw [hb140] at h; cases h
        | false =>
          rw [hc141, cond_false] at h
          cases hb141 : Nat.beq j 141 with
          | true =>
            obtain rfl := Nat.eq_of_beq_eq_true hb141
            exact jleaf (f := jc141) jd141 (fun _ _ q => (jlim_some q).1) h
          | false => rw [hb141] at h; cases h
      | false =>
        rw [hc142, cond_false] at h
        cases hc143 : Nat.blt j 143 with
        | true =>
          rw [hc143, cond_true] at h
          cases hb142 : Nat.beq j 142 with
          | true =>
            obtain rfl := Nat.eq_of_beq_eq_true hb142
            exact jleaf (f := jc142) jd142 (fun _ _ q => (jlim_some q).1) h
          | false => rw [hb142] at h; cases h
        | false =>
          rw [hc143, cond_false] at h
          cases hb143 : Nat.beq j 143 with
          | true =>
            obtain rfl := Nat.eq_of_beq_eq_true hb143
            exact jleaf (f := jc143) jd143 (fun _ _ q => (jlim_some q).1) h
          | false => rw [hb143] at h; cases h
def jcI_9 (j pc : Nat) : Option Instr := bif Nat.blt j 152 then (bif Nat.blt j 148 then (bif Nat.blt j 146 then (bif Nat.blt j 145 then (bif Nat.beq j 144 then jc144 pc else none)
  else (bif Nat.beq j 145 then jc145 pc else none))
  else (bif Nat.blt j 147 then (bif Nat.beq j 146 then jc146 pc else none)
  else (bif Nat.beq j 147 then jc147 pc else none)))
  else (bif Nat.blt j 150 then (bif Nat.blt j 149 then (bif Nat.beq j 148 then jc148 pc else none)
  else (bif Nat.beq j 149 then jc149 pc else none))
  else (bif Nat.blt j 151 then (bif Nat.beq j 150 then jc150 pc else none)
  else (bif Nat.beq j 151 then jc151 pc else none))))
else (bif Nat.blt j 156 then (bif Nat.blt j 154 then (bif Nat.blt j 153 then (bif Nat.beq j 152 then jc152 pc else none)
  else (bif Nat.beq j 153 then jc153 pc else none))
  else (bif Nat.blt j 155 then (bif Nat.beq j 154 then jc154 pc else none)
  else (bif Nat.beq j 155 then jc155 pc else none)))
  else (bif Nat.blt j 158 then (bif Nat.blt j 157 then (bif Nat.beq j 156 then jc156 pc else none)
  else (bif Nat.beq j 157 then jc157 pc else none))
  else (bif Nat.blt j 159 then (bif Nat.beq j 158 then jc158 pc else none)
  else (bif Nat.beq j 159 then jc159 pc else none))))
theorem jcI_9_ok {j pc : Nat} {i : Instr} (h : jcI_9 j pc = some i) : pc < jsz j ∧ ∃ len, decode (jbt j) pc = .ok (i, len) ∧ (jlen i = 0 ∨ len = jlen i) := by
  unfold jcI_9 at h
  cases hc152 : Nat.blt j 152 with
  | true =>
    rw [hc152, cond_true] at h
    cases hc148 : Nat.blt j 148 with
    | true =>
      rw [hc148, cond_true] at h
      cases hc146 : Nat.blt j 146 with
      | true =>
        rw [hc146, cond_true] at h
        cases hc145 : Nat.blt j 145 with
        | true =>
          rw [hc145, cond_true] at h
          cases hb144 : Nat.beq j 144 with
          | true =>
            obtain rfl := Nat.eq_of_beq_eq_true hb144
            exact jleaf (f := jc144) jd144 (fun _ _ q => (jlim_some q).1) h
          | false => rw [hb144] at h; cases h
        | false =>
          rw [hc145, cond_false] at h
          cases hb145 : Nat.beq j 145 with
          | true =>
            obtain rfl := Nat.eq_of_beq_eq_true hb145
            exact jleaf (f := jc145) jd145 (fun _ _ q => (jlim_some q).1) h
          | false => rw [hb145] at h; cases h
      | false =>
        rw [hc146, cond_false] at h
        cases hc147 : Nat.blt j 147 with
        | true =>
          rw [hc147, cond_true] at h
          cases hb146 : Nat.beq j 146 with
          | true =>
            obtain rfl := Nat.eq_of_beq_eq_true hb146
            exact jleaf (f := jc146) jd146 (fun _ _ q => (jlim_some q).1) h
          | false => rw [hb146] at h; cases h
        | false =>
          rw [hc147, cond_false] at h
          cases hb147 : Nat.beq j 147 with
          | true =>
            obtain rfl := Nat.eq_of_beq_eq_true hb147
            exact jleaf (f := jc147) jd147 (fun _ _ q => (jlim_some q).1) h
          | false => rw [hb147] at h; cases h
    | false =>
      rw [hc148, cond_false] at h
      cases hc150 : Nat.blt j 150 with
      | true =>
        rw [hc150, cond_true] at h
        cases hc149 : Nat.blt j 149 with
        | true =>
          rw [hc149, cond_true] at h
          cases hb148 : Nat.beq j 148 with
          | true =>
            obtain rfl := Nat.eq_of_beq_eq_true hb148
            exact jleaf (f := jc148) jd148 (fun _ _ q => (jlim_some q).1) h
          | false => rw [hb148] at h; cases h
        | false =>
          rw [hc149, cond_false] at h
          cases hb149 : Nat.beq j 149 with
          | true =>
            obtain rfl := Nat.eq_of_beq_eq_true hb149
            exact jleaf (f := jc149) jd149 (fun _ _ q => (jlim_some q).1) h
          | false => rw [hb149] at h; cases h
      | false =>
        rw [hc150, cond_false] at h
        cases hc151 : Nat.blt j 151 with
        | true =>
          rw [hc151, cond_true] at h
          cases hb150 : Nat.beq j 150 with
          | true =>
            obtain rfl := Nat.eq_of_beq_eq_true hb150
            exact jleaf (f := jc150) jd150 (fun _ _ q => (jlim_some q).1) h
          | false => rw [hb150] at h; cases h
        | false =>
          rw [hc151, cond_false] at h
          cases hb151 : Nat.beq j 151 with
          | true =>
            obtain rfl := Nat.eq_of_beq_eq_true hb151
            exact jleaf (f := jc151) jd151 (fun _ _ q => (jlim_some q).1) h
          | false => rw [hb151] at h; cases h
  | false =>
    rw [hc152, cond_false] at h
    cases hc156 : Nat.blt j 156 with
    | true =>
      rw [hc156, cond_true] at h
      cases hc154 : Nat.blt j 154 with
      | true =>
        rw [hc154, cond_true] at h
        cases hc153 : Nat.blt j 153 with
        | true =>
          rw [hc153, cond_true] at h
          cases hb152 : Nat.beq j 152 with
          | true =>
            obtain rfl := Nat.eq_of_beq_eq_true hb152
            exact jleaf (f := jc152) jd152 (fun _ _ q => (jlim_some q).1) h
          | false => rw [hb152] at h; cases h
        | false =>
          rw [hc153, cond_false] at h
          cases hb153 : Nat.beq j 153 with
          | true =>
            obtain rfl := Nat.eq_of_beq_eq_true hb153
            exact jleaf (f := jc153) jd153 (fun _ _ q => (jlim_some q).1) h
          | false => rw [hb153] at h; cases h
      | false =>
        rw [hc154, cond_false] at h
        cases hc155 : Nat.blt j 155 with
        | true =>
          rw [hc155, cond_true] at h
          cases hb154 : Nat.beq j 154 with
          | true =>
            obtain rfl := Nat.eq_of_beq_eq_true hb154
            exact jleaf (f := jc154) jd154 (fun _ _ q => (jlim_some q).1) h
          | false => rw [hb154] at h; cases h
        | false =>
          rw [hc155, cond_false] at h
          cases hb155 : Nat.beq j 155 with
          | true =>
            obtain rfl := Nat.eq_of_beq_eq_true hb155
            exact jleaf (f := jc155) jd155 (fun _ _ q => (jlim_some q).1) h
          | false => rw [hb155] at h; cases h
    | false =>
      rw [hc156, cond_false] at h
      cases hc158 : Nat.blt j 158 with
      | true =>
        rw [hc158, cond_true] at h
        cases hc157 : Nat.blt j 157 with
        | true =>
          rw [hc157, cond_true] at h
          cases hb156 : Nat.beq j 156 with
          | true =>
            obtain rfl := Nat.eq_of_beq_eq_true hb156
            exact jleaf (f := jc156) jd156 (fun _ _ q => (jlim_some q).1) h
          | false => rw [hb156] at h; cases h
        | false =>
          rw [hc157, cond_false] at h
          cases hb157 : Nat.beq j 157 with
          | true =>
            obtain rfl := Nat.eq_of_beq_eq_true hb157
            exact jleaf (f := jc157) jd157 (fun _ _ q => (jlim_some q).1) h
          | false => rw [hb157] at h; cases h
      | false =>
        rw [hc158, cond_false] at h
        cases hc159 : Nat.blt j 159 with
        | true =>
          rw [hc159, cond_true] at h
          cases hb158 : Nat.beq j 158 with
          | true =>
            obtain rfl := Nat.eq_of_beq_eq_true hb158
            exact jleaf (f := jc158) jd158 (fun _ _ q => (jlim_some q).1) h
          | false => rw [hb158] at h; cases h
        | false =>
          rw [hc159, cond_false] at h
          cases hb159 : Nat.beq j 159 with
          | true =>
            obtain rfl := Nat.eq_of_beq_eq_true hb159
            exact jleaf (f := jc159) jd159 (fun _ _ q => (jlim_some q).1) h
          | false => rw [hb159] at h; cases h
def jcI_10 (j pc : Nat) : Option Instr := bif Nat.blt j 168 then (bif Nat.blt j 164 then (bif Nat.blt j 162 then (bif Nat.blt j 161 then (bif Nat.beq j 160 then jc160 pc else none)
  else (bif Nat.beq j 161 then jc161 pc else none))
  else (bif Nat.blt j 163 then (bif Nat.beq j 162 then jc162 pc else none)
  else (bif Nat.beq j 163 then jc163 pc else none)))
  else (bif Nat.blt j 166 then (bif Nat.blt j 165 then (bif Nat.beq j 164 then jc164 pc else none)
  else (bif Nat.beq j 165 then jc165 pc else none))
  else (bif Nat.blt j 167 then (bif Nat.beq j 166 then jc166 pc else none)
  else (bif Nat.beq j 167 then jc167 pc else none))))
else (bif Nat.blt j 172 then (bif Nat.blt j 170 then (bif Nat.blt j 169 then (bif Nat.beq j 168 then jc168 pc else none)
  else (bif Nat.beq j 169 then jc169 pc else none))
  else (bif Nat.blt j 171 then (bif Nat.beq j 170 then jc170 pc else none)
  else (bif Nat.beq j 171 then jc171 pc else none)))
  else (bif Nat.blt j 174 then (bif Nat.blt j 173 then (bif Nat.beq j 172 then jc172 pc else none)
  else (bif Nat.beq j 173 then jc173 pc else none))
  else (bif Nat.blt j 175 then (bif Nat.beq j 174 then jc174 pc else none)
  else (bif Nat.beq j 175 then jc175 pc else none))))
theorem jcI_10_ok {j pc : Nat} {i : Instr} (h : jcI_10 j pc = some i) : pc < jsz j ∧ ∃ len, decode (jbt j) pc = .ok (i, len) ∧ (jlen i = 0 ∨ len = jlen i) := by
  unfold jcI_10 at h
  cases hc168 : Nat.blt j 168 with
  | true =>
    rw [hc168, cond_true] at h
    cases hc164 : Nat.blt j 164 with
    | true =>
      rw [hc164, cond_true] at h
      cases hc162 : Nat.blt j 162 with
      | true =>
        rw [hc162, cond_true] at h
        cases hc161 : Nat.blt j 161 with
        | true =>
          rw [hc161, cond_true] at h
          cases hb160 : Nat.beq j 160 with
          | true =>
            obtain rfl := Nat.eq_of_beq_eq_true hb160
            exact jleaf (f := jc160) jd160 (fun _ _ q => (jlim_some q).1) h
          | false => rw [hb160] at h; cases h
        | false =>
          rw [hc161, cond_false] at h
          cases hb161 : Nat.beq j 161 with
          | true =>
            obtain rfl := Nat.eq_of_beq_eq_true hb161
            exact jleaf (f := jc161) jd161 (fun _ _ q => (jlim_some q).1) h
          | false => rw [hb161] at h; cases h
      | false =>
        rw [hc162, cond_false] at h
        cases hc163 : Nat.blt j 163 with
        | true =>
          rw [hc163, cond_true] at h
          cases hb162 : Nat.beq j 162 with
          | true =>
            obtain rfl := Nat.eq_of_beq_eq_true hb162
            exact jleaf (f := jc162) jd162 (fun _ _ q => (jlim_some q).1) h
          | false => rw [hb162] at h; cases h
        | false =>
          rw [hc163, cond_false] at h
          cases hb163 : Nat.beq j 163 with
          | true =>
            obtain rfl := Nat.eq_of_beq_eq_true hb163
            exact jleaf (f := jc163) jd163 (fun _ _ q => (jlim_some q).1) h
          | false => rw [hb163] at h; cases h
    | false =>
      rw [hc164, cond_false] at h
      cases hc166 : Nat.blt j 166 with
      | true =>
        rw [hc166, cond_true] at h
        cases hc165 : Nat.blt j 165 with
        | true =>
          rw [hc165, cond_true] at h
          cases hb164 : Nat.beq j 164 with
          | true =>
            obtain rfl := Nat.eq_of_beq_eq_true hb164
            exact jleaf (f := jc164) jd164 (fun _ _ q => (jlim_some q).1) h
          | false => rw [hb164] at h; cases h
        | false =>
          rw [hc165, cond_false] at h
          cases hb165 : Nat.beq j 165 with
          | true =>
            obtain rfl := Nat.eq_of_beq_eq_true hb165
            exact jleaf (f := jc165) jd165 (fun _ _ q => (jlim_some q).1) h
          | false => rw [hb165] at h; cases h
      | false =>
        rw [hc166, cond_false] at h
        cases hc167 : Nat.blt j 167 with
        | true =>
          rw [hc167, cond_true] at h
          cases hb166 : Nat.beq j 166 with
          | true =>
            obtain rfl := Nat.eq_of_beq_eq_true hb166
            exact jleaf (f := jc166) jd166 (fun _ _ q => (jlim_some q).1) h
          | false => rw [hb166] at h; cases h
        | false =>
          rw [hc167, cond_false] at h
          cases hb167 : Nat.beq j 167 with
          | true =>
            obtain rfl := Nat.eq_of_beq_eq_true hb167
            exact jleaf (f := jc167) jd167 (fun _ _ q => (jlim_some q).1) h
          | false => rw [hb167] at h; cases h
  | false =>
    rw [hc168, cond_false] at h
    cases hc172 : Nat.blt j 172 with
    | true =>
      rw [hc172, cond_true] at h
      cases hc170 : Nat.blt j 170 with
      | true =>
        rw [hc170, cond_true] at h
        cases hc169 : Nat.blt j 169 with
        | true =>
          rw [hc169, cond_true] at h
          cases hb168 : Nat.beq j 168 with
          | true =>
            obtain rfl := Nat.eq_of_beq_eq_true hb168
            exact jleaf (f := jc168) jd168 (fun _ _ q => (jlim_some q).1) h
          | false => rw [hb168] at h; cases h
        | false =>
          rw [hc169, cond_false] at h
          cases hb169 : Nat.beq j 169 with
          | true =>
            obtain rfl := Nat.eq_of_beq_eq_true hb169
            exact jleaf (f := jc169) jd169 (fun _ _ q => (jlim_some q).1) h
          | false => rw [hb169] at h; cases h
      | false =>
        rw [hc170, cond_false] at h
        cases hc171 : Nat.blt j 171 with
        | true =>
          rw [hc171, cond_true] at h
          cases hb170 : Nat.beq j 170 with
          | true =>
            obtain rfl := Nat.eq_of_beq_eq_true hb170
            exact jleaf (f := jc170) jd170 (fun _ _ q => (jlim_some q).1) h
          | false => rw [hb170] at h; cases h
        | false =>
          rw [hc171, cond_false] at h
          cases hb171 : Nat.beq j 171 with
          | true =>
            obtain rfl := Nat.eq_of_beq_eq_true hb171
            exact jleaf (f := jc171) jd171 (fun _ _ q => (jlim_some q).1) h
          | false => rw [hb171] at h; cases h
    | false =>
      rw [hc172, cond_false] at h
      cases hc174 : Nat.blt j 174 with
      | true =>
        rw [hc174, cond_true] at h
        cases hc173 : Nat.blt j 173 with
        | true =>
          rw [hc173, cond_true] at h
          cases hb172 : Nat.beq j 172 with
          | true =>
            obtain rfl := Nat.eq_of_beq_eq_true hb172
            exact jleaf (f := jc172) jd172 (fun _ _ q => (jlim_some q).1) h
          | false => rw [hb172] at h; cases h
        | false =>
          rw [hc173, cond_false] at h
          cases hb173 : Nat.beq j 173 with
          | true =>
            obtain rfl := Nat.eq_of_beq_eq_true hb173
            exact jleaf (f := jc173) jd173 (fun _ _ q => (jlim_some q).1) h
          | false => rw [hb173] at h; cases h
      | false =>
        rw [hc174, cond_false] at h
        cases hc175 : Nat.blt j 175 with
        | true =>
          rw [hc175, cond_true] at h
          cases hb174 : Nat.beq j 174 with
          | true =>
            obtain rfl := Nat.eq_of_beq_eq_true hb174
            exact jleaf (f := jc174) jd174 (fun _ _ q => (jlim_some q).1) h
          | false => rw [hb174] at h; cases h
        | false =>
          rw [hc175, cond_false] at h
          cases hb175 : Nat.beq j 175 with
          | true =>
            obtain rfl := Nat.eq_of_beq_eq_true hb175
            exact jleaf (f := jc175) jd175 (fun _ _ q => (jlim_some q).1) h
          | false => rw [hb175] at h; cases h
def jcI_11 (j pc : Nat) : Option Instr := bif Nat.blt j 184 then (bif Nat.blt j 180 then (bif Nat.blt j 178 then (bif Nat.blt j 177 then (bif Nat.beq j 176 then jc176 pc else none)
  else (bif Nat.beq j 177 then jc177 pc else none))
  else (bif Nat.blt j 179 then (bif Nat.beq j 178 then jc178 pc else none)
  else (bif Nat.beq j 179 then jc179 pc else none)))
  else (bif Nat.blt j 182 then (bif Nat.blt j 181 then (bif Nat.beq j 180 then jc180 pc else none)
  else (bif Nat.beq j 181 then jc181 pc else none))
  else (bif Nat.blt j 183 then (bif Nat.beq j 182 then jc182 pc else none)
  else (bif Nat.beq j 183 then jc183 pc else none))))
else (bif Nat.blt j 188 then (bif Nat.blt j 186 then (bif Nat.blt j 185 then (bif Nat.beq j 184 then jc184 pc else none)
  else (bif Nat.beq j 185 then jc185 pc else none))
  else (bif Nat.blt j 187 then (bif Nat.beq j 186 then jc186 pc else none)
  else (bif Nat.beq j 187 then jc187 pc else none)))
  else (bif Nat.blt j 190 then (bif Nat.blt j 189 then (bif Nat.beq j 188 then jc188 pc else none)
  else (bif Nat.beq j 189 then jc189 pc else none))
  else (bif Nat.blt j 191 then (bif Nat.beq j 190 then jc190 pc else none)
  else (bif Nat.beq j 191 then jc191 pc else none))))
theorem jcI_11_ok {j pc : Nat} {i : Instr} (h : jcI_11 j pc = some i) : pc < jsz j ∧ ∃ len, decode (jbt j) pc = .ok (i, len) ∧ (jlen i = 0 ∨ len = jlen i) := by
  unfold jcI_11 at h
  cases hc184 : Nat.blt j 184 with
  | true =>
    rw [hc184, cond_true] at h
    cases hc180 : Nat.blt j 180 with
    | true =>
      rw [hc180, cond_true] at h
      cases hc178 : Nat.blt j 178 with
      | true =>
        rw [hc178, cond_true] at h
        cases hc177 : Nat.blt j 177 with
        | true =>
          rw [hc177, cond_true] at h
          cases hb176 : Nat.beq j 176 with
          | true =>
            obtain rfl := Nat.eq_of_beq_eq_true hb176
            exact jleaf (f := jc176) jd176 (fun _ _ q => (jlim_some q).1) h
          | false => rw [hb176] at h; cases h
        | false =>
          rw [hc177, cond_false] at h
          cases hb177 : Nat.beq j 177 with
          | true =>
            obtain rfl := Nat.eq_of_beq_eq_true hb177
            exact jleaf (f := jc177) jd177 (fun _ _ q => (jlim_some q).1) h
          | false => rw [hb177] at h; cases h
      | false =>
        rw [hc178, cond_false] at h
        cases hc179 : Nat.blt j 179 with
        | true =>
          rw [hc179, cond_true] at h
          cases hb178 : Nat.beq j 178 with
          | true =>
            obtain rfl := Nat.eq_of_beq_eq_true hb178
            exact jleaf (f := jc178) jd178 (fun _ _ q => (jlim_some q).1) h
          | false => rw [hb178] at h; cases h
        | false =>
          rw [hc179, cond_false] at h
          cases hb179 : Nat.beq j 179 with
          | true =>
            obtain rfl := Nat.eq_of_beq_eq_true hb179
            exact jleaf (f := jc179) jd179 (fun _ _ q => (jlim_some q).1) h
          | false => rw [hb179] at h; cases h
    | false =>
      rw [hc180, cond_false] at h
      cases hc182 : Nat.blt j 182 with
      | true =>
        rw [hc182, cond_true] at h
        cases hc181 : Nat.blt j 181 with
        | true =>
          rw [hc181, cond_true] at h
          cases hb180 : Nat.beq j 180 with
          | true =>
            obtain rfl := Nat.eq_of_beq_eq_true hb180
            exact jleaf (f := jc180) jd180 (fun _ _ q => (jlim_some q).1) h
          | false => rw [hb180] at h; cases h
        | false =>
          rw [hc181, cond_false] at h
          cases hb181 : Nat.beq j 181 with
          | true =>
            obtain rfl := Nat.eq_of_beq_eq_true hb181
            exact jleaf (f := jc181) jd181 (fun _ _ q => (jlim_some q).1) h
          | false => rw [hb181] at h; cases h
      | false =>
        rw [hc182, cond_false] at h
        cases hc183 : Nat.blt j 183 with
        | true =>
          rw [hc183, cond_true] at h
          cases hb182 : Nat.beq j 182 with
          | true =>
            obtain rfl := Nat.eq_of_beq_eq_true hb182
            exact jleaf (f := jc182) jd182 (fun _ _ q => (jlim_some q).1) h
          | false => rw [hb182] at h; cases h
        | false =>
          rw [hc183, cond_false] at h
          cases hb183 : Nat.beq j 183 with
          | true =>
            obtain rfl := Nat.eq_of_beq_eq_true hb183
            exact jleaf (f := jc183) jd183 (fun _ _ q => (jlim_some q).1) h
          | false => rw [hb183] at h; cases h
  | false =>
    rw [hc184, cond_false] at h
    cases hc188 : Nat.blt j 188 with
    | true =>
      rw [hc188, cond_true] at h
      cases hc186 : Nat.blt j 186 with
      | true =>
        rw [hc186, cond_true] at h
        cases hc185 : Nat.blt j 185 with
        | true =>
          rw [hc185, cond_true] at h
          cases hb184 : Nat.beq j 184 with
          | true =>
            obtain rfl := Nat.eq_of_beq_eq_true hb184
            exact jleaf (f := jc184) jd184 (fun _ _ q => (jlim_some q).1) h
          | false => rw [hb184] at h; cases h
        | false =>
          rw [hc185, cond_false] at h
          cases hb185 : Nat.beq j 185 with
          | true =>
            obtain rfl := Nat.eq_of_beq_eq_true hb185
            exact jleaf (f := jc185) jd185 (fun _ _ q => (jlim_some q).1) h
          | false => rw [hb185] at h; cases h
      | false =>
        rw [hc186, cond_false] at h
        cases hc187 : Nat.blt j 187 with
        | true =>
          rw [hc187, cond_true] at h
          cases hb186 : Nat.beq j 186 with
          | true =>
            obtain rfl := Nat.eq_of_beq_eq_true hb186
            exact jleaf (f := jc186) jd186 (fun _ _ q => (jlim_some q).1) h
          | false => rw [hb186] at h; cases h
        | false =>
          rw [hc187, cond_false] at h
          cases hb187 : Nat.beq j 187 with
          | true =>
            obtain rfl := Nat.eq_of_beq_eq_true hb187
            exact jleaf (f := jc187) jd187 (fun _ _ q => (jlim_some q).1) h
          | false => rw [hb187] at h; cases h
    | false =>
      rw [hc188, cond_false] at h
      cases hc190 : Nat.blt j 190 with
      | true =>
        rw [hc190, cond_true] at h
        cases hc189 : Nat.blt j 189 with
        | true =>
          rw [hc189, cond_true] at h
          cases hb188 : Nat.beq j 188 with
          | true =>
            obtain rfl := Nat.eq_of_beq_eq_true hb188
            exact jleaf (f := jc188) jd188 (fun _ _ q => (jlim_some q).1) h
          | false => rw [hb188] at h; cases h
        | false =>
          rw [hc189, cond_false] at h
          cases hb189 : Nat.beq j 189 with
          | true =>
            obtain rfl := Nat.eq_of_beq_eq_true hb189
            exact jleaf (f := jc189) jd189 (fun _ _ q => (jlim_some q).1) h
          | false => rw [hb189] at h; cases h
      | false =>
        rw [hc190, cond_false] at h
        cases hc191 : Nat.blt j 191 with
        | true =>
          rw [hc191, cond_true] at h
          cases hb190 : Nat.beq j 190 with
          | true =>
            obtain rfl := Nat.eq_of_beq_eq_true hb190
            exact jleaf (f := jc190) jd190 (fun _ _ q => (jlim_some q).1) h
          | false => rw [hb190] at h; cases h
        | false =>
          rw [hc191, cond_false] at h
          cases hb191 : Nat.beq j 191 with
          | true =>
            obtain rfl := Nat.eq_of_beq_eq_true hb191
            exact jleaf (f := jc191) jd191 (fun _ _ q => (jlim_some q).1) h
          | false => rw [hb191] at h; cases h
def jcI_12 (j pc : Nat) : Option Instr := bif Nat.blt j 198 then (bif Nat.blt j 195 then (bif Nat.blt j 193 then (bif Nat.beq j 192 then jc192 pc else none)
  else (bif Nat.blt j 194 then (bif Nat.beq j 193 then jc193 pc else none)
  else (bif Nat.beq j 194 then jc194 pc else none)))
  else (bif Nat.blt j 196 then (bif Nat.beq j 195 then jc195 pc else none)
  else (bif Nat.blt j 197 then (bif Nat.beq j 196 then jc196 pc else none)
  else (bif Nat.beq j 197 then jc197 pc else none))))
else (bif Nat.blt j 201 then (bif Nat.blt j 199 then (bif Nat.beq j 198 then jc198 pc else none)
  else (bif Nat.blt j 200 then (bif Nat.beq j 199 then jc199 pc else none)
  else (bif Nat.beq j 200 then jc200 pc else none)))
  else (bif Nat.blt j 203 then (bif Nat.blt j 202 then (bif Nat.beq j 201 then jc201 pc else none)
  else (bif Nat.beq j 202 then jc202 pc else none))
  else (bif Nat.blt j 204 then (bif Nat.beq j 203 then jc203 pc else none)
  else (bif Nat.beq j 204 then jc204 pc else none))))
theorem jcI_12_ok {j pc : Nat} {i : Instr} (h : jcI_12 j pc = some i) : pc < jsz j ∧ ∃ len, decode (jbt j) pc = .ok (i, len) ∧ (jlen i = 0 ∨ len = jlen i) := by
  unfold jcI_12 at h
  cases hc198 : Nat.blt j 198 with
  | true =>
    rw [hc198, cond_true] at h
    cases hc195 : Nat.blt j 195 with
    | true =>
      rw [hc195, cond_true] at h
      cases hc193 : Nat.blt j 193 with
      | true =>
        rw [hc193, cond_true] at h
        cases hb192 : Nat.beq j 192 with
        | true =>
          obtain rfl := Nat.eq_of_beq_eq_true hb192
          exact jleaf (f := jc192) jd192 (fun _ _ q => (jlim_some q).1) h
        | false => rw [hb192] at h; cases h
      | false =>
        rw [hc193, cond_false] at h
        cases hc194 : Nat.blt j 194 with
        | true =>
          rw [hc194, cond_true] at h
          cases hb193 : Nat.beq j 193 with
          | true =>
            obtain rfl := Nat.eq_of_beq_eq_true hb193
            exact jleaf (f := jc193) jd193 (fun _ _ q => (jlim_some q).1) h
          | false => rw [hb193] at h; cases h
        | false =>
          rw [hc194, cond_false] at h
          cases hb194 : Nat.beq j 194 with
          | true =>
            obtain rfl := Nat.eq_of_beq_eq_true hb194
            exact jleaf (f := jc194) jd194 (fun _ _ q => (jlim_some q).1) h
          | false => rw [hb194] at h; cases h
    | false =>
      rw [hc195, cond_false] at h
      cases hc196 : Nat.blt j 196 with
      | true =>
        rw [hc196, cond_true] at h
        cases hb195 : Nat.beq j 195 with
        | true =>
          obtain rfl := Nat.eq_of_beq_eq_true hb195
          exact jleaf (f := jc195) jd195 (fun _ _ q => (jlim_some q).1) h
        | false => rw [hb195] at h; cases h
      | false =>
        rw [hc196, cond_false] at h
        cases hc197 : Nat.blt j 197 with
        | true =>
          rw [hc197, cond_true] at h
          cases hb196 : Nat.beq j 196 with
          | true =>
            obtain rfl := Nat.eq_of_beq_eq_true hb196
            exact jleaf (f := jc196) jd196 (fun _ _ q => (jlim_some q).1) h
          | false => rw [hb196] at h; cases h
        | false =>
          rw [hc197, cond_false] at h
          cases hb197 : Nat.beq j 197 with
          | true =>
            obtain rfl := Nat.eq_of_beq_eq_true hb197
            exact jleaf (f := jc197) jd197 (fun _ _ q => (jlim_some q).1) h
          | false => rw [hb197] at h; cases h
  | false =>
    rw [hc198, cond_false] at h
    cases hc201 : Nat.blt j 201 with
    | true =>
      rw [hc201, cond_true] at h
      cases hc199 : Nat.blt j 199 with
      | true =>
        rw [hc199, cond_true] at h
        cases hb198 : Nat.beq j 198 with
        | true =>
          obtain rfl := Nat.eq_of_beq_eq_true hb198
          exact jleaf (f := jc198) jd198 (fun _ _ q => (jlim_some q).1) h
        | false => rw [hb198] at h; cases h
      | false =>
        rw [hc199, cond_false] at h
        cases hc200 : Nat.blt j 200 with
        | true =>
          rw [hc200, cond_true] at h
          cases hb199 : Nat.beq j 199 with
          | true =>
            obtain rfl := Nat.eq_of_beq_eq_true hb199
            exact jleaf (f := jc199) jd199 (fun _ _ q => (jlim_some q).1) h
          | false => rw [hb199] at h; cases h
        | false =>
          rw [hc200, cond_false] at h
          cases hb200 : Nat.beq j 200 with
          | true =>
            obtain rfl := Nat.eq_of_beq_eq_true hb200
            exact jleaf (f := jc200) jd200 (fun _ _ q => (jlim_some q).1) h
          | false => rw [hb200] at h; cases h
    | false =>
      rw [hc201, cond_false] at h
      cases hc203 : Nat.blt j 203 with
      | true =>
        rw [hc203, cond_true] at h
        cases hc202 : Nat.blt j 202 with
        | true =>
          rw [hc202, cond_true] at h
          cases hb201 : Nat.beq j 201 with
          | true =>
            obtain rfl := Nat.eq_of_beq_eq_true hb201
            exact jleaf (f := jc201) jd201 (fun _ _ q => (jlim_some q).1) h
          | false => rw [hb201] at h; cases h
        | false =>
          rw [hc202, cond_false] at h
          cases hb202 : Nat.beq j 202 with
          | true =>
            obtain rfl := Nat.eq_of_beq_eq_true hb202
            exact jleaf (f := jc202) jd202 (fun _ _ q => (jlim_some q).1) h
          | false => rw [hb202] at h; cases h
      | false =>
        rw [hc203, cond_false] at h
        cases hc204 : Nat.blt j 204 with
        | true =>
          rw [hc204, cond_true] at h
          cases hb203 : Nat.beq j 203 with
          | true =>
            obtain rfl := Nat.eq_of_beq_eq_true hb203
            exact jleaf (f := jc203) jd203 (fun _ _ q => (jlim_some q).1) h
          | false => rw [hb203] at h; cases h
        | false =>
          rw [hc204, cond_false] at h
          cases hb204 : Nat.beq j 204 with
          | true =>
            obtain rfl := Nat.eq_of_beq_eq_true hb204
            exact jleaf (f := jc204) jd204 (fun _ _ q => (jlim_some q).1) h
          | false => rw [hb204] at h; cases h
def jcI (j pc : Nat) : Option Instr := bif Nat.blt j 96 then (bif Nat.blt j 48 then (bif Nat.blt j 16 then (jcI_0 j pc)
  else (bif Nat.blt j 32 then (jcI_1 j pc)
  else (jcI_2 j pc)))
  else (bif Nat.blt j 64 then (jcI_3 j pc)
  else (bif Nat.blt j 80 then (jcI_4 j pc)
  else (jcI_5 j pc))))
  else (bif Nat.blt j 144 then (bif Nat.blt j 112 then (jcI_6 j pc)
  else (bif Nat.blt j 128 then (jcI_7 j pc)
  else (jcI_8 j pc)))
  else (bif Nat.blt j 176 then (bif Nat.blt j 160 then (jcI_9 j pc)
  else (jcI_10 j pc))
  else (bif Nat.blt j 192 then (jcI_11 j pc)
  else (jcI_12 j pc))))
theorem jcI_ok {j pc : Nat} {i : Instr} (h : jcI j pc = some i) : pc < jsz j ∧ ∃ len, decode (jbt j) pc = .ok (i, len) ∧ (jlen i = 0 ∨ len = jlen i) := by
  unfold jcI at h
  cases hc96 : Nat.blt j 96 with
  | true =>
    rw [hc96, cond_true] at h
    cases hc48 : Nat.blt j 48 with
    | true =>
      rw [hc48, cond_true] at h
      cases hc16 : Nat.blt j 16 with
      | true =>
        rw [hc16, cond_true] at h
        exact jcI_0_ok h
      | false =>
        rw [hc16, cond_false] at h
        cases hc32 : Nat.blt j 32 with
        | true =>
          rw [hc32, cond_true] at h
          exact jcI_1_ok h
        | false =>
          rw [hc32, cond_false] at h
          exact jcI_2_ok h
    | false =>
      rw [hc48, cond_false] at h
      cases hc64 : Nat.blt j 64 with
      | true =>
        rw [hc64, cond_true] at h
        exact jcI_3_ok h
      | false =>
        rw [hc64, cond_false] at h
        cases hc80 : Nat.blt j 80 with
        | true =>
          rw [hc80, cond_true] at h
          exact jcI_4_ok h
        | false =>
          rw [hc80, cond_false] at h
          exact jcI_5_ok h
  | false =>
    rw [hc96, cond_false] at h
    cases hc144 : Nat.blt j 144 with
    | true =>
      rw [hc144, cond_true] at h
      cases hc112 : Nat.blt j 112 with
      | true =>
        rw [hc112, cond_true] at h
        exact jcI_6_ok h
      | false =>
        rw [hc112, cond_false] at h
        cases hc128 : Nat.blt j 128 with
        | true =>
          rw [hc128, cond_true] at h
          exact jcI_7_ok h
        | false =>
          rw [hc128, cond_false] at h
          exact jcI_8_ok h
    | false =>
      rw [hc144, cond_false] at h
      cases hc176 : Nat.blt j 176 with
      | true =>
        rw [hc176, cond_true] at h
        cases hc160 : Nat.blt j 160 with
        | true =>
          rw [hc160, cond_true] at h
          exact jcI_9_ok h
        | false =>
          rw [hc160, cond_false] at h
          exact jcI_10_ok h
      | false =>
        rw [hc176, cond_false] at h
        cases hc192 : Nat.blt j 192 with
        | true =>
          rw [hc192, cond_true] at h
          exact jcI_11_ok h
        | false =>
          rw [hc192, cond_false] at h
          exact jcI_12_ok h
def jcXl : List (Nat × List (Nat × Nat)) := [(34, [(36, 0)]), (50, [(10, 0), (51, 1), (71, 0)]), (57, [(140, 0)]), (65, [(20, 0), (50, 1)]), (69, [(25, 2)]), (70, [(25, 2)]), (71, [(10, 0)]), (72, [(11, 0)]), (121, [(12, 0), (31, 1)]), (124, [(10, 2), (28, 0)])]
def jcX (j pc : Nat) : Option Nat := match jlk jcXl j with
  | some l => jlk l pc
  | none => none
def jcHl : List (Nat × List (Nat × List (Nat × Nat × Nat))) := [(127, [(2, [(0, 9, 2)])]), (128, [(5, [(0, 15, 4), (1, 19, 4)])]), (129, [(4, [(0, 13, 3)])]), (130, [(5, [(0, 15, 4), (1, 19, 4)])]), (131, [(5, [(2, 15, 4)])]), (145, [(4, [(0, 13, 3)])]), (147, [(4, [(0, 13, 3)])]), (149, [(4, [(0, 13, 3), (1, 16, 3)])]), (194, [(5, [(0, 19, 4), (2, 15, 4)])]), (196, [(5, [(2, 14, 4)])])]
def jcH (j pc x : Nat) : Option (Nat × Nat) := match jlk jcHl j with
  | some l => (match jlk l pc with
    | some r => jlk r x
    | none => none)
  | none => none
def jtFl (o : Nat) : List (Nat × (Nat × Nat × Nat × Bool)) := bif Nat.blt o 8 then (bif Nat.blt o 4 then (bif Nat.blt o 2 then (bif Nat.blt o 1 then (bif Nat.beq o 0 then [(9, (0, 0, 3, true)), (15, (0, 1, 3, true)), (18, (0, 2, 3, true)), (21, (0, 3, 3, true)), (24, (0, 4, 3, true)), (27, (0, 5, 3, true)), (30, (0, 6, 0, false)), (34, (0, 7, 0, false)), (37, (10, 5, 0, false)), (42, (10, 6, 0, false))] else [])
  else (bif Nat.beq o 1 then [(9, (1, 0, 3, true)), (15, (1, 1, 3, true)), (19, (1, 2, 0, false))] else []))
  else (bif Nat.blt o 3 then (bif Nat.beq o 2 then [(11, (2, 2, 3, true)), (17, (2, 0, 3, true)), (21, (2, 1, 0, true)), (25, (2, 3, 0, false)), (28, (2, 4, 0, false)), (31, (2, 7, 2, false)), (49, (10, 0, 4, false)), (72, (10, 7, 0, false)), (75, (10, 2, 4, false)), (78, (1, 2, 0, false)), (85, (10, 3, 4, false)), (99, (10, 4, 4, false)), (102, (10, 1, 4, false)), (109, (10, 5, 0, false)), (112, (10, 6, 0, false))] else [])
  else (bif Nat.beq o 3 then [(14, (3, 0, 3, true)), (22, (3, 1, 3, true)), (26, (3, 2, 3, true)), (42, (3, 3, 0, false)), (46, (3, 4, 0, false)), (49, (3, 5, 0, false)), (52, (3, 6, 0, false)), (55, (3, 7, 0, false)), (58, (3, 8, 0, false)), (65, (10, 1, 4, false)), (82, (2, 4, 0, false)), (85, (2, 1, 4, false)), (88, (2, 6, 0, false)), (91, (2, 5, 0, false)), (100, (2, 3, 0, false)), (103, (2, 2, 4, false)), (107, (10, 0, 4, false)), (110, (10, 2, 4, false)), (113, (10, 4, 4, false))] else [])))
  else (bif Nat.blt o 6 then (bif Nat.blt o 5 then (bif Nat.beq o 4 then [(9, (4, 0, 3, true)), (15, (4, 1, 3, true)), (24, (4, 2, 0, false)), (28, (4, 3, 0, false)), (31, (4, 4, 0, false)), (34, (1, 2, 0, false)), (39, (1, 1, 4, false)), (42, (11, 1, 0, false)), (47, (11, 3, 0, false)), (48, (11, 0, 4, false))] else [])
  else (bif Nat.beq o 5 then [(11, (5, 1, 3, true)), (17, (5, 2, 3, true)), (24, (5, 3, 3, true)), (28, (5, 4, 3, true)), (31, (5, 5, 3, true)), (34, (5, 6, 3, true)), (37, (5, 0, 3, true)), (44, (11, 1, 0, false)), (48, (5, 7, 0, false)), (51, (5, 8, 0, false)), (54, (5, 9, 0, false)), (57, (5, 10, 0, false)), (63, (5, 11, 0, false)), (66, (5, 13, 0, false)), (89, (5, 12, 0, false)), (92, (4, 0, 4, false)), (95, (11, 3, 0, false)), (124, (4, 3, 0, false)), (125, (4, 4, 0, false)), (146, (4, 2, 0, false))] else []))
  else (bif Nat.blt o 7 then (bif Nat.beq o 6 then [(9, (6, 1, 3, true)), (15, (6, 2, 3, true)), (18, (6, 3, 3, true)), (21, (6, 0, 3, true)), (31, (6, 4, 0, false)), (35, (6, 5, 0, false)), (40, (6, 6, 2, false)), (44, (1, 2, 0, false)), (62, (11, 0, 4, false)), (82, (11, 1, 0, false))] else [])
  else (bif Nat.beq o 7 then [(9, (7, 0, 3, true)), (15, (7, 1, 3, true)), (19, (1, 2, 0, false)), (35, (11, 4, 1, false)), (95, (10, 1, 4, false)), (105, (2, 4, 0, false)), (130, (11, 0, 4, false)), (133, (11, 2, 0, false)), (147, (3, 1, 4, false)), (151, (2, 5, 0, false)), (154, (2, 6, 0, false))] else []))))
else (bif Nat.blt o 12 then (bif Nat.blt o 10 then (bif Nat.blt o 9 then (bif Nat.beq o 8 then [(9, (8, 4, 3, true)), (15, (8, 9, 0, false)), (19, (8, 10, 0, false)), (22, (8, 0, 3, true)), (26, (8, 1, 3, true)), (30, (8, 2, 3, true)), (39, (8, 3, 3, true)), (51, (8, 5, 0, false)), (54, (8, 6, 0, false)), (57, (8, 8, 0, false)), (60, (8, 7, 0, false)), (63, (3, 0, 4, false)), (90, (0, 4, 4, false)), (94, (0, 5, 4, false)), (97, (10, 6, 0, false)), (102, (3, 6, 0, false)), (109, (10, 1, 4, false)), (112, (1, 2, 0, false)), (139, (3, 1, 4, false)), (147, (2, 4, 0, false)), (150, (3, 5, 0, false)), (243, (10, 0, 4, false)), (257, (11, 0, 4, false))] else [])
  else (bif Nat.beq o 9 then [(10, (9, 0, 3, true)), (21, (9, 1, 3, true)), (30, (9, 2, 3, true)), (39, (9, 3, 3, true)), (48, (9, 4, 3, true)), (55, (0, 6, 0, false)), (59, (8, 7, 0, false)), (69, (0, 7, 0, false)), (97, (8, 9, 0, false)), (100, (8, 10, 0, false)), (113, (3, 1, 4, false)), (126, (1, 2, 0, false)), (139, (3, 0, 4, false)), (143, (8, 8, 0, false)), (146, (3, 7, 0, false)), (153, (8, 6, 0, false)), (156, (3, 5, 0, false)), (165, (5, 10, 0, false)), (173, (5, 8, 0, false))] else []))
  else (bif Nat.blt o 11 then (bif Nat.beq o 10 then [(14, (10, 0, 3, true)), (20, (10, 1, 3, true)), (23, (10, 2, 3, true)), (26, (10, 3, 3, true)), (30, (10, 4, 3, true)), (33, (10, 5, 0, false)), (37, (10, 6, 0, false)), (40, (10, 7, 0, false)), (46, (1, 2, 0, false))] else [])
  else (bif Nat.beq o 11 then [(14, (11, 0, 3, true)), (20, (11, 1, 0, false)), (24, (11, 2, 0, false)), (31, (11, 3, 0, false)), (34, (11, 4, 1, false))] else [])))
  else (bif Nat.blt o 14 then (bif Nat.blt o 13 then (bif Nat.beq o 12 then [(9, (12, 6, 3, true)), (15, (12, 7, 3, true)), (19, (12, 0, 0, false)), (23, (12, 1, 0, false))] else [])
  else (bif Nat.beq o 13 then [(11, (13, 4, 3, true))] else []))
  else (bif Nat.blt o 15 then (bif Nat.beq o 14 then [(9, (14, 9, 3, true)), (15, (14, 10, 3, true)), (18, (14, 11, 3, true)), (21, (14, 12, 3, true)), (24, (14, 13, 3, true)), (28, (14, 14, 3, true)), (31, (14, 15, 3, true))] else [])
  else (bif Nat.beq o 15 then [(11, (15, 0, 3, true)), (17, (15, 1, 3, true)), (21, (15, 2, 3, true)), (25, (15, 3, 3, true)), (28, (15, 4, 3, true)), (31, (15, 5, 3, true)), (34, (15, 6, 3, true)), (37, (15, 7, 3, true)), (40, (15, 8, 3, true)), (43, (15, 9, 3, true)), (47, (15, 10, 3, true)), (50, (15, 11, 3, true)), (53, (15, 12, 3, true)), (56, (15, 18, 0, false)), (60, (15, 19, 0, false)), (63, (15, 31, 3, true)), (66, (15, 32, 3, true)), (69, (15, 39, 3, true)), (72, (15, 40, 3, true)), (77, (13, 4, 4, false)), (84, (15, 16, 0, false)), (87, (15, 25, 0, false)), (90, (12, 5, 1, false)), (94, (15, 27, 0, false)), (97, (15, 26, 0, false)), (104, (15, 30, 0, false)), (111, (13, 1, 0, false)), (114, (14, 0, 0, false)), (117, (14, 9, 4, false)), (120, (14, 13, 4, false)), (123, (14, 2, 0, false)), (126, (14, 10, 4, false)), (129, (14, 14, 4, false)), (132, (14, 3, 0, false)), (135, (14, 11, 4, false)), (138, (14, 15, 4, false)), (141, (14, 4, 0, false)), (144, (14, 7, 0, false)), (147, (14, 8, 2, false)), (151, (12, 0, 0, false)), (154, (12, 1, 0, false)), (157, (12, 2, 0, false)), (160, (12, 6, 4, false)), (163, (12, 7, 4, false)), (169, (12, 4, 1, false)), (172, (15, 23, 0, false)), (175, (14, 1, 0, false)), (178, (14, 5, 1, false)), (185, (14, 6, 2, false)), (194, (14, 12, 4, false)), (201, (13, 0, 0, false)), (204, (13, 2, 0, false)), (213, (15, 15, 0, false)), (228, (13, 3, 2, false)), (231, (15, 33, 0, false)), (234, (15, 34, 2, false)), (256, (15, 36, 0, false)), (259, (15, 35, 0, false)), (262, (15, 37, 2, false)), (269, (15, 28, 2, false)), (303, (15, 21, 0, false)), (306, (15, 20, 0, false)), (309, (15, 38, 1, false)), (316, (15, 17, 0, false)), (362, (15, 24, 0, false)), (372, (15, 22, 0, false)), (380, (15, 13, 0, false)), (383, (15, 29, 1, false)), (386, (15, 14, 0, false)), (412, (12, 3, 0, false))] else []))))
def jtNl (o : Nat) : List (Nat × (Nat × List Value)) := bif Nat.blt o 9 then (bif Nat.blt o 5 then (bif Nat.blt o 3 then (bif Nat.beq o 2 then [(9, (10, [.null, .null, .null, .null, .null, .int 0, .int 0, .int 0]))] else [])
  else (bif Nat.beq o 3 then [(9, (1, [.null, .null, .int 0])), (20, (2, [.null, .int 0, .null, .int 0, .int 0, .int 0, .int 0, .long 0]))] else []))
  else (bif Nat.blt o 8 then (bif Nat.beq o 5 then [(9, (11, [.null, .int 0, .int 0, .int 0, .int 0])), (21, (4, [.null, .null, .int 0, .int 0, .int 0]))] else [])
  else (bif Nat.beq o 8 then [(34, (7, [.null, .null]))] else [])))
else (bif Nat.blt o 11 then (bif Nat.blt o 10 then (bif Nat.beq o 9 then [(7, (0, [.null, .null, .null, .null, .null, .null, .int 0, .int 0])), (16, (3, [.null, .null, .null, .int 0, .int 0, .int 0, .int 0, .int 0, .int 0])), (25, (5, [.null, .null, .null, .null, .null, .null, .null, .int 0, .int 0, .int 0, .int 0, .int 0, .int 0, .int 0])), (34, (6, [.null, .null, .null, .null, .int 0, .int 0, .long 0])), (43, (8, [.null, .null, .null, .null, .null, .int 0, .int 0, .int 0, .int 0, .int 0, .int 0]))] else [])
  else (bif Nat.beq o 10 then [(9, (1, [.null, .null, .int 0]))] else []))
  else (bif Nat.blt o 15 then (bif Nat.beq o 11 then [(9, (1, [.null, .null, .int 0]))] else [])
  else (bif Nat.blt o 16 then (bif Nat.beq o 15 then [(9, (12, [.int 0, .int 0, .int 0, .int 0, .int 0, .int 0, .null, .null])), (15, (13, [.int 0, .int 0, .int 0, .long 0, .null])), (81, (14, [.int 0, .int 0, .int 0, .int 0, .int 0, .int 0, .long 0, .int 0, .long 0, .null, .null, .null, .null, .null, .null, .null]))] else [])
  else (bif Nat.beq o 16 then [(8, (9, [.null, .null, .null, .null, .null])), (50, (15, [.null, .null, .null, .null, .null, .null, .null, .null, .null, .null, .null, .null, .null, .int 0, .int 0, .int 0, .int 0, .int 0, .int 0, .int 0, .int 0, .int 0, .int 0, .int 0, .int 0, .int 0, .int 0, .int 0, .long 0, .int 0, .int 0, .null, .null, .int 0, .long 0, .int 0, .int 0, .long 0, .int 0, .null, .null]))] else []))))
def jtAl (o : Nat) : List (Nat × Nat) := bif Nat.blt o 5 then (bif Nat.blt o 3 then (bif Nat.beq o 2 then [(9, 12)] else [])
  else (bif Nat.beq o 3 then [(20, 4)] else []))
else (bif Nat.blt o 13 then (bif Nat.beq o 5 then [(9, 13)] else [])
  else (bif Nat.blt o 15 then (bif Nat.beq o 13 then [(9, 16)] else [])
  else (bif Nat.beq o 15 then [(9, 14), (15, 15)] else [])))
def jtSl (o : Nat) : List (Nat × Nat) := bif Nat.blt o 8 then (bif Nat.beq o 0 then [(49, 1)] else [])
else (bif Nat.beq o 8 then [(117, 2), (240, 1)] else [])
def jtLl (o : Nat) : List (Nat × Int64) := bif Nat.blt o 7 then (bif Nat.blt o 6 then (bif Nat.beq o 2 then [(97, (-3))] else [])
  else (bif Nat.beq o 6 then [(38, 7), (80, 2), (85, 3), (87, 4), (89, 31)] else []))
else (bif Nat.blt o 15 then (bif Nat.beq o 7 then [(75, (-4)), (124, (-1))] else [])
  else (bif Nat.beq o 15 then [(192, (-3)), (211, (-2)), (284, (-4)), (297, (-1)), (378, (-5)), (415, 7), (417, 31), (419, 2)] else []))
def jtCl (o : Nat) : List (Nat × (Nat × Nat × Option Nat)) := bif Nat.blt o 8 then (bif Nat.blt o 4 then (bif Nat.blt o 2 then (bif Nat.blt o 1 then (bif Nat.beq o 0 then [(3, (0, 1, none)), (45, (19, 2, some 0)), (52, (26, 2, some 0)), (55, (20, 2, some 0)), (59, (21, 4, some 0))] else [])
  else (bif Nat.beq o 1 then [(3, (0, 1, none)), (23, (78, 2, some 1))] else []))
  else (bif Nat.blt o 3 then (bif Nat.beq o 2 then [(3, (0, 1, none)), (35, (25, 1, some 10)), (36, (26, 2, some 0)), (42, (27, 3, some 10)), (46, (19, 2, some 0)), (53, (28, 2, some 1)), (58, (29, 2, some 1)), (61, (30, 4, some 1)), (65, (68, 1, some 2)), (69, (81, 4, some 10)), (81, (82, 2, some 2)), (89, (31, 4, some 2)), (93, (78, 2, some 1)), (105, (80, 3, some 1))] else [])
  else (bif Nat.beq o 3 then [(3, (0, 1, none)), (11, (3, 2, some 1)), (30, (4, 3, some 2)), (33, (7, 1, some 3)), (36, (5, 2, some 1)), (39, (6, 2, some 2)), (61, (68, 1, some 2)), (70, (24, 1, some 2)), (74, (31, 4, some 2)), (78, (32, 2, some 3)), (94, (37, 4, some 4))] else [])))
  else (bif Nat.blt o 6 then (bif Nat.blt o 5 then (bif Nat.beq o 4 then [(3, (0, 1, none)), (18, (10, 2, none)), (52, (37, 4, some 4)), (56, (39, 2, some 4)), (60, (1, 5, none))] else [])
  else (bif Nat.beq o 5 then [(3, (0, 1, none)), (23, (9, 1, some 4)), (41, (13, 1, some 5)), (60, (12, 1, some 5)), (69, (11, 1, some 4)), (72, (60, 2, some 5)), (76, (84, 2, none)), (80, (85, 3, some 5)), (84, (86, 1, some 11)), (85, (87, 3, some 11)), (96, (37, 4, some 4)), (100, (38, 2, some 3)), (106, (120, 1, some 5)), (109, (39, 2, some 4)), (113, (53, 2, some 5)), (117, (40, 2, some 4)), (121, (41, 1, some 5)), (126, (42, 1, some 5)), (130, (45, 1, some 5)), (133, (10, 2, none)), (139, (43, 2, some 4)), (142, (44, 2, some 5))] else []))
  else (bif Nat.blt o 7 then (bif Nat.beq o 6 then [(3, (0, 1, none)), (25, (10, 2, none)), (49, (62, 3, some 6)), (53, (63, 1, some 6)), (56, (60, 2, some 5)), (68, (29, 2, some 1)), (72, (28, 2, some 1)), (76, (61, 2, some 6))] else [])
  else (bif Nat.beq o 7 then [(3, (0, 1, none)), (25, (29, 2, some 1)), (29, (89, 3, some 5)), (41, (94, 5, some 7)), (45, (78, 2, some 1)), (49, (95, 4, some 3)), (55, (97, 3, some 7)), (59, (101, 4, some 7)), (63, (80, 3, some 1)), (67, (92, 4, some 7)), (71, (103, 3, some 7)), (77, (83, 4, some 2)), (83, (24, 1, some 2)), (87, (32, 2, some 3)), (91, (68, 1, some 2)), (101, (91, 5, some 7)), (108, (90, 4, some 7)), (112, (28, 2, some 1)), (116, (93, 3, some 7)), (120, (106, 4, some 7)), (126, (105, 2, some 1)), (136, (98, 3, some 5)), (140, (99, 1, some 1)), (143, (100, 4, some 7))] else []))))
else (bif Nat.blt o 12 then (bif Nat.blt o 10 then (bif Nat.blt o 9 then (bif Nat.beq o 8 then [(3, (0, 1, none)), (36, (16, 3, some 7)), (43, (7, 1, some 3)), (48, (13, 1, some 5)), (67, (33, 4, some 3)), (71, (34, 1, some 3)), (74, (75, 1, some 3)), (78, (68, 1, some 2)), (84, (76, 2, some 0)), (105, (77, 3, some 0)), (120, (118, 5, some 8)), (124, (78, 2, some 1)), (128, (83, 4, some 2)), (132, (119, 3, some 8)), (136, (121, 2, some 5)), (143, (24, 1, some 2)), (153, (32, 2, some 3)), (157, (79, 5, some 8)), (161, (28, 2, some 1)), (165, (29, 2, some 1)), (169, (85, 3, some 5)), (173, (54, 1, some 5)), (176, (88, 3, some 5)), (179, (80, 3, some 1)), (183, (96, 3, some 7)), (187, (102, 3, some 7)), (190, (104, 2, some 7)), (194, (107, 4, some 7)), (198, (109, 4, some 8)), (202, (110, 2, some 10)), (206, (111, 1, some 2)), (209, (113, 4, some 8)), (213, (114, 4, some 8)), (216, (116, 3, some 8)), (220, (117, 4, some 8)), (224, (19, 2, some 0)), (227, (31, 4, some 2)), (230, (105, 2, some 1)), (233, (108, 2, some 8)), (237, (112, 2, some 1)), (246, (30, 4, some 1)), (249, (115, 4, some 8)), (253, (89, 3, some 5)), (262, (98, 3, some 5))] else [])
  else (bif Nat.beq o 9 then [(1, (0, 1, none)), (9, (2, 1, some 0)), (18, (8, 2, some 3)), (27, (14, 2, some 5)), (36, (15, 2, some 6)), (45, (17, 4, some 8)), (65, (66, 3, some 0)), (72, (50, 3, some 0)), (76, (51, 3, some 0)), (79, (19, 2, some 0)), (83, (22, 1, some 0)), (87, (23, 1, some 8)), (90, (35, 2, some 8)), (94, (48, 1, some 0)), (103, (122, 1, some 8)), (106, (127, 1, some 8)), (117, (125, 2, some 2)), (122, (69, 2, some 3)), (129, (28, 2, some 1)), (133, (29, 2, some 1)), (136, (70, 2, some 5)), (149, (56, 1, some 3)), (159, (57, 1, some 5)), (162, (58, 1, some 5)), (166, (64, 2, some 6)), (170, (54, 1, some 5)), (176, (46, 1, some 5))] else []))
  else (bif Nat.blt o 11 then (bif Nat.beq o 10 then [(3, (0, 1, none)), (11, (3, 2, some 1)), (43, (5, 2, some 1)), (49, (80, 3, some 1)), (53, (28, 2, some 1)), (57, (29, 2, some 1)), (61, (78, 2, some 1))] else [])
  else (bif Nat.beq o 11 then [(3, (0, 1, none)), (11, (3, 2, some 1)), (27, (84, 2, none)), (38, (5, 2, some 1))] else [])))
  else (bif Nat.blt o 14 then (bif Nat.blt o 13 then (bif Nat.beq o 12 then [(3, (0, 1, none))] else [])
  else (bif Nat.beq o 13 then [(3, (0, 1, none))] else []))
  else (bif Nat.blt o 15 then (bif Nat.beq o 14 then [(3, (0, 1, none))] else [])
  else (bif Nat.blt o 16 then (bif Nat.beq o 15 then [(1, (0, 1, none)), (75, (134, 1, some 12)), (76, (135, 1, some 13)), (83, (136, 1, some 14)), (100, (167, 1, some 12)), (107, (168, 3, some 15)), (166, (169, 1, some 15)), (181, (153, 1, none)), (188, (156, 2, some 15)), (197, (144, 4, some 15)), (207, (157, 3, some 15)), (216, (172, 4, some 15)), (220, (175, 4, some 15)), (224, (176, 4, some 15)), (237, (165, 2, some 15)), (241, (159, 4, some 15)), (245, (180, 2, some 15)), (248, (177, 3, some 15)), (252, (181, 7, some 15)), (265, (184, 3, some 15)), (272, (158, 3, some 15)), (276, (178, 3, some 15)), (280, (179, 3, some 15)), (286, (182, 4, some 15)), (290, (185, 2, some 15)), (293, (160, 3, some 15)), (299, (152, 1, some 15)), (312, (190, 5, some 15)), (317, (191, 1, some 15)), (320, (154, 3, some 15)), (324, (155, 1, none)), (327, (161, 3, some 15)), (330, (162, 3, some 15)), (334, (164, 3, some 15)), (337, (166, 3, some 15)), (339, (171, 4, some 15)), (343, (173, 4, some 15)), (347, (174, 4, some 15)), (350, (183, 2, some 15)), (353, (186, 2, some 15)), (356, (187, 2, some 15)), (359, (188, 3, some 15)), (365, (189, 3, some 15)), (369, (163, 3, some 15)), (375, (170, 3, some 15)), (389, (140, 3, some 15)), (393, (142, 1, some 15)), (397, (143, 1, some 15)), (400, (192, 1, some 15)), (403, (1, 5, none)), (409, (199, 3, some 15))] else [])
  else (bif Nat.beq o 16 then [(7, (67, 3, some 9)), (17, (52, 3, some 9)), (20, (36, 2, some 9)), (24, (74, 2, some 9)), (28, (73, 2, some 9)), (31, (123, 2, some 9)), (34, (126, 3, some 9)), (39, (72, 3, some 9)), (43, (71, 3, some 9)), (46, (59, 2, some 9)), (49, (18, 1, some 9)), (52, (137, 1, some 15)), (53, (132, 4, none)), (58, (138, 3, some 15)), (59, (139, 1, some 15)), (63, (130, 4, none)), (65, (141, 3, some 15)), (66, (129, 2, none)), (69, (145, 2, some 15)), (70, (49, 1, some 9)), (73, (146, 1, some 15)), (74, (147, 3, none)), (77, (148, 2, some 15)), (78, (149, 3, none)), (80, (150, 2, some 15)), (81, (151, 3, none)), (83, (193, 2, some 15)), (84, (124, 1, some 9)), (87, (194, 1, some 15)), (88, (128, 1, some 9)), (92, (195, 1, some 15)), (93, (196, 4, none)), (95, (197, 3, some 15)), (96, (198, 4, none)), (98, (200, 3, some 15)), (99, (133, 4, none)), (101, (201, 3, some 15)), (102, (131, 3, none)), (104, (202, 2, some 15)), (105, (65, 1, some 9)), (108, (203, 1, some 15)), (109, (55, 1, some 9)), (112, (204, 1, some 15)), (113, (47, 1, some 9)), (116, (205, 1, some 15))] else [])))))
def jsta (j : Nat) : Bool := bif Nat.blt j 102 then (bif Nat.blt j 51 then (bif Nat.blt j 25 then (bif Nat.blt j 12 then (bif Nat.blt j 6 then (bif Nat.blt j 3 then (bif Nat.blt j 1 then (bif Nat.beq j 0 then false else false)
  else (bif Nat.blt j 2 then (bif Nat.beq j 1 then false else false)
  else (bif Nat.beq j 2 then false else false)))
  else (bif Nat.blt j 4 then (bif Nat.beq j 3 then false else false)
  else (bif Nat.blt j 5 then (bif Nat.beq j 4 then false else false)
  else (bif Nat.beq j 5 then false else false))))
  else (bif Nat.blt j 9 then (bif Nat.blt j 7 then (bif Nat.beq j 6 then false else false)
  else (bif Nat.blt j 8 then (bif Nat.beq j 7 then false else false)
  else (bif Nat.beq j 8 then true else false)))
  else (bif Nat.blt j 10 then (bif Nat.beq j 9 then false else false)
  else (bif Nat.blt j 11 then (bif Nat.beq j 10 then false else false)
  else (bif Nat.beq j 11 then false else false)))))
  else (bif Nat.blt j 18 then (bif Nat.blt j 15 then (bif Nat.blt j 13 then (bif Nat.beq j 12 then false else false)
  else (bif Nat.blt j 14 then (bif Nat.beq j 13 then false else false)
  else (bif Nat.beq j 14 then false else false)))
  else (bif Nat.blt j 16 then (bif Nat.beq j 15 then false else false)
  else (bif Nat.blt j 17 then (bif Nat.beq j 16 then false else false)
  else (bif Nat.beq j 17 then false else false))))
  else (bif Nat.blt j 21 then (bif Nat.blt j 19 then (bif Nat.beq j 18 then false else false)
  else (bif Nat.blt j 20 then (bif Nat.beq j 19 then false else false)
  else (bif Nat.beq j 20 then false else false)))
  else (bif Nat.blt j 23 then (bif Nat.blt j 22 then (bif Nat.beq j 21 then false else false)
  else (bif Nat.beq j 22 then false else false))
  else (bif Nat.blt j 24 then (bif Nat.beq j 23 then false else false)
  else (bif Nat.beq j 24 then false else false))))))
  else (bif Nat.blt j 38 then (bif Nat.blt j 31 then (bif Nat.blt j 28 then (bif Nat.blt j 26 then (bif Nat.beq j 25 then false else false)
  else (bif Nat.blt j 27 then (bif Nat.beq j 26 then false else false)
  else (bif Nat.beq j 27 then false else false)))
  else (bif Nat.blt j 29 then (bif Nat.beq j 28 then false else false)
  else (bif Nat.blt j 30 then (bif Nat.beq j 29 then false else false)
  else (bif Nat.beq j 30 then false else false))))
  else (bif Nat.blt j 34 then (bif Nat.blt j 32 then (bif Nat.beq j 31 then false else false)
  else (bif Nat.blt j 33 then (bif Nat.beq j 32 then false else false)
  else (bif Nat.beq j 33 then false else false)))
  else (bif Nat.blt j 36 then (bif Nat.blt j 35 then (bif Nat.beq j 34 then false else false)
  else (bif Nat.beq j 35 then false else false))
  else (bif Nat.blt j 37 then (bif Nat.beq j 36 then false else false)
  else (bif Nat.beq j 37 then false else false)))))
  else (bif Nat.blt j 44 then (bif Nat.blt j 41 then (bif Nat.blt j 39 then (bif Nat.beq j 38 then false else false)
  else (bif Nat.blt j 40 then (bif Nat.beq j 39 then false else false)
  else (bif Nat.beq j 40 then false else false)))
  else (bif Nat.blt j 42 then (bif Nat.beq j 41 then false else false)
  else (bif Nat.blt j 43 then (bif Nat.beq j 42 then false else false)
  else (bif Nat.beq j 43 then false else false))))
  else (bif Nat.blt j 47 then (bif Nat.blt j 45 then (bif Nat.beq j 44 then false else false)
  else (bif Nat.blt j 46 then (bif Nat.beq j 45 then false else false)
  else (bif Nat.beq j 46 then false else false)))
  else (bif Nat.blt j 49 then (bif Nat.blt j 48 then (bif Nat.beq j 47 then false else false)
  else (bif Nat.beq j 48 then false else false))
  else (bif Nat.blt j 50 then (bif Nat.beq j 49 then false else false)
  else (bif Nat.beq j 50 then false else false)))))))
  else (bif Nat.blt j 76 then (bif Nat.blt j 63 then (bif Nat.blt j 57 then (bif Nat.blt j 54 then (bif Nat.blt j 52 then (bif Nat.beq j 51 then false else false)
  else (bif Nat.blt j 53 then (bif Nat.beq j 52 then false else false)
  else (bif Nat.beq j 53 then false else false)))
  else (bif Nat.blt j 55 then (bif Nat.beq j 54 then false else false)
  else (bif Nat.blt j 56 then (bif Nat.beq j 55 then false else false)
  else (bif Nat.beq j 56 then false else false))))
  else (bif Nat.blt j 60 then (bif Nat.blt j 58 then (bif Nat.beq j 57 then false else false)
  else (bif Nat.blt j 59 then (bif Nat.beq j 58 then false else false)
  else (bif Nat.beq j 59 then false else false)))
  else (bif Nat.blt j 61 then (bif Nat.beq j 60 then false else false)
  else (bif Nat.blt j 62 then (bif Nat.beq j 61 then false else false)
  else (bif Nat.beq j 62 then false else false)))))
  else (bif Nat.blt j 69 then (bif Nat.blt j 66 then (bif Nat.blt j 64 then (bif Nat.beq j 63 then false else false)
  else (bif Nat.blt j 65 then (bif Nat.beq j 64 then false else false)
  else (bif Nat.beq j 65 then false else false)))
  else (bif Nat.blt j 67 then (bif Nat.beq j 66 then false else false)
  else (bif Nat.blt j 68 then (bif Nat.beq j 67 then false else false)
  else (bif Nat.beq j 68 then false else false))))
  else (bif Nat.blt j 72 then (bif Nat.blt j 70 then (bif Nat.beq j 69 then false else false)
  else (bif Nat.blt j 71 then (bif Nat.beq j 70 then false else false)
  else (bif Nat.beq j 71 then false else false)))
  else (bif Nat.blt j 74 then (bif Nat.blt j 73 then (bif Nat.beq j 72 then false else false)
  else (bif Nat.beq j 73 then false else false))
  else (bif Nat.blt j 75 then (bif Nat.beq j 74 then false else false)
  else (bif Nat.beq j 75 then false else false))))))
  else (bif Nat.blt j 89 then (bif Nat.blt j 82 then (bif Nat.blt j 79 then (bif Nat.blt j 77 then (bif Nat.beq j 76 then false else false)
  else (bif Nat.blt j 78 then (bif Nat.beq j 77 then false else false)
  else (bif Nat.beq j 78 then false else false)))
  else (bif Nat.blt j 80 then (bif Nat.beq j 79 then false else false)
  else (bif Nat.blt j 81 then (bif Nat.beq j 80 then false else false)
  else (bif Nat.beq j 81 then false else false))))
  else (bif Nat.blt j 85 then (bif Nat.blt j 83 then (bif Nat.beq j 82 then true else false)
  else (bif Nat.blt j 84 then (bif Nat.beq j 83 then false else false)
  else (bif Nat.beq j 84 then false else false)))
  else (bif Nat.blt j 87 then (bif Nat.blt j 86 then (bif Nat.beq j 85 then false else false)
  else (bif Nat.beq j 86 then false else false))
  else (bif Nat.blt j 88 then (bif Nat.beq j 87 then false else false)
  else (bif Nat.beq j 88 then false else false)))))
  else (bif Nat.blt j 95 then (bif Nat.blt j 92 then (bif Nat.blt j 90 then (bif Nat.beq j 89 then false else false)
  else (bif Nat.blt j 91 then (bif Nat.beq j 90 then false else false)
  else (bif Nat.beq j 91 then false else false)))
  else (bif Nat.blt j 93 then (bif Nat.beq j 92 then false else false)
  else (bif Nat.blt j 94 then (bif Nat.beq j 93 then false else false)
  else (bif Nat.beq j 94 then false else false))))
  else (bif Nat.blt j 98 then (bif Nat.blt j 96 then (bif Nat.beq j 95 then false else false)
  else (bif Nat.blt j 97 then (bif Nat.beq j 96 then false else false)
  else (bif Nat.beq j 97 then false else false)))
  else (bif Nat.blt j 100 then (bif Nat.blt j 99 then (bif Nat.beq j 98 then false else false)
  else (bif Nat.beq j 99 then false else false))
  else (bif Nat.blt j 101 then (bif Nat.beq j 100 then false else false)
  else (bif Nat.beq j 101 then false else false))))))))
else (bif Nat.blt j 153 then (bif Nat.blt j 127 then (bif Nat.blt j 114 then (bif Nat.blt j 108 then (bif Nat.blt j 105 then (bif Nat.blt j 103 then (bif Nat.beq j 102 then false else false)
  else (bif Nat.blt j 104 then (bif Nat.beq j 103 then false else false)
  else (bif Nat.beq j 104 then false else false)))
  else (bif Nat.blt j 106 then (bif Nat.beq j 105 then false else false)
  else (bif Nat.blt j 107 then (bif Nat.beq j 106 then false else false)
  else (bif Nat.beq j 107 then false else false))))
  else (bif Nat.blt j 111 then (bif Nat.blt j 109 then (bif Nat.beq j 108 then false else false)
  else (bif Nat.blt j 110 then (bif Nat.beq j 109 then false else false)
  else (bif Nat.beq j 110 then false else false)))
  else (bif Nat.blt j 112 then (bif Nat.beq j 111 then false else false)
  else (bif Nat.blt j 113 then (bif Nat.beq j 112 then false else false)
  else (bif Nat.beq j 113 then false else false)))))
  else (bif Nat.blt j 120 then (bif Nat.blt j 117 then (bif Nat.blt j 115 then (bif Nat.beq j 114 then false else false)
  else (bif Nat.blt j 116 then (bif Nat.beq j 115 then false else false)
  else (bif Nat.beq j 116 then false else false)))
  else (bif Nat.blt j 118 then (bif Nat.beq j 117 then false else false)
  else (bif Nat.blt j 119 then (bif Nat.beq j 118 then false else false)
  else (bif Nat.beq j 119 then false else false))))
  else (bif Nat.blt j 123 then (bif Nat.blt j 121 then (bif Nat.beq j 120 then false else false)
  else (bif Nat.blt j 122 then (bif Nat.beq j 121 then false else false)
  else (bif Nat.beq j 122 then false else false)))
  else (bif Nat.blt j 125 then (bif Nat.blt j 124 then (bif Nat.beq j 123 then false else false)
  else (bif Nat.beq j 124 then false else false))
  else (bif Nat.blt j 126 then (bif Nat.beq j 125 then false else false)
  else (bif Nat.beq j 126 then false else false))))))
  else (bif Nat.blt j 140 then (bif Nat.blt j 133 then (bif Nat.blt j 130 then (bif Nat.blt j 128 then (bif Nat.beq j 127 then true else false)
  else (bif Nat.blt j 129 then (bif Nat.beq j 128 then true else false)
  else (bif Nat.beq j 129 then true else false)))
  else (bif Nat.blt j 131 then (bif Nat.beq j 130 then true else false)
  else (bif Nat.blt j 132 then (bif Nat.beq j 131 then true else false)
  else (bif Nat.beq j 132 then false else false))))
  else (bif Nat.blt j 136 then (bif Nat.blt j 134 then (bif Nat.beq j 133 then false else false)
  else (bif Nat.blt j 135 then (bif Nat.beq j 134 then false else false)
  else (bif Nat.beq j 135 then false else false)))
  else (bif Nat.blt j 138 then (bif Nat.blt j 137 then (bif Nat.beq j 136 then false else false)
  else (bif Nat.beq j 137 then false else false))
  else (bif Nat.blt j 139 then (bif Nat.beq j 138 then false else false)
  else (bif Nat.beq j 139 then false else false)))))
  else (bif Nat.blt j 146 then (bif Nat.blt j 143 then (bif Nat.blt j 141 then (bif Nat.beq j 140 then false else false)
  else (bif Nat.blt j 142 then (bif Nat.beq j 141 then false else false)
  else (bif Nat.beq j 142 then false else false)))
  else (bif Nat.blt j 144 then (bif Nat.beq j 143 then false else false)
  else (bif Nat.blt j 145 then (bif Nat.beq j 144 then false else false)
  else (bif Nat.beq j 145 then true else false))))
  else (bif Nat.blt j 149 then (bif Nat.blt j 147 then (bif Nat.beq j 146 then false else false)
  else (bif Nat.blt j 148 then (bif Nat.beq j 147 then true else false)
  else (bif Nat.beq j 148 then false else false)))
  else (bif Nat.blt j 151 then (bif Nat.blt j 150 then (bif Nat.beq j 149 then true else false)
  else (bif Nat.beq j 150 then false else false))
  else (bif Nat.blt j 152 then (bif Nat.beq j 151 then true else false)
  else (bif Nat.beq j 152 then false else false)))))))
  else (bif Nat.blt j 179 then (bif Nat.blt j 166 then (bif Nat.blt j 159 then (bif Nat.blt j 156 then (bif Nat.blt j 154 then (bif Nat.beq j 153 then true else false)
  else (bif Nat.blt j 155 then (bif Nat.beq j 154 then false else false)
  else (bif Nat.beq j 155 then false else false)))
  else (bif Nat.blt j 157 then (bif Nat.beq j 156 then false else false)
  else (bif Nat.blt j 158 then (bif Nat.beq j 157 then false else false)
  else (bif Nat.beq j 158 then false else false))))
  else (bif Nat.blt j 162 then (bif Nat.blt j 160 then (bif Nat.beq j 159 then false else false)
  else (bif Nat.blt j 161 then (bif Nat.beq j 160 then false else false)
  else (bif Nat.beq j 161 then false else false)))
  else (bif Nat.blt j 164 then (bif Nat.blt j 163 then (bif Nat.beq j 162 then false else false)
  else (bif Nat.beq j 163 then false else false))
  else (bif Nat.blt j 165 then (bif Nat.beq j 164 then false else false)
  else (bif Nat.beq j 165 then false else false)))))
  else (bif Nat.blt j 172 then (bif Nat.blt j 169 then (bif Nat.blt j 167 then (bif Nat.beq j 166 then false else false)
  else (bif Nat.blt j 168 then (bif Nat.beq j 167 then false else false)
  else (bif Nat.beq j 168 then false else false)))
  else (bif Nat.blt j 170 then (bif Nat.beq j 169 then false else false)
  else (bif Nat.blt j 171 then (bif Nat.beq j 170 then false else false)
  else (bif Nat.beq j 171 then false else false))))
  else (bif Nat.blt j 175 then (bif Nat.blt j 173 then (bif Nat.beq j 172 then false else false)
  else (bif Nat.blt j 174 then (bif Nat.beq j 173 then false else false)
  else (bif Nat.beq j 174 then false else false)))
  else (bif Nat.blt j 177 then (bif Nat.blt j 176 then (bif Nat.beq j 175 then false else false)
  else (bif Nat.beq j 176 then false else false))
  else (bif Nat.blt j 178 then (bif Nat.beq j 177 then false else false)
  else (bif Nat.beq j 178 then false else false))))))
  else (bif Nat.blt j 192 then (bif Nat.blt j 185 then (bif Nat.blt j 182 then (bif Nat.blt j 180 then (bif Nat.beq j 179 then false else false)
  else (bif Nat.blt j 181 then (bif Nat.beq j 180 then false else false)
  else (bif Nat.beq j 181 then false else false)))
  else (bif Nat.blt j 183 then (bif Nat.beq j 182 then false else false)
  else (bif Nat.blt j 184 then (bif Nat.beq j 183 then false else false)
  else (bif Nat.beq j 184 then false else false))))
  else (bif Nat.blt j 188 then (bif Nat.blt j 186 then (bif Nat.beq j 185 then false else false)
  else (bif Nat.blt j 187 then (bif Nat.beq j 186 then false else false)
  else (bif Nat.beq j 187 then false else false)))
  else (bif Nat.blt j 190 then (bif Nat.blt j 189 then (bif Nat.beq j 188 then false else false)
  else (bif Nat.beq j 189 then false else false))
  else (bif Nat.blt j 191 then (bif Nat.beq j 190 then false else false)
  else (bif Nat.beq j 191 then false else false)))))
  else (bif Nat.blt j 198 then (bif Nat.blt j 195 then (bif Nat.blt j 193 then (bif Nat.beq j 192 then false else false)
  else (bif Nat.blt j 194 then (bif Nat.beq j 193 then false else false)
  else (bif Nat.beq j 194 then true else false)))
  else (bif Nat.blt j 196 then (bif Nat.beq j 195 then false else false)
  else (bif Nat.blt j 197 then (bif Nat.beq j 196 then true else false)
  else (bif Nat.beq j 197 then false else false))))
  else (bif Nat.blt j 201 then (bif Nat.blt j 199 then (bif Nat.beq j 198 then false else false)
  else (bif Nat.blt j 200 then (bif Nat.beq j 199 then false else false)
  else (bif Nat.beq j 200 then false else false)))
  else (bif Nat.blt j 203 then (bif Nat.blt j 202 then (bif Nat.beq j 201 then false else false)
  else (bif Nat.beq j 202 then false else false))
  else (bif Nat.blt j 204 then (bif Nat.beq j 203 then false else false)
  else (bif Nat.beq j 204 then false else false))))))))
def jfl (c : Nat) : List (String × String × String × Bool) := bif Nat.blt c 8 then (bif Nat.blt c 4 then (bif Nat.blt c 2 then (bif Nat.blt c 1 then (bif Nat.beq c 0 then [("StrandRuntime$Program", "params", "[I", true), ("StrandRuntime$Program", "locals", "[I", true), ("StrandRuntime$Program", "first", "[I", true), ("StrandRuntime$Program", "length", "[I", true), ("StrandRuntime$Program", "ops", "[I", true), ("StrandRuntime$Program", "args", "[I", true), ("StrandRuntime$Program", "functions", "I", false), ("StrandRuntime$Program", "size", "I", false)] else [])
  else (bif Nat.beq c 1 then [("StrandRuntime$Row", "numbers", "[J", true), ("StrandRuntime$Row", "tags", "[I", true), ("StrandRuntime$Row", "size", "I", false)] else []))
  else (bif Nat.blt c 3 then (bif Nat.beq c 2 then [("StrandRuntime$Strand", "program", "LStrandRuntime$Program;", true), ("StrandRuntime$Strand", "number", "I", true), ("StrandRuntime$Strand", "frames", "[LStrandRuntime$Frame;", true), ("StrandRuntime$Strand", "depth", "I", false), ("StrandRuntime$Strand", "status", "I", false), ("StrandRuntime$Strand", "waitsSince", "I", false), ("StrandRuntime$Strand", "cases", "I", false), ("StrandRuntime$Strand", "result", "J", false)] else [])
  else (bif Nat.beq c 3 then [("StrandRuntime$World", "globals", "LStrandRuntime$Row;", true), ("StrandRuntime$World", "strands", "[LStrandRuntime$Strand;", true), ("StrandRuntime$World", "queue", "[I", true), ("StrandRuntime$World", "queueFirst", "I", false), ("StrandRuntime$World", "queueSize", "I", false), ("StrandRuntime$World", "running", "I", false), ("StrandRuntime$World", "stepsInTurn", "I", false), ("StrandRuntime$World", "made", "I", false), ("StrandRuntime$World", "waits", "I", false)] else [])))
  else (bif Nat.blt c 6 then (bif Nat.blt c 5 then (bif Nat.beq c 4 then [("StrandRuntime$Tracer", "colours", "[I", true), ("StrandRuntime$Tracer", "greys", "[I", true), ("StrandRuntime$Tracer", "greySize", "I", false), ("StrandRuntime$Tracer", "objects", "I", false), ("StrandRuntime$Tracer", "cells", "I", false)] else [])
  else (bif Nat.beq c 5 then [("StrandRuntime$Heap", "world", "LStrandRuntime$World;", true), ("StrandRuntime$Heap", "things", "[LStrandRuntime$Thing;", true), ("StrandRuntime$Heap", "free", "[I", true), ("StrandRuntime$Heap", "beside", "LStrandRuntime$Tracer;", true), ("StrandRuntime$Heap", "whole", "LStrandRuntime$Tracer;", true), ("StrandRuntime$Heap", "foreseen", "LStrandRuntime$Tracer;", true), ("StrandRuntime$Heap", "seats", "[I", true), ("StrandRuntime$Heap", "freeSize", "I", false), ("StrandRuntime$Heap", "objects", "I", false), ("StrandRuntime$Heap", "cells", "I", false), ("StrandRuntime$Heap", "made", "I", false), ("StrandRuntime$Heap", "round", "I", false), ("StrandRuntime$Heap", "sweepAt", "I", false), ("StrandRuntime$Heap", "youngCells", "I", false)] else []))
  else (bif Nat.blt c 7 then (bif Nat.beq c 6 then [("StrandRuntime$Digest", "heap", "LStrandRuntime$Heap;", true), ("StrandRuntime$Digest", "metAs", "[I", true), ("StrandRuntime$Digest", "way", "[I", true), ("StrandRuntime$Digest", "nextValue", "[I", true), ("StrandRuntime$Digest", "depth", "I", false), ("StrandRuntime$Digest", "met", "I", false), ("StrandRuntime$Digest", "sum", "J", false)] else [])
  else (bif Nat.beq c 7 then [("StrandRuntime$Channels", "world", "LStrandRuntime$World;", true), ("StrandRuntime$Channels", "heap", "LStrandRuntime$Heap;", true)] else []))))
else (bif Nat.blt c 12 then (bif Nat.blt c 10 then (bif Nat.blt c 9 then (bif Nat.beq c 8 then [("StrandRuntime$Machine", "program", "LStrandRuntime$Program;", true), ("StrandRuntime$Machine", "world", "LStrandRuntime$World;", true), ("StrandRuntime$Machine", "heap", "LStrandRuntime$Heap;", true), ("StrandRuntime$Machine", "channels", "LStrandRuntime$Channels;", true), ("StrandRuntime$Machine", "written", "[J", true), ("StrandRuntime$Machine", "firstUntaken", "I", false), ("StrandRuntime$Machine", "untaken", "I", false), ("StrandRuntime$Machine", "phase", "I", false), ("StrandRuntime$Machine", "steps", "I", false), ("StrandRuntime$Machine", "quantum", "I", false), ("StrandRuntime$Machine", "pace", "I", false)] else [])
  else (bif Nat.beq c 9 then [("StrandRuntime", "program", "LStrandRuntime$Program;", true), ("StrandRuntime", "world", "LStrandRuntime$World;", true), ("StrandRuntime", "heap", "LStrandRuntime$Heap;", true), ("StrandRuntime", "digester", "LStrandRuntime$Digest;", true), ("StrandRuntime", "machine", "LStrandRuntime$Machine;", true)] else []))
  else (bif Nat.blt c 11 then (bif Nat.beq c 10 then [("StrandRuntime$Frame", "locals", "LStrandRuntime$Row;", true), ("StrandRuntime$Frame", "operands", "LStrandRuntime$Row;", true), ("StrandRuntime$Frame", "deferred", "LStrandRuntime$Row;", true), ("StrandRuntime$Frame", "deferredFunctions", "[I", true), ("StrandRuntime$Frame", "outcome", "LStrandRuntime$Row;", true), ("StrandRuntime$Frame", "function", "I", false), ("StrandRuntime$Frame", "place", "I", false), ("StrandRuntime$Frame", "ending", "I", false)] else [])
  else (bif Nat.beq c 11 then [("StrandRuntime$Thing", "values", "LStrandRuntime$Row;", true), ("StrandRuntime$Thing", "type", "I", false), ("StrandRuntime$Thing", "room", "I", false), ("StrandRuntime$Thing", "cells", "I", false), ("StrandRuntime$Thing", "isClosed", "Z", false)] else [])))
  else (bif Nat.blt c 14 then (bif Nat.blt c 13 then (bif Nat.beq c 12 then [("StrandRuntimeModel$Thing", "kind", "I", false), ("StrandRuntimeModel$Thing", "size", "I", false), ("StrandRuntimeModel$Thing", "held", "I", false), ("StrandRuntimeModel$Thing", "met", "I", false), ("StrandRuntimeModel$Thing", "isClosed", "Z", false), ("StrandRuntimeModel$Thing", "isReached", "Z", false), ("StrandRuntimeModel$Thing", "k", "[I", true), ("StrandRuntimeModel$Thing", "v", "[J", true)] else [])
  else (bif Nat.beq c 13 then [("StrandRuntimeModel$Strand", "state", "I", false), ("StrandRuntimeModel$Strand", "frames", "I", false), ("StrandRuntimeModel$Strand", "ended", "I", false), ("StrandRuntimeModel$Strand", "since", "J", false), ("StrandRuntimeModel$Strand", "frame", "[LStrandRuntimeModel$Frame;", true)] else []))
  else (bif Nat.blt c 15 then (bif Nat.beq c 14 then [("StrandRuntimeModel$Frame", "function", "I", false), ("StrandRuntimeModel$Frame", "place", "I", false), ("StrandRuntimeModel$Frame", "operands", "I", false), ("StrandRuntimeModel$Frame", "deferred", "I", false), ("StrandRuntimeModel$Frame", "phase", "I", false), ("StrandRuntimeModel$Frame", "isDeferred", "Z", false), ("StrandRuntimeModel$Frame", "number", "J", false), ("StrandRuntimeModel$Frame", "backKind", "I", false), ("StrandRuntimeModel$Frame", "back", "J", false), ("StrandRuntimeModel$Frame", "lk", "[I", true), ("StrandRuntimeModel$Frame", "ok", "[I", true), ("StrandRuntimeModel$Frame", "dk", "[I", true), ("StrandRuntimeModel$Frame", "df", "[I", true), ("StrandRuntimeModel$Frame", "lv", "[J", true), ("StrandRuntimeModel$Frame", "ov", "[J", true), ("StrandRuntimeModel$Frame", "dv", "[J", true)] else [])
  else (bif Nat.beq c 15 then [("StrandRuntimeModel", "thing", "[LStrandRuntimeModel$Thing;", true), ("StrandRuntimeModel", "strand", "[LStrandRuntimeModel$Strand;", true), ("StrandRuntimeModel", "globalKind", "[I", true), ("StrandRuntimeModel", "params", "[I", true), ("StrandRuntimeModel", "locals", "[I", true), ("StrandRuntimeModel", "from", "[I", true), ("StrandRuntimeModel", "many", "[I", true), ("StrandRuntimeModel", "op", "[I", true), ("StrandRuntimeModel", "arg", "[I", true), ("StrandRuntimeModel", "global", "[J", true), ("StrandRuntimeModel", "written", "[J", true), ("StrandRuntimeModel", "queue", "[I", true), ("StrandRuntimeModel", "open", "[I", true), ("StrandRuntimeModel", "functions", "I", false), ("StrandRuntimeModel", "codes", "I", false), ("StrandRuntimeModel", "queued", "I", false), ("StrandRuntimeModel", "running", "I", false), ("StrandRuntimeModel", "state", "I", false), ("StrandRuntimeModel", "quantum", "I", false), ("StrandRuntimeModel", "pace", "I", false), ("StrandRuntimeModel", "inTurn", "I", false), ("StrandRuntimeModel", "steps", "I", false), ("StrandRuntimeModel", "strands", "I", false), ("StrandRuntimeModel", "made", "I", false), ("StrandRuntimeModel", "writes", "I", false), ("StrandRuntimeModel", "thrown", "I", false), ("StrandRuntimeModel", "reachedCells", "I", false), ("StrandRuntimeModel", "reached", "I", false), ("StrandRuntimeModel", "clock", "J", false), ("StrandRuntimeModel", "isBegun", "Z", false), ("StrandRuntimeModel", "opened", "I", false), ("StrandRuntimeModel", "pk", "[I", true), ("StrandRuntimeModel", "pv", "[J", true), ("StrandRuntimeModel", "givenKind", "I", false), ("StrandRuntimeModel", "given", "J", false), ("StrandRuntimeModel", "gotKind", "I", false), ("StrandRuntimeModel", "gotFlag", "I", false), ("StrandRuntimeModel", "got", "J", false), ("StrandRuntimeModel", "yields", "Z", false), ("StrandRuntimeModel", "of", "[I", true), ("StrandRuntimeModel", "at", "[I", true)] else []))))
def jtB (j : Nat) : jB := (jlk (jtFl (jow j)), jlk (jtNl (jow j)), jlk (jtAl (jow j)), jlk (jtSl (jow j)), jlk (jtLl (jow j)), jmx j, jni j)
def jP : jT := (jcI, jcX, jcH, fun j => jlk (jtCl (jow j)), jtB, jkr)
