/-! printed by sto.py: the store by names. A name is a tag with two numbers; ints and longs lie by name and index; a frame or a thing of the class is named by its place. -/
abbrev sX : Type := (Nat → Nat → Option Nat) × (Nat → Option Nat)
abbrev sK : Type := (Nat → Bool) × (Nat → Bool)
abbrev sS : Type := (Nat → Nat → Nat → Nat → Int32) × (Nat → Nat → Nat → Nat → Int64) × sX × sK × (Nat × Nat × Nat)
def srl (j : Nat) : Nat := bif Nat.blt j 3 then (bif Nat.blt j 1 then (bif Nat.beq j 0 then 12 else 0)
  else (bif Nat.blt j 2 then (bif Nat.beq j 1 then 16 else 0)
  else (bif Nat.beq j 2 then 6 else 0)))
else (bif Nat.blt j 4 then (bif Nat.beq j 3 then 1 else 0)
  else (bif Nat.blt j 5 then (bif Nat.beq j 4 then 16 else 0)
  else (bif Nat.beq j 5 then 16 else 0)))
def sro (j : Nat) : Nat := bif Nat.blt j 3 then (bif Nat.blt j 1 then (bif Nat.beq j 0 then 1 else 0)
  else (bif Nat.blt j 2 then (bif Nat.beq j 1 then 4 else 0)
  else (bif Nat.beq j 2 then 7 else 0)))
else (bif Nat.blt j 4 then (bif Nat.beq j 3 then 11 else 0)
  else (bif Nat.blt j 5 then (bif Nat.beq j 4 then 1 else 0)
  else (bif Nat.beq j 5 then 9 else 0)))
def srx (M : sK) (i j : Nat) : Bool := (Nat.blt j 4 && M.1 i) || ((Nat.beq j 4 && M.2 i) || (Nat.beq j 5 && Nat.beq i 0))
def spl (t i j : Nat) : Nat := bif Nat.blt t 32 then (bif Nat.blt t 16 then (bif Nat.blt t 8 then (bif Nat.blt t 4 then (bif Nat.blt t 2 then (bif Nat.blt t 1 then (bif Nat.beq t 0 then 0 else 0)
  else (bif Nat.beq t 1 then 1 else 0))
  else (bif Nat.blt t 3 then (bif Nat.beq t 2 then 2 else 0)
  else (bif Nat.beq t 3 then 3 else 0)))
  else (bif Nat.blt t 6 then (bif Nat.blt t 5 then (bif Nat.beq t 4 then 4 else 0)
  else (bif Nat.beq t 5 then 5 else 0))
  else (bif Nat.blt t 7 then (bif Nat.beq t 6 then 6 else 0)
  else (bif Nat.beq t 7 then 7 else 0))))
  else (bif Nat.blt t 12 then (bif Nat.blt t 10 then (bif Nat.blt t 9 then (bif Nat.beq t 8 then 8 else 0)
  else (bif Nat.beq t 9 then 12 else 0))
  else (bif Nat.blt t 11 then (bif Nat.beq t 10 then 13 else 0)
  else (bif Nat.beq t 11 then 46 else 0)))
  else (bif Nat.blt t 14 then (bif Nat.blt t 13 then (bif Nat.beq t 12 then 47 else 0)
  else (bif Nat.beq t 13 then 48 else 0))
  else (bif Nat.blt t 15 then (bif Nat.beq t 14 then 58 else 0)
  else (bif Nat.beq t 15 then 49 + 3 * j else 0)))))
  else (bif Nat.blt t 24 then (bif Nat.blt t 20 then (bif Nat.blt t 18 then (bif Nat.blt t 17 then (bif Nat.beq t 16 then 50 + 3 * j else 0)
  else (bif Nat.beq t 17 then 51 + 3 * j else 0))
  else (bif Nat.blt t 19 then (bif Nat.beq t 18 then 59 else 0)
  else (bif Nat.beq t 19 then 60 else 0)))
  else (bif Nat.blt t 22 then (bif Nat.blt t 21 then (bif Nat.beq t 20 then 61 else 0)
  else (bif Nat.beq t 21 then 62 else 0))
  else (bif Nat.blt t 23 then (bif Nat.beq t 22 then 65 else 0)
  else (bif Nat.beq t 23 then 63 else 0))))
  else (bif Nat.blt t 28 then (bif Nat.blt t 26 then (bif Nat.blt t 25 then (bif Nat.beq t 24 then 64 else 0)
  else (bif Nat.beq t 25 then 14 + 2 * i else 0))
  else (bif Nat.blt t 27 then (bif Nat.beq t 26 then 15 + 2 * i else 0)
  else (bif Nat.beq t 27 then i else 0)))
  else (bif Nat.blt t 30 then (bif Nat.blt t 29 then (bif Nat.beq t 28 then i + 10 else 0)
  else (bif Nat.beq t 29 then i + sro j else 0))
  else (bif Nat.blt t 31 then (bif Nat.beq t 30 then i + sro j + 1 else 0)
  else (bif Nat.beq t 31 then i + sro j + 2 else 0))))))
else (bif Nat.blt t 48 then (bif Nat.blt t 40 then (bif Nat.blt t 36 then (bif Nat.blt t 34 then (bif Nat.blt t 33 then (bif Nat.beq t 32 then i else 0)
  else (bif Nat.beq t 33 then 66 else 0))
  else (bif Nat.blt t 35 then (bif Nat.beq t 34 then 67 else 0)
  else (bif Nat.beq t 35 then 68 else 0)))
  else (bif Nat.blt t 38 then (bif Nat.blt t 37 then (bif Nat.beq t 36 then 69 else 0)
  else (bif Nat.beq t 37 then 70 else 0))
  else (bif Nat.blt t 39 then (bif Nat.beq t 38 then 71 else 0)
  else (bif Nat.beq t 39 then 72 else 0))))
  else (bif Nat.blt t 44 then (bif Nat.blt t 42 then (bif Nat.blt t 41 then (bif Nat.beq t 40 then 73 else 0)
  else (bif Nat.beq t 41 then 74 else 0))
  else (bif Nat.blt t 43 then (bif Nat.beq t 42 then 75 else 0)
  else (bif Nat.beq t 43 then 76 else 0)))
  else (bif Nat.blt t 46 then (bif Nat.blt t 45 then (bif Nat.beq t 44 then 77 else 0)
  else (bif Nat.beq t 45 then 78 else 0))
  else (bif Nat.blt t 47 then (bif Nat.beq t 46 then 79 else 0)
  else (bif Nat.beq t 47 then 80 else 0)))))
  else (bif Nat.blt t 56 then (bif Nat.blt t 52 then (bif Nat.blt t 50 then (bif Nat.blt t 49 then (bif Nat.beq t 48 then 81 else 0)
  else (bif Nat.beq t 49 then 82 else 0))
  else (bif Nat.blt t 51 then (bif Nat.beq t 50 then 83 else 0)
  else (bif Nat.beq t 51 then 84 + 3 * i else 0)))
  else (bif Nat.blt t 54 then (bif Nat.blt t 53 then (bif Nat.beq t 52 then 85 + 3 * i else 0)
  else (bif Nat.beq t 53 then 86 + 3 * i else 0))
  else (bif Nat.blt t 55 then (bif Nat.beq t 54 then 3984 + 242 * i else 0)
  else (bif Nat.beq t 55 then 3985 + 242 * i else 0))))
  else (bif Nat.blt t 60 then (bif Nat.blt t 58 then (bif Nat.blt t 57 then (bif Nat.beq t 56 then 3986 + 242 * i + 8 * j else 0)
  else (bif Nat.beq t 57 then 3986 + 242 * i + 8 * j + 1 else 0))
  else (bif Nat.blt t 59 then (bif Nat.beq t 58 then 3986 + 242 * i + 8 * j + 2 else 0)
  else (bif Nat.beq t 59 then 3986 + 242 * i + 8 * j + 3 else 0)))
  else (bif Nat.blt t 62 then (bif Nat.blt t 61 then (bif Nat.beq t 60 then 3986 + 242 * i + 8 * j + 4 else 0)
  else (bif Nat.beq t 61 then 3986 + 242 * i + 8 * j + 5 else 0))
  else (bif Nat.blt t 63 then (bif Nat.beq t 62 then 3986 + 242 * i + 8 * j + 6 else 0)
  else (bif Nat.blt t 64 then (bif Nat.beq t 63 then 3986 + 242 * i + 8 * j + 7 else 0)
  else (bif Nat.beq t 64 then 7856 else 0)))))))
/-- what is there: of frames and things, of all others -/
def sxm (M : sK) (t i j : Nat) : Bool := bif Nat.blt t 30 then (bif Nat.blt t 28 then (bif Nat.beq t 27 then M.1 i && Nat.beq j 0 else false)
  else (bif Nat.blt t 29 then (bif Nat.beq t 28 then M.1 i && Nat.beq j 0 else false)
  else (bif Nat.beq t 29 then srx M i j else false)))
else (bif Nat.blt t 31 then (bif Nat.beq t 30 then srx M i j else false)
  else (bif Nat.blt t 32 then (bif Nat.beq t 31 then srx M i j else false)
  else (bif Nat.beq t 32 then M.2 i && Nat.beq j 0 else false)))
def sx0 (t i j : Nat) : Bool := bif Nat.blt t 35 then (bif Nat.blt t 14 then (bif Nat.blt t 7 then (bif Nat.blt t 3 then (bif Nat.blt t 1 then (bif Nat.beq t 0 then Nat.beq i 0 && Nat.beq j 0 else false)
  else (bif Nat.blt t 2 then (bif Nat.beq t 1 then Nat.beq i 0 && Nat.beq j 0 else false)
  else (bif Nat.beq t 2 then Nat.beq i 0 && Nat.beq j 0 else false)))
  else (bif Nat.blt t 5 then (bif Nat.blt t 4 then (bif Nat.beq t 3 then Nat.beq i 0 && Nat.beq j 0 else false)
  else (bif Nat.beq t 4 then Nat.beq i 0 && Nat.beq j 0 else false))
  else (bif Nat.blt t 6 then (bif Nat.beq t 5 then Nat.beq i 0 && Nat.beq j 0 else false)
  else (bif Nat.beq t 6 then Nat.beq i 0 && Nat.beq j 0 else false))))
  else (bif Nat.blt t 10 then (bif Nat.blt t 8 then (bif Nat.beq t 7 then Nat.beq i 0 && Nat.beq j 0 else false)
  else (bif Nat.blt t 9 then (bif Nat.beq t 8 then Nat.beq i 0 && Nat.beq j 0 else false)
  else (bif Nat.beq t 9 then Nat.beq i 0 && Nat.beq j 0 else false)))
  else (bif Nat.blt t 12 then (bif Nat.blt t 11 then (bif Nat.beq t 10 then Nat.beq i 0 && Nat.beq j 0 else false)
  else (bif Nat.beq t 11 then Nat.beq i 0 && Nat.beq j 0 else false))
  else (bif Nat.blt t 13 then (bif Nat.beq t 12 then Nat.beq i 0 && Nat.beq j 0 else false)
  else (bif Nat.beq t 13 then Nat.beq i 0 && Nat.beq j 0 else false)))))
  else (bif Nat.blt t 21 then (bif Nat.blt t 17 then (bif Nat.blt t 15 then (bif Nat.beq t 14 then Nat.beq i 0 && Nat.beq j 0 else false)
  else (bif Nat.blt t 16 then (bif Nat.beq t 15 then Nat.beq i 0 && Nat.blt j 3 else false)
  else (bif Nat.beq t 16 then Nat.beq i 0 && Nat.blt j 3 else false)))
  else (bif Nat.blt t 19 then (bif Nat.blt t 18 then (bif Nat.beq t 17 then Nat.beq i 0 && Nat.blt j 3 else false)
  else (bif Nat.beq t 18 then Nat.beq i 0 && Nat.beq j 0 else false))
  else (bif Nat.blt t 20 then (bif Nat.beq t 19 then Nat.beq i 0 && Nat.beq j 0 else false)
  else (bif Nat.beq t 20 then Nat.beq i 0 && Nat.beq j 0 else false))))
  else (bif Nat.blt t 25 then (bif Nat.blt t 23 then (bif Nat.blt t 22 then (bif Nat.beq t 21 then Nat.beq i 0 && Nat.beq j 0 else false)
  else (bif Nat.beq t 22 then Nat.beq i 0 && Nat.beq j 0 else false))
  else (bif Nat.blt t 24 then (bif Nat.beq t 23 then Nat.beq i 0 && Nat.beq j 0 else false)
  else (bif Nat.beq t 24 then Nat.beq i 0 && Nat.beq j 0 else false)))
  else (bif Nat.blt t 33 then (bif Nat.blt t 26 then (bif Nat.beq t 25 then Nat.blt i 16 && Nat.beq j 0 else false)
  else (bif Nat.beq t 26 then Nat.blt i 16 && Nat.beq j 0 else false))
  else (bif Nat.blt t 34 then (bif Nat.beq t 33 then Nat.beq i 0 && Nat.beq j 0 else false)
  else (bif Nat.beq t 34 then Nat.beq i 0 && Nat.beq j 0 else false))))))
else (bif Nat.blt t 50 then (bif Nat.blt t 42 then (bif Nat.blt t 38 then (bif Nat.blt t 36 then (bif Nat.beq t 35 then Nat.beq i 0 && Nat.beq j 0 else false)
  else (bif Nat.blt t 37 then (bif Nat.beq t 36 then Nat.beq i 0 && Nat.beq j 0 else false)
  else (bif Nat.beq t 37 then Nat.beq i 0 && Nat.beq j 0 else false)))
  else (bif Nat.blt t 40 then (bif Nat.blt t 39 then (bif Nat.beq t 38 then Nat.beq i 0 && Nat.beq j 0 else false)
  else (bif Nat.beq t 39 then Nat.beq i 0 && Nat.beq j 0 else false))
  else (bif Nat.blt t 41 then (bif Nat.beq t 40 then Nat.beq i 0 && Nat.beq j 0 else false)
  else (bif Nat.beq t 41 then Nat.beq i 0 && Nat.beq j 0 else false))))
  else (bif Nat.blt t 46 then (bif Nat.blt t 44 then (bif Nat.blt t 43 then (bif Nat.beq t 42 then Nat.beq i 0 && Nat.beq j 0 else false)
  else (bif Nat.beq t 43 then Nat.beq i 0 && Nat.beq j 0 else false))
  else (bif Nat.blt t 45 then (bif Nat.beq t 44 then Nat.beq i 0 && Nat.beq j 0 else false)
  else (bif Nat.beq t 45 then Nat.beq i 0 && Nat.beq j 0 else false)))
  else (bif Nat.blt t 48 then (bif Nat.blt t 47 then (bif Nat.beq t 46 then Nat.beq i 0 && Nat.beq j 0 else false)
  else (bif Nat.beq t 47 then Nat.beq i 0 && Nat.beq j 0 else false))
  else (bif Nat.blt t 49 then (bif Nat.beq t 48 then Nat.beq i 0 && Nat.beq j 0 else false)
  else (bif Nat.beq t 49 then Nat.beq i 0 && Nat.beq j 0 else false)))))
  else (bif Nat.blt t 57 then (bif Nat.blt t 53 then (bif Nat.blt t 51 then (bif Nat.beq t 50 then Nat.beq i 0 && Nat.beq j 0 else false)
  else (bif Nat.blt t 52 then (bif Nat.beq t 51 then Nat.blt i 1300 && Nat.beq j 0 else false)
  else (bif Nat.beq t 52 then Nat.blt i 1300 && Nat.beq j 0 else false)))
  else (bif Nat.blt t 55 then (bif Nat.blt t 54 then (bif Nat.beq t 53 then Nat.blt i 1300 && Nat.beq j 0 else false)
  else (bif Nat.beq t 54 then Nat.blt i 16 && Nat.beq j 0 else false))
  else (bif Nat.blt t 56 then (bif Nat.beq t 55 then Nat.blt i 16 && Nat.beq j 0 else false)
  else (bif Nat.beq t 56 then Nat.blt i 16 && Nat.blt j 30 else false))))
  else (bif Nat.blt t 61 then (bif Nat.blt t 59 then (bif Nat.blt t 58 then (bif Nat.beq t 57 then Nat.blt i 16 && Nat.blt j 30 else false)
  else (bif Nat.beq t 58 then Nat.blt i 16 && Nat.blt j 30 else false))
  else (bif Nat.blt t 60 then (bif Nat.beq t 59 then Nat.blt i 16 && Nat.blt j 30 else false)
  else (bif Nat.beq t 60 then Nat.blt i 16 && Nat.blt j 30 else false)))
  else (bif Nat.blt t 63 then (bif Nat.blt t 62 then (bif Nat.beq t 61 then Nat.blt i 16 && Nat.blt j 30 else false)
  else (bif Nat.beq t 62 then Nat.blt i 16 && Nat.blt j 30 else false))
  else (bif Nat.blt t 64 then (bif Nat.beq t 63 then Nat.blt i 16 && Nat.blt j 30 else false)
  else (bif Nat.beq t 64 then Nat.beq i 0 && Nat.beq j 0 else false))))))
def sex (M : sK) (t i j : Nat) : Bool := bif Nat.ble 27 t && Nat.ble t 32 then sxm M t i j else sx0 t i j
def sc0 (t i j : Nat) (f : Nat → Int32) (g : Nat → Int64) : va_E := bif Nat.blt t 33 then (bif Nat.blt t 16 then (bif Nat.blt t 7 then (bif Nat.blt t 3 then (bif Nat.blt t 1 then (bif Nat.beq t 0 then .inr (9, [.ref (spl 1 0 0), .ref (spl 8 0 0), .ref (spl 11 0 0), .ref (spl 18 0 0), .ref (spl 23 0 0)]) else .inr (0, []))
  else (bif Nat.blt t 2 then (bif Nat.beq t 1 then .inr (0, [.ref (spl 2 0 0), .ref (spl 3 0 0), .ref (spl 4 0 0), .ref (spl 5 0 0), .ref (spl 6 0 0), .ref (spl 7 0 0), .int (f 6), .int (f 7)]) else .inr (0, []))
  else (bif Nat.beq t 2 then .inl (0, 32, .inl f) else .inr (0, []))))
  else (bif Nat.blt t 5 then (bif Nat.blt t 4 then (bif Nat.beq t 3 then .inl (0, 32, .inl f) else .inr (0, []))
  else (bif Nat.beq t 4 then .inl (0, 32, .inl f) else .inr (0, [])))
  else (bif Nat.blt t 6 then (bif Nat.beq t 5 then .inl (0, 32, .inl f) else .inr (0, []))
  else (bif Nat.beq t 6 then .inl (0, 1500, .inl f) else .inr (0, [])))))
  else (bif Nat.blt t 11 then (bif Nat.blt t 9 then (bif Nat.blt t 8 then (bif Nat.beq t 7 then .inl (0, 1500, .inl f) else .inr (0, []))
  else (bif Nat.beq t 8 then .inr (3, [.ref (spl 29 0 5), .ref (spl 9 0 0), .ref (spl 10 0 0), .int (f 3), .int (f 4), .int (f 5), .int (f 6), .int (f 7), .int (f 8)]) else .inr (0, [])))
  else (bif Nat.blt t 10 then (bif Nat.beq t 9 then .inl (4, 16, .inr (.inr (.inr (.inr (fun q => bif Nat.blt q 16 then some (spl 25 q 0) else none))))) else .inr (0, []))
  else (bif Nat.beq t 10 then .inl (0, 16, .inl f) else .inr (0, []))))
  else (bif Nat.blt t 14 then (bif Nat.blt t 13 then (bif Nat.beq t 11 then .inr (5, [.ref (spl 8 0 0), .ref (spl 12 0 0), .ref (spl 13 0 0), .ref (spl 15 0 0), .ref (spl 15 0 1), .ref (spl 15 0 2), .ref (spl 14 0 0), .int (f 7), .int (f 8), .int (f 9), .int (f 10), .int (f 11), .int (f 12), .int (f 13)]) else .inr (0, []))
  else (bif Nat.beq t 13 then .inl (0, 600, .inl f) else .inr (0, [])))
  else (bif Nat.blt t 15 then (bif Nat.beq t 14 then .inl (0, 600, .inl f) else .inr (0, []))
  else (bif Nat.beq t 15 then .inr (4, [.ref (spl 16 0 j), .ref (spl 17 0 j), .int (f 2), .int (f 3), .int (f 4)]) else .inr (0, []))))))
  else (bif Nat.blt t 24 then (bif Nat.blt t 20 then (bif Nat.blt t 18 then (bif Nat.blt t 17 then (bif Nat.beq t 16 then .inl (0, 600, .inl f) else .inr (0, []))
  else (bif Nat.beq t 17 then .inl (0, 600, .inl f) else .inr (0, [])))
  else (bif Nat.blt t 19 then (bif Nat.beq t 18 then .inr (6, [.ref (spl 11 0 0), .ref (spl 19 0 0), .ref (spl 20 0 0), .ref (spl 21 0 0), .int (f 4), .int (f 5), .long (g 6)]) else .inr (0, []))
  else (bif Nat.beq t 19 then .inl (0, 600, .inl f) else .inr (0, []))))
  else (bif Nat.blt t 22 then (bif Nat.blt t 21 then (bif Nat.beq t 20 then .inl (0, 600, .inl f) else .inr (0, []))
  else (bif Nat.beq t 21 then .inl (0, 600, .inl f) else .inr (0, [])))
  else (bif Nat.blt t 23 then (bif Nat.beq t 22 then .inr (7, [.ref (spl 8 0 0), .ref (spl 11 0 0)]) else .inr (0, []))
  else (bif Nat.beq t 23 then .inr (8, [.ref (spl 1 0 0), .ref (spl 8 0 0), .ref (spl 11 0 0), .ref (spl 22 0 0), .ref (spl 24 0 0), .int (f 5), .int (f 6), .int (f 7), .int (f 8), .int (f 9), .int (f 10)]) else .inr (0, [])))))
  else (bif Nat.blt t 29 then (bif Nat.blt t 27 then (bif Nat.blt t 25 then (bif Nat.beq t 24 then .inl (1, 2000, .inr (.inl g)) else .inr (0, []))
  else (bif Nat.beq t 25 then .inr (2, [.ref (spl 1 0 0), .int (f 1), .ref (spl 26 i 0), .int (f 3), .int (f 4), .int (f 5), .int (f 6), .long (g 7)]) else .inr (0, [])))
  else (bif Nat.blt t 28 then (bif Nat.beq t 27 then .inr (10, [.ref (spl 29 i 0), .ref (spl 29 i 1), .ref (spl 29 i 2), .ref (spl 28 i 0), .ref (spl 29 i 3), .int (f 5), .int (f 6), .int (f 7)]) else .inr (0, []))
  else (bif Nat.beq t 28 then .inl (0, 6, .inl f) else .inr (0, []))))
  else (bif Nat.blt t 31 then (bif Nat.blt t 30 then (bif Nat.beq t 29 then .inr (1, [.ref (spl 30 i j), .ref (spl 31 i j), .int (f 2)]) else .inr (0, []))
  else (bif Nat.beq t 30 then .inl (1, srl j, .inr (.inl g)) else .inr (0, [])))
  else (bif Nat.blt t 32 then (bif Nat.beq t 31 then .inl (0, srl j, .inl f) else .inr (0, []))
  else (bif Nat.beq t 32 then .inr (11, [.ref (spl 29 i 4), .int (f 1), .int (f 2), .int (f 3), .int (f 4)]) else .inr (0, [])))))))
else (bif Nat.blt t 49 then (bif Nat.blt t 41 then (bif Nat.blt t 37 then (bif Nat.blt t 35 then (bif Nat.blt t 34 then (bif Nat.beq t 33 then .inr (15, [.ref (spl 34 0 0), .ref (spl 35 0 0), .ref (spl 36 0 0), .ref (spl 37 0 0), .ref (spl 38 0 0), .ref (spl 39 0 0), .ref (spl 40 0 0), .ref (spl 41 0 0), .ref (spl 42 0 0), .ref (spl 43 0 0), .ref (spl 44 0 0), .ref (spl 45 0 0), .ref (spl 46 0 0), .int (f 13), .int (f 14), .int (f 15), .int (f 16), .int (f 17), .int (f 18), .int (f 19), .int (f 20), .int (f 21), .int (f 22), .int (f 23), .int (f 24), .int (f 25), .int (f 26), .int (f 27), .long (g 28), .int (f 29), .int (f 30), .ref (spl 47 0 0), .ref (spl 48 0 0), .int (f 33), .long (g 34), .int (f 35), .int (f 36), .long (g 37), .int (f 38), .ref (spl 49 0 0), .ref (spl 50 0 0)]) else .inr (0, []))
  else (bif Nat.beq t 34 then .inl (14, 1300, .inr (.inr (.inr (.inr (fun q => bif Nat.blt q 1300 then some (spl 51 q 0) else none))))) else .inr (0, [])))
  else (bif Nat.blt t 36 then (bif Nat.beq t 35 then .inl (15, 16, .inr (.inr (.inr (.inr (fun q => bif Nat.blt q 16 then some (spl 54 q 0) else none))))) else .inr (0, []))
  else (bif Nat.beq t 36 then .inl (0, 16, .inl f) else .inr (0, []))))
  else (bif Nat.blt t 39 then (bif Nat.blt t 38 then (bif Nat.beq t 37 then .inl (0, 32, .inl f) else .inr (0, []))
  else (bif Nat.beq t 38 then .inl (0, 32, .inl f) else .inr (0, [])))
  else (bif Nat.blt t 40 then (bif Nat.beq t 39 then .inl (0, 32, .inl f) else .inr (0, []))
  else (bif Nat.beq t 40 then .inl (0, 32, .inl f) else .inr (0, [])))))
  else (bif Nat.blt t 45 then (bif Nat.blt t 43 then (bif Nat.blt t 42 then (bif Nat.beq t 41 then .inl (0, 1500, .inl f) else .inr (0, []))
  else (bif Nat.beq t 42 then .inl (0, 1500, .inl f) else .inr (0, [])))
  else (bif Nat.blt t 44 then (bif Nat.beq t 43 then .inl (1, 16, .inr (.inl g)) else .inr (0, []))
  else (bif Nat.beq t 44 then .inl (1, 2000, .inr (.inl g)) else .inr (0, []))))
  else (bif Nat.blt t 47 then (bif Nat.blt t 46 then (bif Nat.beq t 45 then .inl (0, 17, .inl f) else .inr (0, []))
  else (bif Nat.beq t 46 then .inl (0, 1300, .inl f) else .inr (0, [])))
  else (bif Nat.blt t 48 then (bif Nat.beq t 47 then .inl (0, 16, .inl f) else .inr (0, []))
  else (bif Nat.beq t 48 then .inl (1, 16, .inr (.inl g)) else .inr (0, []))))))
  else (bif Nat.blt t 57 then (bif Nat.blt t 53 then (bif Nat.blt t 51 then (bif Nat.blt t 50 then (bif Nat.beq t 49 then .inl (0, 1300, .inl f) else .inr (0, []))
  else (bif Nat.beq t 50 then .inl (0, 1300, .inl f) else .inr (0, [])))
  else (bif Nat.blt t 52 then (bif Nat.beq t 51 then .inr (12, [.int (f 0), .int (f 1), .int (f 2), .int (f 3), .int (f 4), .int (f 5), .ref (spl 52 i 0), .ref (spl 53 i 0)]) else .inr (0, []))
  else (bif Nat.beq t 52 then .inl (0, 16, .inl f) else .inr (0, []))))
  else (bif Nat.blt t 55 then (bif Nat.blt t 54 then (bif Nat.beq t 53 then .inl (1, 16, .inr (.inl g)) else .inr (0, []))
  else (bif Nat.beq t 54 then .inr (13, [.int (f 0), .int (f 1), .int (f 2), .long (g 3), .ref (spl 55 i 0)]) else .inr (0, [])))
  else (bif Nat.blt t 56 then (bif Nat.beq t 55 then .inl (16, 30, .inr (.inr (.inr (.inr (fun q => bif Nat.blt q 30 then some (spl 56 i q) else none))))) else .inr (0, []))
  else (bif Nat.beq t 56 then .inr (14, [.int (f 0), .int (f 1), .int (f 2), .int (f 3), .int (f 4), .int (f 5), .long (g 6), .int (f 7), .long (g 8), .ref (spl 57 i j), .ref (spl 58 i j), .ref (spl 59 i j), .ref (spl 60 i j), .ref (spl 61 i j), .ref (spl 62 i j), .ref (spl 63 i j)]) else .inr (0, [])))))
  else (bif Nat.blt t 61 then (bif Nat.blt t 59 then (bif Nat.blt t 58 then (bif Nat.beq t 57 then .inl (0, 12, .inl f) else .inr (0, []))
  else (bif Nat.beq t 58 then .inl (0, 16, .inl f) else .inr (0, [])))
  else (bif Nat.blt t 60 then (bif Nat.beq t 59 then .inl (0, 6, .inl f) else .inr (0, []))
  else (bif Nat.beq t 60 then .inl (0, 6, .inl f) else .inr (0, []))))
  else (bif Nat.blt t 63 then (bif Nat.blt t 62 then (bif Nat.beq t 61 then .inl (1, 12, .inr (.inl g)) else .inr (0, []))
  else (bif Nat.beq t 62 then .inl (1, 16, .inr (.inl g)) else .inr (0, [])))
  else (bif Nat.blt t 64 then (bif Nat.beq t 63 then .inl (1, 6, .inr (.inl g)) else .inr (0, []))
  else (bif Nat.beq t 64 then .inl (1, 1, .inr (.inl g)) else .inr (0, [])))))))
def scl (t i j : Nat) (f : Nat → Int32) (g : Nat → Int64) (X : sX) : va_E := bif Nat.beq t 26 then .inl (12, 30, .inr (.inr (.inr (.inr (X.1 i))))) else bif Nat.beq t 12 then .inl (13, 600, .inr (.inr (.inr (.inr (X.2))))) else sc0 t i j f g
def sial : List Nat := [2, 3, 4, 5, 6, 7, 10, 13, 14, 16, 17, 19, 20, 21, 28, 31, 36, 37, 38, 39, 40, 41, 42, 45, 46, 47, 49, 50, 52, 57, 58, 59, 60]
def sia (t : Nat) : Bool := sial.elem t
def sil (t j : Nat) : Nat := bif Nat.blt t 36 then (bif Nat.blt t 14 then (bif Nat.blt t 6 then (bif Nat.blt t 4 then (bif Nat.blt t 3 then (bif Nat.beq t 2 then 32 else 0)
  else (bif Nat.beq t 3 then 32 else 0))
  else (bif Nat.blt t 5 then (bif Nat.beq t 4 then 32 else 0)
  else (bif Nat.beq t 5 then 32 else 0)))
  else (bif Nat.blt t 10 then (bif Nat.blt t 7 then (bif Nat.beq t 6 then 1500 else 0)
  else (bif Nat.beq t 7 then 1500 else 0))
  else (bif Nat.blt t 13 then (bif Nat.beq t 10 then 16 else 0)
  else (bif Nat.beq t 13 then 600 else 0))))
  else (bif Nat.blt t 20 then (bif Nat.blt t 17 then (bif Nat.blt t 16 then (bif Nat.beq t 14 then 600 else 0)
  else (bif Nat.beq t 16 then 600 else 0))
  else (bif Nat.blt t 19 then (bif Nat.beq t 17 then 600 else 0)
  else (bif Nat.beq t 19 then 600 else 0)))
  else (bif Nat.blt t 28 then (bif Nat.blt t 21 then (bif Nat.beq t 20 then 600 else 0)
  else (bif Nat.beq t 21 then 600 else 0))
  else (bif Nat.blt t 31 then (bif Nat.beq t 28 then 6 else 0)
  else (bif Nat.beq t 31 then srl j else 0)))))
else (bif Nat.blt t 46 then (bif Nat.blt t 40 then (bif Nat.blt t 38 then (bif Nat.blt t 37 then (bif Nat.beq t 36 then 16 else 0)
  else (bif Nat.beq t 37 then 32 else 0))
  else (bif Nat.blt t 39 then (bif Nat.beq t 38 then 32 else 0)
  else (bif Nat.beq t 39 then 32 else 0)))
  else (bif Nat.blt t 42 then (bif Nat.blt t 41 then (bif Nat.beq t 40 then 32 else 0)
  else (bif Nat.beq t 41 then 1500 else 0))
  else (bif Nat.blt t 45 then (bif Nat.beq t 42 then 1500 else 0)
  else (bif Nat.beq t 45 then 17 else 0))))
  else (bif Nat.blt t 52 then (bif Nat.blt t 49 then (bif Nat.blt t 47 then (bif Nat.beq t 46 then 1300 else 0)
  else (bif Nat.beq t 47 then 16 else 0))
  else (bif Nat.blt t 50 then (bif Nat.beq t 49 then 1300 else 0)
  else (bif Nat.beq t 50 then 1300 else 0)))
  else (bif Nat.blt t 58 then (bif Nat.blt t 57 then (bif Nat.beq t 52 then 16 else 0)
  else (bif Nat.beq t 57 then 12 else 0))
  else (bif Nat.blt t 59 then (bif Nat.beq t 58 then 16 else 0)
  else (bif Nat.blt t 60 then (bif Nat.beq t 59 then 6 else 0)
  else (bif Nat.beq t 60 then 6 else 0))))))
def sce (S : sS) (t i j : Nat) : va_E := scl t i j (S.1 t i j) (S.2.1 t i j) S.2.2.1
/-- the memory holds the store -/
def sR (S : sS) (μ : jS) : Prop := (∀ t i j, sex S.2.2.2.1 t i j = true → μ.1 (spl t i j) = sce S t i j ∧ spl t i j < μ.2.1) ∧
  (∀ t i j t' i' j', sex S.2.2.2.1 t i j = true → sex S.2.2.2.1 t' i' j' = true → spl t i j = spl t' i' j' → t = t' ∧ i = i' ∧ j = j') ∧ μ.2 = S.2.2.2.2
def siI (S : sS) (t i j k : Nat) (x : Int32) : sS := (fun t' i' j' => bif Nat.beq t' t && (Nat.beq i' i && Nat.beq j' j) then upd (S.1 t' i' j') k x else S.1 t' i' j', S.2)
def siL (S : sS) (t i j k : Nat) (x : Int64) : sS := (S.1, fun t' i' j' => bif Nat.beq t' t && (Nat.beq i' i && Nat.beq j' j) then vp_updL (S.2.1 t' i' j') k x else S.2.1 t' i' j', S.2.2)
/-- a whole row of ints, of longs -/
def saI (S : sS) (t i j : Nat) (f : Nat → Int32) : sS := (fun t' i' j' => bif Nat.beq t' t && (Nat.beq i' i && Nat.beq j' j) then f else S.1 t' i' j', S.2)
def saL (S : sS) (t i j : Nat) (f : Nat → Int64) : sS := (S.1, fun t' i' j' => bif Nat.beq t' t && (Nat.beq i' i && Nat.beq j' j) then f else S.2.1 t' i' j', S.2.2)
/-- a frame, a thing put into its array -/
def ssF (S : sS) (s d p : Nat) : sS := (S.1, S.2.1, (fun s' => bif Nat.beq s' s then va_up (S.2.2.1.1 s') d (some p) else S.2.2.1.1 s', S.2.2.1.2), S.2.2.2)
def ssT (S : sS) (d p : Nat) : sS := (S.1, S.2.1, (S.2.2.1.1, va_up S.2.2.1.2 d (some p)), S.2.2.2)
/-- an exception came -/
def sxc (S : sS) : sS := (S.1, S.2.1, S.2.2.1, S.2.2.2.1, S.2.2.2.2.1, S.2.2.2.2.2.1 + 1, S.2.2.2.2.2.2 + 6)
theorem sbq (t i j t' i' j' : Nat) : (Nat.beq t' t && (Nat.beq i' i && Nat.beq j' j)) = true ↔ t' = t ∧ i' = i ∧ j' = j := by
  rw [Bool.and_eq_true, Bool.and_eq_true]
  exact ⟨fun h => ⟨Nat.eq_of_beq_eq_true h.1, Nat.eq_of_beq_eq_true h.2.1, Nat.eq_of_beq_eq_true h.2.2⟩, fun h => by
    obtain ⟨rfl, rfl, rfl⟩ := h
    exact ⟨Nat.beq_refl _, Nat.beq_refl _, Nat.beq_refl _⟩⟩
theorem sbq_ne {t i j t' i' j' : Nat} (h : ¬ (t' = t ∧ i' = i ∧ j' = j)) : (Nat.beq t' t && (Nat.beq i' i && Nat.beq j' j)) = false := by
  cases e : (Nat.beq t' t && (Nat.beq i' i && Nat.beq j' j)) with
  | false => rfl
  | true => exact absurd ((sbq t i j t' i' j').mp e) h
theorem siI_self (S : sS) (t i j k : Nat) (x : Int32) : (siI S t i j k x).1 t i j = upd (S.1 t i j) k x := by
  show (bif Nat.beq t t && (Nat.beq i i && Nat.beq j j) then upd (S.1 t i j) k x else S.1 t i j) = _
  rw [(sbq t i j t i j).mpr ⟨rfl, rfl, rfl⟩, cond_true]
theorem siI_ne (S : sS) {t i j t' i' j' : Nat} (k : Nat) (x : Int32) (h : ¬ (t' = t ∧ i' = i ∧ j' = j)) : (siI S t i j k x).1 t' i' j' = S.1 t' i' j' := by
  show (bif Nat.beq t' t && (Nat.beq i' i && Nat.beq j' j) then upd (S.1 t' i' j') k x else S.1 t' i' j') = _
  rw [sbq_ne h, cond_false]
theorem siL_self (S : sS) (t i j k : Nat) (x : Int64) : (siL S t i j k x).2.1 t i j = vp_updL (S.2.1 t i j) k x := by
  show (bif Nat.beq t t && (Nat.beq i i && Nat.beq j j) then vp_updL (S.2.1 t i j) k x else S.2.1 t i j) = _
  rw [(sbq t i j t i j).mpr ⟨rfl, rfl, rfl⟩, cond_true]
theorem siL_ne (S : sS) {t i j t' i' j' : Nat} (k : Nat) (x : Int64) (h : ¬ (t' = t ∧ i' = i ∧ j' = j)) : (siL S t i j k x).2.1 t' i' j' = S.2.1 t' i' j' := by
  show (bif Nat.beq t' t && (Nat.beq i' i && Nat.beq j' j) then vp_updL (S.2.1 t' i' j') k x else S.2.1 t' i' j') = _
  rw [sbq_ne h, cond_false]
theorem saI_self (S : sS) (t i j : Nat) (f : Nat → Int32) : (saI S t i j f).1 t i j = f := by
  show (bif Nat.beq t t && (Nat.beq i i && Nat.beq j j) then f else S.1 t i j) = _
  rw [(sbq t i j t i j).mpr ⟨rfl, rfl, rfl⟩, cond_true]
theorem saI_ne (S : sS) {t i j t' i' j' : Nat} (f : Nat → Int32) (h : ¬ (t' = t ∧ i' = i ∧ j' = j)) : (saI S t i j f).1 t' i' j' = S.1 t' i' j' := by
  show (bif Nat.beq t' t && (Nat.beq i' i && Nat.beq j' j) then f else S.1 t' i' j') = _
  rw [sbq_ne h, cond_false]
theorem saL_self (S : sS) (t i j : Nat) (f : Nat → Int64) : (saL S t i j f).2.1 t i j = f := by
  show (bif Nat.beq t t && (Nat.beq i i && Nat.beq j j) then f else S.2.1 t i j) = _
  rw [(sbq t i j t i j).mpr ⟨rfl, rfl, rfl⟩, cond_true]
theorem saL_ne (S : sS) {t i j t' i' j' : Nat} (f : Nat → Int64) (h : ¬ (t' = t ∧ i' = i ∧ j' = j)) : (saL S t i j f).2.1 t' i' j' = S.2.1 t' i' j' := by
  show (bif Nat.beq t' t && (Nat.beq i' i && Nat.beq j' j) then f else S.2.1 t' i' j') = _
  rw [sbq_ne h, cond_false]
/-- one cell is written, the store changes there -/
theorem sR.wr {S S' : sS} {μ : jS} (R : sR S μ) {t i j : Nat} (hE : sex S.2.2.2.1 t i j = true) (hM : S'.2.2.2 = S.2.2.2) (hn : ∀ t' i' j', ¬ (t' = t ∧ i' = i ∧ j' = j) → sex S.2.2.2.1 t' i' j' = true → sce S' t' i' j' = sce S t' i' j') : sR S' (jw μ (spl t i j) (sce S' t i j)) := by
  refine ⟨fun t' i' j' h' => ?_, ?_, ?_⟩
  · rw [hM] at h'
    refine ⟨?_, (R.1 _ _ _ h').2⟩
    by_cases e : t' = t ∧ i' = i ∧ j' = j
    · obtain ⟨rfl, rfl, rfl⟩ := e
      exact jw_self
    · exact (jw_ne fun z => e (R.2.1 _ _ _ _ _ _ h' hE z)).trans ((R.1 _ _ _ h').1.trans (hn _ _ _ e h').symm)
  · rw [hM]
    exact R.2.1
  · rw [hM]
    exact R.2.2
theorem sR.wI {S : sS} {μ : jS} (R : sR S μ) {t i j : Nat} (hE : sex S.2.2.2.1 t i j = true) (k : Nat) (x : Int32) : sR (siI S t i j k x) (jw μ (spl t i j) (sce (siI S t i j k x) t i j)) :=
  R.wr (S' := siI S t i j k x) hE rfl fun t' i' j' h _ => by unfold sce; rw [siI_ne S k x h]; rfl
theorem sR.wL {S : sS} {μ : jS} (R : sR S μ) {t i j : Nat} (hE : sex S.2.2.2.1 t i j = true) (k : Nat) (x : Int64) : sR (siL S t i j k x) (jw μ (spl t i j) (sce (siL S t i j k x) t i j)) :=
  R.wr (S' := siL S t i j k x) hE rfl fun t' i' j' h _ => by unfold sce; rw [siL_ne S k x h]; rfl
theorem sR.aI {S : sS} {μ : jS} (R : sR S μ) {t i j : Nat} (hE : sex S.2.2.2.1 t i j = true) (f : Nat → Int32) : sR (saI S t i j f) (jw μ (spl t i j) (sce (saI S t i j f) t i j)) :=
  R.wr (S' := saI S t i j f) hE rfl fun t' i' j' h _ => by unfold sce; rw [saI_ne S f h]; rfl
theorem sR.aL {S : sS} {μ : jS} (R : sR S μ) {t i j : Nat} (hE : sex S.2.2.2.1 t i j = true) (f : Nat → Int64) : sR (saL S t i j f) (jw μ (spl t i j) (sce (saL S t i j f) t i j)) :=
  R.wr (S' := saL S t i j f) hE rfl fun t' i' j' h _ => by unfold sce; rw [saL_ne S f h]; rfl
/-- a reference, or null -/
def soR (t : Nat) (o : Option (Nat × Nat)) : Value := match o with
  | none => .null
  | some a => .ref (spl t a.1 a.2)
theorem soR_some {t : Nat} {o : Option (Nat × Nat)} {a : Nat × Nat} (h : o = some a) : soR t o = .ref (spl t a.1 a.2) := by rw [h]; rfl
theorem soR_none {t : Nat} {o : Option (Nat × Nat)} (h : o = none) : soR t o = .null := by rw [h]; rfl
theorem soR_cat (t : Nat) (o : Option (Nat × Nat)) : (soR t o).category = 1 := by cases o <;> rfl
/-- ways of a program's text -/
def sif {α β : Type} (o : Option α) (A : β) (B : α → β) : β := match o with
  | none => A
  | some a => B a
theorem sif_or {α β : Type} {o : Option α} {A : β} {B : α → β} {r : β} (h : sif o A B = r) : (o = none ∧ A = r) ∨ ∃ a, o = some a ∧ B a = r := by
  cases o with
  | none => exact Or.inl ⟨rfl, h⟩
  | some a => exact Or.inr ⟨a, rfl, h⟩
theorem bif_or {β : Type} {b : Bool} {A B r : β} (h : (bif b then A else B) = r) : (b = true ∧ A = r) ∨ (b = false ∧ B = r) := by
  cases b with
  | true => exact Or.inl ⟨rfl, h⟩
  | false => exact Or.inr ⟨rfl, h⟩
def ssm {α β : Type} (o : α ⊕ Nat) (A : α → β) (B : Nat → β) : β := match o with
  | .inl a => A a
  | .inr x => B x
theorem ssm_or {α β : Type} {o : α ⊕ Nat} {A : α → β} {B : Nat → β} {r : β} (h : ssm o A B = r) : (∃ a, o = .inl a ∧ A a = r) ∨ ∃ x, o = .inr x ∧ B x = r := by
  cases o with
  | inl a => exact Or.inl ⟨a, rfl, h⟩
  | inr x => exact Or.inr ⟨x, rfl, h⟩
theorem sbd {α β : Type} {o : Option α} {f : α → Option β} {r : β} (h : o.bind f = some r) : ∃ q, o = some q ∧ f q = some r := by
  cases o with
  | none => cases h
  | some q => exact ⟨q, rfl, h⟩
/-! locals, looked up -/
theorem jld_flt {p : Nat × Value → Bool} {m : Nat} {w : Value} (hp : p (m, w) = true) : ∀ lv : jL, jld lv m = some w → jld (lv.filter p) m = some w := by
  intro lv
  induction lv with
  | nil => intro h; cases h
  | cons q r ih =>
    intro h
    unfold jld at h
    cases e : Nat.beq q.1 m with
    | true =>
      rw [e, cond_true] at h
      have e1 := Nat.eq_of_beq_eq_true e
      have e2 : q = (m, w) := Prod.ext e1 (Option.some.inj h)
      rw [e2, List.filter_cons_of_pos hp]
      unfold jld
      rw [Nat.beq_refl, cond_true]
    | false =>
      rw [e, cond_false] at h
      cases hq : p q with
      | true =>
        rw [List.filter_cons_of_pos hq]
        unfold jld
        rw [e, cond_false]
        exact ih h
      | false =>
        rw [List.filter_cons_of_neg (by rw [hq]; decide)]
        exact ih h
theorem js1_at (lv : jL) (k : Nat) (v : Value) : jld (js1 lv k v) k = some v := by
  show (bif Nat.beq k k then some v else _) = _
  rw [Nat.beq_refl, cond_true]
theorem js2_at (lv : jL) (k : Nat) (v : Value) : jld (js2 lv k v) k = some v := by
  show (bif Nat.beq k k then some v else _) = _
  rw [Nat.beq_refl, cond_true]
theorem js1_kp {lv : jL} {k m : Nat} {v w : Value} (h : jld lv m = some w) (h1 : Nat.beq k m = false) (h2 : (!(m == k) && !(m + 1 == k && w.category == 2)) = true) : jld (js1 lv k v) m = some w := by
  show (bif Nat.beq k m then some v else _) = _
  rw [h1, cond_false]
  exact jld_flt h2 lv h
theorem js2_kp {lv : jL} {k m : Nat} {v w : Value} (h : jld lv m = some w) (h1 : Nat.beq k m = false) (h2 : (!(m == k) && (!(m == k + 1) && !(m + 1 == k && w.category == 2))) = true) : jld (js2 lv k v) m = some w := by
  show (bif Nat.beq k m then some v else _) = _
  rw [h1, cond_false]
  exact jld_flt h2 lv h
theorem jdrop_kp {lv : jL} {k m : Nat} {w : Value} (h : jld lv m = some w) (h2 : (!(m == k) && !(m + 1 == k && w.category == 2)) = true) : jld (jdrop lv k) m = some w := jld_flt h2 lv h
def jcst (i : Instr) : Option (Int32 × Nat) := match i with
  | .iconst k => some (Int32.ofInt k, 1)
  | .bipush k => some ((Int8.ofInt k).toInt32, 2)
  | .sipush k => some ((Int16.ofInt k).toInt32, 3)
  | _ => none
/-- how a method ends -/
def srI (r : Int32) : Option Value ⊕ Nat := .inl (some (.int r))
def srL (r : Int64) : Option Value ⊕ Nat := .inl (some (.long r))
def srV (_ : Unit) : Option Value ⊕ Nat := .inl none
def srO (t : Nat) (r : Option (Nat × Nat)) : Option Value ⊕ Nat := .inl (some (soR t r))
def sthI (r : Int32 ⊕ Nat) : Option Value ⊕ Nat := match r with
  | .inl v => .inl (some (.int v))
  | .inr x => .inr x
def sthL (r : Int64 ⊕ Nat) : Option Value ⊕ Nat := match r with
  | .inl v => .inl (some (.long v))
  | .inr x => .inr x
def sthV (r : Unit ⊕ Nat) : Option Value ⊕ Nat := match r with
  | .inl _ => .inl none
  | .inr x => .inr x
theorem jret_o (t : Nat) (o : Option (Nat × Nat)) : jret 3 .areturn [soR t o] = some (some (soR t o)) := by cases o <;> rfl
theorem sR.xc {S : sS} {μ : jS} (R : sR S μ) : sR (sxc S) (μ.1, μ.2.1, μ.2.2.1 + 1, μ.2.2.2 + 6) :=
  ⟨R.1, R.2.1, by show (μ.2.1, μ.2.2.1 + 1, μ.2.2.2 + 6) = (S.2.2.2.2.1, S.2.2.2.2.2.1 + 1, S.2.2.2.2.2.2 + 6); rw [R.2.2]⟩
theorem sil_spec {t : Nat} (h : sia t = true) (a b : Nat) (f : Nat → Int32) {g : Nat → Int64} {X : sX} : scl t a b f g X = .inl (0, sil t b, .inl f) := by
  have h1 : t ∈ sial := List.elem_iff.mp h
  simp only [sial, List.mem_cons, List.not_mem_nil, or_false] at h1
  repeat' (first | (rcases h1 with rfl | h1) | (subst h1))
  all_goals rfl
/-! rows for the printed texts -/
section SXR
variable {G : jG} {P : jT} {j pc : Nat} {lv : jL} {st : List Value} {μ : jS} {Q : Option Value ⊕ Nat → jS → Prop} {S : sS}
/-- loads -/
theorem jX.li {k : Nat} {x : Int32} (l : jld lv k = some (.int x)) (hX : P.2.1 j pc = none) (hI : P.1 j pc = some (.iload k)) (K : jX G P j (pc + 2) lv (.int x :: st) μ Q) : jX G P j pc lv st μ Q := jX.go hX hI (by simp only [jstep, l]) K
theorem jX.lin {k : Fin 4} {x : Int32} (l : jld lv k = some (.int x)) (hX : P.2.1 j pc = none) (hI : P.1 j pc = some (.iload_n k)) (K : jX G P j (pc + 1) lv (.int x :: st) μ Q) : jX G P j pc lv st μ Q := jX.go hX hI (by simp only [jstep, l]) K
theorem jX.ll {k : Nat} {x : Int64} (l : jld lv k = some (.long x)) (hX : P.2.1 j pc = none) (hI : P.1 j pc = some (.lload k)) (K : jX G P j (pc + 2) lv (.long x :: st) μ Q) : jX G P j pc lv st μ Q := jX.go hX hI (by simp only [jstep, l]) K
theorem jX.lln {k : Fin 4} {x : Int64} (l : jld lv k = some (.long x)) (hX : P.2.1 j pc = none) (hI : P.1 j pc = some (.lload_n k)) (K : jX G P j (pc + 1) lv (.long x :: st) μ Q) : jX G P j pc lv st μ Q := jX.go hX hI (by simp only [jstep, l]) K
theorem jX.lr {k : Nat} {x : Nat} (l : jld lv k = some (.ref x)) (hX : P.2.1 j pc = none) (hI : P.1 j pc = some (.aload k)) (K : jX G P j (pc + 2) lv (.ref x :: st) μ Q) : jX G P j pc lv st μ Q := jX.go hX hI (by simp only [jstep, l]) K
theorem jX.lrn {k : Fin 4} {x : Nat} (l : jld lv k = some (.ref x)) (hX : P.2.1 j pc = none) (hI : P.1 j pc = some (.aload_n k)) (K : jX G P j (pc + 1) lv (.ref x :: st) μ Q) : jX G P j pc lv st μ Q := jX.go hX hI (by simp only [jstep, l]) K
theorem jX.lo {k : Nat} {t : Nat} {o : Option (Nat × Nat)} (l : jld lv k = some (soR t o)) (hX : P.2.1 j pc = none) (hI : P.1 j pc = some (.aload k)) (K : jX G P j (pc + 2) lv (soR t o :: st) μ Q) : jX G P j pc lv st μ Q := by
  cases o with
  | none => exact jX.go hX hI (by simp only [jstep, l, soR]) K
  | some a => exact jX.go hX hI (by simp only [jstep, l, soR]) K
theorem jX.lon {k : Fin 4} {t : Nat} {o : Option (Nat × Nat)} (l : jld lv k = some (soR t o)) (hX : P.2.1 j pc = none) (hI : P.1 j pc = some (.aload_n k)) (K : jX G P j (pc + 1) lv (soR t o :: st) μ Q) : jX G P j pc lv st μ Q := by
  cases o with
  | none => exact jX.go hX hI (by simp only [jstep, l, soR]) K
  | some a => exact jX.go hX hI (by simp only [jstep, l, soR]) K
theorem jX.lg {k : Nat} {x : UInt32} (l : jld lv k = some (.float x)) (hX : P.2.1 j pc = none) (hI : P.1 j pc = some (.aload k)) (K : jX G P j (pc + 2) lv (.float x :: st) μ Q) : jX G P j pc lv st μ Q := jX.go hX hI (by simp only [jstep, l]) K
theorem jX.lgn {k : Fin 4} {x : UInt32} (l : jld lv k = some (.float x)) (hX : P.2.1 j pc = none) (hI : P.1 j pc = some (.aload_n k)) (K : jX G P j (pc + 1) lv (.float x :: st) μ Q) : jX G P j pc lv st μ Q := jX.go hX hI (by simp only [jstep, l]) K
theorem jX.ln {k : Nat} (l : jld lv k = some .null) (hX : P.2.1 j pc = none) (hI : P.1 j pc = some (.aload k)) (K : jX G P j (pc + 2) lv (.null :: st) μ Q) : jX G P j pc lv st μ Q := jX.go hX hI (by simp only [jstep, l]) K
theorem jX.lnn {k : Fin 4} (l : jld lv k = some .null) (hX : P.2.1 j pc = none) (hI : P.1 j pc = some (.aload_n k)) (K : jX G P j (pc + 1) lv (.null :: st) μ Q) : jX G P j pc lv st μ Q := jX.go hX hI (by simp only [jstep, l]) K
theorem jX.ic {i : Instr} {n : Nat} {v : Int32} (hX : P.2.1 j pc = none) (hI : P.1 j pc = some i) (hv : jcst i = some (v, n)) (K : jX G P j (pc + n) lv (.int v :: st) μ Q) : jX G P j pc lv st μ Q := by
  unfold jcst at hv
  split at hv
  · cases hv; exact jX.go hX hI rfl K
  · cases hv; exact jX.go hX hI rfl K
  · cases hv; exact jX.go hX hI rfl K
  · cases hv
/-- stores -/
theorem jX.s1 {i : Instr} {pc' k : Nat} {v : Value} (hX : P.2.1 j pc = none) (hI : P.1 j pc = some i) (hs : jstep G (P.2.2.2.2.1 j) i pc lv (v :: st) μ = some (pc', js1 lv k v, st, μ)) (K : ∀ lv', jld lv' k = some v → (∀ m w, jld lv m = some w → Nat.beq k m = false → (!(m == k) && !(m + 1 == k && w.category == 2)) = true → jld lv' m = some w) → jX G P j pc' lv' st μ Q) : jX G P j pc lv (v :: st) μ Q :=
  jX.go hX hI hs (K _ (js1_at _ _ _) fun _ _ h h1 h2 => js1_kp h h1 h2)
theorem jX.s2 {i : Instr} {pc' k : Nat} {v : Value} (hX : P.2.1 j pc = none) (hI : P.1 j pc = some i) (hs : jstep G (P.2.2.2.2.1 j) i pc lv (v :: st) μ = some (pc', js2 lv k v, st, μ)) (K : ∀ lv', jld lv' k = some v → (∀ m w, jld lv m = some w → Nat.beq k m = false → (!(m == k) && (!(m == k + 1) && !(m + 1 == k && w.category == 2))) = true → jld lv' m = some w) → jX G P j pc' lv' st μ Q) : jX G P j pc lv (v :: st) μ Q :=
  jX.go hX hI hs (K _ (js2_at _ _ _) fun _ _ h h1 h2 => js2_kp h h1 h2)
theorem jX.so {i : Instr} {pc' k t : Nat} {o : Option (Nat × Nat)} (hX : P.2.1 j pc = none) (hI : P.1 j pc = some i) (hs : ∀ x, jstep G (P.2.2.2.2.1 j) i pc lv (.ref x :: st) μ = some (pc', js1 lv k (.ref x), st, μ)) (hn : jstep G (P.2.2.2.2.1 j) i pc lv (.null :: st) μ = some (pc', js1 lv k .null, st, μ)) (K : ∀ lv', jld lv' k = some (soR t o) → (∀ m w, jld lv m = some w → Nat.beq k m = false → (!(m == k) && !(m + 1 == k && w.category == 2)) = true → jld lv' m = some w) → jX G P j pc' lv' st μ Q) : jX G P j pc lv (soR t o :: st) μ Q := by
  cases o with
  | none => exact jX.s1 hX hI hn K
  | some a => exact jX.s1 hX hI (hs _) K
theorem jX.inc {k : Nat} {n : Int} {x : Int32} (l : jld lv k = some (.int x)) (hX : P.2.1 j pc = none) (hI : P.1 j pc = some (.iinc k n)) (hk : Nat.blt k (P.2.2.2.2.1 j).2.2.2.2.2.1 = true) (K : ∀ lv', jld lv' k = some (.int (x + Int32.ofInt n)) → (∀ m w, jld lv m = some w → Nat.beq k m = false → (!(m == k) && !(m + 1 == k && w.category == 2)) = true → jld lv' m = some w) → jX G P j (pc + 3) lv' st μ Q) : jX G P j pc lv st μ Q :=
  jX.go hX hI (by simp only [jstep, l]; exact jif_true hk) (K _ (js1_at _ _ _) fun _ _ h h1 h2 => js1_kp h h1 h2)
/-- fields -/
theorem jX.sg {k c f kd t a b : Nat} {fin : Bool} {fs : List Value} {v : Value} (R : sR S μ) (hE : sex S.2.2.2.1 t a b = true) (hX : P.2.1 j pc = none) (hI : P.1 j pc = some (.getfield k)) (hB : (P.2.2.2.2.1 j).1 k = some (c, f, kd, fin)) (hm : sce S t a b = .inr (c, fs)) (hv : fs[f]? = some v) (K : jX G P j (pc + 3) lv (v :: st) μ Q) : jX G P j pc lv (.ref (spl t a b) :: st) μ Q :=
  jX.gf hX hI hB ((R.1 _ _ _ hE).1.trans hm) hv K
theorem jX.spI {k c f kd t a b : Nat} {fin : Bool} {fs : List Value} {x : Int32} (R : sR S μ) (hE : sex S.2.2.2.1 t a b = true) (hX : P.2.1 j pc = none) (hI : P.1 j pc = some (.putfield k)) (hB : (P.2.2.2.2.1 j).1 k = some (c, f, kd, fin)) (hm : sce S t a b = .inr (c, fs)) (hs : scl t a b (upd (S.1 t a b) f x) (S.2.1 t a b) S.2.2.1 = .inr (c, fs.set f (.int x))) (hf : Nat.blt f fs.length = true) (hk : jfit kd (.int x) = true) (hF : (!fin || (P.2.2.2.2.1 j).2.2.2.2.2.2) = true) (K : ∀ μ', sR (siI S t a b f x) μ' → jX G P j (pc + 3) lv st μ' Q) : jX G P j pc lv (.int x :: .ref (spl t a b) :: st) μ Q := by
  refine jX.pf hX hI hB ((R.1 _ _ _ hE).1.trans hm) (Nat.le_of_ble_eq_true hf) hk hF (K _ ?_)
  have h := R.wI hE f x
  unfold sce at h
  rw [siI_self] at h
  have h2 : scl t a b (upd (S.1 t a b) f x) ((siI S t a b f x).2.1 t a b) (siI S t a b f x).2.2.1 = .inr (c, fs.set f (.int x)) := hs
  rw [h2] at h
  exact h
theorem jX.spL {k c f kd t a b : Nat} {fin : Bool} {fs : List Value} {x : Int64} (R : sR S μ) (hE : sex S.2.2.2.1 t a b = true) (hX : P.2.1 j pc = none) (hI : P.1 j pc = some (.putfield k)) (hB : (P.2.2.2.2.1 j).1 k = some (c, f, kd, fin)) (hm : sce S t a b = .inr (c, fs)) (hs : scl t a b (S.1 t a b) (vp_updL (S.2.1 t a b) f x) S.2.2.1 = .inr (c, fs.set f (.long x))) (hf : Nat.blt f fs.length = true) (hk : jfit kd (.long x) = true) (hF : (!fin || (P.2.2.2.2.1 j).2.2.2.2.2.2) = true) (K : ∀ μ', sR (siL S t a b f x) μ' → jX G P j (pc + 3) lv st μ' Q) : jX G P j pc lv (.long x :: .ref (spl t a b) :: st) μ Q := by
  refine jX.pf hX hI hB ((R.1 _ _ _ hE).1.trans hm) (Nat.le_of_ble_eq_true hf) hk hF (K _ ?_)
  have h := R.wL hE f x
  unfold sce at h
  rw [siL_self] at h
  have h2 : scl t a b ((siL S t a b f x).1 t a b) (vp_updL (S.2.1 t a b) f x) (siL S t a b f x).2.2.1 = .inr (c, fs.set f (.long x)) := hs
  rw [h2] at h
  exact h
/-- arrays -/
theorem jin_vp {x : Int32} {n : Nat} (h : jin x n = true) : vp_in x n := by
  have h' : ¬ (x < 0 ∨ n ≤ x.toNatClampNeg) := of_decide_eq_true h
  exact h'
theorem jX.sai {t a b n : Nat} {x : Int32} (R : sR S μ) (hE : sex S.2.2.2.1 t a b = true) (hX : P.2.1 j pc = none) (hI : P.1 j pc = some .iaload) (hm : sce S t a b = .inl (0, n, .inl (S.1 t a b))) (hi : jin x n = true) (K : jX G P j (pc + 1) lv (.int (S.1 t a b x.toNatClampNeg) :: st) μ Q) : jX G P j pc lv (.int x :: .ref (spl t a b) :: st) μ Q :=
  jX.iald hX hI ((R.1 _ _ _ hE).1.trans hm) (jin_vp hi) K
theorem jX.sal {t a b n : Nat} {x : Int32} (R : sR S μ) (hE : sex S.2.2.2.1 t a b = true) (hX : P.2.1 j pc = none) (hI : P.1 j pc = some .laload) (hm : sce S t a b = .inl (1, n, .inr (.inl (S.2.1 t a b)))) (hi : jin x n = true) (K : jX G P j (pc + 1) lv (.long (S.2.1 t a b x.toNatClampNeg) :: st) μ Q) : jX G P j pc lv (.int x :: .ref (spl t a b) :: st) μ Q :=
  jX.lald hX hI ((R.1 _ _ _ hE).1.trans hm) (jin_vp hi) K
theorem jX.sar {t a b c n : Nat} {f : Nat → Option Nat} {x : Int32} {v : Value} (R : sR S μ) (hE : sex S.2.2.2.1 t a b = true) (hX : P.2.1 j pc = none) (hI : P.1 j pc = some .aaload) (hm : sce S t a b = .inl (c, n, .inr (.inr (.inr (.inr f))))) (hi : jin x n = true) (hv : va_rf (f x.toNatClampNeg) = v) (K : jX G P j (pc + 1) lv (v :: st) μ Q) : jX G P j pc lv (.int x :: .ref (spl t a b) :: st) μ Q := by
  subst hv
  exact jX.aald hX hI ((R.1 _ _ _ hE).1.trans hm) (jin_vp hi) K
theorem srf_in {x : Int32} {n : Nat} {q : Nat} (h : jin x n = true) : va_rf (bif Nat.blt x.toNatClampNeg n then some q else none) = .ref q := by
  have h1 := jin_vp h
  have h2 : Nat.blt x.toNatClampNeg n = true := Nat.ble_eq_true_of_le (Nat.not_le.mp fun z => h1 (Or.inr z))
  rw [h2]
  rfl
theorem srf_27 (o : Option Nat) : va_rf o = soR 27 (o.map fun p => (p, 0)) := by cases o <;> rfl
theorem srf_32 (o : Option Nat) : va_rf o = soR 32 (o.map fun p => (p, 0)) := by cases o <;> rfl
theorem jX.sti {t a b n : Nat} {x y : Int32} (R : sR S μ) (hE : sex S.2.2.2.1 t a b = true) (hX : P.2.1 j pc = none) (hI : P.1 j pc = some .iastore) (hm : ∀ f, scl t a b f (S.2.1 t a b) S.2.2.1 = .inl (0, n, .inl f)) (hi : jin x n = true) (K : ∀ μ', sR (siI S t a b x.toNatClampNeg y) μ' → jX G P j (pc + 1) lv st μ' Q) : jX G P j pc lv (.int y :: .int x :: .ref (spl t a b) :: st) μ Q := by
  refine jX.iast hX hI ((R.1 _ _ _ hE).1.trans (hm _)) (jin_vp hi) (K _ ?_)
  have h := R.wI hE x.toNatClampNeg y
  unfold sce at h
  rw [siI_self] at h
  have h2 : scl t a b (upd (S.1 t a b) x.toNatClampNeg y) ((siI S t a b x.toNatClampNeg y).2.1 t a b) (siI S t a b x.toNatClampNeg y).2.2.1 = _ := hm _
  rw [h2] at h
  exact h
theorem jX.stl {t a b n : Nat} {x : Int32} {y : Int64} (R : sR S μ) (hE : sex S.2.2.2.1 t a b = true) (hX : P.2.1 j pc = none) (hI : P.1 j pc = some .lastore) (hm : ∀ g, scl t a b (S.1 t a b) g S.2.2.1 = .inl (1, n, .inr (.inl g))) (hi : jin x n = true) (K : ∀ μ', sR (siL S t a b x.toNatClampNeg y) μ' → jX G P j (pc + 1) lv st μ' Q) : jX G P j pc lv (.long y :: .int x :: .ref (spl t a b) :: st) μ Q := by
  refine jX.last hX hI ((R.1 _ _ _ hE).1.trans (hm _)) (jin_vp hi) (K _ ?_)
  have h := R.wL hE x.toNatClampNeg y
  unfold sce at h
  rw [siL_self] at h
  have h2 : scl t a b ((siL S t a b x.toNatClampNeg y).1 t a b) (vp_updL (S.2.1 t a b) x.toNatClampNeg y) (siL S t a b x.toNatClampNeg y).2.2.1 = _ := hm _
  rw [h2] at h
  exact h
theorem jX.sln {t a b k n : Nat} {x : (Nat → Int32) ⊕ (Nat → Int64) ⊕ (Nat → UInt32) ⊕ (Nat → UInt64) ⊕ (Nat → Option Nat)} (R : sR S μ) (hE : sex S.2.2.2.1 t a b = true) (hX : P.2.1 j pc = none) (hI : P.1 j pc = some .arraylength) (hm : sce S t a b = .inl (k, n, x)) (K : jX G P j (pc + 1) lv (.int (Int32.ofNat n) :: st) μ Q) : jX G P j pc lv (.ref (spl t a b) :: st) μ Q :=
  jX.alen hX hI ((R.1 _ _ _ hE).1.trans hm) K
/-- branches -/
theorem jX.b1t {c : ClassFile.Cond} {off : Int} {t : Nat} {x : Int32} (hc : jcmp c x 0 = true) (hX : P.2.1 j pc = none) (hI : P.1 j pc = some (.ifCond c off)) (ht : jtg pc off = some t) (K : jX G P j t lv st μ Q) : jX G P j pc lv (.int x :: st) μ Q := jX.go hX hI (by simp only [jstep, ht, hc]; rfl) K
theorem jX.b1f {c : ClassFile.Cond} {off : Int} {t : Nat} {x : Int32} (hc : jcmp c x 0 = false) (hX : P.2.1 j pc = none) (hI : P.1 j pc = some (.ifCond c off)) (ht : jtg pc off = some t) (K : jX G P j (pc + 3) lv st μ Q) : jX G P j pc lv (.int x :: st) μ Q := jX.go hX hI (by simp only [jstep, ht, hc]; rfl) K
theorem jX.b2t {c : ClassFile.Cond} {off : Int} {t : Nat} {x y : Int32} (hc : jcmp c x y = true) (hX : P.2.1 j pc = none) (hI : P.1 j pc = some (.if_icmp c off)) (ht : jtg pc off = some t) (K : jX G P j t lv st μ Q) : jX G P j pc lv (.int y :: .int x :: st) μ Q := jX.go hX hI (by simp only [jstep, ht, hc]; rfl) K
theorem jX.b2f {c : ClassFile.Cond} {off : Int} {t : Nat} {x y : Int32} (hc : jcmp c x y = false) (hX : P.2.1 j pc = none) (hI : P.1 j pc = some (.if_icmp c off)) (ht : jtg pc off = some t) (K : jX G P j (pc + 3) lv st μ Q) : jX G P j pc lv (.int y :: .int x :: st) μ Q := jX.go hX hI (by simp only [jstep, ht, hc]; rfl) K
theorem jX.ir {x y : Int32} (hy : decide (¬ y = 0) = true) (hX : P.2.1 j pc = none) (hI : P.1 j pc = some .irem) (K : jX G P j (pc + 1) lv (.int (x - x / y * y) :: st) μ Q) : jX G P j pc lv (.int y :: .int x :: st) μ Q := jX.go hX hI (by simp only [jstep]; exact jif_true hy) K
theorem jX.ld {x y : Int64} (hy : decide (¬ y = 0) = true) (hX : P.2.1 j pc = none) (hI : P.1 j pc = some .ldiv) (K : jX G P j (pc + 1) lv (.long (x / y) :: st) μ Q) : jX G P j pc lv (.long y :: .long x :: st) μ Q := jX.go hX hI (by simp only [jstep]; exact jif_true hy) K
theorem jX.gi {x : Int32} {g : UInt32} (hi : jin x (G g.toNat).1 = true) (hX : P.2.1 j pc = none) (hI : P.1 j pc = some .iaload) (K : jX G P j (pc + 1) lv (.int ((G g.toNat).2 x.toNatClampNeg) :: st) μ Q) : jX G P j pc lv (.int x :: .float g :: st) μ Q := jX.iag hX hI (jin_vp hi) K
/-- a switch: out of its range; at a number of it -/
theorem jX.swd {d lo hi : Int} {offs : Array Int} {x : Int32} {t : Nat} (hx : decide (x.toInt < lo ∨ hi < x.toInt) = true) (hX : P.2.1 j pc = none) (hI : P.1 j pc = some (.tableswitch d lo hi offs)) (ht : jtg pc d = some t) (K : jX G P j t lv st μ Q) : jX G P j pc lv (.int x :: st) μ Q :=
  jX.go hX hI (by simp only [jstep, hx, cond_true, ht]) K
theorem jX.swn {i : Instr} {x v : Int32} {t : Nat} (hx : decide (x = v) = true) (hX : P.2.1 j pc = none) (hI : P.1 j pc = some i) (hs : jstep G (P.2.2.2.2.1 j) i pc lv (.int v :: st) μ = some (t, lv, st, μ)) (K : jX G P j t lv st μ Q) : jX G P j pc lv (.int x :: st) μ Q := by
  rw [of_decide_eq_true hx]
  exact jX.go hX hI hs K
theorem lsw_d {x d : Int} : ∀ ps : List (Int × Int), (∀ p ∈ ps, p.1 ≠ x) → Op.lookupswitch.offset ps d x = d := by
  intro ps
  induction ps with
  | nil => intro _; rfl
  | cons p r ih =>
    intro h
    have h1 : ¬ p.1 = x := h p List.mem_cons_self
    have h2 := ih fun q hq => h q (List.mem_cons_of_mem _ hq)
    have h3 : ¬ x = p.1 := fun z => h1 z.symm
    simp [Op.lookupswitch.offset, h1, h2, h3]
theorem lsd_ok {x : Int32} {ps : Array (Int × Int)} (ks : List Nat) (hk : ps.toList.map (fun p => p.1) = ks.map (fun (k : Nat) => (k : Int))) (hn : ∀ k ∈ ks, k < 2 ^ 31 ∧ decide (x = nI k) = false) : ∀ p ∈ ps.toList, p.1 ≠ x.toInt := by
  intro p hp e
  have h1 : p.1 ∈ ks.map (fun (k : Nat) => (k : Int)) := by rw [← hk]; exact List.mem_map.mpr ⟨p, hp, rfl⟩
  obtain ⟨k, hk1, hk2⟩ := List.mem_map.mp h1
  obtain ⟨h2, h3⟩ := hn k hk1
  refine of_decide_eq_false h3 (Int32.toInt_inj.mp ?_)
  rw [nI_toInt h2, hk2, e]
theorem jX.lsd {d : Int} {ps : Array (Int × Int)} {x : Int32} {t : Nat} (hX : P.2.1 j pc = none) (hI : P.1 j pc = some (.lookupswitch d ps)) (ht : jtg pc d = some t) (hs : (ps.toList.zip (ps.toList.drop 1)).all (fun (a, next) => a.1 < next.1) = true) (hn : ∀ p ∈ ps.toList, p.1 ≠ x.toInt) (K : jX G P j t lv st μ Q) : jX G P j pc lv (.int x :: st) μ Q :=
  jX.go hX hI (by simp only [jstep, lsw_d _ hn, ht]; exact jif_true hs) K
/-- System.arraycopy -/
theorem jX.cpI {i : Instr} {k n0 n1 t a b t' a' b' : Nat} {sp dp n : Int32} {rest : List Value} (R : sR S μ) (hE : sex S.2.2.2.1 t a b = true) (hE' : sex S.2.2.2.1 t' a' b' = true) (hX : P.2.1 j pc = none) (hI : P.1 j pc = some i) (hs : jstep G (P.2.2.2.2.1 j) i pc lv st μ = none) (hv : jret (P.2.2.2.2.2 j) i st = none) (hk : jcix i = some k) (hy : P.2.2.2.1 j k = some (1, 5, none)) (ha : jarg 5 st [] = some ([.ref (spl t a b), .int sp, .ref (spl t' a' b'), .int dp, .int n], rest)) (h9 : true = true) (h8 : (rest.map fun v => v.category).sum ≤ 8) (hm : ∀ f, scl t a b f (S.2.1 t a b) S.2.2.1 = .inl (0, n0, .inl f)) (hm' : ∀ f, scl t' a' b' f (S.2.1 t' a' b') S.2.2.1 = .inl (0, n1, .inl f)) (hc : decide (¬ sp < 0 ∧ ¬ dp < 0 ∧ ¬ n < 0 ∧ sp.toNatClampNeg + n.toNatClampNeg ≤ n0 ∧ dp.toNatClampNeg + n.toNatClampNeg ≤ n1) = true)
    (K : ∀ μ', sR (saI S t' a' b' (va_cpy (S.1 t a b) (S.1 t' a' b') sp.toNatClampNeg dp.toNatClampNeg n.toNatClampNeg)) μ' → jX G P j (pc + 3) lv rest μ' Q) : jX G P j pc lv st μ Q := by
  have e1 : μ.1 (spl t a b) = .inl (0, n0, .inl (S.1 t a b)) := (R.1 _ _ _ hE).1.trans (hm _)
  have e2 : μ.1 (spl t' a' b') = .inl (0, n1, .inl (S.1 t' a' b')) := (R.1 _ _ _ hE').1.trans (hm' _)
  refine jX.cpy (μ' := jw μ (spl t' a' b') (.inl (0, n1, .inl (va_cpy (S.1 t a b) (S.1 t' a' b') sp.toNatClampNeg dp.toNatClampNeg n.toNatClampNeg)))) hX hI hs hv hk hy ha rfl h8 ?_ (K _ ?_)
  · simp only [jcpy, e1, e2]
    exact jif_true hc
  · have h := R.aI hE' (va_cpy (S.1 t a b) (S.1 t' a' b') sp.toNatClampNeg dp.toNatClampNeg n.toNatClampNeg)
    unfold sce at h
    rw [saI_self] at h
    have h2 : scl t' a' b' (va_cpy (S.1 t a b) (S.1 t' a' b') sp.toNatClampNeg dp.toNatClampNeg n.toNatClampNeg) ((saI S t' a' b' (va_cpy (S.1 t a b) (S.1 t' a' b') sp.toNatClampNeg dp.toNatClampNeg n.toNatClampNeg)).2.1 t' a' b') (saI S t' a' b' (va_cpy (S.1 t a b) (S.1 t' a' b') sp.toNatClampNeg dp.toNatClampNeg n.toNatClampNeg)).2.2.1 = _ := hm' _
    rw [h2] at h
    exact h
theorem jX.cpL {i : Instr} {k n0 n1 t a b t' a' b' : Nat} {sp dp n : Int32} {rest : List Value} (R : sR S μ) (hE : sex S.2.2.2.1 t a b = true) (hE' : sex S.2.2.2.1 t' a' b' = true) (hX : P.2.1 j pc = none) (hI : P.1 j pc = some i) (hs : jstep G (P.2.2.2.2.1 j) i pc lv st μ = none) (hv : jret (P.2.2.2.2.2 j) i st = none) (hk : jcix i = some k) (hy : P.2.2.2.1 j k = some (1, 5, none)) (ha : jarg 5 st [] = some ([.ref (spl t a b), .int sp, .ref (spl t' a' b'), .int dp, .int n], rest)) (h9 : true = true) (h8 : (rest.map fun v => v.category).sum ≤ 8) (hm : ∀ f, scl t a b (S.1 t a b) f S.2.2.1 = .inl (1, n0, .inr (.inl f))) (hm' : ∀ f, scl t' a' b' (S.1 t' a' b') f S.2.2.1 = .inl (1, n1, .inr (.inl f))) (hc : decide (¬ sp < 0 ∧ ¬ dp < 0 ∧ ¬ n < 0 ∧ sp.toNatClampNeg + n.toNatClampNeg ≤ n0 ∧ dp.toNatClampNeg + n.toNatClampNeg ≤ n1) = true)
    (K : ∀ μ', sR (saL S t' a' b' (va_cpy (S.2.1 t a b) (S.2.1 t' a' b') sp.toNatClampNeg dp.toNatClampNeg n.toNatClampNeg)) μ' → jX G P j (pc + 3) lv rest μ' Q) : jX G P j pc lv st μ Q := by
  have e1 : μ.1 (spl t a b) = .inl (1, n0, .inr (.inl (S.2.1 t a b))) := (R.1 _ _ _ hE).1.trans (hm _)
  have e2 : μ.1 (spl t' a' b') = .inl (1, n1, .inr (.inl (S.2.1 t' a' b'))) := (R.1 _ _ _ hE').1.trans (hm' _)
  refine jX.cpy (μ' := jw μ (spl t' a' b') (.inl (1, n1, .inr (.inl (va_cpy (S.2.1 t a b) (S.2.1 t' a' b') sp.toNatClampNeg dp.toNatClampNeg n.toNatClampNeg))))) hX hI hs hv hk hy ha rfl h8 ?_ (K _ ?_)
  · simp only [jcpy, e1, e2]
    exact jif_true hc
  · have h := R.aL hE' (va_cpy (S.2.1 t a b) (S.2.1 t' a' b') sp.toNatClampNeg dp.toNatClampNeg n.toNatClampNeg)
    unfold sce at h
    rw [saL_self] at h
    have h2 : scl t' a' b' ((saL S t' a' b' (va_cpy (S.2.1 t a b) (S.2.1 t' a' b') sp.toNatClampNeg dp.toNatClampNeg n.toNatClampNeg)).1 t' a' b') (va_cpy (S.2.1 t a b) (S.2.1 t' a' b') sp.toNatClampNeg dp.toNatClampNeg n.toNatClampNeg) (saL S t' a' b' (va_cpy (S.2.1 t a b) (S.2.1 t' a' b') sp.toNatClampNeg dp.toNatClampNeg n.toNatClampNeg)).2.2.1 = _ := hm' _
    rw [h2] at h
    exact h
/-- a boolean answered -/
theorem jret_b {x : Int32} (h : jfit 1 (.int x) = true) : jret 1 .ireturn [.int x] = some (some (.int x)) := jif_true h
/-- a receiver that is there -/
theorem sR.rec {t a b c : Nat} {fs as : List Value} (R : sR S μ) (hE : sex S.2.2.2.1 t a b = true) (hm : sce S t a b = .inr (c, fs)) : jrec μ (some c) (.ref (spl t a b) :: as) = true := by
  show (match μ.1 (spl t a b) with
    | .inr (d, _) => Nat.beq d c
    | _ => false) = true
  rw [(R.1 _ _ _ hE).1, hm]
  exact Nat.beq_refl c
/-- calls -/
theorem jX.cv {i : Instr} {k y n : Nat} {rc : Option Nat} {as rest : List Value} (hX : P.2.1 j pc = none) (hI : P.1 j pc = some i) (hs : jstep G (P.2.2.2.2.1 j) i pc lv st μ = none) (hv : jret (P.2.2.2.2.2 j) i st = none) (hk : jcix i = some k) (hy : P.2.2.2.1 j k = some (y + 2, n, rc)) (ha : jarg n st [] = some (as, rest)) (hr : jrec μ rc as = true) (h8 : (rest.map fun v => v.category).sum ≤ 8) (hw : (as.map fun v => v.category).sum ≤ (P.2.2.2.2.1 y).2.2.2.2.2.1)
    (c : jX G P y 0 (lv_args 0 as) [] μ (fun o μ' => o = .inl none ∧ jX G P j (pc + 3) lv rest μ' Q)) : jX G P j pc lv st μ Q :=
  jX.call hX hI hs hv hk hy ha hr h8 hw (jX.imp (fun o μ' h => by obtain ⟨rfl, h⟩ := h; exact h) c)
theorem jX.c1 {i : Instr} {k y n : Nat} {rc : Option Nat} {as rest : List Value} {v : Value} (hX : P.2.1 j pc = none) (hI : P.1 j pc = some i) (hs : jstep G (P.2.2.2.2.1 j) i pc lv st μ = none) (hv : jret (P.2.2.2.2.2 j) i st = none) (hk : jcix i = some k) (hy : P.2.2.2.1 j k = some (y + 2, n, rc)) (ha : jarg n st [] = some (as, rest)) (hr : jrec μ rc as = true) (h8 : (rest.map fun v => v.category).sum ≤ 8) (hw : (as.map fun v => v.category).sum ≤ (P.2.2.2.2.1 y).2.2.2.2.2.1)
    (c : jX G P y 0 (lv_args 0 as) [] μ (fun o μ' => o = .inl (some v) ∧ jX G P j (pc + 3) lv (v :: rest) μ' Q)) : jX G P j pc lv st μ Q :=
  jX.call hX hI hs hv hk hy ha hr h8 hw (jX.imp (fun o μ' h => by obtain ⟨rfl, h⟩ := h; exact h) c)
/-- ends -/
theorem sretv {α : Type} {f : α → Option Value ⊕ Nat} {x r : α} {S S' : sS} (h : some (x, S) = some (r, S')) (K : ∀ μ', sR S' μ' → Q (f r) μ') (R : sR S μ) : Q (f x) μ := by
  cases h
  exact K μ R
end SXR
