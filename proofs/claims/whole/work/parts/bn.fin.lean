/-! The law's loop to its end, from the first store. -/
section FIN
variable {U S T : sS} {G : jG} {t L : Nat} {xs : Nat → Int32}
theorem gt_end {i : Nat} (hi : L < i + 3) (hL : L ≤ 1536) (hi2 : i < 2147483648) : jcmp .gt (nI i) (Int32.ofNat L - nI 3) = true := by
  by_cases c : 3 ≤ L
  · have e : Int32.ofNat L - nI 3 = nI (L - 3) := nIs (a := L) (b := 3) c
    rw [e, jcGT (by omega) (by omega)]
    exact decide_eq_true (by omega)
  · have : L = 0 ∨ L = 1 ∨ L = 2 := by omega
    refine decide_eq_true ?_
    show Int32.ofNat L - nI 3 < nI i
    rw [Int32.lt_iff_toInt_lt, nI_toInt hi2]
    rcases this with rfl | rfl | rfl
    · rw [show (Int32.ofNat 0 - nI 3).toInt = -3 from by decide]; omega
    · rw [show (Int32.ofNat 1 - nI 3).toInt = -2 from by decide]; omega
    · rw [show (Int32.ofNat 2 - nI 3).toInt = -1 from by decide]; omega
set_option maxHeartbeats 4000000 in
set_option linter.unusedSimpArgs false in
theorem law_loop (hG : gG G) (ht : 2147483648 < t) (hL : (G 0).1 = L) (hL2 : L ≤ 1536) : ∀ n i c tt U x, L < i + 3 * n + 3 → i = 3 * c → i ≤ 1536 → n < tt → topR c U U → rmR U x → ∃ U' x', F_204_23 G t tt (nI i) U = some (nI 1, U') ∧ rmR U' x' ∧ x' ≤ x + n := by
  intro n
  induction n with
  | zero =>
    intro i c tt U x h1 h2 h3 h4 R rm
    obtain ⟨u, rfl⟩ : ∃ u, tt = u + 1 := ⟨tt - 1, by omega⟩
    refine ⟨U, x, ?_, rm, by omega⟩
    rw [F_204_23]
    dsimp only
    rw [hL, gt_end (by omega) hL2 (by omega), cond_true]
  | succ n ih =>
    intro i c tt U x h1 h2 h3 h4 R rm
    obtain ⟨u, rfl⟩ : ∃ u, tt = u + 1 := ⟨tt - 1, by omega⟩
    by_cases he : L < i + 3
    · refine ⟨U, x, ?_, rm, by omega⟩
      rw [F_204_23]
      dsimp only
      rw [hL, gt_end he hL2 (by omega), cond_true]
    · have hi : i + 3 ≤ L := by omega
      have N : nxU G t i c x (F_204_23 G t u) (F_204_23 G t (u + 1) (nI i) U) := by
        obtain ⟨k, hk, ho⟩ := and15 ((G 0).2 i)
        match k, hk, ho with
        | 0, _, ho =>
          rw [lw_0 hL hi hL2 ho]
          exact b_0 hG ht hL hi hL2 R (by omega) rm
        | 1, _, ho =>
          rw [lw_1 hL hi hL2 ho]
          exact b_1 hG ht hL hi hL2 R (by omega) rm
        | 2, _, ho =>
          rw [lw_2 hL hi hL2 ho]
          exact b_2 hG ht hL hi hL2 R (by omega) rm
        | 3, _, ho =>
          rw [lw_3 hL hi hL2 ho]
          exact b_3 hG ht hL hi hL2 R (by omega) rm
        | 4, _, ho =>
          rw [lw_4 hL hi hL2 ho]
          exact b_4 hG ht hL hi hL2 R (by omega) rm
        | 5, _, ho =>
          rw [lw_5 hL hi hL2 ho]
          exact b_5 hG ht hL hi hL2 R (by omega) rm
        | 6, _, ho =>
          rw [lw_6 hL hi hL2 ho]
          exact b_6 hG ht hL hi hL2 R (by omega) rm
        | 7, _, ho =>
          rw [lw_7 hL hi hL2 ho]
          exact b_7 hG ht hL hi hL2 R (by omega) rm
        | 8, _, ho =>
          rw [lw_8 hL hi hL2 ho]
          exact b_8 hG ht hL hi hL2 R (by omega) rm
        | 9, _, ho =>
          rw [lw_9 hL hi hL2 ho]
          exact b_9 hG ht hL hi hL2 R (by omega) rm
        | 10, _, ho =>
          rw [lw_10 hL hi hL2 ho]
          exact b_10 hG ht hL hi hL2 R (by omega) rm
        | 11, _, ho =>
          rw [lw_11 hL hi hL2 ho]
          exact b_11 hG ht hL hi hL2 R (by omega) rm
        | 12, _, ho =>
          rw [lw_12 hL hi hL2 ho]
          exact b_12 hG ht hL hi hL2 R (by omega) rm
        | 13, _, ho =>
          rw [lw_13 hL hi hL2 ho]
          exact b_13 hG ht hL hi hL2 R (by omega) rm
        | 14, _, ho =>
          rw [lw_14 hL hi hL2 ho]
          exact b_14 hG ht hL hi hL2 R (by omega) rm
        | 15, _, ho =>
          rw [lw_15 hL hi hL2 ho]
          exact b_15 hG ht hL hi hL2 R (by omega) rm
        | n + 16, h, _ => omega
      obtain ⟨U1, e1, R1, x1, x2, x3⟩ := N
      obtain ⟨U', x', a1, a2, a3⟩ := ih (i + 3) (c + 1) u U1 x1 (by omega) (by omega) (by omega) (by omega) R1 x3
      exact ⟨U', x', e1.trans a1, a2, by omega⟩
theorem gG0 (L : Nat) (xs : Nat → Int32) : gG (jG0 L xs) := ⟨rfl, rfl, by
  show ∀ o, o < 37 → jTk o = nI (tkL.getD o 0) ∧ jPu o = nI (gvL.getD o 0)
  decide⟩
theorem top0 (z : Nat) : topR 0 (S0 z) (S0 z) := by
  have ow : own (S0 z) := ⟨fun s d p h => (by cases h), fun s d s' d' p h => (by cases h), fun h p hp => (by cases hp), fun h h' p hp => (by cases hp), fun p hp => (by cases hp), fun p hp => (by cases hp), by show 0 < 7857; omega⟩
  have w : wR (fun _ => 0) (fun _ => False) 0 0 (fun _ => 0, fun _ => 0, fun _ => 0, fun _ => 0, fun _ => 0, fun _ => 0) (S0 z) (S0 z) (A0 0) := by
    refine fresh_w ⟨⟨rfl, rfl, by omega⟩, ⟨rfl, rfl, by omega⟩, fun f hf => by omega, fun q hq => by omega, fun _ => rfl, fun f hf => by omega⟩ (fun f hf => by omega) (fun s hs => ⟨rfl, rfl, rfl, rfl⟩) (fun s hs => ⟨rfl, rfl⟩) rfl (fun i hi => ⟨⟨rfl, rfl⟩, rfl, rfl⟩) ⟨rfl, rfl, rfl, rfl⟩ rfl ⟨rfl, rfl, rfl, rfl, rfl, rfl, rfl, rfl⟩ ⟨rfl, rfl, rfl⟩ ow
  have gc : gcR (fun _ => False) (S0 z) := by
    refine fresh_gc (sw := 0) (fun h hh => Or.inl rfl) rfl rfl rfl rfl rfl (by omega) (fun i hi => ?_) ⟨fun h hh => ⟨rfl, by show 0 ≤ 2; omega⟩, rfl, fun i x hx => (by cases hx), List.nodup_nil, fun h => ⟨fun q => (by cases q), fun q => by have : 0 = 1 := q.2; omega⟩⟩
    show (bif Nat.blt i 600 then nI 599 - nI i else 0) = nI (599 - i)
    rw [show Nat.blt i 600 = true from Nat.ble_eq_true_of_le hi, cond_true, nIs (by omega)]
  exact ⟨_, _, _, _, _, _, Or.inl ⟨w, gc, rfl, rfl, rfl, ⟨0, rfl⟩, fun h => id⟩, by show 0 + 0 ≤ 1000 * 0; omega⟩
theorem rmz0 {z : Nat} (hz : z ≤ 200000) : rmR (S0 z) 0 := by
  have a : cF (S0 z).2.2.1.1 = 0 := by
    unfold cF
    exact List.countP_eq_zero.mpr (fun k hk => by
      show ¬ (none : Option Nat).isSome = true
      decide)
  have b : cT (S0 z).2.2.1.2 = 0 := by
    unfold cT
    exact List.countP_eq_zero.mpr (fun k hk => by
      show ¬ (none : Option Nat).isSome = true
      decide)
  unfold rmR
  rw [a, b]
  show 7857 = _ ∧ z ≤ _
  omega
theorem cF_le (X : Nat → Nat → Option Nat) : cF X ≤ 480 := by
  unfold cF
  exact Nat.le_trans List.countP_le_length (Nat.le_of_eq List.length_range)
theorem cT_le (X : Nat → Option Nat) : cT X ≤ 600 := by
  unfold cT
  exact Nat.le_trans List.countP_le_length (Nat.le_of_eq List.length_range)
theorem sLaw_all (L : Nat) (xs : Nat → Int32) (hL : L ≤ 1536) : sLaw L xs := by
  intro z hz
  obtain ⟨t, ht⟩ : ∃ t : Nat, 2147483648 < t := ⟨2147483649, by omega⟩
  obtain ⟨U, x, e, rm, hx⟩ := law_loop (G := jG0 L xs) (L := L) (gG0 L xs) ht rfl hL 512 0 0 t (S0 z) 0 (by omega) (by omega) (by omega) (by omega) (top0 z) (rmz0 hz)
  have a := cF_le U.2.2.1.1
  have b := cT_le U.2.2.1.2
  obtain ⟨r1, r2⟩ := rm
  exact ⟨t, U, e, by omega, by omega⟩
end FIN
