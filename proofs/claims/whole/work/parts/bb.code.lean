/-! printed by genbb.py: code -/
section PR3
variable {φ φ' : Nat → Nat} {D D' : Nat → Prop} {F N : Nat} {P P' : aP} {S S' T T' T1 : sS} {A : aS} {r s d p f pc n m e b k y g q o F' N' lo : Nat} {G : jG} {t j : Nat} {a : Int32}
theorem neg_lt (h : jcmp .lt a 0 = true) (n : Nat) (hn : n < 2147483648) : jcmp .lt a (nI n) = true := decide_eq_true (by
  have hlt : a < 0 := of_decide_eq_true h
  rw [Int32.lt_iff_toInt_lt] at hlt ⊢
  rw [nI_toInt hn]
  have : (0 : Int32).toInt = 0 := by decide
  omega)
/-! is the argument allowed: k both say -/
def alQ (S T : sS) (G : jG) (t lo o : Nat) (a : Int32) : Prop := ∃ k, k ≤ 1 ∧ F_48 G t (nI o) a S = some (nI k, S) ∧ F_138 G t (nI o) a T = some (nI k, T) ∧ (k = 1 → okI lo o a)
set_option maxHeartbeats 4000000 in
set_option linter.unusedSimpArgs false in
theorem al_2 (h6 : S.1 1 0 0 6 = nI (F + 1)) (hF : F < 32) (t6 : T.1 33 0 0 13 = nI (F + 1)) (h3 : S.1 3 0 0 F = nI lo) (t3 : T.1 38 0 0 F = nI lo) (hl : lo ≤ 12) : ∃ k, k ≤ 1 ∧ F_48_136 G t a S = some (nI k, S) ∧ F_138_136 G t a T = some (nI k, T) ∧ (k = 1 → ∃ k, a = nI k ∧ k < lo) := by
  have e24 : F_24 G t (nI (F + 1) - nI 1) S = some (nI lo, S) := by
    rw [nIs (by omega), show F + 1 - 1 = F by omega, f_24 h6 (by omega) (by omega), h3]
  have m : jcmp .eq (nI (F + 1)) 0 = false := by
    show jcmp .eq (nI (F + 1)) (nI 0) = false
    rw [jcEQ (by omega) (by omega)]; exact decide_eq_false (by omega)
  have m2 : nI (F + 1) - nI 1 = nI F := by rw [nIs (by omega)]; rfl
  rcases le_or a 1 (by omega) with c | ⟨j, j2, rfl⟩
  · refine ⟨0, by omega, ?_, ?_, fun z => by omega⟩
    · unfold F_48_136
      rw [c, cond_true]
    · unfold F_138_136
      rw [t6, m, cond_false, c, cond_true]
  · have l1 : jcmp .lt (nI j) 0 = false := by
      show jcmp .lt (nI j) (nI 0) = false
      rw [jcLT (by omega) (by omega)]; exact decide_eq_false (by omega)
    by_cases cj : j < lo
    · refine ⟨1, by omega, ?_, ?_, fun _ => ⟨j, rfl, cj⟩⟩
      · unfold F_48_136
        rw [l1, cond_false, h6, e24, bdS]
        dsimp only
        rw [jcGE (by omega) (by omega), decide_eq_false (by omega), cond_false]
      · unfold F_138_136 F_138_162
        rw [t6, m, cond_false, l1, cond_false, m2, jif_true (jin_N (by omega) (by omega)), nI_clamp (by omega), t3, jcGE (by omega) (by omega), decide_eq_false (by omega), cond_false]
    · refine ⟨0, by omega, ?_, ?_, fun z => by omega⟩
      · unfold F_48_136
        rw [l1, cond_false, h6, e24, bdS]
        dsimp only
        rw [jcGE (by omega) (by omega), decide_eq_true (by omega), cond_true]
      · unfold F_138_136 F_138_162
        rw [t6, m, cond_false, l1, cond_false, m2, jif_true (jin_N (by omega) (by omega)), nI_clamp (by omega), t3, jcGE (by omega) (by omega), decide_eq_true (by omega), cond_true]
theorem al_ge (n : Nat) (hn : n < 2147483648) : ∃ k, k ≤ 1 ∧ (bif jcmp .lt a 0 then (some ((nI 0), S)) else (bif jcmp .ge a (nI n) then (some ((nI 0), S)) else (some ((nI 1), S)))) = some (nI k, S) ∧ (bif jcmp .lt a 0 then (some ((nI 0), T)) else (bif jcmp .ge a (nI n) then (some ((nI 0), T)) else (some ((nI 1), T)))) = some (nI k, T) ∧ (bif jcmp .lt a 0 then (some ((nI 0), T)) else (bif jcmp .gt a (nI (n - 1)) then (some ((nI 0), T)) else (some ((nI 1), T)))) = (if 0 < n then some (nI k, T) else (bif jcmp .lt a 0 then (some ((nI 0), T)) else (bif jcmp .gt a (nI (n - 1)) then (some ((nI 0), T)) else (some ((nI 1), T))))) ∧ (k = 1 → ∃ k, a = nI k ∧ k < n) := by
  rcases le_or a 1 (by omega) with c | ⟨j, j2, rfl⟩
  · refine ⟨0, by omega, ?_, ?_, ?_, fun z => by omega⟩
    · rw [c, cond_true]
    · rw [c, cond_true]
    · by_cases c0 : 0 < n
      · rw [if_pos c0, c, cond_true]
      · rw [if_neg c0]
  · have l1 : jcmp .lt (nI j) 0 = false := by
      show jcmp .lt (nI j) (nI 0) = false
      rw [jcLT (by omega) (by omega)]; exact decide_eq_false (by omega)
    rw [jcGE (by omega) (by omega), jcGT (by omega) (by omega), l1, cond_false, cond_false, cond_false]
    by_cases cj : j < n
    · refine ⟨1, by omega, ?_, ?_, ?_, fun _ => ⟨j, rfl, cj⟩⟩
      · rw [decide_eq_false (by omega), cond_false]
      · rw [decide_eq_false (by omega), cond_false]
      · rw [if_pos (by omega), decide_eq_false (by omega), cond_false]
    · refine ⟨0, by omega, ?_, ?_, ?_, fun z => by omega⟩
      · rw [decide_eq_true (by omega), cond_true]
      · rw [decide_eq_true (by omega), cond_true]
      · by_cases c0 : 0 < n
        · rw [if_pos c0, decide_eq_true (by omega), cond_true]
        · rw [if_neg c0]
theorem al_gt (n : Nat) (hn : n < 2147483647) : ∃ k, k ≤ 1 ∧ (∀ U : sS, (bif jcmp .lt a 0 then (some ((nI 0), U)) else (bif jcmp .gt a (nI n) then (some ((nI 0), U)) else (some ((nI 1), U)))) = some (nI k, U)) ∧ (k = 1 → ∃ k, a = nI k ∧ k ≤ n) := by
  rcases le_or a 1 (by omega) with c | ⟨j, j2, rfl⟩
  · exact ⟨0, by omega, fun U => by rw [c, cond_true], fun z => by omega⟩
  · have l1 : jcmp .lt (nI j) 0 = false := by
      show jcmp .lt (nI j) (nI 0) = false
      rw [jcLT (by omega) (by omega)]; exact decide_eq_false (by omega)
    rw [jcGT (by omega) (by omega), l1]
    by_cases cj : j ≤ n
    · exact ⟨1, by omega, fun U => by rw [cond_false, decide_eq_false (by omega), cond_false], fun _ => ⟨j, rfl, cj⟩⟩
    · exact ⟨0, by omega, fun U => by rw [cond_false, decide_eq_true (by omega), cond_true], fun z => by omega⟩
theorem al_31 : ∃ k, k ≤ 1 ∧ (bif jcmp .lt a (nI 8) then (F_48_238 G t a S) else (F_48_238 G t (a - (nI 8)) S)) = some (nI k, S) ∧ (bif jcmp .lt a (nI 1) then (F_138_242 G t a T) else (bif jcmp .le a (nI 4) then (F_138_254 G t T) else (F_138_242 G t a T))) = some (nI k, T) ∧ (k = 1 → ∃ k, a = nI k ∧ (1 ≤ k ∧ k ≤ 4 ∨ 9 ≤ k ∧ k ≤ 12)) := by
  unfold F_48_238 F_138_242 F_138_254
  rcases le_or a 1 (by omega) with c | ⟨j, j2, rfl⟩
  · refine ⟨0, by omega, ?_, ?_, fun z => by omega⟩
    · rw [neg_lt c 8 (by omega), cond_true, neg_lt c 1 (by omega), cond_true]
    · rw [neg_lt c 1 (by omega), cond_true, neg_lt c 9 (by omega), cond_true]
  · by_cases c8 : j < 8
    · have e8 : jcmp .lt (nI j) (nI 8) = true := by rw [jcLT (by omega) (by omega)]; exact decide_eq_true c8
      rw [e8, cond_true, jcLT (a := j) (b := 1) (by omega) (by omega), jcGT (a := j) (b := 4) (by omega) (by omega), jcLE (a := j) (b := 4) (by omega) (by omega), jcLT (a := j) (b := 9) (by omega) (by omega)]
      by_cases c1 : j < 1
      · refine ⟨0, by omega, ?_, ?_, fun z => by omega⟩
        · rw [decide_eq_true c1, cond_true]
        · rw [decide_eq_true c1, cond_true, decide_eq_true (by omega), cond_true]
      · rw [decide_eq_false c1, cond_false, cond_false]
        by_cases c4 : j ≤ 4
        · refine ⟨1, by omega, ?_, ?_, fun _ => ⟨j, rfl, by omega⟩⟩
          · rw [decide_eq_false (by omega), cond_false]
          · rw [decide_eq_true c4, cond_true]
        · refine ⟨0, by omega, ?_, ?_, fun z => by omega⟩
          · rw [decide_eq_true (by omega), cond_true]
          · rw [decide_eq_false c4, cond_false, decide_eq_true (by omega), cond_true]
    · have e8 : jcmp .lt (nI j) (nI 8) = false := by rw [jcLT (by omega) (by omega)]; exact decide_eq_false c8
      rw [e8, cond_false, nIs (by omega), jcLT (a := j - 8) (b := 1) (by omega) (by omega), jcGT (a := j - 8) (b := 4) (by omega) (by omega), jcLT (a := j) (b := 1) (by omega) (by omega), jcLE (a := j) (b := 4) (by omega) (by omega), jcLT (a := j) (b := 9) (by omega) (by omega), jcGT (a := j) (b := 12) (by omega) (by omega), decide_eq_false (show ¬ j < 1 by omega), cond_false, decide_eq_false (show ¬ j ≤ 4 by omega), cond_false]
      by_cases c9 : j < 9
      · refine ⟨0, by omega, ?_, ?_, fun z => by omega⟩
        · rw [decide_eq_true (by omega), cond_true]
        · rw [decide_eq_true (by omega), cond_true]
      · by_cases c12 : j ≤ 12
        · refine ⟨1, by omega, ?_, ?_, fun _ => ⟨j, rfl, by omega⟩⟩
          · rw [decide_eq_false (by omega), cond_false, decide_eq_false (by omega), cond_false]
          · rw [decide_eq_false (by omega), cond_false, decide_eq_false (by omega), cond_false]
        · refine ⟨0, by omega, ?_, ?_, fun z => by omega⟩
          · rw [decide_eq_false (by omega), cond_false, decide_eq_true (by omega), cond_true]
          · rw [decide_eq_false (by omega), cond_false, decide_eq_true (by omega), cond_true]
theorem al_all (h6 : S.1 1 0 0 6 = nI (F + 1)) (hF : F < 32) (t6 : T.1 33 0 0 13 = nI (F + 1)) (h3 : S.1 3 0 0 F = nI lo) (t3 : T.1 38 0 0 F = nI lo) (hl : lo ≤ 12) (ho : o ≤ 36) : alQ S T G t lo o a := by
  match o, ho with
  | 0, _ => exact ⟨1, by omega, rfl, rfl, fun _ => ⟨fun z => by omega, fun z => by omega, fun z => by omega, fun z => by omega, fun z => by omega, fun z => by omega⟩⟩
  | 1, _ => exact ⟨1, by omega, rfl, rfl, fun _ => ⟨fun z => by omega, fun z => by omega, fun z => by omega, fun z => by omega, fun z => by omega, fun z => by omega⟩⟩
  | 2, _ =>
    obtain ⟨k, a1, a2, a3, a4⟩ := al_2 (G := G) (t := t) (a := a) h6 hF t6 h3 t3 hl
    exact ⟨k, a1, a2, a3, fun z => ⟨fun _ => a4 z, fun z => by omega, fun z => by omega, fun z => by omega, fun z => by omega, fun z => by omega⟩⟩
  | 3, _ =>
    obtain ⟨k, a1, a2, a3, a4⟩ := al_2 (G := G) (t := t) (a := a) h6 hF t6 h3 t3 hl
    exact ⟨k, a1, a2, a3, fun z => ⟨fun _ => a4 z, fun z => by omega, fun z => by omega, fun z => by omega, fun z => by omega, fun z => by omega⟩⟩
  | 4, _ =>
    obtain ⟨k, a1, a2, a3, _, a4⟩ := al_ge (S := S) (T := T) (a := a) 16 (by omega)
    exact ⟨k, a1, a2, a3, fun z => ⟨fun z => by omega, fun _ => a4 z, fun z => by omega, fun z => by omega, fun z => by omega, fun z => by omega⟩⟩
  | 5, _ =>
    obtain ⟨k, a1, a2, a3, _, a4⟩ := al_ge (S := S) (T := T) (a := a) 16 (by omega)
    exact ⟨k, a1, a2, a3, fun z => ⟨fun z => by omega, fun _ => a4 z, fun z => by omega, fun z => by omega, fun z => by omega, fun z => by omega⟩⟩
  | 6, _ => exact ⟨1, by omega, rfl, rfl, fun _ => ⟨fun z => by omega, fun z => by omega, fun z => by omega, fun z => by omega, fun z => by omega, fun z => by omega⟩⟩
  | 7, _ => exact ⟨1, by omega, rfl, rfl, fun _ => ⟨fun z => by omega, fun z => by omega, fun z => by omega, fun z => by omega, fun z => by omega, fun z => by omega⟩⟩
  | 8, _ => exact ⟨1, by omega, rfl, rfl, fun _ => ⟨fun z => by omega, fun z => by omega, fun z => by omega, fun z => by omega, fun z => by omega, fun z => by omega⟩⟩
  | 9, _ => exact ⟨1, by omega, rfl, rfl, fun _ => ⟨fun z => by omega, fun z => by omega, fun z => by omega, fun z => by omega, fun z => by omega, fun z => by omega⟩⟩
  | 10, _ => exact ⟨1, by omega, rfl, rfl, fun _ => ⟨fun z => by omega, fun z => by omega, fun z => by omega, fun z => by omega, fun z => by omega, fun z => by omega⟩⟩
  | 11, _ => exact ⟨1, by omega, rfl, rfl, fun _ => ⟨fun z => by omega, fun z => by omega, fun z => by omega, fun z => by omega, fun z => by omega, fun z => by omega⟩⟩
  | 12, _ => exact ⟨1, by omega, rfl, rfl, fun _ => ⟨fun z => by omega, fun z => by omega, fun z => by omega, fun z => by omega, fun z => by omega, fun z => by omega⟩⟩
  | 13, _ => exact ⟨1, by omega, rfl, rfl, fun _ => ⟨fun z => by omega, fun z => by omega, fun z => by omega, fun z => by omega, fun z => by omega, fun z => by omega⟩⟩
  | 14, _ => exact ⟨1, by omega, rfl, rfl, fun _ => ⟨fun z => by omega, fun z => by omega, fun z => by omega, fun z => by omega, fun z => by omega, fun z => by omega⟩⟩
  | 15, _ => exact ⟨1, by omega, rfl, rfl, fun _ => ⟨fun z => by omega, fun z => by omega, fun z => by omega, fun z => by omega, fun z => by omega, fun z => by omega⟩⟩
  | 16, _ => exact ⟨1, by omega, rfl, rfl, fun _ => ⟨fun z => by omega, fun z => by omega, fun z => by omega, fun z => by omega, fun z => by omega, fun z => by omega⟩⟩
  | 17, _ => exact ⟨1, by omega, rfl, rfl, fun _ => ⟨fun z => by omega, fun z => by omega, fun z => by omega, fun z => by omega, fun z => by omega, fun z => by omega⟩⟩
  | 18, _ => exact ⟨1, by omega, rfl, rfl, fun _ => ⟨fun z => by omega, fun z => by omega, fun z => by omega, fun z => by omega, fun z => by omega, fun z => by omega⟩⟩
  | 19, _ => exact ⟨1, by omega, rfl, rfl, fun _ => ⟨fun z => by omega, fun z => by omega, fun z => by omega, fun z => by omega, fun z => by omega, fun z => by omega⟩⟩
  | 20, _ => exact ⟨1, by omega, rfl, rfl, fun _ => ⟨fun z => by omega, fun z => by omega, fun z => by omega, fun z => by omega, fun z => by omega, fun z => by omega⟩⟩
  | 21, _ =>
    obtain ⟨k, a1, a2, a4⟩ := al_gt (a := a) 16 (by omega)
    exact ⟨k, a1, a2 S, a2 T, fun z => ⟨fun z => by omega, fun z => by omega, fun _ => a4 z, fun z => by omega, fun z => by omega, fun z => by omega⟩⟩
  | 22, _ =>
    obtain ⟨k, a1, a2, _, a3, a4⟩ := al_ge (S := S) (T := T) (a := a) 16 (by omega)
    rw [if_pos (by omega)] at a3
    exact ⟨k, a1, a2, a3, fun z => ⟨fun z => by omega, fun z => by omega, fun z => by omega, fun _ => a4 z, fun z => by omega, fun z => by omega⟩⟩
  | 23, _ =>
    obtain ⟨k, a1, a2, _, a3, a4⟩ := al_ge (S := S) (T := T) (a := a) 16 (by omega)
    rw [if_pos (by omega)] at a3
    exact ⟨k, a1, a2, a3, fun z => ⟨fun z => by omega, fun z => by omega, fun z => by omega, fun _ => a4 z, fun z => by omega, fun z => by omega⟩⟩
  | 24, _ => exact ⟨1, by omega, rfl, rfl, fun _ => ⟨fun z => by omega, fun z => by omega, fun z => by omega, fun z => by omega, fun z => by omega, fun z => by omega⟩⟩
  | 25, _ => exact ⟨1, by omega, rfl, rfl, fun _ => ⟨fun z => by omega, fun z => by omega, fun z => by omega, fun z => by omega, fun z => by omega, fun z => by omega⟩⟩
  | 26, _ => exact ⟨1, by omega, rfl, rfl, fun _ => ⟨fun z => by omega, fun z => by omega, fun z => by omega, fun z => by omega, fun z => by omega, fun z => by omega⟩⟩
  | 27, _ =>
    obtain ⟨k, a1, a2, a4⟩ := al_gt (a := a) 8 (by omega)
    exact ⟨k, a1, a2 S, a2 T, fun z => ⟨fun z => by omega, fun z => by omega, fun z => by omega, fun z => by omega, fun _ => a4 z, fun z => by omega⟩⟩
  | 28, _ => exact ⟨1, by omega, rfl, rfl, fun _ => ⟨fun z => by omega, fun z => by omega, fun z => by omega, fun z => by omega, fun z => by omega, fun z => by omega⟩⟩
  | 29, _ => exact ⟨1, by omega, rfl, rfl, fun _ => ⟨fun z => by omega, fun z => by omega, fun z => by omega, fun z => by omega, fun z => by omega, fun z => by omega⟩⟩
  | 30, _ => exact ⟨1, by omega, rfl, rfl, fun _ => ⟨fun z => by omega, fun z => by omega, fun z => by omega, fun z => by omega, fun z => by omega, fun z => by omega⟩⟩
  | 31, _ =>
    obtain ⟨k, a1, a2, a3, a4⟩ := al_31 (G := G) (t := t) (S := S) (T := T) (a := a)
    exact ⟨k, a1, a2, a3, fun z => ⟨fun z => by omega, fun z => by omega, fun z => by omega, fun z => by omega, fun z => by omega, fun _ => a4 z⟩⟩
  | 32, _ => exact ⟨1, by omega, rfl, rfl, fun _ => ⟨fun z => by omega, fun z => by omega, fun z => by omega, fun z => by omega, fun z => by omega, fun z => by omega⟩⟩
  | 33, _ => exact ⟨1, by omega, rfl, rfl, fun _ => ⟨fun z => by omega, fun z => by omega, fun z => by omega, fun z => by omega, fun z => by omega, fun z => by omega⟩⟩
  | 34, _ => exact ⟨1, by omega, rfl, rfl, fun _ => ⟨fun z => by omega, fun z => by omega, fun z => by omega, fun z => by omega, fun z => by omega, fun z => by omega⟩⟩
  | 35, _ => exact ⟨1, by omega, rfl, rfl, fun _ => ⟨fun z => by omega, fun z => by omega, fun z => by omega, fun z => by omega, fun z => by omega, fun z => by omega⟩⟩
  | 36, _ => exact ⟨1, by omega, rfl, rfl, fun _ => ⟨fun z => by omega, fun z => by omega, fun z => by omega, fun z => by omega, fun z => by omega, fun z => by omega⟩⟩
  | n + 37, h => omega
end PR3
