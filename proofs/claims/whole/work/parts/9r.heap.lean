/-! The heap: places, cells, what is released. -/
theorem usC_s (kd cl : Nat → Nat) (n : Nat) : usC kd cl (n + 1) = usC kd cl n + if kd n = 0 then 0 else cl n := by
  unfold usC
  rw [List.range_succ, List.map_append, List.sum_append]
  rfl
set_option maxHeartbeats 4000000 in
set_option linter.unusedSimpArgs false in
theorem obC_s (kd : Nat → Nat) (n : Nat) : obC kd (n + 1) = obC kd n + if kd n = 0 then 0 else 1 := by
  unfold obC
  rw [List.range_succ, List.countP_append, List.countP_singleton]
  by_cases c : kd n = 0
  · simp [c]
  · simp [c]
theorem usC_same {kd kd' cl cl' : Nat → Nat} : ∀ n, (∀ h, h < n → kd' h = kd h ∧ cl' h = cl h) → usC kd' cl' n = usC kd cl n ∧ obC kd' n = obC kd n := by
  intro n
  induction n with
  | zero => intro _; exact ⟨rfl, rfl⟩
  | succ n ih =>
    intro h
    obtain ⟨a, b⟩ := ih (fun x hx => h x (by omega))
    rw [usC_s, usC_s, obC_s, obC_s, a, b, (h n (by omega)).1, (h n (by omega)).2]
    exact ⟨rfl, rfl⟩
/-! one place is freed, or taken -/
theorem usC_set {kd kd' cl cl' : Nat → Nat} {x : Nat} (h0 : kd' x = 0) (h1 : kd x ≠ 0) (h : ∀ y, y ≠ x → kd' y = kd y ∧ cl' y = cl y) : ∀ n, x < n → usC kd cl n = usC kd' cl' n + cl x ∧ obC kd n = obC kd' n + 1 := by
  intro n
  induction n with
  | zero => intro z; omega
  | succ n ih =>
    intro z
    rw [usC_s, usC_s, obC_s, obC_s]
    by_cases c : x = n
    · subst c
      obtain ⟨a, b⟩ := usC_same (kd := kd) (kd' := kd') (cl := cl) (cl' := cl') x (fun y hy => h y (by omega))
      rw [a, b, if_pos h0, if_neg h1, if_pos h0, if_neg h1]
      exact ⟨rfl, rfl⟩
    · obtain ⟨a, b⟩ := ih (by omega)
      rw [a, b, (h n (by omega)).1, (h n (by omega)).2]
      constructor
      · omega
      · omega
set_option maxHeartbeats 4000000 in
set_option linter.unusedSimpArgs false in
theorem usC_fl (kd cl : Nat → Nat) : ∀ n, usC kd cl n = suL cl ((List.range n).filter fun h => !(kd h == 0)) := by
  intro n
  induction n with
  | zero => rfl
  | succ n ih =>
    rw [usC_s, ih, List.range_succ, List.filter_append]
    unfold suL
    rw [List.map_append, List.sum_append]
    by_cases c : kd n = 0
    · simp [c]
    · simp [c]
set_option maxHeartbeats 4000000 in
set_option linter.unusedSimpArgs false in
theorem usC_list {kd cl : Nat → Nat} {l : List Nat} (h1 : l.Nodup) (h2 : ∀ h, h ∈ l ↔ h < 600 ∧ kd h ≠ 0) : usC kd cl 600 = suL cl l := by
  rw [usC_fl]
  unfold suL
  refine List.Perm.sum_nat (List.Perm.map _ ((List.perm_ext_iff_of_nodup (List.nodup_range.filter _) h1).mpr (fun h => ?_)))
  rw [h2, List.mem_filter, List.mem_range]
  simp
set_option maxHeartbeats 4000000 in
set_option linter.unusedSimpArgs false in
theorem obC_list {kd : Nat → Nat} {l : List Nat} (h1 : l.Nodup) (h2 : ∀ h, h ∈ l ↔ h < 600 ∧ kd h ≠ 0) : obC kd 600 = l.length := by
  unfold obC
  rw [List.countP_eq_length_filter]
  refine List.Perm.length_eq ((List.perm_ext_iff_of_nodup (List.nodup_range.filter _) h1).mpr (fun h => ?_))
  rw [h2, List.mem_filter, List.mem_range]
  simp
theorem suL_cong {cl cl' : Nat → Nat} {l : List Nat} (h : ∀ x, x ∈ l → cl x = cl' x) : suL cl l = suL cl' l := by
  unfold suL
  rw [List.map_congr_left h]
/-! places, free ones, cells -/
def hpR (S : sS) (kd cl : Nat → Nat) (fl : List Nat) : Prop := (∀ h, h < 600 → thC S h (kd h) (cl h)) ∧ (S.1 11 0 0 7 = nI fl.length ∧ (∀ (i x : Nat), fl[i]? = some x → S.1 13 0 0 i = nI x) ∧ fl.Nodup ∧ ∀ h, h ∈ fl ↔ h < 600 ∧ kd h = 0) ∧ (S.1 11 0 0 8 = nI (obC kd 600) ∧ S.1 11 0 0 9 = nI (usC kd cl 600) ∧ usC kd cl 600 ≤ 1200)
section REL
variable {φ φ' : Nat → Nat} {D D' : Nat → Prop} {F N : Nat} {P : aP} {S S' T T' : sS} {A : aS} {r s d p f pc n m e b k y : Nat} {G : jG} {t j : Nat} {kd cl : Nat → Nat} {fl : List Nat}
set_option maxHeartbeats 4000000 in
set_option linter.unusedSimpArgs false in
theorem e51n {h : Nat} (hh : h < 600) (hp : S.2.2.1.2 h = none) : F_51 G t (nI h) S = some ((), S) := by
  unfold F_51
  simp (disch := first | assumption | omega) only [gI, gI2, gL, gL1, gL2, jcLT, jcGE, jcGT, jcLE, jcEQ, jcNE, dEQ, nIt, lgNE, lgEQ, lgGE, lgLT, lgGT, lgLE, jinT, nIc, nI0, nI1, nIo, nIs, nI_add, nIm, nIn0, szl0, szl1, szl2, szl3, szl4, szl5, Nat.add_sub_assoc, Nat.add_zero, Nat.reduceSub, Nat.reduceAdd, Nat.reduceMul, Nat.reduceEqDiff,  jifT, bdS, sifN, sifS, omN, omS, cdI, x25, x26, x27, x28, x29, x30, x31, x32, xr0, xr1, xr2, xr3, xr4, xr5, if_pos, if_neg, true_and, and_true, false_and, and_false, and_self, Bool.and_true, if_true, if_false, reduceIte, cond_true, cond_false, not_true_eq_false, not_false_eq_true, hp, Option.map_none]
set_option maxHeartbeats 4000000 in
set_option linter.unusedSimpArgs false in
theorem e51z {h p : Nat} (hh : h < 600) (hp : S.2.2.1.2 h = some p) (hM : S.2.2.2.1.2 p = true) (hk : S.1 32 p 0 1 = nI 0) : F_51 G t (nI h) S = some ((), S) := by
  unfold F_51
  simp (disch := first | assumption | omega) only [gI, gI2, gL, gL1, gL2, jcLT, jcGE, jcGT, jcLE, jcEQ, jcNE, dEQ, nIt, lgNE, lgEQ, lgGE, lgLT, lgGT, lgLE, jinT, nIc, nI0, nI1, nIo, nIs, nI_add, nIm, nIn0, szl0, szl1, szl2, szl3, szl4, szl5, Nat.add_sub_assoc, Nat.add_zero, Nat.reduceSub, Nat.reduceAdd, Nat.reduceMul, Nat.reduceEqDiff,  jifT, bdS, sifN, sifS, omN, omS, cdI, x25, x26, x27, x28, x29, x30, x31, x32, xr0, xr1, xr2, xr3, xr4, xr5, if_pos, if_neg, true_and, and_true, false_and, and_false, and_self, Bool.and_true, if_true, if_false, reduceIte, cond_true, cond_false, not_true_eq_false, not_false_eq_true, hp, hM, hk, Option.map_some]
def reS (S : sS) (h p U c O L : Nat) : sS := siI (siI (siI (siI (siI S 11 0 0 9 (nI (U - c))) 11 0 0 8 (nI (O - 1))) 32 p 0 1 (nI 0)) 13 0 0 L (nI h)) 11 0 0 7 (nI (L + 1))
set_option maxHeartbeats 4000000 in
set_option linter.unusedSimpArgs false in
theorem e51 {h p k U c O L : Nat} (hh : h < 600) (hp : S.2.2.1.2 h = some p) (hM : S.2.2.2.1.2 p = true) (hk : S.1 32 p 0 1 = nI k) (hk2 : k = 2 ∨ k = 3) (hc : S.1 32 p 0 3 = nI c) (h9 : S.1 11 0 0 9 = nI U) (hcU : c ≤ U) (h8 : S.1 11 0 0 8 = nI O) (hO : 1 ≤ O) (h7 : S.1 11 0 0 7 = nI L) (hL : L < 600) : F_51 G t (nI h) S = some ((), reS S h p U c O L) := by
  unfold F_51 reS
  simp (disch := first | assumption | omega) only [gI, gI2, gL, gL1, gL2, jcLT, jcGE, jcGT, jcLE, jcEQ, jcNE, dEQ, nIt, lgNE, lgEQ, lgGE, lgLT, lgGT, lgLE, jinT, nIc, nI0, nI1, nIo, nIs, nI_add, nIm, nIn0, szl0, szl1, szl2, szl3, szl4, szl5, Nat.add_sub_assoc, Nat.add_zero, Nat.reduceSub, Nat.reduceAdd, Nat.reduceMul, Nat.reduceEqDiff,  jifT, bdS, sifN, sifS, omN, omS, cdI, x25, x26, x27, x28, x29, x30, x31, x32, xr0, xr1, xr2, xr3, xr4, xr5, if_pos, if_neg, true_and, and_true, false_and, and_false, and_self, Bool.and_true, if_true, if_false, reduceIte, cond_true, cond_false, not_true_eq_false, not_false_eq_true, hp, hM, hk, hc, h9, h8, h7, Option.map_some]
theorem hpR.rel (H : hpR S kd cl fl) (ow : own S) {h : Nat} (hh : h < 600) (hk : kd h ≠ 0) : ∃ p S', S.2.2.1.2 h = some p ∧ F_51 G t (nI h) S = some ((), S') ∧ hpR S' (va_up kd h 0) cl (fl ++ [h]) ∧ agr (fun t i j => t = 11 ∨ t = 13 ∨ (t = 32 ∧ i = p)) S S' ∧ S'.2.2 = S.2.2 ∧ (∀ q, 10 ≤ q → S'.1 11 0 0 q = S.1 11 0 0 q) ∧ ∀ p' q, q ≠ 1 → S'.1 32 p' 0 q = S.1 32 p' 0 q := by
  obtain ⟨h1, ⟨f1, f2, f3, f4⟩, ⟨g1, g2, g3⟩⟩ := H
  rcases h1 h hh with ⟨_, z⟩ | ⟨p, hp, hM, hkd, hk3, hu⟩
  · exact absurd z hk
  · obtain ⟨w, u1, u2, u3, u4, u5, u6⟩ := hu hk
    have hn : h ∉ fl := fun z => hk ((f4 h).mp z).2
    have hl : fl.length < 600 := by
      have := nd_len 600 (h :: fl) (List.nodup_cons.mpr ⟨hn, f3⟩) (fun y hy => by
        rcases List.mem_cons.mp hy with rfl | hy
        · exact hh
        · exact ((f4 y).mp hy).1)
      rw [List.length_cons] at this
      omega
    obtain ⟨c1, c2⟩ := usC_set (kd := kd) (kd' := va_up kd h 0) (cl := cl) (cl' := cl) (x := h) (va_up_self _ _ _) hk (fun y hy => ⟨va_up_ne _ _ hy, rfl⟩) 600 hh
    have hk4 : kd h = 2 ∨ kd h = 3 := by
      rcases hk3 with z | z
      · exact absurd z hk
      · exact z
    clear hu
    have e := e51 (G := G) (t := t) hh hp hM hkd hk4 u3 g2 (by omega) g1 (by omega) f1 hl
    refine ⟨p, _, hp, e, ⟨fun y hy => ?_, ⟨?_, fun i x hx => ?_, ?_, fun y => ?_⟩, ?_, ?_, ?_⟩, ?_, rfl, fun q hq => ?_, fun p' q hq => ?_⟩
    · by_cases c : y = h
      · subst c
        rw [va_up_self]
        refine Or.inr ⟨p, hp, hM, ?_, Or.inl rfl, fun z => absurd rfl z⟩
        unfold reS
        rw [siI_ne _ _ _ (by omega), siI_ne _ _ _ (by omega), siI_at]
      · rw [va_up_ne _ _ c]
        rcases h1 y hy with z | ⟨p', hp', hM', hkd', hk3', hu'⟩
        · exact Or.inl z
        · have np : p' ≠ p := fun z => c (ow.2.2.2.1 y h p (z ▸ hp') hp)
          have e32 : (reS S h p (usC kd cl 600) (cl h) (obC kd 600) fl.length).1 32 p' 0 = S.1 32 p' 0 := by
            unfold reS
            rw [siI_ne _ _ _ (by omega), siI_ne _ _ _ (by omega), siI_ne _ _ _ (by omega), siI_ne _ _ _ (by omega), siI_ne _ _ _ (by omega)]
          have e29 : (reS S h p (usC kd cl 600) (cl h) (obC kd 600) fl.length).1 29 p' 4 = S.1 29 p' 4 := by
            unfold reS
            rw [siI_ne _ _ _ (by omega), siI_ne _ _ _ (by omega), siI_ne _ _ _ (by omega), siI_ne _ _ _ (by omega), siI_ne _ _ _ (by omega)]
          have e31 : (reS S h p (usC kd cl 600) (cl h) (obC kd 600) fl.length).1 31 p' 4 = S.1 31 p' 4 := by
            unfold reS
            rw [siI_ne _ _ _ (by omega), siI_ne _ _ _ (by omega), siI_ne _ _ _ (by omega), siI_ne _ _ _ (by omega), siI_ne _ _ _ (by omega)]
          refine Or.inr ⟨p', hp', hM', ?_⟩
          rw [e32, e29, e31]
          exact ⟨hkd', hk3', hu'⟩
    · rw [List.length_append]
      exact siI_at _ _ _ _ _ _
    · unfold reS
      rw [siI_ne _ _ _ (by omega), gI]
      rw [List.getElem?_append] at hx
      by_cases c : i < fl.length
      · rw [if_pos c] at hx
        rw [if_neg (by omega), siI_ne _ _ _ (by omega), siI_ne _ _ _ (by omega), siI_ne _ _ _ (by omega)]
        exact f2 i x hx
      · rw [if_neg c] at hx
        by_cases c2 : i = fl.length
        · subst c2
          rw [Nat.sub_self] at hx
          have : h = x := Option.some.inj hx
          subst this
          rw [if_pos ⟨rfl, rfl, rfl, rfl⟩]
        · obtain ⟨z, hz⟩ : ∃ z, i - fl.length = z + 1 := ⟨i - fl.length - 1, by omega⟩
          rw [hz] at hx
          cases hx
    · rw [List.nodup_append]
      refine ⟨f3, List.nodup_cons.mpr ⟨List.not_mem_nil, List.nodup_nil⟩, fun a ha b hb => ?_⟩
      rw [List.mem_singleton] at hb
      subst hb
      exact fun z => hn (z ▸ ha)
    · rw [List.mem_append, List.mem_singleton, f4]
      by_cases c : y = h
      · subst c
        rw [va_up_self]
        exact ⟨fun _ => ⟨hh, rfl⟩, fun _ => Or.inr rfl⟩
      · rw [va_up_ne _ _ c]
        exact ⟨fun z => z.elim id (fun w => absurd w c), Or.inl⟩
    · unfold reS
      rw [gI, if_neg (by omega), siI_ne _ _ _ (by omega), siI_ne _ _ _ (by omega), siI_at]
      exact congrArg nI (show obC kd 600 - 1 = obC (va_up kd h 0) 600 by omega)
    · unfold reS
      rw [gI, if_neg (by omega), siI_ne _ _ _ (by omega), siI_ne _ _ _ (by omega), gI, if_neg (by omega), siI_at]
      exact congrArg nI (show usC kd cl 600 - cl h = usC (va_up kd h 0) cl 600 by omega)
    · omega
    · unfold reS
      exact agr.i (agr.i (agr.i (agr.i (agr.i (agr.refl _ _) _ _ (by omega)) _ _ (by omega)) _ _ (by omega)) _ _ (by omega)) _ _ (by omega)
    · unfold reS
      rw [gI, if_neg (by omega), siI_ne _ _ _ (by omega), siI_ne _ _ _ (by omega), gI, if_neg (by omega), gI, if_neg (by omega)]
    · unfold reS
      rw [siI_ne _ _ _ (by omega), siI_ne _ _ _ (by omega), gI, if_neg (by omega), siI_ne _ _ _ (by omega), siI_ne _ _ _ (by omega)]
/-! releasing at a place: nothing there -/
theorem hpR.rel0 (H : hpR S kd cl fl) {h : Nat} (hh : h < 600) (hk : kd h = 0) : F_51 G t (nI h) S = some ((), S) := by
  rcases H.1 h hh with ⟨z, _⟩ | ⟨p, hp, hM, hkd, _⟩
  · exact e51n hh z
  · rw [hk] at hkd
    exact e51z hh hp hM hkd
/-! an object that does not count is released -/
theorem wR.rel (w : wR φ D F N P S T A) {h0 p : Nat} (hD : ¬ D h0) (hp : S.2.2.1.2 h0 = some p) (ag : agr (fun t i j => (11 ≤ t ∧ t ≤ 17) ∨ (t = 32 ∧ i = p)) S S') (hX : S'.2.2 = S.2.2) (hm : S'.1 11 0 0 10 = S.1 11 0 0 10) : wR φ D F N P S' T A := by
  have ow := w.2.2.2.2.2.2.2.2.2
  refine w.heap (fun t i j x y => ag t i j (by omega)) (fun s d p hp t j x y z => ag t p j (by omega)) (fun t x y => ag t 0 5 (by omega)) (by rw [hX]) (fun p z => by rw [hX]; exact z) (ow.same hX) (agr.refl _ _) (fun _ _ _ => rfl) rfl (by rw [hm]; exact w.2.2.2.2.2.2.2.1.2.2.2.1) (fun y hy r => ⟨w.rtD hy r, rfl⟩) (fun x hx => ?_) w.2.2.2.2.1
  obtain ⟨p', k1, z, w', cc, o1, o⟩ := w.2.2.2.1 x hx
  have np : p' ≠ p := fun z => hD (ow.2.2.2.1 x h0 p (z ▸ o1) hp ▸ hx)
  refine ⟨p', k1, z, w', cc, by rw [hX]; exact o1, ?_⟩
  rw [hX, (ag 32 p' 0 (by omega)).1, (ag 29 p' 4 (by omega)).1, (ag 31 p' 4 (by omega)).1, (ag 30 p' 4 (by omega)).2]
  exact o
/-! marks alone change -/
theorem wR.mrk (w : wR φ D F N P S T A) (ag : agr (fun t i j => (11 ≤ t ∧ t ≤ 17)) S S') (hX : S'.2.2 = S.2.2) (hm : S'.1 11 0 0 10 = S.1 11 0 0 10) : wR φ D F N P S' T A := by
  have ow := w.2.2.2.2.2.2.2.2.2
  refine w.heap (fun t i j x y => ag t i j (by omega)) (fun s d p hp t j x y z => ag t p j (by omega)) (fun t x y => ag t 0 5 (by omega)) (by rw [hX]) (fun p z => by rw [hX]; exact z) (ow.same hX) (agr.refl _ _) (fun _ _ _ => rfl) rfl (by rw [hm]; exact w.2.2.2.2.2.2.2.1.2.2.2.1) (fun y hy r => ⟨w.rtD hy r, rfl⟩) (fun x hx => ?_) w.2.2.2.2.1
  obtain ⟨p', k1, z, w', cc, o1, o⟩ := w.2.2.2.1 x hx
  refine ⟨p', k1, z, w', cc, by rw [hX]; exact o1, ?_⟩
  rw [hX, (ag 32 p' 0 (by omega)).1, (ag 29 p' 4 (by omega)).1, (ag 31 p' 4 (by omega)).1, (ag 30 p' 4 (by omega)).2]
  exact o
end REL
