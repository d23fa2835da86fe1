/-! Handlers. -/
def jrb (o pc x h : Nat) : List (Nat × Nat × Nat × Nat) → Bool
  | [] => false
  | r :: t => bif (Nat.ble r.1 pc && Nat.blt pc r.2.1) then (!(Nat.beq r.2.2.2 0) && (List.range 3).any (fun z => jhx (.classLink (jcn o) r.2.2.2 (jxn z)) && (bif Nat.beq z x then Nat.beq r.2.2.1 h else (decide ((jxn x, jxn z) ∈ jao.2) && jrb o pc x h t)))) else jrb o pc x h t
theorem jrb_spec {o pc x h : Nat} : ∀ rows : List (Nat × Nat × Nat × Nat), jrb o pc x h rows = true → jRt (jcn o) jWs jao.2 pc (jxn x) h rows := by
  intro rows
  induction rows with
  | nil => intro q; cases q
  | cons r t ih =>
    intro q
    unfold jrb at q
    cases hc : (Nat.ble r.1 pc && Nat.blt pc r.2.1) with
    | false =>
      rw [hc, cond_false] at q
      refine Or.inl ⟨fun z => ?_, ih q⟩
      rw [Nat.ble_eq_true_of_le z.1, show Nat.blt pc r.2.1 = true from Nat.ble_eq_true_of_le z.2] at hc
      cases hc
    | true =>
      rw [hc, cond_true, Bool.and_eq_true] at q
      rw [Bool.and_eq_true] at hc
      obtain ⟨q1, q2⟩ := q
      obtain ⟨z, hz, q2⟩ := List.any_eq_true.mp q2
      rw [Bool.and_eq_true] at q2
      refine Or.inr ⟨⟨Nat.le_of_ble_eq_true hc.1, Nat.le_of_ble_eq_true hc.2⟩, fun e => ?_, jxn z, jhx_in q2.1, ?_⟩
      · rw [e] at q1; cases q1
      · cases hzx : Nat.beq z x with
        | true =>
          have e := Nat.eq_of_beq_eq_true hzx
          have q3 := q2.2
          rw [hzx, cond_true] at q3
          rw [e]
          exact Or.inl ⟨rfl, Nat.eq_of_beq_eq_true q3⟩
        | false =>
          have q3 := q2.2
          rw [hzx, cond_false, Bool.and_eq_true] at q3
          exact Or.inr ⟨of_decide_eq_true q3.1, ih q3.2⟩
/-- a plain link among the calls' -/
def jml (o k : Nat) (y : MethodName) : Bool := jwc.any fun e => Nat.beq e.1 o && (Nat.beq e.2.1 k && jat e.2.2.2 (.methodLink (jcn o) k y))
theorem jml_in {o k : Nat} {y : MethodName} (h : jml o k y = true) : Cond.methodLink (jcn o) k y ∈ jWs := by
  unfold jml at h
  obtain ⟨e, -, h⟩ := List.any_eq_true.mp h
  simp only [Bool.and_eq_true] at h
  exact jat_in h.2.2
def jh2a (j pc : Nat) : Bool := match jcI j pc with
  | some (.invokevirtual k) => (match jlk (jtCl (jow j)) k with
    | some (y + 2, _, _) => jml (jow j) k (jnm y)
    | _ => false)
  | _ => false
def jh2b (j pc x h z : Nat) : Bool := match decode (jbt j) h with
  | .ok (.astore_n z', 1) => Nat.beq z' z && jrb (jow j) pc x h (jhh j)
  | _ => false
def jh2c (j pc x h z : Nat) : Bool := (decide (decode (jbt j) h = .ok (.astore z, 2)) && jrb (jow j) pc x h (jhh j)) || jh2b j pc x (h + 1) z
def jh2 (j pc : Nat) (e : Nat × (Nat × Nat)) : Bool := Nat.blt e.2.2 (jmx j) && (jh2a j pc && (Nat.ble 2 e.2.1 && jh2c j pc e.1 (e.2.1 - 2) e.2.2))
theorem jh2_all : jcHl.all (fun q => Nat.blt q.1 205 && q.2.all (fun r => r.2.all (jh2 q.1 r.1))) = true := by decide +kernel
theorem jh2a_spec {j pc : Nat} (hj : j < 205) (q : jh2a j pc = true) (ins : Instr) (hI : jcI j pc = some ins) : ∃ k, ins = .invokevirtual k ∧ ∀ y n rc, jlk (jtCl (jow j)) k = some (y + 2, n, rc) → Cond.methodLink (jnm j).cls k (jnm y) ∈ jWs := by
  unfold jh2a at q
  rw [hI] at q
  split at q
  · rename_i k hk
    cases hk
    refine ⟨k, rfl, fun y n rc hy => ?_⟩
    rw [hy] at q
    rw [(jow_lt hj).2]
    exact jml_in q
  · cases q
theorem jh2b_spec {j pc x h z : Nat} (q : jh2b j pc x h z = true) : ∃ z' : Fin 4, (z' : Nat) = z ∧ decode (jbt j) h = .ok (.astore_n z', 1) ∧ jrb (jow j) pc x h (jhh j) = true := by
  unfold jh2b at q
  split at q
  · rename_i z' hd
    rw [Bool.and_eq_true] at q
    exact ⟨z', Nat.eq_of_beq_eq_true q.1, hd, q.2⟩
  · cases q
theorem jHk_ok : jHk jP 205 jnm jbt jhh jxn jWs jao.2 := by
  intro j pc x h z hj hH
  have hH : jcH j pc x = some (h, z) := hH
  unfold jcH at hH
  split at hH
  · rename_i l1 hl1
    split at hH
    · rename_i l2 hl2
      have h1 := List.all_eq_true.mp jh2_all _ (jlk_mem hl1)
      rw [Bool.and_eq_true] at h1
      have h2 := List.all_eq_true.mp (List.all_eq_true.mp h1.2 _ (jlk_mem hl2)) _ (jlk_mem hH)
      unfold jh2 at h2
      rw [Bool.and_eq_true, Bool.and_eq_true, Bool.and_eq_true] at h2
      obtain ⟨p1, p2, p3, p4⟩ := h2
      refine ⟨fun ins hI => jh2a_spec hj p2 ins hI, Nat.le_of_ble_eq_true p1, ?_⟩
      have p3 : 2 ≤ h := Nat.le_of_ble_eq_true p3
      have p4 : jh2c j pc x (h - 2) z = true := p4
      obtain ⟨h0, rfl⟩ : ∃ h0, h = h0 + 2 := ⟨h - 2, by omega⟩
      rw [show h0 + 2 - 2 = h0 by omega] at p4
      unfold jh2c at p4
      rw [Bool.or_eq_true, Bool.and_eq_true] at p4
      rw [(jow_lt hj).2]
      rcases p4 with p4 | p4
      · exact ⟨h0, Or.inl ⟨of_decide_eq_true p4.1, rfl⟩, jrb_spec _ p4.2⟩
      · obtain ⟨z', q1, q2, q3⟩ := jh2b_spec p4
        exact ⟨h0 + 1, Or.inr ⟨z', q1, q2, rfl⟩, jrb_spec _ q3⟩
    · cases hH
  · cases hH
/-- **LAYER B**: what the pure machine does on the printed program, the machine does -/
theorem j_sound {l : Launch} {D : va_G} {kid g : Nat → Nat} {base : Nat} {tys : List (ClassId × FieldType)} {G : jG} (hst : ∀ e, l.admits e → e.platform.stackTraces = false) (hkt : jKt jCl kid jka jkt tys) : ∀ t, jBo l D jCl kid g base jka tys G jxn jzt jzq jNs jWs jao jP 205 jnm jbt jrtT jhh jfr jLo t :=
  j_body (kt := jkt) (np := jnp) jOK_ok hst hkt (fun j hj h => jhhE hj h) (fun j s args meth hj hts hE hn => jTb_ok hj hts hE hn) jTh_ok (j_catch jOK_ok jHk_ok)
