/-! What a receiver gets: rows that commute. -/
section PUL
variable {φ : Nat → Nat} {D : Nat → Prop} {F N : Nat} {P : aP} {S S' T T' : sS} {A : aS} {r d p f pc n m e b k y : Nat} {G : jG} {t : Nat}
theorem siL_comm (S : sS) {t i j t' i' j' : Nat} (k k' : Nat) (x x' : Int64) (h : ¬ (t = t' ∧ i = i' ∧ j = j')) : siL (siL S t i j k x) t' i' j' k' x' = siL (siL S t' i' j' k' x') t i j k x := by
  refine Prod.ext rfl (Prod.ext (funext fun a => funext fun b => funext fun c => funext fun q => ?_) rfl)
  show (siL (siL S t i j k x) t' i' j' k' x').2.1 a b c q = (siL (siL S t' i' j' k' x') t i j k x).2.1 a b c q
  rw [gL, gL, gL, gL]
  by_cases h1 : a = t' ∧ b = i' ∧ c = j' ∧ q = k'
  · rw [if_pos h1, if_neg (by omega), if_pos h1]
  · rw [if_neg h1, if_neg h1]
theorem mpu_I {t' i' j' k' : Nat} {x kk : Int32} {v : Int64} (h : ¬ (56 ≤ t' ∧ t' ≤ 63 ∧ i' = r ∧ j' = d)) : mpu (siI T t' i' j' k' x) r d n kk v = siI (mpu T r d n kk v) t' i' j' k' x := by
  unfold mpu
  rw [siI_comm T _ _ _ _ (show ¬ (t' = 58 ∧ i' = r ∧ j' = d) by omega)]
  show siI (siI (siL (siI T 58 r d n kk) 62 r d n v) t' i' j' k' x) 56 r d 2 _ = _
  rw [siI_comm (siL (siI T 58 r d n kk) 62 r d n v) _ _ _ _ (show ¬ (t' = 56 ∧ i' = r ∧ j' = d) by omega)]
theorem mpu_L {t' i' j' k' : Nat} {x : Int64} {kk : Int32} {v : Int64} (h : ¬ (56 ≤ t' ∧ t' ≤ 63 ∧ i' = r ∧ j' = d)) : mpu (siL T t' i' j' k' x) r d n kk v = siL (mpu T r d n kk v) t' i' j' k' x := by
  unfold mpu
  show siI (siL (siL (siI T 58 r d n kk) t' i' j' k' x) 62 r d n v) 56 r d 2 _ = _
  rw [siL_comm (siI T 58 r d n kk) _ _ _ _ (show ¬ (t' = 62 ∧ i' = r ∧ j' = d) by omega)]
  rfl
theorem mpu_m {s dd n' : Nat} {kk k2 : Int32} {v v2 : Int64} (h : s ≠ r) : mpu (mpu T s dd n' k2 v2) r d n kk v = mpu (mpu T r d n kk v) s dd n' k2 v2 := by
  have e : mpu T s dd n' k2 v2 = siI (siL (siI T 58 s dd n' k2) 62 s dd n' v2) 56 s dd 2 (nI (n' + 1)) := rfl
  rw [e, mpu_I (by omega), mpu_L (by omega), mpu_I (by omega)]
  rfl
theorem mpu_rd {s q : Nat} {kk : Int32} {v : Int64} : mpu (rdT T s q) r d n kk v = rdT (mpu T r d n kk v) s q := by
  unfold rdT
  rw [mpu_I (by omega), mpu_I (by omega), mpu_I (by omega)]
theorem mpu_go {s dd q n' st c k' : Nat} {kk : Int32} {v : Int64} (h : s ≠ r) : mpu (goT T s dd q n' st c k') r d n kk v = goT (mpu T r d n kk v) s dd q n' st c k' := by
  unfold goT
  by_cases c4 : st = 4
  · rw [if_pos c4, if_pos c4, mpu_m h, mpu_m h, mpu_I (by omega), mpu_rd]
  · rw [if_neg c4, if_neg c4, mpu_I (by omega), mpu_rd]
theorem cx.tmp (h : cx φ D F N P S T A r d p f pc n m) (aT : agr (fun t _ _ => t = 33 ∨ (46 ≤ t ∧ t ≤ 50)) T T') (h33 : ∀ k, k ≤ 24 → T'.1 33 0 0 k = T.1 33 0 0 k) (h28 : T'.2.1 33 0 0 28 = T.2.1 33 0 0 28) : cx φ D F N P S T' A r d p f pc n m := by
  obtain ⟨w0, w1, hr, a1, a2, a3, a4⟩ := h
  exact ⟨w0.tmp aT h33 h28, w1, hr, a1, a2, a3, a4⟩
/-! a push on the running strand's frame: the context goes on -/
theorem cx.pu (h : cx φ D F N P S T A r d p f pc n m) (hn : n < 16) {x v : Int64} {g kk : Int32} (hv : vr φ D x g kk v) : cx φ D F N P (rpush S p 1 n x g) (mpu T r d n kk v) (aset A r 1 (d + 1) (fset (A.2.2.1 r) d (f, pc, n + 1, m, 0))) r d p f pc (n + 1) m ∧ hk S (rpush S p 1 n x g) := by
  have fr := h.fr
  obtain ⟨w0, w1, hr, a1, a2, a3, a4⟩ := h
  obtain ⟨v1, k1, _, _⟩ := w0.frm hr a1 a2 a3 (rp_ag S p n x g) rfl (mu_ag T r d n kk v) rfl (fr.push hn hv)
  exact ⟨⟨v1, w1, hr, aset_1 _ _ _ _ _, aset_2 _ _ _ _ _, a3, by rw [aset_3, fset_at]⟩, k1.hk⟩
theorem iqR.set (q : iqR P A r False) {dp : Nat} {fs : aFs} : iqR P (aset A r 1 dp fs) r False := by
  obtain ⟨q1, q2, q3, q9⟩ := q
  refine ⟨fun s hs z => ?_, q2, fun s => ?_, ?_⟩
  · rcases z with z | z
    · rw [aset_2n _ _ _ _ z, aset_3n _ _ _ _ z]
      exact q1 s hs (Or.inl z)
    · exact absurd z id
  · by_cases c : s = r
    · subst c
      exact ⟨fun z => absurd rfl ((q3 s).mp z).2.2, fun z => absurd rfl z.2.2⟩
    · rw [aset_1n _ _ _ _ c]
      exact q3 s
  · by_cases c : 0 = r
    · subst c
      rw [aset_1]
      omega
    · rw [aset_1n _ _ _ _ c]
      exact q9
/-! a sender goes on: the context goes on -/
theorem cx.go (h : cx φ D F N P S T A r d p f pc n m) (iq : iqR P A r False) {s a st c dd pp kx n' f' pc' m' : Nat} (hs : s < 16) (hsr : s ≠ r) (hd : A.2.1 s = dd + 1) (h1 : A.1 s = st) (hst : st = 2 ∨ st = 4) (ha : S.1 8 0 0 3 = nI a) (ha2 : a < 16) (hp : S.2.2.1.1 s dd = some pp) (hf : A.2.2.1 s dd = (f', pc', n', m', 0)) (hpc : pc' < P.2.2.2.1 f') (h2 : st = 2 → 2 ≤ n') (h4 : st = 4 → 3 * c ≤ n' ∧ n' ≤ 14 + 3 * c) :
    ∃ A', cx φ D F N P (luS (goS S pp n' st c kx) s a A.2.2.2.1.length) (goT T s dd A.2.2.2.1.length n' st c kx) A' r d p f pc n m ∧ hk S (luS (goS S pp n' st c kx) s a A.2.2.2.1.length) ∧ iqR P A' r False ∧ A'.2.2.2.2 = A.2.2.2.2 := by
  obtain ⟨w0, w1, hr, a1, a2, a3, a4⟩ := h
  obtain ⟨iq1, iq2, iq3, iq9⟩ := iq
  have hlen : A.2.2.2.1.length < 16 := by
    have := nd_len 16 (r :: A.2.2.2.1) (List.nodup_cons.mpr ⟨fun c => ((iq3 r).mp c).2.2 rfl, iq2⟩) (fun y hy => by
      rcases List.mem_cons.mp hy with rfl | hy
      · exact hr
      · exact ((iq3 y).mp hy).1)
    rw [List.length_cons] at this
    omega
  obtain ⟨A', w2, k2, z1, z2, z3, z4, z5⟩ := w0.goon (k := kx) hs hd h1 hst ha ha2 hlen hp hf hpc h2 h4
  obtain ⟨y1, y2, y3⟩ := z3 r hsr.symm
  have gref : (luS (goS S pp n' st c kx) s a A.2.2.2.1.length).2.2 = S.2.2 := by
    unfold goS
    by_cases c4 : st = 4
    · rw [if_pos c4]; rfl
    · rw [if_neg c4]; rfl
  refine ⟨A', ⟨w2, w1, hr, by rw [y1]; exact a1, by rw [y2]; exact a2, by rw [gref]; exact a3, by rw [y3]; exact a4⟩, k2, ⟨fun x hx z => ?_, ?_, fun x => ?_, ?_⟩, z5⟩
  · by_cases c' : x = s
    · subst c'; exact z2
    · rw [(z3 x c').2.1, (z3 x c').2.2]
      exact iq1 x hx z
  · rw [z4, List.nodup_append]
    refine ⟨iq2, List.nodup_cons.mpr ⟨List.not_mem_nil, List.nodup_nil⟩, fun a ha b hb => ?_⟩
    rw [List.mem_singleton] at hb
    subst hb
    intro c'
    subst c'
    have := ((iq3 a).mp ha).2.1
    omega
  · rw [z4, List.mem_append, List.mem_singleton]
    by_cases c' : x = s
    · subst c'
      exact ⟨fun _ => ⟨hs, z1, hsr⟩, fun _ => Or.inr rfl⟩
    · rw [(z3 x c').1]
      exact ⟨fun q => q.elim (iq3 x).mp (fun q => absurd q c'), fun q => Or.inl ((iq3 x).mpr q)⟩
  · by_cases c' : 0 = s
    · rw [c', z1]; omega
    · rw [(z3 0 c').1]; exact iq9
end PUL
