/-! printed by facts.py: where the words stand; the checks -/
def jsg (s : Nat) : List Cond := bif Nat.beq s 0 then k2_sels lw_privs else bif Nat.beq s 1 then tables_1_1 else bif Nat.beq s 2 then tables_1_2 else bif Nat.beq s 3 then tables_1_3 else bif Nat.beq s 4 then tables_1_4 else bif Nat.beq s 5 then tables_1_5 else bif Nat.beq s 6 then tables_1_6 else bif Nat.beq s 7 then tables_1_7 else []
theorem jsg_in {s : Nat} {w : Cond} (h : w ∈ jsg s) : w ∈ lw_tbl := by
  unfold jsg at h
  cases h0 : Nat.beq s 0 with
  | true =>
    rw [h0, cond_true] at h
    exact List.mem_append_left _ h
  | false =>
    rw [h0, cond_false] at h
    cases h1 : Nat.beq s 1 with
    | true =>
      rw [h1, cond_true] at h
      exact List.mem_append_right _ (show w ∈ tables_1 from List.mem_append_left _ h)
    | false =>
      rw [h1, cond_false] at h
      cases h2 : Nat.beq s 2 with
      | true =>
        rw [h2, cond_true] at h
        exact List.mem_append_right _ (show w ∈ tables_1 from List.mem_append_right _ (List.mem_append_left _ h))
      | false =>
        rw [h2, cond_false] at h
        cases h3 : Nat.beq s 3 with
        | true =>
          rw [h3, cond_true] at h
          exact List.mem_append_right _ (show w ∈ tables_1 from List.mem_append_right _ (List.mem_append_right _ (List.mem_append_left _ h)))
        | false =>
          rw [h3, cond_false] at h
          cases h4 : Nat.beq s 4 with
          | true =>
            rw [h4, cond_true] at h
            exact List.mem_append_right _ (show w ∈ tables_1 from List.mem_append_right _ (List.mem_append_right _ (List.mem_append_right _ (List.mem_append_left _ h))))
          | false =>
            rw [h4, cond_false] at h
            cases h5 : Nat.beq s 5 with
            | true =>
              rw [h5, cond_true] at h
              exact List.mem_append_right _ (show w ∈ tables_1 from List.mem_append_right _ (List.mem_append_right _ (List.mem_append_right _ (List.mem_append_right _ (List.mem_append_left _ h)))))
            | false =>
              rw [h5, cond_false] at h
              cases h6 : Nat.beq s 6 with
              | true =>
                rw [h6, cond_true] at h
                exact List.mem_append_right _ (show w ∈ tables_1 from List.mem_append_right _ (List.mem_append_right _ (List.mem_append_right _ (List.mem_append_right _ (List.mem_append_right _ (List.mem_append_left _ h))))))
              | false =>
                rw [h6, cond_false] at h
                cases h7 : Nat.beq s 7 with
                | true =>
                  rw [h7, cond_true] at h
                  exact List.mem_append_right _ (show w ∈ tables_1 from List.mem_append_right _ (List.mem_append_right _ (List.mem_append_right _ (List.mem_append_right _ (List.mem_append_right _ (List.mem_append_right _ (h)))))))
                | false =>
                  rw [h7, cond_false] at h
                  cases h
def jatW (n : Nat) (w : Cond) : Bool := match (jsg (n / 1000))[n % 1000]? with
  | some v => decide (v = w)
  | none => false
theorem jatW_in {n : Nat} {w : Cond} (h : jatW n w = true) : w ∈ lw_tbl := by
  unfold jatW at h
  split at h
  · rename_i v hv
    have e : v = w := of_decide_eq_true h
    rw [← e]
    exact jsg_in (List.mem_of_getElem? hv)
  · cases h
def jat (n : Nat) (w : Cond) : Bool := jatW n w && goodWord w
theorem jat_in {n : Nat} {w : Cond} (h : jat n w = true) : w ∈ jWs := by
  unfold jat at h
  rw [Bool.and_eq_true] at h
  exact List.mem_cons_of_mem _ (List.mem_filter.mpr ⟨jatW_in h.1, h.2⟩)
/-- a link: plain, or to a nest mate -/
def jatN (n : Nat) (w : Cond) : Bool := jatW n w && jisN w
theorem jatN_in {n : Nat} {w : Cond} (h : jatN n w = true) : w ∈ jNs := by
  unfold jatN at h
  rw [Bool.and_eq_true] at h
  have h1 := jatW_in h.1
  have hs : ¬ w ∈ k2_sels lw_privs := by
    intro z
    obtain ⟨q, -, e⟩ := List.mem_map.mp z
    rw [← e] at h
    cases h.2
  rcases List.mem_append.mp h1 with z | z
  · exact absurd z hs
  · exact List.mem_filter.mpr ⟨z, h.2⟩
def jq3 (e : Nat × Nat × Nat × Nat) : Bool := match e.2.2.1 with
  | 0 => jat e.2.2.2 (.methodLink (jcn e.1) e.2.1 Lib.objectInit)
  | 1 => jat e.2.2.2 (.methodLink (jcn e.1) e.2.1 arraycopyName)
  | y + 2 => jat e.2.2.2 (.methodLink (jcn e.1) e.2.1 (jnm y)) || (jatN e.2.2.2 (.methodLinkNest (jcn e.1) e.2.1 (jnm y) (jho e.1)) && (jhh y).isEmpty)
def jwc_0 : List (Nat × Nat × Nat × Nat) := [(0, 3, 0, 1038), (0, 45, 19, 4053), (0, 52, 26, 3134), (0, 55, 20, 3157), (0, 59, 21, 3161), (1, 3, 0, 1080), (1, 23, 78, 4209), (2, 3, 0, 1106), (2, 35, 25, 3182), (2, 36, 26, 3231), (2, 42, 27, 3232), (2, 46, 19, 3237), (2, 53, 28, 3238), (2, 58, 29, 3239), (2, 61, 30, 4000), (2, 65, 68, 4078), (2, 69, 81, 4079), (2, 81, 82, 4087), (2, 89, 31, 4092), (2, 93, 78, 4093), (2, 105, 80, 4091), (3, 3, 0, 1074), (3, 11, 3, 1077), (3, 30, 4, 1103), (3, 33, 7, 1142)]
theorem jwc_0_ok : jwc_0.all jq3 = true := by decide +kernel
def jwc_1 : List (Nat × Nat × Nat × Nat) := [(3, 36, 5, 1146), (3, 39, 6, 1150), (3, 61, 68, 5099), (3, 70, 24, 3173), (3, 74, 31, 3177), (3, 78, 32, 4004), (3, 94, 37, 2227), (4, 3, 0, 1204), (4, 18, 10, 1237), (4, 52, 37, 2239), (4, 56, 39, 2235), (4, 60, 1, 3025), (5, 3, 0, 1196), (5, 23, 9, 1201), (5, 41, 13, 1225), (5, 60, 12, 1229), (5, 69, 11, 1233), (5, 72, 60, 4158), (5, 76, 84, 4099), (5, 80, 85, 4107), (5, 84, 86, 4109), (5, 85, 87, 4142), (5, 96, 37, 4204), (5, 100, 38, 2223), (5, 106, 120, 5056)]
theorem jwc_1_ok : jwc_1.all jq3 = true := by decide +kernel
def jwc_2 : List (Nat × Nat × Nat × Nat) := [(5, 109, 39, 5060), (5, 113, 53, 3000), (5, 117, 40, 2231), (5, 121, 41, 2219), (5, 126, 42, 3012), (5, 130, 45, 3017), (5, 133, 10, 3016), (5, 139, 43, 3021), (5, 142, 44, 3028), (6, 3, 0, 2050), (6, 25, 10, 2181), (6, 49, 62, 2183), (6, 53, 63, 2207), (6, 56, 60, 2191), (6, 68, 29, 2187), (6, 72, 28, 2195), (6, 76, 61, 2199), (7, 3, 0, 2084), (7, 25, 29, 4153), (7, 29, 89, 4154), (7, 41, 94, 4159), (7, 45, 78, 4181), (7, 49, 95, 4184), (7, 55, 97, 4192), (7, 59, 101, 4196)]
theorem jwc_2_ok : jwc_2.all jq3 = true := by decide +kernel
def jwc_3 : List (Nat × Nat × Nat × Nat) := [(7, 63, 80, 4182), (7, 67, 92, 4163), (7, 71, 103, 4218), (7, 77, 83, 4223), (7, 83, 24, 4224), (7, 87, 32, 4183), (7, 91, 68, 4171), (7, 101, 91, 4167), (7, 108, 90, 4172), (7, 112, 28, 4176), (7, 116, 93, 4177), (7, 120, 106, 4229), (7, 126, 105, 4233), (7, 136, 98, 4200), (7, 140, 99, 4205), (7, 143, 100, 4210), (8, 3, 0, 2078), (8, 36, 16, 2081), (8, 43, 7, 2155), (8, 48, 13, 2156), (8, 67, 33, 3169), (8, 71, 34, 4008), (8, 74, 75, 4037), (8, 78, 68, 4041), (8, 84, 76, 4045)]
theorem jwc_3_ok : jwc_3.all jq3 = true := by decide +kernel
def jwc_4 : List (Nat × Nat × Nat × Nat) := [(8, 105, 77, 4049), (8, 120, 118, 4058), (8, 124, 78, 4068), (8, 128, 83, 4074), (8, 132, 119, 5046), (8, 136, 121, 5052), (8, 143, 24, 5050), (8, 153, 32, 5051), (8, 157, 79, 4062), (8, 161, 28, 4072), (8, 165, 29, 4073), (8, 169, 85, 4095), (8, 173, 54, 4102), (8, 176, 88, 4103), (8, 179, 80, 4148), (8, 183, 96, 4149), (8, 187, 102, 4188), (8, 190, 104, 4214), (8, 194, 107, 4225), (8, 198, 109, 4238), (8, 202, 110, 5007), (8, 206, 111, 5014), (8, 209, 113, 5018), (8, 213, 114, 5027), (8, 216, 116, 5032)]
theorem jwc_4_ok : jwc_4.all jq3 = true := by decide +kernel
def jwc_5 : List (Nat × Nat × Nat × Nat) := [(8, 220, 117, 5040), (8, 224, 19, 4066), (8, 227, 31, 4067), (8, 230, 105, 5002), (8, 233, 108, 5003), (8, 237, 112, 5022), (8, 246, 30, 5031), (8, 249, 115, 5036), (8, 253, 89, 5044), (8, 262, 98, 5045), (9, 1, 0, 1030), (9, 9, 2, 1035), (9, 18, 8, 1071), (9, 27, 14, 1193), (9, 36, 15, 2047), (9, 45, 17, 2075), (9, 65, 66, 3119), (9, 72, 50, 3130), (9, 76, 51, 3138), (9, 79, 19, 3149), (9, 83, 22, 3153), (9, 87, 23, 2151), (9, 90, 35, 3165), (9, 94, 48, 2157), (9, 103, 122, 4033)]
theorem jwc_5_ok : jwc_5.all jq3 = true := by decide +kernel
def jwc_6 : List (Nat × Nat × Nat × Nat) := [(9, 106, 127, 2169), (9, 117, 125, 5084), (9, 122, 69, 5095), (9, 129, 28, 5100), (9, 133, 29, 5108), (9, 136, 70, 5109), (9, 149, 56, 5120), (9, 159, 57, 5124), (9, 162, 58, 5128), (9, 166, 64, 2177), (9, 170, 54, 2215), (9, 176, 46, 3008), (10, 3, 0, 3185), (10, 11, 3, 3187), (10, 43, 5, 3236), (10, 49, 80, 4083), (10, 53, 28, 5011), (10, 57, 29, 5012), (10, 61, 78, 5013), (11, 3, 0, 4112), (11, 11, 3, 4114), (11, 27, 84, 4146), (11, 38, 5, 4147), (12, 3, 0, 5146), (13, 3, 0, 5180)]
theorem jwc_6_ok : jwc_6.all jq3 = true := by decide +kernel
def jwc_7 : List (Nat × Nat × Nat × Nat) := [(14, 3, 0, 5205), (15, 1, 0, 5137), (15, 75, 134, 5143), (15, 76, 135, 5177), (15, 83, 136, 5202), (15, 100, 167, 7039), (15, 107, 168, 7035), (15, 166, 169, 7031), (15, 181, 153, 6202), (15, 188, 156, 6225), (15, 197, 144, 6174), (15, 207, 157, 6221), (15, 216, 172, 7048), (15, 220, 175, 7072), (15, 224, 176, 7068), (15, 237, 165, 7019), (15, 241, 159, 6229), (15, 245, 180, 7089), (15, 248, 177, 7064), (15, 252, 181, 7085), (15, 265, 184, 7101), (15, 272, 158, 6216), (15, 276, 178, 7060), (15, 280, 179, 7076), (15, 286, 182, 7081)]
theorem jwc_7_ok : jwc_7.all jq3 = true := by decide +kernel
def jwc_8 : List (Nat × Nat × Nat × Nat) := [(15, 290, 185, 7097), (15, 293, 160, 6237), (15, 299, 152, 6198), (15, 312, 190, 6205), (15, 317, 191, 7117), (15, 320, 154, 6209), (15, 324, 155, 6213), (15, 327, 161, 6233), (15, 330, 162, 7003), (15, 334, 164, 7007), (15, 337, 166, 7015), (15, 339, 171, 7023), (15, 343, 173, 7044), (15, 347, 174, 7052), (15, 350, 183, 7056), (15, 353, 186, 7093), (15, 356, 187, 7105), (15, 359, 188, 7109), (15, 365, 189, 7113), (15, 369, 163, 7011), (15, 375, 170, 7027), (15, 389, 140, 6158), (15, 393, 142, 6166), (15, 397, 143, 6170), (15, 400, 192, 6194)]
theorem jwc_8_ok : jwc_8.all jq3 = true := by decide +kernel
def jwc_9 : List (Nat × Nat × Nat × Nat) := [(15, 403, 1, 7129), (15, 409, 199, 7138), (16, 7, 67, 3037), (16, 17, 52, 3126), (16, 20, 36, 3145), (16, 24, 74, 4015), (16, 28, 73, 4022), (16, 31, 123, 4029), (16, 34, 126, 5065), (16, 39, 72, 5091), (16, 43, 71, 5104), (16, 46, 59, 5116), (16, 49, 18, 1027), (16, 52, 137, 5134), (16, 53, 132, 3032), (16, 58, 138, 6150), (16, 59, 139, 6146), (16, 63, 130, 3123), (16, 65, 141, 6154), (16, 66, 129, 3142), (16, 69, 145, 6162), (16, 70, 49, 2147), (16, 73, 146, 6178), (16, 74, 147, 4012), (16, 77, 148, 6182)]
theorem jwc_9_ok : jwc_9.all jq3 = true := by decide +kernel
def jwc_10 : List (Nat × Nat × Nat × Nat) := [(16, 78, 149, 4019), (16, 80, 150, 6186), (16, 81, 151, 4026), (16, 83, 193, 6190), (16, 84, 124, 2161), (16, 87, 194, 7121), (16, 88, 128, 2165), (16, 92, 195, 7125), (16, 93, 196, 5061), (16, 95, 197, 7130), (16, 96, 198, 5088), (16, 98, 200, 7134), (16, 99, 133, 5101), (16, 101, 201, 7142), (16, 102, 131, 5113), (16, 104, 202, 7146), (16, 105, 65, 2173), (16, 108, 203, 7150), (16, 109, 55, 2211), (16, 112, 204, 7157), (16, 113, 47, 3004), (16, 116, 205, 7161)]
theorem jwc_10_ok : jwc_10.all jq3 = true := by decide +kernel
def jwc : List (Nat × Nat × Nat × Nat) := jwc_0 ++ jwc_1 ++ jwc_2 ++ jwc_3 ++ jwc_4 ++ jwc_5 ++ jwc_6 ++ jwc_7 ++ jwc_8 ++ jwc_9 ++ jwc_10
theorem jwc_ok : jwc.all jq3 = true := by
  unfold jwc
  simp only [List.all_append, jwc_0_ok, jwc_1_ok, jwc_2_ok, jwc_3_ok, jwc_4_ok, jwc_5_ok, jwc_6_ok, jwc_7_ok, jwc_8_ok, jwc_9_ok, jwc_10_ok, Bool.and_true]
theorem jwc_keys : jwc.map (fun e => (e.1, e.2.1, e.2.2.1)) = (List.range 18).flatMap (fun o => (jtCl o).map fun q => (o, q.1, q.2.1)) := by decide +kernel
