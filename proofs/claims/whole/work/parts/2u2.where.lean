/-! printed by facts.py: where the words stand; the checks -/
def jsg (s : Nat) : List Cond := bif Nat.beq s 0 then k2_sels lw_privs else bif Nat.beq s 1 then tables_1_1 else bif Nat.beq s 2 then tables_1_2 else bif Nat.beq s 3 then tables_1_3 else bif Nat.beq s 4 then tables_1_4 else bif Nat.beq s 5 then tables_1_5 else bif Nat.beq s 6 then tables_1_6 else bif Nat.beq s 7 then tables_1_7 else []
theorem jsg_in {s : Nat} {w : Cond} (h : w ∈ jsg s) : w ∈ lw_tbl := by
  unfold jsg at h
  cases h0 : Nat.beq s 0 with
  | true =>
    rw [h0, cond_true] at h
    exact List.mem_append_left _ h
  | false =>
    rw [h0, cond_false] at h
    cases h1 : Nat.beq s 1 with
    | true =>
      rw [h1, cond_true] at h
      exact List.mem_append_right _ (show w ∈ tables_1 from List.mem_append_left _ h)
    | false =>
      rw [h1, cond_false] at h
      cases h2 : Nat.beq s 2 with
      | true =>
        rw [h2, cond_true] at h
        exact List.mem_append_right _ (show w ∈ tables_1 from List.mem_append_right _ (List.mem_append_left _ h))
      | false =>
        rw [h2, cond_false] at h
        cases h3 : Nat.beq s 3 with
        | true =>
          rw [h3, cond_true] at h
          exact List.mem_append_right _ (show w ∈ tables_1 from List.mem_append_right _ (List.mem_append_right _ (List.mem_append_left _ h)))
        | false =>
          rw [h3, cond_false] at h
          cases h4 : Nat.beq s 4 with
          | true =>
            rw [h4, cond_true] at h
            exact List.mem_append_right _ (show w ∈ tables_1 from List.mem_append_right _ (List.mem_append_right _ (List.mem_append_right _ (List.mem_append_left _ h))))
          | false =>
            rw [h4, cond_false] at h
            cases h5 : Nat.beq s 5 with
            | true =>
              rw [h5, cond_true] at h
              exact List.mem_append_right _ (show w ∈ tables_1 from List.mem_append_right _ (List.mem_append_right _ (List.mem_append_right _ (List.mem_append_right _ (List.mem_append_left _ h)))))
            | false =>
              rw [h5, cond_false] at h
              cases h6 : Nat.beq s 6 with
              | true =>
                rw [h6, cond_true] at h
                exact List.mem_append_right _ (show w ∈ tables_1 from List.mem_append_right _ (List.mem_append_right _ (List.mem_append_right _ (List.mem_append_right _ (List.mem_append_right _ (List.mem_append_left _ h))))))
              | false =>
                rw [h6, cond_false] at h
                cases h7 : Nat.beq s 7 with
                | true =>
                  rw [h7, cond_true] at h
                  exact List.mem_append_right _ (show w ∈ tables_1 from List.mem_append_right _ (List.mem_append_right _ (List.mem_append_right _ (List.mem_append_right _ (List.mem_append_right _ (List.mem_append_right _ (h)))))))
                | false =>
                  rw [h7, cond_false] at h
                  cases h
def jatW (n : Nat) (w : Cond) : Bool := match (jsg (n / 1000))[n % 1000]? with
  | some v => decide (v = w)
  | none => false
theorem jatW_in {n : Nat} {w : Cond} (h : jatW n w = true) : w ∈ lw_tbl := by
  unfold jatW at h
  split at h
  · rename_i v hv
    have e : v = w := of_decide_eq_true h
    rw [← e]
    exact jsg_in (List.mem_of_getElem? hv)
  · cases h
def jat (n : Nat) (w : Cond) : Bool := jatW n w && goodWord w
theorem jat_in {n : Nat} {w : Cond} (h : jat n w = true) : w ∈ jWs := by
  unfold jat at h
  rw [Bool.and_eq_true] at h
  exact List.mem_cons_of_mem _ (List.mem_filter.mpr ⟨jatW_in h.1, h.2⟩)
/-- a link: plain, or to a nest mate -/
def jatN (n : Nat) (w : Cond) : Bool := jatW n w && jisN w
theorem jatN_in {n : Nat} {w : Cond} (h : jatN n w = true) : w ∈ jNs := by
  unfold jatN at h
  rw [Bool.and_eq_true] at h
  have h1 := jatW_in h.1
  have hs : ¬ w ∈ k2_sels lw_privs := by
    intro z
    obtain ⟨q, -, e⟩ := List.mem_map.mp z
    rw [← e] at h
    cases h.2
  rcases List.mem_append.mp h1 with z | z
  · exact absurd z hs
  · exact List.mem_filter.mpr ⟨z, h.2⟩
def jm1 (e : Nat × Nat × Nat × Nat × Nat) : Bool := plainName (jnm e.1).cls && (jkk (jkr e.1) (jrtT e.1) && (bif (jhh e.1).isEmpty then (Nat.beq e.1 204 || jat e.2.1 (Cond.code (jnm e.1) (jbt e.1) (jmx e.1) (jrtT e.1))) else jat e.2.1 (Cond.codeWith (jnm e.1) (jbt e.1) (jmx e.1) (jrtT e.1) (jhh e.1))))
def jy1 (e : Nat × Nat × Nat × Nat × Nat) : Bool := Nat.beq e.1 204 || (decide ((jnm e.1).cls ≠ "java/lang/invoke/MethodHandle") && (decide ((jnm e.1).cls ≠ "java/lang/invoke/VarHandle") && (jat e.2.2.1 (Cond.initialized (jnm e.1).cls) && (decide ((parseMethodDescriptor (jnm e.1).desc).map (fun d => d.parameters.length) = some (jnp e.1)) &&
  (match jkd e.1 with
    | 0 => jat e.2.2.2.1 (Cond.static (jnm e.1))
    | 1 => decide ((jnm e.1).name = "<init>") && (jat e.2.2.2.1 (Cond.instanceMethod (jnm e.1)) && (decide (jrtT e.1 = none) && (jhh e.1).isEmpty))
    | _ => jat e.2.2.2.1 (Cond.instanceMethod (jnm e.1)) && (jat e.2.2.2.2 (Cond.selects (jnm e.1).cls (jnm e.1) (jnm e.1)) && ((jhh e.1).isEmpty && (Nat.blt (jow e.1) 16))))))))
def jmy (e : Nat × Nat × Nat × Nat × Nat) : Bool := jm1 e && jy1 e
def jwm_0 : List (Nat × Nat × Nat × Nat × Nat) := [(0, 1037, 1002, 1036, 0), (1, 1079, 1004, 1078, 0), (2, 1105, 1005, 1104, 0), (3, 1149, 1004, 1147, 1148), (4, 1153, 1005, 1151, 1152), (5, 1145, 1003, 1143, 1144), (6, 1073, 1003, 1072, 0), (7, 1203, 1007, 1202, 0), (8, 1239, 1008, 1238, 0), (9, 1236, 1007, 1234, 1235), (10, 1232, 1006, 1231, 0), (11, 1228, 1006, 1226, 1227), (12, 1195, 1006, 1194, 0), (13, 2049, 1009, 2048, 0), (14, 2083, 1011, 2082, 0)]
theorem jwm_0_ok : jwm_0.all jmy = true := by decide +kernel
def jwm_1 : List (Nat × Nat × Nat × Nat × Nat) := [(15, 2077, 1010, 2076, 0), (16, 1029, 1001, 1028, 0), (17, 3152, 1002, 3150, 3151), (18, 3160, 1002, 3159, 10), (19, 3164, 1002, 3163, 11), (20, 3156, 1002, 3154, 3155), (21, 2154, 1010, 2152, 2153), (22, 3176, 1005, 3174, 3175), (23, 3184, 1021, 3183, 0), (24, 3137, 1002, 3135, 3136), (25, 3235, 1021, 3233, 3234), (26, 2198, 1004, 2196, 2197), (27, 2190, 1004, 2188, 2189), (28, 4003, 1004, 4001, 4002), (29, 3180, 1005, 3178, 3179)]
theorem jwm_1_ok : jwm_1.all jmy = true := by decide +kernel
def jwm_2 : List (Nat × Nat × Nat × Nat × Nat) := [(30, 4007, 1003, 4005, 4006), (31, 3172, 1003, 3170, 3171), (32, 4011, 1003, 4009, 4010), (33, 3168, 1010, 3166, 3167), (34, 3148, 1001, 3146, 3147), (35, 2230, 1007, 2228, 2229), (36, 2226, 1003, 2224, 2225), (37, 2238, 1007, 2236, 2237), (38, 2234, 1007, 2232, 2233), (39, 2222, 1006, 2221, 4), (40, 3015, 1006, 3014, 6), (41, 3024, 1007, 3022, 3023), (42, 3031, 1006, 3030, 8), (43, 3020, 1006, 3019, 7), (44, 3011, 1006, 3009, 3010)]
theorem jwm_2_ok : jwm_2.all jmy = true := by decide +kernel
def jwm_3 : List (Nat × Nat × Nat × Nat × Nat) := [(45, 3007, 1001, 3005, 3006), (46, 2160, 1002, 2158, 2159), (47, 2150, 1001, 2148, 2149), (48, 3133, 1002, 3131, 3132), (49, 3141, 1002, 3139, 3140), (50, 3129, 1001, 3127, 3128), (51, 3003, 1006, 3002, 5), (52, 2218, 1006, 2216, 2217), (53, 2214, 1001, 2212, 2213), (54, 5123, 1003, 5121, 5122), (55, 5127, 1006, 5125, 5126), (56, 5131, 1006, 5129, 5130), (57, 5119, 1001, 5117, 5118), (58, 2194, 1006, 2192, 2193), (59, 2202, 1009, 2201, 2)]
theorem jwm_3_ok : jwm_3.all jmy = true := by decide +kernel
def jwm_4 : List (Nat × Nat × Nat × Nat × Nat) := [(60, 2186, 1009, 2185, 1), (61, 2210, 1009, 2209, 3), (62, 2180, 1009, 2178, 2179), (63, 2176, 1001, 2174, 2175), (64, 3122, 1002, 3120, 3121), (65, 3040, 1001, 3038, 3039), (66, 4044, 1005, 4042, 4043), (67, 5098, 1003, 5096, 5097), (68, 5112, 1006, 5110, 5111), (69, 5107, 1001, 5105, 5106), (70, 5094, 1001, 5092, 5093), (71, 4025, 1001, 4023, 4024), (72, 4018, 1001, 4016, 4017), (73, 4040, 1003, 4038, 4039), (74, 4048, 1002, 4046, 4047)]
theorem jwm_4_ok : jwm_4.all jmy = true := by decide +kernel
def jwm_5 : List (Nat × Nat × Nat × Nat × Nat) := [(75, 4052, 1002, 4050, 4051), (76, 4071, 1004, 4069, 4070), (77, 4065, 1010, 4064, 13), (78, 4086, 1004, 4084, 4085), (79, 4082, 1021, 4080, 4081), (80, 4090, 1005, 4089, 14), (81, 4077, 1005, 4075, 4076), (82, 4101, 1022, 4100, 0), (83, 4098, 1006, 4096, 4097), (84, 4111, 1022, 4110, 0), (85, 4145, 1022, 4143, 4144), (86, 4106, 1006, 4104, 4105), (87, 4157, 1006, 4155, 4156), (88, 4175, 1011, 4174, 18), (89, 4170, 1011, 4169, 17)]
theorem jwm_5_ok : jwm_5.all jmy = true := by decide +kernel
def jwm_6 : List (Nat × Nat × Nat × Nat × Nat) := [(90, 4166, 1011, 4165, 16), (91, 4180, 1011, 4179, 19), (92, 4162, 1011, 4161, 15), (93, 4187, 1003, 4185, 4186), (94, 4152, 1011, 4150, 4151), (95, 4195, 1011, 4194, 20), (96, 4203, 1006, 4201, 4202), (97, 4208, 1004, 4206, 4207), (98, 4213, 1011, 4212, 22), (99, 4199, 1011, 4198, 21), (100, 4191, 1011, 4189, 4190), (101, 4221, 1011, 4220, 23), (102, 4217, 1011, 4215, 4216), (103, 4236, 1004, 4234, 4235), (104, 4232, 1011, 4231, 24)]
theorem jwm_6_ok : jwm_6.all jmy = true := by decide +kernel
def jwm_7 : List (Nat × Nat × Nat × Nat × Nat) := [(105, 4228, 1011, 4226, 4227), (106, 5006, 1010, 5005, 26), (107, 5001, 1010, 5000, 25), (108, 5010, 1021, 5008, 5009), (109, 5017, 1005, 5015, 5016), (110, 5025, 1004, 5023, 5024), (111, 5021, 1010, 5020, 27), (112, 5030, 1010, 5029, 28), (113, 5039, 1010, 5038, 30), (114, 5035, 1010, 5034, 29), (115, 5043, 1010, 5042, 31), (116, 4061, 1010, 4060, 12), (117, 5049, 1010, 5048, 32), (118, 5059, 1006, 5058, 33), (119, 5055, 1006, 5053, 5054)]
theorem jwm_7_ok : jwm_7.all jmy = true := by decide +kernel
def jwm_8 : List (Nat × Nat × Nat × Nat × Nat) := [(120, 4036, 1010, 4034, 4035), (121, 4032, 1001, 4030, 4031), (122, 2164, 1001, 2162, 2163), (123, 5087, 1005, 5085, 5086), (124, 5068, 1001, 5066, 5067), (125, 2172, 1010, 2170, 2171), (126, 2168, 1001, 2166, 2167), (127, 3144, 1000, 3143, 0), (128, 3125, 1000, 3124, 0), (129, 5115, 1000, 5114, 0), (130, 3034, 1000, 3033, 0), (131, 5103, 1000, 5102, 0), (132, 5145, 1013, 5144, 0), (133, 5179, 1014, 5178, 0), (134, 5204, 1015, 5203, 0)]
theorem jwm_8_ok : jwm_8.all jmy = true := by decide +kernel
def jwm_9 : List (Nat × Nat × Nat × Nat × Nat) := [(135, 5136, 1012, 5135, 0), (136, 6153, 1012, 6151, 6152), (137, 6149, 1012, 6147, 6148), (138, 6161, 1012, 6160, 34), (139, 6157, 1012, 6155, 6156), (140, 6169, 1012, 6168, 35), (141, 6173, 1012, 6172, 36), (142, 6177, 1012, 6176, 37), (143, 6165, 1012, 6163, 6164), (144, 6181, 1012, 6179, 6180), (145, 4014, 1000, 4013, 0), (146, 6185, 1012, 6183, 6184), (147, 4021, 1000, 4020, 0), (148, 6189, 1012, 6187, 6188), (149, 4028, 1000, 4027, 0)]
theorem jwm_9_ok : jwm_9.all jmy = true := by decide +kernel
def jwm_10 : List (Nat × Nat × Nat × Nat × Nat) := [(150, 6201, 1012, 6200, 39), (151, 6204, 1012, 6203, 0), (152, 6212, 1012, 6211, 41), (153, 6215, 1012, 6214, 0), (154, 6228, 1012, 6227, 44), (155, 6224, 1012, 6223, 43), (156, 6219, 1012, 6218, 42), (157, 6232, 1012, 6231, 45), (158, 7000, 1012, 6239, 47), (159, 6236, 1012, 6235, 46), (160, 7006, 1012, 7005, 48), (161, 7014, 1012, 7013, 50), (162, 7010, 1012, 7009, 49), (163, 7022, 1012, 7021, 52), (164, 7018, 1012, 7017, 51)]
theorem jwm_10_ok : jwm_10.all jmy = true := by decide +kernel
def jwm_11 : List (Nat × Nat × Nat × Nat × Nat) := [(165, 7042, 1013, 7040, 7041), (166, 7038, 1012, 7037, 56), (167, 7034, 1012, 7033, 55), (168, 7030, 1012, 7029, 54), (169, 7026, 1012, 7025, 53), (170, 7051, 1012, 7050, 58), (171, 7047, 1012, 7046, 57), (172, 7055, 1012, 7054, 59), (173, 7075, 1012, 7074, 64), (174, 7071, 1012, 7070, 63), (175, 7067, 1012, 7066, 62), (176, 7063, 1012, 7062, 61), (177, 7079, 1012, 7078, 65), (178, 7092, 1012, 7091, 68), (179, 7088, 1012, 7087, 67)]
theorem jwm_11_ok : jwm_11.all jmy = true := by decide +kernel
def jwm_12 : List (Nat × Nat × Nat × Nat × Nat) := [(180, 7084, 1012, 7083, 66), (181, 7059, 1012, 7058, 60), (182, 7104, 1012, 7103, 71), (183, 7100, 1012, 7099, 70), (184, 7096, 1012, 7095, 69), (185, 7108, 1012, 7107, 72), (186, 7112, 1012, 7111, 73), (187, 7116, 1012, 7115, 74), (188, 6208, 1012, 6207, 40), (189, 7120, 1012, 7119, 75), (190, 6197, 1012, 6196, 38), (191, 6193, 1012, 6191, 6192), (192, 7124, 1012, 7122, 7123), (193, 7128, 1012, 7126, 7127), (194, 5063, 1000, 5062, 0)]
theorem jwm_12_ok : jwm_12.all jmy = true := by decide +kernel
def jwm_13 : List (Nat × Nat × Nat × Nat × Nat) := [(195, 7133, 1012, 7131, 7132), (196, 5090, 1000, 5089, 0), (197, 7141, 1012, 7140, 76), (198, 7137, 1012, 7135, 7136), (199, 7145, 1012, 7143, 7144), (200, 7149, 1012, 7147, 7148), (201, 7153, 1012, 7151, 7152), (202, 7160, 1012, 7158, 7159), (203, 7164, 1012, 7162, 7163), (204, 0, 0, 0, 0)]
theorem jwm_13_ok : jwm_13.all jmy = true := by decide +kernel
def jwm : List (Nat × Nat × Nat × Nat × Nat) := jwm_0 ++ jwm_1 ++ jwm_2 ++ jwm_3 ++ jwm_4 ++ jwm_5 ++ jwm_6 ++ jwm_7 ++ jwm_8 ++ jwm_9 ++ jwm_10 ++ jwm_11 ++ jwm_12 ++ jwm_13
theorem jwm_ok : jwm.all jmy = true := by
  unfold jwm
  simp only [List.all_append, jwm_0_ok, jwm_1_ok, jwm_2_ok, jwm_3_ok, jwm_4_ok, jwm_5_ok, jwm_6_ok, jwm_7_ok, jwm_8_ok, jwm_9_ok, jwm_10_ok, jwm_11_ok, jwm_12_ok, jwm_13_ok, Bool.and_true]
theorem jwm_keys : jwm.map (fun e => e.1) = List.range 205 := by decide +kernel
theorem jwm_at {j : Nat} (h : j < 205) : ∃ e : Nat × Nat × Nat × Nat × Nat, e.1 = j ∧ jm1 e = true ∧ jy1 e = true := by
  have h1 : j ∈ jwm.map (fun e => e.1) := by rw [jwm_keys]; exact List.mem_range.mpr h
  obtain ⟨e, he, h2⟩ := List.mem_map.mp h1
  have h3 := List.all_eq_true.mp jwm_ok e he
  unfold jmy at h3
  rw [Bool.and_eq_true] at h3
  exact ⟨e, h2, h3⟩
def jq3 (e : Nat × Nat × Nat × Nat) : Bool := match e.2.2.1 with
  | 0 => jat e.2.2.2 (.methodLink (jcn e.1) e.2.1 Lib.objectInit)
  | 1 => jat e.2.2.2 (.methodLink (jcn e.1) e.2.1 arraycopyName)
  | y + 2 => jat e.2.2.2 (.methodLink (jcn e.1) e.2.1 (jnm y)) || (jatN e.2.2.2 (.methodLinkNest (jcn e.1) e.2.1 (jnm y) (jho e.1)) && (jhh y).isEmpty)
def jwc_0 : List (Nat × Nat × Nat × Nat) := [(0, 3, 0, 1038), (0, 45, 19, 4053), (0, 52, 26, 3134), (0, 55, 20, 3157), (0, 59, 21, 3161), (1, 3, 0, 1080), (1, 23, 78, 4209), (2, 3, 0, 1106), (2, 35, 25, 3182), (2, 36, 26, 3231), (2, 42, 27, 3232), (2, 46, 19, 3237), (2, 53, 28, 3238), (2, 58, 29, 3239), (2, 61, 30, 4000), (2, 65, 68, 4078), (2, 69, 81, 4079), (2, 81, 82, 4087), (2, 89, 31, 4092), (2, 93, 78, 4093), (2, 105, 80, 4091), (3, 3, 0, 1074), (3, 11, 3, 1077), (3, 30, 4, 1103), (3, 33, 7, 1142)]
theorem jwc_0_ok : jwc_0.all jq3 = true := by decide +kernel
def jwc_1 : List (Nat × Nat × Nat × Nat) := [(3, 36, 5, 1146), (3, 39, 6, 1150), (3, 61, 68, 5099), (3, 70, 24, 3173), (3, 74, 31, 3177), (3, 78, 32, 4004), (3, 94, 37, 2227), (4, 3, 0, 1204), (4, 18, 10, 1237), (4, 52, 37, 2239), (4, 56, 39, 2235), (4, 60, 1, 3025), (5, 3, 0, 1196), (5, 23, 9, 1201), (5, 41, 13, 1225), (5, 60, 12, 1229), (5, 69, 11, 1233), (5, 72, 60, 4158), (5, 76, 84, 4099), (5, 80, 85, 4107), (5, 84, 86, 4109), (5, 85, 87, 4142), (5, 96, 37, 4204), (5, 100, 38, 2223), (5, 106, 120, 5056)]
theorem jwc_1_ok : jwc_1.all jq3 = true := by decide +kernel
def jwc_2 : List (Nat × Nat × Nat × Nat) := [(5, 109, 39, 5060), (5, 113, 53, 3000), (5, 117, 40, 2231), (5, 121, 41, 2219), (5, 126, 42, 3012), (5, 130, 45, 3017), (5, 133, 10, 3016), (5, 139, 43, 3021), (5, 142, 44, 3028), (6, 3, 0, 2050), (6, 25, 10, 2181), (6, 49, 62, 2183), (6, 53, 63, 2207), (6, 56, 60, 2191), (6, 68, 29, 2187), (6, 72, 28, 2195), (6, 76, 61, 2199), (7, 3, 0, 2084), (7, 25, 29, 4153), (7, 29, 89, 4154), (7, 41, 94, 4159), (7, 45, 78, 4181), (7, 49, 95, 4184), (7, 55, 97, 4192), (7, 59, 101, 4196)]
theorem jwc_2_ok : jwc_2.all jq3 = true := by decide +kernel
def jwc_3 : List (Nat × Nat × Nat × Nat) := [(7, 63, 80, 4182), (7, 67, 92, 4163), (7, 71, 103, 4218), (7, 77, 83, 4223), (7, 83, 24, 4224), (7, 87, 32, 4183), (7, 91, 68, 4171), (7, 101, 91, 4167), (7, 108, 90, 4172), (7, 112, 28, 4176), (7, 116, 93, 4177), (7, 120, 106, 4229), (7, 126, 105, 4233), (7, 136, 98, 4200), (7, 140, 99, 4205), (7, 143, 100, 4210), (8, 3, 0, 2078), (8, 36, 16, 2081), (8, 43, 7, 2155), (8, 48, 13, 2156), (8, 67, 33, 3169), (8, 71, 34, 4008), (8, 74, 75, 4037), (8, 78, 68, 4041), (8, 84, 76, 4045)]
theorem jwc_3_ok : jwc_3.all jq3 = true := by decide +kernel
def jwc_4 : List (Nat × Nat × Nat × Nat) := [(8, 105, 77, 4049), (8, 120, 118, 4058), (8, 124, 78, 4068), (8, 128, 83, 4074), (8, 132, 119, 5046), (8, 136, 121, 5052), (8, 143, 24, 5050), (8, 153, 32, 5051), (8, 157, 79, 4062), (8, 161, 28, 4072), (8, 165, 29, 4073), (8, 169, 85, 4095), (8, 173, 54, 4102), (8, 176, 88, 4103), (8, 179, 80, 4148), (8, 183, 96, 4149), (8, 187, 102, 4188), (8, 190, 104, 4214), (8, 194, 107, 4225), (8, 198, 109, 4238), (8, 202, 110, 5007), (8, 206, 111, 5014), (8, 209, 113, 5018), (8, 213, 114, 5027), (8, 216, 116, 5032)]
theorem jwc_4_ok : jwc_4.all jq3 = true := by decide +kernel
def jwc_5 : List (Nat × Nat × Nat × Nat) := [(8, 220, 117, 5040), (8, 224, 19, 4066), (8, 227, 31, 4067), (8, 230, 105, 5002), (8, 233, 108, 5003), (8, 237, 112, 5022), (8, 246, 30, 5031), (8, 249, 115, 5036), (8, 253, 89, 5044), (8, 262, 98, 5045), (9, 1, 0, 1030), (9, 9, 2, 1035), (9, 18, 8, 1071), (9, 27, 14, 1193), (9, 36, 15, 2047), (9, 45, 17, 2075), (9, 65, 66, 3119), (9, 72, 50, 3130), (9, 76, 51, 3138), (9, 79, 19, 3149), (9, 83, 22, 3153), (9, 87, 23, 2151), (9, 90, 35, 3165), (9, 94, 48, 2157), (9, 103, 122, 4033)]
theorem jwc_5_ok : jwc_5.all jq3 = true := by decide +kernel
def jwc_6 : List (Nat × Nat × Nat × Nat) := [(9, 106, 127, 2169), (9, 117, 125, 5084), (9, 122, 69, 5095), (9, 129, 28, 5100), (9, 133, 29, 5108), (9, 136, 70, 5109), (9, 149, 56, 5120), (9, 159, 57, 5124), (9, 162, 58, 5128), (9, 166, 64, 2177), (9, 170, 54, 2215), (9, 176, 46, 3008), (10, 3, 0, 3185), (10, 11, 3, 3187), (10, 43, 5, 3236), (10, 49, 80, 4083), (10, 53, 28, 5011), (10, 57, 29, 5012), (10, 61, 78, 5013), (11, 3, 0, 4112), (11, 11, 3, 4114), (11, 27, 84, 4146), (11, 38, 5, 4147), (12, 3, 0, 5146), (13, 3, 0, 5180)]
theorem jwc_6_ok : jwc_6.all jq3 = true := by decide +kernel
def jwc_7 : List (Nat × Nat × Nat × Nat) := [(14, 3, 0, 5205), (15, 1, 0, 5137), (15, 75, 134, 5143), (15, 76, 135, 5177), (15, 83, 136, 5202), (15, 100, 167, 7039), (15, 107, 168, 7035), (15, 166, 169, 7031), (15, 181, 153, 6202), (15, 188, 156, 6225), (15, 197, 144, 6174), (15, 207, 157, 6221), (15, 216, 172, 7048), (15, 220, 175, 7072), (15, 224, 176, 7068), (15, 237, 165, 7019), (15, 241, 159, 6229), (15, 245, 180, 7089), (15, 248, 177, 7064), (15, 252, 181, 7085), (15, 265, 184, 7101), (15, 272, 158, 6216), (15, 276, 178, 7060), (15, 280, 179, 7076), (15, 286, 182, 7081)]
theorem jwc_7_ok : jwc_7.all jq3 = true := by decide +kernel
def jwc_8 : List (Nat × Nat × Nat × Nat) := [(15, 290, 185, 7097), (15, 293, 160, 6237), (15, 299, 152, 6198), (15, 312, 190, 6205), (15, 317, 191, 7117), (15, 320, 154, 6209), (15, 324, 155, 6213), (15, 327, 161, 6233), (15, 330, 162, 7003), (15, 334, 164, 7007), (15, 337, 166, 7015), (15, 339, 171, 7023), (15, 343, 173, 7044), (15, 347, 174, 7052), (15, 350, 183, 7056), (15, 353, 186, 7093), (15, 356, 187, 7105), (15, 359, 188, 7109), (15, 365, 189, 7113), (15, 369, 163, 7011), (15, 375, 170, 7027), (15, 389, 140, 6158), (15, 393, 142, 6166), (15, 397, 143, 6170), (15, 400, 192, 6194)]
theorem jwc_8_ok : jwc_8.all jq3 = true := by decide +kernel
def jwc_9 : List (Nat × Nat × Nat × Nat) := [(15, 403, 1, 7129), (15, 409, 199, 7138), (16, 7, 67, 3037), (16, 17, 52, 3126), (16, 20, 36, 3145), (16, 24, 74, 4015), (16, 28, 73, 4022), (16, 31, 123, 4029), (16, 34, 126, 5065), (16, 39, 72, 5091), (16, 43, 71, 5104), (16, 46, 59, 5116), (16, 49, 18, 1027), (16, 52, 137, 5134), (16, 53, 132, 3032), (16, 58, 138, 6150), (16, 59, 139, 6146), (16, 63, 130, 3123), (16, 65, 141, 6154), (16, 66, 129, 3142), (16, 69, 145, 6162), (16, 70, 49, 2147), (16, 73, 146, 6178), (16, 74, 147, 4012), (16, 77, 148, 6182)]
theorem jwc_9_ok : jwc_9.all jq3 = true := by decide +kernel
def jwc_10 : List (Nat × Nat × Nat × Nat) := [(16, 78, 149, 4019), (16, 80, 150, 6186), (16, 81, 151, 4026), (16, 83, 193, 6190), (16, 84, 124, 2161), (16, 87, 194, 7121), (16, 88, 128, 2165), (16, 92, 195, 7125), (16, 93, 196, 5061), (16, 95, 197, 7130), (16, 96, 198, 5088), (16, 98, 200, 7134), (16, 99, 133, 5101), (16, 101, 201, 7142), (16, 102, 131, 5113), (16, 104, 202, 7146), (16, 105, 65, 2173), (16, 108, 203, 7150), (16, 109, 55, 2211), (16, 112, 204, 7157), (16, 113, 47, 3004), (16, 116, 205, 7161)]
theorem jwc_10_ok : jwc_10.all jq3 = true := by decide +kernel
def jwc : List (Nat × Nat × Nat × Nat) := jwc_0 ++ jwc_1 ++ jwc_2 ++ jwc_3 ++ jwc_4 ++ jwc_5 ++ jwc_6 ++ jwc_7 ++ jwc_8 ++ jwc_9 ++ jwc_10
theorem jwc_ok : jwc.all jq3 = true := by
  unfold jwc
  simp only [List.all_append, jwc_0_ok, jwc_1_ok, jwc_2_ok, jwc_3_ok, jwc_4_ok, jwc_5_ok, jwc_6_ok, jwc_7_ok, jwc_8_ok, jwc_9_ok, jwc_10_ok, Bool.and_true]
theorem jwc_keys : jwc.map (fun e => (e.1, e.2.1, e.2.2.1)) = (List.range 18).flatMap (fun o => (jtCl o).map fun q => (o, q.1, q.2.1)) := by decide +kernel
