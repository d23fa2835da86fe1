/-! printed by facts.py: the methods: where their words stand; the checks -/
def jwm_0 : List (Nat × Nat × Nat × Nat × Nat) := [(0, 1037, 1002, 1036, 0), (1, 1079, 1004, 1078, 0), (2, 1105, 1005, 1104, 0), (3, 1149, 1004, 1147, 1148), (4, 1153, 1005, 1151, 1152), (5, 1145, 1003, 1143, 1144), (6, 1073, 1003, 1072, 0), (7, 1203, 1007, 1202, 0), (8, 1239, 1008, 1238, 0), (9, 1236, 1007, 1234, 1235)]
theorem jwm_0_ok : jwm_0.all jmy = true := by decide +kernel
def jwm_1 : List (Nat × Nat × Nat × Nat × Nat) := [(10, 1232, 1006, 1231, 0), (11, 1228, 1006, 1226, 1227), (12, 1195, 1006, 1194, 0), (13, 2049, 1009, 2048, 0), (14, 2083, 1011, 2082, 0), (15, 2077, 1010, 2076, 0), (16, 1029, 1001, 1028, 0), (17, 3152, 1002, 3150, 3151), (18, 3160, 1002, 3159, 10)]
theorem jwm_1_ok : jwm_1.all jmy = true := by decide +kernel
def jwm_2 : List (Nat × Nat × Nat × Nat × Nat) := [(19, 3164, 1002, 3163, 11), (20, 3156, 1002, 3154, 3155), (21, 2154, 1010, 2152, 2153), (22, 3176, 1005, 3174, 3175), (23, 3184, 1021, 3183, 0), (24, 3137, 1002, 3135, 3136), (25, 3235, 1021, 3233, 3234), (26, 2198, 1004, 2196, 2197)]
theorem jwm_2_ok : jwm_2.all jmy = true := by decide +kernel
def jwm_3 : List (Nat × Nat × Nat × Nat × Nat) := [(27, 2190, 1004, 2188, 2189), (28, 4003, 1004, 4001, 4002), (29, 3180, 1005, 3178, 3179), (30, 4007, 1003, 4005, 4006), (31, 3172, 1003, 3170, 3171), (32, 4011, 1003, 4009, 4010), (33, 3168, 1010, 3166, 3167), (34, 3148, 1001, 3146, 3147)]
theorem jwm_3_ok : jwm_3.all jmy = true := by decide +kernel
def jwm_4 : List (Nat × Nat × Nat × Nat × Nat) := [(35, 2230, 1007, 2228, 2229), (36, 2226, 1003, 2224, 2225), (37, 2238, 1007, 2236, 2237), (38, 2234, 1007, 2232, 2233), (39, 2222, 1006, 2221, 4), (40, 3015, 1006, 3014, 6)]
theorem jwm_4_ok : jwm_4.all jmy = true := by decide +kernel
def jwm_5 : List (Nat × Nat × Nat × Nat × Nat) := [(41, 3024, 1007, 3022, 3023), (42, 3031, 1006, 3030, 8), (43, 3020, 1006, 3019, 7), (44, 3011, 1006, 3009, 3010), (45, 3007, 1001, 3005, 3006), (46, 2160, 1002, 2158, 2159), (47, 2150, 1001, 2148, 2149)]
theorem jwm_5_ok : jwm_5.all jmy = true := by decide +kernel
def jwm_6 : List (Nat × Nat × Nat × Nat × Nat) := [(48, 3133, 1002, 3131, 3132), (49, 3141, 1002, 3139, 3140), (50, 3129, 1001, 3127, 3128), (51, 3003, 1006, 3002, 5), (52, 2218, 1006, 2216, 2217)]
theorem jwm_6_ok : jwm_6.all jmy = true := by decide +kernel
def jwm_7 : List (Nat × Nat × Nat × Nat × Nat) := [(53, 2214, 1001, 2212, 2213), (54, 5123, 1003, 5121, 5122), (55, 5127, 1006, 5125, 5126), (56, 5131, 1006, 5129, 5130), (57, 5119, 1001, 5117, 5118), (58, 2194, 1006, 2192, 2193), (59, 2202, 1009, 2201, 2), (60, 2186, 1009, 2185, 1)]
theorem jwm_7_ok : jwm_7.all jmy = true := by decide +kernel
def jwm_8 : List (Nat × Nat × Nat × Nat × Nat) := [(61, 2210, 1009, 2209, 3), (62, 2180, 1009, 2178, 2179), (63, 2176, 1001, 2174, 2175), (64, 3122, 1002, 3120, 3121), (65, 3040, 1001, 3038, 3039), (66, 4044, 1005, 4042, 4043), (67, 5098, 1003, 5096, 5097), (68, 5112, 1006, 5110, 5111)]
theorem jwm_8_ok : jwm_8.all jmy = true := by decide +kernel
def jwm_9 : List (Nat × Nat × Nat × Nat × Nat) := [(69, 5107, 1001, 5105, 5106), (70, 5094, 1001, 5092, 5093), (71, 4025, 1001, 4023, 4024), (72, 4018, 1001, 4016, 4017), (73, 4040, 1003, 4038, 4039), (74, 4048, 1002, 4046, 4047), (75, 4052, 1002, 4050, 4051), (76, 4071, 1004, 4069, 4070), (77, 4065, 1010, 4064, 13)]
theorem jwm_9_ok : jwm_9.all jmy = true := by decide +kernel
def jwm_10 : List (Nat × Nat × Nat × Nat × Nat) := [(78, 4086, 1004, 4084, 4085), (79, 4082, 1021, 4080, 4081), (80, 4090, 1005, 4089, 14), (81, 4077, 1005, 4075, 4076), (82, 4101, 1022, 4100, 0), (83, 4098, 1006, 4096, 4097), (84, 4111, 1022, 4110, 0), (85, 4145, 1022, 4143, 4144)]
theorem jwm_10_ok : jwm_10.all jmy = true := by decide +kernel
def jwm_11 : List (Nat × Nat × Nat × Nat × Nat) := [(86, 4106, 1006, 4104, 4105), (87, 4157, 1006, 4155, 4156), (88, 4175, 1011, 4174, 18), (89, 4170, 1011, 4169, 17), (90, 4166, 1011, 4165, 16), (91, 4180, 1011, 4179, 19)]
theorem jwm_11_ok : jwm_11.all jmy = true := by decide +kernel
def jwm_12 : List (Nat × Nat × Nat × Nat × Nat) := [(92, 4162, 1011, 4161, 15), (93, 4187, 1003, 4185, 4186), (94, 4152, 1011, 4150, 4151), (95, 4195, 1011, 4194, 20), (96, 4203, 1006, 4201, 4202), (97, 4208, 1004, 4206, 4207)]
theorem jwm_12_ok : jwm_12.all jmy = true := by decide +kernel
def jwm_13 : List (Nat × Nat × Nat × Nat × Nat) := [(98, 4213, 1011, 4212, 22), (99, 4199, 1011, 4198, 21), (100, 4191, 1011, 4189, 4190), (101, 4221, 1011, 4220, 23)]
theorem jwm_13_ok : jwm_13.all jmy = true := by decide +kernel
def jwm_14 : List (Nat × Nat × Nat × Nat × Nat) := [(102, 4217, 1011, 4215, 4216), (103, 4236, 1004, 4234, 4235), (104, 4232, 1011, 4231, 24), (105, 4228, 1011, 4226, 4227), (106, 5006, 1010, 5005, 26)]
theorem jwm_14_ok : jwm_14.all jmy = true := by decide +kernel
def jwm_15 : List (Nat × Nat × Nat × Nat × Nat) := [(107, 5001, 1010, 5000, 25), (108, 5010, 1021, 5008, 5009), (109, 5017, 1005, 5015, 5016), (110, 5025, 1004, 5023, 5024), (111, 5021, 1010, 5020, 27), (112, 5030, 1010, 5029, 28)]
theorem jwm_15_ok : jwm_15.all jmy = true := by decide +kernel
def jwm_16 : List (Nat × Nat × Nat × Nat × Nat) := [(113, 5039, 1010, 5038, 30), (114, 5035, 1010, 5034, 29), (115, 5043, 1010, 5042, 31)]
theorem jwm_16_ok : jwm_16.all jmy = true := by decide +kernel
def jwm_17 : List (Nat × Nat × Nat × Nat × Nat) := [(116, 4061, 1010, 4060, 12), (117, 5049, 1010, 5048, 32), (118, 5059, 1006, 5058, 33)]
theorem jwm_17_ok : jwm_17.all jmy = true := by decide +kernel
def jwm_18 : List (Nat × Nat × Nat × Nat × Nat) := [(119, 5055, 1006, 5053, 5054), (120, 4036, 1010, 4034, 4035), (121, 4032, 1001, 4030, 4031), (122, 2164, 1001, 2162, 2163), (123, 5087, 1005, 5085, 5086)]
theorem jwm_18_ok : jwm_18.all jmy = true := by decide +kernel
def jwm_19 : List (Nat × Nat × Nat × Nat × Nat) := [(124, 5068, 1001, 5066, 5067), (125, 2172, 1010, 2170, 2171), (126, 2168, 1001, 2166, 2167), (127, 3144, 1000, 3143, 0), (128, 3125, 1000, 3124, 0), (129, 5115, 1000, 5114, 0), (130, 3034, 1000, 3033, 0), (131, 5103, 1000, 5102, 0), (132, 5145, 1013, 5144, 0), (133, 5179, 1014, 5178, 0), (134, 5204, 1015, 5203, 0)]
theorem jwm_19_ok : jwm_19.all jmy = true := by decide +kernel
def jwm_20 : List (Nat × Nat × Nat × Nat × Nat) := [(135, 5136, 1012, 5135, 0), (136, 6153, 1012, 6151, 6152), (137, 6149, 1012, 6147, 6148)]
theorem jwm_20_ok : jwm_20.all jmy = true := by decide +kernel
def jwm_21 : List (Nat × Nat × Nat × Nat × Nat) := [(138, 6161, 1012, 6160, 34), (139, 6157, 1012, 6155, 6156), (140, 6169, 1012, 6168, 35)]
theorem jwm_21_ok : jwm_21.all jmy = true := by decide +kernel
def jwm_22 : List (Nat × Nat × Nat × Nat × Nat) := [(141, 6173, 1012, 6172, 36), (142, 6177, 1012, 6176, 37), (143, 6165, 1012, 6163, 6164), (144, 6181, 1012, 6179, 6180), (145, 4014, 1000, 4013, 0), (146, 6185, 1012, 6183, 6184), (147, 4021, 1000, 4020, 0), (148, 6189, 1012, 6187, 6188)]
theorem jwm_22_ok : jwm_22.all jmy = true := by decide +kernel
def jwm_23 : List (Nat × Nat × Nat × Nat × Nat) := [(149, 4028, 1000, 4027, 0), (150, 6201, 1012, 6200, 39), (151, 6204, 1012, 6203, 0), (152, 6212, 1012, 6211, 41), (153, 6215, 1012, 6214, 0)]
theorem jwm_23_ok : jwm_23.all jmy = true := by decide +kernel
def jwm_24 : List (Nat × Nat × Nat × Nat × Nat) := [(154, 6228, 1012, 6227, 44), (155, 6224, 1012, 6223, 43), (156, 6219, 1012, 6218, 42), (157, 6232, 1012, 6231, 45), (158, 7000, 1012, 6239, 47)]
theorem jwm_24_ok : jwm_24.all jmy = true := by decide +kernel
def jwm_25 : List (Nat × Nat × Nat × Nat × Nat) := [(159, 6236, 1012, 6235, 46), (160, 7006, 1012, 7005, 48), (161, 7014, 1012, 7013, 50), (162, 7010, 1012, 7009, 49), (163, 7022, 1012, 7021, 52), (164, 7018, 1012, 7017, 51), (165, 7042, 1013, 7040, 7041)]
theorem jwm_25_ok : jwm_25.all jmy = true := by decide +kernel
def jwm_26 : List (Nat × Nat × Nat × Nat × Nat) := [(166, 7038, 1012, 7037, 56), (167, 7034, 1012, 7033, 55), (168, 7030, 1012, 7029, 54), (169, 7026, 1012, 7025, 53)]
theorem jwm_26_ok : jwm_26.all jmy = true := by decide +kernel
def jwm_27 : List (Nat × Nat × Nat × Nat × Nat) := [(170, 7051, 1012, 7050, 58), (171, 7047, 1012, 7046, 57), (172, 7055, 1012, 7054, 59), (173, 7075, 1012, 7074, 64), (174, 7071, 1012, 7070, 63)]
theorem jwm_27_ok : jwm_27.all jmy = true := by decide +kernel
def jwm_28 : List (Nat × Nat × Nat × Nat × Nat) := [(175, 7067, 1012, 7066, 62), (176, 7063, 1012, 7062, 61), (177, 7079, 1012, 7078, 65), (178, 7092, 1012, 7091, 68), (179, 7088, 1012, 7087, 67), (180, 7084, 1012, 7083, 66)]
theorem jwm_28_ok : jwm_28.all jmy = true := by decide +kernel
def jwm_29 : List (Nat × Nat × Nat × Nat × Nat) := [(181, 7059, 1012, 7058, 60), (182, 7104, 1012, 7103, 71), (183, 7100, 1012, 7099, 70)]
theorem jwm_29_ok : jwm_29.all jmy = true := by decide +kernel
def jwm_30 : List (Nat × Nat × Nat × Nat × Nat) := [(184, 7096, 1012, 7095, 69), (185, 7108, 1012, 7107, 72)]
theorem jwm_30_ok : jwm_30.all jmy = true := by decide +kernel
def jwm_31 : List (Nat × Nat × Nat × Nat × Nat) := [(186, 7112, 1012, 7111, 73), (187, 7116, 1012, 7115, 74)]
theorem jwm_31_ok : jwm_31.all jmy = true := by decide +kernel
def jwm_33 : List (Nat × Nat × Nat × Nat × Nat) := [(189, 7120, 1012, 7119, 75), (190, 6197, 1012, 6196, 38), (191, 6193, 1012, 6191, 6192), (192, 7124, 1012, 7122, 7123), (193, 7128, 1012, 7126, 7127), (194, 5063, 1000, 5062, 0)]
theorem jwm_33_ok : jwm_33.all jmy = true := by decide +kernel
def jwm_34 : List (Nat × Nat × Nat × Nat × Nat) := [(195, 7133, 1012, 7131, 7132), (196, 5090, 1000, 5089, 0), (197, 7141, 1012, 7140, 76), (198, 7137, 1012, 7135, 7136), (199, 7145, 1012, 7143, 7144)]
theorem jwm_34_ok : jwm_34.all jmy = true := by decide +kernel
def jwm_35 : List (Nat × Nat × Nat × Nat × Nat) := [(200, 7149, 1012, 7147, 7148), (201, 7153, 1012, 7151, 7152), (202, 7160, 1012, 7158, 7159)]
theorem jwm_35_ok : jwm_35.all jmy = true := by decide +kernel
def jwm_36 : List (Nat × Nat × Nat × Nat × Nat) := [(203, 7164, 1012, 7162, 7163), (204, 0, 0, 0, 0)]
theorem jwm_36_ok : jwm_36.all jmy = true := by decide +kernel
def jwm : List (Nat × Nat × Nat × Nat × Nat) := jwm_0 ++ jwm_1 ++ jwm_2 ++ jwm_3 ++ jwm_4 ++ jwm_5 ++ jwm_6 ++ jwm_7 ++ jwm_8 ++ jwm_9 ++ jwm_10 ++ jwm_11 ++ jwm_12 ++ jwm_13 ++ jwm_14 ++ jwm_15 ++ jwm_16 ++ jwm_17 ++ jwm_18 ++ jwm_19 ++ jwm_20 ++ jwm_21 ++ jwm_22 ++ jwm_23 ++ jwm_24 ++ jwm_25 ++ jwm_26 ++ jwm_27 ++ jwm_28 ++ jwm_29 ++ jwm_30 ++ jwm_31 ++ jwm_32 ++ jwm_33 ++ jwm_34 ++ jwm_35 ++ jwm_36
theorem jwm_ok : jwm.all jmy = true := by
  unfold jwm
  simp only [List.all_append, jwm_0_ok, jwm_1_ok, jwm_2_ok, jwm_3_ok, jwm_4_ok, jwm_5_ok, jwm_6_ok, jwm_7_ok, jwm_8_ok, jwm_9_ok, jwm_10_ok, jwm_11_ok, jwm_12_ok, jwm_13_ok, jwm_14_ok, jwm_15_ok, jwm_16_ok, jwm_17_ok, jwm_18_ok, jwm_19_ok, jwm_20_ok, jwm_21_ok, jwm_22_ok, jwm_23_ok, jwm_24_ok, jwm_25_ok, jwm_26_ok, jwm_27_ok, jwm_28_ok, jwm_29_ok, jwm_30_ok, jwm_31_ok, jwm_32_ok, jwm_33_ok, jwm_34_ok, jwm_35_ok, jwm_36_ok, Bool.and_true]
theorem jwm_keys : jwm.map (fun e => e.1) = List.range 205 := by decide +kernel
theorem jwm_at {j : Nat} (h : j < 205) : ∃ e : Nat × Nat × Nat × Nat × Nat, e.1 = j ∧ jm1 e = true ∧ jy1 e = true := by
  have h1 : j ∈ jwm.map (fun e => e.1) := by rw [jwm_keys]; exact List.mem_range.mpr h
  obtain ⟨e, he, h2⟩ := List.mem_map.mp h1
  have h3 := List.all_eq_true.mp jwm_ok e he
  unfold jmy at h3
  rw [Bool.and_eq_true] at h3
  exact ⟨e, h2, h3⟩
