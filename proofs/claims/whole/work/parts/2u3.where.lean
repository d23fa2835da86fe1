/-! printed by facts.py: where the words of fields, new objects, arrays, statics, constants stand; the checks -/
def jty (c k : Nat) : FieldType := (parseFieldDescriptor (jfT c k).2.2.1).getD .int
def jlay (e : Nat × Nat × Nat) : Bool := jat e.2.2 (u_lay (jcn e.1) (jfT e.1) e.2.1) && decide (parseFieldDescriptor (jfT e.1 e.2.1).2.2.1 = some (jty e.1 e.2.1))
def jg1 (e : Nat × Nat × Nat) : Bool := match jlk (jtFl e.1) e.2.1 with
  | some (c, f, kd, fin) => Nat.blt c 16 && (Nat.blt f (jfl c).length && (decide ((jfT c f).1 = jcn c) && (jkf kd (jty c f) &&
    (bif fin then ((jfT c f).2.2.2 && (Nat.beq c e.1 && jat e.2.2 (.fieldLink (jcn e.1) e.2.1 (jcn c) (jfT c f).2.1 (jfT c f).2.2.1)))
     else ((!(jfT c f).2.2.2 || Nat.beq kd 4) && (jat e.2.2 (.fieldLink (jcn e.1) e.2.1 (jcn c) (jfT c f).2.1 (jfT c f).2.2.1) || jatN e.2.2 (.fieldLinkNest (jcn e.1) e.2.1 (jcn c) (jfT c f).2.1 (jfT c f).2.2.1 (jho e.1))))))))
  | none => false
def jn1 (e : Nat × Nat × Nat × Nat × Nat) : Bool := match jlk (jtNl e.1) e.2.1 with
  | some (c, fs) => Nat.blt c 16 && (jat e.2.2.1 (.classLink (jcn e.1) e.2.1 (jcn c)) && (jat e.2.2.2.1 (.instantiable (jcn c) (jfl c).length) && (jat e.2.2.2.2 (.initialized (jcn c)) && (Nat.beq fs.length (jfl c).length && ((List.range (jfl c).length).all (fun k => decide (defaultValue (jty c k) = vp_V fs k)) && fs.all jpl)))))
  | none => false
def ja1 (e : Nat × Nat × Nat) : Bool := match jlk (jtAl e.1) e.2.1 with
  | some (c + 2) => Nat.blt c 16 && (decide (c + 2 ∈ jka) && (jat e.2.2 (.classLink (jcn e.1) e.2.1 (jcn c)) && decide (jcn c ∈ jao.1)))
  | _ => false
def js3 (e : Nat × Nat × Nat) : Bool := match jlk (jtSl e.1) e.2.1 with
  | some 1 => jat e.2.2 (.fieldLink (jcn e.1) e.2.1 "StrandRuntime" "TAKES" "[I") || jatN e.2.2 (.fieldLinkNest (jcn e.1) e.2.1 "StrandRuntime" "TAKES" "[I" "StrandRuntime")
  | some 2 => jat e.2.2 (.fieldLink (jcn e.1) e.2.1 "StrandRuntime" "PUSHES" "[I") || jatN e.2.2 (.fieldLinkNest (jcn e.1) e.2.1 "StrandRuntime" "PUSHES" "[I" "StrandRuntime")
  | _ => false
def jl1 (e : Nat × Nat × Nat) : Bool := match jlk (jtLl e.1) e.2.1 with
  | some v => jat e.2.2 (.constantLong (jcn e.1) e.2.1 v)
  | none => false
def jwl_0 : List (Nat × Nat × Nat) := [(0, 0, 1051), (0, 1, 1053), (0, 2, 1055), (0, 3, 1057), (0, 4, 1059), (0, 5, 1061), (0, 6, 1063), (0, 7, 1065), (1, 0, 1092), (1, 1, 1094), (1, 2, 1096), (2, 0, 1125), (2, 1, 1127), (2, 2, 1129), (2, 3, 1131), (2, 4, 1133), (2, 5, 1135), (2, 6, 1137), (2, 7, 1139), (3, 0, 1172), (3, 1, 1174), (3, 2, 1176), (3, 3, 1178), (3, 4, 1180), (3, 5, 1182)]
theorem jwl_0_ok : jwl_0.all jlay = true := by decide +kernel
def jwl_1 : List (Nat × Nat × Nat) := [(3, 6, 1184), (3, 7, 1186), (3, 8, 1188), (4, 0, 1214), (4, 1, 1216), (4, 2, 1218), (4, 3, 1220), (4, 4, 1222), (5, 0, 2016), (5, 1, 2018), (5, 2, 2020), (5, 3, 2022), (5, 4, 2024), (5, 5, 2026), (5, 6, 2028), (5, 7, 2030), (5, 8, 2032), (5, 9, 2034), (5, 10, 2036), (5, 11, 2038), (5, 12, 2040), (5, 13, 2042), (6, 0, 2058), (6, 1, 2060), (6, 2, 2062)]
theorem jwl_1_ok : jwl_1.all jlay = true := by decide +kernel
def jwl_2 : List (Nat × Nat × Nat) := [(6, 3, 2064), (6, 4, 2066), (6, 5, 2068), (6, 6, 2070), (7, 0, 2087), (7, 1, 2089), (8, 0, 2108), (8, 1, 2110), (8, 2, 2112), (8, 3, 2114), (8, 4, 2116), (8, 5, 2118), (8, 6, 2120), (8, 7, 2122), (8, 8, 2124), (8, 9, 2126), (8, 10, 2128), (9, 0, 2136), (9, 1, 2138), (9, 2, 2140), (9, 3, 2142), (9, 4, 2144), (10, 0, 3214), (10, 1, 3216), (10, 2, 3218)]
theorem jwl_2_ok : jwl_2.all jlay = true := by decide +kernel
def jwl_3 : List (Nat × Nat × Nat) := [(10, 3, 3220), (10, 4, 3222), (10, 5, 3224), (10, 6, 3226), (10, 7, 3228), (11, 0, 4131), (11, 1, 4133), (11, 2, 4135), (11, 3, 4137), (11, 4, 4139), (12, 0, 5159), (12, 1, 5161), (12, 2, 5163), (12, 3, 5165), (12, 4, 5167), (12, 5, 5169), (12, 6, 5171), (12, 7, 5173), (13, 0, 5189), (13, 1, 5191), (13, 2, 5193), (13, 3, 5195), (13, 4, 5197), (14, 0, 5229), (14, 1, 5231)]
theorem jwl_3_ok : jwl_3.all jlay = true := by decide +kernel
def jwl_4 : List (Nat × Nat × Nat) := [(14, 2, 5233), (14, 3, 5235), (14, 4, 5237), (14, 5, 5239), (14, 6, 6001), (14, 7, 6003), (14, 8, 6005), (14, 9, 6007), (14, 10, 6009), (14, 11, 6011), (14, 12, 6013), (14, 13, 6015), (14, 14, 6017), (14, 15, 6019), (15, 0, 6063), (15, 1, 6065), (15, 2, 6067), (15, 3, 6069), (15, 4, 6071), (15, 5, 6073), (15, 6, 6075), (15, 7, 6077), (15, 8, 6079), (15, 9, 6081), (15, 10, 6083)]
theorem jwl_4_ok : jwl_4.all jlay = true := by decide +kernel
def jwl_5 : List (Nat × Nat × Nat) := [(15, 11, 6085), (15, 12, 6087), (15, 13, 6089), (15, 14, 6091), (15, 15, 6093), (15, 16, 6095), (15, 17, 6097), (15, 18, 6099), (15, 19, 6101), (15, 20, 6103), (15, 21, 6105), (15, 22, 6107), (15, 23, 6109), (15, 24, 6111), (15, 25, 6113), (15, 26, 6115), (15, 27, 6117), (15, 28, 6119), (15, 29, 6121), (15, 30, 6123), (15, 31, 6125), (15, 32, 6127), (15, 33, 6129), (15, 34, 6131), (15, 35, 6133)]
theorem jwl_5_ok : jwl_5.all jlay = true := by decide +kernel
def jwl_6 : List (Nat × Nat × Nat) := [(15, 36, 6135), (15, 37, 6137), (15, 38, 6139), (15, 39, 6141), (15, 40, 6143)]
theorem jwl_6_ok : jwl_6.all jlay = true := by decide +kernel
def jwl : List (Nat × Nat × Nat) := jwl_0 ++ jwl_1 ++ jwl_2 ++ jwl_3 ++ jwl_4 ++ jwl_5 ++ jwl_6
theorem jwl_ok : jwl.all jlay = true := by
  unfold jwl
  simp only [List.all_append, jwl_0_ok, jwl_1_ok, jwl_2_ok, jwl_3_ok, jwl_4_ok, jwl_5_ok, jwl_6_ok, Bool.and_true]
theorem jwl_keys : jwl.map (fun e => (e.1, e.2.1)) = (List.range 16).flatMap (fun c => (List.range (jfl c).length).map fun k => (c, k)) := by decide +kernel
def jwf_0 : List (Nat × Nat × Nat) := [(0, 9, 1039), (0, 15, 1040), (0, 18, 1041), (0, 21, 1042), (0, 24, 1043), (0, 27, 1045), (0, 30, 1047), (0, 34, 1049), (0, 37, 3206), (0, 42, 3210), (1, 9, 1081), (1, 15, 1082), (1, 19, 1085), (2, 11, 1112), (2, 17, 1109), (2, 21, 1110), (2, 25, 1114), (2, 28, 1116), (2, 31, 1124), (2, 49, 3189)]
theorem jwf_0_ok : jwf_0.all jg1 = true := by decide +kernel
def jwf_1 : List (Nat × Nat × Nat) := [(2, 72, 3213), (2, 75, 3198), (2, 78, 1089), (2, 85, 3201), (2, 99, 3203), (2, 102, 3196), (2, 109, 3207), (2, 112, 3211), (3, 14, 1154), (3, 22, 1157), (3, 26, 1161), (3, 42, 1162), (3, 46, 1163), (3, 49, 1164), (3, 52, 1167), (3, 55, 1169), (3, 58, 1171), (3, 65, 3193), (3, 82, 1118), (3, 85, 1111)]
theorem jwf_1_ok : jwf_1.all jg1 = true := by decide +kernel
def jwf_2 : List (Nat × Nat × Nat) := [(3, 88, 1122), (3, 91, 1120), (3, 100, 1115), (3, 103, 1113), (3, 107, 3190), (3, 110, 3199), (3, 113, 3204), (4, 9, 1205), (4, 15, 1207), (4, 24, 1208), (4, 28, 1210), (4, 31, 1212), (4, 34, 1088), (4, 39, 1083), (4, 42, 4122), (4, 47, 4127), (4, 48, 4117), (5, 11, 2001), (5, 17, 2002), (5, 24, 2003)]
theorem jwf_2_ok : jwf_2.all jg1 = true := by decide +kernel
def jwf_3 : List (Nat × Nat × Nat) := [(5, 28, 2004), (5, 31, 2005), (5, 34, 2006), (5, 37, 2000), (5, 44, 4121), (5, 48, 2007), (5, 51, 2008), (5, 54, 2010), (5, 57, 2011), (5, 63, 2013), (5, 66, 2015), (5, 89, 2014), (5, 92, 1206), (5, 95, 4128), (5, 124, 1211), (5, 125, 1213), (5, 146, 1209), (6, 9, 2052), (6, 15, 2053), (6, 18, 2054)]
theorem jwf_3_ok : jwf_3.all jg1 = true := by decide +kernel
def jwf_4 : List (Nat × Nat × Nat) := [(6, 21, 2051), (6, 31, 2055), (6, 35, 2056), (6, 40, 2057), (6, 44, 1087), (6, 62, 4116), (6, 82, 4123), (7, 9, 2085), (7, 15, 2086), (7, 19, 1084), (7, 35, 4130), (7, 95, 3194), (7, 105, 1117), (7, 130, 4118), (7, 133, 4125), (7, 147, 1160), (7, 151, 1121), (7, 154, 1123), (8, 9, 2096), (8, 15, 2104)]
theorem jwf_4_ok : jwf_4.all jg1 = true := by decide +kernel
def jwf_5 : List (Nat × Nat × Nat) := [(8, 19, 2106), (8, 22, 2092), (8, 26, 2093), (8, 30, 2094), (8, 39, 2095), (8, 51, 2097), (8, 54, 2098), (8, 57, 2102), (8, 60, 2100), (8, 63, 1155), (8, 90, 1044), (8, 94, 1046), (8, 97, 3209), (8, 102, 1168), (8, 109, 3195), (8, 112, 1090), (8, 139, 1158), (8, 147, 1119), (8, 150, 1165), (8, 243, 3191)]
theorem jwf_5_ok : jwf_5.all jg1 = true := by decide +kernel
def jwf_6 : List (Nat × Nat × Nat) := [(8, 257, 4119), (9, 10, 2131), (9, 21, 2132), (9, 30, 2133), (9, 39, 2134), (9, 48, 2135), (9, 55, 1048), (9, 59, 2101), (9, 69, 1050), (9, 97, 2105), (9, 100, 2107), (9, 113, 1159), (9, 126, 1091), (9, 139, 1156), (9, 143, 2103), (9, 146, 1170), (9, 153, 2099), (9, 156, 1166), (9, 165, 2012), (9, 173, 2009)]
theorem jwf_6_ok : jwf_6.all jg1 = true := by decide +kernel
def jwf_7 : List (Nat × Nat × Nat) := [(10, 14, 3188), (10, 20, 3192), (10, 23, 3197), (10, 26, 3200), (10, 30, 3202), (10, 33, 3205), (10, 37, 3208), (10, 40, 3212), (10, 46, 1086), (11, 14, 4115), (11, 20, 4120), (11, 24, 4124), (11, 31, 4126), (11, 34, 4129), (12, 9, 5155), (12, 15, 5157), (12, 19, 5147), (12, 23, 5149), (13, 11, 5187), (14, 9, 5215)]
theorem jwf_7_ok : jwf_7.all jg1 = true := by decide +kernel
def jwf_8 : List (Nat × Nat × Nat) := [(14, 15, 5217), (14, 18, 5219), (14, 21, 5221), (14, 24, 5223), (14, 28, 5225), (14, 31, 5227), (15, 11, 6022), (15, 17, 6023), (15, 21, 6024), (15, 25, 6025), (15, 28, 6026), (15, 31, 6027), (15, 34, 6028), (15, 37, 6029), (15, 40, 6030), (15, 43, 6031), (15, 47, 6032), (15, 50, 6033), (15, 53, 6034), (15, 56, 6040)]
theorem jwf_8_ok : jwf_8.all jg1 = true := by decide +kernel
def jwf_9 : List (Nat × Nat × Nat) := [(15, 60, 6041), (15, 63, 6053), (15, 66, 6054), (15, 69, 6061), (15, 72, 6062), (15, 77, 5188), (15, 84, 6038), (15, 87, 6047), (15, 90, 5154), (15, 94, 6049), (15, 97, 6048), (15, 104, 6052), (15, 111, 5184), (15, 114, 5206), (15, 117, 5216), (15, 120, 5224), (15, 123, 5208), (15, 126, 5218), (15, 129, 5226), (15, 132, 5209)]
theorem jwf_9_ok : jwf_9.all jg1 = true := by decide +kernel
def jwf_10 : List (Nat × Nat × Nat) := [(15, 135, 5220), (15, 138, 5228), (15, 141, 5210), (15, 144, 5213), (15, 147, 5214), (15, 151, 5148), (15, 154, 5150), (15, 157, 5151), (15, 160, 5156), (15, 163, 5158), (15, 169, 5153), (15, 172, 6045), (15, 175, 5207), (15, 178, 5211), (15, 185, 5212), (15, 194, 5222), (15, 201, 5183), (15, 204, 5185), (15, 213, 6037), (15, 228, 5186)]
theorem jwf_10_ok : jwf_10.all jg1 = true := by decide +kernel
def jwf_11 : List (Nat × Nat × Nat) := [(15, 231, 6055), (15, 234, 6056), (15, 256, 6058), (15, 259, 6057), (15, 262, 6059), (15, 269, 6050), (15, 303, 6043), (15, 306, 6042), (15, 309, 6060), (15, 316, 6039), (15, 362, 6046), (15, 372, 6044), (15, 380, 6035), (15, 383, 6051), (15, 386, 6036), (15, 412, 5152)]
theorem jwf_11_ok : jwf_11.all jg1 = true := by decide +kernel
def jwf : List (Nat × Nat × Nat) := jwf_0 ++ jwf_1 ++ jwf_2 ++ jwf_3 ++ jwf_4 ++ jwf_5 ++ jwf_6 ++ jwf_7 ++ jwf_8 ++ jwf_9 ++ jwf_10 ++ jwf_11
theorem jwf_ok : jwf.all jg1 = true := by
  unfold jwf
  simp only [List.all_append, jwf_0_ok, jwf_1_ok, jwf_2_ok, jwf_3_ok, jwf_4_ok, jwf_5_ok, jwf_6_ok, jwf_7_ok, jwf_8_ok, jwf_9_ok, jwf_10_ok, jwf_11_ok, Bool.and_true]
theorem jwf_keys : jwf.map (fun e => (e.1, e.2.1)) = (List.range 18).flatMap (fun o => (jtFl o).map fun q => (o, q.1)) := by decide +kernel
def jwn_0 : List (Nat × Nat × Nat × Nat × Nat) := [(2, 9, 1107, 3181, 1021), (3, 9, 1075, 1076, 1004), (3, 20, 1100, 1102, 1005), (5, 9, 1197, 4108, 1022), (5, 21, 1199, 1200, 1007), (8, 34, 2079, 2080, 1011), (9, 7, 1033, 1034, 1002), (9, 16, 1069, 1070, 1003), (9, 25, 1191, 1192, 1006), (9, 34, 2045, 2046, 1009), (9, 43, 2073, 2074, 1010), (10, 9, 3186, 1076, 1004), (11, 9, 4113, 1076, 1004), (15, 9, 5138, 5142, 1013), (15, 15, 5140, 5176, 1014), (15, 81, 5200, 5201, 1015), (16, 8, 1025, 1026, 1001), (16, 50, 5132, 5133, 1012)]
theorem jwn_0_ok : jwn_0.all jn1 = true := by decide +kernel
def jwn : List (Nat × Nat × Nat × Nat × Nat) := jwn_0
theorem jwn_ok : jwn.all jn1 = true := by
  unfold jwn
  simp only [List.all_append, jwn_0_ok, Bool.and_true]
theorem jwn_keys : jwn.map (fun e => (e.1, e.2.1)) = (List.range 18).flatMap (fun o => (jtNl o).map fun q => (o, q.1)) := by decide +kernel
def jwa_0 : List (Nat × Nat × Nat) := [(2, 9, 1107), (3, 20, 1100), (5, 9, 1197), (13, 9, 5181), (15, 9, 5138), (15, 15, 5140)]
theorem jwa_0_ok : jwa_0.all ja1 = true := by decide +kernel
def jwa : List (Nat × Nat × Nat) := jwa_0
theorem jwa_ok : jwa.all ja1 = true := by
  unfold jwa
  simp only [List.all_append, jwa_0_ok, Bool.and_true]
theorem jwa_keys : jwa.map (fun e => (e.1, e.2.1)) = (List.range 18).flatMap (fun o => (jtAl o).map fun q => (o, q.1)) := by decide +kernel
def jwst_0 : List (Nat × Nat × Nat) := [(0, 49, 4054), (8, 117, 4056), (8, 240, 5026)]
theorem jwst_0_ok : jwst_0.all js3 = true := by decide +kernel
def jwst : List (Nat × Nat × Nat) := jwst_0
theorem jwst_ok : jwst.all js3 = true := by
  unfold jwst
  simp only [List.all_append, jwst_0_ok, Bool.and_true]
theorem jwst_keys : jwst.map (fun e => (e.1, e.2.1)) = (List.range 18).flatMap (fun o => (jtSl o).map fun q => (o, q.1)) := by decide +kernel
def jwlo_0 : List (Nat × Nat × Nat) := [(2, 97, 4094), (6, 38, 2182), (6, 80, 2204), (6, 85, 2205), (6, 87, 2206), (6, 89, 2203), (7, 75, 4222), (7, 124, 4237), (15, 192, 6220), (15, 211, 7001), (15, 284, 7080), (15, 297, 7002), (15, 378, 7043), (15, 415, 7154), (15, 417, 7155), (15, 419, 7156)]
theorem jwlo_0_ok : jwlo_0.all jl1 = true := by decide +kernel
def jwlo : List (Nat × Nat × Nat) := jwlo_0
theorem jwlo_ok : jwlo.all jl1 = true := by
  unfold jwlo
  simp only [List.all_append, jwlo_0_ok, Bool.and_true]
theorem jwlo_keys : jwlo.map (fun e => (e.1, e.2.1)) = (List.range 18).flatMap (fun o => (jtLl o).map fun q => (o, q.1)) := by decide +kernel
def jwi_0 : List (Nat × Nat) := [(0, 1034), (1, 1076), (2, 1102), (3, 1070), (4, 1200), (5, 1192), (6, 2046), (7, 2080), (8, 2074), (9, 1026), (10, 3181), (11, 4108), (12, 5142), (13, 5176), (14, 5201), (15, 5133)]
theorem jwi_0_ok : jwi_0.all (fun e => jat e.2 (.instantiable (jcn e.1) (jfl e.1).length)) = true := by decide +kernel
def jwi : List (Nat × Nat) := jwi_0
theorem jwi_ok : jwi.all (fun e => jat e.2 (.instantiable (jcn e.1) (jfl e.1).length)) = true := by
  unfold jwi
  simp only [List.all_append, jwi_0_ok, Bool.and_true]
theorem jwi_keys : jwi.map (fun e => e.1) = List.range 16 := by decide +kernel
def jwao : List Nat := [1101, 1108, 1198, 5139, 5141, 5182]
theorem jwao_ok : (jwao.zip jao.1).all (fun e => jatW e.1 (.arrayOver (.object e.2))) = true ∧ jwao.length = jao.1.length := by decide +kernel
/-- the words of the exceptions -/
def jjw : List Cond := ([1016, 1017, 1018, 1019, 1020, 1023, 1024, 1030, 1031, 1038, 1067, 1074, 1080, 1098, 1106, 1141, 1190, 1196, 1204, 1224, 2044, 2050, 2072, 2078, 2084, 2091, 2130, 2146, 3025, 3026, 3027, 3035, 3036, 3041, 3042, 3043, 3044, 3045, 3046, 3047, 3048, 3049, 3050, 3051, 3052, 3053, 3054, 3055, 3056, 3057, 3058, 3059, 3060, 3061, 3062, 3063, 3064, 3066, 3067, 3068, 3069, 3070, 3071, 3072, 3073, 3074, 3075, 3076, 3077, 3078, 3079, 3080, 3081, 3082, 3083, 3085, 3086, 3088, 3089, 3091, 3093, 3094, 3095, 3096, 3097, 3098, 3099, 3100, 3101, 3102, 3103, 3104, 3105, 3106, 3107, 3108, 3109, 3110, 3111, 3112, 3113, 3114, 3116, 3117, 3118, 3185, 3230, 4112, 4141, 5064, 5069, 5070, 5071, 5072, 5073, 5074, 5075, 5076, 5077, 5078, 5079, 5081, 5082, 5083, 5137, 5146, 5175, 5180, 5199, 5205, 6021, 6145, 7129, 7165, 1032, 3065, 3076, 3084, 3087, 3090, 3115, 5080] : List Nat).filterMap fun n => (jsg (n / 1000))[n % 1000]?
theorem jw4 : (jat 1031 (Cond.instanceMethod Lib.objectInit) && (jat 1032 (Cond.code Lib.objectInit ⟨#[0xb1]⟩ 1 none) && (jat 3027 (Cond.native arraycopyName) && (jat 3026 (Cond.static arraycopyName) && (jat 1023 (Cond.initialized "java/lang/System") && (jat 1068 (.arrayClass .int) && jat 1099 (.arrayClass .long))))))) = true := by decide +kernel
theorem jw5 : (jatW 4055 (Cond.laysStatic "StrandRuntime" "TAKES" "[I") && (jatW 4057 (Cond.laysStatic "StrandRuntime" "PUSHES" "[I") && (jatW 1001 (Cond.initialized "StrandRuntime") && (jatW 1016 (Cond.initialized "java/lang/Throwable") && (jatW 3068 (Cond.laysStatic "java/lang/Throwable" "UNASSIGNED_STACK" "[Ljava/lang/StackTraceElement;") && jatW 3070 (Cond.laysStatic "java/lang/Throwable" "SUPPRESSED_SENTINEL" "Ljava/util/List;")))))) = true := by decide +kernel
