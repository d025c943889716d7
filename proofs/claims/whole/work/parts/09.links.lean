theorem F_RX10_10 : ev_F RX10 10 9 0 true := ⟨(RX10, TX10, 9), rfl, by decide, ev_bg (List.mem_of_getElem? (i := 315) (by decide +kernel)) (by decide +kernel), rfl⟩
theorem F_RX10_19 : ev_F RX10 19 9 1 true := ⟨(RX10, TX10, 9), rfl, by decide, ev_bg (List.mem_of_getElem? (i := 316) (by decide +kernel)) (by decide +kernel), rfl⟩
theorem F_RX10_28 : ev_F RX10 28 9 2 true := ⟨(RX10, TX10, 9), rfl, by decide, ev_bg (List.mem_of_getElem? (i := 317) (by decide +kernel)) (by decide +kernel), rfl⟩
theorem F_RX10_35 : ev_F RX10 35 9 3 true := ⟨(RX10, TX10, 9), rfl, by decide, ev_bg (List.mem_of_getElem? (i := 318) (by decide +kernel)) (by decide +kernel), rfl⟩
theorem F_RX10_42 : ev_F RX10 42 9 4 true := ⟨(RX10, TX10, 9), rfl, by decide, ev_bg (List.mem_of_getElem? (i := 319) (by decide +kernel)) (by decide +kernel), rfl⟩
theorem F_RX10_49 : ev_F RX10 49 9 5 true := ⟨(RX10, TX10, 9), rfl, by decide, ev_bg (List.mem_of_getElem? (i := 320) (by decide +kernel)) (by decide +kernel), rfl⟩
theorem F_RX10_56 : ev_F RX10 56 9 6 true := ⟨(RX10, TX10, 9), rfl, by decide, ev_bg (List.mem_of_getElem? (i := 321) (by decide +kernel)) (by decide +kernel), rfl⟩
theorem F_RX10_63 : ev_F RX10 63 9 7 true := ⟨(RX10, TX10, 9), rfl, by decide, ev_bg (List.mem_of_getElem? (i := 322) (by decide +kernel)) (by decide +kernel), rfl⟩
theorem F_RX10_70 : ev_F RX10 70 9 8 true := ⟨(RX10, TX10, 9), rfl, by decide, ev_bg (List.mem_of_getElem? (i := 323) (by decide +kernel)) (by decide +kernel), rfl⟩
theorem F_RX10_123 : ev_F RX10 123 1 0 false := ⟨(RX1, TX1, 3), rfl, by decide, ev_bg (List.mem_of_getElem? (i := 122) (by decide +kernel)) (by decide +kernel), rfl⟩
theorem F_RX10_212 : ev_F RX10 212 1 1 false := ⟨(RX1, TX1, 3), rfl, by decide, ev_bg (List.mem_of_getElem? (i := 128) (by decide +kernel)) (by decide +kernel), rfl⟩
theorem F_RX10_216 : ev_F RX10 216 1 2 false := ⟨(RX1, TX1, 3), rfl, by decide, ev_bg (List.mem_of_getElem? (i := 132) (by decide +kernel)) (by decide +kernel), rfl⟩
theorem F_RX0_11 : ev_F RX0 11 0 0 true := ⟨(RX0, TX0, 9), rfl, by decide, ev_bg (List.mem_of_getElem? (i := 204) (by decide +kernel)) (by decide +kernel), rfl⟩
theorem F_RX0_20 : ev_F RX0 20 0 1 true := ⟨(RX0, TX0, 9), rfl, by decide, ev_bg (List.mem_of_getElem? (i := 205) (by decide +kernel)) (by decide +kernel), rfl⟩
theorem F_RX0_27 : ev_F RX0 27 0 2 true := ⟨(RX0, TX0, 9), rfl, by decide, ev_bg (List.mem_of_getElem? (i := 206) (by decide +kernel)) (by decide +kernel), rfl⟩
theorem F_RX0_31 : ev_F RX0 31 0 3 true := ⟨(RX0, TX0, 9), rfl, by decide, ev_bg (List.mem_of_getElem? (i := 207) (by decide +kernel)) (by decide +kernel), rfl⟩
theorem F_RX0_34 : ev_F RX0 34 0 4 false := ⟨(RX0, TX0, 9), rfl, by decide, ev_bg (List.mem_of_getElem? (i := 208) (by decide +kernel)) (by decide +kernel), rfl⟩
theorem F_RX0_38 : ev_F RX0 38 0 5 false := ⟨(RX0, TX0, 9), rfl, by decide, ev_bg (List.mem_of_getElem? (i := 209) (by decide +kernel)) (by decide +kernel), rfl⟩
theorem F_RX0_41 : ev_F RX0 41 0 6 false := ⟨(RX0, TX0, 9), rfl, by decide, ev_bg (List.mem_of_getElem? (i := 210) (by decide +kernel)) (by decide +kernel), rfl⟩
theorem F_RX0_45 : ev_F RX0 45 0 7 false := ⟨(RX0, TX0, 9), rfl, by decide, ev_bg (List.mem_of_getElem? (i := 211) (by decide +kernel)) (by decide +kernel), rfl⟩
theorem F_RX0_48 : ev_F RX0 48 0 8 false := ⟨(RX0, TX0, 9), rfl, by decide, ev_bg (List.mem_of_getElem? (i := 212) (by decide +kernel)) (by decide +kernel), rfl⟩
theorem F_RX1_7 : ev_F RX1 7 1 0 false := ⟨(RX1, TX1, 3), rfl, by decide, ev_bg (List.mem_of_getElem? (i := 120) (by decide +kernel)) (by decide +kernel), rfl⟩
theorem F_RX1_15 : ev_F RX1 15 1 1 false := ⟨(RX1, TX1, 3), rfl, by decide, ev_bg (List.mem_of_getElem? (i := 125) (by decide +kernel)) (by decide +kernel), rfl⟩
theorem F_RX1_19 : ev_F RX1 19 1 2 false := ⟨(RX1, TX1, 3), rfl, by decide, ev_bg (List.mem_of_getElem? (i := 129) (by decide +kernel)) (by decide +kernel), rfl⟩
theorem F_RX2_13 : ev_F RX2 13 2 0 true := ⟨(RX2, TX2, 4), rfl, by decide, ev_bg (List.mem_of_getElem? (i := 149) (by decide +kernel)) (by decide +kernel), rfl⟩
theorem F_RX2_19 : ev_F RX2 19 2 1 true := ⟨(RX2, TX2, 4), rfl, by decide, ev_bg (List.mem_of_getElem? (i := 150) (by decide +kernel)) (by decide +kernel), rfl⟩
theorem F_RX2_23 : ev_F RX2 23 2 2 true := ⟨(RX2, TX2, 4), rfl, by decide, ev_bg (List.mem_of_getElem? (i := 151) (by decide +kernel)) (by decide +kernel), rfl⟩
theorem F_RX2_26 : ev_F RX2 26 2 3 false := ⟨(RX2, TX2, 4), rfl, by decide, ev_bg (List.mem_of_getElem? (i := 152) (by decide +kernel)) (by decide +kernel), rfl⟩
theorem F_RX2_36 : ev_F RX2 36 1 0 false := ⟨(RX1, TX1, 3), rfl, by decide, ev_bg (List.mem_of_getElem? (i := 121) (by decide +kernel)) (by decide +kernel), rfl⟩
theorem F_RX2_41 : ev_F RX2 41 1 1 false := ⟨(RX1, TX1, 3), rfl, by decide, ev_bg (List.mem_of_getElem? (i := 126) (by decide +kernel)) (by decide +kernel), rfl⟩
theorem F_RX2_45 : ev_F RX2 45 1 2 false := ⟨(RX1, TX1, 3), rfl, by decide, ev_bg (List.mem_of_getElem? (i := 130) (by decide +kernel)) (by decide +kernel), rfl⟩
theorem F_RX3_9 : ev_F RX3 9 3 0 true := ⟨(RX3, TX3, 1), rfl, by decide, ev_bg (List.mem_of_getElem? (i := 189) (by decide +kernel)) (by decide +kernel), rfl⟩
theorem F_RX4_9 : ev_F RX4 9 4 0 true := ⟨(RX4, TX4, 2), rfl, by decide, ev_bg (List.mem_of_getElem? (i := 106) (by decide +kernel)) (by decide +kernel), rfl⟩
theorem F_RX4_15 : ev_F RX4 15 4 1 false := ⟨(RX4, TX4, 2), rfl, by decide, ev_bg (List.mem_of_getElem? (i := 107) (by decide +kernel)) (by decide +kernel), rfl⟩
theorem F_RX4_38 : ev_F RX4 38 1 0 false := ⟨(RX1, TX1, 3), rfl, by decide, ev_bg (List.mem_of_getElem? (i := 124) (by decide +kernel)) (by decide +kernel), rfl⟩
theorem F_RX5_12 : ev_F RX5 12 5 0 true := ⟨(RX5, TX5, 3), rfl, by decide, ev_bg (List.mem_of_getElem? (i := 242) (by decide +kernel)) (by decide +kernel), rfl⟩
theorem F_RX5_23 : ev_F RX5 23 5 1 false := ⟨(RX5, TX5, 3), rfl, by decide, ev_bg (List.mem_of_getElem? (i := 243) (by decide +kernel)) (by decide +kernel), rfl⟩
theorem F_RX5_27 : ev_F RX5 27 5 2 false := ⟨(RX5, TX5, 3), rfl, by decide, ev_bg (List.mem_of_getElem? (i := 244) (by decide +kernel)) (by decide +kernel), rfl⟩
theorem F_RX6_12 : ev_F RX6 12 6 0 true := ⟨(RX6, TX6, 4), rfl, by decide, ev_bg (List.mem_of_getElem? (i := 302) (by decide +kernel)) (by decide +kernel), rfl⟩
theorem F_RX6_21 : ev_F RX6 21 6 1 true := ⟨(RX6, TX6, 4), rfl, by decide, ev_bg (List.mem_of_getElem? (i := 303) (by decide +kernel)) (by decide +kernel), rfl⟩
theorem F_RX6_30 : ev_F RX6 30 6 2 true := ⟨(RX6, TX6, 4), rfl, by decide, ev_bg (List.mem_of_getElem? (i := 304) (by decide +kernel)) (by decide +kernel), rfl⟩
theorem F_RX6_34 : ev_F RX6 34 6 3 false := ⟨(RX6, TX6, 4), rfl, by decide, ev_bg (List.mem_of_getElem? (i := 305) (by decide +kernel)) (by decide +kernel), rfl⟩
theorem F_RX7_9 : ev_F RX7 9 7 0 true := ⟨(RX7, TX7, 8), rfl, by decide, ev_bg (List.mem_of_getElem? (i := 264) (by decide +kernel)) (by decide +kernel), rfl⟩
theorem F_RX7_18 : ev_F RX7 18 7 1 true := ⟨(RX7, TX7, 8), rfl, by decide, ev_bg (List.mem_of_getElem? (i := 265) (by decide +kernel)) (by decide +kernel), rfl⟩
theorem F_RX7_27 : ev_F RX7 27 7 2 true := ⟨(RX7, TX7, 8), rfl, by decide, ev_bg (List.mem_of_getElem? (i := 266) (by decide +kernel)) (by decide +kernel), rfl⟩
theorem F_RX7_34 : ev_F RX7 34 7 3 true := ⟨(RX7, TX7, 8), rfl, by decide, ev_bg (List.mem_of_getElem? (i := 267) (by decide +kernel)) (by decide +kernel), rfl⟩
theorem F_RX7_38 : ev_F RX7 38 7 4 false := ⟨(RX7, TX7, 8), rfl, by decide, ev_bg (List.mem_of_getElem? (i := 268) (by decide +kernel)) (by decide +kernel), rfl⟩
theorem F_RX7_42 : ev_F RX7 42 7 5 false := ⟨(RX7, TX7, 8), rfl, by decide, ev_bg (List.mem_of_getElem? (i := 269) (by decide +kernel)) (by decide +kernel), rfl⟩
theorem F_RX7_45 : ev_F RX7 45 7 6 false := ⟨(RX7, TX7, 8), rfl, by decide, ev_bg (List.mem_of_getElem? (i := 270) (by decide +kernel)) (by decide +kernel), rfl⟩
theorem F_RX7_49 : ev_F RX7 49 7 7 false := ⟨(RX7, TX7, 8), rfl, by decide, ev_bg (List.mem_of_getElem? (i := 271) (by decide +kernel)) (by decide +kernel), rfl⟩
theorem F_RX7_82 : ev_F RX7 82 1 0 false := ⟨(RX1, TX1, 3), rfl, by decide, ev_bg (List.mem_of_getElem? (i := 123) (by decide +kernel)) (by decide +kernel), rfl⟩
theorem F_RX7_89 : ev_F RX7 89 1 1 false := ⟨(RX1, TX1, 3), rfl, by decide, ev_bg (List.mem_of_getElem? (i := 127) (by decide +kernel)) (by decide +kernel), rfl⟩
theorem F_RX7_93 : ev_F RX7 93 1 2 false := ⟨(RX1, TX1, 3), rfl, by decide, ev_bg (List.mem_of_getElem? (i := 131) (by decide +kernel)) (by decide +kernel), rfl⟩
theorem F_RX8_14 : ev_F RX8 14 8 0 true := ⟨(RX8, TX8, 3), rfl, by decide, ev_bg (List.mem_of_getElem? (i := 173) (by decide +kernel)) (by decide +kernel), rfl⟩
theorem F_RX8_20 : ev_F RX8 20 8 1 true := ⟨(RX8, TX8, 3), rfl, by decide, ev_bg (List.mem_of_getElem? (i := 174) (by decide +kernel)) (by decide +kernel), rfl⟩
theorem F_RX8_27 : ev_F RX8 27 8 2 true := ⟨(RX8, TX8, 3), rfl, by decide, ev_bg (List.mem_of_getElem? (i := 175) (by decide +kernel)) (by decide +kernel), rfl⟩
theorem F_RX11_7 : ev_F RX11 7 10 1 true := ⟨(RX11, TX11, 56), rfl, by decide, ev_bg (List.mem_of_getElem? (i := 1251) (by decide +kernel)) (by decide +kernel), rfl⟩
theorem F_RX11_13 : ev_F RX11 13 10 7 true := ⟨(RX11, TX11, 56), rfl, by decide, ev_bg (List.mem_of_getElem? (i := 1257) (by decide +kernel)) (by decide +kernel), rfl⟩
theorem F_RX11_16 : ev_F RX11 16 10 8 true := ⟨(RX11, TX11, 56), rfl, by decide, ev_bg (List.mem_of_getElem? (i := 1258) (by decide +kernel)) (by decide +kernel), rfl⟩
theorem F_RX11_19 : ev_F RX11 19 10 9 true := ⟨(RX11, TX11, 56), rfl, by decide, ev_bg (List.mem_of_getElem? (i := 1259) (by decide +kernel)) (by decide +kernel), rfl⟩
theorem F_RX11_23 : ev_F RX11 23 10 10 true := ⟨(RX11, TX11, 56), rfl, by decide, ev_bg (List.mem_of_getElem? (i := 1260) (by decide +kernel)) (by decide +kernel), rfl⟩
theorem F_RX11_26 : ev_F RX11 26 10 15 true := ⟨(RX11, TX11, 56), rfl, by decide, ev_bg (List.mem_of_getElem? (i := 1265) (by decide +kernel)) (by decide +kernel), rfl⟩
theorem F_RX11_29 : ev_F RX11 29 10 16 true := ⟨(RX11, TX11, 56), rfl, by decide, ev_bg (List.mem_of_getElem? (i := 1266) (by decide +kernel)) (by decide +kernel), rfl⟩
theorem F_RX11_32 : ev_F RX11 32 10 17 true := ⟨(RX11, TX11, 56), rfl, by decide, ev_bg (List.mem_of_getElem? (i := 1267) (by decide +kernel)) (by decide +kernel), rfl⟩
theorem F_RX11_35 : ev_F RX11 35 10 18 true := ⟨(RX11, TX11, 56), rfl, by decide, ev_bg (List.mem_of_getElem? (i := 1268) (by decide +kernel)) (by decide +kernel), rfl⟩
theorem F_RX11_38 : ev_F RX11 38 10 19 true := ⟨(RX11, TX11, 56), rfl, by decide, ev_bg (List.mem_of_getElem? (i := 1269) (by decide +kernel)) (by decide +kernel), rfl⟩
theorem F_RX11_41 : ev_F RX11 41 10 21 true := ⟨(RX11, TX11, 56), rfl, by decide, ev_bg (List.mem_of_getElem? (i := 1271) (by decide +kernel)) (by decide +kernel), rfl⟩
theorem F_RX11_44 : ev_F RX11 44 10 22 true := ⟨(RX11, TX11, 56), rfl, by decide, ev_bg (List.mem_of_getElem? (i := 1272) (by decide +kernel)) (by decide +kernel), rfl⟩
theorem F_RX11_47 : ev_F RX11 47 10 23 true := ⟨(RX11, TX11, 56), rfl, by decide, ev_bg (List.mem_of_getElem? (i := 1273) (by decide +kernel)) (by decide +kernel), rfl⟩
theorem F_RX11_50 : ev_F RX11 50 10 24 true := ⟨(RX11, TX11, 56), rfl, by decide, ev_bg (List.mem_of_getElem? (i := 1274) (by decide +kernel)) (by decide +kernel), rfl⟩
theorem F_RX11_53 : ev_F RX11 53 10 25 true := ⟨(RX11, TX11, 56), rfl, by decide, ev_bg (List.mem_of_getElem? (i := 1275) (by decide +kernel)) (by decide +kernel), rfl⟩
theorem F_RX11_56 : ev_F RX11 56 10 26 true := ⟨(RX11, TX11, 56), rfl, by decide, ev_bg (List.mem_of_getElem? (i := 1276) (by decide +kernel)) (by decide +kernel), rfl⟩
theorem F_RX11_59 : ev_F RX11 59 10 27 true := ⟨(RX11, TX11, 56), rfl, by decide, ev_bg (List.mem_of_getElem? (i := 1277) (by decide +kernel)) (by decide +kernel), rfl⟩
theorem F_RX11_62 : ev_F RX11 62 10 32 true := ⟨(RX11, TX11, 56), rfl, by decide, ev_bg (List.mem_of_getElem? (i := 1282) (by decide +kernel)) (by decide +kernel), rfl⟩
theorem F_RX11_65 : ev_F RX11 65 10 33 true := ⟨(RX11, TX11, 56), rfl, by decide, ev_bg (List.mem_of_getElem? (i := 1283) (by decide +kernel)) (by decide +kernel), rfl⟩
theorem F_RX11_68 : ev_F RX11 68 10 34 true := ⟨(RX11, TX11, 56), rfl, by decide, ev_bg (List.mem_of_getElem? (i := 1284) (by decide +kernel)) (by decide +kernel), rfl⟩
theorem F_RX11_71 : ev_F RX11 71 10 35 true := ⟨(RX11, TX11, 56), rfl, by decide, ev_bg (List.mem_of_getElem? (i := 1285) (by decide +kernel)) (by decide +kernel), rfl⟩
theorem F_RX11_74 : ev_F RX11 74 10 37 true := ⟨(RX11, TX11, 56), rfl, by decide, ev_bg (List.mem_of_getElem? (i := 1287) (by decide +kernel)) (by decide +kernel), rfl⟩
theorem F_RX11_78 : ev_F RX11 78 10 38 true := ⟨(RX11, TX11, 56), rfl, by decide, ev_bg (List.mem_of_getElem? (i := 1288) (by decide +kernel)) (by decide +kernel), rfl⟩
theorem F_RX11_81 : ev_F RX11 81 10 39 true := ⟨(RX11, TX11, 56), rfl, by decide, ev_bg (List.mem_of_getElem? (i := 1289) (by decide +kernel)) (by decide +kernel), rfl⟩
theorem F_RX11_84 : ev_F RX11 84 10 40 true := ⟨(RX11, TX11, 56), rfl, by decide, ev_bg (List.mem_of_getElem? (i := 1290) (by decide +kernel)) (by decide +kernel), rfl⟩
theorem F_RX11_87 : ev_F RX11 87 10 41 true := ⟨(RX11, TX11, 56), rfl, by decide, ev_bg (List.mem_of_getElem? (i := 1291) (by decide +kernel)) (by decide +kernel), rfl⟩
theorem F_RX11_90 : ev_F RX11 90 10 45 false := ⟨(RX11, TX11, 56), rfl, by decide, ev_bg (List.mem_of_getElem? (i := 1295) (by decide +kernel)) (by decide +kernel), rfl⟩
theorem F_RX11_94 : ev_F RX11 94 10 46 true := ⟨(RX11, TX11, 56), rfl, by decide, ev_bg (List.mem_of_getElem? (i := 1296) (by decide +kernel)) (by decide +kernel), rfl⟩
theorem F_RX11_97 : ev_F RX11 97 10 47 true := ⟨(RX11, TX11, 56), rfl, by decide, ev_bg (List.mem_of_getElem? (i := 1297) (by decide +kernel)) (by decide +kernel), rfl⟩
theorem F_RX11_100 : ev_F RX11 100 10 48 true := ⟨(RX11, TX11, 56), rfl, by decide, ev_bg (List.mem_of_getElem? (i := 1298) (by decide +kernel)) (by decide +kernel), rfl⟩
theorem F_RX11_103 : ev_F RX11 103 10 49 true := ⟨(RX11, TX11, 56), rfl, by decide, ev_bg (List.mem_of_getElem? (i := 1299) (by decide +kernel)) (by decide +kernel), rfl⟩
theorem F_RX11_106 : ev_F RX11 106 10 0 false := ⟨(RX11, TX11, 56), rfl, by decide, ev_bg (List.mem_of_getElem? (i := 1250) (by decide +kernel)) (by decide +kernel), rfl⟩
theorem F_RX11_123 : ev_F RX11 123 10 2 false := ⟨(RX11, TX11, 56), rfl, by decide, ev_bg (List.mem_of_getElem? (i := 1252) (by decide +kernel)) (by decide +kernel), rfl⟩
theorem F_RX11_126 : ev_F RX11 126 10 30 false := ⟨(RX11, TX11, 56), rfl, by decide, ev_bg (List.mem_of_getElem? (i := 1280) (by decide +kernel)) (by decide +kernel), rfl⟩
theorem F_RX11_159 : ev_F RX11 159 10 5 false := ⟨(RX11, TX11, 56), rfl, by decide, ev_bg (List.mem_of_getElem? (i := 1255) (by decide +kernel)) (by decide +kernel), rfl⟩
theorem F_RX11_163 : ev_F RX11 163 10 6 false := ⟨(RX11, TX11, 56), rfl, by decide, ev_bg (List.mem_of_getElem? (i := 1256) (by decide +kernel)) (by decide +kernel), rfl⟩
theorem F_RX11_166 : ev_F RX11 166 10 4 false := ⟨(RX11, TX11, 56), rfl, by decide, ev_bg (List.mem_of_getElem? (i := 1254) (by decide +kernel)) (by decide +kernel), rfl⟩
theorem F_RX11_169 : ev_F RX11 169 10 3 false := ⟨(RX11, TX11, 56), rfl, by decide, ev_bg (List.mem_of_getElem? (i := 1253) (by decide +kernel)) (by decide +kernel), rfl⟩
theorem F_RX11_179 : ev_F RX11 179 10 11 false := ⟨(RX11, TX11, 56), rfl, by decide, ev_bg (List.mem_of_getElem? (i := 1261) (by decide +kernel)) (by decide +kernel), rfl⟩
theorem F_RX11_182 : ev_F RX11 182 10 13 false := ⟨(RX11, TX11, 56), rfl, by decide, ev_bg (List.mem_of_getElem? (i := 1263) (by decide +kernel)) (by decide +kernel), rfl⟩
theorem F_RX11_185 : ev_F RX11 185 10 14 false := ⟨(RX11, TX11, 56), rfl, by decide, ev_bg (List.mem_of_getElem? (i := 1264) (by decide +kernel)) (by decide +kernel), rfl⟩
theorem F_RX11_191 : ev_F RX11 191 10 12 false := ⟨(RX11, TX11, 56), rfl, by decide, ev_bg (List.mem_of_getElem? (i := 1262) (by decide +kernel)) (by decide +kernel), rfl⟩
theorem F_RX11_225 : ev_F RX11 225 10 20 false := ⟨(RX11, TX11, 56), rfl, by decide, ev_bg (List.mem_of_getElem? (i := 1270) (by decide +kernel)) (by decide +kernel), rfl⟩
theorem F_RX11_231 : ev_F RX11 231 10 28 false := ⟨(RX11, TX11, 56), rfl, by decide, ev_bg (List.mem_of_getElem? (i := 1278) (by decide +kernel)) (by decide +kernel), rfl⟩
theorem F_RX11_249 : ev_F RX11 249 10 31 false := ⟨(RX11, TX11, 56), rfl, by decide, ev_bg (List.mem_of_getElem? (i := 1281) (by decide +kernel)) (by decide +kernel), rfl⟩
theorem F_RX11_261 : ev_F RX11 261 10 29 false := ⟨(RX11, TX11, 56), rfl, by decide, ev_bg (List.mem_of_getElem? (i := 1279) (by decide +kernel)) (by decide +kernel), rfl⟩
theorem F_RX11_284 : ev_F RX11 284 10 36 false := ⟨(RX11, TX11, 56), rfl, by decide, ev_bg (List.mem_of_getElem? (i := 1286) (by decide +kernel)) (by decide +kernel), rfl⟩
theorem F_RX11_296 : ev_F RX11 296 10 42 false := ⟨(RX11, TX11, 56), rfl, by decide, ev_bg (List.mem_of_getElem? (i := 1292) (by decide +kernel)) (by decide +kernel), rfl⟩
theorem F_RX11_299 : ev_F RX11 299 10 43 false := ⟨(RX11, TX11, 56), rfl, by decide, ev_bg (List.mem_of_getElem? (i := 1293) (by decide +kernel)) (by decide +kernel), rfl⟩
theorem F_RX11_306 : Cond.fieldLink RX11 306 "LossyChannelsModel" "SEND_WORD" "[C" ∈ ev_bw := ev_bg (List.mem_of_getElem? (i := 1728) (by decide +kernel)) (by decide +kernel)
theorem F_RX11_313 : Cond.fieldLink RX11 313 "LossyChannelsModel" "RECV_WORD" "[C" ∈ ev_bw := ev_bg (List.mem_of_getElem? (i := 1734) (by decide +kernel)) (by decide +kernel)
theorem F_RX11_316 : Cond.fieldLink RX11 316 "LossyChannelsModel" "MOVE_WORD" "[C" ∈ ev_bw := ev_bg (List.mem_of_getElem? (i := 1736) (by decide +kernel)) (by decide +kernel)
theorem F_RX11_319 : Cond.fieldLink RX11 319 "LossyChannelsModel" "GOAL_WORD" "[C" ∈ ev_bw := ev_bg (List.mem_of_getElem? (i := 1738) (by decide +kernel)) (by decide +kernel)
theorem F_RX11_322 : ev_F RX11 322 10 44 false := ⟨(RX11, TX11, 56), rfl, by decide, ev_bg (List.mem_of_getElem? (i := 1294) (by decide +kernel)) (by decide +kernel), rfl⟩
theorem F_RX11_346 : ev_F RX11 346 10 55 false := ⟨(RX11, TX11, 56), rfl, by decide, ev_bg (List.mem_of_getElem? (i := 1305) (by decide +kernel)) (by decide +kernel), rfl⟩
theorem F_RX11_349 : ev_F RX11 349 10 50 false := ⟨(RX11, TX11, 56), rfl, by decide, ev_bg (List.mem_of_getElem? (i := 1300) (by decide +kernel)) (by decide +kernel), rfl⟩
theorem F_RX11_352 : ev_F RX11 352 10 51 false := ⟨(RX11, TX11, 56), rfl, by decide, ev_bg (List.mem_of_getElem? (i := 1301) (by decide +kernel)) (by decide +kernel), rfl⟩
theorem F_RX11_355 : ev_F RX11 355 10 52 false := ⟨(RX11, TX11, 56), rfl, by decide, ev_bg (List.mem_of_getElem? (i := 1302) (by decide +kernel)) (by decide +kernel), rfl⟩
theorem F_RX11_358 : ev_F RX11 358 10 53 false := ⟨(RX11, TX11, 56), rfl, by decide, ev_bg (List.mem_of_getElem? (i := 1303) (by decide +kernel)) (by decide +kernel), rfl⟩
theorem F_RX11_361 : ev_F RX11 361 10 54 false := ⟨(RX11, TX11, 56), rfl, by decide, ev_bg (List.mem_of_getElem? (i := 1304) (by decide +kernel)) (by decide +kernel), rfl⟩
theorem F_RJ0_9 : Cond.fieldLink RJ0 9 "java/lang/String" "value" "[B" ∈ ev_bw := ev_bg (List.mem_of_getElem? (i := 1784) (by decide +kernel)) (by decide +kernel)
theorem F_RJ0_15 : Cond.fieldLink RJ0 15 "java/lang/String" "coder" "B" ∈ ev_bw := ev_bg (List.mem_of_getElem? (i := 1785) (by decide +kernel)) (by decide +kernel)
theorem F_RJ0_38 : Cond.fieldLink RJ0 38 "java/lang/String" "COMPACT_STRINGS" "Z" ∈ ev_bw := ev_bg (List.mem_of_getElem? (i := 1146) (by decide +kernel)) (by decide +kernel)
theorem F_RJ0_1053 : Cond.fieldLink RJ0 1053 "jdk/internal/util/Preconditions" "SIOOBE_FORMATTER" "Ljava/util/function/BiFunction;" ∈ ev_bw := ev_bg (List.mem_of_getElem? (i := 1162) (by decide +kernel)) (by decide +kernel)
theorem F_RJ2_44 : Cond.fieldLink RJ2 44 "java/lang/StringUTF16" "$assertionsDisabled" "Z" ∈ ev_bw := ev_bg (List.mem_of_getElem? (i := 1180) (by decide +kernel)) (by decide +kernel)
theorem F_RJ2_59 : Cond.fieldLink RJ2 59 "java/lang/StringUTF16" "HI_BYTE_SHIFT" "I" ∈ ev_bw := ev_bg (List.mem_of_getElem? (i := 1182) (by decide +kernel)) (by decide +kernel)
theorem F_RJ2_63 : Cond.fieldLink RJ2 63 "java/lang/StringUTF16" "LO_BYTE_SHIFT" "I" ∈ ev_bw := ev_bg (List.mem_of_getElem? (i := 1184) (by decide +kernel)) (by decide +kernel)
theorem L_RX10_1 : Cond.methodLink RX10 1 Lib.objectInit ∈ ev_bw := ev_bg (List.mem_of_getElem? (i := 97) (by decide +kernel)) (by decide +kernel)
theorem L_RX10_9 : Cond.methodLink RX10 9 yX4_init ∈ ev_bw := ev_bg (List.mem_of_getElem? (i := 102) (by decide +kernel)) (by decide +kernel)
theorem L_RX10_18 : Cond.methodLink RX10 18 yX1_init ∈ ev_bw := ev_bg (List.mem_of_getElem? (i := 116) (by decide +kernel)) (by decide +kernel)
theorem L_RX10_25 : Cond.methodLink RX10 25 yX2_init ∈ ev_bw := ev_bg (List.mem_of_getElem? (i := 142) (by decide +kernel)) (by decide +kernel)
theorem L_RX10_34 : Cond.methodLink RX10 34 yX8_init ∈ ev_bw := ev_bg (List.mem_of_getElem? (i := 165) (by decide +kernel)) (by decide +kernel)
theorem L_RX10_41 : Cond.methodLink RX10 41 yX3_init ∈ ev_bw := ev_bg (List.mem_of_getElem? (i := 185) (by decide +kernel)) (by decide +kernel)
theorem L_RX10_48 : Cond.methodLink RX10 48 yX0_init ∈ ev_bw := ev_bg (List.mem_of_getElem? (i := 195) (by decide +kernel)) (by decide +kernel)
theorem L_RX10_55 : Cond.methodLink RX10 55 yX5_init ∈ ev_bw := ev_bg (List.mem_of_getElem? (i := 234) (by decide +kernel)) (by decide +kernel)
theorem L_RX10_62 : Cond.methodLink RX10 62 yX7_init ∈ ev_bw := ev_bg (List.mem_of_getElem? (i := 254) (by decide +kernel)) (by decide +kernel)
theorem L_RX10_69 : Cond.methodLink RX10 69 yX6_init ∈ ev_bw := ev_bg (List.mem_of_getElem? (i := 292) (by decide +kernel)) (by decide +kernel)
theorem L_RX10_74 : Cond.methodLink RX10 74 yX10_isState ∈ ev_bw := ev_bg (List.mem_of_getElem? (i := 501) (by decide +kernel)) (by decide +kernel)
theorem L_RX10_85 : Cond.methodLink RX10 85 yX10_isChannel ∈ ev_bw := ev_bg (List.mem_of_getElem? (i := 574) (by decide +kernel)) (by decide +kernel)
theorem L_RX10_88 : Cond.methodLink RX10 88 yX10_isLetter ∈ ev_bw := ev_bg (List.mem_of_getElem? (i := 577) (by decide +kernel)) (by decide +kernel)
theorem L_RX10_93 : Cond.methodLink RX10 93 yX4_count ∈ ev_bw := ev_bg (List.mem_of_getElem? (i := 347) (by decide +kernel)) (by decide +kernel)
theorem L_RX10_102 : Cond.methodLink RX10 102 yX4_add ∈ ev_bw := ev_bg (List.mem_of_getElem? (i := 597) (by decide +kernel)) (by decide +kernel)
theorem L_RX10_106 : Cond.methodLink RX10 106 yX0_discard ∈ ev_bw := ev_bg (List.mem_of_getElem? (i := 446) (by decide +kernel)) (by decide +kernel)
theorem L_RX10_109 : Cond.methodLink RX10 109 yX10_requireTransition ∈ ev_bw := ev_bg (List.mem_of_getElem? (i := 606) (by decide +kernel)) (by decide +kernel)
theorem L_RX10_112 : Cond.methodLink RX10 112 yX4_remove ∈ ev_bw := ev_bg (List.mem_of_getElem? (i := 627) (by decide +kernel)) (by decide +kernel)
theorem L_RX10_117 : Cond.methodLink RX10 117 yX4_part ∈ ev_bw := ev_bg (List.mem_of_getElem? (i := 639) (by decide +kernel)) (by decide +kernel)
theorem L_RX10_127 : Cond.methodLink RX10 127 yX8_forget ∈ ev_bw := ev_bg (List.mem_of_getElem? (i := 648) (by decide +kernel)) (by decide +kernel)
theorem L_RX10_130 : Cond.methodLink RX10 130 yX10_requireChannel ∈ ev_bw := ev_bg (List.mem_of_getElem? (i := 660) (by decide +kernel)) (by decide +kernel)
theorem L_RX10_135 : Cond.methodLink RX10 135 yX1_word ∈ ev_bw := ev_bg (List.mem_of_getElem? (i := 665) (by decide +kernel)) (by decide +kernel)
theorem L_RX10_139 : Cond.methodLink RX10 139 yX9_size ∈ ev_bw := ev_bg (List.mem_of_getElem? (i := 666) (by decide +kernel)) (by decide +kernel)
theorem L_RX10_147 : Cond.methodLink RX10 147 yX9_extend ∈ ev_bw := ev_bg (List.mem_of_getElem? (i := 668) (by decide +kernel)) (by decide +kernel)
theorem L_RX10_151 : Cond.methodLink RX10 151 yX1_setWord ∈ ev_bw := ev_bg (List.mem_of_getElem? (i := 671) (by decide +kernel)) (by decide +kernel)
theorem L_RX10_155 : Cond.methodLink RX10 155 yX10_requireLetter ∈ ev_bw := ev_bg (List.mem_of_getElem? (i := 697) (by decide +kernel)) (by decide +kernel)
theorem L_RX10_159 : Cond.methodLink RX10 159 yX9_at ∈ ev_bw := ev_bg (List.mem_of_getElem? (i := 716) (by decide +kernel)) (by decide +kernel)
theorem L_RX10_163 : Cond.methodLink RX10 163 yX4_firable ∈ ev_bw := ev_bg (List.mem_of_getElem? (i := 359) (by decide +kernel)) (by decide +kernel)
theorem L_RX10_167 : Cond.methodLink RX10 167 yX4_canFire ∈ ev_bw := ev_bg (List.mem_of_getElem? (i := 724) (by decide +kernel)) (by decide +kernel)
theorem L_RX10_173 : Cond.methodLink RX10 173 yX4_overfills ∈ ev_bw := ev_bg (List.mem_of_getElem? (i := 726) (by decide +kernel)) (by decide +kernel)
theorem L_RX10_177 : Cond.methodLink RX10 177 yX8_record ∈ ev_bw := ev_bg (List.mem_of_getElem? (i := 731) (by decide +kernel)) (by decide +kernel)
theorem L_RX10_181 : Cond.methodLink RX10 181 yX4_apply ∈ ev_bw := ev_bg (List.mem_of_getElem? (i := 759) (by decide +kernel)) (by decide +kernel)
theorem L_RX10_185 : Cond.methodLink RX10 185 yX9_without ∈ ev_bw := ev_bg (List.mem_of_getElem? (i := 775) (by decide +kernel)) (by decide +kernel)
theorem L_RX10_188 : Cond.methodLink RX10 188 yX8_steps ∈ ev_bw := ev_bg (List.mem_of_getElem? (i := 785) (by decide +kernel)) (by decide +kernel)
theorem L_RX10_193 : Cond.methodLink RX10 193 yX8_takeBack ∈ ev_bw := ev_bg (List.mem_of_getElem? (i := 790) (by decide +kernel)) (by decide +kernel)
theorem L_RX10_197 : Cond.methodLink RX10 197 yX8_firstIncrease ∈ ev_bw := ev_bg (List.mem_of_getElem? (i := 390) (by decide +kernel)) (by decide +kernel)
theorem L_RX10_200 : Cond.methodLink RX10 200 yX10_other ∈ ev_bw := ev_bg (List.mem_of_getElem? (i := 802) (by decide +kernel)) (by decide +kernel)
theorem L_RX10_204 : Cond.methodLink RX10 204 yX9_below ∈ ev_bw := ev_bg (List.mem_of_getElem? (i := 805) (by decide +kernel)) (by decide +kernel)
theorem L_RX10_208 : Cond.methodLink RX10 208 yX3_places ∈ ev_bw := ev_bg (List.mem_of_getElem? (i := 813) (by decide +kernel)) (by decide +kernel)
theorem L_RX10_219 : Cond.methodLink RX10 219 yX3_longestCommon ∈ ev_bw := ev_bg (List.mem_of_getElem? (i := 421) (by decide +kernel)) (by decide +kernel)
theorem L_RX10_222 : Cond.methodLink RX10 222 yX3_wordsBelow ∈ ev_bw := ev_bg (List.mem_of_getElem? (i := 824) (by decide +kernel)) (by decide +kernel)
theorem L_RX10_225 : Cond.methodLink RX10 225 yX2_size ∈ ev_bw := ev_bg (List.mem_of_getElem? (i := 441) (by decide +kernel)) (by decide +kernel)
theorem L_RX10_229 : Cond.methodLink RX10 229 yX2_add ∈ ev_bw := ev_bg (List.mem_of_getElem? (i := 836) (by decide +kernel)) (by decide +kernel)
theorem L_RX10_232 : Cond.methodLink RX10 232 yX2_removeAll ∈ ev_bw := ev_bg (List.mem_of_getElem? (i := 442) (by decide +kernel)) (by decide +kernel)
theorem L_RX10_235 : Cond.methodLink RX10 235 yX10_requireGoal ∈ ev_bw := ev_bg (List.mem_of_getElem? (i := 845) (by decide +kernel)) (by decide +kernel)
theorem L_RX10_238 : Cond.methodLink RX10 238 yX0_run ∈ ev_bw := ev_bg (List.mem_of_getElem? (i := 865) (by decide +kernel)) (by decide +kernel)
theorem L_RX10_242 : Cond.methodLink RX10 242 yX10_requireCompleteAnalysis ∈ ev_bw := ev_bg (List.mem_of_getElem? (i := 936) (by decide +kernel)) (by decide +kernel)
theorem L_RX10_245 : Cond.methodLink RX10 245 yX0_last ∈ ev_bw := ev_bg (List.mem_of_getElem? (i := 941) (by decide +kernel)) (by decide +kernel)
theorem L_RX10_248 : Cond.methodLink RX10 248 yX10_requireRound ∈ ev_bw := ev_bg (List.mem_of_getElem? (i := 952) (by decide +kernel)) (by decide +kernel)
theorem L_RX10_251 : Cond.methodLink RX10 251 yX0_basisOf ∈ ev_bw := ev_bg (List.mem_of_getElem? (i := 957) (by decide +kernel)) (by decide +kernel)
theorem L_RX10_260 : Cond.methodLink RX10 260 yX2_stateAt ∈ ev_bw := ev_bg (List.mem_of_getElem? (i := 966) (by decide +kernel)) (by decide +kernel)
theorem L_RX10_263 : Cond.methodLink RX10 263 yX2_wordAt ∈ ev_bw := ev_bg (List.mem_of_getElem? (i := 967) (by decide +kernel)) (by decide +kernel)
theorem L_RX10_271 : Cond.methodLink RX10 271 yX0_leastLetters ∈ ev_bw := ev_bg (List.mem_of_getElem? (i := 987) (by decide +kernel)) (by decide +kernel)
theorem L_RX10_274 : Cond.methodLink RX10 274 yX0_distanceFrom ∈ ev_bw := ev_bg (List.mem_of_getElem? (i := 1007) (by decide +kernel)) (by decide +kernel)
theorem L_RX10_277 : Cond.methodLink RX10 277 yX10_requireCoveringFiring ∈ ev_bw := ev_bg (List.mem_of_getElem? (i := 1023) (by decide +kernel)) (by decide +kernel)
theorem L_RX10_280 : Cond.methodLink RX10 280 yX0_walkedTransition ∈ ev_bw := ev_bg (List.mem_of_getElem? (i := 1040) (by decide +kernel)) (by decide +kernel)
theorem L_RX10_283 : Cond.methodLink RX10 283 yX0_walkedLosses ∈ ev_bw := ev_bg (List.mem_of_getElem? (i := 1051) (by decide +kernel)) (by decide +kernel)
theorem L_RX10_288 : Cond.methodLink RX10 288 yX5_lastFirings ∈ ev_bw := ev_bg (List.mem_of_getElem? (i := 1063) (by decide +kernel)) (by decide +kernel)
theorem L_RX10_292 : Cond.methodLink RX10 292 yX4_newStates ∈ ev_bw := ev_bg (List.mem_of_getElem? (i := 1079) (by decide +kernel)) (by decide +kernel)
theorem L_RX10_297 : Cond.methodLink RX10 297 yX7_isFull ∈ ev_bw := ev_bg (List.mem_of_getElem? (i := 1098) (by decide +kernel)) (by decide +kernel)
theorem L_RX10_303 : Cond.methodLink RX10 303 yX7_add ∈ ev_bw := ev_bg (List.mem_of_getElem? (i := 1103) (by decide +kernel)) (by decide +kernel)
theorem L_RX10_306 : Cond.methodLink RX10 306 yX7_parse ∈ ev_bw := ev_bg (List.mem_of_getElem? (i := 1115) (by decide +kernel)) (by decide +kernel)
theorem L_RX10_309 : Cond.methodLink RX10 309 yX7_fault ∈ ev_bw := ev_bg (List.mem_of_getElem? (i := 454) (by decide +kernel)) (by decide +kernel)
theorem L_RX10_314 : Cond.methodLink RX10 314 yX7_transitions ∈ ev_bw := ev_bg (List.mem_of_getElem? (i := 1217) (by decide +kernel)) (by decide +kernel)
theorem L_RX10_318 : Cond.methodLink RX10 318 yX7_goals ∈ ev_bw := ev_bg (List.mem_of_getElem? (i := 1221) (by decide +kernel)) (by decide +kernel)
theorem L_RX10_323 : Cond.methodLink RX10 323 yX4_addAll ∈ ev_bw := ev_bg (List.mem_of_getElem? (i := 1226) (by decide +kernel)) (by decide +kernel)
theorem L_RX10_327 : Cond.methodLink RX10 327 yX2_addAll ∈ ev_bw := ev_bg (List.mem_of_getElem? (i := 1227) (by decide +kernel)) (by decide +kernel)
theorem L_RX10_330 : Cond.methodLink RX10 330 yX6_take ∈ ev_bw := ev_bg (List.mem_of_getElem? (i := 462) (by decide +kernel)) (by decide +kernel)
theorem L_RX10_334 : Cond.methodLink RX10 334 yX6_isTaken ∈ ev_bw := ev_bg (List.mem_of_getElem? (i := 1235) (by decide +kernel)) (by decide +kernel)
theorem L_RX10_339 : Cond.methodLink RX10 339 yX6_putBack ∈ ev_bw := ev_bg (List.mem_of_getElem? (i := 1240) (by decide +kernel)) (by decide +kernel)
theorem L_RX10_344 : Cond.methodLink RX10 344 yX4_has ∈ ev_bw := ev_bg (List.mem_of_getElem? (i := 610) (by decide +kernel)) (by decide +kernel)
theorem L_RX10_361 : Cond.methodLink RX10 361 yX0_walkTo ∈ ev_bw := ev_bg (List.mem_of_getElem? (i := 1027) (by decide +kernel)) (by decide +kernel)
theorem L_RX0_3 : Cond.methodLink RX0 3 Lib.objectInit ∈ ev_bw := ev_bg (List.mem_of_getElem? (i := 198) (by decide +kernel)) (by decide +kernel)
theorem L_RX0_17 : Cond.methodLink RX0 17 yX2_init ∈ ev_bw := ev_bg (List.mem_of_getElem? (i := 201) (by decide +kernel)) (by decide +kernel)
theorem L_RX0_26 : Cond.methodLink RX0 26 yX1_init ∈ ev_bw := ev_bg (List.mem_of_getElem? (i := 203) (by decide +kernel)) (by decide +kernel)
theorem L_RX0_51 : Cond.methodLink RX0 51 yX0_collectGoals ∈ ev_bw := ev_bg (List.mem_of_getElem? (i := 869) (by decide +kernel)) (by decide +kernel)
theorem L_RX0_55 : Cond.methodLink RX0 55 yX2_size ∈ ev_bw := ev_bg (List.mem_of_getElem? (i := 874) (by decide +kernel)) (by decide +kernel)
theorem L_RX0_59 : Cond.methodLink RX0 59 yX0_basisOf ∈ ev_bw := ev_bg (List.mem_of_getElem? (i := 889) (by decide +kernel)) (by decide +kernel)
theorem L_RX0_63 : Cond.methodLink RX0 63 yX2_copyFrom ∈ ev_bw := ev_bg (List.mem_of_getElem? (i := 893) (by decide +kernel)) (by decide +kernel)
theorem L_RX0_66 : Cond.methodLink RX0 66 yX0_addPredecessors ∈ ev_bw := ev_bg (List.mem_of_getElem? (i := 894) (by decide +kernel)) (by decide +kernel)
theorem L_RX0_70 : Cond.methodLink RX0 70 yX2_wordAt ∈ ev_bw := ev_bg (List.mem_of_getElem? (i := 991) (by decide +kernel)) (by decide +kernel)
theorem L_RX0_74 : Cond.methodLink RX0 74 yX9_size ∈ ev_bw := ev_bg (List.mem_of_getElem? (i := 992) (by decide +kernel)) (by decide +kernel)
theorem L_RX0_79 : Cond.methodLink RX0 79 yX2_stateAt ∈ ev_bw := ev_bg (List.mem_of_getElem? (i := 907) (by decide +kernel)) (by decide +kernel)
theorem L_RX0_83 : Cond.methodLink RX0 83 yX0_isCovering ∈ ev_bw := ev_bg (List.mem_of_getElem? (i := 1011) (by decide +kernel)) (by decide +kernel)
theorem L_RX0_87 : Cond.methodLink RX0 87 yX0_distanceFrom ∈ ev_bw := ev_bg (List.mem_of_getElem? (i := 1031) (by decide +kernel)) (by decide +kernel)
theorem L_RX0_91 : Cond.methodLink RX0 91 yX1_copyFrom ∈ ev_bw := ev_bg (List.mem_of_getElem? (i := 1032) (by decide +kernel)) (by decide +kernel)
theorem L_RX0_94 : Cond.methodLink RX0 94 yX0_walkOn ∈ ev_bw := ev_bg (List.mem_of_getElem? (i := 1033) (by decide +kernel)) (by decide +kernel)
theorem L_RX0_98 : Cond.methodLink RX0 98 yX2_removeAll ∈ ev_bw := ev_bg (List.mem_of_getElem? (i := 873) (by decide +kernel)) (by decide +kernel)
theorem L_RX0_101 : Cond.methodLink RX0 101 yX2_load ∈ ev_bw := ev_bg (List.mem_of_getElem? (i := 875) (by decide +kernel)) (by decide +kernel)
theorem L_RX0_105 : Cond.methodLink RX0 105 yX2_insertMinimal ∈ ev_bw := ev_bg (List.mem_of_getElem? (i := 876) (by decide +kernel)) (by decide +kernel)
theorem L_RX0_109 : Cond.methodLink RX0 109 yX0_isOld ∈ ev_bw := ev_bg (List.mem_of_getElem? (i := 898) (by decide +kernel)) (by decide +kernel)
theorem L_RX0_113 : Cond.methodLink RX0 113 yX4_count ∈ ev_bw := ev_bg (List.mem_of_getElem? (i := 906) (by decide +kernel)) (by decide +kernel)
theorem L_RX0_118 : Cond.methodLink RX0 118 yX4_leadsTo ∈ ev_bw := ev_bg (List.mem_of_getElem? (i := 911) (by decide +kernel)) (by decide +kernel)
theorem L_RX0_122 : Cond.methodLink RX0 122 yX4_applyBackwards ∈ ev_bw := ev_bg (List.mem_of_getElem? (i := 915) (by decide +kernel)) (by decide +kernel)
theorem L_RX0_125 : Cond.methodLink RX0 125 yX2_contains ∈ ev_bw := ev_bg (List.mem_of_getElem? (i := 902) (by decide +kernel)) (by decide +kernel)
theorem L_RX0_128 : Cond.methodLink RX0 128 yX2_firstBelow ∈ ev_bw := ev_bg (List.mem_of_getElem? (i := 1015) (by decide +kernel)) (by decide +kernel)
theorem L_RX0_132 : Cond.methodLink RX0 132 yX4_canFire ∈ ev_bw := ev_bg (List.mem_of_getElem? (i := 1037) (by decide +kernel)) (by decide +kernel)
theorem L_RX0_136 : Cond.methodLink RX0 136 yX4_apply ∈ ev_bw := ev_bg (List.mem_of_getElem? (i := 1038) (by decide +kernel)) (by decide +kernel)
theorem L_RX1_1 : Cond.methodLink RX1 1 Lib.objectInit ∈ ev_bw := ev_bg (List.mem_of_getElem? (i := 119) (by decide +kernel)) (by decide +kernel)
theorem L_RX2_1 : Cond.methodLink RX2 1 Lib.objectInit ∈ ev_bw := ev_bg (List.mem_of_getElem? (i := 145) (by decide +kernel)) (by decide +kernel)
theorem L_RX2_7 : Cond.methodLink RX2 7 yJ9_max_7cf53 ∈ ev_bw := ev_bg (List.mem_of_getElem? (i := 146) (by decide +kernel)) (by decide +kernel)
theorem L_RX2_30 : Cond.methodLink RX2 30 yX2_has ∈ ev_bw := ev_bg (List.mem_of_getElem? (i := 406) (by decide +kernel)) (by decide +kernel)
theorem L_RX2_48 : Cond.methodLink RX2 48 yX2_store ∈ ev_bw := ev_bg (List.mem_of_getElem? (i := 755) (by decide +kernel)) (by decide +kernel)
theorem L_RX2_52 : Cond.methodLink RX2 52 yX2_removeAll ∈ ev_bw := ev_bg (List.mem_of_getElem? (i := 487) (by decide +kernel)) (by decide +kernel)
theorem L_RX2_55 : Cond.methodLink RX2 55 yX2_addAll ∈ ev_bw := ev_bg (List.mem_of_getElem? (i := 488) (by decide +kernel)) (by decide +kernel)
theorem L_RX2_59 : Cond.methodLink RX2 59 yX2_move ∈ ev_bw := ev_bg (List.mem_of_getElem? (i := 743) (by decide +kernel)) (by decide +kernel)
theorem L_RX2_63 : Cond.methodLink RX2 63 yX2_removeLast ∈ ev_bw := ev_bg (List.mem_of_getElem? (i := 747) (by decide +kernel)) (by decide +kernel)
theorem L_RX2_66 : Cond.methodLink RX2 66 yX2_order ∈ ev_bw := ev_bg (List.mem_of_getElem? (i := 885) (by decide +kernel)) (by decide +kernel)
theorem L_RX2_70 : Cond.methodLink RX2 70 yX9_below ∈ ev_bw := ev_bg (List.mem_of_getElem? (i := 414) (by decide +kernel)) (by decide +kernel)
theorem L_RX2_74 : Cond.methodLink RX2 74 yX2_firstBelow ∈ ev_bw := ev_bg (List.mem_of_getElem? (i := 880) (by decide +kernel)) (by decide +kernel)
theorem L_RX2_77 : Cond.methodLink RX2 77 yX2_removeAbove ∈ ev_bw := ev_bg (List.mem_of_getElem? (i := 881) (by decide +kernel)) (by decide +kernel)
theorem L_RX3_3 : Cond.methodLink RX3 3 Lib.objectInit ∈ ev_bw := ev_bg (List.mem_of_getElem? (i := 188) (by decide +kernel)) (by decide +kernel)
theorem L_RX3_15 : Cond.methodLink RX3 15 yX9_size ∈ ev_bw := ev_bg (List.mem_of_getElem? (i := 425) (by decide +kernel)) (by decide +kernel)
theorem L_RX3_21 : Cond.methodLink RX3 21 yJ9_min_7cf53 ∈ ev_bw := ev_bg (List.mem_of_getElem? (i := 426) (by decide +kernel)) (by decide +kernel)
theorem L_RX3_27 : Cond.methodLink RX3 27 yX3_empty ∈ ev_bw := ev_bg (List.mem_of_getElem? (i := 429) (by decide +kernel)) (by decide +kernel)
theorem L_RX3_30 : Cond.methodLink RX3 30 yX9_at ∈ ev_bw := ev_bg (List.mem_of_getElem? (i := 433) (by decide +kernel)) (by decide +kernel)
theorem L_RX3_34 : Cond.methodLink RX3 34 yJ9_max_7cf53 ∈ ev_bw := ev_bg (List.mem_of_getElem? (i := 436) (by decide +kernel)) (by decide +kernel)
theorem L_RX4_3 : Cond.methodLink RX4 3 Lib.objectInit ∈ ev_bw := ev_bg (List.mem_of_getElem? (i := 105) (by decide +kernel)) (by decide +kernel)
theorem L_RX4_19 : Cond.methodLink RX4 19 yX4_has ∈ ev_bw := ev_bg (List.mem_of_getElem? (i := 371) (by decide +kernel)) (by decide +kernel)
theorem L_RX4_23 : Cond.methodLink RX4 23 yX4_part ∈ ev_bw := ev_bg (List.mem_of_getElem? (i := 367) (by decide +kernel)) (by decide +kernel)
theorem L_RX4_27 : Cond.methodLink RX4 27 yX4_add ∈ ev_bw := ev_bg (List.mem_of_getElem? (i := 478) (by decide +kernel)) (by decide +kernel)
theorem L_RX4_31 : Cond.methodLink RX4 31 yX4_removeAll ∈ ev_bw := ev_bg (List.mem_of_getElem? (i := 470) (by decide +kernel)) (by decide +kernel)
theorem L_RX4_34 : Cond.methodLink RX4 34 yX4_addAll ∈ ev_bw := ev_bg (List.mem_of_getElem? (i := 474) (by decide +kernel)) (by decide +kernel)
theorem L_RX4_43 : Cond.methodLink RX4 43 yX1_word ∈ ev_bw := ev_bg (List.mem_of_getElem? (i := 375) (by decide +kernel)) (by decide +kernel)
theorem L_RX4_47 : Cond.methodLink RX4 47 yX9_indexOf ∈ ev_bw := ev_bg (List.mem_of_getElem? (i := 379) (by decide +kernel)) (by decide +kernel)
theorem L_RX4_53 : Cond.methodLink RX4 53 yX4_canFire ∈ ev_bw := ev_bg (List.mem_of_getElem? (i := 363) (by decide +kernel)) (by decide +kernel)
theorem L_RX4_57 : Cond.methodLink RX4 57 yX9_size ∈ ev_bw := ev_bg (List.mem_of_getElem? (i := 730) (by decide +kernel)) (by decide +kernel)
theorem L_RX4_61 : Cond.methodLink RX4 61 yX9_extend ∈ ev_bw := ev_bg (List.mem_of_getElem? (i := 763) (by decide +kernel)) (by decide +kernel)
theorem L_RX4_65 : Cond.methodLink RX4 65 yX1_setWord ∈ ev_bw := ev_bg (List.mem_of_getElem? (i := 764) (by decide +kernel)) (by decide +kernel)
theorem L_RX4_69 : Cond.methodLink RX4 69 yX9_behind ∈ ev_bw := ev_bg (List.mem_of_getElem? (i := 765) (by decide +kernel)) (by decide +kernel)
theorem L_RX4_72 : Cond.methodLink RX4 72 yX9_prepend ∈ ev_bw := ev_bg (List.mem_of_getElem? (i := 919) (by decide +kernel)) (by decide +kernel)
theorem L_RX4_76 : Cond.methodLink RX4 76 yX9_endsWith ∈ ev_bw := ev_bg (List.mem_of_getElem? (i := 923) (by decide +kernel)) (by decide +kernel)
theorem L_RX4_80 : Cond.methodLink RX4 80 yX9_withoutLast ∈ ev_bw := ev_bg (List.mem_of_getElem? (i := 926) (by decide +kernel)) (by decide +kernel)
theorem L_RX5_3 : Cond.methodLink RX5 3 Lib.objectInit ∈ ev_bw := ev_bg (List.mem_of_getElem? (i := 237) (by decide +kernel)) (by decide +kernel)
theorem L_RX5_11 : Cond.methodLink RX5 11 yX1_init ∈ ev_bw := ev_bg (List.mem_of_getElem? (i := 239) (by decide +kernel)) (by decide +kernel)
theorem L_RX5_20 : Cond.methodLink RX5 20 yX2_init ∈ ev_bw := ev_bg (List.mem_of_getElem? (i := 241) (by decide +kernel)) (by decide +kernel)
theorem L_RX5_30 : Cond.methodLink RX5 30 yX2_removeAll ∈ ev_bw := ev_bg (List.mem_of_getElem? (i := 1067) (by decide +kernel)) (by decide +kernel)
theorem L_RX5_33 : Cond.methodLink RX5 33 yX2_add ∈ ev_bw := ev_bg (List.mem_of_getElem? (i := 1068) (by decide +kernel)) (by decide +kernel)
theorem L_RX5_37 : Cond.methodLink RX5 37 yX5_fireAll ∈ ev_bw := ev_bg (List.mem_of_getElem? (i := 1069) (by decide +kernel)) (by decide +kernel)
theorem L_RX5_41 : Cond.methodLink RX5 41 yX2_size ∈ ev_bw := ev_bg (List.mem_of_getElem? (i := 1073) (by decide +kernel)) (by decide +kernel)
theorem L_RX5_45 : Cond.methodLink RX5 45 yX2_load ∈ ev_bw := ev_bg (List.mem_of_getElem? (i := 1075) (by decide +kernel)) (by decide +kernel)
theorem L_RX5_49 : Cond.methodLink RX5 49 yX4_firable ∈ ev_bw := ev_bg (List.mem_of_getElem? (i := 1078) (by decide +kernel)) (by decide +kernel)
theorem L_RX5_55 : Cond.methodLink RX5 55 yX4_count ∈ ev_bw := ev_bg (List.mem_of_getElem? (i := 1074) (by decide +kernel)) (by decide +kernel)
theorem L_RX5_58 : Cond.methodLink RX5 58 yX4_canFire ∈ ev_bw := ev_bg (List.mem_of_getElem? (i := 1076) (by decide +kernel)) (by decide +kernel)
theorem L_RX5_62 : Cond.methodLink RX5 62 yX4_apply ∈ ev_bw := ev_bg (List.mem_of_getElem? (i := 1077) (by decide +kernel)) (by decide +kernel)
theorem L_RX6_3 : Cond.methodLink RX6 3 Lib.objectInit ∈ ev_bw := ev_bg (List.mem_of_getElem? (i := 295) (by decide +kernel)) (by decide +kernel)
theorem L_RX6_11 : Cond.methodLink RX6 11 yX4_init ∈ ev_bw := ev_bg (List.mem_of_getElem? (i := 297) (by decide +kernel)) (by decide +kernel)
theorem L_RX6_20 : Cond.methodLink RX6 20 yX1_init ∈ ev_bw := ev_bg (List.mem_of_getElem? (i := 299) (by decide +kernel)) (by decide +kernel)
theorem L_RX6_27 : Cond.methodLink RX6 27 yX2_init ∈ ev_bw := ev_bg (List.mem_of_getElem? (i := 301) (by decide +kernel)) (by decide +kernel)
theorem L_RX6_38 : Cond.methodLink RX6 38 yX4_copyFrom ∈ ev_bw := ev_bg (List.mem_of_getElem? (i := 466) (by decide +kernel)) (by decide +kernel)
theorem L_RX6_42 : Cond.methodLink RX6 42 yX1_copyFrom ∈ ev_bw := ev_bg (List.mem_of_getElem? (i := 482) (by decide +kernel)) (by decide +kernel)
theorem L_RX6_45 : Cond.methodLink RX6 45 yX2_copyFrom ∈ ev_bw := ev_bg (List.mem_of_getElem? (i := 483) (by decide +kernel)) (by decide +kernel)
theorem L_RX7_3 : Cond.methodLink RX7 3 Lib.objectInit ∈ ev_bw := ev_bg (List.mem_of_getElem? (i := 257) (by decide +kernel)) (by decide +kernel)
theorem L_RX7_17 : Cond.methodLink RX7 17 yX4_init ∈ ev_bw := ev_bg (List.mem_of_getElem? (i := 259) (by decide +kernel)) (by decide +kernel)
theorem L_RX7_24 : Cond.methodLink RX7 24 yX2_init ∈ ev_bw := ev_bg (List.mem_of_getElem? (i := 261) (by decide +kernel)) (by decide +kernel)
theorem L_RX7_33 : Cond.methodLink RX7 33 yX1_init ∈ ev_bw := ev_bg (List.mem_of_getElem? (i := 263) (by decide +kernel)) (by decide +kernel)
theorem L_RX7_52 : Cond.methodLink RX7 52 yX7_isFull ∈ ev_bw := ev_bg (List.mem_of_getElem? (i := 1107) (by decide +kernel)) (by decide +kernel)
theorem L_RX7_56 : Cond.methodLink RX7 56 yX4_removeAll ∈ ev_bw := ev_bg (List.mem_of_getElem? (i := 1119) (by decide +kernel)) (by decide +kernel)
theorem L_RX7_59 : Cond.methodLink RX7 59 yX2_removeAll ∈ ev_bw := ev_bg (List.mem_of_getElem? (i := 1120) (by decide +kernel)) (by decide +kernel)
theorem L_RX7_60 : Cond.methodLink RX7 60 yX7_parseCommand ∈ ev_bw := ev_bg (List.mem_of_getElem? (i := 1121) (by decide +kernel)) (by decide +kernel)
theorem L_RX7_63 : Cond.methodLink RX7 63 yX7_parseName ∈ ev_bw := ev_bg (List.mem_of_getElem? (i := 1125) (by decide +kernel)) (by decide +kernel)
theorem L_RX7_67 : Cond.methodLink RX7 67 yX7_expect ∈ ev_bw := ev_bg (List.mem_of_getElem? (i := 1189) (by decide +kernel)) (by decide +kernel)
theorem L_RX7_71 : Cond.methodLink RX7 71 yX7_parseSymbol ∈ ev_bw := ev_bg (List.mem_of_getElem? (i := 1193) (by decide +kernel)) (by decide +kernel)
theorem L_RX7_75 : Cond.methodLink RX7 75 yX7_parseGoal ∈ ev_bw := ev_bg (List.mem_of_getElem? (i := 1201) (by decide +kernel)) (by decide +kernel)
theorem L_RX7_78 : Cond.methodLink RX7 78 yX7_parseTransition ∈ ev_bw := ev_bg (List.mem_of_getElem? (i := 1211) (by decide +kernel)) (by decide +kernel)
theorem L_RX7_85 : Cond.methodLink RX7 85 yX7_parseWord ∈ ev_bw := ev_bg (List.mem_of_getElem? (i := 1205) (by decide +kernel)) (by decide +kernel)
theorem L_RX7_96 : Cond.methodLink RX7 96 yX2_add ∈ ev_bw := ev_bg (List.mem_of_getElem? (i := 1210) (by decide +kernel)) (by decide +kernel)
theorem L_RX7_100 : Cond.methodLink RX7 100 yX4_add ∈ ev_bw := ev_bg (List.mem_of_getElem? (i := 1215) (by decide +kernel)) (by decide +kernel)
theorem L_RX7_103 : Cond.methodLink RX7 103 yX7_nameFrom ∈ ev_bw := ev_bg (List.mem_of_getElem? (i := 1129) (by decide +kernel)) (by decide +kernel)
theorem L_RX7_109 : Cond.methodLink RX7 109 yX7_isRead ∈ ev_bw := ev_bg (List.mem_of_getElem? (i := 1134) (by decide +kernel)) (by decide +kernel)
theorem L_RX7_119 : Cond.methodLink RX7 119 yJ0_length_8abf5 ∈ ev_bw := ev_bg (List.mem_of_getElem? (i := 1138) (by decide +kernel)) (by decide +kernel)
theorem L_RX7_123 : Cond.methodLink RX7 123 yJ0_charAt_5068e ∈ ev_bw := ev_bg (List.mem_of_getElem? (i := 1148) (by decide +kernel)) (by decide +kernel)
theorem L_RX7_129 : Cond.methodLink RX7 129 yX7_isNext ∈ ev_bw := ev_bg (List.mem_of_getElem? (i := 1197) (by decide +kernel)) (by decide +kernel)
theorem L_RX7_133 : Cond.methodLink RX7 133 yX9_extend ∈ ev_bw := ev_bg (List.mem_of_getElem? (i := 1209) (by decide +kernel)) (by decide +kernel)
theorem L_RX8_3 : Cond.methodLink RX8 3 Lib.objectInit ∈ ev_bw := ev_bg (List.mem_of_getElem? (i := 168) (by decide +kernel)) (by decide +kernel)
theorem L_RX8_11 : Cond.methodLink RX8 11 yX2_init ∈ ev_bw := ev_bg (List.mem_of_getElem? (i := 170) (by decide +kernel)) (by decide +kernel)
theorem L_RX8_26 : Cond.methodLink RX8 26 yX1_init ∈ ev_bw := ev_bg (List.mem_of_getElem? (i := 172) (by decide +kernel)) (by decide +kernel)
theorem L_RX8_31 : Cond.methodLink RX8 31 yX2_size ∈ ev_bw := ev_bg (List.mem_of_getElem? (i := 394) (by decide +kernel)) (by decide +kernel)
theorem L_RX8_35 : Cond.methodLink RX8 35 yX2_removeAll ∈ ev_bw := ev_bg (List.mem_of_getElem? (i := 652) (by decide +kernel)) (by decide +kernel)
theorem L_RX8_38 : Cond.methodLink RX8 38 yX8_dropOldest ∈ ev_bw := ev_bg (List.mem_of_getElem? (i := 735) (by decide +kernel)) (by decide +kernel)
theorem L_RX8_41 : Cond.methodLink RX8 41 yX2_add ∈ ev_bw := ev_bg (List.mem_of_getElem? (i := 751) (by decide +kernel)) (by decide +kernel)
theorem L_RX8_45 : Cond.methodLink RX8 45 yX2_load ∈ ev_bw := ev_bg (List.mem_of_getElem? (i := 402) (by decide +kernel)) (by decide +kernel)
theorem L_RX8_49 : Cond.methodLink RX8 49 yX2_removeLast ∈ ev_bw := ev_bg (List.mem_of_getElem? (i := 794) (by decide +kernel)) (by decide +kernel)
theorem L_RX8_52 : Cond.methodLink RX8 52 yX1_copyFrom ∈ ev_bw := ev_bg (List.mem_of_getElem? (i := 398) (by decide +kernel)) (by decide +kernel)
theorem L_RX8_55 : Cond.methodLink RX8 55 yX2_firstBelow ∈ ev_bw := ev_bg (List.mem_of_getElem? (i := 410) (by decide +kernel)) (by decide +kernel)
theorem L_RX8_59 : Cond.methodLink RX8 59 yX2_removeFirst ∈ ev_bw := ev_bg (List.mem_of_getElem? (i := 739) (by decide +kernel)) (by decide +kernel)
theorem L_RX9_9 : Cond.methodLink RX9 9 yX9_size ∈ ev_bw := ev_bg (List.mem_of_getElem? (i := 382) (by decide +kernel)) (by decide +kernel)
theorem L_RL_7 : Cond.methodLink RL 7 yX10_addTransition ∈ ev_bw := ev_bg (List.mem_of_getElem? (i := 497) (by decide +kernel)) (by decide +kernel)
theorem L_RL_17 : Cond.methodLink RL 17 yX10_removeTransition ∈ ev_bw := ev_bg (List.mem_of_getElem? (i := 602) (by decide +kernel)) (by decide +kernel)
theorem L_RL_23 : Cond.methodLink RL 23 yX10_transition ∈ ev_bw := ev_bg (List.mem_of_getElem? (i := 634) (by decide +kernel)) (by decide +kernel)
theorem L_RL_27 : Cond.methodLink RL 27 yX10_setState ∈ ev_bw := ev_bg (List.mem_of_getElem? (i := 643) (by decide +kernel)) (by decide +kernel)
theorem L_RL_30 : Cond.methodLink RL 30 yX10_put ∈ ev_bw := ev_bg (List.mem_of_getElem? (i := 656) (by decide +kernel)) (by decide +kernel)
theorem L_RL_33 : Cond.methodLink RL 33 yX10_clear ∈ ev_bw := ev_bg (List.mem_of_getElem? (i := 678) (by decide +kernel)) (by decide +kernel)
theorem L_RL_36 : Cond.methodLink RL 36 yX10_length ∈ ev_bw := ev_bg (List.mem_of_getElem? (i := 685) (by decide +kernel)) (by decide +kernel)
theorem L_RL_39 : Cond.methodLink RL 39 yX10_letter ∈ ev_bw := ev_bg (List.mem_of_getElem? (i := 693) (by decide +kernel)) (by decide +kernel)
theorem L_RL_44 : Cond.methodLink RL 44 yX10_fire ∈ ev_bw := ev_bg (List.mem_of_getElem? (i := 720) (by decide +kernel)) (by decide +kernel)
theorem L_RL_47 : Cond.methodLink RL 47 yX10_lose ∈ ev_bw := ev_bg (List.mem_of_getElem? (i := 771) (by decide +kernel)) (by decide +kernel)
theorem L_RL_50 : Cond.methodLink RL 50 yX10_undo ∈ ev_bw := ev_bg (List.mem_of_getElem? (i := 781) (by decide +kernel)) (by decide +kernel)
theorem L_RL_54 : Cond.methodLink RL 54 yX10_isBelow ∈ ev_bw := ev_bg (List.mem_of_getElem? (i := 798) (by decide +kernel)) (by decide +kernel)
theorem L_RL_58 : Cond.methodLink RL 58 yX10_embeddings ∈ ev_bw := ev_bg (List.mem_of_getElem? (i := 809) (by decide +kernel)) (by decide +kernel)
theorem L_RL_61 : Cond.methodLink RL 61 yX10_subwords ∈ ev_bw := ev_bg (List.mem_of_getElem? (i := 820) (by decide +kernel)) (by decide +kernel)
theorem L_RL_64 : Cond.methodLink RL 64 yX10_addGoal ∈ ev_bw := ev_bg (List.mem_of_getElem? (i := 831) (by decide +kernel)) (by decide +kernel)
theorem L_RL_67 : Cond.methodLink RL 67 yX10_analyze ∈ ev_bw := ev_bg (List.mem_of_getElem? (i := 841) (by decide +kernel)) (by decide +kernel)
theorem L_RL_72 : Cond.methodLink RL 72 yX10_lastRound ∈ ev_bw := ev_bg (List.mem_of_getElem? (i := 932) (by decide +kernel)) (by decide +kernel)
theorem L_RL_75 : Cond.methodLink RL 75 yX10_basisSize ∈ ev_bw := ev_bg (List.mem_of_getElem? (i := 948) (by decide +kernel)) (by decide +kernel)
theorem L_RL_78 : Cond.methodLink RL 78 yX10_basis ∈ ev_bw := ev_bg (List.mem_of_getElem? (i := 961) (by decide +kernel)) (by decide +kernel)
theorem L_RL_82 : Cond.methodLink RL 82 yX10_basisLetter ∈ ev_bw := ev_bg (List.mem_of_getElem? (i := 974) (by decide +kernel)) (by decide +kernel)
theorem L_RL_85 : Cond.methodLink RL 85 yX10_coveringStates ∈ ev_bw := ev_bg (List.mem_of_getElem? (i := 983) (by decide +kernel)) (by decide +kernel)
theorem L_RL_88 : Cond.methodLink RL 88 yX10_least ∈ ev_bw := ev_bg (List.mem_of_getElem? (i := 996) (by decide +kernel)) (by decide +kernel)
theorem L_RL_91 : Cond.methodLink RL 91 yX10_distance ∈ ev_bw := ev_bg (List.mem_of_getElem? (i := 1003) (by decide +kernel)) (by decide +kernel)
theorem L_RL_94 : Cond.methodLink RL 94 yX10_covering ∈ ev_bw := ev_bg (List.mem_of_getElem? (i := 1019) (by decide +kernel)) (by decide +kernel)
theorem L_RL_97 : Cond.methodLink RL 97 yX10_lost ∈ ev_bw := ev_bg (List.mem_of_getElem? (i := 1047) (by decide +kernel)) (by decide +kernel)
theorem L_RL_100 : Cond.methodLink RL 100 yX10_statesAfter ∈ ev_bw := ev_bg (List.mem_of_getElem? (i := 1058) (by decide +kernel)) (by decide +kernel)
theorem L_RL_103 : Cond.methodLink RL 103 yX10_isLast ∈ ev_bw := ev_bg (List.mem_of_getElem? (i := 1086) (by decide +kernel)) (by decide +kernel)
theorem L_RL_107 : Cond.methodLink RL 107 yX10_append ∈ ev_bw := ev_bg (List.mem_of_getElem? (i := 1094) (by decide +kernel)) (by decide +kernel)
theorem L_RL_111 : Cond.methodLink RL 111 yX10_read ∈ ev_bw := ev_bg (List.mem_of_getElem? (i := 1111) (by decide +kernel)) (by decide +kernel)
theorem L_RL_114 : Cond.methodLink RL 114 yX10_restore ∈ ev_bw := ev_bg (List.mem_of_getElem? (i := 1231) (by decide +kernel)) (by decide +kernel)
theorem L_RL_117 : Cond.methodLink RL 117 yX10_init ∈ ev_bw := ev_bg (List.mem_of_getElem? (i := 94) (by decide +kernel)) (by decide +kernel)
theorem L_RL_120 : Cond.methodLink RL 120 yX11_init ∈ ev_bw := ev_bg (List.mem_of_getElem? (i := 1246) (by decide +kernel)) (by decide +kernel)
theorem L_RL_121 : Cond.methodLink RL 121 yL_addTransition ∈ ev_bw := ev_bg (List.mem_of_getElem? (i := 492) (by decide +kernel)) (by decide +kernel)
theorem L_RL_126 : Cond.methodLink RL 126 yX11_addTransition ∈ ev_bw := ev_bg (List.mem_of_getElem? (i := 1423) (by decide +kernel)) (by decide +kernel)
theorem L_RL_127 : Cond.methodLink RL 127 yX11_thrown ∈ ev_bw := ev_bg (List.mem_of_getElem? (i := 1419) (by decide +kernel)) (by decide +kernel)
theorem L_RL_130 : Cond.methodLink RL 130 yL_removeTransition ∈ ev_bw := ev_bg (List.mem_of_getElem? (i := 598) (by decide +kernel)) (by decide +kernel)
theorem L_RL_133 : Cond.methodLink RL 133 yX11_removeTransition ∈ ev_bw := ev_bg (List.mem_of_getElem? (i := 1447) (by decide +kernel)) (by decide +kernel)
theorem L_RL_134 : Cond.methodLink RL 134 yL_transition ∈ ev_bw := ev_bg (List.mem_of_getElem? (i := 631) (by decide +kernel)) (by decide +kernel)
theorem L_RL_137 : Cond.methodLink RL 137 yX11_transition ∈ ev_bw := ev_bg (List.mem_of_getElem? (i := 1455) (by decide +kernel)) (by decide +kernel)
theorem L_RL_138 : Cond.methodLink RL 138 yX10_transitionCount ∈ ev_bw := ev_bg (List.mem_of_getElem? (i := 343) (by decide +kernel)) (by decide +kernel)
theorem L_RL_141 : Cond.methodLink RL 141 yX11_transitionCount ∈ ev_bw := ev_bg (List.mem_of_getElem? (i := 1463) (by decide +kernel)) (by decide +kernel)
theorem L_RL_142 : Cond.methodLink RL 142 yL_setState ∈ ev_bw := ev_bg (List.mem_of_getElem? (i := 640) (by decide +kernel)) (by decide +kernel)
theorem L_RL_144 : Cond.methodLink RL 144 yX11_setState ∈ ev_bw := ev_bg (List.mem_of_getElem? (i := 1467) (by decide +kernel)) (by decide +kernel)
theorem L_RL_145 : Cond.methodLink RL 145 yL_put ∈ ev_bw := ev_bg (List.mem_of_getElem? (i := 653) (by decide +kernel)) (by decide +kernel)
theorem L_RL_147 : Cond.methodLink RL 147 yX11_put ∈ ev_bw := ev_bg (List.mem_of_getElem? (i := 1471) (by decide +kernel)) (by decide +kernel)
theorem L_RL_148 : Cond.methodLink RL 148 yL_clear ∈ ev_bw := ev_bg (List.mem_of_getElem? (i := 675) (by decide +kernel)) (by decide +kernel)
theorem L_RL_150 : Cond.methodLink RL 150 yX11_clear ∈ ev_bw := ev_bg (List.mem_of_getElem? (i := 1487) (by decide +kernel)) (by decide +kernel)
theorem L_RL_151 : Cond.methodLink RL 151 yX10_state ∈ ev_bw := ev_bg (List.mem_of_getElem? (i := 351) (by decide +kernel)) (by decide +kernel)
theorem L_RL_154 : Cond.methodLink RL 154 yX11_state ∈ ev_bw := ev_bg (List.mem_of_getElem? (i := 1491) (by decide +kernel)) (by decide +kernel)
theorem L_RL_155 : Cond.methodLink RL 155 yL_length ∈ ev_bw := ev_bg (List.mem_of_getElem? (i := 682) (by decide +kernel)) (by decide +kernel)
theorem L_RL_157 : Cond.methodLink RL 157 yX11_length ∈ ev_bw := ev_bg (List.mem_of_getElem? (i := 1495) (by decide +kernel)) (by decide +kernel)
theorem L_RL_158 : Cond.methodLink RL 158 yL_letter ∈ ev_bw := ev_bg (List.mem_of_getElem? (i := 689) (by decide +kernel)) (by decide +kernel)
theorem L_RL_160 : Cond.methodLink RL 160 yX11_letter ∈ ev_bw := ev_bg (List.mem_of_getElem? (i := 1499) (by decide +kernel)) (by decide +kernel)
theorem L_RL_161 : Cond.methodLink RL 161 yX10_enabled ∈ ev_bw := ev_bg (List.mem_of_getElem? (i := 355) (by decide +kernel)) (by decide +kernel)
theorem L_RL_165 : Cond.methodLink RL 165 yX11_enabled ∈ ev_bw := ev_bg (List.mem_of_getElem? (i := 1509) (by decide +kernel)) (by decide +kernel)
theorem L_RL_166 : Cond.methodLink RL 166 yL_fire ∈ ev_bw := ev_bg (List.mem_of_getElem? (i := 717) (by decide +kernel)) (by decide +kernel)
theorem L_RL_168 : Cond.methodLink RL 168 yX11_fire ∈ ev_bw := ev_bg (List.mem_of_getElem? (i := 1528) (by decide +kernel)) (by decide +kernel)
theorem L_RL_169 : Cond.methodLink RL 169 yL_lose ∈ ev_bw := ev_bg (List.mem_of_getElem? (i := 768) (by decide +kernel)) (by decide +kernel)
theorem L_RL_171 : Cond.methodLink RL 171 yX11_lose ∈ ev_bw := ev_bg (List.mem_of_getElem? (i := 1543) (by decide +kernel)) (by decide +kernel)
theorem L_RL_172 : Cond.methodLink RL 172 yL_undo ∈ ev_bw := ev_bg (List.mem_of_getElem? (i := 778) (by decide +kernel)) (by decide +kernel)
theorem L_RL_175 : Cond.methodLink RL 175 yX11_undo ∈ ev_bw := ev_bg (List.mem_of_getElem? (i := 1550) (by decide +kernel)) (by decide +kernel)
theorem L_RL_176 : Cond.methodLink RL 176 yX10_increase ∈ ev_bw := ev_bg (List.mem_of_getElem? (i := 386) (by decide +kernel)) (by decide +kernel)
theorem L_RL_179 : Cond.methodLink RL 179 yX11_increase ∈ ev_bw := ev_bg (List.mem_of_getElem? (i := 1554) (by decide +kernel)) (by decide +kernel)
theorem L_RL_180 : Cond.methodLink RL 180 yL_isBelow ∈ ev_bw := ev_bg (List.mem_of_getElem? (i := 795) (by decide +kernel)) (by decide +kernel)
theorem L_RL_182 : Cond.methodLink RL 182 yX11_isBelow ∈ ev_bw := ev_bg (List.mem_of_getElem? (i := 1561) (by decide +kernel)) (by decide +kernel)
theorem L_RL_183 : Cond.methodLink RL 183 yL_embeddings ∈ ev_bw := ev_bg (List.mem_of_getElem? (i := 806) (by decide +kernel)) (by decide +kernel)
theorem L_RL_185 : Cond.methodLink RL 185 yX11_embeddings ∈ ev_bw := ev_bg (List.mem_of_getElem? (i := 1569) (by decide +kernel)) (by decide +kernel)
theorem L_RL_186 : Cond.methodLink RL 186 yX10_common ∈ ev_bw := ev_bg (List.mem_of_getElem? (i := 417) (by decide +kernel)) (by decide +kernel)
theorem L_RL_189 : Cond.methodLink RL 189 yX11_common ∈ ev_bw := ev_bg (List.mem_of_getElem? (i := 1573) (by decide +kernel)) (by decide +kernel)
theorem L_RL_190 : Cond.methodLink RL 190 yL_subwords ∈ ev_bw := ev_bg (List.mem_of_getElem? (i := 817) (by decide +kernel)) (by decide +kernel)
theorem L_RL_192 : Cond.methodLink RL 192 yX11_subwords ∈ ev_bw := ev_bg (List.mem_of_getElem? (i := 1577) (by decide +kernel)) (by decide +kernel)
theorem L_RL_193 : Cond.methodLink RL 193 yL_addGoal ∈ ev_bw := ev_bg (List.mem_of_getElem? (i := 828) (by decide +kernel)) (by decide +kernel)
theorem L_RL_195 : Cond.methodLink RL 195 yX11_addGoal ∈ ev_bw := ev_bg (List.mem_of_getElem? (i := 1581) (by decide +kernel)) (by decide +kernel)
theorem L_RL_196 : Cond.methodLink RL 196 yX10_clearGoals ∈ ev_bw := ev_bg (List.mem_of_getElem? (i := 437) (by decide +kernel)) (by decide +kernel)
theorem L_RL_199 : Cond.methodLink RL 199 yX11_clearGoals ∈ ev_bw := ev_bg (List.mem_of_getElem? (i := 1589) (by decide +kernel)) (by decide +kernel)
theorem L_RL_200 : Cond.methodLink RL 200 yL_analyze ∈ ev_bw := ev_bg (List.mem_of_getElem? (i := 837) (by decide +kernel)) (by decide +kernel)
theorem L_RL_202 : Cond.methodLink RL 202 yX11_analyze ∈ ev_bw := ev_bg (List.mem_of_getElem? (i := 1593) (by decide +kernel)) (by decide +kernel)
theorem L_RL_203 : Cond.methodLink RL 203 yL_lastRound ∈ ev_bw := ev_bg (List.mem_of_getElem? (i := 929) (by decide +kernel)) (by decide +kernel)
theorem L_RL_205 : Cond.methodLink RL 205 yX11_lastRound ∈ ev_bw := ev_bg (List.mem_of_getElem? (i := 1628) (by decide +kernel)) (by decide +kernel)
theorem L_RL_206 : Cond.methodLink RL 206 yL_basisSize ∈ ev_bw := ev_bg (List.mem_of_getElem? (i := 945) (by decide +kernel)) (by decide +kernel)
theorem L_RL_208 : Cond.methodLink RL 208 yX11_basisSize ∈ ev_bw := ev_bg (List.mem_of_getElem? (i := 1636) (by decide +kernel)) (by decide +kernel)
theorem L_RL_209 : Cond.methodLink RL 209 yL_basis ∈ ev_bw := ev_bg (List.mem_of_getElem? (i := 958) (by decide +kernel)) (by decide +kernel)
theorem L_RL_212 : Cond.methodLink RL 212 yX11_basis ∈ ev_bw := ev_bg (List.mem_of_getElem? (i := 1640) (by decide +kernel)) (by decide +kernel)
theorem L_RL_213 : Cond.methodLink RL 213 yL_basisLetter ∈ ev_bw := ev_bg (List.mem_of_getElem? (i := 971) (by decide +kernel)) (by decide +kernel)
theorem L_RL_215 : Cond.methodLink RL 215 yX11_basisLetter ∈ ev_bw := ev_bg (List.mem_of_getElem? (i := 1644) (by decide +kernel)) (by decide +kernel)
theorem L_RL_216 : Cond.methodLink RL 216 yL_coveringStates ∈ ev_bw := ev_bg (List.mem_of_getElem? (i := 980) (by decide +kernel)) (by decide +kernel)
theorem L_RL_218 : Cond.methodLink RL 218 yX11_coveringStates ∈ ev_bw := ev_bg (List.mem_of_getElem? (i := 1648) (by decide +kernel)) (by decide +kernel)
theorem L_RL_219 : Cond.methodLink RL 219 yL_least ∈ ev_bw := ev_bg (List.mem_of_getElem? (i := 993) (by decide +kernel)) (by decide +kernel)
theorem L_RL_221 : Cond.methodLink RL 221 yX11_least ∈ ev_bw := ev_bg (List.mem_of_getElem? (i := 1652) (by decide +kernel)) (by decide +kernel)
theorem L_RL_222 : Cond.methodLink RL 222 yL_distance ∈ ev_bw := ev_bg (List.mem_of_getElem? (i := 1000) (by decide +kernel)) (by decide +kernel)
theorem L_RL_224 : Cond.methodLink RL 224 yX11_distance ∈ ev_bw := ev_bg (List.mem_of_getElem? (i := 1656) (by decide +kernel)) (by decide +kernel)
theorem L_RL_225 : Cond.methodLink RL 225 yL_covering ∈ ev_bw := ev_bg (List.mem_of_getElem? (i := 1016) (by decide +kernel)) (by decide +kernel)
theorem L_RL_227 : Cond.methodLink RL 227 yX11_covering ∈ ev_bw := ev_bg (List.mem_of_getElem? (i := 1668) (by decide +kernel)) (by decide +kernel)
theorem L_RL_228 : Cond.methodLink RL 228 yL_lost ∈ ev_bw := ev_bg (List.mem_of_getElem? (i := 1044) (by decide +kernel)) (by decide +kernel)
theorem L_RL_230 : Cond.methodLink RL 230 yX11_lost ∈ ev_bw := ev_bg (List.mem_of_getElem? (i := 1680) (by decide +kernel)) (by decide +kernel)
theorem L_RL_231 : Cond.methodLink RL 231 yL_statesAfter ∈ ev_bw := ev_bg (List.mem_of_getElem? (i := 1055) (by decide +kernel)) (by decide +kernel)
theorem L_RL_233 : Cond.methodLink RL 233 yX11_statesAfter ∈ ev_bw := ev_bg (List.mem_of_getElem? (i := 1684) (by decide +kernel)) (by decide +kernel)
theorem L_RL_234 : Cond.methodLink RL 234 yL_isLast ∈ ev_bw := ev_bg (List.mem_of_getElem? (i := 1083) (by decide +kernel)) (by decide +kernel)
theorem L_RL_236 : Cond.methodLink RL 236 yX11_isLast ∈ ev_bw := ev_bg (List.mem_of_getElem? (i := 1700) (by decide +kernel)) (by decide +kernel)
theorem L_RL_237 : Cond.methodLink RL 237 yL_append ∈ ev_bw := ev_bg (List.mem_of_getElem? (i := 1091) (by decide +kernel)) (by decide +kernel)
theorem L_RL_240 : Cond.methodLink RL 240 yX11_append ∈ ev_bw := ev_bg (List.mem_of_getElem? (i := 1704) (by decide +kernel)) (by decide +kernel)
theorem L_RL_241 : Cond.methodLink RL 241 yL_read ∈ ev_bw := ev_bg (List.mem_of_getElem? (i := 1108) (by decide +kernel)) (by decide +kernel)
theorem L_RL_243 : Cond.methodLink RL 243 yX11_read ∈ ev_bw := ev_bg (List.mem_of_getElem? (i := 1708) (by decide +kernel)) (by decide +kernel)
theorem L_RL_244 : Cond.methodLink RL 244 yX10_faultPosition ∈ ev_bw := ev_bg (List.mem_of_getElem? (i := 450) (by decide +kernel)) (by decide +kernel)
theorem L_RL_247 : Cond.methodLink RL 247 yX11_faultPosition ∈ ev_bw := ev_bg (List.mem_of_getElem? (i := 1753) (by decide +kernel)) (by decide +kernel)
theorem L_RL_248 : Cond.methodLink RL 248 yX10_save ∈ ev_bw := ev_bg (List.mem_of_getElem? (i := 458) (by decide +kernel)) (by decide +kernel)
theorem L_RL_251 : Cond.methodLink RL 251 yX11_save ∈ ev_bw := ev_bg (List.mem_of_getElem? (i := 1757) (by decide +kernel)) (by decide +kernel)
theorem L_RL_252 : Cond.methodLink RL 252 yL_restore ∈ ev_bw := ev_bg (List.mem_of_getElem? (i := 1228) (by decide +kernel)) (by decide +kernel)
theorem L_RL_255 : Cond.methodLink RL 255 yX11_restore ∈ ev_bw := ev_bg (List.mem_of_getElem? (i := 1761) (by decide +kernel)) (by decide +kernel)
theorem L_RX11_1 : Cond.methodLink RX11 1 Lib.objectInit ∈ ev_bw := ev_bg (List.mem_of_getElem? (i := 1249) (by decide +kernel)) (by decide +kernel)
theorem L_RX11_111 : Cond.methodLink RX11 111 yX11_lengthOf ∈ ev_bw := ev_bg (List.mem_of_getElem? (i := 1479) (by decide +kernel)) (by decide +kernel)
theorem L_RX11_115 : Cond.methodLink RX11 115 yX11_power ∈ ev_bw := ev_bg (List.mem_of_getElem? (i := 1506) (by decide +kernel)) (by decide +kernel)
theorem L_RX11_119 : Cond.methodLink RX11 119 yX11_letterAt ∈ ev_bw := ev_bg (List.mem_of_getElem? (i := 1503) (by decide +kernel)) (by decide +kernel)
theorem L_RX11_130 : Cond.methodLink RX11 130 yX11_isState ∈ ev_bw := ev_bg (List.mem_of_getElem? (i := 1427) (by decide +kernel)) (by decide +kernel)
theorem L_RX11_134 : Cond.methodLink RX11 134 yX11_isBetween ∈ ev_bw := ev_bg (List.mem_of_getElem? (i := 1430) (by decide +kernel)) (by decide +kernel)
theorem L_RX11_138 : Cond.methodLink RX11 138 yX11_isChannel ∈ ev_bw := ev_bg (List.mem_of_getElem? (i := 1433) (by decide +kernel)) (by decide +kernel)
theorem L_RX11_141 : Cond.methodLink RX11 141 yX11_isLetter ∈ ev_bw := ev_bg (List.mem_of_getElem? (i := 1436) (by decide +kernel)) (by decide +kernel)
theorem L_RX11_144 : Cond.methodLink RX11 144 yX11_fails ∈ ev_bw := ev_bg (List.mem_of_getElem? (i := 1439) (by decide +kernel)) (by decide +kernel)
theorem L_RX11_148 : Cond.methodLink RX11 148 yX11_adds ∈ ev_bw := ev_bg (List.mem_of_getElem? (i := 1443) (by decide +kernel)) (by decide +kernel)
theorem L_RX11_152 : Cond.methodLink RX11 152 yX11_isTransition ∈ ev_bw := ev_bg (List.mem_of_getElem? (i := 1451) (by decide +kernel)) (by decide +kernel)
theorem L_RX11_155 : Cond.methodLink RX11 155 yX11_partOf ∈ ev_bw := ev_bg (List.mem_of_getElem? (i := 1459) (by decide +kernel)) (by decide +kernel)
theorem L_RX11_172 : Cond.methodLink RX11 172 yX11_wordOf ∈ ev_bw := ev_bg (List.mem_of_getElem? (i := 1475) (by decide +kernel)) (by decide +kernel)
theorem L_RX11_175 : Cond.methodLink RX11 175 yX11_setsWord ∈ ev_bw := ev_bg (List.mem_of_getElem? (i := 1483) (by decide +kernel)) (by decide +kernel)
theorem L_RX11_188 : Cond.methodLink RX11 188 yX11_placeOf ∈ ev_bw := ev_bg (List.mem_of_getElem? (i := 1521) (by decide +kernel)) (by decide +kernel)
theorem L_RX11_194 : Cond.methodLink RX11 194 yX11_behind ∈ ev_bw := ev_bg (List.mem_of_getElem? (i := 1540) (by decide +kernel)) (by decide +kernel)
theorem L_RX11_198 : Cond.methodLink RX11 198 yX11_takes ∈ ev_bw := ev_bg (List.mem_of_getElem? (i := 1513) (by decide +kernel)) (by decide +kernel)
theorem L_RX11_202 : Cond.methodLink RX11 202 yX11_mayFire ∈ ev_bw := ev_bg (List.mem_of_getElem? (i := 1517) (by decide +kernel)) (by decide +kernel)
theorem L_RX11_205 : Cond.methodLink RX11 205 yX11_mayFireNow ∈ ev_bw := ev_bg (List.mem_of_getElem? (i := 1524) (by decide +kernel)) (by decide +kernel)
theorem L_RX11_208 : Cond.methodLink RX11 208 yX11_remembers ∈ ev_bw := ev_bg (List.mem_of_getElem? (i := 1532) (by decide +kernel)) (by decide +kernel)
theorem L_RX11_212 : Cond.methodLink RX11 212 yX11_fires ∈ ev_bw := ev_bg (List.mem_of_getElem? (i := 1536) (by decide +kernel)) (by decide +kernel)
theorem L_RX11_215 : Cond.methodLink RX11 215 yX11_without ∈ ev_bw := ev_bg (List.mem_of_getElem? (i := 1547) (by decide +kernel)) (by decide +kernel)
theorem L_RX11_218 : Cond.methodLink RX11 218 yX11_isWordBelow ∈ ev_bw := ev_bg (List.mem_of_getElem? (i := 1558) (by decide +kernel)) (by decide +kernel)
theorem L_RX11_222 : Cond.methodLink RX11 222 yX11_refuses ∈ ev_bw := ev_bg (List.mem_of_getElem? (i := 1565) (by decide +kernel)) (by decide +kernel)
theorem L_RX11_228 : Cond.methodLink RX11 228 yX11_addsGoal ∈ ev_bw := ev_bg (List.mem_of_getElem? (i := 1585) (by decide +kernel)) (by decide +kernel)
theorem L_RX11_234 : Cond.methodLink RX11 234 yX11_isAhead ∈ ev_bw := ev_bg (List.mem_of_getElem? (i := 1605) (by decide +kernel)) (by decide +kernel)
theorem L_RX11_238 : Cond.methodLink RX11 238 yX11_wordAhead ∈ ev_bw := ev_bg (List.mem_of_getElem? (i := 1621) (by decide +kernel)) (by decide +kernel)
theorem L_RX11_242 : Cond.methodLink RX11 242 yX11_makes ∈ ev_bw := ev_bg (List.mem_of_getElem? (i := 1601) (by decide +kernel)) (by decide +kernel)
theorem L_RX11_245 : Cond.methodLink RX11 245 yX11_makesAhead ∈ ev_bw := ev_bg (List.mem_of_getElem? (i := 1617) (by decide +kernel)) (by decide +kernel)
theorem L_RX11_252 : Cond.methodLink RX11 252 yX11_stores ∈ ev_bw := ev_bg (List.mem_of_getElem? (i := 1609) (by decide +kernel)) (by decide +kernel)
theorem L_RX11_255 : Cond.methodLink RX11 255 yX11_makesNext ∈ ev_bw := ev_bg (List.mem_of_getElem? (i := 1613) (by decide +kernel)) (by decide +kernel)
theorem L_RX11_258 : Cond.methodLink RX11 258 yX11_isLikeMade ∈ ev_bw := ev_bg (List.mem_of_getElem? (i := 1624) (by decide +kernel)) (by decide +kernel)
theorem L_RX11_264 : Cond.methodLink RX11 264 yX11_refreshes ∈ ev_bw := ev_bg (List.mem_of_getElem? (i := 1597) (by decide +kernel)) (by decide +kernel)
theorem L_RX11_267 : Cond.methodLink RX11 267 yX11_isAnalyzed ∈ ev_bw := ev_bg (List.mem_of_getElem? (i := 1632) (by decide +kernel)) (by decide +kernel)
theorem L_RX11_271 : Cond.methodLink RX11 271 yX11_isCovered ∈ ev_bw := ev_bg (List.mem_of_getElem? (i := 1664) (by decide +kernel)) (by decide +kernel)
theorem L_RX11_274 : Cond.methodLink RX11 274 yX11_distanceNow ∈ ev_bw := ev_bg (List.mem_of_getElem? (i := 1660) (by decide +kernel)) (by decide +kernel)
theorem L_RX11_278 : Cond.methodLink RX11 278 yX11_firesNext ∈ ev_bw := ev_bg (List.mem_of_getElem? (i := 1676) (by decide +kernel)) (by decide +kernel)
theorem L_RX11_281 : Cond.methodLink RX11 281 yX11_goesTo ∈ ev_bw := ev_bg (List.mem_of_getElem? (i := 1672) (by decide +kernel)) (by decide +kernel)
theorem L_RX11_287 : Cond.methodLink RX11 287 yX11_rests ∈ ev_bw := ev_bg (List.mem_of_getElem? (i := 1692) (by decide +kernel)) (by decide +kernel)
theorem L_RX11_290 : Cond.methodLink RX11 290 yX11_begins ∈ ev_bw := ev_bg (List.mem_of_getElem? (i := 1688) (by decide +kernel)) (by decide +kernel)
theorem L_RX11_293 : Cond.methodLink RX11 293 yX11_goesOn ∈ ev_bw := ev_bg (List.mem_of_getElem? (i := 1696) (by decide +kernel)) (by decide +kernel)
theorem L_RX11_302 : Cond.methodLink RX11 302 yX11_isAt ∈ ev_bw := ev_bg (List.mem_of_getElem? (i := 1724) (by decide +kernel)) (by decide +kernel)
theorem L_RX11_309 : Cond.methodLink RX11 309 yX11_isWord ∈ ev_bw := ev_bg (List.mem_of_getElem? (i := 1730) (by decide +kernel)) (by decide +kernel)
theorem L_RX11_327 : Cond.methodLink RX11 327 yX11_takesKind ∈ ev_bw := ev_bg (List.mem_of_getElem? (i := 1720) (by decide +kernel)) (by decide +kernel)
theorem L_RX11_330 : Cond.methodLink RX11 330 yX11_skips ∈ ev_bw := ev_bg (List.mem_of_getElem? (i := 1740) (by decide +kernel)) (by decide +kernel)
theorem L_RX11_333 : Cond.methodLink RX11 333 yX11_takesSign ∈ ev_bw := ev_bg (List.mem_of_getElem? (i := 1744) (by decide +kernel)) (by decide +kernel)
theorem L_RX11_336 : Cond.methodLink RX11 336 yX11_takesWord ∈ ev_bw := ev_bg (List.mem_of_getElem? (i := 1748) (by decide +kernel)) (by decide +kernel)
theorem L_RX11_340 : Cond.methodLink RX11 340 yX11_takesCommand ∈ ev_bw := ev_bg (List.mem_of_getElem? (i := 1716) (by decide +kernel)) (by decide +kernel)
theorem L_RX11_343 : Cond.methodLink RX11 343 yX11_takesText ∈ ev_bw := ev_bg (List.mem_of_getElem? (i := 1712) (by decide +kernel)) (by decide +kernel)
theorem L_RJ0_335 : Cond.methodLink RJ0 335 yJ0_coder_7d493 ∈ ev_bw := ev_bg (List.mem_of_getElem? (i := 1142) (by decide +kernel)) (by decide +kernel)
theorem L_RJ0_492 : Cond.methodLink RJ0 492 yJ0_isLatin1_aae02 ∈ ev_bw := ev_bg (List.mem_of_getElem? (i := 1152) (by decide +kernel)) (by decide +kernel)
theorem L_RJ0_495 : Cond.methodLink RJ0 495 yJ1_charAt_3b067 ∈ ev_bw := ev_bg (List.mem_of_getElem? (i := 1156) (by decide +kernel)) (by decide +kernel)
theorem L_RJ0_498 : Cond.methodLink RJ0 498 yJ2_charAt_3b067 ∈ ev_bw := ev_bg (List.mem_of_getElem? (i := 1167) (by decide +kernel)) (by decide +kernel)
theorem L_RJ0_1059 : Cond.methodLink RJ0 1059 yJ3_checkIndex_8e157 ∈ ev_bw := ev_bg (List.mem_of_getElem? (i := 1164) (by decide +kernel)) (by decide +kernel)
theorem L_RJ1_9 : Cond.methodLink RJ1 9 yJ0_checkIndex_df160 ∈ ev_bw := ev_bg (List.mem_of_getElem? (i := 1159) (by decide +kernel)) (by decide +kernel)
theorem L_RJ2_48 : Cond.methodLink RJ2 48 yJ2_length_9d52b ∈ ev_bw := ev_bg (List.mem_of_getElem? (i := 1173) (by decide +kernel)) (by decide +kernel)
theorem L_RJ2_67 : Cond.methodLink RJ2 67 yJ2_checkIndex_2214a ∈ ev_bw := ev_bg (List.mem_of_getElem? (i := 1170) (by decide +kernel)) (by decide +kernel)
theorem L_RJ2_71 : Cond.methodLink RJ2 71 yJ2_getChar_3b067 ∈ ev_bw := ev_bg (List.mem_of_getElem? (i := 1177) (by decide +kernel)) (by decide +kernel)
theorem L_RJ2_414 : Cond.methodLink RJ2 414 yJ0_checkIndex_df160 ∈ ev_bw := ev_bg (List.mem_of_getElem? (i := 1176) (by decide +kernel)) (by decide +kernel)
theorem ev_oi1 : Cond.instanceMethod Lib.objectInit ∈ ev_bw := ev_bg (List.mem_of_getElem? (i := 98) (by decide +kernel)) (by decide +kernel)
theorem ev_oi2 : Cond.code Lib.objectInit ⟨#[0xb1]⟩ 1 none ∈ ev_bw := ev_bg (List.mem_of_getElem? (i := 99) (by decide +kernel)) (by decide +kernel)
theorem ev_mmax : ∀ w ∈ ev_mth Lib.Math.max.name Lib.Math.max.code, w ∈ ev_bw := by
  intro w hw
  simp only [ev_mth, List.mem_cons, List.not_mem_nil, or_false] at hw
  rcases hw with rfl | rfl | rfl
  · exact ev_bg (List.mem_of_getElem? (i := 147) (by decide +kernel)) (by decide +kernel)
  · exact ev_bg (List.mem_of_getElem? (i := 71) (by decide +kernel)) (by decide +kernel)
  · exact ev_bg (List.mem_of_getElem? (i := 148) (by decide +kernel)) (by decide +kernel)
theorem ev_mmin : ∀ w ∈ ev_mth Lib.Math.min.name Lib.Math.min.code, w ∈ ev_bw := by
  intro w hw
  simp only [ev_mth, List.mem_cons, List.not_mem_nil, or_false] at hw
  rcases hw with rfl | rfl | rfl
  · exact ev_bg (List.mem_of_getElem? (i := 427) (by decide +kernel)) (by decide +kernel)
  · exact ev_bg (List.mem_of_getElem? (i := 71) (by decide +kernel)) (by decide +kernel)
  · exact ev_bg (List.mem_of_getElem? (i := 428) (by decide +kernel)) (by decide +kernel)
theorem K_RX9_13 : Cond.constantLong RX9 13 3 ∈ ev_bw := ev_bg (List.mem_of_getElem? (i := 385) (by decide +kernel)) (by decide +kernel)
theorem K_RX9_15 : Cond.constantLong RX9 15 4 ∈ ev_bw := ev_bg (List.mem_of_getElem? (i := 922) (by decide +kernel)) (by decide +kernel)
theorem K_RX11_109 : Cond.constantLong RX11 109 4 ∈ ev_bw := ev_bg (List.mem_of_getElem? (i := 1482) (by decide +kernel)) (by decide +kernel)
theorem K_RX11_325 : Cond.constantLong RX11 325 97 ∈ ev_bw := ev_bg (List.mem_of_getElem? (i := 1752) (by decide +kernel)) (by decide +kernel)
theorem A_int : Cond.arrayClass .int ∈ ev_bw := ev_bg (List.mem_of_getElem? (i := 113) (by decide +kernel)) (by decide +kernel)
theorem A_long : Cond.arrayClass .long ∈ ev_bw := ev_bg (List.mem_of_getElem? (i := 162) (by decide +kernel)) (by decide +kernel)
theorem A_char : Cond.arrayClass .char ∈ ev_bw := ev_bg (List.mem_of_getElem? (i := 289) (by decide +kernel)) (by decide +kernel)
theorem CL_RL_8 : Cond.classLink RL 8 "LossyChannels" ∈ ev_bw := ev_bg (List.mem_of_getElem? (i := 92) (by decide +kernel)) (by decide +kernel)
theorem CL_RX10_7 : Cond.classLink RX10 7 "LossyChannels$Machine" ∈ ev_bw := ev_bg (List.mem_of_getElem? (i := 100) (by decide +kernel)) (by decide +kernel)
theorem CL_RX10_16 : Cond.classLink RX10 16 "LossyChannels$Config" ∈ ev_bw := ev_bg (List.mem_of_getElem? (i := 114) (by decide +kernel)) (by decide +kernel)
theorem CL_RX10_23 : Cond.classLink RX10 23 "LossyChannels$Configs" ∈ ev_bw := ev_bg (List.mem_of_getElem? (i := 140) (by decide +kernel)) (by decide +kernel)
theorem CL_RX10_32 : Cond.classLink RX10 32 "LossyChannels$Trail" ∈ ev_bw := ev_bg (List.mem_of_getElem? (i := 163) (by decide +kernel)) (by decide +kernel)
theorem CL_RX8_9 : Cond.classLink RX8 9 "LossyChannels$Configs" ∈ ev_bw := ev_bg (List.mem_of_getElem? (i := 169) (by decide +kernel)) (by decide +kernel)
theorem CL_RX8_24 : Cond.classLink RX8 24 "LossyChannels$Config" ∈ ev_bw := ev_bg (List.mem_of_getElem? (i := 171) (by decide +kernel)) (by decide +kernel)
theorem CL_RX10_39 : Cond.classLink RX10 39 "LossyChannels$Counting" ∈ ev_bw := ev_bg (List.mem_of_getElem? (i := 183) (by decide +kernel)) (by decide +kernel)
theorem CL_RX10_46 : Cond.classLink RX10 46 "LossyChannels$Analysis" ∈ ev_bw := ev_bg (List.mem_of_getElem? (i := 193) (by decide +kernel)) (by decide +kernel)
theorem CL_RX0_9 : Cond.classLink RX0 9 "LossyChannels$Configs" ∈ ev_bw := ev_bg (List.mem_of_getElem? (i := 199) (by decide +kernel)) (by decide +kernel)
theorem CL_RX0_24 : Cond.classLink RX0 24 "LossyChannels$Config" ∈ ev_bw := ev_bg (List.mem_of_getElem? (i := 202) (by decide +kernel)) (by decide +kernel)
theorem CL_RX10_53 : Cond.classLink RX10 53 "LossyChannels$Outlook" ∈ ev_bw := ev_bg (List.mem_of_getElem? (i := 232) (by decide +kernel)) (by decide +kernel)
theorem CL_RX5_9 : Cond.classLink RX5 9 "LossyChannels$Config" ∈ ev_bw := ev_bg (List.mem_of_getElem? (i := 238) (by decide +kernel)) (by decide +kernel)
theorem CL_RX5_18 : Cond.classLink RX5 18 "LossyChannels$Configs" ∈ ev_bw := ev_bg (List.mem_of_getElem? (i := 240) (by decide +kernel)) (by decide +kernel)
theorem CL_RX10_60 : Cond.classLink RX10 60 "LossyChannels$TextReader" ∈ ev_bw := ev_bg (List.mem_of_getElem? (i := 252) (by decide +kernel)) (by decide +kernel)
theorem CL_RX7_15 : Cond.classLink RX7 15 "LossyChannels$Machine" ∈ ev_bw := ev_bg (List.mem_of_getElem? (i := 258) (by decide +kernel)) (by decide +kernel)
theorem CL_RX7_22 : Cond.classLink RX7 22 "LossyChannels$Configs" ∈ ev_bw := ev_bg (List.mem_of_getElem? (i := 260) (by decide +kernel)) (by decide +kernel)
theorem CL_RX7_31 : Cond.classLink RX7 31 "LossyChannels$Config" ∈ ev_bw := ev_bg (List.mem_of_getElem? (i := 262) (by decide +kernel)) (by decide +kernel)
theorem CL_RX10_67 : Cond.classLink RX10 67 "LossyChannels$Snapshot" ∈ ev_bw := ev_bg (List.mem_of_getElem? (i := 290) (by decide +kernel)) (by decide +kernel)
theorem CL_RX6_9 : Cond.classLink RX6 9 "LossyChannels$Machine" ∈ ev_bw := ev_bg (List.mem_of_getElem? (i := 296) (by decide +kernel)) (by decide +kernel)
theorem CL_RX6_18 : Cond.classLink RX6 18 "LossyChannels$Config" ∈ ev_bw := ev_bg (List.mem_of_getElem? (i := 298) (by decide +kernel)) (by decide +kernel)
theorem CL_RX6_25 : Cond.classLink RX6 25 "LossyChannels$Configs" ∈ ev_bw := ev_bg (List.mem_of_getElem? (i := 300) (by decide +kernel)) (by decide +kernel)
theorem CL_RL_13 : Cond.classLink RL 13 "java/lang/IllegalArgumentException" ∈ ev_bw := ev_bg (List.mem_of_getElem? (i := 495) (by decide +kernel)) (by decide +kernel)
theorem CL_RL_15 : Cond.classLink RL 15 "java/lang/IllegalStateException" ∈ ev_bw := ev_bg (List.mem_of_getElem? (i := 496) (by decide +kernel)) (by decide +kernel)
theorem CL_RX10_78 : Cond.classLink RX10 78 "java/lang/IllegalArgumentException" ∈ ev_bw := ev_bg (List.mem_of_getElem? (i := 504) (by decide +kernel)) (by decide +kernel)
theorem CL_RX10_97 : Cond.classLink RX10 97 "java/lang/IllegalStateException" ∈ ev_bw := ev_bg (List.mem_of_getElem? (i := 581) (by decide +kernel)) (by decide +kernel)
theorem CL_RL_21 : Cond.classLink RL 21 "java/lang/IndexOutOfBoundsException" ∈ ev_bw := ev_bg (List.mem_of_getElem? (i := 601) (by decide +kernel)) (by decide +kernel)
theorem CL_RX10_255 : Cond.classLink RX10 255 "java/lang/IndexOutOfBoundsException" ∈ ev_bw := ev_bg (List.mem_of_getElem? (i := 611) (by decide +kernel)) (by decide +kernel)
theorem CL_RL_42 : Cond.classLink RL 42 "java/util/NoSuchElementException" ∈ ev_bw := ev_bg (List.mem_of_getElem? (i := 692) (by decide +kernel)) (by decide +kernel)
theorem CL_RX10_349 : Cond.classLink RX10 349 "java/util/NoSuchElementException" ∈ ev_bw := ev_bg (List.mem_of_getElem? (i := 701) (by decide +kernel)) (by decide +kernel)
theorem CL_RL_70 : Cond.classLink RL 70 "java/lang/UnsupportedOperationException" ∈ ev_bw := ev_bg (List.mem_of_getElem? (i := 840) (by decide +kernel)) (by decide +kernel)
theorem CL_RX10_352 : Cond.classLink RX10 352 "java/lang/UnsupportedOperationException" ∈ ev_bw := ev_bg (List.mem_of_getElem? (i := 849) (by decide +kernel)) (by decide +kernel)
theorem CL_RL_118 : Cond.classLink RL 118 "LossyChannelsModel" ∈ ev_bw := ev_bg (List.mem_of_getElem? (i := 1244) (by decide +kernel)) (by decide +kernel)
theorem CI_RX0 : Cond.instantiable RX0 9 ∈ ev_bw ∧ Cond.initialized RX0 ∈ ev_bw := ⟨ev_bg (List.mem_of_getElem? (i := 194) (by decide +kernel)) (by decide +kernel), ev_bg (List.mem_of_getElem? (i := 74) (by decide +kernel)) (by decide +kernel)⟩
theorem CI_RX1 : Cond.instantiable RX1 3 ∈ ev_bw ∧ Cond.initialized RX1 ∈ ev_bw := ⟨ev_bg (List.mem_of_getElem? (i := 115) (by decide +kernel)) (by decide +kernel), ev_bg (List.mem_of_getElem? (i := 69) (by decide +kernel)) (by decide +kernel)⟩
theorem CI_RX2 : Cond.instantiable RX2 4 ∈ ev_bw ∧ Cond.initialized RX2 ∈ ev_bw := ⟨ev_bg (List.mem_of_getElem? (i := 141) (by decide +kernel)) (by decide +kernel), ev_bg (List.mem_of_getElem? (i := 70) (by decide +kernel)) (by decide +kernel)⟩
theorem CI_RX3 : Cond.instantiable RX3 1 ∈ ev_bw ∧ Cond.initialized RX3 ∈ ev_bw := ⟨ev_bg (List.mem_of_getElem? (i := 184) (by decide +kernel)) (by decide +kernel), ev_bg (List.mem_of_getElem? (i := 73) (by decide +kernel)) (by decide +kernel)⟩
theorem CI_RX4 : Cond.instantiable RX4 2 ∈ ev_bw ∧ Cond.initialized RX4 ∈ ev_bw := ⟨ev_bg (List.mem_of_getElem? (i := 101) (by decide +kernel)) (by decide +kernel), ev_bg (List.mem_of_getElem? (i := 68) (by decide +kernel)) (by decide +kernel)⟩
theorem CI_RX5 : Cond.instantiable RX5 3 ∈ ev_bw ∧ Cond.initialized RX5 ∈ ev_bw := ⟨ev_bg (List.mem_of_getElem? (i := 233) (by decide +kernel)) (by decide +kernel), ev_bg (List.mem_of_getElem? (i := 75) (by decide +kernel)) (by decide +kernel)⟩
theorem CI_RX6 : Cond.instantiable RX6 4 ∈ ev_bw ∧ Cond.initialized RX6 ∈ ev_bw := ⟨ev_bg (List.mem_of_getElem? (i := 291) (by decide +kernel)) (by decide +kernel), ev_bg (List.mem_of_getElem? (i := 77) (by decide +kernel)) (by decide +kernel)⟩
theorem CI_RX7 : Cond.instantiable RX7 8 ∈ ev_bw ∧ Cond.initialized RX7 ∈ ev_bw := ⟨ev_bg (List.mem_of_getElem? (i := 253) (by decide +kernel)) (by decide +kernel), ev_bg (List.mem_of_getElem? (i := 76) (by decide +kernel)) (by decide +kernel)⟩
theorem CI_RX8 : Cond.instantiable RX8 3 ∈ ev_bw ∧ Cond.initialized RX8 ∈ ev_bw := ⟨ev_bg (List.mem_of_getElem? (i := 164) (by decide +kernel)) (by decide +kernel), ev_bg (List.mem_of_getElem? (i := 72) (by decide +kernel)) (by decide +kernel)⟩
theorem CI_RX10 : Cond.instantiable RX10 9 ∈ ev_bw ∧ Cond.initialized RX10 ∈ ev_bw := ⟨ev_bg (List.mem_of_getElem? (i := 93) (by decide +kernel)) (by decide +kernel), ev_bg (List.mem_of_getElem? (i := 67) (by decide +kernel)) (by decide +kernel)⟩
theorem CI_RX11 : Cond.instantiable RX11 56 ∈ ev_bw ∧ Cond.initialized RX11 ∈ ev_bw := ⟨ev_bg (List.mem_of_getElem? (i := 1245) (by decide +kernel)) (by decide +kernel), ev_bg (List.mem_of_getElem? (i := 78) (by decide +kernel)) (by decide +kernel)⟩
