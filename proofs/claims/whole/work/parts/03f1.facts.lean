theorem fl_RX0_102 : g_fl RX0 102 9 0 := ⟨(RX9, TX9, 6), rfl, Nat.le_of_ble_eq_true rfl, (List.mem_of_getElem? (i := 213) (by decide +kernel)), cl_9⟩
theorem fl_RX0_12 : g_fl RX0 12 0 0 := ⟨(RX0, TX0, 6), rfl, Nat.le_of_ble_eq_true rfl, (List.mem_of_getElem? (i := 336) (by decide +kernel)), cl_0⟩
theorem fl_RX0_18 : g_fl RX0 18 0 3 := ⟨(RX0, TX0, 6), rfl, Nat.le_of_ble_eq_true rfl, (List.mem_of_getElem? (i := 340) (by decide +kernel)), cl_0⟩
theorem fl_RX0_22 : g_fl RX0 22 0 4 := ⟨(RX0, TX0, 6), rfl, Nat.le_of_ble_eq_true rfl, (List.mem_of_getElem? (i := 341) (by decide +kernel)), cl_0⟩
theorem fl_RX0_25 : g_fl RX0 25 0 5 := ⟨(RX0, TX0, 6), rfl, Nat.le_of_ble_eq_true rfl, (List.mem_of_getElem? (i := 342) (by decide +kernel)), cl_0⟩
theorem fl_RX0_28 : g_fl RX0 28 0 1 := ⟨(RX0, TX0, 6), rfl, Nat.le_of_ble_eq_true rfl, (List.mem_of_getElem? (i := 338) (by decide +kernel)), cl_0⟩
theorem fl_RX0_32 : g_fl RX0 32 0 2 := ⟨(RX0, TX0, 6), rfl, Nat.le_of_ble_eq_true rfl, (List.mem_of_getElem? (i := 339) (by decide +kernel)), cl_0⟩
theorem fl_RX0_50 : g_fl RX0 50 4 0 := ⟨(RX4, TX4, 5), rfl, Nat.le_of_ble_eq_true rfl, (List.mem_of_getElem? (i := 135) (by decide +kernel)), cl_4⟩
theorem fl_RX10_10 : g_fl RX10 10 10 0 := ⟨(RX10, TX10, 13), rfl, Nat.le_of_ble_eq_true rfl, (List.mem_of_getElem? (i := 435) (by decide +kernel)), cl_10⟩
theorem fl_RX10_108 : g_fl RX10 108 6 2 := ⟨(RX6, TX6, 8), rfl, Nat.le_of_ble_eq_true rfl, (List.mem_of_getElem? (i := 171) (by decide +kernel)), cl_6⟩
theorem fl_RX10_111 : g_fl RX10 111 6 0 := ⟨(RX6, TX6, 8), rfl, Nat.le_of_ble_eq_true rfl, (List.mem_of_getElem? (i := 167) (by decide +kernel)), cl_6⟩
theorem fl_RX10_117 : g_fl RX10 117 4 3 := ⟨(RX4, TX4, 5), rfl, Nat.le_of_ble_eq_true rfl, (List.mem_of_getElem? (i := 143) (by decide +kernel)), cl_4⟩
theorem fl_RX10_128 : g_fl RX10 128 2 3 := ⟨(RX2, TX2, 4), rfl, Nat.le_of_ble_eq_true rfl, (List.mem_of_getElem? (i := 401) (by decide +kernel)), cl_2⟩
theorem fl_RX10_131 : g_fl RX10 131 5 3 := ⟨(RX5, TX5, 4), rfl, Nat.le_of_ble_eq_true rfl, (List.mem_of_getElem? (i := 424) (by decide +kernel)), cl_5⟩
theorem fl_RX10_132 : g_fl RX10 132 1 3 := ⟨(RX1, TX1, 7), rfl, Nat.le_of_ble_eq_true rfl, (List.mem_of_getElem? (i := 369) (by decide +kernel)), cl_1⟩
theorem fl_RX10_140 : g_fl RX10 140 4 4 := ⟨(RX4, TX4, 5), rfl, Nat.le_of_ble_eq_true rfl, (List.mem_of_getElem? (i := 145) (by decide +kernel)), cl_4⟩
theorem fl_RX10_143 : g_fl RX10 143 6 3 := ⟨(RX6, TX6, 8), rfl, Nat.le_of_ble_eq_true rfl, (List.mem_of_getElem? (i := 173) (by decide +kernel)), cl_6⟩
theorem fl_RX10_146 : g_fl RX10 146 4 0 := ⟨(RX4, TX4, 5), rfl, Nat.le_of_ble_eq_true rfl, (List.mem_of_getElem? (i := 136) (by decide +kernel)), cl_4⟩
theorem fl_RX10_149 : g_fl RX10 149 1 0 := ⟨(RX1, TX1, 7), rfl, Nat.le_of_ble_eq_true rfl, (List.mem_of_getElem? (i := 364) (by decide +kernel)), cl_1⟩
theorem fl_RX10_156 : g_fl RX10 156 4 2 := ⟨(RX4, TX4, 5), rfl, Nat.le_of_ble_eq_true rfl, (List.mem_of_getElem? (i := 140) (by decide +kernel)), cl_4⟩
theorem fl_RX10_159 : g_fl RX10 159 1 1 := ⟨(RX1, TX1, 7), rfl, Nat.le_of_ble_eq_true rfl, (List.mem_of_getElem? (i := 366) (by decide +kernel)), cl_1⟩
theorem fl_RX10_19 : g_fl RX10 19 10 1 := ⟨(RX10, TX10, 13), rfl, Nat.le_of_ble_eq_true rfl, (List.mem_of_getElem? (i := 436) (by decide +kernel)), cl_10⟩
theorem fl_RX10_217 : g_fl RX10 217 9 0 := ⟨(RX9, TX9, 6), rfl, Nat.le_of_ble_eq_true rfl, (List.mem_of_getElem? (i := 214) (by decide +kernel)), cl_9⟩
theorem fl_RX10_275 : g_fl RX10 275 0 0 := ⟨(RX0, TX0, 6), rfl, Nat.le_of_ble_eq_true rfl, (List.mem_of_getElem? (i := 337) (by decide +kernel)), cl_0⟩
theorem fl_RX10_28 : g_fl RX10 28 10 2 := ⟨(RX10, TX10, 13), rfl, Nat.le_of_ble_eq_true rfl, (List.mem_of_getElem? (i := 437) (by decide +kernel)), cl_10⟩
theorem fl_RX10_310 : g_fl RX10 310 2 2 := ⟨(RX2, TX2, 4), rfl, Nat.le_of_ble_eq_true rfl, (List.mem_of_getElem? (i := 399) (by decide +kernel)), cl_2⟩
theorem fl_RX10_313 : g_fl RX10 313 5 2 := ⟨(RX5, TX5, 4), rfl, Nat.le_of_ble_eq_true rfl, (List.mem_of_getElem? (i := 422) (by decide +kernel)), cl_5⟩
theorem fl_RX10_316 : g_fl RX10 316 5 0 := ⟨(RX5, TX5, 4), rfl, Nat.le_of_ble_eq_true rfl, (List.mem_of_getElem? (i := 418) (by decide +kernel)), cl_5⟩
theorem fl_RX10_322 : g_fl RX10 322 5 1 := ⟨(RX5, TX5, 4), rfl, Nat.le_of_ble_eq_true rfl, (List.mem_of_getElem? (i := 420) (by decide +kernel)), cl_5⟩
theorem fl_RX10_325 : g_fl RX10 325 1 2 := ⟨(RX1, TX1, 7), rfl, Nat.le_of_ble_eq_true rfl, (List.mem_of_getElem? (i := 368) (by decide +kernel)), cl_1⟩
theorem fl_RX10_337 : g_fl RX10 337 2 0 := ⟨(RX2, TX2, 4), rfl, Nat.le_of_ble_eq_true rfl, (List.mem_of_getElem? (i := 395) (by decide +kernel)), cl_2⟩
theorem fl_RX10_340 : g_fl RX10 340 2 1 := ⟨(RX2, TX2, 4), rfl, Nat.le_of_ble_eq_true rfl, (List.mem_of_getElem? (i := 397) (by decide +kernel)), cl_2⟩
theorem fl_RX10_35 : g_fl RX10 35 10 3 := ⟨(RX10, TX10, 13), rfl, Nat.le_of_ble_eq_true rfl, (List.mem_of_getElem? (i := 438) (by decide +kernel)), cl_10⟩
theorem fl_RX10_44 : g_fl RX10 44 10 4 := ⟨(RX10, TX10, 13), rfl, Nat.le_of_ble_eq_true rfl, (List.mem_of_getElem? (i := 439) (by decide +kernel)), cl_10⟩
theorem fl_RX10_53 : g_fl RX10 53 10 5 := ⟨(RX10, TX10, 13), rfl, Nat.le_of_ble_eq_true rfl, (List.mem_of_getElem? (i := 440) (by decide +kernel)), cl_10⟩
theorem fl_RX10_60 : g_fl RX10 60 10 6 := ⟨(RX10, TX10, 13), rfl, Nat.le_of_ble_eq_true rfl, (List.mem_of_getElem? (i := 441) (by decide +kernel)), cl_10⟩
theorem fl_RX10_64 : g_fl RX10 64 10 7 := ⟨(RX10, TX10, 13), rfl, Nat.le_of_ble_eq_true rfl, (List.mem_of_getElem? (i := 442) (by decide +kernel)), cl_10⟩
theorem fl_RX10_67 : g_fl RX10 67 10 8 := ⟨(RX10, TX10, 13), rfl, Nat.le_of_ble_eq_true rfl, (List.mem_of_getElem? (i := 443) (by decide +kernel)), cl_10⟩
theorem fl_RX10_73 : g_fl RX10 73 10 9 := ⟨(RX10, TX10, 13), rfl, Nat.le_of_ble_eq_true rfl, (List.mem_of_getElem? (i := 444) (by decide +kernel)), cl_10⟩
theorem fl_RX10_80 : g_fl RX10 80 10 10 := ⟨(RX10, TX10, 13), rfl, Nat.le_of_ble_eq_true rfl, (List.mem_of_getElem? (i := 445) (by decide +kernel)), cl_10⟩
theorem fl_RX10_84 : g_fl RX10 84 10 11 := ⟨(RX10, TX10, 13), rfl, Nat.le_of_ble_eq_true rfl, (List.mem_of_getElem? (i := 446) (by decide +kernel)), cl_10⟩
theorem fl_RX10_92 : g_fl RX10 92 10 12 := ⟨(RX10, TX10, 13), rfl, Nat.le_of_ble_eq_true rfl, (List.mem_of_getElem? (i := 447) (by decide +kernel)), cl_10⟩
theorem fl_RX10_97 : g_fl RX10 97 6 1 := ⟨(RX6, TX6, 8), rfl, Nat.le_of_ble_eq_true rfl, (List.mem_of_getElem? (i := 169) (by decide +kernel)), cl_6⟩
theorem fl_RX11_100 : g_fl RX11 100 11 45 := ⟨(RX11, TX11, 62), rfl, Nat.le_of_ble_eq_true rfl, (List.mem_of_getElem? (i := 1209) (by decide +kernel)), cl_11⟩
theorem fl_RX11_103 : g_fl RX11 103 11 46 := ⟨(RX11, TX11, 62), rfl, Nat.le_of_ble_eq_true rfl, (List.mem_of_getElem? (i := 1210) (by decide +kernel)), cl_11⟩
theorem fl_RX11_106 : g_fl RX11 106 11 47 := ⟨(RX11, TX11, 62), rfl, Nat.le_of_ble_eq_true rfl, (List.mem_of_getElem? (i := 1211) (by decide +kernel)), cl_11⟩
theorem fl_RX11_109 : g_fl RX11 109 11 48 := ⟨(RX11, TX11, 62), rfl, Nat.le_of_ble_eq_true rfl, (List.mem_of_getElem? (i := 1212) (by decide +kernel)), cl_11⟩
theorem fl_RX11_112 : g_fl RX11 112 11 52 := ⟨(RX11, TX11, 62), rfl, Nat.le_of_ble_eq_true rfl, (List.mem_of_getElem? (i := 1216) (by decide +kernel)), cl_11⟩
theorem fl_RX11_115 : g_fl RX11 115 11 53 := ⟨(RX11, TX11, 62), rfl, Nat.le_of_ble_eq_true rfl, (List.mem_of_getElem? (i := 1217) (by decide +kernel)), cl_11⟩
theorem fl_RX11_118 : g_fl RX11 118 11 54 := ⟨(RX11, TX11, 62), rfl, Nat.le_of_ble_eq_true rfl, (List.mem_of_getElem? (i := 1218) (by decide +kernel)), cl_11⟩
theorem fl_RX11_121 : g_fl RX11 121 11 55 := ⟨(RX11, TX11, 62), rfl, Nat.le_of_ble_eq_true rfl, (List.mem_of_getElem? (i := 1219) (by decide +kernel)), cl_11⟩
theorem fl_RX11_124 : g_fl RX11 124 11 57 := ⟨(RX11, TX11, 62), rfl, Nat.le_of_ble_eq_true rfl, (List.mem_of_getElem? (i := 1221) (by decide +kernel)), cl_11⟩
theorem fl_RX11_127 : g_fl RX11 127 11 58 := ⟨(RX11, TX11, 62), rfl, Nat.le_of_ble_eq_true rfl, (List.mem_of_getElem? (i := 1222) (by decide +kernel)), cl_11⟩
theorem fl_RX11_13 : g_fl RX11 13 11 2 := ⟨(RX11, TX11, 62), rfl, Nat.le_of_ble_eq_true rfl, (List.mem_of_getElem? (i := 1166) (by decide +kernel)), cl_11⟩
theorem fl_RX11_130 : g_fl RX11 130 11 59 := ⟨(RX11, TX11, 62), rfl, Nat.le_of_ble_eq_true rfl, (List.mem_of_getElem? (i := 1223) (by decide +kernel)), cl_11⟩
theorem fl_RX11_133 : g_fl RX11 133 11 60 := ⟨(RX11, TX11, 62), rfl, Nat.le_of_ble_eq_true rfl, (List.mem_of_getElem? (i := 1224) (by decide +kernel)), cl_11⟩
theorem fl_RX11_136 : g_fl RX11 136 11 61 := ⟨(RX11, TX11, 62), rfl, Nat.le_of_ble_eq_true rfl, (List.mem_of_getElem? (i := 1225) (by decide +kernel)), cl_11⟩
theorem fl_RX11_139 : g_fl RX11 139 11 0 := ⟨(RX11, TX11, 62), rfl, Nat.le_of_ble_eq_true rfl, (List.mem_of_getElem? (i := 1164) (by decide +kernel)), cl_11⟩
theorem fl_RX11_153 : g_fl RX11 153 11 14 := ⟨(RX11, TX11, 62), rfl, Nat.le_of_ble_eq_true rfl, (List.mem_of_getElem? (i := 1178) (by decide +kernel)), cl_11⟩
theorem fl_RX11_159 : g_fl RX11 159 11 16 := ⟨(RX11, TX11, 62), rfl, Nat.le_of_ble_eq_true rfl, (List.mem_of_getElem? (i := 1180) (by decide +kernel)), cl_11⟩
theorem fl_RX11_16 : g_fl RX11 16 11 3 := ⟨(RX11, TX11, 62), rfl, Nat.le_of_ble_eq_true rfl, (List.mem_of_getElem? (i := 1167) (by decide +kernel)), cl_11⟩
theorem fl_RX11_166 : g_fl RX11 166 11 17 := ⟨(RX11, TX11, 62), rfl, Nat.le_of_ble_eq_true rfl, (List.mem_of_getElem? (i := 1181) (by decide +kernel)), cl_11⟩
theorem fl_RX11_170 : g_fl RX11 170 11 18 := ⟨(RX11, TX11, 62), rfl, Nat.le_of_ble_eq_true rfl, (List.mem_of_getElem? (i := 1182) (by decide +kernel)), cl_11⟩
theorem fl_RX11_19 : g_fl RX11 19 11 4 := ⟨(RX11, TX11, 62), rfl, Nat.le_of_ble_eq_true rfl, (List.mem_of_getElem? (i := 1168) (by decide +kernel)), cl_11⟩
theorem fl_RX11_193 : g_fl RX11 193 11 20 := ⟨(RX11, TX11, 62), rfl, Nat.le_of_ble_eq_true rfl, (List.mem_of_getElem? (i := 1184) (by decide +kernel)), cl_11⟩
theorem fl_RX11_196 : g_fl RX11 196 11 19 := ⟨(RX11, TX11, 62), rfl, Nat.le_of_ble_eq_true rfl, (List.mem_of_getElem? (i := 1183) (by decide +kernel)), cl_11⟩
theorem fl_RX11_199 : g_fl RX11 199 11 21 := ⟨(RX11, TX11, 62), rfl, Nat.le_of_ble_eq_true rfl, (List.mem_of_getElem? (i := 1185) (by decide +kernel)), cl_11⟩
theorem fl_RX11_22 : g_fl RX11 22 11 5 := ⟨(RX11, TX11, 62), rfl, Nat.le_of_ble_eq_true rfl, (List.mem_of_getElem? (i := 1169) (by decide +kernel)), cl_11⟩
theorem fl_RX11_237 : g_fl RX11 237 11 26 := ⟨(RX11, TX11, 62), rfl, Nat.le_of_ble_eq_true rfl, (List.mem_of_getElem? (i := 1190) (by decide +kernel)), cl_11⟩
theorem fl_RX11_245 : g_fl RX11 245 11 8 := ⟨(RX11, TX11, 62), rfl, Nat.le_of_ble_eq_true rfl, (List.mem_of_getElem? (i := 1172) (by decide +kernel)), cl_11⟩
theorem fl_RX11_248 : g_fl RX11 248 11 51 := ⟨(RX11, TX11, 62), rfl, Nat.le_of_ble_eq_true rfl, (List.mem_of_getElem? (i := 1215) (by decide +kernel)), cl_11⟩
theorem fl_RX11_25 : g_fl RX11 25 11 6 := ⟨(RX11, TX11, 62), rfl, Nat.le_of_ble_eq_true rfl, (List.mem_of_getElem? (i := 1170) (by decide +kernel)), cl_11⟩
theorem fl_RX11_251 : g_fl RX11 251 11 56 := ⟨(RX11, TX11, 62), rfl, Nat.le_of_ble_eq_true rfl, (List.mem_of_getElem? (i := 1220) (by decide +kernel)), cl_11⟩
theorem fl_RX11_257 : g_fl RX11 257 11 7 := ⟨(RX11, TX11, 62), rfl, Nat.le_of_ble_eq_true rfl, (List.mem_of_getElem? (i := 1171) (by decide +kernel)), cl_11⟩
theorem fl_RX11_28 : g_fl RX11 28 11 9 := ⟨(RX11, TX11, 62), rfl, Nat.le_of_ble_eq_true rfl, (List.mem_of_getElem? (i := 1173) (by decide +kernel)), cl_11⟩
theorem fl_RX11_31 : g_fl RX11 31 11 10 := ⟨(RX11, TX11, 62), rfl, Nat.le_of_ble_eq_true rfl, (List.mem_of_getElem? (i := 1174) (by decide +kernel)), cl_11⟩
theorem fl_RX11_327 : g_fl RX11 327 11 12 := ⟨(RX11, TX11, 62), rfl, Nat.le_of_ble_eq_true rfl, (List.mem_of_getElem? (i := 1176) (by decide +kernel)), cl_11⟩
theorem fl_RX11_34 : g_fl RX11 34 11 11 := ⟨(RX11, TX11, 62), rfl, Nat.le_of_ble_eq_true rfl, (List.mem_of_getElem? (i := 1175) (by decide +kernel)), cl_11⟩
theorem fl_RX11_356 : g_fl RX11 356 11 32 := ⟨(RX11, TX11, 62), rfl, Nat.le_of_ble_eq_true rfl, (List.mem_of_getElem? (i := 1196) (by decide +kernel)), cl_11⟩
theorem fl_RX11_359 : g_fl RX11 359 11 33 := ⟨(RX11, TX11, 62), rfl, Nat.le_of_ble_eq_true rfl, (List.mem_of_getElem? (i := 1197) (by decide +kernel)), cl_11⟩
theorem fl_RX11_37 : g_fl RX11 37 11 13 := ⟨(RX11, TX11, 62), rfl, Nat.le_of_ble_eq_true rfl, (List.mem_of_getElem? (i := 1177) (by decide +kernel)), cl_11⟩
theorem fl_RX11_383 : g_fl RX11 383 11 43 := ⟨(RX11, TX11, 62), rfl, Nat.le_of_ble_eq_true rfl, (List.mem_of_getElem? (i := 1207) (by decide +kernel)), cl_11⟩
theorem fl_RX11_386 : g_fl RX11 386 11 44 := ⟨(RX11, TX11, 62), rfl, Nat.le_of_ble_eq_true rfl, (List.mem_of_getElem? (i := 1208) (by decide +kernel)), cl_11⟩
theorem fl_RX11_398 : g_fl RX11 398 11 49 := ⟨(RX11, TX11, 62), rfl, Nat.le_of_ble_eq_true rfl, (List.mem_of_getElem? (i := 1213) (by decide +kernel)), cl_11⟩
theorem fl_RX11_40 : g_fl RX11 40 11 15 := ⟨(RX11, TX11, 62), rfl, Nat.le_of_ble_eq_true rfl, (List.mem_of_getElem? (i := 1179) (by decide +kernel)), cl_11⟩
theorem fl_RX11_401 : g_fl RX11 401 11 50 := ⟨(RX11, TX11, 62), rfl, Nat.le_of_ble_eq_true rfl, (List.mem_of_getElem? (i := 1214) (by decide +kernel)), cl_11⟩
theorem fl_RX11_44 : g_fl RX11 44 11 22 := ⟨(RX11, TX11, 62), rfl, Nat.le_of_ble_eq_true rfl, (List.mem_of_getElem? (i := 1186) (by decide +kernel)), cl_11⟩
theorem fl_RX11_47 : g_fl RX11 47 11 23 := ⟨(RX11, TX11, 62), rfl, Nat.le_of_ble_eq_true rfl, (List.mem_of_getElem? (i := 1187) (by decide +kernel)), cl_11⟩
theorem fl_RX11_50 : g_fl RX11 50 11 24 := ⟨(RX11, TX11, 62), rfl, Nat.le_of_ble_eq_true rfl, (List.mem_of_getElem? (i := 1188) (by decide +kernel)), cl_11⟩
theorem fl_RX11_53 : g_fl RX11 53 11 25 := ⟨(RX11, TX11, 62), rfl, Nat.le_of_ble_eq_true rfl, (List.mem_of_getElem? (i := 1189) (by decide +kernel)), cl_11⟩
theorem fl_RX11_56 : g_fl RX11 56 11 27 := ⟨(RX11, TX11, 62), rfl, Nat.le_of_ble_eq_true rfl, (List.mem_of_getElem? (i := 1191) (by decide +kernel)), cl_11⟩
theorem fl_RX11_59 : g_fl RX11 59 11 28 := ⟨(RX11, TX11, 62), rfl, Nat.le_of_ble_eq_true rfl, (List.mem_of_getElem? (i := 1192) (by decide +kernel)), cl_11⟩
theorem fl_RX11_62 : g_fl RX11 62 11 29 := ⟨(RX11, TX11, 62), rfl, Nat.le_of_ble_eq_true rfl, (List.mem_of_getElem? (i := 1193) (by decide +kernel)), cl_11⟩
theorem fl_RX11_66 : g_fl RX11 66 11 30 := ⟨(RX11, TX11, 62), rfl, Nat.le_of_ble_eq_true rfl, (List.mem_of_getElem? (i := 1194) (by decide +kernel)), cl_11⟩
theorem fl_RX11_69 : g_fl RX11 69 11 31 := ⟨(RX11, TX11, 62), rfl, Nat.le_of_ble_eq_true rfl, (List.mem_of_getElem? (i := 1195) (by decide +kernel)), cl_11⟩
theorem fl_RX11_7 : g_fl RX11 7 11 1 := ⟨(RX11, TX11, 62), rfl, Nat.le_of_ble_eq_true rfl, (List.mem_of_getElem? (i := 1165) (by decide +kernel)), cl_11⟩
theorem fl_RX11_72 : g_fl RX11 72 11 34 := ⟨(RX11, TX11, 62), rfl, Nat.le_of_ble_eq_true rfl, (List.mem_of_getElem? (i := 1198) (by decide +kernel)), cl_11⟩
theorem fl_RX11_75 : g_fl RX11 75 11 35 := ⟨(RX11, TX11, 62), rfl, Nat.le_of_ble_eq_true rfl, (List.mem_of_getElem? (i := 1199) (by decide +kernel)), cl_11⟩
theorem fl_RX11_78 : g_fl RX11 78 11 36 := ⟨(RX11, TX11, 62), rfl, Nat.le_of_ble_eq_true rfl, (List.mem_of_getElem? (i := 1200) (by decide +kernel)), cl_11⟩
theorem fl_RX11_81 : g_fl RX11 81 11 37 := ⟨(RX11, TX11, 62), rfl, Nat.le_of_ble_eq_true rfl, (List.mem_of_getElem? (i := 1201) (by decide +kernel)), cl_11⟩
theorem fl_RX11_84 : g_fl RX11 84 11 38 := ⟨(RX11, TX11, 62), rfl, Nat.le_of_ble_eq_true rfl, (List.mem_of_getElem? (i := 1202) (by decide +kernel)), cl_11⟩
theorem fl_RX11_87 : g_fl RX11 87 11 39 := ⟨(RX11, TX11, 62), rfl, Nat.le_of_ble_eq_true rfl, (List.mem_of_getElem? (i := 1203) (by decide +kernel)), cl_11⟩
theorem fl_RX11_90 : g_fl RX11 90 11 40 := ⟨(RX11, TX11, 62), rfl, Nat.le_of_ble_eq_true rfl, (List.mem_of_getElem? (i := 1204) (by decide +kernel)), cl_11⟩
theorem fl_RX11_93 : g_fl RX11 93 11 41 := ⟨(RX11, TX11, 62), rfl, Nat.le_of_ble_eq_true rfl, (List.mem_of_getElem? (i := 1205) (by decide +kernel)), cl_11⟩
theorem fl_RX11_96 : g_fl RX11 96 11 42 := ⟨(RX11, TX11, 62), rfl, Nat.le_of_ble_eq_true rfl, (List.mem_of_getElem? (i := 1206) (by decide +kernel)), cl_11⟩
theorem fl_RX1_15 : g_fl RX1 15 1 4 := ⟨(RX1, TX1, 7), rfl, Nat.le_of_ble_eq_true rfl, (List.mem_of_getElem? (i := 370) (by decide +kernel)), cl_1⟩
theorem fl_RX1_18 : g_fl RX1 18 1 5 := ⟨(RX1, TX1, 7), rfl, Nat.le_of_ble_eq_true rfl, (List.mem_of_getElem? (i := 371) (by decide +kernel)), cl_1⟩
theorem fl_RX1_21 : g_fl RX1 21 1 6 := ⟨(RX1, TX1, 7), rfl, Nat.le_of_ble_eq_true rfl, (List.mem_of_getElem? (i := 372) (by decide +kernel)), cl_1⟩
theorem fl_RX1_32 : g_fl RX1 32 1 1 := ⟨(RX1, TX1, 7), rfl, Nat.le_of_ble_eq_true rfl, (List.mem_of_getElem? (i := 365) (by decide +kernel)), cl_1⟩
theorem fl_RX1_36 : g_fl RX1 36 1 2 := ⟨(RX1, TX1, 7), rfl, Nat.le_of_ble_eq_true rfl, (List.mem_of_getElem? (i := 367) (by decide +kernel)), cl_1⟩
theorem fl_RX1_9 : g_fl RX1 9 1 0 := ⟨(RX1, TX1, 7), rfl, Nat.le_of_ble_eq_true rfl, (List.mem_of_getElem? (i := 363) (by decide +kernel)), cl_1⟩
theorem fl_RX2_15 : g_fl RX2 15 2 1 := ⟨(RX2, TX2, 4), rfl, Nat.le_of_ble_eq_true rfl, (List.mem_of_getElem? (i := 396) (by decide +kernel)), cl_2⟩
theorem fl_RX2_21 : g_fl RX2 21 2 3 := ⟨(RX2, TX2, 4), rfl, Nat.le_of_ble_eq_true rfl, (List.mem_of_getElem? (i := 400) (by decide +kernel)), cl_2⟩
theorem fl_RX2_9 : g_fl RX2 9 2 0 := ⟨(RX2, TX2, 4), rfl, Nat.le_of_ble_eq_true rfl, (List.mem_of_getElem? (i := 394) (by decide +kernel)), cl_2⟩
theorem fl_RX3_15 : g_fl RX3 15 3 3 := ⟨(RX3, TX3, 10), rfl, Nat.le_of_ble_eq_true rfl, (List.mem_of_getElem? (i := 306) (by decide +kernel)), cl_3⟩
theorem fl_RX3_19 : g_fl RX3 19 3 4 := ⟨(RX3, TX3, 10), rfl, Nat.le_of_ble_eq_true rfl, (List.mem_of_getElem? (i := 307) (by decide +kernel)), cl_3⟩
theorem fl_RX3_22 : g_fl RX3 22 3 5 := ⟨(RX3, TX3, 10), rfl, Nat.le_of_ble_eq_true rfl, (List.mem_of_getElem? (i := 308) (by decide +kernel)), cl_3⟩
theorem fl_RX3_25 : g_fl RX3 25 3 6 := ⟨(RX3, TX3, 10), rfl, Nat.le_of_ble_eq_true rfl, (List.mem_of_getElem? (i := 309) (by decide +kernel)), cl_3⟩
theorem fl_RX3_28 : g_fl RX3 28 3 7 := ⟨(RX3, TX3, 10), rfl, Nat.le_of_ble_eq_true rfl, (List.mem_of_getElem? (i := 310) (by decide +kernel)), cl_3⟩
theorem fl_RX3_37 : g_fl RX3 37 3 0 := ⟨(RX3, TX3, 10), rfl, Nat.le_of_ble_eq_true rfl, (List.mem_of_getElem? (i := 303) (by decide +kernel)), cl_3⟩
theorem fl_RX3_41 : g_fl RX3 41 3 1 := ⟨(RX3, TX3, 10), rfl, Nat.le_of_ble_eq_true rfl, (List.mem_of_getElem? (i := 304) (by decide +kernel)), cl_3⟩
theorem fl_RX3_44 : g_fl RX3 44 3 8 := ⟨(RX3, TX3, 10), rfl, Nat.le_of_ble_eq_true rfl, (List.mem_of_getElem? (i := 311) (by decide +kernel)), cl_3⟩
theorem fl_RX3_48 : g_fl RX3 48 3 9 := ⟨(RX3, TX3, 10), rfl, Nat.le_of_ble_eq_true rfl, (List.mem_of_getElem? (i := 312) (by decide +kernel)), cl_3⟩
theorem fl_RX3_9 : g_fl RX3 9 3 2 := ⟨(RX3, TX3, 10), rfl, Nat.le_of_ble_eq_true rfl, (List.mem_of_getElem? (i := 305) (by decide +kernel)), cl_3⟩
theorem fl_RX4_15 : g_fl RX4 15 4 2 := ⟨(RX4, TX4, 5), rfl, Nat.le_of_ble_eq_true rfl, (List.mem_of_getElem? (i := 139) (by decide +kernel)), cl_4⟩
theorem fl_RX4_18 : g_fl RX4 18 4 3 := ⟨(RX4, TX4, 5), rfl, Nat.le_of_ble_eq_true rfl, (List.mem_of_getElem? (i := 142) (by decide +kernel)), cl_4⟩
theorem fl_RX4_21 : g_fl RX4 21 4 4 := ⟨(RX4, TX4, 5), rfl, Nat.le_of_ble_eq_true rfl, (List.mem_of_getElem? (i := 144) (by decide +kernel)), cl_4⟩
theorem fl_RX4_27 : g_fl RX4 27 4 0 := ⟨(RX4, TX4, 5), rfl, Nat.le_of_ble_eq_true rfl, (List.mem_of_getElem? (i := 133) (by decide +kernel)), cl_4⟩
theorem fl_RX4_9 : g_fl RX4 9 4 1 := ⟨(RX4, TX4, 5), rfl, Nat.le_of_ble_eq_true rfl, (List.mem_of_getElem? (i := 138) (by decide +kernel)), cl_4⟩
theorem fl_RX5_15 : g_fl RX5 15 5 1 := ⟨(RX5, TX5, 4), rfl, Nat.le_of_ble_eq_true rfl, (List.mem_of_getElem? (i := 419) (by decide +kernel)), cl_5⟩
theorem fl_RX5_18 : g_fl RX5 18 5 2 := ⟨(RX5, TX5, 4), rfl, Nat.le_of_ble_eq_true rfl, (List.mem_of_getElem? (i := 421) (by decide +kernel)), cl_5⟩
theorem fl_RX5_21 : g_fl RX5 21 5 3 := ⟨(RX5, TX5, 4), rfl, Nat.le_of_ble_eq_true rfl, (List.mem_of_getElem? (i := 423) (by decide +kernel)), cl_5⟩
theorem fl_RX5_9 : g_fl RX5 9 5 0 := ⟨(RX5, TX5, 4), rfl, Nat.le_of_ble_eq_true rfl, (List.mem_of_getElem? (i := 417) (by decide +kernel)), cl_5⟩
theorem fl_RX6_12 : g_fl RX6 12 6 0 := ⟨(RX6, TX6, 8), rfl, Nat.le_of_ble_eq_true rfl, (List.mem_of_getElem? (i := 166) (by decide +kernel)), cl_6⟩
theorem fl_RX6_133 : g_fl RX6 133 4 2 := ⟨(RX4, TX4, 5), rfl, Nat.le_of_ble_eq_true rfl, (List.mem_of_getElem? (i := 141) (by decide +kernel)), cl_4⟩
theorem fl_RX6_22 : g_fl RX6 22 6 4 := ⟨(RX6, TX6, 8), rfl, Nat.le_of_ble_eq_true rfl, (List.mem_of_getElem? (i := 174) (by decide +kernel)), cl_6⟩
theorem fl_RX6_26 : g_fl RX6 26 6 1 := ⟨(RX6, TX6, 8), rfl, Nat.le_of_ble_eq_true rfl, (List.mem_of_getElem? (i := 168) (by decide +kernel)), cl_6⟩
theorem fl_RX6_38 : g_fl RX6 38 6 2 := ⟨(RX6, TX6, 8), rfl, Nat.le_of_ble_eq_true rfl, (List.mem_of_getElem? (i := 170) (by decide +kernel)), cl_6⟩
theorem fl_RX6_41 : g_fl RX6 41 6 5 := ⟨(RX6, TX6, 8), rfl, Nat.le_of_ble_eq_true rfl, (List.mem_of_getElem? (i := 175) (by decide +kernel)), cl_6⟩
theorem fl_RX6_44 : g_fl RX6 44 6 7 := ⟨(RX6, TX6, 8), rfl, Nat.le_of_ble_eq_true rfl, (List.mem_of_getElem? (i := 177) (by decide +kernel)), cl_6⟩
theorem fl_RX6_62 : g_fl RX6 62 4 0 := ⟨(RX4, TX4, 5), rfl, Nat.le_of_ble_eq_true rfl, (List.mem_of_getElem? (i := 137) (by decide +kernel)), cl_4⟩
theorem fl_RX6_65 : g_fl RX6 65 6 6 := ⟨(RX6, TX6, 8), rfl, Nat.le_of_ble_eq_true rfl, (List.mem_of_getElem? (i := 176) (by decide +kernel)), cl_6⟩
theorem fl_RX7_9 : g_fl RX7 9 7 0 := ⟨(RX7, TX7, 1), rfl, Nat.le_of_ble_eq_true rfl, (List.mem_of_getElem? (i := 201) (by decide +kernel)), cl_7⟩
theorem fl_RX8_103 : g_fl RX8 103 8 12 := ⟨(RX8, TX8, 17), rfl, Nat.le_of_ble_eq_true rfl, (List.mem_of_getElem? (i := 251) (by decide +kernel)), cl_8⟩
theorem fl_RX8_15 : g_fl RX8 15 8 7 := ⟨(RX8, TX8, 17), rfl, Nat.le_of_ble_eq_true rfl, (List.mem_of_getElem? (i := 246) (by decide +kernel)), cl_8⟩
theorem fl_RX8_18 : g_fl RX8 18 8 8 := ⟨(RX8, TX8, 17), rfl, Nat.le_of_ble_eq_true rfl, (List.mem_of_getElem? (i := 247) (by decide +kernel)), cl_8⟩
theorem fl_RX8_21 : g_fl RX8 21 8 9 := ⟨(RX8, TX8, 17), rfl, Nat.le_of_ble_eq_true rfl, (List.mem_of_getElem? (i := 248) (by decide +kernel)), cl_8⟩
theorem fl_RX8_24 : g_fl RX8 24 8 10 := ⟨(RX8, TX8, 17), rfl, Nat.le_of_ble_eq_true rfl, (List.mem_of_getElem? (i := 249) (by decide +kernel)), cl_8⟩
theorem fl_RX8_27 : g_fl RX8 27 8 11 := ⟨(RX8, TX8, 17), rfl, Nat.le_of_ble_eq_true rfl, (List.mem_of_getElem? (i := 250) (by decide +kernel)), cl_8⟩
theorem fl_RX8_30 : g_fl RX8 30 8 13 := ⟨(RX8, TX8, 17), rfl, Nat.le_of_ble_eq_true rfl, (List.mem_of_getElem? (i := 252) (by decide +kernel)), cl_8⟩
theorem fl_RX8_33 : g_fl RX8 33 8 14 := ⟨(RX8, TX8, 17), rfl, Nat.le_of_ble_eq_true rfl, (List.mem_of_getElem? (i := 253) (by decide +kernel)), cl_8⟩
theorem fl_RX8_36 : g_fl RX8 36 8 15 := ⟨(RX8, TX8, 17), rfl, Nat.le_of_ble_eq_true rfl, (List.mem_of_getElem? (i := 254) (by decide +kernel)), cl_8⟩
theorem fl_RX8_39 : g_fl RX8 39 8 16 := ⟨(RX8, TX8, 17), rfl, Nat.le_of_ble_eq_true rfl, (List.mem_of_getElem? (i := 255) (by decide +kernel)), cl_8⟩
theorem fl_RX8_42 : g_fl RX8 42 8 0 := ⟨(RX8, TX8, 17), rfl, Nat.le_of_ble_eq_true rfl, (List.mem_of_getElem? (i := 239) (by decide +kernel)), cl_8⟩
theorem fl_RX8_46 : g_fl RX8 46 8 1 := ⟨(RX8, TX8, 17), rfl, Nat.le_of_ble_eq_true rfl, (List.mem_of_getElem? (i := 240) (by decide +kernel)), cl_8⟩
theorem fl_RX8_50 : g_fl RX8 50 8 2 := ⟨(RX8, TX8, 17), rfl, Nat.le_of_ble_eq_true rfl, (List.mem_of_getElem? (i := 241) (by decide +kernel)), cl_8⟩
theorem fl_RX8_54 : g_fl RX8 54 8 3 := ⟨(RX8, TX8, 17), rfl, Nat.le_of_ble_eq_true rfl, (List.mem_of_getElem? (i := 242) (by decide +kernel)), cl_8⟩
theorem fl_RX8_62 : g_fl RX8 62 8 4 := ⟨(RX8, TX8, 17), rfl, Nat.le_of_ble_eq_true rfl, (List.mem_of_getElem? (i := 243) (by decide +kernel)), cl_8⟩
theorem fl_RX8_66 : g_fl RX8 66 8 5 := ⟨(RX8, TX8, 17), rfl, Nat.le_of_ble_eq_true rfl, (List.mem_of_getElem? (i := 244) (by decide +kernel)), cl_8⟩
theorem fl_RX8_83 : g_fl RX8 83 9 0 := ⟨(RX9, TX9, 6), rfl, Nat.le_of_ble_eq_true rfl, (List.mem_of_getElem? (i := 212) (by decide +kernel)), cl_9⟩
theorem fl_RX8_9 : g_fl RX8 9 8 6 := ⟨(RX8, TX8, 17), rfl, Nat.le_of_ble_eq_true rfl, (List.mem_of_getElem? (i := 245) (by decide +kernel)), cl_8⟩
theorem fl_RX9_15 : g_fl RX9 15 9 2 := ⟨(RX9, TX9, 6), rfl, Nat.le_of_ble_eq_true rfl, (List.mem_of_getElem? (i := 216) (by decide +kernel)), cl_9⟩
theorem fl_RX9_18 : g_fl RX9 18 9 3 := ⟨(RX9, TX9, 6), rfl, Nat.le_of_ble_eq_true rfl, (List.mem_of_getElem? (i := 217) (by decide +kernel)), cl_9⟩
theorem fl_RX9_21 : g_fl RX9 21 9 4 := ⟨(RX9, TX9, 6), rfl, Nat.le_of_ble_eq_true rfl, (List.mem_of_getElem? (i := 218) (by decide +kernel)), cl_9⟩
theorem fl_RX9_24 : g_fl RX9 24 9 5 := ⟨(RX9, TX9, 6), rfl, Nat.le_of_ble_eq_true rfl, (List.mem_of_getElem? (i := 219) (by decide +kernel)), cl_9⟩
theorem fl_RX9_27 : g_fl RX9 27 9 1 := ⟨(RX9, TX9, 6), rfl, Nat.le_of_ble_eq_true rfl, (List.mem_of_getElem? (i := 215) (by decide +kernel)), cl_9⟩
theorem fl_RX9_57 : g_fl RX9 57 4 0 := ⟨(RX4, TX4, 5), rfl, Nat.le_of_ble_eq_true rfl, (List.mem_of_getElem? (i := 134) (by decide +kernel)), cl_4⟩
theorem fl_RX9_9 : g_fl RX9 9 9 0 := ⟨(RX9, TX9, 6), rfl, Nat.le_of_ble_eq_true rfl, (List.mem_of_getElem? (i := 211) (by decide +kernel)), cl_9⟩
theorem fp_RX10_128 : g_fp RX10 128 2 3 .int := ⟨(RX2, TX2, 4), rfl, Nat.le_of_ble_eq_true rfl, (List.mem_of_getElem? (i := 401) (by decide +kernel)), cl_2, rfl, by decide +kernel⟩
theorem fp_RX10_131 : g_fp RX10 131 5 3 .int := ⟨(RX5, TX5, 4), rfl, Nat.le_of_ble_eq_true rfl, (List.mem_of_getElem? (i := 424) (by decide +kernel)), cl_5, rfl, by decide +kernel⟩
theorem fp_RX10_132 : g_fp RX10 132 1 3 .boolean := ⟨(RX1, TX1, 7), rfl, Nat.le_of_ble_eq_true rfl, (List.mem_of_getElem? (i := 369) (by decide +kernel)), cl_1, rfl, by decide +kernel⟩
theorem fp_RX10_325 : g_fp RX10 325 1 2 .int := ⟨(RX1, TX1, 7), rfl, Nat.le_of_ble_eq_true rfl, (List.mem_of_getElem? (i := 368) (by decide +kernel)), cl_1, rfl, by decide +kernel⟩
theorem fp_RX10_92 : g_fp RX10 92 10 12 .int := ⟨(RX10, TX10, 13), rfl, Nat.le_of_ble_eq_true rfl, (List.mem_of_getElem? (i := 447) (by decide +kernel)), cl_10, rfl, by decide +kernel⟩
theorem fp_RX11_139 : g_fp RX11 139 11 0 .int := ⟨(RX11, TX11, 62), rfl, Nat.le_of_ble_eq_true rfl, (List.mem_of_getElem? (i := 1164) (by decide +kernel)), cl_11, rfl, by decide +kernel⟩
theorem fp_RX11_153 : g_fp RX11 153 11 14 .int := ⟨(RX11, TX11, 62), rfl, Nat.le_of_ble_eq_true rfl, (List.mem_of_getElem? (i := 1178) (by decide +kernel)), cl_11, rfl, by decide +kernel⟩
theorem fp_RX11_159 : g_fp RX11 159 11 16 .int := ⟨(RX11, TX11, 62), rfl, Nat.le_of_ble_eq_true rfl, (List.mem_of_getElem? (i := 1180) (by decide +kernel)), cl_11, rfl, by decide +kernel⟩
theorem fp_RX11_166 : g_fp RX11 166 11 17 .long := ⟨(RX11, TX11, 62), rfl, Nat.le_of_ble_eq_true rfl, (List.mem_of_getElem? (i := 1181) (by decide +kernel)), cl_11, rfl, by decide +kernel⟩
theorem fp_RX11_170 : g_fp RX11 170 11 18 .int := ⟨(RX11, TX11, 62), rfl, Nat.le_of_ble_eq_true rfl, (List.mem_of_getElem? (i := 1182) (by decide +kernel)), cl_11, rfl, by decide +kernel⟩
theorem fp_RX11_193 : g_fp RX11 193 11 20 .int := ⟨(RX11, TX11, 62), rfl, Nat.le_of_ble_eq_true rfl, (List.mem_of_getElem? (i := 1184) (by decide +kernel)), cl_11, rfl, by decide +kernel⟩
theorem fp_RX11_196 : g_fp RX11 196 11 19 .int := ⟨(RX11, TX11, 62), rfl, Nat.le_of_ble_eq_true rfl, (List.mem_of_getElem? (i := 1183) (by decide +kernel)), cl_11, rfl, by decide +kernel⟩
theorem fp_RX11_199 : g_fp RX11 199 11 21 .int := ⟨(RX11, TX11, 62), rfl, Nat.le_of_ble_eq_true rfl, (List.mem_of_getElem? (i := 1185) (by decide +kernel)), cl_11, rfl, by decide +kernel⟩
theorem fp_RX11_237 : g_fp RX11 237 11 26 .boolean := ⟨(RX11, TX11, 62), rfl, Nat.le_of_ble_eq_true rfl, (List.mem_of_getElem? (i := 1190) (by decide +kernel)), cl_11, rfl, by decide +kernel⟩
theorem fp_RX11_245 : g_fp RX11 245 11 8 .int := ⟨(RX11, TX11, 62), rfl, Nat.le_of_ble_eq_true rfl, (List.mem_of_getElem? (i := 1172) (by decide +kernel)), cl_11, rfl, by decide +kernel⟩
theorem fp_RX11_248 : g_fp RX11 248 11 51 .int := ⟨(RX11, TX11, 62), rfl, Nat.le_of_ble_eq_true rfl, (List.mem_of_getElem? (i := 1215) (by decide +kernel)), cl_11, rfl, by decide +kernel⟩
theorem fp_RX11_251 : g_fp RX11 251 11 56 .int := ⟨(RX11, TX11, 62), rfl, Nat.le_of_ble_eq_true rfl, (List.mem_of_getElem? (i := 1220) (by decide +kernel)), cl_11, rfl, by decide +kernel⟩
theorem fp_RX11_257 : g_fp RX11 257 11 7 .int := ⟨(RX11, TX11, 62), rfl, Nat.le_of_ble_eq_true rfl, (List.mem_of_getElem? (i := 1171) (by decide +kernel)), cl_11, rfl, by decide +kernel⟩
theorem fp_RX11_327 : g_fp RX11 327 11 12 .int := ⟨(RX11, TX11, 62), rfl, Nat.le_of_ble_eq_true rfl, (List.mem_of_getElem? (i := 1176) (by decide +kernel)), cl_11, rfl, by decide +kernel⟩
theorem fp_RX11_356 : g_fp RX11 356 11 32 .int := ⟨(RX11, TX11, 62), rfl, Nat.le_of_ble_eq_true rfl, (List.mem_of_getElem? (i := 1196) (by decide +kernel)), cl_11, rfl, by decide +kernel⟩
theorem fp_RX11_359 : g_fp RX11 359 11 33 .int := ⟨(RX11, TX11, 62), rfl, Nat.le_of_ble_eq_true rfl, (List.mem_of_getElem? (i := 1197) (by decide +kernel)), cl_11, rfl, by decide +kernel⟩
theorem fp_RX11_383 : g_fp RX11 383 11 43 .int := ⟨(RX11, TX11, 62), rfl, Nat.le_of_ble_eq_true rfl, (List.mem_of_getElem? (i := 1207) (by decide +kernel)), cl_11, rfl, by decide +kernel⟩
theorem fp_RX11_386 : g_fp RX11 386 11 44 .int := ⟨(RX11, TX11, 62), rfl, Nat.le_of_ble_eq_true rfl, (List.mem_of_getElem? (i := 1208) (by decide +kernel)), cl_11, rfl, by decide +kernel⟩
theorem fp_RX11_398 : g_fp RX11 398 11 49 .long := ⟨(RX11, TX11, 62), rfl, Nat.le_of_ble_eq_true rfl, (List.mem_of_getElem? (i := 1213) (by decide +kernel)), cl_11, rfl, by decide +kernel⟩
theorem fp_RX11_40 : g_fp RX11 40 11 15 .int := ⟨(RX11, TX11, 62), rfl, Nat.le_of_ble_eq_true rfl, (List.mem_of_getElem? (i := 1179) (by decide +kernel)), cl_11, rfl, by decide +kernel⟩
theorem fp_RX11_401 : g_fp RX11 401 11 50 .long := ⟨(RX11, TX11, 62), rfl, Nat.le_of_ble_eq_true rfl, (List.mem_of_getElem? (i := 1214) (by decide +kernel)), cl_11, rfl, by decide +kernel⟩
theorem fp_RX1_32 : g_fp RX1 32 1 1 .int := ⟨(RX1, TX1, 7), rfl, Nat.le_of_ble_eq_true rfl, (List.mem_of_getElem? (i := 365) (by decide +kernel)), cl_1, rfl, by decide +kernel⟩
theorem fp_RX1_36 : g_fp RX1 36 1 2 .int := ⟨(RX1, TX1, 7), rfl, Nat.le_of_ble_eq_true rfl, (List.mem_of_getElem? (i := 367) (by decide +kernel)), cl_1, rfl, by decide +kernel⟩
theorem fp_RX2_21 : g_fp RX2 21 2 3 .int := ⟨(RX2, TX2, 4), rfl, Nat.le_of_ble_eq_true rfl, (List.mem_of_getElem? (i := 400) (by decide +kernel)), cl_2, rfl, by decide +kernel⟩
theorem fp_RX3_37 : g_fp RX3 37 3 0 .int := ⟨(RX3, TX3, 10), rfl, Nat.le_of_ble_eq_true rfl, (List.mem_of_getElem? (i := 303) (by decide +kernel)), cl_3, rfl, by decide +kernel⟩
theorem fp_RX3_41 : g_fp RX3 41 3 1 .int := ⟨(RX3, TX3, 10), rfl, Nat.le_of_ble_eq_true rfl, (List.mem_of_getElem? (i := 304) (by decide +kernel)), cl_3, rfl, by decide +kernel⟩
theorem fp_RX3_44 : g_fp RX3 44 3 8 .long := ⟨(RX3, TX3, 10), rfl, Nat.le_of_ble_eq_true rfl, (List.mem_of_getElem? (i := 311) (by decide +kernel)), cl_3, rfl, by decide +kernel⟩
theorem fp_RX3_48 : g_fp RX3 48 3 9 .long := ⟨(RX3, TX3, 10), rfl, Nat.le_of_ble_eq_true rfl, (List.mem_of_getElem? (i := 312) (by decide +kernel)), cl_3, rfl, by decide +kernel⟩
theorem fp_RX4_27 : g_fp RX4 27 4 0 .int := ⟨(RX4, TX4, 5), rfl, Nat.le_of_ble_eq_true rfl, (List.mem_of_getElem? (i := 133) (by decide +kernel)), cl_4, rfl, by decide +kernel⟩
theorem fp_RX5_21 : g_fp RX5 21 5 3 .int := ⟨(RX5, TX5, 4), rfl, Nat.le_of_ble_eq_true rfl, (List.mem_of_getElem? (i := 423) (by decide +kernel)), cl_5, rfl, by decide +kernel⟩
theorem fp_RX6_18 : g_fp RX6 18 6 3 .int := ⟨(RX6, TX6, 8), rfl, Nat.le_of_ble_eq_true rfl, (List.mem_of_getElem? (i := 172) (by decide +kernel)), cl_6, rfl, by decide +kernel⟩
theorem fp_RX6_26 : g_fp RX6 26 6 1 .int := ⟨(RX6, TX6, 8), rfl, Nat.le_of_ble_eq_true rfl, (List.mem_of_getElem? (i := 168) (by decide +kernel)), cl_6, rfl, by decide +kernel⟩
theorem fp_RX6_38 : g_fp RX6 38 6 2 .int := ⟨(RX6, TX6, 8), rfl, Nat.le_of_ble_eq_true rfl, (List.mem_of_getElem? (i := 170) (by decide +kernel)), cl_6, rfl, by decide +kernel⟩
theorem fp_RX6_41 : g_fp RX6 41 6 5 .int := ⟨(RX6, TX6, 8), rfl, Nat.le_of_ble_eq_true rfl, (List.mem_of_getElem? (i := 175) (by decide +kernel)), cl_6, rfl, by decide +kernel⟩
theorem fp_RX6_44 : g_fp RX6 44 6 7 .boolean := ⟨(RX6, TX6, 8), rfl, Nat.le_of_ble_eq_true rfl, (List.mem_of_getElem? (i := 177) (by decide +kernel)), cl_6, rfl, by decide +kernel⟩
theorem fp_RX6_65 : g_fp RX6 65 6 6 .int := ⟨(RX6, TX6, 8), rfl, Nat.le_of_ble_eq_true rfl, (List.mem_of_getElem? (i := 176) (by decide +kernel)), cl_6, rfl, by decide +kernel⟩
theorem fp_RX8_103 : g_fp RX8 103 8 12 .int := ⟨(RX8, TX8, 17), rfl, Nat.le_of_ble_eq_true rfl, (List.mem_of_getElem? (i := 251) (by decide +kernel)), cl_8, rfl, by decide +kernel⟩
theorem fp_RX8_54 : g_fp RX8 54 8 3 .boolean := ⟨(RX8, TX8, 17), rfl, Nat.le_of_ble_eq_true rfl, (List.mem_of_getElem? (i := 242) (by decide +kernel)), cl_8, rfl, by decide +kernel⟩
theorem fp_RX8_62 : g_fp RX8 62 8 4 .int := ⟨(RX8, TX8, 17), rfl, Nat.le_of_ble_eq_true rfl, (List.mem_of_getElem? (i := 243) (by decide +kernel)), cl_8, rfl, by decide +kernel⟩
theorem fp_RX8_66 : g_fp RX8 66 8 5 .int := ⟨(RX8, TX8, 17), rfl, Nat.le_of_ble_eq_true rfl, (List.mem_of_getElem? (i := 244) (by decide +kernel)), cl_8, rfl, by decide +kernel⟩
theorem ct_RJ6_265 : Cond.constant RJ6 265 (1431655765 : Int32) ∈ lw_tbl := (List.mem_of_getElem? (i := 617) (by decide +kernel))
theorem ct_RJ6_266 : Cond.constant RJ6 266 (858993459 : Int32) ∈ lw_tbl := (List.mem_of_getElem? (i := 618) (by decide +kernel))
theorem ct_RJ6_267 : Cond.constant RJ6 267 (252645135 : Int32) ∈ lw_tbl := (List.mem_of_getElem? (i := 619) (by decide +kernel))
theorem ct_RX10_100 : Cond.constant RX10 100 (-1000004 : Int32) ∈ lw_tbl := (List.mem_of_getElem? (i := 480) (by decide +kernel))
theorem ct_RX10_174 : Cond.constant RX10 174 (-1000001 : Int32) ∈ lw_tbl := (List.mem_of_getElem? (i := 704) (by decide +kernel))
theorem ct_RX10_202 : Cond.constant RX10 202 (-1000003 : Int32) ∈ lw_tbl := (List.mem_of_getElem? (i := 763) (by decide +kernel))
theorem ct_RX10_96 : Cond.constant RX10 96 (-1000002 : Int32) ∈ lw_tbl := (List.mem_of_getElem? (i := 479) (by decide +kernel))
theorem ct_RX11_150 : Cond.constantLong RX11 150 (8 : Int64) ∈ lw_tbl := (List.mem_of_getElem? (i := 1356) (by decide +kernel))
theorem ct_RX11_152 : Cond.constant RX11 152 (-1000002 : Int32) ∈ lw_tbl := (List.mem_of_getElem? (i := 1360) (by decide +kernel))
theorem ct_RX11_156 : Cond.constant RX11 156 (-1000004 : Int32) ∈ lw_tbl := (List.mem_of_getElem? (i := 1361) (by decide +kernel))
theorem ct_RX11_157 : Cond.constantLong RX11 157 (255 : Int64) ∈ lw_tbl := (List.mem_of_getElem? (i := 1362) (by decide +kernel))
theorem ct_RX11_173 : Cond.constantLong RX11 173 (97 : Int64) ∈ lw_tbl := (List.mem_of_getElem? (i := 1379) (by decide +kernel))
theorem ct_RX11_175 : Cond.constantLong RX11 175 (122 : Int64) ∈ lw_tbl := (List.mem_of_getElem? (i := 1380) (by decide +kernel))
theorem ct_RX11_177 : Cond.constantLong RX11 177 (1000000000000 : Int64) ∈ lw_tbl := (List.mem_of_getElem? (i := 1381) (by decide +kernel))
theorem ct_RX11_179 : Cond.constantLong RX11 179 (2000000000000 : Int64) ∈ lw_tbl := (List.mem_of_getElem? (i := 1382) (by decide +kernel))
theorem ct_RX11_181 : Cond.constantLong RX11 181 (27 : Int64) ∈ lw_tbl := (List.mem_of_getElem? (i := 1383) (by decide +kernel))
theorem ct_RX11_183 : Cond.constantLong RX11 183 (96 : Int64) ∈ lw_tbl := (List.mem_of_getElem? (i := 1384) (by decide +kernel))
theorem ct_RX11_185 : Cond.constantLong RX11 185 (48 : Int64) ∈ lw_tbl := (List.mem_of_getElem? (i := 1400) (by decide +kernel))
theorem ct_RX11_187 : Cond.constantLong RX11 187 (57 : Int64) ∈ lw_tbl := (List.mem_of_getElem? (i := 1401) (by decide +kernel))
theorem ct_RX11_220 : Cond.constantLong RX11 220 (108 : Int64) ∈ lw_tbl := (List.mem_of_getElem? (i := 1388) (by decide +kernel))
theorem ct_RX11_222 : Cond.constantLong RX11 222 (100 : Int64) ∈ lw_tbl := (List.mem_of_getElem? (i := 1389) (by decide +kernel))
theorem ct_RX11_224 : Cond.constantLong RX11 224 (115 : Int64) ∈ lw_tbl := (List.mem_of_getElem? (i := 1390) (by decide +kernel))
theorem ct_RX11_226 : Cond.constantLong RX11 226 (101 : Int64) ∈ lw_tbl := (List.mem_of_getElem? (i := 1391) (by decide +kernel))
theorem ct_RX11_266 : Cond.constant RX11 266 (-1000001 : Int32) ∈ lw_tbl := (List.mem_of_getElem? (i := 1444) (by decide +kernel))
theorem ct_RX11_270 : Cond.constantLong RX11 270 (2 : Int64) ∈ lw_tbl := (List.mem_of_getElem? (i := 1460) (by decide +kernel))
theorem ct_RX11_320 : Cond.constant RX11 320 (-1000003 : Int32) ∈ lw_tbl := (List.mem_of_getElem? (i := 1496) (by decide +kernel))
theorem ct_RX11_330 : Cond.constantLong RX11 330 (1103515245 : Int64) ∈ lw_tbl := (List.mem_of_getElem? (i := 1545) (by decide +kernel))
theorem ct_RX11_332 : Cond.constantLong RX11 332 (12345 : Int64) ∈ lw_tbl := (List.mem_of_getElem? (i := 1546) (by decide +kernel))
theorem ct_RX11_334 : Cond.constantLong RX11 334 (2147483648 : Int64) ∈ lw_tbl := (List.mem_of_getElem? (i := 1547) (by decide +kernel))
theorem ct_RX11_336 : Cond.constant RX11 336 (65536 : Int32) ∈ lw_tbl := (List.mem_of_getElem? (i := 1548) (by decide +kernel))
theorem ct_RX11_337 : Cond.constantLong RX11 337 (60 : Int64) ∈ lw_tbl := (List.mem_of_getElem? (i := 1540) (by decide +kernel))
theorem ct_RX11_342 : Cond.constantLong RX11 342 (6 : Int64) ∈ lw_tbl := (List.mem_of_getElem? (i := 1557) (by decide +kernel))
theorem ct_RX11_365 : Cond.constant RX11 365 (1000000 : Int32) ∈ lw_tbl := (List.mem_of_getElem? (i := 1598) (by decide +kernel))
theorem ct_RX11_375 : Cond.constantLong RX11 375 (200 : Int64) ∈ lw_tbl := (List.mem_of_getElem? (i := 1610) (by decide +kernel))
theorem ct_RX11_392 : Cond.constantLong RX11 392 (-1 : Int64) ∈ lw_tbl := (List.mem_of_getElem? (i := 1659) (by decide +kernel))
theorem ct_RX11_427 : Cond.constantLong RX11 427 (12 : Int64) ∈ lw_tbl := (List.mem_of_getElem? (i := 1627) (by decide +kernel))
theorem ct_RX11_432 : Cond.constantLong RX11 432 (3 : Int64) ∈ lw_tbl := (List.mem_of_getElem? (i := 1668) (by decide +kernel))
theorem ct_RX11_434 : Cond.constantLong RX11 434 (1000000 : Int64) ∈ lw_tbl := (List.mem_of_getElem? (i := 1669) (by decide +kernel))
theorem ct_RX11_439 : Cond.constant RX11 439 (999999 : Int32) ∈ lw_tbl := (List.mem_of_getElem? (i := 1682) (by decide +kernel))
theorem ct_RX11_440 : Cond.constantLong RX11 440 (215 : Int64) ∈ lw_tbl := (List.mem_of_getElem? (i := 1691) (by decide +kernel))
theorem ct_RX11_445 : Cond.constantLong RX11 445 (5 : Int64) ∈ lw_tbl := (List.mem_of_getElem? (i := 1712) (by decide +kernel))
theorem ct_RX11_447 : Cond.constantLong RX11 447 (59 : Int64) ∈ lw_tbl := (List.mem_of_getElem? (i := 1713) (by decide +kernel))
theorem ct_RX1_58 : Cond.constantLong RX1 58 (1103515245 : Int64) ∈ lw_tbl := (List.mem_of_getElem? (i := 837) (by decide +kernel))
theorem ct_RX1_60 : Cond.constantLong RX1 60 (12345 : Int64) ∈ lw_tbl := (List.mem_of_getElem? (i := 838) (by decide +kernel))
theorem ct_RX1_62 : Cond.constantLong RX1 62 (2147483648 : Int64) ∈ lw_tbl := (List.mem_of_getElem? (i := 839) (by decide +kernel))
theorem ct_RX1_64 : Cond.constant RX1 64 (65536 : Int32) ∈ lw_tbl := (List.mem_of_getElem? (i := 840) (by decide +kernel))
theorem ct_RX3_55 : Cond.constantLong RX3 55 (1000000 : Int64) ∈ lw_tbl := (List.mem_of_getElem? (i := 1069) (by decide +kernel))
theorem ct_RX6_29 : Cond.constantLong RX6 29 (255 : Int64) ∈ lw_tbl := (List.mem_of_getElem? (i := 485) (by decide +kernel))
