theorem ukX0 : uk 0 RX0 TX0 tyX0 3 := ⟨rfl, uw_list [170, 172, 174] (by decide +kernel) (by decide +kernel), tyX0_ok, nmX0⟩
theorem ukX1 : uk 1 RX1 TX1 tyX1 7 := ⟨rfl, uw_list [98, 100, 102, 104, 106, 108, 110] (by decide +kernel) (by decide +kernel), tyX1_ok, nmX1⟩
theorem ukX2 : uk 2 RX2 TX2 tyX2 7 := ⟨rfl, uw_list [141, 143, 145, 147, 149, 151, 153] (by decide +kernel) (by decide +kernel), tyX2_ok, nmX2⟩
theorem ukX3 : uk 3 RX3 TX3 tyX3 2 := ⟨rfl, uw_list [228, 230] (by decide +kernel) (by decide +kernel), tyX3_ok, nmX3⟩
theorem ukX4 : uk 4 RX4 TX4 tyX4 3 := ⟨rfl, uw_list [212, 214, 216] (by decide +kernel) (by decide +kernel), tyX4_ok, nmX4⟩
theorem ukX5 : uk 5 RX5 TX5 tyX5 9 := ⟨rfl, uw_list [53, 55, 57, 59, 61, 63, 65, 67, 69] (by decide +kernel) (by decide +kernel), tyX5_ok, nmX5⟩
theorem ukX6 : uk 6 RX6 TX6 tyX6 5 := ⟨rfl, uw_list [191, 193, 195, 197, 199] (by decide +kernel) (by decide +kernel), tyX6_ok, nmX6⟩
theorem ukX7 : uk 7 RX7 TX7 tyX7 17 := ⟨rfl, uw_list [251, 253, 255, 257, 259, 261, 263, 265, 267, 269, 271, 273, 275, 277, 279, 281, 283] (by decide +kernel) (by decide +kernel), tyX7_ok, nmX7⟩
theorem ukX8 : uk 8 RX8 TX8 tyX8 49 := ⟨rfl, uw_list [1245, 1247, 1249, 1251, 1253, 1255, 1257, 1259, 1261, 1263, 1265, 1267, 1269, 1271, 1273, 1275, 1277, 1279, 1281, 1283, 1285, 1287, 1289, 1291, 1293, 1295, 1297, 1299, 1301, 1303, 1305, 1307, 1309, 1311, 1313, 1315, 1317, 1319, 1321, 1323, 1325, 1327, 1329, 1331, 1333, 1335, 1337, 1339, 1341] (by decide +kernel) (by decide +kernel), tyX8_ok, nmX8⟩
theorem kf_X7_12 : ufl RX7 12 7 0 := ⟨_, _, _, _, ukX7, Nat.le_of_ble_eq_true rfl, uw_t 234 (by decide +kernel) rfl⟩
theorem kf_X7_21 : ufl RX7 21 7 1 := ⟨_, _, _, _, ukX7, Nat.le_of_ble_eq_true rfl, uw_t 235 (by decide +kernel) rfl⟩
theorem kf_X7_25 : ufl RX7 25 7 2 := ⟨_, _, _, _, ukX7, Nat.le_of_ble_eq_true rfl, uw_t 236 (by decide +kernel) rfl⟩
theorem kf_X7_31 : ufl RX7 31 7 3 := ⟨_, _, _, _, ukX7, Nat.le_of_ble_eq_true rfl, uw_t 237 (by decide +kernel) rfl⟩
theorem kf_X7_38 : ufl RX7 38 7 4 := ⟨_, _, _, _, ukX7, Nat.le_of_ble_eq_true rfl, uw_t 238 (by decide +kernel) rfl⟩
theorem kf_X7_45 : ufl RX7 45 7 5 := ⟨_, _, _, _, ukX7, Nat.le_of_ble_eq_true rfl, uw_t 239 (by decide +kernel) rfl⟩
theorem kf_X7_54 : ufl RX7 54 7 6 := ⟨_, _, _, _, ukX7, Nat.le_of_ble_eq_true rfl, uw_t 240 (by decide +kernel) rfl⟩
theorem kf_X7_58 : ufl RX7 58 7 7 := ⟨_, _, _, _, ukX7, Nat.le_of_ble_eq_true rfl, uw_t 241 (by decide +kernel) rfl⟩
theorem kf_X7_64 : ufl RX7 64 7 8 := ⟨_, _, _, _, ukX7, Nat.le_of_ble_eq_true rfl, uw_t 242 (by decide +kernel) rfl⟩
theorem kf_X7_68 : ufl RX7 68 7 9 := ⟨_, _, _, _, ukX7, Nat.le_of_ble_eq_true rfl, uw_t 243 (by decide +kernel) rfl⟩
theorem kf_X7_72 : ufl RX7 72 7 10 := ⟨_, _, _, _, ukX7, Nat.le_of_ble_eq_true rfl, uw_t 244 (by decide +kernel) rfl⟩
theorem kf_X7_76 : ufl RX7 76 7 11 := ⟨_, _, _, _, ukX7, Nat.le_of_ble_eq_true rfl, uw_t 245 (by decide +kernel) rfl⟩
theorem kf_X7_79 : ufl RX7 79 7 12 := ⟨_, _, _, _, ukX7, Nat.le_of_ble_eq_true rfl, uw_t 246 (by decide +kernel) rfl⟩
theorem kf_X7_83 : ufl RX7 83 7 13 := ⟨_, _, _, _, ukX7, Nat.le_of_ble_eq_true rfl, uw_t 247 (by decide +kernel) rfl⟩
theorem kf_X7_86 : ufl RX7 86 7 14 := ⟨_, _, _, _, ukX7, Nat.le_of_ble_eq_true rfl, uw_t 248 (by decide +kernel) rfl⟩
theorem kf_X7_89 : ufl RX7 89 7 15 := ⟨_, _, _, _, ukX7, Nat.le_of_ble_eq_true rfl, uw_t 249 (by decide +kernel) rfl⟩
theorem kf_X7_92 : ufl RX7 92 7 16 := ⟨_, _, _, _, ukX7, Nat.le_of_ble_eq_true rfl, uw_t 250 (by decide +kernel) rfl⟩
theorem kf_X7_95 : ufl RX7 95 5 1 := ⟨_, _, _, _, ukX5, Nat.le_of_ble_eq_true rfl, uw_t 39 (by decide +kernel) rfl⟩
theorem kf_X7_128 : ufl RX7 128 3 1 := ⟨_, _, _, _, ukX3, Nat.le_of_ble_eq_true rfl, uw_t 227 (by decide +kernel) rfl⟩
theorem kf_X7_131 : ufl RX7 131 1 1 := ⟨_, _, _, _, ukX1, Nat.le_of_ble_eq_true rfl, uw_t 84 (by decide +kernel) rfl⟩
theorem kf_X7_144 : ufl RX7 144 4 2 := ⟨_, _, _, _, ukX4, Nat.le_of_ble_eq_true rfl, uw_t 211 (by decide +kernel) rfl⟩
theorem kf_X7_151 : ufl RX7 151 6 1 := ⟨_, _, _, _, ukX6, Nat.le_of_ble_eq_true rfl, uw_t 185 (by decide +kernel) rfl⟩
theorem kf_X7_156 : ufl RX7 156 6 4 := ⟨_, _, _, _, ukX6, Nat.le_of_ble_eq_true rfl, uw_t 190 (by decide +kernel) rfl⟩
theorem kf_X7_159 : ufl RX7 159 6 3 := ⟨_, _, _, _, ukX6, Nat.le_of_ble_eq_true rfl, uw_t 188 (by decide +kernel) rfl⟩
theorem kf_X7_162 : ufl RX7 162 1 0 := ⟨_, _, _, _, ukX1, Nat.le_of_ble_eq_true rfl, uw_t 80 (by decide +kernel) rfl⟩
theorem kf_X7_166 : ufl RX7 166 0 1 := ⟨_, _, _, _, ukX0, Nat.le_of_ble_eq_true rfl, uw_t 168 (by decide +kernel) rfl⟩
theorem kf_X7_169 : ufl RX7 169 5 5 := ⟨_, _, _, _, ukX5, Nat.le_of_ble_eq_true rfl, uw_t 44 (by decide +kernel) rfl⟩
theorem kf_X7_178 : ufl RX7 178 1 2 := ⟨_, _, _, _, ukX1, Nat.le_of_ble_eq_true rfl, uw_t 86 (by decide +kernel) rfl⟩
theorem kf_X7_196 : ufl RX7 196 1 3 := ⟨_, _, _, _, ukX1, Nat.le_of_ble_eq_true rfl, uw_t 90 (by decide +kernel) rfl⟩
theorem kf_X7_199 : ufl RX7 199 1 4 := ⟨_, _, _, _, ukX1, Nat.le_of_ble_eq_true rfl, uw_t 93 (by decide +kernel) rfl⟩
theorem kf_X7_254 : ufl RX7 254 2 6 := ⟨_, _, _, _, ukX2, Nat.le_of_ble_eq_true rfl, uw_t 140 (by decide +kernel) rfl⟩
theorem kf_X7_300 : ufl RX7 300 0 0 := ⟨_, _, _, _, ukX0, Nat.le_of_ble_eq_true rfl, uw_t 166 (by decide +kernel) rfl⟩
theorem kf_X0_9 : ufl RX0 9 0 0 := ⟨_, _, _, _, ukX0, Nat.le_of_ble_eq_true rfl, uw_t 165 (by decide +kernel) rfl⟩
theorem kf_X0_19 : ufl RX0 19 0 2 := ⟨_, _, _, _, ukX0, Nat.le_of_ble_eq_true rfl, uw_t 169 (by decide +kernel) rfl⟩
theorem kf_X0_48 : ufl RX0 48 5 6 := ⟨_, _, _, _, ukX5, Nat.le_of_ble_eq_true rfl, uw_t 46 (by decide +kernel) rfl⟩
theorem kf_X0_51 : ufl RX0 51 5 7 := ⟨_, _, _, _, ukX5, Nat.le_of_ble_eq_true rfl, uw_t 51 (by decide +kernel) rfl⟩
theorem kf_X1_9 : ufl RX1 9 1 0 := ⟨_, _, _, _, ukX1, Nat.le_of_ble_eq_true rfl, uw_t 79 (by decide +kernel) rfl⟩
theorem kf_X1_15 : ufl RX1 15 1 1 := ⟨_, _, _, _, ukX1, Nat.le_of_ble_eq_true rfl, uw_t 82 (by decide +kernel) rfl⟩
theorem kf_X1_18 : ufl RX1 18 1 2 := ⟨_, _, _, _, ukX1, Nat.le_of_ble_eq_true rfl, uw_t 85 (by decide +kernel) rfl⟩
theorem kf_X1_21 : ufl RX1 21 1 3 := ⟨_, _, _, _, ukX1, Nat.le_of_ble_eq_true rfl, uw_t 88 (by decide +kernel) rfl⟩
theorem kf_X1_25 : ufl RX1 25 1 4 := ⟨_, _, _, _, ukX1, Nat.le_of_ble_eq_true rfl, uw_t 91 (by decide +kernel) rfl⟩
theorem kf_X1_28 : ufl RX1 28 1 5 := ⟨_, _, _, _, ukX1, Nat.le_of_ble_eq_true rfl, uw_t 94 (by decide +kernel) rfl⟩
theorem kf_X1_31 : ufl RX1 31 1 6 := ⟨_, _, _, _, ukX1, Nat.le_of_ble_eq_true rfl, uw_t 96 (by decide +kernel) rfl⟩
theorem kf_X1_80 : ufl RX1 80 5 6 := ⟨_, _, _, _, ukX5, Nat.le_of_ble_eq_true rfl, uw_t 47 (by decide +kernel) rfl⟩
theorem kf_X2_9 : ufl RX2 9 2 0 := ⟨_, _, _, _, ukX2, Nat.le_of_ble_eq_true rfl, uw_t 132 (by decide +kernel) rfl⟩
theorem kf_X2_15 : ufl RX2 15 2 1 := ⟨_, _, _, _, ukX2, Nat.le_of_ble_eq_true rfl, uw_t 133 (by decide +kernel) rfl⟩
theorem kf_X2_19 : ufl RX2 19 2 2 := ⟨_, _, _, _, ukX2, Nat.le_of_ble_eq_true rfl, uw_t 134 (by decide +kernel) rfl⟩
theorem kf_X2_22 : ufl RX2 22 2 3 := ⟨_, _, _, _, ukX2, Nat.le_of_ble_eq_true rfl, uw_t 135 (by decide +kernel) rfl⟩
theorem kf_X2_25 : ufl RX2 25 2 4 := ⟨_, _, _, _, ukX2, Nat.le_of_ble_eq_true rfl, uw_t 136 (by decide +kernel) rfl⟩
theorem kf_X2_28 : ufl RX2 28 2 5 := ⟨_, _, _, _, ukX2, Nat.le_of_ble_eq_true rfl, uw_t 137 (by decide +kernel) rfl⟩
theorem kf_X2_31 : ufl RX2 31 2 6 := ⟨_, _, _, _, ukX2, Nat.le_of_ble_eq_true rfl, uw_t 138 (by decide +kernel) rfl⟩
theorem kf_X2_95 : ufl RX2 95 5 6 := ⟨_, _, _, _, ukX5, Nat.le_of_ble_eq_true rfl, uw_t 49 (by decide +kernel) rfl⟩
theorem kf_X3_11 : ufl RX3 11 3 0 := ⟨_, _, _, _, ukX3, Nat.le_of_ble_eq_true rfl, uw_t 225 (by decide +kernel) rfl⟩
theorem kf_X3_17 : ufl RX3 17 3 1 := ⟨_, _, _, _, ukX3, Nat.le_of_ble_eq_true rfl, uw_t 226 (by decide +kernel) rfl⟩
theorem kf_X4_11 : ufl RX4 11 4 2 := ⟨_, _, _, _, ukX4, Nat.le_of_ble_eq_true rfl, uw_t 210 (by decide +kernel) rfl⟩
theorem kf_X4_15 : ufl RX4 15 4 0 := ⟨_, _, _, _, ukX4, Nat.le_of_ble_eq_true rfl, uw_t 208 (by decide +kernel) rfl⟩
theorem kf_X4_19 : ufl RX4 19 4 1 := ⟨_, _, _, _, ukX4, Nat.le_of_ble_eq_true rfl, uw_t 209 (by decide +kernel) rfl⟩
theorem kf_X4_29 : ufl RX4 29 1 1 := ⟨_, _, _, _, ukX1, Nat.le_of_ble_eq_true rfl, uw_t 83 (by decide +kernel) rfl⟩
theorem kf_X4_35 : ufl RX4 35 1 5 := ⟨_, _, _, _, ukX1, Nat.le_of_ble_eq_true rfl, uw_t 95 (by decide +kernel) rfl⟩
theorem kf_X4_38 : ufl RX4 38 1 6 := ⟨_, _, _, _, ukX1, Nat.le_of_ble_eq_true rfl, uw_t 97 (by decide +kernel) rfl⟩
theorem kf_X4_51 : ufl RX4 51 1 3 := ⟨_, _, _, _, ukX1, Nat.le_of_ble_eq_true rfl, uw_t 89 (by decide +kernel) rfl⟩
theorem kf_X4_68 : ufl RX4 68 1 0 := ⟨_, _, _, _, ukX1, Nat.le_of_ble_eq_true rfl, uw_t 81 (by decide +kernel) rfl⟩
theorem kf_X4_74 : ufl RX4 74 1 4 := ⟨_, _, _, _, ukX1, Nat.le_of_ble_eq_true rfl, uw_t 92 (by decide +kernel) rfl⟩
theorem kf_X4_88 : ufl RX4 88 2 6 := ⟨_, _, _, _, ukX2, Nat.le_of_ble_eq_true rfl, uw_t 139 (by decide +kernel) rfl⟩
theorem kf_X4_93 : ufl RX4 93 1 2 := ⟨_, _, _, _, ukX1, Nat.le_of_ble_eq_true rfl, uw_t 87 (by decide +kernel) rfl⟩
theorem kf_X5_9 : ufl RX5 9 5 0 := ⟨_, _, _, _, ukX5, Nat.le_of_ble_eq_true rfl, uw_t 37 (by decide +kernel) rfl⟩
theorem kf_X5_15 : ufl RX5 15 5 1 := ⟨_, _, _, _, ukX5, Nat.le_of_ble_eq_true rfl, uw_t 38 (by decide +kernel) rfl⟩
theorem kf_X5_19 : ufl RX5 19 5 2 := ⟨_, _, _, _, ukX5, Nat.le_of_ble_eq_true rfl, uw_t 40 (by decide +kernel) rfl⟩
theorem kf_X5_22 : ufl RX5 22 5 3 := ⟨_, _, _, _, ukX5, Nat.le_of_ble_eq_true rfl, uw_t 41 (by decide +kernel) rfl⟩
theorem kf_X5_25 : ufl RX5 25 5 4 := ⟨_, _, _, _, ukX5, Nat.le_of_ble_eq_true rfl, uw_t 42 (by decide +kernel) rfl⟩
theorem kf_X5_31 : ufl RX5 31 5 6 := ⟨_, _, _, _, ukX5, Nat.le_of_ble_eq_true rfl, uw_t 45 (by decide +kernel) rfl⟩
theorem kf_X5_34 : ufl RX5 34 5 7 := ⟨_, _, _, _, ukX5, Nat.le_of_ble_eq_true rfl, uw_t 50 (by decide +kernel) rfl⟩
theorem kf_X5_37 : ufl RX5 37 5 8 := ⟨_, _, _, _, ukX5, Nat.le_of_ble_eq_true rfl, uw_t 52 (by decide +kernel) rfl⟩
theorem kf_X6_11 : ufl RX6 11 6 0 := ⟨_, _, _, _, ukX6, Nat.le_of_ble_eq_true rfl, uw_t 183 (by decide +kernel) rfl⟩
theorem kf_X6_15 : ufl RX6 15 6 1 := ⟨_, _, _, _, ukX6, Nat.le_of_ble_eq_true rfl, uw_t 184 (by decide +kernel) rfl⟩
theorem kf_X6_19 : ufl RX6 19 6 2 := ⟨_, _, _, _, ukX6, Nat.le_of_ble_eq_true rfl, uw_t 186 (by decide +kernel) rfl⟩
theorem kf_X6_22 : ufl RX6 22 6 3 := ⟨_, _, _, _, ukX6, Nat.le_of_ble_eq_true rfl, uw_t 187 (by decide +kernel) rfl⟩
theorem kf_X6_25 : ufl RX6 25 6 4 := ⟨_, _, _, _, ukX6, Nat.le_of_ble_eq_true rfl, uw_t 189 (by decide +kernel) rfl⟩
theorem kf_X6_76 : ufl RX6 76 5 6 := ⟨_, _, _, _, ukX5, Nat.le_of_ble_eq_true rfl, uw_t 48 (by decide +kernel) rfl⟩
theorem kf_X8_3 : ufl RX8 3 8 0 := ⟨_, _, _, _, ukX8, Nat.le_of_ble_eq_true rfl, uw_t 1196 (by decide +kernel) rfl⟩
theorem kf_X8_7 : ufl RX8 7 8 1 := ⟨_, _, _, _, ukX8, Nat.le_of_ble_eq_true rfl, uw_t 1197 (by decide +kernel) rfl⟩
theorem kf_X8_17 : ufl RX8 17 8 8 := ⟨_, _, _, _, ukX8, Nat.le_of_ble_eq_true rfl, uw_t 1204 (by decide +kernel) rfl⟩
theorem kf_X8_20 : ufl RX8 20 8 9 := ⟨_, _, _, _, ukX8, Nat.le_of_ble_eq_true rfl, uw_t 1205 (by decide +kernel) rfl⟩
theorem kf_X8_23 : ufl RX8 23 8 10 := ⟨_, _, _, _, ukX8, Nat.le_of_ble_eq_true rfl, uw_t 1206 (by decide +kernel) rfl⟩
theorem kf_X8_26 : ufl RX8 26 8 11 := ⟨_, _, _, _, ukX8, Nat.le_of_ble_eq_true rfl, uw_t 1207 (by decide +kernel) rfl⟩
theorem kf_X8_29 : ufl RX8 29 8 12 := ⟨_, _, _, _, ukX8, Nat.le_of_ble_eq_true rfl, uw_t 1208 (by decide +kernel) rfl⟩
theorem kf_X8_32 : ufl RX8 32 8 13 := ⟨_, _, _, _, ukX8, Nat.le_of_ble_eq_true rfl, uw_t 1209 (by decide +kernel) rfl⟩
theorem kf_X8_35 : ufl RX8 35 8 20 := ⟨_, _, _, _, ukX8, Nat.le_of_ble_eq_true rfl, uw_t 1216 (by decide +kernel) rfl⟩
theorem kf_X8_38 : ufl RX8 38 8 21 := ⟨_, _, _, _, ukX8, Nat.le_of_ble_eq_true rfl, uw_t 1217 (by decide +kernel) rfl⟩
theorem kf_X8_41 : ufl RX8 41 8 22 := ⟨_, _, _, _, ukX8, Nat.le_of_ble_eq_true rfl, uw_t 1218 (by decide +kernel) rfl⟩
theorem kf_X8_44 : ufl RX8 44 8 23 := ⟨_, _, _, _, ukX8, Nat.le_of_ble_eq_true rfl, uw_t 1219 (by decide +kernel) rfl⟩
theorem kf_X8_47 : ufl RX8 47 8 24 := ⟨_, _, _, _, ukX8, Nat.le_of_ble_eq_true rfl, uw_t 1220 (by decide +kernel) rfl⟩
theorem kf_X8_50 : ufl RX8 50 8 27 := ⟨_, _, _, _, ukX8, Nat.le_of_ble_eq_true rfl, uw_t 1223 (by decide +kernel) rfl⟩
theorem kf_X8_53 : ufl RX8 53 8 28 := ⟨_, _, _, _, ukX8, Nat.le_of_ble_eq_true rfl, uw_t 1224 (by decide +kernel) rfl⟩
theorem kf_X8_56 : ufl RX8 56 8 29 := ⟨_, _, _, _, ukX8, Nat.le_of_ble_eq_true rfl, uw_t 1225 (by decide +kernel) rfl⟩
theorem kf_X8_59 : ufl RX8 59 8 36 := ⟨_, _, _, _, ukX8, Nat.le_of_ble_eq_true rfl, uw_t 1232 (by decide +kernel) rfl⟩
theorem kf_X8_62 : ufl RX8 62 8 37 := ⟨_, _, _, _, ukX8, Nat.le_of_ble_eq_true rfl, uw_t 1233 (by decide +kernel) rfl⟩
theorem kf_X8_65 : ufl RX8 65 8 38 := ⟨_, _, _, _, ukX8, Nat.le_of_ble_eq_true rfl, uw_t 1234 (by decide +kernel) rfl⟩
theorem kf_X8_68 : ufl RX8 68 8 39 := ⟨_, _, _, _, ukX8, Nat.le_of_ble_eq_true rfl, uw_t 1235 (by decide +kernel) rfl⟩
theorem kf_X8_71 : ufl RX8 71 8 40 := ⟨_, _, _, _, ukX8, Nat.le_of_ble_eq_true rfl, uw_t 1236 (by decide +kernel) rfl⟩
theorem kf_X8_74 : ufl RX8 74 8 42 := ⟨_, _, _, _, ukX8, Nat.le_of_ble_eq_true rfl, uw_t 1238 (by decide +kernel) rfl⟩
theorem kf_X8_77 : ufl RX8 77 8 43 := ⟨_, _, _, _, ukX8, Nat.le_of_ble_eq_true rfl, uw_t 1239 (by decide +kernel) rfl⟩
theorem kf_X8_80 : ufl RX8 80 8 44 := ⟨_, _, _, _, ukX8, Nat.le_of_ble_eq_true rfl, uw_t 1240 (by decide +kernel) rfl⟩
theorem kf_X8_83 : ufl RX8 83 8 45 := ⟨_, _, _, _, ukX8, Nat.le_of_ble_eq_true rfl, uw_t 1241 (by decide +kernel) rfl⟩
theorem kf_X8_87 : ufl RX8 87 8 47 := ⟨_, _, _, _, ukX8, Nat.le_of_ble_eq_true rfl, uw_t 1243 (by decide +kernel) rfl⟩
theorem kf_X8_96 : ufl RX8 96 8 2 := ⟨_, _, _, _, ukX8, Nat.le_of_ble_eq_true rfl, uw_t 1198 (by decide +kernel) rfl⟩
theorem kf_X8_99 : ufl RX8 99 8 5 := ⟨_, _, _, _, ukX8, Nat.le_of_ble_eq_true rfl, uw_t 1201 (by decide +kernel) rfl⟩
theorem kf_X8_102 : ufl RX8 102 8 6 := ⟨_, _, _, _, ukX8, Nat.le_of_ble_eq_true rfl, uw_t 1202 (by decide +kernel) rfl⟩
theorem kf_X8_105 : ufl RX8 105 8 4 := ⟨_, _, _, _, ukX8, Nat.le_of_ble_eq_true rfl, uw_t 1200 (by decide +kernel) rfl⟩
theorem kf_X8_108 : ufl RX8 108 8 3 := ⟨_, _, _, _, ukX8, Nat.le_of_ble_eq_true rfl, uw_t 1199 (by decide +kernel) rfl⟩
theorem kf_X8_139 : ufl RX8 139 8 7 := ⟨_, _, _, _, ukX8, Nat.le_of_ble_eq_true rfl, uw_t 1203 (by decide +kernel) rfl⟩
theorem kf_X8_142 : ufl RX8 142 8 14 := ⟨_, _, _, _, ukX8, Nat.le_of_ble_eq_true rfl, uw_t 1210 (by decide +kernel) rfl⟩
theorem kf_X8_145 : ufl RX8 145 8 15 := ⟨_, _, _, _, ukX8, Nat.le_of_ble_eq_true rfl, uw_t 1211 (by decide +kernel) rfl⟩
theorem kf_X8_148 : ufl RX8 148 8 16 := ⟨_, _, _, _, ukX8, Nat.le_of_ble_eq_true rfl, uw_t 1212 (by decide +kernel) rfl⟩
theorem kf_X8_151 : ufl RX8 151 8 17 := ⟨_, _, _, _, ukX8, Nat.le_of_ble_eq_true rfl, uw_t 1213 (by decide +kernel) rfl⟩
theorem kf_X8_154 : ufl RX8 154 8 18 := ⟨_, _, _, _, ukX8, Nat.le_of_ble_eq_true rfl, uw_t 1214 (by decide +kernel) rfl⟩
theorem kf_X8_157 : ufl RX8 157 8 19 := ⟨_, _, _, _, ukX8, Nat.le_of_ble_eq_true rfl, uw_t 1215 (by decide +kernel) rfl⟩
theorem kf_X8_164 : ufl RX8 164 8 26 := ⟨_, _, _, _, ukX8, Nat.le_of_ble_eq_true rfl, uw_t 1222 (by decide +kernel) rfl⟩
theorem kf_X8_167 : ufl RX8 167 8 41 := ⟨_, _, _, _, ukX8, Nat.le_of_ble_eq_true rfl, uw_t 1237 (by decide +kernel) rfl⟩
theorem kf_X8_170 : ufl RX8 170 8 31 := ⟨_, _, _, _, ukX8, Nat.le_of_ble_eq_true rfl, uw_t 1227 (by decide +kernel) rfl⟩
theorem kf_X8_173 : ufl RX8 173 8 48 := ⟨_, _, _, _, ukX8, Nat.le_of_ble_eq_true rfl, uw_t 1244 (by decide +kernel) rfl⟩
theorem kf_X8_176 : ufl RX8 176 8 32 := ⟨_, _, _, _, ukX8, Nat.le_of_ble_eq_true rfl, uw_t 1228 (by decide +kernel) rfl⟩
theorem kf_X8_223 : ufl RX8 223 8 25 := ⟨_, _, _, _, ukX8, Nat.le_of_ble_eq_true rfl, uw_t 1221 (by decide +kernel) rfl⟩
theorem kf_X8_269 : ufl RX8 269 8 30 := ⟨_, _, _, _, ukX8, Nat.le_of_ble_eq_true rfl, uw_t 1226 (by decide +kernel) rfl⟩
theorem kf_X8_305 : ufl RX8 305 8 33 := ⟨_, _, _, _, ukX8, Nat.le_of_ble_eq_true rfl, uw_t 1229 (by decide +kernel) rfl⟩
theorem kf_X8_308 : ufl RX8 308 8 34 := ⟨_, _, _, _, ukX8, Nat.le_of_ble_eq_true rfl, uw_t 1230 (by decide +kernel) rfl⟩
theorem kf_X8_311 : ufl RX8 311 8 35 := ⟨_, _, _, _, ukX8, Nat.le_of_ble_eq_true rfl, uw_t 1231 (by decide +kernel) rfl⟩
theorem kf_X8_433 : ufl RX8 433 8 46 := ⟨_, _, _, _, ukX8, Nat.le_of_ble_eq_true rfl, uw_t 1242 (by decide +kernel) rfl⟩
theorem kp_X7_79 : ufp RX7 79 7 12 := ⟨_, _, _, _, ukX7, Nat.le_of_ble_eq_true rfl, uw_t 246 (by decide +kernel) rfl, rfl, rfl⟩
theorem kp_X7_83 : ufp RX7 83 7 13 := ⟨_, _, _, _, ukX7, Nat.le_of_ble_eq_true rfl, uw_t 247 (by decide +kernel) rfl, rfl, rfl⟩
theorem kp_X7_86 : ufp RX7 86 7 14 := ⟨_, _, _, _, ukX7, Nat.le_of_ble_eq_true rfl, uw_t 248 (by decide +kernel) rfl, rfl, rfl⟩
theorem kp_X7_89 : ufp RX7 89 7 15 := ⟨_, _, _, _, ukX7, Nat.le_of_ble_eq_true rfl, uw_t 249 (by decide +kernel) rfl, rfl, rfl⟩
theorem kp_X7_92 : ufp RX7 92 7 16 := ⟨_, _, _, _, ukX7, Nat.le_of_ble_eq_true rfl, uw_t 250 (by decide +kernel) rfl, rfl, rfl⟩
theorem kp_X7_128 : ufp RX7 128 3 1 := ⟨_, _, _, _, ukX3, Nat.le_of_ble_eq_true rfl, uw_t 227 (by decide +kernel) rfl, rfl, rfl⟩
theorem kp_X0_15 : ufp RX0 15 0 1 := ⟨_, _, _, _, ukX0, Nat.le_of_ble_eq_true rfl, uw_t 167 (by decide +kernel) rfl, rfl, rfl⟩
theorem kp_X1_9 : ufp RX1 9 1 0 := ⟨_, _, _, _, ukX1, Nat.le_of_ble_eq_true rfl, uw_t 79 (by decide +kernel) rfl, rfl, rfl⟩
theorem kp_X1_15 : ufp RX1 15 1 1 := ⟨_, _, _, _, ukX1, Nat.le_of_ble_eq_true rfl, uw_t 82 (by decide +kernel) rfl, rfl, rfl⟩
theorem kp_X1_18 : ufp RX1 18 1 2 := ⟨_, _, _, _, ukX1, Nat.le_of_ble_eq_true rfl, uw_t 85 (by decide +kernel) rfl, rfl, rfl⟩
theorem kp_X2_15 : ufp RX2 15 2 1 := ⟨_, _, _, _, ukX2, Nat.le_of_ble_eq_true rfl, uw_t 133 (by decide +kernel) rfl, rfl, rfl⟩
theorem kp_X2_22 : ufp RX2 22 2 3 := ⟨_, _, _, _, ukX2, Nat.le_of_ble_eq_true rfl, uw_t 135 (by decide +kernel) rfl, rfl, rfl⟩
theorem kp_X2_28 : ufp RX2 28 2 5 := ⟨_, _, _, _, ukX2, Nat.le_of_ble_eq_true rfl, uw_t 137 (by decide +kernel) rfl, rfl, rfl⟩
theorem kp_X3_17 : ufp RX3 17 3 1 := ⟨_, _, _, _, ukX3, Nat.le_of_ble_eq_true rfl, uw_t 226 (by decide +kernel) rfl, rfl, rfl⟩
theorem kp_X5_15 : ufp RX5 15 5 1 := ⟨_, _, _, _, ukX5, Nat.le_of_ble_eq_true rfl, uw_t 38 (by decide +kernel) rfl, rfl, rfl⟩
theorem kp_X5_19 : ufp RX5 19 5 2 := ⟨_, _, _, _, ukX5, Nat.le_of_ble_eq_true rfl, uw_t 40 (by decide +kernel) rfl, rfl, rfl⟩
theorem kp_X5_22 : ufp RX5 22 5 3 := ⟨_, _, _, _, ukX5, Nat.le_of_ble_eq_true rfl, uw_t 41 (by decide +kernel) rfl, rfl, rfl⟩
theorem kp_X5_25 : ufp RX5 25 5 4 := ⟨_, _, _, _, ukX5, Nat.le_of_ble_eq_true rfl, uw_t 42 (by decide +kernel) rfl, rfl, rfl⟩
theorem kp_X5_28 : ufp RX5 28 5 5 := ⟨_, _, _, _, ukX5, Nat.le_of_ble_eq_true rfl, uw_t 43 (by decide +kernel) rfl, rfl, rfl⟩
theorem kp_X5_31 : ufp RX5 31 5 6 := ⟨_, _, _, _, ukX5, Nat.le_of_ble_eq_true rfl, uw_t 45 (by decide +kernel) rfl, rfl, rfl⟩
theorem kp_X5_34 : ufp RX5 34 5 7 := ⟨_, _, _, _, ukX5, Nat.le_of_ble_eq_true rfl, uw_t 50 (by decide +kernel) rfl, rfl, rfl⟩
theorem kp_X5_37 : ufp RX5 37 5 8 := ⟨_, _, _, _, ukX5, Nat.le_of_ble_eq_true rfl, uw_t 52 (by decide +kernel) rfl, rfl, rfl⟩
theorem kp_X6_15 : ufp RX6 15 6 1 := ⟨_, _, _, _, ukX6, Nat.le_of_ble_eq_true rfl, uw_t 184 (by decide +kernel) rfl, rfl, rfl⟩
theorem kp_X6_19 : ufp RX6 19 6 2 := ⟨_, _, _, _, ukX6, Nat.le_of_ble_eq_true rfl, uw_t 186 (by decide +kernel) rfl, rfl, rfl⟩
theorem kp_X6_22 : ufp RX6 22 6 3 := ⟨_, _, _, _, ukX6, Nat.le_of_ble_eq_true rfl, uw_t 187 (by decide +kernel) rfl, rfl, rfl⟩
theorem kp_X6_25 : ufp RX6 25 6 4 := ⟨_, _, _, _, ukX6, Nat.le_of_ble_eq_true rfl, uw_t 189 (by decide +kernel) rfl, rfl, rfl⟩
theorem kp_X8_3 : ufp RX8 3 8 0 := ⟨_, _, _, _, ukX8, Nat.le_of_ble_eq_true rfl, uw_t 1196 (by decide +kernel) rfl, rfl, rfl⟩
theorem kp_X8_17 : ufp RX8 17 8 8 := ⟨_, _, _, _, ukX8, Nat.le_of_ble_eq_true rfl, uw_t 1204 (by decide +kernel) rfl, rfl, rfl⟩
theorem kp_X8_96 : ufp RX8 96 8 2 := ⟨_, _, _, _, ukX8, Nat.le_of_ble_eq_true rfl, uw_t 1198 (by decide +kernel) rfl, rfl, rfl⟩
theorem kp_X8_99 : ufp RX8 99 8 5 := ⟨_, _, _, _, ukX8, Nat.le_of_ble_eq_true rfl, uw_t 1201 (by decide +kernel) rfl, rfl, rfl⟩
theorem kp_X8_102 : ufp RX8 102 8 6 := ⟨_, _, _, _, ukX8, Nat.le_of_ble_eq_true rfl, uw_t 1202 (by decide +kernel) rfl, rfl, rfl⟩
theorem kp_X8_105 : ufp RX8 105 8 4 := ⟨_, _, _, _, ukX8, Nat.le_of_ble_eq_true rfl, uw_t 1200 (by decide +kernel) rfl, rfl, rfl⟩
theorem kp_X8_108 : ufp RX8 108 8 3 := ⟨_, _, _, _, ukX8, Nat.le_of_ble_eq_true rfl, uw_t 1199 (by decide +kernel) rfl, rfl, rfl⟩
theorem kp_X8_139 : ufp RX8 139 8 7 := ⟨_, _, _, _, ukX8, Nat.le_of_ble_eq_true rfl, uw_t 1203 (by decide +kernel) rfl, rfl, rfl⟩
theorem kp_X8_142 : ufp RX8 142 8 14 := ⟨_, _, _, _, ukX8, Nat.le_of_ble_eq_true rfl, uw_t 1210 (by decide +kernel) rfl, rfl, rfl⟩
theorem kp_X8_145 : ufp RX8 145 8 15 := ⟨_, _, _, _, ukX8, Nat.le_of_ble_eq_true rfl, uw_t 1211 (by decide +kernel) rfl, rfl, rfl⟩
theorem kp_X8_148 : ufp RX8 148 8 16 := ⟨_, _, _, _, ukX8, Nat.le_of_ble_eq_true rfl, uw_t 1212 (by decide +kernel) rfl, rfl, rfl⟩
theorem kp_X8_151 : ufp RX8 151 8 17 := ⟨_, _, _, _, ukX8, Nat.le_of_ble_eq_true rfl, uw_t 1213 (by decide +kernel) rfl, rfl, rfl⟩
theorem kp_X8_154 : ufp RX8 154 8 18 := ⟨_, _, _, _, ukX8, Nat.le_of_ble_eq_true rfl, uw_t 1214 (by decide +kernel) rfl, rfl, rfl⟩
theorem kp_X8_157 : ufp RX8 157 8 19 := ⟨_, _, _, _, ukX8, Nat.le_of_ble_eq_true rfl, uw_t 1215 (by decide +kernel) rfl, rfl, rfl⟩
theorem kp_X8_164 : ufp RX8 164 8 26 := ⟨_, _, _, _, ukX8, Nat.le_of_ble_eq_true rfl, uw_t 1222 (by decide +kernel) rfl, rfl, rfl⟩
theorem kp_X8_167 : ufp RX8 167 8 41 := ⟨_, _, _, _, ukX8, Nat.le_of_ble_eq_true rfl, uw_t 1237 (by decide +kernel) rfl, rfl, rfl⟩
theorem kp_X8_170 : ufp RX8 170 8 31 := ⟨_, _, _, _, ukX8, Nat.le_of_ble_eq_true rfl, uw_t 1227 (by decide +kernel) rfl, rfl, rfl⟩
theorem kp_X8_173 : ufp RX8 173 8 48 := ⟨_, _, _, _, ukX8, Nat.le_of_ble_eq_true rfl, uw_t 1244 (by decide +kernel) rfl, rfl, rfl⟩
theorem kp_X8_176 : ufp RX8 176 8 32 := ⟨_, _, _, _, ukX8, Nat.le_of_ble_eq_true rfl, uw_t 1228 (by decide +kernel) rfl, rfl, rfl⟩
theorem kp_X8_223 : ufp RX8 223 8 25 := ⟨_, _, _, _, ukX8, Nat.le_of_ble_eq_true rfl, uw_t 1221 (by decide +kernel) rfl, rfl, rfl⟩
theorem kp_X8_269 : ufp RX8 269 8 30 := ⟨_, _, _, _, ukX8, Nat.le_of_ble_eq_true rfl, uw_t 1226 (by decide +kernel) rfl, rfl, rfl⟩
theorem kp_X8_305 : ufp RX8 305 8 33 := ⟨_, _, _, _, ukX8, Nat.le_of_ble_eq_true rfl, uw_t 1229 (by decide +kernel) rfl, rfl, rfl⟩
theorem kp_X8_308 : ufp RX8 308 8 34 := ⟨_, _, _, _, ukX8, Nat.le_of_ble_eq_true rfl, uw_t 1230 (by decide +kernel) rfl, rfl, rfl⟩
theorem kp_X8_311 : ufp RX8 311 8 35 := ⟨_, _, _, _, ukX8, Nat.le_of_ble_eq_true rfl, uw_t 1231 (by decide +kernel) rfl, rfl, rfl⟩
theorem kp_X8_433 : ufp RX8 433 8 46 := ⟨_, _, _, _, ukX8, Nat.le_of_ble_eq_true rfl, uw_t 1242 (by decide +kernel) rfl, rfl, rfl⟩
theorem kk_X7_243 : Cond.constant RX7 243 (-2147483648) ∈ uw := uw_t 1100 (by decide +kernel) rfl
theorem kk_X7_262 : Cond.constant RX7 262 2147483647 ∈ uw := uw_t 911 (by decide +kernel) rfl
theorem kk_X7_326 : Cond.constantLong RX7 326 16 ∈ uw := uw_t 1013 (by decide +kernel) rfl
theorem kk_X7_345 : Cond.constantLong RX7 345 (-1) ∈ uw := uw_t 924 (by decide +kernel) rfl
theorem kk_X7_360 : Cond.constant RX7 360 1103515245 ∈ uw := uw_t 1165 (by decide +kernel) rfl
theorem kk_X5_54 : Cond.constant RX5 54 100000 ∈ uw := uw_t 532 (by decide +kernel) rfl
theorem kk_X8_432 : Cond.constant RX8 432 (-2147483648) ∈ uw := uw_t 1754 (by decide +kernel) rfl
theorem kk_X8_436 : Cond.constant RX8 436 1103515245 ∈ uw := uw_t 1794 (by decide +kernel) rfl
theorem kk_J6_265 : Cond.constant RJ6 265 1431655765 ∈ uw := uw_t 772 (by decide +kernel) rfl
theorem kk_J6_266 : Cond.constant RJ6 266 858993459 ∈ uw := uw_t 773 (by decide +kernel) rfl
theorem kk_J6_267 : Cond.constant RJ6 267 252645135 ∈ uw := uw_t 774 (by decide +kernel) rfl
theorem kh_X7_328 : Cond.fieldLink RX7 328 RX7 "HALFPENNIES" "[I" ∈ uw := uw_t 1028 (by decide +kernel) rfl
theorem kh_X2_37 : Cond.fieldLink RX2 37 RX2 "PLAIN" "[I" ∈ uw := uw_t 123 (by decide +kernel) rfl
theorem kw_J6_bitCount_0f7a4 : Cond.code yJ6_bitCount_0f7a4 cJ6_bitCount_0f7a4 1 (some .int) ∈ uw := uw_t 771 (by decide +kernel) rfl
theorem kw_J7_fill_53178 : Cond.code yJ7_fill_53178 cJ7_fill_53178 4 none ∈ uw := uw_t 164 (by decide +kernel) rfl
theorem kw_X0_forget : Cond.code yX0_forget cX0_forget 1 none ∈ uw := uw_t 560 (by decide +kernel) rfl
theorem kw_X0_isRight : Cond.code yX0_isRight cX0_isRight 4 (some .boolean) ∈ uw := uw_t 976 (by decide +kernel) rfl
theorem kw_X0_read : Cond.code yX0_read cX0_read 5 (some .boolean) ∈ uw := uw_t 802 (by decide +kernel) rfl
theorem kw_X0_readLine : Cond.code yX0_readLine cX0_readLine 4 (some .boolean) ∈ uw := uw_t 807 (by decide +kernel) rfl
theorem kw_X1_copyFrom : Cond.code yX1_copyFrom cX1_copyFrom 2 none ∈ uw := uw_t 554 (by decide +kernel) rfl
theorem kw_X1_firstViewX : Cond.code yX1_firstViewX cX1_firstViewX 4 (some .int) ∈ uw := uw_t 957 (by decide +kernel) rfl
theorem kw_X1_mostWorth : Cond.code yX1_mostWorth cX1_mostWorth 7 (some .int) ∈ uw := uw_t 953 (by decide +kernel) rfl
theorem kw_X1_read : Cond.code yX1_read cX1_read 3 (some .boolean) ∈ uw := uw_t 446 (by decide +kernel) rfl
theorem kw_X1_readClause : Cond.code yX1_readClause cX1_readClause 3 (some .boolean) ∈ uw := uw_t 458 (by decide +kernel) rfl
theorem kw_X1_readSoap : Cond.code yX1_readSoap cX1_readSoap 2 (some .boolean) ∈ uw := uw_t 546 (by decide +kernel) rfl
theorem kw_X1_readTenant : Cond.code yX1_readTenant cX1_readTenant 2 (some .boolean) ∈ uw := uw_t 541 (by decide +kernel) rfl
theorem kw_X1_readView : Cond.code yX1_readView cX1_readView 2 (some .boolean) ∈ uw := uw_t 527 (by decide +kernel) rfl
theorem kw_X1_worthWithin : Cond.code yX1_worthWithin cX1_worthWithin 5 (some .int) ∈ uw := uw_t 942 (by decide +kernel) rfl
theorem kw_X2_combined : Cond.code yX2_combined cX2_combined 3 (some .int) ∈ uw := uw_t 789 (by decide +kernel) rfl
theorem kw_X2_forget : Cond.code yX2_forget cX2_forget 1 none ∈ uw := uw_t 122 (by decide +kernel) rfl
theorem kw_X2_life : Cond.code yX2_life cX2_life 4 (some .int) ∈ uw := uw_t 786 (by decide +kernel) rfl
theorem kw_X2_nameWord : Cond.code yX2_nameWord cX2_nameWord 1 (some .int) ∈ uw := uw_t 624 (by decide +kernel) rfl
theorem kw_X2_operatorWord : Cond.code yX2_operatorWord cX2_operatorWord 1 (some .int) ∈ uw := uw_t 613 (by decide +kernel) rfl
theorem kw_X2_put : Cond.code yX2_put cX2_put 2 (some .boolean) ∈ uw := uw_t 599 (by decide +kernel) rfl
theorem kw_X2_read : Cond.code yX2_read cX2_read 2 (some .boolean) ∈ uw := uw_t 578 (by decide +kernel) rfl
theorem kw_X2_readBracket : Cond.code yX2_readBracket cX2_readBracket 3 (some .boolean) ∈ uw := uw_t 604 (by decide +kernel) rfl
theorem kw_X2_readProduct : Cond.code yX2_readProduct cX2_readProduct 5 (some .boolean) ∈ uw := uw_t 586 (by decide +kernel) rfl
theorem kw_X2_readSum : Cond.code yX2_readSum cX2_readSum 5 (some .boolean) ∈ uw := uw_t 582 (by decide +kernel) rfl
theorem kw_X2_readTwo : Cond.code yX2_readTwo cX2_readTwo 3 (some .boolean) ∈ uw := uw_t 620 (by decide +kernel) rfl
theorem kw_X2_readUnit : Cond.code yX2_readUnit cX2_readUnit 5 (some .boolean) ∈ uw := uw_t 590 (by decide +kernel) rfl
theorem kw_X2_takeDraft : Cond.code yX2_takeDraft cX2_takeDraft 2 none ∈ uw := uw_t 131 (by decide +kernel) rfl
theorem kw_X2_uses : Cond.code yX2_uses cX2_uses 2 (some .boolean) ∈ uw := uw_t 760 (by decide +kernel) rfl
theorem kw_X3_copyFrom : Cond.code yX3_copyFrom cX3_copyFrom 2 none ∈ uw := uw_t 314 (by decide +kernel) rfl
theorem kw_X3_note : Cond.code yX3_note cX3_note 2 none ∈ uw := uw_t 318 (by decide +kernel) rfl
theorem kw_X3_recall : Cond.code yX3_recall cX3_recall 2 none ∈ uw := uw_t 305 (by decide +kernel) rfl
theorem kw_X4_blow : Cond.code yX4_blow cX4_blow 3 (some .boolean) ∈ uw := uw_t 704 (by decide +kernel) rfl
theorem kw_X4_breathe : Cond.code yX4_breathe cX4_breathe 4 (some .boolean) ∈ uw := uw_t 752 (by decide +kernel) rfl
theorem kw_X4_burstAll : Cond.code yX4_burstAll cX4_burstAll 3 none ∈ uw := uw_t 731 (by decide +kernel) rfl
theorem kw_X4_canBlow : Cond.code yX4_canBlow cX4_canBlow 3 (some .boolean) ∈ uw := uw_t 708 (by decide +kernel) rfl
theorem kw_X4_canKeep : Cond.code yX4_canKeep cX4_canKeep 2 (some .boolean) ∈ uw := uw_t 361 (by decide +kernel) rfl
theorem kw_X4_canSell : Cond.code yX4_canSell cX4_canSell 4 (some .boolean) ∈ uw := uw_t 743 (by decide +kernel) rfl
theorem kw_X4_carriedOff : Cond.code yX4_carriedOff cX4_carriedOff 5 (some .int) ∈ uw := uw_t 727 (by decide +kernel) rfl
theorem kw_X4_copyFrom : Cond.code yX4_copyFrom cX4_copyFrom 2 none ∈ uw := uw_t 909 (by decide +kernel) rfl
theorem kw_X4_drift : Cond.code yX4_drift cX4_drift 3 (some .boolean) ∈ uw := uw_t 719 (by decide +kernel) rfl
theorem kw_X4_farFrom : Cond.code yX4_farFrom cX4_farFrom 3 (some .int) ∈ uw := uw_t 350 (by decide +kernel) rfl
theorem kw_X4_has : Cond.code yX4_has cX4_has 2 (some .boolean) ∈ uw := uw_t 346 (by decide +kernel) rfl
theorem kw_X4_holders : Cond.code yX4_holders cX4_holders 3 (some .int) ∈ uw := uw_t 723 (by decide +kernel) rfl
theorem kw_X4_keepUp : Cond.code yX4_keepUp cX4_keepUp 2 (some .boolean) ∈ uw := uw_t 747 (by decide +kernel) rfl
theorem kw_X4_life : Cond.code yX4_life cX4_life 2 (some .int) ∈ uw := uw_t 756 (by decide +kernel) rfl
theorem kw_X4_moneyOfAll : Cond.code yX4_moneyOfAll cX4_moneyOfAll 3 (some .int) ∈ uw := uw_t 823 (by decide +kernel) rfl
theorem kw_X4_open : Cond.code yX4_open cX4_open 2 none ∈ uw := uw_t 564 (by decide +kernel) rfl
theorem kw_X4_overlapOf : Cond.code yX4_overlapOf cX4_overlapOf 3 (some .int) ∈ uw := uw_t 768 (by decide +kernel) rfl
theorem kw_X4_owner : Cond.code yX4_owner cX4_owner 6 (some .int) ∈ uw := uw_t 782 (by decide +kernel) rfl
theorem kw_X4_ownerOrNobody : Cond.code yX4_ownerOrNobody cX4_ownerOrNobody 3 (some .int) ∈ uw := uw_t 980 (by decide +kernel) rfl
theorem kw_X4_price : Cond.code yX4_price cX4_price 1 (some .int) ∈ uw := uw_t 711 (by decide +kernel) rfl
theorem kw_X4_putBubble : Cond.code yX4_putBubble cX4_putBubble 5 none ∈ uw := uw_t 715 (by decide +kernel) rfl
theorem kw_X4_runTo : Cond.code yX4_runTo cX4_runTo 3 (some .boolean) ∈ uw := uw_t 735 (by decide +kernel) rfl
theorem kw_X4_seenBy : Cond.code yX4_seenBy cX4_seenBy 4 (some .int) ∈ uw := uw_t 338 (by decide +kernel) rfl
theorem kw_X4_sees : Cond.code yX4_sees cX4_sees 3 (some .boolean) ∈ uw := uw_t 342 (by decide +kernel) rfl
theorem kw_X4_sellFor : Cond.code yX4_sellFor cX4_sellFor 4 (some .boolean) ∈ uw := uw_t 739 (by decide +kernel) rfl
theorem kw_X4_touching : Cond.code yX4_touching cX4_touching 4 (some .int) ∈ uw := uw_t 764 (by decide +kernel) rfl
theorem kw_X4_touchingTwos : Cond.code yX4_touchingTwos cX4_touchingTwos 3 (some .int) ∈ uw := uw_t 831 (by decide +kernel) rfl
theorem kw_X4_viewsHad : Cond.code yX4_viewsHad cX4_viewsHad 4 (some .int) ∈ uw := uw_t 876 (by decide +kernel) rfl
theorem kw_X4_viewsSeen : Cond.code yX4_viewsSeen cX4_viewsSeen 4 (some .int) ∈ uw := uw_t 890 (by decide +kernel) rfl
theorem kw_X4_worthHad : Cond.code yX4_worthHad cX4_worthHad 3 (some .int) ∈ uw := uw_t 827 (by decide +kernel) rfl
theorem kw_X4_worthOf : Cond.code yX4_worthOf cX4_worthOf 4 (some .int) ∈ uw := uw_t 778 (by decide +kernel) rfl
theorem kw_X5_add : Cond.code yX5_add cX5_add 3 none ∈ uw := uw_t 293 (by decide +kernel) rfl
theorem kw_X5_atDigit : Cond.code yX5_atDigit cX5_atDigit 2 (some .boolean) ∈ uw := uw_t 594 (by decide +kernel) rfl
theorem kw_X5_begin : Cond.code yX5_begin cX5_begin 2 none ∈ uw := uw_t 439 (by decide +kernel) rfl
theorem kw_X5_fail : Cond.code yX5_fail cX5_fail 3 (some .boolean) ∈ uw := uw_t 523 (by decide +kernel) rfl
theorem kw_X5_failAtWord : Cond.code yX5_failAtWord cX5_failAtWord 2 (some .boolean) ∈ uw := uw_t 519 (by decide +kernel) rfl
theorem kw_X5_failHere : Cond.code yX5_failHere cX5_failHere 2 (some .boolean) ∈ uw := uw_t 609 (by decide +kernel) rfl
theorem kw_X5_faultAnswer : Cond.code yX5_faultAnswer cX5_faultAnswer 1 (some .int) ∈ uw := uw_t 550 (by decide +kernel) rfl
theorem kw_X5_hasMore : Cond.code yX5_hasMore cX5_hasMore 1 (some .boolean) ∈ uw := uw_t 450 (by decide +kernel) rfl
theorem kw_X5_peek : Cond.code yX5_peek cX5_peek 1 (some .int) ∈ uw := uw_t 454 (by decide +kernel) rfl
theorem kw_X5_takeIf : Cond.code yX5_takeIf cX5_takeIf 2 (some .boolean) ∈ uw := uw_t 636 (by decide +kernel) rfl
theorem kw_X5_takeNumber : Cond.code yX5_takeNumber cX5_takeNumber 3 (some .boolean) ∈ uw := uw_t 531 (by decide +kernel) rfl
theorem kw_X5_takeSign : Cond.code yX5_takeSign cX5_takeSign 2 (some .boolean) ∈ uw := uw_t 536 (by decide +kernel) rfl
theorem kw_X5_takeWord : Cond.code yX5_takeWord cX5_takeWord 1 none ∈ uw := uw_t 462 (by decide +kernel) rfl
theorem kw_X5_wordIs : Cond.code yX5_wordIs cX5_wordIs 3 (some .boolean) ∈ uw := uw_t 467 (by decide +kernel) rfl
theorem kw_X6_isDone : Cond.code yX6_isDone cX6_isDone 5 (some .boolean) ∈ uw := uw_t 700 (by decide +kernel) rfl
theorem kw_X6_performFrom : Cond.code yX6_performFrom cX6_performFrom 8 none ∈ uw := uw_t 691 (by decide +kernel) rfl
theorem kw_X6_read : Cond.code yX6_read cX6_read 3 (some .boolean) ∈ uw := uw_t 648 (by decide +kernel) rfl
theorem kw_X6_readAgain : Cond.code yX6_readAgain cX6_readAgain 5 (some .boolean) ∈ uw := uw_t 676 (by decide +kernel) rfl
theorem kw_X6_readNumber : Cond.code yX6_readNumber cX6_readNumber 5 (some .boolean) ∈ uw := uw_t 680 (by decide +kernel) rfl
theorem kw_X6_readNumbers : Cond.code yX6_readNumbers cX6_readNumbers 5 (some .boolean) ∈ uw := uw_t 686 (by decide +kernel) rfl
theorem kw_X6_readStep : Cond.code yX6_readStep cX6_readStep 7 (some .boolean) ∈ uw := uw_t 658 (by decide +kernel) rfl
theorem kw_X6_readSteps : Cond.code yX6_readSteps cX6_readSteps 5 (some .boolean) ∈ uw := uw_t 652 (by decide +kernel) rfl
theorem kw_X6_stepWord : Cond.code yX6_stepWord cX6_stepWord 1 (some .int) ∈ uw := uw_t 662 (by decide +kernel) rfl
theorem kw_X7_draw : Cond.code yX7_draw cX7_draw 2 (some .int) ∈ uw := uw_t 1164 (by decide +kernel) rfl
theorem kw_X7_gain : Cond.code yX7_gain cX7_gain 4 (some .int) ∈ uw := uw_t 1042 (by decide +kernel) rfl
theorem kw_X7_isContent : Cond.code yX7_isContent cX7_isContent 4 (some .boolean) ∈ uw := uw_t 1039 (by decide +kernel) rfl
theorem kw_X7_leastTerms : Cond.code yX7_leastTerms cX7_leastTerms 12 (some .long) ∈ uw := uw_t 923 (by decide +kernel) rfl
theorem kw_X7_need : Cond.code yX7_need cX7_need 4 none ∈ uw := uw_t 373 (by decide +kernel) rfl
theorem kw_X7_needAfternoon : Cond.code yX7_needAfternoon cX7_needAfternoon 3 none ∈ uw := uw_t 1156 (by decide +kernel) rfl
theorem kw_X7_needTenant : Cond.code yX7_needTenant cX7_needTenant 2 none ∈ uw := uw_t 871 (by decide +kernel) rfl
theorem kw_X7_needView : Cond.code yX7_needView cX7_needView 2 none ∈ uw := uw_t 843 (by decide +kernel) rfl
theorem kw_X7_neighbours : Cond.code yX7_neighbours cX7_neighbours 4 (some .int) ∈ uw := uw_t 1091 (by decide +kernel) rfl
theorem kw_X7_playAfternoon : Cond.code yX7_playAfternoon cX7_playAfternoon 8 none ∈ uw := uw_t 1160 (by decide +kernel) rfl
theorem kw_X7_power : Cond.code yX7_power cX7_power 6 (some .long) ∈ uw := uw_t 1012 (by decide +kernel) rfl
theorem kw_X7_sunBound : Cond.code yX7_sunBound cX7_sunBound 4 (some .int) ∈ uw := uw_t 1053 (by decide +kernel) rfl
theorem kw_X7_sunGiven : Cond.code yX7_sunGiven cX7_sunGiven 4 (some .int) ∈ uw := uw_t 1057 (by decide +kernel) rfl
theorem kw_X7_tallyOwners : Cond.code yX7_tallyOwners cX7_tallyOwners 3 none ∈ uw := uw_t 991 (by decide +kernel) rfl
theorem kw_X7_tallyTrial : Cond.code yX7_tallyTrial cX7_tallyTrial 2 none ∈ uw := uw_t 996 (by decide +kernel) rfl
theorem kw_X7_tryPair : Cond.code yX7_tryPair cX7_tryPair 3 (some .boolean) ∈ uw := uw_t 971 (by decide +kernel) rfl
theorem kw_X7_worstLeft : Cond.code yX7_worstLeft cX7_worstLeft 4 (some .int) ∈ uw := uw_t 1001 (by decide +kernel) rfl
theorem kw_X8_afternoonGoes : Cond.code yX8_afternoonGoes cX8_afternoonGoes 8 none ∈ uw := uw_t 1789 (by decide +kernel) rfl
theorem kw_X8_areTouching : Cond.code yX8_areTouching cX8_areTouching 3 (some .boolean) ∈ uw := uw_t 1557 (by decide +kernel) rfl
theorem kw_X8_begins : Cond.code yX8_begins cX8_begins 2 none ∈ uw := uw_t 1364 (by decide +kernel) rfl
theorem kw_X8_both : Cond.code yX8_both cX8_both 3 (some .int) ∈ uw := uw_t 1591 (by decide +kernel) rfl
theorem kw_X8_bounded : Cond.code yX8_bounded cX8_bounded 4 (some .int) ∈ uw := uw_t 1725 (by decide +kernel) rfl
theorem kw_X8_bursts : Cond.code yX8_bursts cX8_bursts 2 none ∈ uw := uw_t 1530 (by decide +kernel) rfl
theorem kw_X8_clears : Cond.code yX8_clears cX8_clears 1 none ∈ uw := uw_t 1187 (by decide +kernel) rfl
theorem kw_X8_copies : Cond.code yX8_copies cX8_copies 5 none ∈ uw := uw_t 1195 (by decide +kernel) rfl
theorem kw_X8_draws : Cond.code yX8_draws cX8_draws 2 (some .int) ∈ uw := uw_t 1793 (by decide +kernel) rfl
theorem kw_X8_emit : Cond.code yX8_emit cX8_emit 3 none ∈ uw := uw_t 1449 (by decide +kernel) rfl
theorem kw_X8_factHere : Cond.code yX8_factHere cX8_factHere 2 (some .int) ∈ uw := uw_t 1459 (by decide +kernel) rfl
theorem kw_X8_fine : Cond.code yX8_fine cX8_fine 1 (some .boolean) ∈ uw := uw_t 1368 (by decide +kernel) rfl
theorem kw_X8_goesSteps : Cond.code yX8_goesSteps cX8_goesSteps 6 none ∈ uw := uw_t 1503 (by decide +kernel) rfl
theorem kw_X8_hasBy : Cond.code yX8_hasBy cX8_hasBy 4 (some .int) ∈ uw := uw_t 1713 (by decide +kernel) rfl
theorem kw_X8_here : Cond.code yX8_here cX8_here 1 (some .int) ∈ uw := uw_t 1376 (by decide +kernel) rfl
theorem kw_X8_isAfternoon : Cond.code yX8_isAfternoon cX8_isAfternoon 2 (some .boolean) ∈ uw := uw_t 1785 (by decide +kernel) rfl
theorem kw_X8_isBlown : Cond.code yX8_isBlown cX8_isBlown 3 (some .boolean) ∈ uw := uw_t 1511 (by decide +kernel) rfl
theorem kw_X8_isDigit : Cond.code yX8_isDigit cX8_isDigit 1 (some .boolean) ∈ uw := uw_t 1417 (by decide +kernel) rfl
theorem kw_X8_isDone : Cond.code yX8_isDone cX8_isDone 5 (some .boolean) ∈ uw := uw_t 1507 (by decide +kernel) rfl
theorem kw_X8_isDriven : Cond.code yX8_isDriven cX8_isDriven 4 (some .boolean) ∈ uw := uw_t 1515 (by decide +kernel) rfl
theorem kw_X8_isFit : Cond.code yX8_isFit cX8_isFit 4 (some .boolean) ∈ uw := uw_t 1682 (by decide +kernel) rfl
theorem kw_X8_isFull : Cond.code yX8_isFull cX8_isFull 2 (some .boolean) ∈ uw := uw_t 1402 (by decide +kernel) rfl
theorem kw_X8_isMore : Cond.code yX8_isMore cX8_isMore 1 (some .boolean) ∈ uw := uw_t 1372 (by decide +kernel) rfl
theorem kw_X8_isOut : Cond.code yX8_isOut cX8_isOut 3 (some .boolean) ∈ uw := uw_t 1523 (by decide +kernel) rfl
theorem kw_X8_isRow : Cond.code yX8_isRow cX8_isRow 1 (some .boolean) ∈ uw := uw_t 1386 (by decide +kernel) rfl
theorem kw_X8_isSeen : Cond.code yX8_isSeen cX8_isSeen 3 (some .boolean) ∈ uw := uw_t 1572 (by decide +kernel) rfl
theorem kw_X8_isSmall : Cond.code yX8_isSmall cX8_isSmall 1 (some .boolean) ∈ uw := uw_t 1383 (by decide +kernel) rfl
theorem kw_X8_isSold : Cond.code yX8_isSold cX8_isSold 5 (some .boolean) ∈ uw := uw_t 1534 (by decide +kernel) rfl
theorem kw_X8_isTenant : Cond.code yX8_isTenant cX8_isTenant 3 (some .boolean) ∈ uw := uw_t 1631 (by decide +kernel) rfl
theorem kw_X8_isView : Cond.code yX8_isView cX8_isView 3 (some .boolean) ∈ uw := uw_t 1623 (by decide +kernel) rfl
theorem kw_X8_keepsAll : Cond.code yX8_keepsAll cX8_keepsAll 4 none ∈ uw := uw_t 1806 (by decide +kernel) rfl
theorem kw_X8_keepsRow : Cond.code yX8_keepsRow cX8_keepsRow 6 (some .int) ∈ uw := uw_t 1810 (by decide +kernel) rfl
theorem kw_X8_laysOwners : Cond.code yX8_laysOwners cX8_laysOwners 4 none ∈ uw := uw_t 1678 (by decide +kernel) rfl
theorem kw_X8_least : Cond.code yX8_least cX8_least 11 (some .long) ∈ uw := uw_t 1658 (by decide +kernel) rfl
theorem kw_X8_lifeBy : Cond.code yX8_lifeBy cX8_lifeBy 2 (some .int) ∈ uw := uw_t 1549 (by decide +kernel) rfl
theorem kw_X8_lifeNow : Cond.code yX8_lifeNow cX8_lifeNow 2 (some .int) ∈ uw := uw_t 1584 (by decide +kernel) rfl
theorem kw_X8_lifeOf : Cond.code yX8_lifeOf cX8_lifeOf 9 (some .int) ∈ uw := uw_t 1580 (by decide +kernel) rfl
theorem kw_X8_may : Cond.code yX8_may cX8_may 4 (some .boolean) ∈ uw := uw_t 1360 (by decide +kernel) rfl
theorem kw_X8_mayKeep : Cond.code yX8_mayKeep cX8_mayKeep 2 (some .boolean) ∈ uw := uw_t 1538 (by decide +kernel) rfl
theorem kw_X8_numberOf : Cond.code yX8_numberOf cX8_numberOf 6 (some .long) ∈ uw := uw_t 1698 (by decide +kernel) rfl
theorem kw_X8_of : Cond.code yX8_of cX8_of 3 (some .int) ∈ uw := uw_t 1390 (by decide +kernel) rfl
theorem kw_X8_ones : Cond.code yX8_ones cX8_ones 3 (some .int) ∈ uw := uw_t 1560 (by decide +kernel) rfl
theorem kw_X8_opensOne : Cond.code yX8_opensOne cX8_opensOne 2 none ∈ uw := uw_t 1445 (by decide +kernel) rfl
theorem kw_X8_ownedBy : Cond.code yX8_ownedBy cX8_ownedBy 4 (some .int) ∈ uw := uw_t 1564 (by decide +kernel) rfl
theorem kw_X8_ownerOf : Cond.code yX8_ownerOf cX8_ownerOf 4 (some .int) ∈ uw := uw_t 1568 (by decide +kernel) rfl
theorem kw_X8_pass : Cond.code yX8_pass cX8_pass 1 none ∈ uw := uw_t 1406 (by decide +kernel) rfl
theorem kw_X8_passes : Cond.code yX8_passes cX8_passes 3 none ∈ uw := uw_t 1545 (by decide +kernel) rfl
theorem kw_X8_purses : Cond.code yX8_purses cX8_purses 3 (some .int) ∈ uw := uw_t 1607 (by decide +kernel) rfl
theorem kw_X8_readAgain : Cond.code yX8_readAgain cX8_readAgain 3 none ∈ uw := uw_t 1487 (by decide +kernel) rfl
theorem kw_X8_readNumber : Cond.code yX8_readNumber cX8_readNumber 6 (some .int) ∈ uw := uw_t 1414 (by decide +kernel) rfl
theorem kw_X8_readProduct : Cond.code yX8_readProduct cX8_readProduct 2 none ∈ uw := uw_t 1437 (by decide +kernel) rfl
theorem kw_X8_readRow : Cond.code yX8_readRow cX8_readRow 2 none ∈ uw := uw_t 1410 (by decide +kernel) rfl
theorem kw_X8_readStep : Cond.code yX8_readStep cX8_readStep 4 none ∈ uw := uw_t 1473 (by decide +kernel) rfl
theorem kw_X8_readSum : Cond.code yX8_readSum cX8_readSum 2 none ∈ uw := uw_t 1433 (by decide +kernel) rfl
theorem kw_X8_readTenant : Cond.code yX8_readTenant cX8_readTenant 1 (some .int) ∈ uw := uw_t 1495 (by decide +kernel) rfl
theorem kw_X8_readTwo : Cond.code yX8_readTwo cX8_readTwo 3 none ∈ uw := uw_t 1454 (by decide +kernel) rfl
theorem kw_X8_readUnit : Cond.code yX8_readUnit cX8_readUnit 2 none ∈ uw := uw_t 1441 (by decide +kernel) rfl
theorem kw_X8_result : Cond.code yX8_result cX8_result 2 (some .int) ∈ uw := uw_t 1425 (by decide +kernel) rfl
theorem kw_X8_seenBy : Cond.code yX8_seenBy cX8_seenBy 4 (some .int) ∈ uw := uw_t 1639 (by decide +kernel) rfl
theorem kw_X8_sets : Cond.code yX8_sets cX8_sets 2 none ∈ uw := uw_t 1191 (by decide +kernel) rfl
theorem kw_X8_sign : Cond.code yX8_sign cX8_sign 2 none ∈ uw := uw_t 1421 (by decide +kernel) rfl
theorem kw_X8_size : Cond.code yX8_size cX8_size 1 (some .int) ∈ uw := uw_t 1541 (by decide +kernel) rfl
theorem kw_X8_stepOf : Cond.code yX8_stepOf cX8_stepOf 1 (some .int) ∈ uw := uw_t 1476 (by decide +kernel) rfl
theorem kw_X8_sunBy : Cond.code yX8_sunBy cX8_sunBy 5 (some .int) ∈ uw := uw_t 1721 (by decide +kernel) rfl
theorem kw_X8_take : Cond.code yX8_take cX8_take 1 none ∈ uw := uw_t 1499 (by decide +kernel) rfl
theorem kw_X8_tellsStep : Cond.code yX8_tellsStep cX8_tellsStep 5 none ∈ uw := uw_t 1491 (by decide +kernel) rfl
theorem kw_X8_touchingOf : Cond.code yX8_touchingOf cX8_touchingOf 4 (some .int) ∈ uw := uw_t 1553 (by decide +kernel) rfl
theorem kw_X8_touchings : Cond.code yX8_touchings cX8_touchings 3 (some .int) ∈ uw := uw_t 1615 (by decide +kernel) rfl
theorem kw_X8_valueNow : Cond.code yX8_valueNow cX8_valueNow 4 (some .int) ∈ uw := uw_t 1588 (by decide +kernel) rfl
theorem kw_X8_withBubbles : Cond.code yX8_withBubbles cX8_withBubbles 3 (some .int) ∈ uw := uw_t 1519 (by decide +kernel) rfl
theorem kw_X8_within : Cond.code yX8_within cX8_within 3 (some .boolean) ∈ uw := uw_t 1526 (by decide +kernel) rfl
theorem kw_X8_word : Cond.code yX8_word cX8_word 4 (some .int) ∈ uw := uw_t 1380 (by decide +kernel) rfl
theorem kw_X8_worstOf : Cond.code yX8_worstOf cX8_worstOf 5 (some .int) ∈ uw := uw_t 1690 (by decide +kernel) rfl
theorem kw_X8_worthAll : Cond.code yX8_worthAll cX8_worthAll 3 (some .int) ∈ uw := uw_t 1611 (by decide +kernel) rfl
theorem kw_X8_worthFrom : Cond.code yX8_worthFrom cX8_worthFrom 5 (some .int) ∈ uw := uw_t 1666 (by decide +kernel) rfl
theorem kw_X8_worthOf : Cond.code yX8_worthOf cX8_worthOf 4 (some .int) ∈ uw := uw_t 1576 (by decide +kernel) rfl
theorem kw_X8_wrong : Cond.code yX8_wrong cX8_wrong 3 none ∈ uw := uw_t 1398 (by decide +kernel) rfl
theorem kc_X7_98 : uwv RX7 98 RX5 yX5_add cX5_add 3 none 1 := ⟨⟨uw_t 290 (by decide +kernel) rfl, uw_t 291 (by decide +kernel) rfl, uw_t 292 (by decide +kernel) rfl, uw_t 2 (by decide +kernel) rfl, kw_X5_add⟩, rfl, by decide +kernel, by decide +kernel, by decide +kernel⟩
theorem kc_X7_102 : uwv RX7 102 RX7 yX7_need cX7_need 4 none 3 := ⟨⟨uw_t 370 (by decide +kernel) rfl, uw_t 372 (by decide +kernel) rfl, uw_s 2 (by decide +kernel) rfl, uw_t 1 (by decide +kernel) rfl, kw_X7_need⟩, rfl, by decide +kernel, by decide +kernel, by decide +kernel⟩
theorem kc_X7_106 : uwv RX7 106 RX5 yX5_begin cX5_begin 2 none 1 := ⟨⟨uw_t 436 (by decide +kernel) rfl, uw_t 437 (by decide +kernel) rfl, uw_t 438 (by decide +kernel) rfl, uw_t 2 (by decide +kernel) rfl, kw_X5_begin⟩, rfl, by decide +kernel, by decide +kernel, by decide +kernel⟩
theorem kc_X7_109 : uwv RX7 109 RX1 yX1_read cX1_read 3 (some .boolean) 1 := ⟨⟨uw_t 443 (by decide +kernel) rfl, uw_t 444 (by decide +kernel) rfl, uw_t 445 (by decide +kernel) rfl, uw_t 3 (by decide +kernel) rfl, kw_X1_read⟩, rfl, by decide +kernel, by decide +kernel, by decide +kernel⟩
theorem kc_X7_113 : uwv RX7 113 RX5 yX5_faultAnswer cX5_faultAnswer 1 (some .int) 0 := ⟨⟨uw_t 547 (by decide +kernel) rfl, uw_t 548 (by decide +kernel) rfl, uw_t 549 (by decide +kernel) rfl, uw_t 2 (by decide +kernel) rfl, kw_X5_faultAnswer⟩, rfl, by decide +kernel, by decide +kernel, by decide +kernel⟩
theorem kc_X7_117 : uwv RX7 117 RX1 yX1_copyFrom cX1_copyFrom 2 none 1 := ⟨⟨uw_t 551 (by decide +kernel) rfl, uw_t 552 (by decide +kernel) rfl, uw_t 553 (by decide +kernel) rfl, uw_t 3 (by decide +kernel) rfl, kw_X1_copyFrom⟩, rfl, by decide +kernel, by decide +kernel, by decide +kernel⟩
theorem kc_X7_121 : uwv RX7 121 RX2 yX2_forget cX2_forget 1 none 0 := ⟨⟨uw_t 556 (by decide +kernel) rfl, uw_t 120 (by decide +kernel) rfl, uw_t 121 (by decide +kernel) rfl, uw_t 4 (by decide +kernel) rfl, kw_X2_forget⟩, rfl, by decide +kernel, by decide +kernel, by decide +kernel⟩
theorem kc_X7_124 : uwv RX7 124 RX0 yX0_forget cX0_forget 1 none 0 := ⟨⟨uw_t 557 (by decide +kernel) rfl, uw_t 558 (by decide +kernel) rfl, uw_t 559 (by decide +kernel) rfl, uw_t 6 (by decide +kernel) rfl, kw_X0_forget⟩, rfl, by decide +kernel, by decide +kernel, by decide +kernel⟩
theorem kc_X7_125 : uwv RX7 125 RX4 yX4_open cX4_open 2 none 0 := ⟨⟨uw_t 561 (by decide +kernel) rfl, uw_t 562 (by decide +kernel) rfl, uw_t 563 (by decide +kernel) rfl, uw_t 9 (by decide +kernel) rfl, kw_X4_open⟩, rfl, by decide +kernel, by decide +kernel, by decide +kernel⟩
theorem kl_X7_134 : Cond.methodLink RX7 134 Lib.Math.min.name ∈ uw ∧ Cond.static Lib.Math.min.name ∈ uw ∧ Cond.initialized "java/lang/Math" ∈ uw ∧ Cond.code Lib.Math.min.name Lib.Math.min.code 2 (some .int) ∈ uw := ⟨uw_t 574 (by decide +kernel) rfl, uw_t 441 (by decide +kernel) rfl, uw_t 16 (by decide +kernel) rfl, uw_t 442 (by decide +kernel) rfl⟩
theorem kc_X7_140 : uwv RX7 140 RX2 yX2_read cX2_read 2 (some .boolean) 1 := ⟨⟨uw_t 575 (by decide +kernel) rfl, uw_t 576 (by decide +kernel) rfl, uw_t 577 (by decide +kernel) rfl, uw_t 4 (by decide +kernel) rfl, kw_X2_read⟩, rfl, by decide +kernel, by decide +kernel, by decide +kernel⟩
theorem kc_X7_141 : uwv RX7 141 RX6 yX6_read cX6_read 3 (some .boolean) 2 := ⟨⟨uw_t 645 (by decide +kernel) rfl, uw_t 646 (by decide +kernel) rfl, uw_t 647 (by decide +kernel) rfl, uw_t 8 (by decide +kernel) rfl, kw_X6_read⟩, rfl, by decide +kernel, by decide +kernel, by decide +kernel⟩
theorem kc_X7_147 : uwv RX7 147 RX3 yX3_note cX3_note 2 none 1 := ⟨⟨uw_t 315 (by decide +kernel) rfl, uw_t 316 (by decide +kernel) rfl, uw_t 317 (by decide +kernel) rfl, uw_t 10 (by decide +kernel) rfl, kw_X3_note⟩, rfl, by decide +kernel, by decide +kernel, by decide +kernel⟩
theorem kn_X7_152 : (Cond.instanceMethod yX6_performFrom ∈ uw ∧ Cond.selects RX6 yX6_performFrom yX6_performFrom ∈ uw ∧ Cond.initialized yX6_performFrom.cls ∈ uw ∧ Cond.code yX6_performFrom cX6_performFrom 8 none ∈ uw) ∧ yX6_performFrom.cls ≠ "java/lang/invoke/MethodHandle" ∧ yX6_performFrom.cls ≠ "java/lang/invoke/VarHandle" ∧ (parseMethodDescriptor yX6_performFrom.desc).map (fun d => d.parameters.length) = some 4 := ⟨⟨uw_t 690 (by decide +kernel) rfl, uw_s 19 (by decide +kernel) rfl, uw_t 8 (by decide +kernel) rfl, kw_X6_performFrom⟩, by decide +kernel, by decide +kernel, by decide +kernel⟩
theorem kc_X7_165 : uwv RX7 165 RX0 yX0_read cX0_read 5 (some .boolean) 2 := ⟨⟨uw_t 799 (by decide +kernel) rfl, uw_t 800 (by decide +kernel) rfl, uw_t 801 (by decide +kernel) rfl, uw_t 6 (by decide +kernel) rfl, kw_X0_read⟩, rfl, by decide +kernel, by decide +kernel, by decide +kernel⟩
theorem kc_X7_172 : uwv RX7 172 RX3 yX3_recall cX3_recall 2 none 1 := ⟨⟨uw_t 302 (by decide +kernel) rfl, uw_t 303 (by decide +kernel) rfl, uw_t 304 (by decide +kernel) rfl, uw_t 10 (by decide +kernel) rfl, kw_X3_recall⟩, rfl, by decide +kernel, by decide +kernel, by decide +kernel⟩
theorem kc_X7_175 : uwv RX7 175 RX3 yX3_copyFrom cX3_copyFrom 2 none 1 := ⟨⟨uw_t 311 (by decide +kernel) rfl, uw_t 312 (by decide +kernel) rfl, uw_t 313 (by decide +kernel) rfl, uw_t 10 (by decide +kernel) rfl, kw_X3_copyFrom⟩, rfl, by decide +kernel, by decide +kernel, by decide +kernel⟩
theorem kc_X7_181 : uwv RX7 181 RX4 yX4_holders cX4_holders 3 (some .int) 0 := ⟨⟨uw_t 819 (by decide +kernel) rfl, uw_t 721 (by decide +kernel) rfl, uw_t 722 (by decide +kernel) rfl, uw_t 9 (by decide +kernel) rfl, kw_X4_holders⟩, rfl, by decide +kernel, by decide +kernel, by decide +kernel⟩
theorem kc_X7_184 : uwv RX7 184 RX4 yX4_moneyOfAll cX4_moneyOfAll 3 (some .int) 0 := ⟨⟨uw_t 820 (by decide +kernel) rfl, uw_t 821 (by decide +kernel) rfl, uw_t 822 (by decide +kernel) rfl, uw_t 9 (by decide +kernel) rfl, kw_X4_moneyOfAll⟩, rfl, by decide +kernel, by decide +kernel, by decide +kernel⟩
theorem kc_X7_187 : uwv RX7 187 RX4 yX4_worthHad cX4_worthHad 3 (some .int) 0 := ⟨⟨uw_t 824 (by decide +kernel) rfl, uw_t 825 (by decide +kernel) rfl, uw_t 826 (by decide +kernel) rfl, uw_t 9 (by decide +kernel) rfl, kw_X4_worthHad⟩, rfl, by decide +kernel, by decide +kernel, by decide +kernel⟩
theorem kc_X7_190 : uwv RX7 190 RX4 yX4_touchingTwos cX4_touchingTwos 3 (some .int) 0 := ⟨⟨uw_t 828 (by decide +kernel) rfl, uw_t 829 (by decide +kernel) rfl, uw_t 830 (by decide +kernel) rfl, uw_t 9 (by decide +kernel) rfl, kw_X4_touchingTwos⟩, rfl, by decide +kernel, by decide +kernel, by decide +kernel⟩
theorem kc_X7_193 : uwv RX7 193 RX7 yX7_needView cX7_needView 2 none 1 := ⟨⟨uw_t 840 (by decide +kernel) rfl, uw_t 842 (by decide +kernel) rfl, uw_s 23 (by decide +kernel) rfl, uw_t 1 (by decide +kernel) rfl, kw_X7_needView⟩, rfl, by decide +kernel, by decide +kernel, by decide +kernel⟩
theorem kc_X7_202 : uwv RX7 202 RX4 yX4_owner cX4_owner 6 (some .int) 1 := ⟨⟨uw_t 859 (by decide +kernel) rfl, uw_t 780 (by decide +kernel) rfl, uw_t 781 (by decide +kernel) rfl, uw_t 9 (by decide +kernel) rfl, kw_X4_owner⟩, rfl, by decide +kernel, by decide +kernel, by decide +kernel⟩
theorem kc_X7_206 : uwv RX7 206 RX4 yX4_seenBy cX4_seenBy 4 (some .int) 1 := ⟨⟨uw_t 335 (by decide +kernel) rfl, uw_t 336 (by decide +kernel) rfl, uw_t 337 (by decide +kernel) rfl, uw_t 9 (by decide +kernel) rfl, kw_X4_seenBy⟩, rfl, by decide +kernel, by decide +kernel, by decide +kernel⟩
theorem kc_X7_209 : uws RX7 209 yJ6_bitCount_0f7a4 cJ6_bitCount_0f7a4 1 (some .int) 1 := ⟨⟨uw_t 860 (by decide +kernel) rfl, uw_t 770 (by decide +kernel) rfl, uw_t 21 (by decide +kernel) rfl, kw_J6_bitCount_0f7a4⟩, by decide +kernel, by decide +kernel, by decide +kernel⟩
theorem kc_X7_212 : uwv RX7 212 RX7 yX7_needTenant cX7_needTenant 2 none 1 := ⟨⟨uw_t 868 (by decide +kernel) rfl, uw_t 870 (by decide +kernel) rfl, uw_s 24 (by decide +kernel) rfl, uw_t 1 (by decide +kernel) rfl, kw_X7_needTenant⟩, rfl, by decide +kernel, by decide +kernel, by decide +kernel⟩
theorem kc_X7_215 : uwv RX7 215 RX4 yX4_has cX4_has 2 (some .boolean) 1 := ⟨⟨uw_t 872 (by decide +kernel) rfl, uw_t 344 (by decide +kernel) rfl, uw_t 345 (by decide +kernel) rfl, uw_t 9 (by decide +kernel) rfl, kw_X4_has⟩, rfl, by decide +kernel, by decide +kernel, by decide +kernel⟩
theorem kc_X7_219 : uwv RX7 219 RX4 yX4_viewsHad cX4_viewsHad 4 (some .int) 1 := ⟨⟨uw_t 873 (by decide +kernel) rfl, uw_t 874 (by decide +kernel) rfl, uw_t 875 (by decide +kernel) rfl, uw_t 9 (by decide +kernel) rfl, kw_X4_viewsHad⟩, rfl, by decide +kernel, by decide +kernel, by decide +kernel⟩
theorem kc_X7_222 : uwv RX7 222 RX4 yX4_worthOf cX4_worthOf 4 (some .int) 1 := ⟨⟨uw_t 877 (by decide +kernel) rfl, uw_t 776 (by decide +kernel) rfl, uw_t 777 (by decide +kernel) rfl, uw_t 9 (by decide +kernel) rfl, kw_X4_worthOf⟩, rfl, by decide +kernel, by decide +kernel, by decide +kernel⟩
theorem kc_X7_225 : uwv RX7 225 RX4 yX4_touching cX4_touching 4 (some .int) 1 := ⟨⟨uw_t 878 (by decide +kernel) rfl, uw_t 762 (by decide +kernel) rfl, uw_t 763 (by decide +kernel) rfl, uw_t 9 (by decide +kernel) rfl, kw_X4_touching⟩, rfl, by decide +kernel, by decide +kernel, by decide +kernel⟩
theorem kc_X7_228 : uwv RX7 228 RX4 yX4_life cX4_life 2 (some .int) 1 := ⟨⟨uw_t 886 (by decide +kernel) rfl, uw_t 754 (by decide +kernel) rfl, uw_t 755 (by decide +kernel) rfl, uw_t 9 (by decide +kernel) rfl, kw_X4_life⟩, rfl, by decide +kernel, by decide +kernel, by decide +kernel⟩
theorem kc_X7_231 : uwv RX7 231 RX4 yX4_viewsSeen cX4_viewsSeen 4 (some .int) 1 := ⟨⟨uw_t 887 (by decide +kernel) rfl, uw_t 888 (by decide +kernel) rfl, uw_t 889 (by decide +kernel) rfl, uw_t 9 (by decide +kernel) rfl, kw_X4_viewsSeen⟩, rfl, by decide +kernel, by decide +kernel, by decide +kernel⟩
theorem kc_X7_234 : uwv RX7 234 RX4 yX4_canKeep cX4_canKeep 2 (some .boolean) 1 := ⟨⟨uw_t 358 (by decide +kernel) rfl, uw_t 359 (by decide +kernel) rfl, uw_t 360 (by decide +kernel) rfl, uw_t 9 (by decide +kernel) rfl, kw_X4_canKeep⟩, rfl, by decide +kernel, by decide +kernel, by decide +kernel⟩
theorem kc_X7_237 : uwv RX7 237 RX7 yX7_neighbours cX7_neighbours 4 (some .int) 1 := ⟨⟨uw_t 1088 (by decide +kernel) rfl, uw_t 1090 (by decide +kernel) rfl, uw_s 33 (by decide +kernel) rfl, uw_t 1 (by decide +kernel) rfl, kw_X7_neighbours⟩, rfl, by decide +kernel, by decide +kernel, by decide +kernel⟩
theorem kc_X7_240 : uwv RX7 240 RX4 yX4_overlapOf cX4_overlapOf 3 (some .int) 2 := ⟨⟨uw_t 1099 (by decide +kernel) rfl, uw_t 766 (by decide +kernel) rfl, uw_t 767 (by decide +kernel) rfl, uw_t 9 (by decide +kernel) rfl, kw_X4_overlapOf⟩, rfl, by decide +kernel, by decide +kernel, by decide +kernel⟩
theorem kl_X7_244 : Cond.methodLink RX7 244 Lib.Math.abs.name ∈ uw ∧ Cond.static Lib.Math.abs.name ∈ uw ∧ Cond.initialized "java/lang/Math" ∈ uw ∧ Cond.code Lib.Math.abs.name Lib.Math.abs.code 1 (some .int) ∈ uw := ⟨uw_t 920 (by decide +kernel) rfl, uw_t 352 (by decide +kernel) rfl, uw_t 16 (by decide +kernel) rfl, uw_t 353 (by decide +kernel) rfl⟩
theorem kc_X7_247 : uws RX7 247 yX7_leastTerms cX7_leastTerms 12 (some .long) 3 := ⟨⟨uw_t 921 (by decide +kernel) rfl, uw_t 922 (by decide +kernel) rfl, uw_t 1 (by decide +kernel) rfl, kw_X7_leastTerms⟩, by decide +kernel, by decide +kernel, by decide +kernel⟩
theorem kc_X7_251 : uwv RX7 251 RX4 yX4_farFrom cX4_farFrom 3 (some .int) 2 := ⟨⟨uw_t 1145 (by decide +kernel) rfl, uw_t 348 (by decide +kernel) rfl, uw_t 349 (by decide +kernel) rfl, uw_t 9 (by decide +kernel) rfl, kw_X4_farFrom⟩, rfl, by decide +kernel, by decide +kernel, by decide +kernel⟩
theorem kc_X7_257 : uwv RX7 257 RX2 yX2_life cX2_life 4 (some .int) 0 := ⟨⟨uw_t 898 (by decide +kernel) rfl, uw_t 784 (by decide +kernel) rfl, uw_t 785 (by decide +kernel) rfl, uw_t 4 (by decide +kernel) rfl, kw_X2_life⟩, rfl, by decide +kernel, by decide +kernel, by decide +kernel⟩
theorem kc_X7_259 : uwv RX7 259 RX4 yX4_copyFrom cX4_copyFrom 2 none 1 := ⟨⟨uw_t 906 (by decide +kernel) rfl, uw_t 907 (by decide +kernel) rfl, uw_t 908 (by decide +kernel) rfl, uw_t 9 (by decide +kernel) rfl, kw_X4_copyFrom⟩, rfl, by decide +kernel, by decide +kernel, by decide +kernel⟩
theorem kc_X7_263 : uwv RX7 263 RX4 yX4_breathe cX4_breathe 4 (some .boolean) 1 := ⟨⟨uw_t 912 (by decide +kernel) rfl, uw_t 750 (by decide +kernel) rfl, uw_t 751 (by decide +kernel) rfl, uw_t 9 (by decide +kernel) rfl, kw_X4_breathe⟩, rfl, by decide +kernel, by decide +kernel, by decide +kernel⟩
theorem kc_X7_266 : uwv RX7 266 RX4 yX4_putBubble cX4_putBubble 5 none 4 := ⟨⟨uw_t 1072 (by decide +kernel) rfl, uw_t 713 (by decide +kernel) rfl, uw_t 714 (by decide +kernel) rfl, uw_t 9 (by decide +kernel) rfl, kw_X4_putBubble⟩, rfl, by decide +kernel, by decide +kernel, by decide +kernel⟩
theorem kc_X7_270 : uwv RX7 270 RX4 yX4_carriedOff cX4_carriedOff 5 (some .int) 1 := ⟨⟨uw_t 1080 (by decide +kernel) rfl, uw_t 725 (by decide +kernel) rfl, uw_t 726 (by decide +kernel) rfl, uw_t 9 (by decide +kernel) rfl, kw_X4_carriedOff⟩, rfl, by decide +kernel, by decide +kernel, by decide +kernel⟩
theorem kl_X7_273 : Cond.methodLink RX7 273 Lib.Math.max.name ∈ uw ∧ Cond.static Lib.Math.max.name ∈ uw ∧ Cond.initialized "java/lang/Math" ∈ uw ∧ Cond.code Lib.Math.max.name Lib.Math.max.code 2 (some .int) ∈ uw := ⟨uw_t 1002 (by decide +kernel) rfl, uw_t 694 (by decide +kernel) rfl, uw_t 16 (by decide +kernel) rfl, uw_t 695 (by decide +kernel) rfl⟩
theorem kc_X7_276 : uwv RX7 276 RX4 yX4_canSell cX4_canSell 4 (some .boolean) 3 := ⟨⟨uw_t 1122 (by decide +kernel) rfl, uw_t 741 (by decide +kernel) rfl, uw_t 742 (by decide +kernel) rfl, uw_t 9 (by decide +kernel) rfl, kw_X4_canSell⟩, rfl, by decide +kernel, by decide +kernel, by decide +kernel⟩
theorem kc_X7_280 : uwv RX7 280 RX4 yX4_canBlow cX4_canBlow 3 (some .boolean) 2 := ⟨⟨uw_t 1130 (by decide +kernel) rfl, uw_t 706 (by decide +kernel) rfl, uw_t 707 (by decide +kernel) rfl, uw_t 9 (by decide +kernel) rfl, kw_X4_canBlow⟩, rfl, by decide +kernel, by decide +kernel, by decide +kernel⟩
theorem kc_X7_284 : uwv RX7 284 RX1 yX1_worthWithin cX1_worthWithin 5 (some .int) 2 := ⟨⟨uw_t 939 (by decide +kernel) rfl, uw_t 940 (by decide +kernel) rfl, uw_t 941 (by decide +kernel) rfl, uw_t 3 (by decide +kernel) rfl, kw_X1_worthWithin⟩, rfl, by decide +kernel, by decide +kernel, by decide +kernel⟩
theorem kn_X7_287 : (Cond.instanceMethod yX1_mostWorth ∈ uw ∧ Cond.selects RX1 yX1_mostWorth yX1_mostWorth ∈ uw ∧ Cond.initialized yX1_mostWorth.cls ∈ uw ∧ Cond.code yX1_mostWorth cX1_mostWorth 7 (some .int) ∈ uw) ∧ yX1_mostWorth.cls ≠ "java/lang/invoke/MethodHandle" ∧ yX1_mostWorth.cls ≠ "java/lang/invoke/VarHandle" ∧ (parseMethodDescriptor yX1_mostWorth.desc).map (fun d => d.parameters.length) = some 3 := ⟨⟨uw_t 952 (by decide +kernel) rfl, uw_s 25 (by decide +kernel) rfl, uw_t 3 (by decide +kernel) rfl, kw_X1_mostWorth⟩, by decide +kernel, by decide +kernel, by decide +kernel⟩
theorem kc_X7_291 : uwv RX7 291 RX7 yX7_tryPair cX7_tryPair 3 (some .boolean) 2 := ⟨⟨uw_t 968 (by decide +kernel) rfl, uw_t 970 (by decide +kernel) rfl, uw_s 27 (by decide +kernel) rfl, uw_t 1 (by decide +kernel) rfl, kw_X7_tryPair⟩, rfl, by decide +kernel, by decide +kernel, by decide +kernel⟩
theorem kc_X7_294 : uwv RX7 294 RX7 yX7_tallyOwners cX7_tallyOwners 3 none 0 := ⟨⟨uw_t 988 (by decide +kernel) rfl, uw_t 990 (by decide +kernel) rfl, uw_s 28 (by decide +kernel) rfl, uw_t 1 (by decide +kernel) rfl, kw_X7_tallyOwners⟩, rfl, by decide +kernel, by decide +kernel, by decide +kernel⟩
theorem kc_X7_297 : uwv RX7 297 RX7 yX7_worstLeft cX7_worstLeft 4 (some .int) 1 := ⟨⟨uw_t 998 (by decide +kernel) rfl, uw_t 1000 (by decide +kernel) rfl, uw_s 30 (by decide +kernel) rfl, uw_t 1 (by decide +kernel) rfl, kw_X7_worstLeft⟩, rfl, by decide +kernel, by decide +kernel, by decide +kernel⟩
theorem kc_X7_303 : uwv RX7 303 RX4 yX4_blow cX4_blow 3 (some .boolean) 2 := ⟨⟨uw_t 972 (by decide +kernel) rfl, uw_t 702 (by decide +kernel) rfl, uw_t 703 (by decide +kernel) rfl, uw_t 9 (by decide +kernel) rfl, kw_X4_blow⟩, rfl, by decide +kernel, by decide +kernel, by decide +kernel⟩
theorem kc_X7_306 : uwv RX7 306 RX0 yX0_isRight cX0_isRight 4 (some .boolean) 2 := ⟨⟨uw_t 973 (by decide +kernel) rfl, uw_t 974 (by decide +kernel) rfl, uw_t 975 (by decide +kernel) rfl, uw_t 6 (by decide +kernel) rfl, kw_X0_isRight⟩, rfl, by decide +kernel, by decide +kernel, by decide +kernel⟩
theorem kc_X7_310 : uws RX7 310 yJ7_fill_53178 cJ7_fill_53178 4 none 2 := ⟨⟨uw_t 992 (by decide +kernel) rfl, uw_t 163 (by decide +kernel) rfl, uw_t 7 (by decide +kernel) rfl, kw_J7_fill_53178⟩, by decide +kernel, by decide +kernel, by decide +kernel⟩
theorem kc_X7_316 : uwv RX7 316 RX7 yX7_tallyTrial cX7_tallyTrial 2 none 0 := ⟨⟨uw_t 993 (by decide +kernel) rfl, uw_t 995 (by decide +kernel) rfl, uw_s 29 (by decide +kernel) rfl, uw_t 1 (by decide +kernel) rfl, kw_X7_tallyTrial⟩, rfl, by decide +kernel, by decide +kernel, by decide +kernel⟩
theorem kc_X7_319 : uwv RX7 319 RX4 yX4_ownerOrNobody cX4_ownerOrNobody 3 (some .int) 1 := ⟨⟨uw_t 997 (by decide +kernel) rfl, uw_t 978 (by decide +kernel) rfl, uw_t 979 (by decide +kernel) rfl, uw_t 9 (by decide +kernel) rfl, kw_X4_ownerOrNobody⟩, rfl, by decide +kernel, by decide +kernel, by decide +kernel⟩
theorem kc_X7_322 : uws RX7 322 yX7_power cX7_power 6 (some .long) 2 := ⟨⟨uw_t 1010 (by decide +kernel) rfl, uw_t 1011 (by decide +kernel) rfl, uw_t 1 (by decide +kernel) rfl, kw_X7_power⟩, by decide +kernel, by decide +kernel, by decide +kernel⟩
theorem kc_X7_331 : uws RX7 331 yX7_isContent cX7_isContent 4 (some .boolean) 4 := ⟨⟨uw_t 1037 (by decide +kernel) rfl, uw_t 1038 (by decide +kernel) rfl, uw_t 1 (by decide +kernel) rfl, kw_X7_isContent⟩, by decide +kernel, by decide +kernel, by decide +kernel⟩
theorem kc_X7_335 : uws RX7 335 yX7_gain cX7_gain 4 (some .int) 4 := ⟨⟨uw_t 1040 (by decide +kernel) rfl, uw_t 1041 (by decide +kernel) rfl, uw_t 1 (by decide +kernel) rfl, kw_X7_gain⟩, by decide +kernel, by decide +kernel, by decide +kernel⟩
theorem kc_X7_339 : uwv RX7 339 RX7 yX7_sunBound cX7_sunBound 4 (some .int) 1 := ⟨⟨uw_t 1050 (by decide +kernel) rfl, uw_t 1052 (by decide +kernel) rfl, uw_s 31 (by decide +kernel) rfl, uw_t 1 (by decide +kernel) rfl, kw_X7_sunBound⟩, rfl, by decide +kernel, by decide +kernel, by decide +kernel⟩
theorem kc_X7_342 : uwv RX7 342 RX7 yX7_sunGiven cX7_sunGiven 4 (some .int) 1 := ⟨⟨uw_t 1054 (by decide +kernel) rfl, uw_t 1056 (by decide +kernel) rfl, uw_s 32 (by decide +kernel) rfl, uw_t 1 (by decide +kernel) rfl, kw_X7_sunGiven⟩, rfl, by decide +kernel, by decide +kernel, by decide +kernel⟩
theorem kc_X7_347 : uwv RX7 347 RX7 yX7_needAfternoon cX7_needAfternoon 3 none 2 := ⟨⟨uw_t 1153 (by decide +kernel) rfl, uw_t 1155 (by decide +kernel) rfl, uw_s 34 (by decide +kernel) rfl, uw_t 1 (by decide +kernel) rfl, kw_X7_needAfternoon⟩, rfl, by decide +kernel, by decide +kernel, by decide +kernel⟩
theorem kc_X7_351 : uwv RX7 351 RX7 yX7_playAfternoon cX7_playAfternoon 8 none 3 := ⟨⟨uw_t 1157 (by decide +kernel) rfl, uw_t 1159 (by decide +kernel) rfl, uw_s 35 (by decide +kernel) rfl, uw_t 1 (by decide +kernel) rfl, kw_X7_playAfternoon⟩, rfl, by decide +kernel, by decide +kernel, by decide +kernel⟩
theorem kc_X7_354 : uwv RX7 354 RX7 yX7_draw cX7_draw 2 (some .int) 1 := ⟨⟨uw_t 1161 (by decide +kernel) rfl, uw_t 1163 (by decide +kernel) rfl, uw_s 36 (by decide +kernel) rfl, uw_t 1 (by decide +kernel) rfl, kw_X7_draw⟩, rfl, by decide +kernel, by decide +kernel, by decide +kernel⟩
theorem kc_X7_357 : uwv RX7 357 RX4 yX4_drift cX4_drift 3 (some .boolean) 1 := ⟨⟨uw_t 1166 (by decide +kernel) rfl, uw_t 717 (by decide +kernel) rfl, uw_t 718 (by decide +kernel) rfl, uw_t 9 (by decide +kernel) rfl, kw_X4_drift⟩, rfl, by decide +kernel, by decide +kernel, by decide +kernel⟩
theorem kc_X0_22 : uws RX0 22 yJ7_fill_53178 cJ7_fill_53178 4 none 2 := ⟨⟨uw_t 162 (by decide +kernel) rfl, uw_t 163 (by decide +kernel) rfl, uw_t 7 (by decide +kernel) rfl, kw_J7_fill_53178⟩, by decide +kernel, by decide +kernel, by decide +kernel⟩
theorem kc_X0_28 : uwv RX0 28 RX5 yX5_hasMore cX5_hasMore 1 (some .boolean) 0 := ⟨⟨uw_t 803 (by decide +kernel) rfl, uw_t 448 (by decide +kernel) rfl, uw_t 449 (by decide +kernel) rfl, uw_t 2 (by decide +kernel) rfl, kw_X5_hasMore⟩, rfl, by decide +kernel, by decide +kernel, by decide +kernel⟩
theorem kc_X0_34 : uwv RX0 34 RX0 yX0_readLine cX0_readLine 4 (some .boolean) 2 := ⟨⟨uw_t 804 (by decide +kernel) rfl, uw_t 806 (by decide +kernel) rfl, uw_s 22 (by decide +kernel) rfl, uw_t 6 (by decide +kernel) rfl, kw_X0_readLine⟩, rfl, by decide +kernel, by decide +kernel, by decide +kernel⟩
theorem kl_X0_38 : Cond.methodLink RX0 38 arraycopyName ∈ uw ∧ Cond.native arraycopyName ∈ uw ∧ Cond.static arraycopyName ∈ uw ∧ Cond.initialized "java/lang/System" ∈ uw := ⟨uw_t 811 (by decide +kernel) rfl, uw_t 127 (by decide +kernel) rfl, uw_t 126 (by decide +kernel) rfl, uw_t 5 (by decide +kernel) rfl⟩
theorem kc_X0_44 : uwv RX0 44 RX5 yX5_takeNumber cX5_takeNumber 3 (some .boolean) 2 := ⟨⟨uw_t 808 (by decide +kernel) rfl, uw_t 529 (by decide +kernel) rfl, uw_t 530 (by decide +kernel) rfl, uw_t 2 (by decide +kernel) rfl, kw_X5_takeNumber⟩, rfl, by decide +kernel, by decide +kernel, by decide +kernel⟩
theorem kc_X0_54 : uwv RX0 54 RX5 yX5_fail cX5_fail 3 (some .boolean) 2 := ⟨⟨uw_t 809 (by decide +kernel) rfl, uw_t 521 (by decide +kernel) rfl, uw_t 522 (by decide +kernel) rfl, uw_t 2 (by decide +kernel) rfl, kw_X5_fail⟩, rfl, by decide +kernel, by decide +kernel, by decide +kernel⟩
theorem kc_X0_57 : uwv RX0 57 RX5 yX5_takeSign cX5_takeSign 2 (some .boolean) 1 := ⟨⟨uw_t 810 (by decide +kernel) rfl, uw_t 534 (by decide +kernel) rfl, uw_t 535 (by decide +kernel) rfl, uw_t 2 (by decide +kernel) rfl, kw_X5_takeSign⟩, rfl, by decide +kernel, by decide +kernel, by decide +kernel⟩
theorem kc_X0_61 : uwv RX0 61 RX4 yX4_ownerOrNobody cX4_ownerOrNobody 3 (some .int) 1 := ⟨⟨uw_t 977 (by decide +kernel) rfl, uw_t 978 (by decide +kernel) rfl, uw_t 979 (by decide +kernel) rfl, uw_t 9 (by decide +kernel) rfl, kw_X4_ownerOrNobody⟩, rfl, by decide +kernel, by decide +kernel, by decide +kernel⟩
theorem kl_X1_34 : Cond.methodLink RX1 34 arraycopyName ∈ uw ∧ Cond.native arraycopyName ∈ uw ∧ Cond.static arraycopyName ∈ uw ∧ Cond.initialized "java/lang/System" ∈ uw := ⟨uw_t 555 (by decide +kernel) rfl, uw_t 127 (by decide +kernel) rfl, uw_t 126 (by decide +kernel) rfl, uw_t 5 (by decide +kernel) rfl⟩
theorem kc_X1_40 : uwv RX1 40 RX5 yX5_hasMore cX5_hasMore 1 (some .boolean) 0 := ⟨⟨uw_t 447 (by decide +kernel) rfl, uw_t 448 (by decide +kernel) rfl, uw_t 449 (by decide +kernel) rfl, uw_t 2 (by decide +kernel) rfl, kw_X5_hasMore⟩, rfl, by decide +kernel, by decide +kernel, by decide +kernel⟩
theorem kc_X1_46 : uwv RX1 46 RX1 yX1_readClause cX1_readClause 3 (some .boolean) 2 := ⟨⟨uw_t 455 (by decide +kernel) rfl, uw_t 457 (by decide +kernel) rfl, uw_s 4 (by decide +kernel) rfl, uw_t 3 (by decide +kernel) rfl, kw_X1_readClause⟩, rfl, by decide +kernel, by decide +kernel, by decide +kernel⟩
theorem kc_X1_50 : uwv RX1 50 RX5 yX5_takeWord cX5_takeWord 1 none 0 := ⟨⟨uw_t 459 (by decide +kernel) rfl, uw_t 460 (by decide +kernel) rfl, uw_t 461 (by decide +kernel) rfl, uw_t 2 (by decide +kernel) rfl, kw_X5_takeWord⟩, rfl, by decide +kernel, by decide +kernel, by decide +kernel⟩
theorem kc_X1_55 : uwv RX1 55 RX5 yX5_wordIs cX5_wordIs 3 (some .boolean) 1 := ⟨⟨uw_t 464 (by decide +kernel) rfl, uw_t 465 (by decide +kernel) rfl, uw_t 466 (by decide +kernel) rfl, uw_t 2 (by decide +kernel) rfl, kw_X5_wordIs⟩, rfl, by decide +kernel, by decide +kernel, by decide +kernel⟩
theorem kc_X1_59 : uwv RX1 59 RX5 yX5_failAtWord cX5_failAtWord 2 (some .boolean) 1 := ⟨⟨uw_t 516 (by decide +kernel) rfl, uw_t 517 (by decide +kernel) rfl, uw_t 518 (by decide +kernel) rfl, uw_t 2 (by decide +kernel) rfl, kw_X5_failAtWord⟩, rfl, by decide +kernel, by decide +kernel, by decide +kernel⟩
theorem kc_X1_63 : uwv RX1 63 RX1 yX1_readView cX1_readView 2 (some .boolean) 1 := ⟨⟨uw_t 524 (by decide +kernel) rfl, uw_t 526 (by decide +kernel) rfl, uw_s 5 (by decide +kernel) rfl, uw_t 3 (by decide +kernel) rfl, kw_X1_readView⟩, rfl, by decide +kernel, by decide +kernel, by decide +kernel⟩
theorem kc_X1_69 : uwv RX1 69 RX1 yX1_readTenant cX1_readTenant 2 (some .boolean) 1 := ⟨⟨uw_t 538 (by decide +kernel) rfl, uw_t 540 (by decide +kernel) rfl, uw_s 6 (by decide +kernel) rfl, uw_t 3 (by decide +kernel) rfl, kw_X1_readTenant⟩, rfl, by decide +kernel, by decide +kernel, by decide +kernel⟩
theorem kc_X1_73 : uwv RX1 73 RX1 yX1_readSoap cX1_readSoap 2 (some .boolean) 1 := ⟨⟨uw_t 543 (by decide +kernel) rfl, uw_t 545 (by decide +kernel) rfl, uw_s 7 (by decide +kernel) rfl, uw_t 3 (by decide +kernel) rfl, kw_X1_readSoap⟩, rfl, by decide +kernel, by decide +kernel, by decide +kernel⟩
theorem kc_X1_76 : uwv RX1 76 RX5 yX5_takeNumber cX5_takeNumber 3 (some .boolean) 2 := ⟨⟨uw_t 528 (by decide +kernel) rfl, uw_t 529 (by decide +kernel) rfl, uw_t 530 (by decide +kernel) rfl, uw_t 2 (by decide +kernel) rfl, kw_X5_takeNumber⟩, rfl, by decide +kernel, by decide +kernel, by decide +kernel⟩
theorem kc_X1_83 : uwv RX1 83 RX5 yX5_takeSign cX5_takeSign 2 (some .boolean) 1 := ⟨⟨uw_t 533 (by decide +kernel) rfl, uw_t 534 (by decide +kernel) rfl, uw_t 535 (by decide +kernel) rfl, uw_t 2 (by decide +kernel) rfl, kw_X5_takeSign⟩, rfl, by decide +kernel, by decide +kernel, by decide +kernel⟩
theorem kc_X1_86 : uwv RX1 86 RX1 yX1_firstViewX cX1_firstViewX 4 (some .int) 1 := ⟨⟨uw_t 954 (by decide +kernel) rfl, uw_t 956 (by decide +kernel) rfl, uw_s 26 (by decide +kernel) rfl, uw_t 3 (by decide +kernel) rfl, kw_X1_firstViewX⟩, rfl, by decide +kernel, by decide +kernel, by decide +kernel⟩
theorem kc_X1_90 : uwv RX1 90 RX1 yX1_mostWorth cX1_mostWorth 7 (some .int) 3 := ⟨⟨uw_t 958 (by decide +kernel) rfl, uw_t 952 (by decide +kernel) rfl, uw_s 25 (by decide +kernel) rfl, uw_t 3 (by decide +kernel) rfl, kw_X1_mostWorth⟩, rfl, by decide +kernel, by decide +kernel, by decide +kernel⟩
theorem kc_X1_94 : uwv RX1 94 RX1 yX1_worthWithin cX1_worthWithin 5 (some .int) 2 := ⟨⟨uw_t 959 (by decide +kernel) rfl, uw_t 940 (by decide +kernel) rfl, uw_t 941 (by decide +kernel) rfl, uw_t 3 (by decide +kernel) rfl, kw_X1_worthWithin⟩, rfl, by decide +kernel, by decide +kernel, by decide +kernel⟩
theorem kl_X1_98 : Cond.methodLink RX1 98 Lib.Math.max.name ∈ uw ∧ Cond.static Lib.Math.max.name ∈ uw ∧ Cond.initialized "java/lang/Math" ∈ uw ∧ Cond.code Lib.Math.max.name Lib.Math.max.code 2 (some .int) ∈ uw := ⟨uw_t 960 (by decide +kernel) rfl, uw_t 694 (by decide +kernel) rfl, uw_t 16 (by decide +kernel) rfl, uw_t 695 (by decide +kernel) rfl⟩
theorem kl_X2_40 : Cond.methodLink RX2 40 arraycopyName ∈ uw ∧ Cond.native arraycopyName ∈ uw ∧ Cond.static arraycopyName ∈ uw ∧ Cond.initialized "java/lang/System" ∈ uw := ⟨uw_t 125 (by decide +kernel) rfl, uw_t 127 (by decide +kernel) rfl, uw_t 126 (by decide +kernel) rfl, uw_t 5 (by decide +kernel) rfl⟩
theorem kc_X2_46 : uwv RX2 46 RX2 yX2_takeDraft cX2_takeDraft 2 none 0 := ⟨⟨uw_t 128 (by decide +kernel) rfl, uw_t 130 (by decide +kernel) rfl, uw_s 0 (by decide +kernel) rfl, uw_t 4 (by decide +kernel) rfl, kw_X2_takeDraft⟩, rfl, by decide +kernel, by decide +kernel, by decide +kernel⟩
theorem kc_X2_49 : uws RX2 49 yX2_combined cX2_combined 3 (some .int) 3 := ⟨⟨uw_t 787 (by decide +kernel) rfl, uw_t 788 (by decide +kernel) rfl, uw_t 4 (by decide +kernel) rfl, kw_X2_combined⟩, by decide +kernel, by decide +kernel, by decide +kernel⟩
theorem kl_X2_53 : Cond.methodLink RX2 53 Lib.Math.min.name ∈ uw ∧ Cond.static Lib.Math.min.name ∈ uw ∧ Cond.initialized "java/lang/Math" ∈ uw ∧ Cond.code Lib.Math.min.name Lib.Math.min.code 2 (some .int) ∈ uw := ⟨uw_t 790 (by decide +kernel) rfl, uw_t 441 (by decide +kernel) rfl, uw_t 16 (by decide +kernel) rfl, uw_t 442 (by decide +kernel) rfl⟩
theorem kl_X2_59 : Cond.methodLink RX2 59 Lib.Math.max.name ∈ uw ∧ Cond.static Lib.Math.max.name ∈ uw ∧ Cond.initialized "java/lang/Math" ∈ uw ∧ Cond.code Lib.Math.max.name Lib.Math.max.code 2 (some .int) ∈ uw := ⟨uw_t 791 (by decide +kernel) rfl, uw_t 694 (by decide +kernel) rfl, uw_t 16 (by decide +kernel) rfl, uw_t 695 (by decide +kernel) rfl⟩
theorem kc_X2_62 : uwv RX2 62 RX2 yX2_readSum cX2_readSum 5 (some .boolean) 2 := ⟨⟨uw_t 579 (by decide +kernel) rfl, uw_t 581 (by decide +kernel) rfl, uw_s 8 (by decide +kernel) rfl, uw_t 4 (by decide +kernel) rfl, kw_X2_readSum⟩, rfl, by decide +kernel, by decide +kernel, by decide +kernel⟩
theorem kc_X2_66 : uwv RX2 66 RX5 yX5_hasMore cX5_hasMore 1 (some .boolean) 0 := ⟨⟨uw_t 637 (by decide +kernel) rfl, uw_t 448 (by decide +kernel) rfl, uw_t 449 (by decide +kernel) rfl, uw_t 2 (by decide +kernel) rfl, kw_X5_hasMore⟩, rfl, by decide +kernel, by decide +kernel, by decide +kernel⟩
theorem kc_X2_72 : uwv RX2 72 RX5 yX5_failHere cX5_failHere 2 (some .boolean) 1 := ⟨⟨uw_t 606 (by decide +kernel) rfl, uw_t 607 (by decide +kernel) rfl, uw_t 608 (by decide +kernel) rfl, uw_t 2 (by decide +kernel) rfl, kw_X5_failHere⟩, rfl, by decide +kernel, by decide +kernel, by decide +kernel⟩
theorem kc_X2_76 : uwv RX2 76 RX2 yX2_readProduct cX2_readProduct 5 (some .boolean) 2 := ⟨⟨uw_t 583 (by decide +kernel) rfl, uw_t 585 (by decide +kernel) rfl, uw_s 9 (by decide +kernel) rfl, uw_t 4 (by decide +kernel) rfl, kw_X2_readProduct⟩, rfl, by decide +kernel, by decide +kernel, by decide +kernel⟩
theorem kc_X2_79 : uwv RX2 79 RX5 yX5_takeIf cX5_takeIf 2 (some .boolean) 1 := ⟨⟨uw_t 633 (by decide +kernel) rfl, uw_t 634 (by decide +kernel) rfl, uw_t 635 (by decide +kernel) rfl, uw_t 2 (by decide +kernel) rfl, kw_X5_takeIf⟩, rfl, by decide +kernel, by decide +kernel, by decide +kernel⟩
theorem kc_X2_82 : uwv RX2 82 RX2 yX2_put cX2_put 2 (some .boolean) 1 := ⟨⟨uw_t 596 (by decide +kernel) rfl, uw_t 598 (by decide +kernel) rfl, uw_s 11 (by decide +kernel) rfl, uw_t 4 (by decide +kernel) rfl, kw_X2_put⟩, rfl, by decide +kernel, by decide +kernel, by decide +kernel⟩
theorem kc_X2_85 : uwv RX2 85 RX2 yX2_readUnit cX2_readUnit 5 (some .boolean) 2 := ⟨⟨uw_t 587 (by decide +kernel) rfl, uw_t 589 (by decide +kernel) rfl, uw_s 10 (by decide +kernel) rfl, uw_t 4 (by decide +kernel) rfl, kw_X2_readUnit⟩, rfl, by decide +kernel, by decide +kernel, by decide +kernel⟩
theorem kc_X2_88 : uwv RX2 88 RX5 yX5_atDigit cX5_atDigit 2 (some .boolean) 0 := ⟨⟨uw_t 591 (by decide +kernel) rfl, uw_t 592 (by decide +kernel) rfl, uw_t 593 (by decide +kernel) rfl, uw_t 2 (by decide +kernel) rfl, kw_X5_atDigit⟩, rfl, by decide +kernel, by decide +kernel, by decide +kernel⟩
theorem kc_X2_91 : uwv RX2 91 RX5 yX5_takeNumber cX5_takeNumber 3 (some .boolean) 2 := ⟨⟨uw_t 595 (by decide +kernel) rfl, uw_t 529 (by decide +kernel) rfl, uw_t 530 (by decide +kernel) rfl, uw_t 2 (by decide +kernel) rfl, kw_X5_takeNumber⟩, rfl, by decide +kernel, by decide +kernel, by decide +kernel⟩
theorem kc_X2_98 : uwv RX2 98 RX5 yX5_peek cX5_peek 1 (some .int) 0 := ⟨⟨uw_t 600 (by decide +kernel) rfl, uw_t 452 (by decide +kernel) rfl, uw_t 453 (by decide +kernel) rfl, uw_t 2 (by decide +kernel) rfl, kw_X5_peek⟩, rfl, by decide +kernel, by decide +kernel, by decide +kernel⟩
theorem kc_X2_102 : uwv RX2 102 RX2 yX2_readBracket cX2_readBracket 3 (some .boolean) 2 := ⟨⟨uw_t 601 (by decide +kernel) rfl, uw_t 603 (by decide +kernel) rfl, uw_s 12 (by decide +kernel) rfl, uw_t 4 (by decide +kernel) rfl, kw_X2_readBracket⟩, rfl, by decide +kernel, by decide +kernel, by decide +kernel⟩
theorem kc_X2_105 : uwv RX2 105 RX5 yX5_takeWord cX5_takeWord 1 none 0 := ⟨⟨uw_t 610 (by decide +kernel) rfl, uw_t 460 (by decide +kernel) rfl, uw_t 461 (by decide +kernel) rfl, uw_t 2 (by decide +kernel) rfl, kw_X5_takeWord⟩, rfl, by decide +kernel, by decide +kernel, by decide +kernel⟩
theorem kc_X2_108 : uws RX2 108 yX2_operatorWord cX2_operatorWord 1 (some .int) 1 := ⟨⟨uw_t 611 (by decide +kernel) rfl, uw_t 612 (by decide +kernel) rfl, uw_t 4 (by decide +kernel) rfl, kw_X2_operatorWord⟩, by decide +kernel, by decide +kernel, by decide +kernel⟩
theorem kc_X2_112 : uwv RX2 112 RX2 yX2_readTwo cX2_readTwo 3 (some .boolean) 2 := ⟨⟨uw_t 617 (by decide +kernel) rfl, uw_t 619 (by decide +kernel) rfl, uw_s 13 (by decide +kernel) rfl, uw_t 4 (by decide +kernel) rfl, kw_X2_readTwo⟩, rfl, by decide +kernel, by decide +kernel, by decide +kernel⟩
theorem kc_X2_115 : uwv RX2 115 RX5 yX5_failAtWord cX5_failAtWord 2 (some .boolean) 1 := ⟨⟨uw_t 621 (by decide +kernel) rfl, uw_t 517 (by decide +kernel) rfl, uw_t 518 (by decide +kernel) rfl, uw_t 2 (by decide +kernel) rfl, kw_X5_failAtWord⟩, rfl, by decide +kernel, by decide +kernel, by decide +kernel⟩
theorem kc_X2_118 : uws RX2 118 yX2_nameWord cX2_nameWord 1 (some .int) 1 := ⟨⟨uw_t 622 (by decide +kernel) rfl, uw_t 623 (by decide +kernel) rfl, uw_t 4 (by decide +kernel) rfl, kw_X2_nameWord⟩, by decide +kernel, by decide +kernel, by decide +kernel⟩
theorem kc_X2_121 : uwv RX2 121 RX5 yX5_takeSign cX5_takeSign 2 (some .boolean) 1 := ⟨⟨uw_t 605 (by decide +kernel) rfl, uw_t 534 (by decide +kernel) rfl, uw_t 535 (by decide +kernel) rfl, uw_t 2 (by decide +kernel) rfl, kw_X5_takeSign⟩, rfl, by decide +kernel, by decide +kernel, by decide +kernel⟩
theorem kc_X2_126 : uwv RX2 126 RX5 yX5_wordIs cX5_wordIs 3 (some .boolean) 1 := ⟨⟨uw_t 615 (by decide +kernel) rfl, uw_t 465 (by decide +kernel) rfl, uw_t 466 (by decide +kernel) rfl, uw_t 2 (by decide +kernel) rfl, kw_X5_wordIs⟩, rfl, by decide +kernel, by decide +kernel, by decide +kernel⟩
theorem kl_X3_21 : Cond.methodLink RX3 21 arraycopyName ∈ uw ∧ Cond.native arraycopyName ∈ uw ∧ Cond.static arraycopyName ∈ uw ∧ Cond.initialized "java/lang/System" ∈ uw := ⟨uw_t 306 (by decide +kernel) rfl, uw_t 127 (by decide +kernel) rfl, uw_t 126 (by decide +kernel) rfl, uw_t 5 (by decide +kernel) rfl⟩
theorem kc_X4_23 : uws RX4 23 yJ7_fill_53178 cJ7_fill_53178 4 none 2 := ⟨⟨uw_t 565 (by decide +kernel) rfl, uw_t 163 (by decide +kernel) rfl, uw_t 7 (by decide +kernel) rfl, kw_J7_fill_53178⟩, by decide +kernel, by decide +kernel, by decide +kernel⟩
theorem kl_X4_41 : Cond.methodLink RX4 41 arraycopyName ∈ uw ∧ Cond.native arraycopyName ∈ uw ∧ Cond.static arraycopyName ∈ uw ∧ Cond.initialized "java/lang/System" ∈ uw := ⟨uw_t 910 (by decide +kernel) rfl, uw_t 127 (by decide +kernel) rfl, uw_t 126 (by decide +kernel) rfl, uw_t 5 (by decide +kernel) rfl⟩
theorem kc_X4_47 : uwv RX4 47 RX4 yX4_has cX4_has 2 (some .boolean) 1 := ⟨⟨uw_t 343 (by decide +kernel) rfl, uw_t 344 (by decide +kernel) rfl, uw_t 345 (by decide +kernel) rfl, uw_t 9 (by decide +kernel) rfl, kw_X4_has⟩, rfl, by decide +kernel, by decide +kernel, by decide +kernel⟩
theorem kl_X4_54 : Cond.methodLink RX4 54 Lib.Math.abs.name ∈ uw ∧ Cond.static Lib.Math.abs.name ∈ uw ∧ Cond.initialized "java/lang/Math" ∈ uw ∧ Cond.code Lib.Math.abs.name Lib.Math.abs.code 1 (some .int) ∈ uw := ⟨uw_t 351 (by decide +kernel) rfl, uw_t 352 (by decide +kernel) rfl, uw_t 16 (by decide +kernel) rfl, uw_t 353 (by decide +kernel) rfl⟩
theorem kc_X4_60 : uwv RX4 60 RX4 yX4_farFrom cX4_farFrom 3 (some .int) 2 := ⟨⟨uw_t 347 (by decide +kernel) rfl, uw_t 348 (by decide +kernel) rfl, uw_t 349 (by decide +kernel) rfl, uw_t 9 (by decide +kernel) rfl, kw_X4_farFrom⟩, rfl, by decide +kernel, by decide +kernel, by decide +kernel⟩
theorem kc_X4_64 : uwv RX4 64 RX4 yX4_sees cX4_sees 3 (some .boolean) 2 := ⟨⟨uw_t 339 (by decide +kernel) rfl, uw_t 341 (by decide +kernel) rfl, uw_s 1 (by decide +kernel) rfl, uw_t 9 (by decide +kernel) rfl, kw_X4_sees⟩, rfl, by decide +kernel, by decide +kernel, by decide +kernel⟩
theorem kc_X4_71 : uwv RX4 71 RX4 yX4_owner cX4_owner 6 (some .int) 1 := ⟨⟨uw_t 779 (by decide +kernel) rfl, uw_t 780 (by decide +kernel) rfl, uw_t 781 (by decide +kernel) rfl, uw_t 9 (by decide +kernel) rfl, kw_X4_owner⟩, rfl, by decide +kernel, by decide +kernel, by decide +kernel⟩
theorem kc_X4_77 : uwv RX4 77 RX4 yX4_overlapOf cX4_overlapOf 3 (some .int) 2 := ⟨⟨uw_t 765 (by decide +kernel) rfl, uw_t 766 (by decide +kernel) rfl, uw_t 767 (by decide +kernel) rfl, uw_t 9 (by decide +kernel) rfl, kw_X4_overlapOf⟩, rfl, by decide +kernel, by decide +kernel, by decide +kernel⟩
theorem kc_X4_80 : uwv RX4 80 RX4 yX4_touching cX4_touching 4 (some .int) 1 := ⟨⟨uw_t 761 (by decide +kernel) rfl, uw_t 762 (by decide +kernel) rfl, uw_t 763 (by decide +kernel) rfl, uw_t 9 (by decide +kernel) rfl, kw_X4_touching⟩, rfl, by decide +kernel, by decide +kernel, by decide +kernel⟩
theorem kc_X4_83 : uws RX4 83 yJ6_bitCount_0f7a4 cJ6_bitCount_0f7a4 1 (some .int) 1 := ⟨⟨uw_t 769 (by decide +kernel) rfl, uw_t 770 (by decide +kernel) rfl, uw_t 21 (by decide +kernel) rfl, kw_J6_bitCount_0f7a4⟩, by decide +kernel, by decide +kernel, by decide +kernel⟩
theorem kc_X4_96 : uwv RX4 96 RX2 yX2_uses cX2_uses 2 (some .boolean) 1 := ⟨⟨uw_t 757 (by decide +kernel) rfl, uw_t 758 (by decide +kernel) rfl, uw_t 759 (by decide +kernel) rfl, uw_t 4 (by decide +kernel) rfl, kw_X2_uses⟩, rfl, by decide +kernel, by decide +kernel, by decide +kernel⟩
theorem kc_X4_99 : uwv RX4 99 RX4 yX4_worthOf cX4_worthOf 4 (some .int) 1 := ⟨⟨uw_t 775 (by decide +kernel) rfl, uw_t 776 (by decide +kernel) rfl, uw_t 777 (by decide +kernel) rfl, uw_t 9 (by decide +kernel) rfl, kw_X4_worthOf⟩, rfl, by decide +kernel, by decide +kernel, by decide +kernel⟩
theorem kc_X4_102 : uwv RX4 102 RX2 yX2_life cX2_life 4 (some .int) 0 := ⟨⟨uw_t 783 (by decide +kernel) rfl, uw_t 784 (by decide +kernel) rfl, uw_t 785 (by decide +kernel) rfl, uw_t 4 (by decide +kernel) rfl, kw_X2_life⟩, rfl, by decide +kernel, by decide +kernel, by decide +kernel⟩
theorem kc_X4_106 : uws RX4 106 yX4_price cX4_price 1 (some .int) 1 := ⟨⟨uw_t 709 (by decide +kernel) rfl, uw_t 710 (by decide +kernel) rfl, uw_t 9 (by decide +kernel) rfl, kw_X4_price⟩, by decide +kernel, by decide +kernel, by decide +kernel⟩
theorem kc_X4_109 : uwv RX4 109 RX4 yX4_canBlow cX4_canBlow 3 (some .boolean) 2 := ⟨⟨uw_t 705 (by decide +kernel) rfl, uw_t 706 (by decide +kernel) rfl, uw_t 707 (by decide +kernel) rfl, uw_t 9 (by decide +kernel) rfl, kw_X4_canBlow⟩, rfl, by decide +kernel, by decide +kernel, by decide +kernel⟩
theorem kc_X4_112 : uwv RX4 112 RX4 yX4_putBubble cX4_putBubble 5 none 4 := ⟨⟨uw_t 712 (by decide +kernel) rfl, uw_t 713 (by decide +kernel) rfl, uw_t 714 (by decide +kernel) rfl, uw_t 9 (by decide +kernel) rfl, kw_X4_putBubble⟩, rfl, by decide +kernel, by decide +kernel, by decide +kernel⟩
theorem kc_X4_116 : uwv RX4 116 RX4 yX4_holders cX4_holders 3 (some .int) 0 := ⟨⟨uw_t 720 (by decide +kernel) rfl, uw_t 721 (by decide +kernel) rfl, uw_t 722 (by decide +kernel) rfl, uw_t 9 (by decide +kernel) rfl, kw_X4_holders⟩, rfl, by decide +kernel, by decide +kernel, by decide +kernel⟩
theorem kc_X4_119 : uwv RX4 119 RX4 yX4_carriedOff cX4_carriedOff 5 (some .int) 1 := ⟨⟨uw_t 724 (by decide +kernel) rfl, uw_t 725 (by decide +kernel) rfl, uw_t 726 (by decide +kernel) rfl, uw_t 9 (by decide +kernel) rfl, kw_X4_carriedOff⟩, rfl, by decide +kernel, by decide +kernel, by decide +kernel⟩
theorem kc_X4_122 : uwv RX4 122 RX4 yX4_burstAll cX4_burstAll 3 none 1 := ⟨⟨uw_t 728 (by decide +kernel) rfl, uw_t 730 (by decide +kernel) rfl, uw_s 21 (by decide +kernel) rfl, uw_t 9 (by decide +kernel) rfl, kw_X4_burstAll⟩, rfl, by decide +kernel, by decide +kernel, by decide +kernel⟩
theorem kc_X4_126 : uwv RX4 126 RX4 yX4_canSell cX4_canSell 4 (some .boolean) 3 := ⟨⟨uw_t 740 (by decide +kernel) rfl, uw_t 741 (by decide +kernel) rfl, uw_t 742 (by decide +kernel) rfl, uw_t 9 (by decide +kernel) rfl, kw_X4_canSell⟩, rfl, by decide +kernel, by decide +kernel, by decide +kernel⟩
theorem kc_X4_130 : uwv RX4 130 RX4 yX4_canKeep cX4_canKeep 2 (some .boolean) 1 := ⟨⟨uw_t 748 (by decide +kernel) rfl, uw_t 359 (by decide +kernel) rfl, uw_t 360 (by decide +kernel) rfl, uw_t 9 (by decide +kernel) rfl, kw_X4_canKeep⟩, rfl, by decide +kernel, by decide +kernel, by decide +kernel⟩
theorem kc_X4_133 : uwv RX4 133 RX4 yX4_life cX4_life 2 (some .int) 1 := ⟨⟨uw_t 753 (by decide +kernel) rfl, uw_t 754 (by decide +kernel) rfl, uw_t 755 (by decide +kernel) rfl, uw_t 9 (by decide +kernel) rfl, kw_X4_life⟩, rfl, by decide +kernel, by decide +kernel, by decide +kernel⟩
theorem kl_X5_40 : Cond.methodLink RX5 40 Lib.Math.min.name ∈ uw ∧ Cond.static Lib.Math.min.name ∈ uw ∧ Cond.initialized "java/lang/Math" ∈ uw ∧ Cond.code Lib.Math.min.name Lib.Math.min.code 2 (some .int) ∈ uw := ⟨uw_t 440 (by decide +kernel) rfl, uw_t 441 (by decide +kernel) rfl, uw_t 16 (by decide +kernel) rfl, uw_t 442 (by decide +kernel) rfl⟩
theorem kc_X5_46 : uwv RX5 46 RX5 yX5_peek cX5_peek 1 (some .int) 0 := ⟨⟨uw_t 451 (by decide +kernel) rfl, uw_t 452 (by decide +kernel) rfl, uw_t 453 (by decide +kernel) rfl, uw_t 2 (by decide +kernel) rfl, kw_X5_peek⟩, rfl, by decide +kernel, by decide +kernel, by decide +kernel⟩
theorem kc_X5_50 : uwv RX5 50 RX5 yX5_fail cX5_fail 3 (some .boolean) 2 := ⟨⟨uw_t 520 (by decide +kernel) rfl, uw_t 521 (by decide +kernel) rfl, uw_t 522 (by decide +kernel) rfl, uw_t 2 (by decide +kernel) rfl, kw_X5_fail⟩, rfl, by decide +kernel, by decide +kernel, by decide +kernel⟩
theorem kl_X5_55 : uwv RX5 55 "java/lang/String" yJ0_length_8abf5 cJ0_length_8abf5 1 (some .int) 0 := ⟨⟨uw_t 468 (by decide +kernel) rfl, uw_t 469 (by decide +kernel) rfl, uw_t 470 (by decide +kernel) rfl, uw_t 17 (by decide +kernel) rfl, uw_t 471 (by decide +kernel) rfl⟩, rfl, by decide +kernel, by decide +kernel, by decide +kernel⟩
theorem kl_X5_59 : uwv RX5 59 "java/lang/String" yJ0_charAt_5068e cJ0_charAt_5068e 2 (some .char) 1 := ⟨⟨uw_t 478 (by decide +kernel) rfl, uw_t 479 (by decide +kernel) rfl, uw_t 480 (by decide +kernel) rfl, uw_t 17 (by decide +kernel) rfl, uw_t 481 (by decide +kernel) rfl⟩, rfl, by decide +kernel, by decide +kernel, by decide +kernel⟩
theorem kc_X6_28 : uwv RX6 28 RX6 yX6_readSteps cX6_readSteps 5 (some .boolean) 3 := ⟨⟨uw_t 649 (by decide +kernel) rfl, uw_t 651 (by decide +kernel) rfl, uw_s 14 (by decide +kernel) rfl, uw_t 8 (by decide +kernel) rfl, kw_X6_readSteps⟩, rfl, by decide +kernel, by decide +kernel, by decide +kernel⟩
theorem kc_X6_32 : uwv RX6 32 RX5 yX5_hasMore cX5_hasMore 1 (some .boolean) 0 := ⟨⟨uw_t 653 (by decide +kernel) rfl, uw_t 448 (by decide +kernel) rfl, uw_t 449 (by decide +kernel) rfl, uw_t 2 (by decide +kernel) rfl, kw_X5_hasMore⟩, rfl, by decide +kernel, by decide +kernel, by decide +kernel⟩
theorem kc_X6_38 : uwv RX6 38 RX5 yX5_failHere cX5_failHere 2 (some .boolean) 1 := ⟨⟨uw_t 687 (by decide +kernel) rfl, uw_t 607 (by decide +kernel) rfl, uw_t 608 (by decide +kernel) rfl, uw_t 2 (by decide +kernel) rfl, kw_X5_failHere⟩, rfl, by decide +kernel, by decide +kernel, by decide +kernel⟩
theorem kc_X6_42 : uwv RX6 42 RX5 yX5_peek cX5_peek 1 (some .int) 0 := ⟨⟨uw_t 654 (by decide +kernel) rfl, uw_t 452 (by decide +kernel) rfl, uw_t 453 (by decide +kernel) rfl, uw_t 2 (by decide +kernel) rfl, kw_X5_peek⟩, rfl, by decide +kernel, by decide +kernel, by decide +kernel⟩
theorem kc_X6_46 : uwv RX6 46 RX6 yX6_readStep cX6_readStep 7 (some .boolean) 3 := ⟨⟨uw_t 655 (by decide +kernel) rfl, uw_t 657 (by decide +kernel) rfl, uw_s 15 (by decide +kernel) rfl, uw_t 8 (by decide +kernel) rfl, kw_X6_readStep⟩, rfl, by decide +kernel, by decide +kernel, by decide +kernel⟩
theorem kc_X6_49 : uwv RX6 49 RX5 yX5_takeWord cX5_takeWord 1 none 0 := ⟨⟨uw_t 659 (by decide +kernel) rfl, uw_t 460 (by decide +kernel) rfl, uw_t 461 (by decide +kernel) rfl, uw_t 2 (by decide +kernel) rfl, kw_X5_takeWord⟩, rfl, by decide +kernel, by decide +kernel, by decide +kernel⟩
theorem kc_X6_52 : uws RX6 52 yX6_stepWord cX6_stepWord 1 (some .int) 1 := ⟨⟨uw_t 660 (by decide +kernel) rfl, uw_t 661 (by decide +kernel) rfl, uw_t 8 (by decide +kernel) rfl, kw_X6_stepWord⟩, by decide +kernel, by decide +kernel, by decide +kernel⟩
theorem kc_X6_56 : uwv RX6 56 RX5 yX5_failAtWord cX5_failAtWord 2 (some .boolean) 1 := ⟨⟨uw_t 672 (by decide +kernel) rfl, uw_t 517 (by decide +kernel) rfl, uw_t 518 (by decide +kernel) rfl, uw_t 2 (by decide +kernel) rfl, kw_X5_failAtWord⟩, rfl, by decide +kernel, by decide +kernel, by decide +kernel⟩
theorem kc_X6_59 : uwv RX6 59 RX6 yX6_readAgain cX6_readAgain 5 (some .boolean) 4 := ⟨⟨uw_t 673 (by decide +kernel) rfl, uw_t 675 (by decide +kernel) rfl, uw_s 16 (by decide +kernel) rfl, uw_t 8 (by decide +kernel) rfl, kw_X6_readAgain⟩, rfl, by decide +kernel, by decide +kernel, by decide +kernel⟩
theorem kc_X6_63 : uwv RX6 63 RX6 yX6_readNumbers cX6_readNumbers 5 (some .boolean) 4 := ⟨⟨uw_t 683 (by decide +kernel) rfl, uw_t 685 (by decide +kernel) rfl, uw_s 18 (by decide +kernel) rfl, uw_t 8 (by decide +kernel) rfl, kw_X6_readNumbers⟩, rfl, by decide +kernel, by decide +kernel, by decide +kernel⟩
theorem kc_X6_66 : uwv RX6 66 RX5 yX5_takeSign cX5_takeSign 2 (some .boolean) 1 := ⟨⟨uw_t 682 (by decide +kernel) rfl, uw_t 534 (by decide +kernel) rfl, uw_t 535 (by decide +kernel) rfl, uw_t 2 (by decide +kernel) rfl, kw_X5_takeSign⟩, rfl, by decide +kernel, by decide +kernel, by decide +kernel⟩
theorem kc_X6_69 : uwv RX6 69 RX6 yX6_readNumber cX6_readNumber 5 (some .boolean) 4 := ⟨⟨uw_t 677 (by decide +kernel) rfl, uw_t 679 (by decide +kernel) rfl, uw_s 17 (by decide +kernel) rfl, uw_t 8 (by decide +kernel) rfl, kw_X6_readNumber⟩, rfl, by decide +kernel, by decide +kernel, by decide +kernel⟩
theorem kc_X6_72 : uwv RX6 72 RX5 yX5_takeNumber cX5_takeNumber 3 (some .boolean) 2 := ⟨⟨uw_t 681 (by decide +kernel) rfl, uw_t 529 (by decide +kernel) rfl, uw_t 530 (by decide +kernel) rfl, uw_t 2 (by decide +kernel) rfl, kw_X5_takeNumber⟩, rfl, by decide +kernel, by decide +kernel, by decide +kernel⟩
theorem kc_X6_81 : uwv RX6 81 RX5 yX5_wordIs cX5_wordIs 3 (some .boolean) 1 := ⟨⟨uw_t 664 (by decide +kernel) rfl, uw_t 465 (by decide +kernel) rfl, uw_t 466 (by decide +kernel) rfl, uw_t 2 (by decide +kernel) rfl, kw_X5_wordIs⟩, rfl, by decide +kernel, by decide +kernel, by decide +kernel⟩
theorem kl_X6_99 : Cond.methodLink RX6 99 Lib.Math.min.name ∈ uw ∧ Cond.static Lib.Math.min.name ∈ uw ∧ Cond.initialized "java/lang/Math" ∈ uw ∧ Cond.code Lib.Math.min.name Lib.Math.min.code 2 (some .int) ∈ uw := ⟨uw_t 692 (by decide +kernel) rfl, uw_t 441 (by decide +kernel) rfl, uw_t 16 (by decide +kernel) rfl, uw_t 442 (by decide +kernel) rfl⟩
theorem kl_X6_105 : Cond.methodLink RX6 105 Lib.Math.max.name ∈ uw ∧ Cond.static Lib.Math.max.name ∈ uw ∧ Cond.initialized "java/lang/Math" ∈ uw ∧ Cond.code Lib.Math.max.name Lib.Math.max.code 2 (some .int) ∈ uw := ⟨uw_t 693 (by decide +kernel) rfl, uw_t 694 (by decide +kernel) rfl, uw_t 16 (by decide +kernel) rfl, uw_t 695 (by decide +kernel) rfl⟩
theorem kc_X6_108 : uwv RX6 108 RX6 yX6_performFrom cX6_performFrom 8 none 4 := ⟨⟨uw_t 696 (by decide +kernel) rfl, uw_t 690 (by decide +kernel) rfl, uw_s 19 (by decide +kernel) rfl, uw_t 8 (by decide +kernel) rfl, kw_X6_performFrom⟩, rfl, by decide +kernel, by decide +kernel, by decide +kernel⟩
theorem kc_X6_112 : uwv RX6 112 RX6 yX6_isDone cX6_isDone 5 (some .boolean) 2 := ⟨⟨uw_t 697 (by decide +kernel) rfl, uw_t 699 (by decide +kernel) rfl, uw_s 20 (by decide +kernel) rfl, uw_t 8 (by decide +kernel) rfl, kw_X6_isDone⟩, rfl, by decide +kernel, by decide +kernel, by decide +kernel⟩
theorem kc_X6_116 : uwv RX6 116 RX4 yX4_blow cX4_blow 3 (some .boolean) 2 := ⟨⟨uw_t 701 (by decide +kernel) rfl, uw_t 702 (by decide +kernel) rfl, uw_t 703 (by decide +kernel) rfl, uw_t 9 (by decide +kernel) rfl, kw_X4_blow⟩, rfl, by decide +kernel, by decide +kernel, by decide +kernel⟩
theorem kc_X6_120 : uwv RX6 120 RX4 yX4_drift cX4_drift 3 (some .boolean) 1 := ⟨⟨uw_t 716 (by decide +kernel) rfl, uw_t 717 (by decide +kernel) rfl, uw_t 718 (by decide +kernel) rfl, uw_t 9 (by decide +kernel) rfl, kw_X4_drift⟩, rfl, by decide +kernel, by decide +kernel, by decide +kernel⟩
theorem kc_X6_123 : uwv RX6 123 RX4 yX4_runTo cX4_runTo 3 (some .boolean) 2 := ⟨⟨uw_t 732 (by decide +kernel) rfl, uw_t 733 (by decide +kernel) rfl, uw_t 734 (by decide +kernel) rfl, uw_t 9 (by decide +kernel) rfl, kw_X4_runTo⟩, rfl, by decide +kernel, by decide +kernel, by decide +kernel⟩
theorem kc_X6_126 : uwv RX6 126 RX4 yX4_sellFor cX4_sellFor 4 (some .boolean) 3 := ⟨⟨uw_t 736 (by decide +kernel) rfl, uw_t 737 (by decide +kernel) rfl, uw_t 738 (by decide +kernel) rfl, uw_t 9 (by decide +kernel) rfl, kw_X4_sellFor⟩, rfl, by decide +kernel, by decide +kernel, by decide +kernel⟩
theorem kc_X6_130 : uwv RX6 130 RX4 yX4_keepUp cX4_keepUp 2 (some .boolean) 1 := ⟨⟨uw_t 744 (by decide +kernel) rfl, uw_t 745 (by decide +kernel) rfl, uw_t 746 (by decide +kernel) rfl, uw_t 9 (by decide +kernel) rfl, kw_X4_keepUp⟩, rfl, by decide +kernel, by decide +kernel, by decide +kernel⟩
theorem kc_X6_133 : uwv RX6 133 RX4 yX4_breathe cX4_breathe 4 (some .boolean) 1 := ⟨⟨uw_t 749 (by decide +kernel) rfl, uw_t 750 (by decide +kernel) rfl, uw_t 751 (by decide +kernel) rfl, uw_t 9 (by decide +kernel) rfl, kw_X4_breathe⟩, rfl, by decide +kernel, by decide +kernel, by decide +kernel⟩
theorem kc_X8_90 : uwv RX8 90 RX8 yX8_clears cX8_clears 1 none 0 := ⟨⟨uw_t 1184 (by decide +kernel) rfl, uw_t 1186 (by decide +kernel) rfl, uw_s 37 (by decide +kernel) rfl, uw_t 11 (by decide +kernel) rfl, kw_X8_clears⟩, rfl, by decide +kernel, by decide +kernel, by decide +kernel⟩
theorem kc_X8_93 : uwv RX8 93 RX8 yX8_sets cX8_sets 2 none 0 := ⟨⟨uw_t 1188 (by decide +kernel) rfl, uw_t 1190 (by decide +kernel) rfl, uw_s 38 (by decide +kernel) rfl, uw_t 11 (by decide +kernel) rfl, kw_X8_sets⟩, rfl, by decide +kernel, by decide +kernel, by decide +kernel⟩
theorem kc_X8_111 : uwv RX8 111 RX8 yX8_here cX8_here 1 (some .int) 0 := ⟨⟨uw_t 1373 (by decide +kernel) rfl, uw_t 1375 (by decide +kernel) rfl, uw_s 44 (by decide +kernel) rfl, uw_t 11 (by decide +kernel) rfl, kw_X8_here⟩, rfl, by decide +kernel, by decide +kernel, by decide +kernel⟩
theorem kc_X8_115 : uws RX8 115 yX8_isSmall cX8_isSmall 1 (some .boolean) 1 := ⟨⟨uw_t 1381 (by decide +kernel) rfl, uw_t 1382 (by decide +kernel) rfl, uw_t 11 (by decide +kernel) rfl, kw_X8_isSmall⟩, by decide +kernel, by decide +kernel, by decide +kernel⟩
theorem kl_X8_119 : uwv RX8 119 "java/lang/String" yJ0_length_8abf5 cJ0_length_8abf5 1 (some .int) 0 := ⟨⟨uw_t 1391 (by decide +kernel) rfl, uw_t 469 (by decide +kernel) rfl, uw_t 470 (by decide +kernel) rfl, uw_t 17 (by decide +kernel) rfl, uw_t 471 (by decide +kernel) rfl⟩, rfl, by decide +kernel, by decide +kernel, by decide +kernel⟩
theorem kl_X8_124 : uwv RX8 124 "java/lang/String" yJ0_charAt_5068e cJ0_charAt_5068e 2 (some .char) 1 := ⟨⟨uw_t 1392 (by decide +kernel) rfl, uw_t 479 (by decide +kernel) rfl, uw_t 480 (by decide +kernel) rfl, uw_t 17 (by decide +kernel) rfl, uw_t 481 (by decide +kernel) rfl⟩, rfl, by decide +kernel, by decide +kernel, by decide +kernel⟩
theorem kc_X8_128 : uwv RX8 128 RX8 yX8_fine cX8_fine 1 (some .boolean) 0 := ⟨⟨uw_t 1365 (by decide +kernel) rfl, uw_t 1367 (by decide +kernel) rfl, uw_s 42 (by decide +kernel) rfl, uw_t 11 (by decide +kernel) rfl, kw_X8_fine⟩, rfl, by decide +kernel, by decide +kernel, by decide +kernel⟩
theorem kc_X8_132 : uws RX8 132 yX8_isDigit cX8_isDigit 1 (some .boolean) 1 := ⟨⟨uw_t 1415 (by decide +kernel) rfl, uw_t 1416 (by decide +kernel) rfl, uw_t 11 (by decide +kernel) rfl, kw_X8_isDigit⟩, by decide +kernel, by decide +kernel, by decide +kernel⟩
theorem kc_X8_135 : uwv RX8 135 RX8 yX8_wrong cX8_wrong 3 none 2 := ⟨⟨uw_t 1395 (by decide +kernel) rfl, uw_t 1397 (by decide +kernel) rfl, uw_s 46 (by decide +kernel) rfl, uw_t 11 (by decide +kernel) rfl, kw_X8_wrong⟩, rfl, by decide +kernel, by decide +kernel, by decide +kernel⟩
theorem kc_X8_160 : uwv RX8 160 RX8 yX8_copies cX8_copies 5 none 3 := ⟨⟨uw_t 1192 (by decide +kernel) rfl, uw_t 1194 (by decide +kernel) rfl, uw_s 39 (by decide +kernel) rfl, uw_t 11 (by decide +kernel) rfl, kw_X8_copies⟩, rfl, by decide +kernel, by decide +kernel, by decide +kernel⟩
theorem kc_X8_180 : uws RX8 180 yX8_of cX8_of 3 (some .int) 1 := ⟨⟨uw_t 1388 (by decide +kernel) rfl, uw_t 1389 (by decide +kernel) rfl, uw_t 11 (by decide +kernel) rfl, kw_X8_of⟩, by decide +kernel, by decide +kernel, by decide +kernel⟩
theorem kc_X8_186 : uwv RX8 186 RX8 yX8_readNumber cX8_readNumber 6 (some .int) 2 := ⟨⟨uw_t 1411 (by decide +kernel) rfl, uw_t 1413 (by decide +kernel) rfl, uw_s 50 (by decide +kernel) rfl, uw_t 11 (by decide +kernel) rfl, kw_X8_readNumber⟩, rfl, by decide +kernel, by decide +kernel, by decide +kernel⟩
theorem kc_X8_190 : uwv RX8 190 RX8 yX8_may cX8_may 4 (some .boolean) 3 := ⟨⟨uw_t 1357 (by decide +kernel) rfl, uw_t 1359 (by decide +kernel) rfl, uw_s 40 (by decide +kernel) rfl, uw_t 11 (by decide +kernel) rfl, kw_X8_may⟩, rfl, by decide +kernel, by decide +kernel, by decide +kernel⟩
theorem kc_X8_194 : uwv RX8 194 RX8 yX8_begins cX8_begins 2 none 1 := ⟨⟨uw_t 1361 (by decide +kernel) rfl, uw_t 1363 (by decide +kernel) rfl, uw_s 41 (by decide +kernel) rfl, uw_t 11 (by decide +kernel) rfl, kw_X8_begins⟩, rfl, by decide +kernel, by decide +kernel, by decide +kernel⟩
theorem kc_X8_198 : uwv RX8 198 RX8 yX8_isMore cX8_isMore 1 (some .boolean) 0 := ⟨⟨uw_t 1369 (by decide +kernel) rfl, uw_t 1371 (by decide +kernel) rfl, uw_s 43 (by decide +kernel) rfl, uw_t 11 (by decide +kernel) rfl, kw_X8_isMore⟩, rfl, by decide +kernel, by decide +kernel, by decide +kernel⟩
theorem kc_X8_201 : uwv RX8 201 RX8 yX8_word cX8_word 4 (some .int) 0 := ⟨⟨uw_t 1377 (by decide +kernel) rfl, uw_t 1379 (by decide +kernel) rfl, uw_s 45 (by decide +kernel) rfl, uw_t 11 (by decide +kernel) rfl, kw_X8_word⟩, rfl, by decide +kernel, by decide +kernel, by decide +kernel⟩
theorem kc_X8_204 : uws RX8 204 yX8_isRow cX8_isRow 1 (some .boolean) 1 := ⟨⟨uw_t 1384 (by decide +kernel) rfl, uw_t 1385 (by decide +kernel) rfl, uw_t 11 (by decide +kernel) rfl, kw_X8_isRow⟩, by decide +kernel, by decide +kernel, by decide +kernel⟩
theorem kc_X8_207 : uwv RX8 207 RX8 yX8_isFull cX8_isFull 2 (some .boolean) 1 := ⟨⟨uw_t 1399 (by decide +kernel) rfl, uw_t 1401 (by decide +kernel) rfl, uw_s 47 (by decide +kernel) rfl, uw_t 11 (by decide +kernel) rfl, kw_X8_isFull⟩, rfl, by decide +kernel, by decide +kernel, by decide +kernel⟩
theorem kc_X8_210 : uwv RX8 210 RX8 yX8_pass cX8_pass 1 none 0 := ⟨⟨uw_t 1403 (by decide +kernel) rfl, uw_t 1405 (by decide +kernel) rfl, uw_s 48 (by decide +kernel) rfl, uw_t 11 (by decide +kernel) rfl, kw_X8_pass⟩, rfl, by decide +kernel, by decide +kernel, by decide +kernel⟩
theorem kc_X8_213 : uwv RX8 213 RX8 yX8_readRow cX8_readRow 2 none 1 := ⟨⟨uw_t 1407 (by decide +kernel) rfl, uw_t 1409 (by decide +kernel) rfl, uw_s 49 (by decide +kernel) rfl, uw_t 11 (by decide +kernel) rfl, kw_X8_readRow⟩, rfl, by decide +kernel, by decide +kernel, by decide +kernel⟩
theorem kc_X8_216 : uwv RX8 216 RX8 yX8_sign cX8_sign 2 none 1 := ⟨⟨uw_t 1418 (by decide +kernel) rfl, uw_t 1420 (by decide +kernel) rfl, uw_s 51 (by decide +kernel) rfl, uw_t 11 (by decide +kernel) rfl, kw_X8_sign⟩, rfl, by decide +kernel, by decide +kernel, by decide +kernel⟩
theorem kc_X8_219 : uwv RX8 219 RX8 yX8_result cX8_result 2 (some .int) 1 := ⟨⟨uw_t 1422 (by decide +kernel) rfl, uw_t 1424 (by decide +kernel) rfl, uw_s 52 (by decide +kernel) rfl, uw_t 11 (by decide +kernel) rfl, kw_X8_result⟩, rfl, by decide +kernel, by decide +kernel, by decide +kernel⟩
theorem kc_X8_226 : uwv RX8 226 RX8 yX8_readProduct cX8_readProduct 2 none 0 := ⟨⟨uw_t 1434 (by decide +kernel) rfl, uw_t 1436 (by decide +kernel) rfl, uw_s 54 (by decide +kernel) rfl, uw_t 11 (by decide +kernel) rfl, kw_X8_readProduct⟩, rfl, by decide +kernel, by decide +kernel, by decide +kernel⟩
theorem kc_X8_229 : uwv RX8 229 RX8 yX8_emit cX8_emit 3 none 2 := ⟨⟨uw_t 1446 (by decide +kernel) rfl, uw_t 1448 (by decide +kernel) rfl, uw_s 57 (by decide +kernel) rfl, uw_t 11 (by decide +kernel) rfl, kw_X8_emit⟩, rfl, by decide +kernel, by decide +kernel, by decide +kernel⟩
theorem kc_X8_232 : uwv RX8 232 RX8 yX8_readUnit cX8_readUnit 2 none 0 := ⟨⟨uw_t 1438 (by decide +kernel) rfl, uw_t 1440 (by decide +kernel) rfl, uw_s 55 (by decide +kernel) rfl, uw_t 11 (by decide +kernel) rfl, kw_X8_readUnit⟩, rfl, by decide +kernel, by decide +kernel, by decide +kernel⟩
theorem kc_X8_235 : uwv RX8 235 RX8 yX8_opensOne cX8_opensOne 2 none 1 := ⟨⟨uw_t 1442 (by decide +kernel) rfl, uw_t 1444 (by decide +kernel) rfl, uw_s 56 (by decide +kernel) rfl, uw_t 11 (by decide +kernel) rfl, kw_X8_opensOne⟩, rfl, by decide +kernel, by decide +kernel, by decide +kernel⟩
theorem kc_X8_238 : uwv RX8 238 RX8 yX8_readSum cX8_readSum 2 none 0 := ⟨⟨uw_t 1430 (by decide +kernel) rfl, uw_t 1432 (by decide +kernel) rfl, uw_s 53 (by decide +kernel) rfl, uw_t 11 (by decide +kernel) rfl, kw_X8_readSum⟩, rfl, by decide +kernel, by decide +kernel, by decide +kernel⟩
theorem kc_X8_254 : uwv RX8 254 RX8 yX8_readTwo cX8_readTwo 3 none 2 := ⟨⟨uw_t 1451 (by decide +kernel) rfl, uw_t 1453 (by decide +kernel) rfl, uw_s 58 (by decide +kernel) rfl, uw_t 11 (by decide +kernel) rfl, kw_X8_readTwo⟩, rfl, by decide +kernel, by decide +kernel, by decide +kernel⟩
theorem kc_X8_259 : uwv RX8 259 RX8 yX8_factHere cX8_factHere 2 (some .int) 0 := ⟨⟨uw_t 1456 (by decide +kernel) rfl, uw_t 1458 (by decide +kernel) rfl, uw_s 59 (by decide +kernel) rfl, uw_t 11 (by decide +kernel) rfl, kw_X8_factHere⟩, rfl, by decide +kernel, by decide +kernel, by decide +kernel⟩
theorem kc_X8_262 : uws RX8 262 yX8_both cX8_both 3 (some .int) 3 := ⟨⟨uw_t 1589 (by decide +kernel) rfl, uw_t 1590 (by decide +kernel) rfl, uw_t 11 (by decide +kernel) rfl, kw_X8_both⟩, by decide +kernel, by decide +kernel, by decide +kernel⟩
theorem kc_X8_266 : uwv RX8 266 RX8 yX8_valueNow cX8_valueNow 4 (some .int) 0 := ⟨⟨uw_t 1585 (by decide +kernel) rfl, uw_t 1587 (by decide +kernel) rfl, uw_s 84 (by decide +kernel) rfl, uw_t 11 (by decide +kernel) rfl, kw_X8_valueNow⟩, rfl, by decide +kernel, by decide +kernel, by decide +kernel⟩
theorem kc_X8_286 : uwv RX8 286 RX8 yX8_tellsStep cX8_tellsStep 5 none 4 := ⟨⟨uw_t 1488 (by decide +kernel) rfl, uw_t 1490 (by decide +kernel) rfl, uw_s 62 (by decide +kernel) rfl, uw_t 11 (by decide +kernel) rfl, kw_X8_tellsStep⟩, rfl, by decide +kernel, by decide +kernel, by decide +kernel⟩
theorem kc_X8_290 : uwv RX8 290 RX8 yX8_readStep cX8_readStep 4 none 0 := ⟨⟨uw_t 1470 (by decide +kernel) rfl, uw_t 1472 (by decide +kernel) rfl, uw_s 60 (by decide +kernel) rfl, uw_t 11 (by decide +kernel) rfl, kw_X8_readStep⟩, rfl, by decide +kernel, by decide +kernel, by decide +kernel⟩
theorem kc_X8_293 : uws RX8 293 yX8_stepOf cX8_stepOf 1 (some .int) 1 := ⟨⟨uw_t 1474 (by decide +kernel) rfl, uw_t 1475 (by decide +kernel) rfl, uw_t 11 (by decide +kernel) rfl, kw_X8_stepOf⟩, by decide +kernel, by decide +kernel, by decide +kernel⟩
theorem kc_X8_296 : uwv RX8 296 RX8 yX8_readAgain cX8_readAgain 3 none 0 := ⟨⟨uw_t 1484 (by decide +kernel) rfl, uw_t 1486 (by decide +kernel) rfl, uw_s 61 (by decide +kernel) rfl, uw_t 11 (by decide +kernel) rfl, kw_X8_readAgain⟩, rfl, by decide +kernel, by decide +kernel, by decide +kernel⟩
theorem kc_X8_299 : uwv RX8 299 RX8 yX8_readTenant cX8_readTenant 1 (some .int) 0 := ⟨⟨uw_t 1492 (by decide +kernel) rfl, uw_t 1494 (by decide +kernel) rfl, uw_s 63 (by decide +kernel) rfl, uw_t 11 (by decide +kernel) rfl, kw_X8_readTenant⟩, rfl, by decide +kernel, by decide +kernel, by decide +kernel⟩
theorem kc_X8_302 : uwv RX8 302 RX8 yX8_take cX8_take 1 none 0 := ⟨⟨uw_t 1496 (by decide +kernel) rfl, uw_t 1498 (by decide +kernel) rfl, uw_s 64 (by decide +kernel) rfl, uw_t 11 (by decide +kernel) rfl, kw_X8_take⟩, rfl, by decide +kernel, by decide +kernel, by decide +kernel⟩
theorem kc_X8_314 : uwv RX8 314 RX8 yX8_goesSteps cX8_goesSteps 6 none 2 := ⟨⟨uw_t 1500 (by decide +kernel) rfl, uw_t 1502 (by decide +kernel) rfl, uw_s 65 (by decide +kernel) rfl, uw_t 11 (by decide +kernel) rfl, kw_X8_goesSteps⟩, rfl, by decide +kernel, by decide +kernel, by decide +kernel⟩
theorem kc_X8_317 : uwv RX8 317 RX8 yX8_isDone cX8_isDone 5 (some .boolean) 4 := ⟨⟨uw_t 1504 (by decide +kernel) rfl, uw_t 1506 (by decide +kernel) rfl, uw_s 66 (by decide +kernel) rfl, uw_t 11 (by decide +kernel) rfl, kw_X8_isDone⟩, rfl, by decide +kernel, by decide +kernel, by decide +kernel⟩
theorem kc_X8_321 : uws RX8 321 yX8_size cX8_size 1 (some .int) 1 := ⟨⟨uw_t 1539 (by decide +kernel) rfl, uw_t 1540 (by decide +kernel) rfl, uw_t 11 (by decide +kernel) rfl, kw_X8_size⟩, by decide +kernel, by decide +kernel, by decide +kernel⟩
theorem kc_X8_323 : uwv RX8 323 RX8 yX8_isSeen cX8_isSeen 3 (some .boolean) 2 := ⟨⟨uw_t 1569 (by decide +kernel) rfl, uw_t 1571 (by decide +kernel) rfl, uw_s 80 (by decide +kernel) rfl, uw_t 11 (by decide +kernel) rfl, kw_X8_isSeen⟩, rfl, by decide +kernel, by decide +kernel, by decide +kernel⟩
theorem kc_X8_327 : uwv RX8 327 RX8 yX8_ownerOf cX8_ownerOf 4 (some .int) 1 := ⟨⟨uw_t 1565 (by decide +kernel) rfl, uw_t 1567 (by decide +kernel) rfl, uw_s 79 (by decide +kernel) rfl, uw_t 11 (by decide +kernel) rfl, kw_X8_ownerOf⟩, rfl, by decide +kernel, by decide +kernel, by decide +kernel⟩
theorem kc_X8_330 : uwv RX8 330 RX8 yX8_areTouching cX8_areTouching 3 (some .boolean) 2 := ⟨⟨uw_t 1554 (by decide +kernel) rfl, uw_t 1556 (by decide +kernel) rfl, uw_s 77 (by decide +kernel) rfl, uw_t 11 (by decide +kernel) rfl, kw_X8_areTouching⟩, rfl, by decide +kernel, by decide +kernel, by decide +kernel⟩
theorem kc_X8_333 : uwv RX8 333 RX8 yX8_lifeNow cX8_lifeNow 2 (some .int) 0 := ⟨⟨uw_t 1581 (by decide +kernel) rfl, uw_t 1583 (by decide +kernel) rfl, uw_s 83 (by decide +kernel) rfl, uw_t 11 (by decide +kernel) rfl, kw_X8_lifeNow⟩, rfl, by decide +kernel, by decide +kernel, by decide +kernel⟩
theorem kc_X8_336 : uwv RX8 336 RX8 yX8_touchingOf cX8_touchingOf 4 (some .int) 1 := ⟨⟨uw_t 1550 (by decide +kernel) rfl, uw_t 1552 (by decide +kernel) rfl, uw_s 76 (by decide +kernel) rfl, uw_t 11 (by decide +kernel) rfl, kw_X8_touchingOf⟩, rfl, by decide +kernel, by decide +kernel, by decide +kernel⟩
theorem kc_X8_339 : uws RX8 339 yX8_ones cX8_ones 3 (some .int) 1 := ⟨⟨uw_t 1558 (by decide +kernel) rfl, uw_t 1559 (by decide +kernel) rfl, uw_t 11 (by decide +kernel) rfl, kw_X8_ones⟩, by decide +kernel, by decide +kernel, by decide +kernel⟩
theorem kc_X8_342 : uwv RX8 342 RX8 yX8_ownedBy cX8_ownedBy 4 (some .int) 1 := ⟨⟨uw_t 1561 (by decide +kernel) rfl, uw_t 1563 (by decide +kernel) rfl, uw_s 78 (by decide +kernel) rfl, uw_t 11 (by decide +kernel) rfl, kw_X8_ownedBy⟩, rfl, by decide +kernel, by decide +kernel, by decide +kernel⟩
theorem kc_X8_345 : uwv RX8 345 RX8 yX8_worthOf cX8_worthOf 4 (some .int) 1 := ⟨⟨uw_t 1573 (by decide +kernel) rfl, uw_t 1575 (by decide +kernel) rfl, uw_s 81 (by decide +kernel) rfl, uw_t 11 (by decide +kernel) rfl, kw_X8_worthOf⟩, rfl, by decide +kernel, by decide +kernel, by decide +kernel⟩
theorem kc_X8_348 : uwv RX8 348 RX8 yX8_lifeOf cX8_lifeOf 9 (some .int) 8 := ⟨⟨uw_t 1577 (by decide +kernel) rfl, uw_t 1579 (by decide +kernel) rfl, uw_s 82 (by decide +kernel) rfl, uw_t 11 (by decide +kernel) rfl, kw_X8_lifeOf⟩, rfl, by decide +kernel, by decide +kernel, by decide +kernel⟩
theorem kc_X8_352 : uws RX8 352 yX8_within cX8_within 3 (some .boolean) 3 := ⟨⟨uw_t 1524 (by decide +kernel) rfl, uw_t 1525 (by decide +kernel) rfl, uw_t 11 (by decide +kernel) rfl, kw_X8_within⟩, by decide +kernel, by decide +kernel, by decide +kernel⟩
theorem kc_X8_356 : uwv RX8 356 RX8 yX8_withBubbles cX8_withBubbles 3 (some .int) 0 := ⟨⟨uw_t 1516 (by decide +kernel) rfl, uw_t 1518 (by decide +kernel) rfl, uw_s 69 (by decide +kernel) rfl, uw_t 11 (by decide +kernel) rfl, kw_X8_withBubbles⟩, rfl, by decide +kernel, by decide +kernel, by decide +kernel⟩
theorem kc_X8_359 : uwv RX8 359 RX8 yX8_isOut cX8_isOut 3 (some .boolean) 2 := ⟨⟨uw_t 1520 (by decide +kernel) rfl, uw_t 1522 (by decide +kernel) rfl, uw_s 70 (by decide +kernel) rfl, uw_t 11 (by decide +kernel) rfl, kw_X8_isOut⟩, rfl, by decide +kernel, by decide +kernel, by decide +kernel⟩
theorem kc_X8_362 : uwv RX8 362 RX8 yX8_bursts cX8_bursts 2 none 1 := ⟨⟨uw_t 1527 (by decide +kernel) rfl, uw_t 1529 (by decide +kernel) rfl, uw_s 71 (by decide +kernel) rfl, uw_t 11 (by decide +kernel) rfl, kw_X8_bursts⟩, rfl, by decide +kernel, by decide +kernel, by decide +kernel⟩
theorem kc_X8_365 : uwv RX8 365 RX8 yX8_lifeBy cX8_lifeBy 2 (some .int) 1 := ⟨⟨uw_t 1546 (by decide +kernel) rfl, uw_t 1548 (by decide +kernel) rfl, uw_s 75 (by decide +kernel) rfl, uw_t 11 (by decide +kernel) rfl, kw_X8_lifeBy⟩, rfl, by decide +kernel, by decide +kernel, by decide +kernel⟩
theorem kc_X8_368 : uwv RX8 368 RX8 yX8_isBlown cX8_isBlown 3 (some .boolean) 2 := ⟨⟨uw_t 1508 (by decide +kernel) rfl, uw_t 1510 (by decide +kernel) rfl, uw_s 67 (by decide +kernel) rfl, uw_t 11 (by decide +kernel) rfl, kw_X8_isBlown⟩, rfl, by decide +kernel, by decide +kernel, by decide +kernel⟩
theorem kc_X8_371 : uwv RX8 371 RX8 yX8_isDriven cX8_isDriven 4 (some .boolean) 1 := ⟨⟨uw_t 1512 (by decide +kernel) rfl, uw_t 1514 (by decide +kernel) rfl, uw_s 68 (by decide +kernel) rfl, uw_t 11 (by decide +kernel) rfl, kw_X8_isDriven⟩, rfl, by decide +kernel, by decide +kernel, by decide +kernel⟩
theorem kc_X8_374 : uwv RX8 374 RX8 yX8_isSold cX8_isSold 5 (some .boolean) 3 := ⟨⟨uw_t 1531 (by decide +kernel) rfl, uw_t 1533 (by decide +kernel) rfl, uw_s 72 (by decide +kernel) rfl, uw_t 11 (by decide +kernel) rfl, kw_X8_isSold⟩, rfl, by decide +kernel, by decide +kernel, by decide +kernel⟩
theorem kc_X8_377 : uwv RX8 377 RX8 yX8_mayKeep cX8_mayKeep 2 (some .boolean) 1 := ⟨⟨uw_t 1535 (by decide +kernel) rfl, uw_t 1537 (by decide +kernel) rfl, uw_s 73 (by decide +kernel) rfl, uw_t 11 (by decide +kernel) rfl, kw_X8_mayKeep⟩, rfl, by decide +kernel, by decide +kernel, by decide +kernel⟩
theorem kc_X8_380 : uwv RX8 380 RX8 yX8_passes cX8_passes 3 none 0 := ⟨⟨uw_t 1542 (by decide +kernel) rfl, uw_t 1544 (by decide +kernel) rfl, uw_s 74 (by decide +kernel) rfl, uw_t 11 (by decide +kernel) rfl, kw_X8_passes⟩, rfl, by decide +kernel, by decide +kernel, by decide +kernel⟩
theorem kc_X8_383 : uwv RX8 383 RX8 yX8_purses cX8_purses 3 (some .int) 0 := ⟨⟨uw_t 1604 (by decide +kernel) rfl, uw_t 1606 (by decide +kernel) rfl, uw_s 85 (by decide +kernel) rfl, uw_t 11 (by decide +kernel) rfl, kw_X8_purses⟩, rfl, by decide +kernel, by decide +kernel, by decide +kernel⟩
theorem kc_X8_386 : uwv RX8 386 RX8 yX8_worthAll cX8_worthAll 3 (some .int) 0 := ⟨⟨uw_t 1608 (by decide +kernel) rfl, uw_t 1610 (by decide +kernel) rfl, uw_s 86 (by decide +kernel) rfl, uw_t 11 (by decide +kernel) rfl, kw_X8_worthAll⟩, rfl, by decide +kernel, by decide +kernel, by decide +kernel⟩
theorem kc_X8_389 : uwv RX8 389 RX8 yX8_touchings cX8_touchings 3 (some .int) 0 := ⟨⟨uw_t 1612 (by decide +kernel) rfl, uw_t 1614 (by decide +kernel) rfl, uw_s 87 (by decide +kernel) rfl, uw_t 11 (by decide +kernel) rfl, kw_X8_touchings⟩, rfl, by decide +kernel, by decide +kernel, by decide +kernel⟩
theorem kc_X8_392 : uwv RX8 392 RX8 yX8_isView cX8_isView 3 (some .boolean) 2 := ⟨⟨uw_t 1620 (by decide +kernel) rfl, uw_t 1622 (by decide +kernel) rfl, uw_s 88 (by decide +kernel) rfl, uw_t 11 (by decide +kernel) rfl, kw_X8_isView⟩, rfl, by decide +kernel, by decide +kernel, by decide +kernel⟩
theorem kc_X8_395 : uwv RX8 395 RX8 yX8_isTenant cX8_isTenant 3 (some .boolean) 2 := ⟨⟨uw_t 1628 (by decide +kernel) rfl, uw_t 1630 (by decide +kernel) rfl, uw_s 89 (by decide +kernel) rfl, uw_t 11 (by decide +kernel) rfl, kw_X8_isTenant⟩, rfl, by decide +kernel, by decide +kernel, by decide +kernel⟩
theorem kc_X8_398 : uwv RX8 398 RX8 yX8_seenBy cX8_seenBy 4 (some .int) 1 := ⟨⟨uw_t 1636 (by decide +kernel) rfl, uw_t 1638 (by decide +kernel) rfl, uw_s 90 (by decide +kernel) rfl, uw_t 11 (by decide +kernel) rfl, kw_X8_seenBy⟩, rfl, by decide +kernel, by decide +kernel, by decide +kernel⟩
theorem kc_X8_401 : uws RX8 401 yX8_least cX8_least 11 (some .long) 3 := ⟨⟨uw_t 1656 (by decide +kernel) rfl, uw_t 1657 (by decide +kernel) rfl, uw_t 11 (by decide +kernel) rfl, kw_X8_least⟩, by decide +kernel, by decide +kernel, by decide +kernel⟩
theorem kc_X8_404 : uwv RX8 404 RX8 yX8_worthFrom cX8_worthFrom 5 (some .int) 2 := ⟨⟨uw_t 1663 (by decide +kernel) rfl, uw_t 1665 (by decide +kernel) rfl, uw_s 91 (by decide +kernel) rfl, uw_t 11 (by decide +kernel) rfl, kw_X8_worthFrom⟩, rfl, by decide +kernel, by decide +kernel, by decide +kernel⟩
theorem kc_X8_407 : uwv RX8 407 RX8 yX8_laysOwners cX8_laysOwners 4 none 0 := ⟨⟨uw_t 1675 (by decide +kernel) rfl, uw_t 1677 (by decide +kernel) rfl, uw_s 92 (by decide +kernel) rfl, uw_t 11 (by decide +kernel) rfl, kw_X8_laysOwners⟩, rfl, by decide +kernel, by decide +kernel, by decide +kernel⟩
theorem kc_X8_410 : uwv RX8 410 RX8 yX8_isFit cX8_isFit 4 (some .boolean) 1 := ⟨⟨uw_t 1679 (by decide +kernel) rfl, uw_t 1681 (by decide +kernel) rfl, uw_s 93 (by decide +kernel) rfl, uw_t 11 (by decide +kernel) rfl, kw_X8_isFit⟩, rfl, by decide +kernel, by decide +kernel, by decide +kernel⟩
theorem kc_X8_413 : uwv RX8 413 RX8 yX8_worstOf cX8_worstOf 5 (some .int) 1 := ⟨⟨uw_t 1687 (by decide +kernel) rfl, uw_t 1689 (by decide +kernel) rfl, uw_s 94 (by decide +kernel) rfl, uw_t 11 (by decide +kernel) rfl, kw_X8_worstOf⟩, rfl, by decide +kernel, by decide +kernel, by decide +kernel⟩
theorem kc_X8_416 : uwv RX8 416 RX8 yX8_numberOf cX8_numberOf 6 (some .long) 2 := ⟨⟨uw_t 1695 (by decide +kernel) rfl, uw_t 1697 (by decide +kernel) rfl, uw_s 95 (by decide +kernel) rfl, uw_t 11 (by decide +kernel) rfl, kw_X8_numberOf⟩, rfl, by decide +kernel, by decide +kernel, by decide +kernel⟩
theorem kc_X8_420 : uws RX8 420 yX8_hasBy cX8_hasBy 4 (some .int) 4 := ⟨⟨uw_t 1711 (by decide +kernel) rfl, uw_t 1712 (by decide +kernel) rfl, uw_t 11 (by decide +kernel) rfl, kw_X8_hasBy⟩, by decide +kernel, by decide +kernel, by decide +kernel⟩
theorem kc_X8_424 : uwv RX8 424 RX8 yX8_bounded cX8_bounded 4 (some .int) 2 := ⟨⟨uw_t 1722 (by decide +kernel) rfl, uw_t 1724 (by decide +kernel) rfl, uw_s 97 (by decide +kernel) rfl, uw_t 11 (by decide +kernel) rfl, kw_X8_bounded⟩, rfl, by decide +kernel, by decide +kernel, by decide +kernel⟩
theorem kc_X8_427 : uwv RX8 427 RX8 yX8_sunBy cX8_sunBy 5 (some .int) 2 := ⟨⟨uw_t 1718 (by decide +kernel) rfl, uw_t 1720 (by decide +kernel) rfl, uw_s 96 (by decide +kernel) rfl, uw_t 11 (by decide +kernel) rfl, kw_X8_sunBy⟩, rfl, by decide +kernel, by decide +kernel, by decide +kernel⟩
theorem kc_X8_437 : uwv RX8 437 RX8 yX8_draws cX8_draws 2 (some .int) 1 := ⟨⟨uw_t 1790 (by decide +kernel) rfl, uw_t 1792 (by decide +kernel) rfl, uw_s 99 (by decide +kernel) rfl, uw_t 11 (by decide +kernel) rfl, kw_X8_draws⟩, rfl, by decide +kernel, by decide +kernel, by decide +kernel⟩
theorem kc_X8_440 : uws RX8 440 yX8_isAfternoon cX8_isAfternoon 2 (some .boolean) 2 := ⟨⟨uw_t 1783 (by decide +kernel) rfl, uw_t 1784 (by decide +kernel) rfl, uw_t 11 (by decide +kernel) rfl, kw_X8_isAfternoon⟩, by decide +kernel, by decide +kernel, by decide +kernel⟩
theorem kc_X8_443 : uwv RX8 443 RX8 yX8_afternoonGoes cX8_afternoonGoes 8 none 3 := ⟨⟨uw_t 1786 (by decide +kernel) rfl, uw_t 1788 (by decide +kernel) rfl, uw_s 98 (by decide +kernel) rfl, uw_t 11 (by decide +kernel) rfl, kw_X8_afternoonGoes⟩, rfl, by decide +kernel, by decide +kernel, by decide +kernel⟩
theorem kc_X8_447 : uwv RX8 447 RX8 yX8_keepsRow cX8_keepsRow 6 (some .int) 4 := ⟨⟨uw_t 1807 (by decide +kernel) rfl, uw_t 1809 (by decide +kernel) rfl, uw_s 101 (by decide +kernel) rfl, uw_t 11 (by decide +kernel) rfl, kw_X8_keepsRow⟩, rfl, by decide +kernel, by decide +kernel, by decide +kernel⟩
theorem kc_X8_451 : uwv RX8 451 RX8 yX8_keepsAll cX8_keepsAll 4 none 2 := ⟨⟨uw_t 1803 (by decide +kernel) rfl, uw_t 1805 (by decide +kernel) rfl, uw_s 100 (by decide +kernel) rfl, uw_t 11 (by decide +kernel) rfl, kw_X8_keepsAll⟩, rfl, by decide +kernel, by decide +kernel, by decide +kernel⟩
theorem un_bipush_m20 : (Int8.ofInt (-20)).toInt32 = (-20) := by decide
theorem un_bipush_6 : (Int8.ofInt (6)).toInt32 = 6 := by decide
theorem un_bipush_7 : (Int8.ofInt (7)).toInt32 = 7 := by decide
theorem un_bipush_8 : (Int8.ofInt (8)).toInt32 = 8 := by decide
theorem un_bipush_9 : (Int8.ofInt (9)).toInt32 = 9 := by decide
theorem un_bipush_10 : (Int8.ofInt (10)).toInt32 = 10 := by decide
theorem un_bipush_11 : (Int8.ofInt (11)).toInt32 = 11 := by decide
theorem un_bipush_12 : (Int8.ofInt (12)).toInt32 = 12 := by decide
theorem un_bipush_13 : (Int8.ofInt (13)).toInt32 = 13 := by decide
theorem un_bipush_15 : (Int8.ofInt (15)).toInt32 = 15 := by decide
theorem un_bipush_16 : (Int8.ofInt (16)).toInt32 = 16 := by decide
theorem un_bipush_18 : (Int8.ofInt (18)).toInt32 = 18 := by decide
theorem un_bipush_20 : (Int8.ofInt (20)).toInt32 = 20 := by decide
theorem un_bipush_23 : (Int8.ofInt (23)).toInt32 = 23 := by decide
theorem un_bipush_24 : (Int8.ofInt (24)).toInt32 = 24 := by decide
theorem un_bipush_25 : (Int8.ofInt (25)).toInt32 = 25 := by decide
theorem un_bipush_26 : (Int8.ofInt (26)).toInt32 = 26 := by decide
theorem un_bipush_27 : (Int8.ofInt (27)).toInt32 = 27 := by decide
theorem un_bipush_28 : (Int8.ofInt (28)).toInt32 = 28 := by decide
theorem un_bipush_30 : (Int8.ofInt (30)).toInt32 = 30 := by decide
theorem un_bipush_32 : (Int8.ofInt (32)).toInt32 = 32 := by decide
theorem un_bipush_37 : (Int8.ofInt (37)).toInt32 = 37 := by decide
theorem un_bipush_40 : (Int8.ofInt (40)).toInt32 = 40 := by decide
theorem un_bipush_41 : (Int8.ofInt (41)).toInt32 = 41 := by decide
theorem un_bipush_42 : (Int8.ofInt (42)).toInt32 = 42 := by decide
theorem un_bipush_43 : (Int8.ofInt (43)).toInt32 = 43 := by decide
theorem un_bipush_44 : (Int8.ofInt (44)).toInt32 = 44 := by decide
theorem un_bipush_45 : (Int8.ofInt (45)).toInt32 = 45 := by decide
theorem un_bipush_47 : (Int8.ofInt (47)).toInt32 = 47 := by decide
theorem un_bipush_48 : (Int8.ofInt (48)).toInt32 = 48 := by decide
theorem un_bipush_57 : (Int8.ofInt (57)).toInt32 = 57 := by decide
theorem un_bipush_59 : (Int8.ofInt (59)).toInt32 = 59 := by decide
theorem un_bipush_60 : (Int8.ofInt (60)).toInt32 = 60 := by decide
theorem un_bipush_63 : (Int8.ofInt (63)).toInt32 = 63 := by decide
theorem un_bipush_91 : (Int8.ofInt (91)).toInt32 = 91 := by decide
theorem un_bipush_93 : (Int8.ofInt (93)).toInt32 = 93 := by decide
theorem un_bipush_96 : (Int8.ofInt (96)).toInt32 = 96 := by decide
theorem un_bipush_97 : (Int8.ofInt (97)).toInt32 = 97 := by decide
theorem un_bipush_99 : (Int8.ofInt (99)).toInt32 = 99 := by decide
theorem un_bipush_100 : (Int8.ofInt (100)).toInt32 = 100 := by decide
theorem un_bipush_122 : (Int8.ofInt (122)).toInt32 = 122 := by decide
theorem un_iconst_m1 : Int32.ofInt (-1) = (-1) := by decide
theorem un_iconst_0 : Int32.ofInt (0) = 0 := by decide
theorem un_iconst_1 : Int32.ofInt (1) = 1 := by decide
theorem un_iconst_2 : Int32.ofInt (2) = 2 := by decide
theorem un_iconst_3 : Int32.ofInt (3) = 3 := by decide
theorem un_iconst_4 : Int32.ofInt (4) = 4 := by decide
theorem un_iconst_5 : Int32.ofInt (5) = 5 := by decide
theorem un_sipush_142 : (Int16.ofInt (142)).toInt32 = 142 := by decide
theorem un_sipush_150 : (Int16.ofInt (150)).toInt32 = 150 := by decide
theorem un_sipush_200 : (Int16.ofInt (200)).toInt32 = 200 := by decide
theorem un_sipush_255 : (Int16.ofInt (255)).toInt32 = 255 := by decide
theorem un_sipush_256 : (Int16.ofInt (256)).toInt32 = 256 := by decide
theorem un_sipush_400 : (Int16.ofInt (400)).toInt32 = 400 := by decide
theorem un_sipush_448 : (Int16.ofInt (448)).toInt32 = 448 := by decide
theorem un_sipush_477 : (Int16.ofInt (477)).toInt32 = 477 := by decide
theorem un_sipush_480 : (Int16.ofInt (480)).toInt32 = 480 := by decide
theorem un_sipush_600 : (Int16.ofInt (600)).toInt32 = 600 := by decide
theorem un_sipush_999 : (Int16.ofInt (999)).toInt32 = 999 := by decide
theorem un_sipush_1000 : (Int16.ofInt (1000)).toInt32 = 1000 := by decide
theorem un_sipush_1278 : (Int16.ofInt (1278)).toInt32 = 1278 := by decide
theorem un_sipush_2000 : (Int16.ofInt (2000)).toInt32 = 2000 := by decide
theorem un_sipush_2001 : (Int16.ofInt (2001)).toInt32 = 2001 := by decide
theorem un_sipush_2002 : (Int16.ofInt (2002)).toInt32 = 2002 := by decide
theorem un_sipush_2003 : (Int16.ofInt (2003)).toInt32 = 2003 := by decide
theorem un_sipush_2004 : (Int16.ofInt (2004)).toInt32 = 2004 := by decide
theorem un_sipush_2005 : (Int16.ofInt (2005)).toInt32 = 2005 := by decide
theorem un_sipush_2006 : (Int16.ofInt (2006)).toInt32 = 2006 := by decide
theorem un_sipush_9999 : (Int16.ofInt (9999)).toInt32 = 9999 := by decide
theorem un_sipush_10000 : (Int16.ofInt (10000)).toInt32 = 10000 := by decide
theorem un_sipush_12345 : (Int16.ofInt (12345)).toInt32 = 12345 := by decide
theorem un_sipush_32767 : (Int16.ofInt (32767)).toInt32 = 32767 := by decide
theorem gi_0_12 : udi 0 7 12 := ⟨_, rfl, rfl⟩
theorem gi_0_13 : udi 0 7 13 := ⟨_, rfl, rfl⟩
theorem gi_0_14 : udi 0 7 14 := ⟨_, rfl, rfl⟩
theorem gi_0_15 : udi 0 7 15 := ⟨_, rfl, rfl⟩
theorem gi_0_16 : udi 0 7 16 := ⟨_, rfl, rfl⟩
theorem gi_1_1 : udi 1 5 1 := ⟨_, rfl, rfl⟩
theorem gi_1_2 : udi 1 5 2 := ⟨_, rfl, rfl⟩
theorem gi_1_3 : udi 1 5 3 := ⟨_, rfl, rfl⟩
theorem gi_1_4 : udi 1 5 4 := ⟨_, rfl, rfl⟩
theorem gi_1_5 : udi 1 5 5 := ⟨_, rfl, rfl⟩
theorem gi_1_6 : udi 1 5 6 := ⟨_, rfl, rfl⟩
theorem gi_1_7 : udi 1 5 7 := ⟨_, rfl, rfl⟩
theorem gi_1_8 : udi 1 5 8 := ⟨_, rfl, rfl⟩
theorem gi_3_0 : udi 3 1 0 := ⟨_, rfl, rfl⟩
theorem gi_3_1 : udi 3 1 1 := ⟨_, rfl, rfl⟩
theorem gi_3_2 : udi 3 1 2 := ⟨_, rfl, rfl⟩
theorem gi_8_0 : udi 8 1 0 := ⟨_, rfl, rfl⟩
theorem gi_8_1 : udi 8 1 1 := ⟨_, rfl, rfl⟩
theorem gi_8_2 : udi 8 1 2 := ⟨_, rfl, rfl⟩
theorem gi_13_1 : udi 13 2 1 := ⟨_, rfl, rfl⟩
theorem gi_13_3 : udi 13 2 3 := ⟨_, rfl, rfl⟩
theorem gi_13_5 : udi 13 2 5 := ⟨_, rfl, rfl⟩
theorem gi_18_1 : udi 18 0 1 := ⟨_, rfl, rfl⟩
theorem gi_21_1 : udi 21 6 1 := ⟨_, rfl, rfl⟩
theorem gi_21_2 : udi 21 6 2 := ⟨_, rfl, rfl⟩
theorem gi_21_3 : udi 21 6 3 := ⟨_, rfl, rfl⟩
theorem gi_21_4 : udi 21 6 4 := ⟨_, rfl, rfl⟩
theorem gi_27_1 : udi 27 3 1 := ⟨_, rfl, rfl⟩
theorem gi_38_0 : udi 38 8 0 := ⟨_, rfl, rfl⟩
theorem gi_38_2 : udi 38 8 2 := ⟨_, rfl, rfl⟩
theorem gi_38_3 : udi 38 8 3 := ⟨_, rfl, rfl⟩
theorem gi_38_4 : udi 38 8 4 := ⟨_, rfl, rfl⟩
theorem gi_38_5 : udi 38 8 5 := ⟨_, rfl, rfl⟩
theorem gi_38_6 : udi 38 8 6 := ⟨_, rfl, rfl⟩
theorem gi_38_7 : udi 38 8 7 := ⟨_, rfl, rfl⟩
theorem gi_38_8 : udi 38 8 8 := ⟨_, rfl, rfl⟩
theorem gi_38_14 : udi 38 8 14 := ⟨_, rfl, rfl⟩
theorem gi_38_15 : udi 38 8 15 := ⟨_, rfl, rfl⟩
theorem gi_38_16 : udi 38 8 16 := ⟨_, rfl, rfl⟩
theorem gi_38_17 : udi 38 8 17 := ⟨_, rfl, rfl⟩
theorem gi_38_18 : udi 38 8 18 := ⟨_, rfl, rfl⟩
theorem gi_38_19 : udi 38 8 19 := ⟨_, rfl, rfl⟩
theorem gi_38_25 : udi 38 8 25 := ⟨_, rfl, rfl⟩
theorem gi_38_26 : udi 38 8 26 := ⟨_, rfl, rfl⟩
theorem gi_38_30 : udi 38 8 30 := ⟨_, rfl, rfl⟩
theorem gi_38_31 : udi 38 8 31 := ⟨_, rfl, rfl⟩
theorem gi_38_32 : udi 38 8 32 := ⟨_, rfl, rfl⟩
theorem gi_38_33 : udi 38 8 33 := ⟨_, rfl, rfl⟩
theorem gi_38_34 : udi 38 8 34 := ⟨_, rfl, rfl⟩
theorem gi_38_35 : udi 38 8 35 := ⟨_, rfl, rfl⟩
theorem gi_38_41 : udi 38 8 41 := ⟨_, rfl, rfl⟩
theorem gi_38_46 : udi 38 8 46 := ⟨_, rfl, rfl⟩
theorem gi_38_48 : udi 38 8 48 := ⟨_, rfl, rfl⟩
theorem gr_0_0 : udr 0 7 0 1 := ⟨_, rfl, rfl⟩
theorem gr_0_1 : udr 0 7 1 3 := ⟨_, rfl, rfl⟩
theorem gr_0_2 : udr 0 7 2 8 := ⟨_, rfl, rfl⟩
theorem gr_0_3 : udr 0 7 3 13 := ⟨_, rfl, rfl⟩
theorem gr_0_4 : udr 0 7 4 18 := ⟨_, rfl, rfl⟩
theorem gr_0_5 : udr 0 7 5 21 := ⟨_, rfl, rfl⟩
theorem gr_0_6 : udr 0 7 6 23 := ⟨_, rfl, rfl⟩
theorem gr_0_7 : udr 0 7 7 25 := ⟨_, rfl, rfl⟩
theorem gr_0_8 : udr 0 7 8 27 := ⟨_, rfl, rfl⟩
theorem gr_0_9 : udr 0 7 9 29 := ⟨_, rfl, rfl⟩
theorem gr_0_10 : udr 0 7 10 36 := ⟨_, rfl, rfl⟩
theorem gr_0_11 : udr 0 7 11 37 := ⟨_, rfl, rfl⟩
theorem gr_1_0 : udr 1 5 0 2 := ⟨_, rfl, rfl⟩
theorem gr_3_3 : udr 3 1 3 4 := ⟨_, rfl, rfl⟩
theorem gr_3_4 : udr 3 1 4 5 := ⟨_, rfl, rfl⟩
theorem gr_3_5 : udr 3 1 5 6 := ⟨_, rfl, rfl⟩
theorem gr_3_6 : udr 3 1 6 7 := ⟨_, rfl, rfl⟩
theorem gr_8_3 : udr 8 1 3 9 := ⟨_, rfl, rfl⟩
theorem gr_8_4 : udr 8 1 4 10 := ⟨_, rfl, rfl⟩
theorem gr_8_5 : udr 8 1 5 11 := ⟨_, rfl, rfl⟩
theorem gr_8_6 : udr 8 1 6 12 := ⟨_, rfl, rfl⟩
theorem gr_13_0 : udr 13 2 0 14 := ⟨_, rfl, rfl⟩
theorem gr_13_2 : udr 13 2 2 15 := ⟨_, rfl, rfl⟩
theorem gr_13_4 : udr 13 2 4 16 := ⟨_, rfl, rfl⟩
theorem gr_13_6 : udr 13 2 6 17 := ⟨_, rfl, rfl⟩
theorem gr_18_0 : udr 18 0 0 19 := ⟨_, rfl, rfl⟩
theorem gr_18_2 : udr 18 0 2 20 := ⟨_, rfl, rfl⟩
theorem gr_21_0 : udr 21 6 0 22 := ⟨_, rfl, rfl⟩
theorem gr_23_2 : udr 23 4 2 24 := ⟨_, rfl, rfl⟩
theorem gr_25_2 : udr 25 4 2 26 := ⟨_, rfl, rfl⟩
theorem gr_38_1 : udr 38 8 1 39 := ⟨_, rfl, rfl⟩
theorem gr_38_9 : udr 38 8 9 40 := ⟨_, rfl, rfl⟩
theorem gr_38_10 : udr 38 8 10 41 := ⟨_, rfl, rfl⟩
theorem gr_38_11 : udr 38 8 11 42 := ⟨_, rfl, rfl⟩
theorem gr_38_12 : udr 38 8 12 43 := ⟨_, rfl, rfl⟩
theorem gr_38_13 : udr 38 8 13 44 := ⟨_, rfl, rfl⟩
theorem gr_38_20 : udr 38 8 20 45 := ⟨_, rfl, rfl⟩
theorem gr_38_21 : udr 38 8 21 46 := ⟨_, rfl, rfl⟩
theorem gr_38_22 : udr 38 8 22 47 := ⟨_, rfl, rfl⟩
theorem gr_38_23 : udr 38 8 23 48 := ⟨_, rfl, rfl⟩
theorem gr_38_24 : udr 38 8 24 49 := ⟨_, rfl, rfl⟩
theorem gr_38_27 : udr 38 8 27 50 := ⟨_, rfl, rfl⟩
theorem gr_38_28 : udr 38 8 28 51 := ⟨_, rfl, rfl⟩
theorem gr_38_29 : udr 38 8 29 52 := ⟨_, rfl, rfl⟩
theorem gr_38_36 : udr 38 8 36 53 := ⟨_, rfl, rfl⟩
theorem gr_38_37 : udr 38 8 37 54 := ⟨_, rfl, rfl⟩
theorem gr_38_38 : udr 38 8 38 55 := ⟨_, rfl, rfl⟩
theorem gr_38_39 : udr 38 8 39 56 := ⟨_, rfl, rfl⟩
theorem gr_38_40 : udr 38 8 40 57 := ⟨_, rfl, rfl⟩
theorem gr_38_42 : udr 38 8 42 58 := ⟨_, rfl, rfl⟩
theorem gr_38_43 : udr 38 8 43 59 := ⟨_, rfl, rfl⟩
theorem gr_38_44 : udr 38 8 44 60 := ⟨_, rfl, rfl⟩
theorem gr_38_45 : udr 38 8 45 61 := ⟨_, rfl, rfl⟩
theorem gr_38_47 : udr 38 8 47 62 := ⟨_, rfl, rfl⟩
theorem ro_0 : uro 0 RX7 := ⟨_, _, _, _, rfl, rfl⟩
theorem ro_1 : uro 1 RX5 := ⟨_, _, _, _, rfl, rfl⟩
theorem ro_3 : uro 3 RX1 := ⟨_, _, _, _, rfl, rfl⟩
theorem ro_8 : uro 8 RX1 := ⟨_, _, _, _, rfl, rfl⟩
theorem ro_13 : uro 13 RX2 := ⟨_, _, _, _, rfl, rfl⟩
theorem ro_18 : uro 18 RX0 := ⟨_, _, _, _, rfl, rfl⟩
theorem ro_21 : uro 21 RX6 := ⟨_, _, _, _, rfl, rfl⟩
theorem ro_23 : uro 23 RX4 := ⟨_, _, _, _, rfl, rfl⟩
theorem ro_25 : uro 25 RX4 := ⟨_, _, _, _, rfl, rfl⟩
theorem ro_27 : uro 27 RX3 := ⟨_, _, _, _, rfl, rfl⟩
theorem ro_38 : uro 38 RX8 := ⟨_, _, _, _, rfl, rfl⟩
theorem al_2 : ud_all[2]? = some (.inr (0, 600)) := rfl
theorem al_4 : ud_all[4]? = some (.inr (0, 8)) := rfl
theorem al_5 : ud_all[5]? = some (.inr (0, 8)) := rfl
theorem al_6 : ud_all[6]? = some (.inr (0, 5)) := rfl
theorem al_7 : ud_all[7]? = some (.inr (0, 5)) := rfl
theorem al_9 : ud_all[9]? = some (.inr (0, 8)) := rfl
theorem al_10 : ud_all[10]? = some (.inr (0, 8)) := rfl
theorem al_11 : ud_all[11]? = some (.inr (0, 5)) := rfl
theorem al_12 : ud_all[12]? = some (.inr (0, 5)) := rfl
theorem al_14 : ud_all[14]? = some (.inr (0, 150)) := rfl
theorem al_15 : ud_all[15]? = some (.inr (0, 150)) := rfl
theorem al_16 : ud_all[16]? = some (.inr (0, 150)) := rfl
theorem al_17 : ud_all[17]? = some (.inr (0, 8)) := rfl
theorem al_19 : ud_all[19]? = some (.inr (0, 8)) := rfl
theorem al_20 : ud_all[20]? = some (.inr (0, 8)) := rfl
theorem al_22 : ud_all[22]? = some (.inr (0, 100)) := rfl
theorem al_24 : ud_all[24]? = some (.inr (0, 28)) := rfl
theorem al_26 : ud_all[26]? = some (.inr (0, 28)) := rfl
theorem al_36 : ud_all[36]? = some (.inr (0, 48)) := rfl
theorem al_37 : ud_all[37]? = some (.inr (0, 5)) := rfl
theorem al_39 : ud_all[39]? = some (.inr (0, 2)) := rfl
theorem al_40 : ud_all[40]? = some (.inr (0, 600)) := rfl
theorem al_41 : ud_all[41]? = some (.inr (0, 16)) := rfl
theorem al_42 : ud_all[42]? = some (.inr (0, 10)) := rfl
theorem al_43 : ud_all[43]? = some (.inr (0, 16)) := rfl
theorem al_44 : ud_all[44]? = some (.inr (0, 10)) := rfl
theorem al_45 : ud_all[45]? = some (.inr (0, 150)) := rfl
theorem al_46 : ud_all[46]? = some (.inr (0, 150)) := rfl
theorem al_47 : ud_all[47]? = some (.inr (0, 150)) := rfl
theorem al_48 : ud_all[48]? = some (.inr (0, 150)) := rfl
theorem al_49 : ud_all[49]? = some (.inr (0, 150)) := rfl
theorem al_50 : ud_all[50]? = some (.inr (0, 8)) := rfl
theorem al_51 : ud_all[51]? = some (.inr (0, 200)) := rfl
theorem al_52 : ud_all[52]? = some (.inr (0, 200)) := rfl
theorem al_53 : ud_all[53]? = some (.inr (0, 28)) := rfl
theorem al_54 : ud_all[54]? = some (.inr (0, 28)) := rfl
theorem al_55 : ud_all[55]? = some (.inr (0, 448)) := rfl
theorem al_56 : ud_all[56]? = some (.inr (0, 8)) := rfl
theorem al_57 : ud_all[57]? = some (.inr (0, 8)) := rfl
theorem al_58 : ud_all[58]? = some (.inr (0, 1278)) := rfl
theorem al_59 : ud_all[59]? = some (.inr (0, 800)) := rfl
theorem al_60 : ud_all[60]? = some (.inr (0, 6)) := rfl
theorem al_61 : ud_all[61]? = some (.inr (1, 1000)) := rfl
theorem al_62 : ud_all[62]? = some (.inr (0, 1431)) := rfl
theorem uc_0 : (0 : Int32).toNatClampNeg = 0 := by decide
theorem uc_1 : (1 : Int32).toNatClampNeg = 1 := by decide
theorem uc_2 : (2 : Int32).toNatClampNeg = 2 := by decide
theorem uc_3 : (3 : Int32).toNatClampNeg = 3 := by decide
theorem uc_4 : (4 : Int32).toNatClampNeg = 4 := by decide
theorem uc_5 : (5 : Int32).toNatClampNeg = 5 := by decide
theorem uc_6 : (6 : Int32).toNatClampNeg = 6 := by decide
theorem uc_7 : (7 : Int32).toNatClampNeg = 7 := by decide
theorem uc_25 : (25 : Int32).toNatClampNeg = 25 := by decide
theorem uc_26 : (26 : Int32).toNatClampNeg = 26 := by decide
theorem uc_27 : (27 : Int32).toNatClampNeg = 27 := by decide
theorem ui_0_8 : vp_in 0 8 := by unfold vp_in; decide
theorem ui_0_28 : vp_in 0 28 := by unfold vp_in; decide
theorem ui_0_150 : vp_in 0 150 := by unfold vp_in; decide
theorem ui_1_8 : vp_in 1 8 := by unfold vp_in; decide
theorem ui_1_28 : vp_in 1 28 := by unfold vp_in; decide
theorem ui_2_8 : vp_in 2 8 := by unfold vp_in; decide
theorem ui_2_28 : vp_in 2 28 := by unfold vp_in; decide
theorem ui_3_8 : vp_in 3 8 := by unfold vp_in; decide
theorem ui_4_8 : vp_in 4 8 := by unfold vp_in; decide
theorem ui_5_8 : vp_in 5 8 := by unfold vp_in; decide
theorem ui_6_8 : vp_in 6 8 := by unfold vp_in; decide
theorem ui_7_8 : vp_in 7 8 := by unfold vp_in; decide
theorem ui_25_28 : vp_in 25 28 := by unfold vp_in; decide
theorem ui_26_28 : vp_in 26 28 := by unfold vp_in; decide
theorem ui_27_28 : vp_in 27 28 := by unfold vp_in; decide
theorem utsw_0_2 {x : Int32} (q0 : ¬ x = 0) (q1 : ¬ x = 1) (q2 : ¬ x = 2) : x.toInt < 0 ∨ 2 < x.toInt := by
  simp only [← Int32.toInt_inj] at *
  have h0 : (0 : Int32).toInt = 0 := by decide
  have e0 : (0 : Int32).toInt = 0 := by decide
  have e1 : (1 : Int32).toInt = 1 := by decide
  have e2 : (2 : Int32).toInt = 2 := by decide
  omega
theorem utsw_0_3 {x : Int32} (q0 : ¬ x = 0) (q1 : ¬ x = 1) (q2 : ¬ x = 2) (q3 : ¬ x = 3) : x.toInt < 0 ∨ 3 < x.toInt := by
  simp only [← Int32.toInt_inj] at *
  have h0 : (0 : Int32).toInt = 0 := by decide
  have e0 : (0 : Int32).toInt = 0 := by decide
  have e1 : (1 : Int32).toInt = 1 := by decide
  have e2 : (2 : Int32).toInt = 2 := by decide
  have e3 : (3 : Int32).toInt = 3 := by decide
  omega
theorem utsw_0_4 {x : Int32} (q0 : ¬ x = 0) (q1 : ¬ x = 1) (q2 : ¬ x = 2) (q3 : ¬ x = 3) (q4 : ¬ x = 4) : x.toInt < 0 ∨ 4 < x.toInt := by
  simp only [← Int32.toInt_inj] at *
  have h0 : (0 : Int32).toInt = 0 := by decide
  have e0 : (0 : Int32).toInt = 0 := by decide
  have e1 : (1 : Int32).toInt = 1 := by decide
  have e2 : (2 : Int32).toInt = 2 := by decide
  have e3 : (3 : Int32).toInt = 3 := by decide
  have e4 : (4 : Int32).toInt = 4 := by decide
  omega
theorem utsw_0_5 {x : Int32} (q0 : ¬ x = 0) (q1 : ¬ x = 1) (q2 : ¬ x = 2) (q3 : ¬ x = 3) (q4 : ¬ x = 4) (q5 : ¬ x = 5) : x.toInt < 0 ∨ 5 < x.toInt := by
  simp only [← Int32.toInt_inj] at *
  have h0 : (0 : Int32).toInt = 0 := by decide
  have e0 : (0 : Int32).toInt = 0 := by decide
  have e1 : (1 : Int32).toInt = 1 := by decide
  have e2 : (2 : Int32).toInt = 2 := by decide
  have e3 : (3 : Int32).toInt = 3 := by decide
  have e4 : (4 : Int32).toInt = 4 := by decide
  have e5 : (5 : Int32).toInt = 5 := by decide
  omega
theorem utsw_0_10 {x : Int32} (q0 : ¬ x = 0) (q1 : ¬ x = 1) (q2 : ¬ x = 2) (q3 : ¬ x = 3) (q4 : ¬ x = 4) (q5 : ¬ x = 5) (q6 : ¬ x = 6) (q7 : ¬ x = 7) (q8 : ¬ x = 8) (q9 : ¬ x = 9) (q10 : ¬ x = 10) : x.toInt < 0 ∨ 10 < x.toInt := by
  simp only [← Int32.toInt_inj] at *
  have h0 : (0 : Int32).toInt = 0 := by decide
  have e0 : (0 : Int32).toInt = 0 := by decide
  have e1 : (1 : Int32).toInt = 1 := by decide
  have e2 : (2 : Int32).toInt = 2 := by decide
  have e3 : (3 : Int32).toInt = 3 := by decide
  have e4 : (4 : Int32).toInt = 4 := by decide
  have e5 : (5 : Int32).toInt = 5 := by decide
  have e6 : (6 : Int32).toInt = 6 := by decide
  have e7 : (7 : Int32).toInt = 7 := by decide
  have e8 : (8 : Int32).toInt = 8 := by decide
  have e9 : (9 : Int32).toInt = 9 := by decide
  have e10 : (10 : Int32).toInt = 10 := by decide
  omega
theorem utsw_2000_2005 {x : Int32} (q2000 : ¬ x = 2000) (q2001 : ¬ x = 2001) (q2002 : ¬ x = 2002) (q2003 : ¬ x = 2003) (q2004 : ¬ x = 2004) (q2005 : ¬ x = 2005) : x.toInt < 2000 ∨ 2005 < x.toInt := by
  simp only [← Int32.toInt_inj] at *
  have h0 : (0 : Int32).toInt = 0 := by decide
  have e2000 : (2000 : Int32).toInt = 2000 := by decide
  have e2001 : (2001 : Int32).toInt = 2001 := by decide
  have e2002 : (2002 : Int32).toInt = 2002 := by decide
  have e2003 : (2003 : Int32).toInt = 2003 := by decide
  have e2004 : (2004 : Int32).toInt = 2004 := by decide
  have e2005 : (2005 : Int32).toInt = 2005 := by decide
  omega
theorem ulsw_0_1 {x : Int32} {d o0 o1 : Int} (q0 : ¬ x = 0) (q1 : ¬ x = 1) : Op.lookupswitch.offset [(0, o0), (1, o1)] d x.toInt = d := by
  rw [Op.lookupswitch.offset_cons, if_neg (fun e => q0 (Int32.toInt_inj.mp (by rw [← e]; decide))), Op.lookupswitch.offset_cons, if_neg (fun e => q1 (Int32.toInt_inj.mp (by rw [← e]; decide))), Op.lookupswitch.offset_nil]
theorem kt_X7_361 : utw RX7 361 363 "java/lang/IllegalArgumentException" := ⟨uw_t 374 (by decide +kernel) rfl, uw_t 15 (by decide +kernel) rfl, by decide +kernel, uw_all (by decide +kernel), utw_c (by decide +kernel), utw_o (by decide +kernel)⟩
theorem kt_X7_364 : utw RX7 364 366 "java/util/NoSuchElementException" := ⟨uw_t 844 (by decide +kernel) rfl, uw_t 22 (by decide +kernel) rfl, by decide +kernel, uw_all (by decide +kernel), utw_c (by decide +kernel), utw_o (by decide +kernel)⟩
theorem ks_9 : Cond.fieldLink RJ0 9 "java/lang/String" "value" "[B" ∈ uw := uw_t 1838 (by decide +kernel) rfl
theorem ks_15 : Cond.fieldLink RJ0 15 "java/lang/String" "coder" "B" ∈ uw := uw_t 1839 (by decide +kernel) rfl
theorem ks_38 : Cond.fieldLink RJ0 38 "java/lang/String" "COMPACT_STRINGS" "Z" ∈ uw := uw_t 476 (by decide +kernel) rfl
theorem ks_1053 : Cond.fieldLink RJ0 1053 "jdk/internal/util/Preconditions" "SIOOBE_FORMATTER" "Ljava/util/function/BiFunction;" ∈ uw := uw_t 492 (by decide +kernel) rfl
theorem ks_335 : uwv RJ0 335 "java/lang/String" yJ0_coder_7d493 cJ0_coder_7d493 1 (some .byte) 0 := ⟨⟨uw_t 472 (by decide +kernel) rfl, uw_t 473 (by decide +kernel) rfl, uw_t 474 (by decide +kernel) rfl, uw_t 17 (by decide +kernel) rfl, uw_t 475 (by decide +kernel) rfl⟩, rfl, by decide +kernel, by decide +kernel, by decide +kernel⟩
theorem ks_492 : uwv RJ0 492 "java/lang/String" yJ0_isLatin1_aae02 cJ0_isLatin1_aae02 1 (some .boolean) 0 := ⟨⟨uw_t 482 (by decide +kernel) rfl, uw_t 483 (by decide +kernel) rfl, uw_t 484 (by decide +kernel) rfl, uw_t 17 (by decide +kernel) rfl, uw_t 485 (by decide +kernel) rfl⟩, rfl, by decide +kernel, by decide +kernel, by decide +kernel⟩
theorem ks_495 : uws RJ0 495 yJ1_charAt_3b067 cJ1_charAt_3b067 2 (some .char) 2 := ⟨⟨uw_t 486 (by decide +kernel) rfl, uw_t 487 (by decide +kernel) rfl, uw_t 18 (by decide +kernel) rfl, uw_t 488 (by decide +kernel) rfl⟩, by decide +kernel, by decide +kernel, by decide +kernel⟩
theorem ks_1059 : uws RJ0 1059 yJ3_checkIndex_8e157 cJ3_checkIndex_8e157 3 (some .int) 3 := ⟨⟨uw_t 494 (by decide +kernel) rfl, uw_t 495 (by decide +kernel) rfl, uw_t 19 (by decide +kernel) rfl, uw_t 496 (by decide +kernel) rfl⟩, by decide +kernel, by decide +kernel, by decide +kernel⟩
theorem ks_J1_9 : uws RJ1 9 yJ0_checkIndex_df160 cJ0_checkIndex_df160 2 none 2 := ⟨⟨uw_t 489 (by decide +kernel) rfl, uw_t 490 (by decide +kernel) rfl, uw_t 17 (by decide +kernel) rfl, uw_t 491 (by decide +kernel) rfl⟩, by decide +kernel, by decide +kernel, by decide +kernel⟩
