theorem mf14_13 : pm_fnd pm_mth 14 13 = some (1, 12, 374, 375, 376, 75, 377) := rfl
theorem cc0_12 : pm_fr 12 + 1 ≤ pm_fr 0 ∧ 8 + (pm_ml 12 + 11) + pm_lo 12 ≤ pm_lo 0 ∧ pm_mc 12 = 0 ∧ pm_ms 12 = 0 := by decide +kernel
theorem mf14_17 : pm_fnd pm_mth 14 17 = some (1, 160, 1135, 1136, 1137, 86, 1138) := rfl
theorem cc0_160 : pm_fr 160 + 1 ≤ pm_fr 0 ∧ 8 + (pm_ml 160 + 11) + pm_lo 160 ≤ pm_lo 0 ∧ pm_mc 160 = 0 ∧ pm_ms 160 = 0 := by decide +kernel
theorem mf14_18 : pm_fnd pm_mth 14 18 = some (1, 16, 389, 390, 391, 75, 392) := rfl
theorem cc0_16 : pm_fr 16 + 1 ≤ pm_fr 0 ∧ 8 + (pm_ml 16 + 11) + pm_lo 16 ≤ pm_lo 0 ∧ pm_mc 16 = 0 ∧ pm_ms 16 = 0 := by decide +kernel
theorem mf14_22 : pm_fnd pm_mth 14 22 = some (1, 163, 1146, 1147, 1148, 86, 1149) := rfl
theorem cc0_163 : pm_fr 163 + 1 ≤ pm_fr 0 ∧ 8 + (pm_ml 163 + 11) + pm_lo 163 ≤ pm_lo 0 ∧ pm_mc 163 = 0 ∧ pm_ms 163 = 0 := by decide +kernel
theorem mf14_23 : pm_fnd pm_mth 14 23 = some (1, 19, 401, 402, 403, 75, 404) := rfl
theorem cc0_19 : pm_fr 19 + 1 ≤ pm_fr 0 ∧ 8 + (pm_ml 19 + 11) + pm_lo 19 ≤ pm_lo 0 ∧ pm_mc 19 = 0 ∧ pm_ms 19 = 0 := by decide +kernel
theorem mf14_26 : pm_fnd pm_mth 14 26 = some (1, 166, 1158, 1159, 1160, 86, 1161) := rfl
theorem cc0_166 : pm_fr 166 + 1 ≤ pm_fr 0 ∧ 8 + (pm_ml 166 + 11) + pm_lo 166 ≤ pm_lo 0 ∧ pm_mc 166 = 0 ∧ pm_ms 166 = 0 := by decide +kernel
theorem mf14_27 : pm_fnd pm_mth 14 27 = some (1, 20, 405, 406, 407, 75, 408) := rfl
theorem cc0_20 : pm_fr 20 + 1 ≤ pm_fr 0 ∧ 8 + (pm_ml 20 + 11) + pm_lo 20 ≤ pm_lo 0 ∧ pm_mc 20 = 0 ∧ pm_ms 20 = 0 := by decide +kernel
theorem mf14_31 : pm_fnd pm_mth 14 31 = some (1, 167, 1162, 1163, 1164, 86, 1165) := rfl
theorem cc0_167 : pm_fr 167 + 1 ≤ pm_fr 0 ∧ 8 + (pm_ml 167 + 11) + pm_lo 167 ≤ pm_lo 0 ∧ pm_mc 167 = 0 ∧ pm_ms 167 = 0 := by decide +kernel
theorem mf14_32 : pm_fnd pm_mth 14 32 = some (1, 21, 409, 410, 411, 75, 412) := rfl
theorem cc0_21 : pm_fr 21 + 1 ≤ pm_fr 0 ∧ 8 + (pm_ml 21 + 11) + pm_lo 21 ≤ pm_lo 0 ∧ pm_mc 21 = 0 ∧ pm_ms 21 = 0 := by decide +kernel
theorem mf14_36 : pm_fnd pm_mth 14 36 = some (1, 168, 1166, 1167, 1168, 86, 1169) := rfl
theorem cc0_168 : pm_fr 168 + 1 ≤ pm_fr 0 ∧ 8 + (pm_ml 168 + 11) + pm_lo 168 ≤ pm_lo 0 ∧ pm_mc 168 = 0 ∧ pm_ms 168 = 0 := by decide +kernel
theorem mf14_37 : pm_fnd pm_mth 14 37 = some (1, 23, 420, 421, 422, 75, 423) := rfl
theorem cc0_23 : pm_fr 23 + 1 ≤ pm_fr 0 ∧ 8 + (pm_ml 23 + 11) + pm_lo 23 ≤ pm_lo 0 ∧ pm_mc 23 = 0 ∧ pm_ms 23 = 0 := by decide +kernel
theorem mf14_40 : pm_fnd pm_mth 14 40 = some (1, 169, 1170, 1171, 1172, 86, 1173) := rfl
theorem cc0_169 : pm_fr 169 + 1 ≤ pm_fr 0 ∧ 8 + (pm_ml 169 + 11) + pm_lo 169 ≤ pm_lo 0 ∧ pm_mc 169 = 0 ∧ pm_ms 169 = 0 := by decide +kernel
theorem mf14_41 : pm_fnd pm_mth 14 41 = some (1, 25, 428, 429, 430, 75, 431) := rfl
theorem cc0_25 : pm_fr 25 + 1 ≤ pm_fr 0 ∧ 8 + (pm_ml 25 + 11) + pm_lo 25 ≤ pm_lo 0 ∧ pm_mc 25 = 0 ∧ pm_ms 25 = 0 := by decide +kernel
theorem mf14_44 : pm_fnd pm_mth 14 44 = some (1, 170, 1174, 1175, 1176, 86, 1177) := rfl
theorem cc0_170 : pm_fr 170 + 1 ≤ pm_fr 0 ∧ 8 + (pm_ml 170 + 11) + pm_lo 170 ≤ pm_lo 0 ∧ pm_mc 170 = 0 ∧ pm_ms 170 = 0 := by decide +kernel
theorem mf14_45 : pm_fnd pm_mth 14 45 = some (1, 27, 436, 437, 438, 75, 439) := rfl
theorem cc0_27 : pm_fr 27 + 1 ≤ pm_fr 0 ∧ 8 + (pm_ml 27 + 11) + pm_lo 27 ≤ pm_lo 0 ∧ pm_mc 27 = 0 ∧ pm_ms 27 = 0 := by decide +kernel
theorem mf14_48 : pm_fnd pm_mth 14 48 = some (1, 172, 1181, 1182, 1183, 86, 1184) := rfl
theorem cc0_172 : pm_fr 172 + 1 ≤ pm_fr 0 ∧ 8 + (pm_ml 172 + 11) + pm_lo 172 ≤ pm_lo 0 ∧ pm_mc 172 = 0 ∧ pm_ms 172 = 0 := by decide +kernel
theorem mf14_49 : pm_fnd pm_mth 14 49 = some (1, 29, 444, 445, 446, 75, 447) := rfl
theorem cc0_29 : pm_fr 29 + 1 ≤ pm_fr 0 ∧ 8 + (pm_ml 29 + 11) + pm_lo 29 ≤ pm_lo 0 ∧ pm_mc 29 = 0 ∧ pm_ms 29 = 0 := by decide +kernel
theorem mf14_53 : pm_fnd pm_mth 14 53 = some (1, 173, 1185, 1186, 1187, 86, 1188) := rfl
theorem cc0_173 : pm_fr 173 + 1 ≤ pm_fr 0 ∧ 8 + (pm_ml 173 + 11) + pm_lo 173 ≤ pm_lo 0 ∧ pm_mc 173 = 0 ∧ pm_ms 173 = 0 := by decide +kernel
theorem mf14_54 : pm_fnd pm_mth 14 54 = some (1, 43, 500, 501, 502, 75, 503) := rfl
theorem cc0_43 : pm_fr 43 + 1 ≤ pm_fr 0 ∧ 8 + (pm_ml 43 + 11) + pm_lo 43 ≤ pm_lo 0 ∧ pm_mc 43 = 0 ∧ pm_ms 43 = 0 := by decide +kernel
theorem mf14_57 : pm_fnd pm_mth 14 57 = some (1, 183, 1225, 1226, 1227, 86, 1228) := rfl
theorem cc0_183 : pm_fr 183 + 1 ≤ pm_fr 0 ∧ 8 + (pm_ml 183 + 11) + pm_lo 183 ≤ pm_lo 0 ∧ pm_mc 183 = 0 ∧ pm_ms 183 = 0 := by decide +kernel
theorem mf14_58 : pm_fnd pm_mth 14 58 = some (1, 45, 508, 509, 510, 75, 511) := rfl
theorem cc0_45 : pm_fr 45 + 1 ≤ pm_fr 0 ∧ 8 + (pm_ml 45 + 11) + pm_lo 45 ≤ pm_lo 0 ∧ pm_mc 45 = 0 ∧ pm_ms 45 = 0 := by decide +kernel
theorem mf14_61 : pm_fnd pm_mth 14 61 = some (1, 185, 1232, 1233, 1234, 86, 1235) := rfl
theorem cc0_185 : pm_fr 185 + 1 ≤ pm_fr 0 ∧ 8 + (pm_ml 185 + 11) + pm_lo 185 ≤ pm_lo 0 ∧ pm_mc 185 = 0 ∧ pm_ms 185 = 0 := by decide +kernel
theorem mf14_62 : pm_fnd pm_mth 14 62 = some (1, 47, 516, 517, 518, 75, 519) := rfl
theorem cc0_47 : pm_fr 47 + 1 ≤ pm_fr 0 ∧ 8 + (pm_ml 47 + 11) + pm_lo 47 ≤ pm_lo 0 ∧ pm_mc 47 = 0 ∧ pm_ms 47 = 0 := by decide +kernel
theorem mf14_65 : pm_fnd pm_mth 14 65 = some (1, 187, 1240, 1241, 1242, 86, 1243) := rfl
theorem cc0_187 : pm_fr 187 + 1 ≤ pm_fr 0 ∧ 8 + (pm_ml 187 + 11) + pm_lo 187 ≤ pm_lo 0 ∧ pm_mc 187 = 0 ∧ pm_ms 187 = 0 := by decide +kernel
theorem mf14_66 : pm_fnd pm_mth 14 66 = some (1, 51, 532, 533, 534, 75, 535) := rfl
theorem cc0_51 : pm_fr 51 + 1 ≤ pm_fr 0 ∧ 8 + (pm_ml 51 + 11) + pm_lo 51 ≤ pm_lo 0 ∧ pm_mc 51 = 0 ∧ pm_ms 51 = 0 := by decide +kernel
theorem mf14_69 : pm_fnd pm_mth 14 69 = some (1, 188, 1244, 1245, 1246, 86, 1247) := rfl
theorem cc0_188 : pm_fr 188 + 1 ≤ pm_fr 0 ∧ 8 + (pm_ml 188 + 11) + pm_lo 188 ≤ pm_lo 0 ∧ pm_mc 188 = 0 ∧ pm_ms 188 = 0 := by decide +kernel
theorem mf14_70 : pm_fnd pm_mth 14 70 = some (1, 55, 547, 548, 549, 75, 550) := rfl
theorem cc0_55 : pm_fr 55 + 1 ≤ pm_fr 0 ∧ 8 + (pm_ml 55 + 11) + pm_lo 55 ≤ pm_lo 0 ∧ pm_mc 55 = 0 ∧ pm_ms 55 = 0 := by decide +kernel
theorem mf14_73 : pm_fnd pm_mth 14 73 = some (1, 191, 1255, 1256, 1257, 86, 1258) := rfl
theorem cc0_191 : pm_fr 191 + 1 ≤ pm_fr 0 ∧ 8 + (pm_ml 191 + 11) + pm_lo 191 ≤ pm_lo 0 ∧ pm_mc 191 = 0 ∧ pm_ms 191 = 0 := by decide +kernel
theorem mf14_74 : pm_fnd pm_mth 14 74 = some (1, 62, 569, 570, 571, 75, 572) := rfl
theorem cc0_62 : pm_fr 62 + 1 ≤ pm_fr 0 ∧ 8 + (pm_ml 62 + 11) + pm_lo 62 ≤ pm_lo 0 ∧ pm_mc 62 = 0 ∧ pm_ms 62 = 0 := by decide +kernel
theorem mf14_77 : pm_fnd pm_mth 14 77 = some (1, 194, 1265, 1266, 1267, 86, 1268) := rfl
theorem cc0_194 : pm_fr 194 + 1 ≤ pm_fr 0 ∧ 8 + (pm_ml 194 + 11) + pm_lo 194 ≤ pm_lo 0 ∧ pm_mc 194 = 0 ∧ pm_ms 194 = 0 := by decide +kernel
theorem mf14_78 : pm_fnd pm_mth 14 78 = some (1, 65, 581, 582, 583, 75, 584) := rfl
theorem cc0_65 : pm_fr 65 + 1 ≤ pm_fr 0 ∧ 8 + (pm_ml 65 + 11) + pm_lo 65 ≤ pm_lo 0 ∧ pm_mc 65 = 0 ∧ pm_ms 65 = 0 := by decide +kernel
theorem mf14_81 : pm_fnd pm_mth 14 81 = some (1, 197, 1277, 1278, 1279, 86, 1280) := rfl
theorem cc0_197 : pm_fr 197 + 1 ≤ pm_fr 0 ∧ 8 + (pm_ml 197 + 11) + pm_lo 197 ≤ pm_lo 0 ∧ pm_mc 197 = 0 ∧ pm_ms 197 = 0 := by decide +kernel
theorem mf14_82 : pm_fnd pm_mth 14 82 = some (1, 70, 601, 602, 603, 75, 604) := rfl
theorem cc0_70 : pm_fr 70 + 1 ≤ pm_fr 0 ∧ 8 + (pm_ml 70 + 11) + pm_lo 70 ≤ pm_lo 0 ∧ pm_mc 70 = 0 ∧ pm_ms 70 = 0 := by decide +kernel
theorem mf14_85 : pm_fnd pm_mth 14 85 = some (1, 202, 1297, 1298, 1299, 86, 1300) := rfl
theorem cc0_202 : pm_fr 202 + 1 ≤ pm_fr 0 ∧ 8 + (pm_ml 202 + 11) + pm_lo 202 ≤ pm_lo 0 ∧ pm_mc 202 = 0 ∧ pm_ms 202 = 0 := by decide +kernel
theorem mf14_86 : pm_fnd pm_mth 14 86 = some (1, 74, 618, 619, 620, 75, 621) := rfl
theorem cc0_74 : pm_fr 74 + 1 ≤ pm_fr 0 ∧ 8 + (pm_ml 74 + 11) + pm_lo 74 ≤ pm_lo 0 ∧ pm_mc 74 = 0 ∧ pm_ms 74 = 0 := by decide +kernel
theorem mf14_89 : pm_fnd pm_mth 14 89 = some (1, 207, 1317, 1318, 1319, 86, 1320) := rfl
theorem cc0_207 : pm_fr 207 + 1 ≤ pm_fr 0 ∧ 8 + (pm_ml 207 + 11) + pm_lo 207 ≤ pm_lo 0 ∧ pm_mc 207 = 0 ∧ pm_ms 207 = 0 := by decide +kernel
theorem mf14_90 : pm_fnd pm_mth 14 90 = some (1, 77, 631, 632, 633, 75, 634) := rfl
theorem cc0_77 : pm_fr 77 + 1 ≤ pm_fr 0 ∧ 8 + (pm_ml 77 + 11) + pm_lo 77 ≤ pm_lo 0 ∧ pm_mc 77 = 0 ∧ pm_ms 77 = 0 := by decide +kernel
theorem mf14_93 : pm_fnd pm_mth 14 93 = some (1, 208, 1321, 1322, 1323, 86, 1324) := rfl
theorem cc0_208 : pm_fr 208 + 1 ≤ pm_fr 0 ∧ 8 + (pm_ml 208 + 11) + pm_lo 208 ≤ pm_lo 0 ∧ pm_mc 208 = 0 ∧ pm_ms 208 = 0 := by decide +kernel
theorem mf14_94 : pm_fnd pm_mth 14 94 = some (1, 81, 649, 650, 651, 75, 652) := rfl
theorem cc0_81 : pm_fr 81 + 1 ≤ pm_fr 0 ∧ 8 + (pm_ml 81 + 11) + pm_lo 81 ≤ pm_lo 0 ∧ pm_mc 81 = 0 ∧ pm_ms 81 = 0 := by decide +kernel
theorem mf14_97 : pm_fnd pm_mth 14 97 = some (1, 211, 1333, 1334, 1335, 86, 1336) := rfl
theorem cc0_211 : pm_fr 211 + 1 ≤ pm_fr 0 ∧ 8 + (pm_ml 211 + 11) + pm_lo 211 ≤ pm_lo 0 ∧ pm_mc 211 = 0 ∧ pm_ms 211 = 0 := by decide +kernel
theorem mf14_98 : pm_fnd pm_mth 14 98 = some (1, 82, 653, 654, 655, 75, 656) := rfl
theorem cc0_82 : pm_fr 82 + 1 ≤ pm_fr 0 ∧ 8 + (pm_ml 82 + 11) + pm_lo 82 ≤ pm_lo 0 ∧ pm_mc 82 = 0 ∧ pm_ms 82 = 0 := by decide +kernel
theorem mf14_101 : pm_fnd pm_mth 14 101 = some (1, 212, 1337, 1338, 1339, 86, 1340) := rfl
theorem cc0_212 : pm_fr 212 + 1 ≤ pm_fr 0 ∧ 8 + (pm_ml 212 + 11) + pm_lo 212 ≤ pm_lo 0 ∧ pm_mc 212 = 0 ∧ pm_ms 212 = 0 := by decide +kernel
theorem mf14_102 : pm_fnd pm_mth 14 102 = some (1, 84, 663, 664, 665, 75, 666) := rfl
theorem cc0_84 : pm_fr 84 + 1 ≤ pm_fr 0 ∧ 8 + (pm_ml 84 + 11) + pm_lo 84 ≤ pm_lo 0 ∧ pm_mc 84 = 0 ∧ pm_ms 84 = 0 := by decide +kernel
theorem mf14_106 : pm_fnd pm_mth 14 106 = some (1, 213, 1341, 1342, 1343, 86, 1344) := rfl
theorem cc0_213 : pm_fr 213 + 1 ≤ pm_fr 0 ∧ 8 + (pm_ml 213 + 11) + pm_lo 213 ≤ pm_lo 0 ∧ pm_mc 213 = 0 ∧ pm_ms 213 = 0 := by decide +kernel
theorem mf14_107 : pm_fnd pm_mth 14 107 = some (1, 86, 671, 672, 673, 75, 674) := rfl
theorem cc0_86 : pm_fr 86 + 1 ≤ pm_fr 0 ∧ 8 + (pm_ml 86 + 11) + pm_lo 86 ≤ pm_lo 0 ∧ pm_mc 86 = 0 ∧ pm_ms 86 = 0 := by decide +kernel
theorem mf14_110 : pm_fnd pm_mth 14 110 = some (1, 214, 1345, 1346, 1347, 86, 1348) := rfl
theorem cc0_214 : pm_fr 214 + 1 ≤ pm_fr 0 ∧ 8 + (pm_ml 214 + 11) + pm_lo 214 ≤ pm_lo 0 ∧ pm_mc 214 = 0 ∧ pm_ms 214 = 0 := by decide +kernel
theorem mf14_111 : pm_fnd pm_mth 14 111 = some (1, 88, 679, 680, 681, 75, 682) := rfl
theorem cc0_88 : pm_fr 88 + 1 ≤ pm_fr 0 ∧ 8 + (pm_ml 88 + 11) + pm_lo 88 ≤ pm_lo 0 ∧ pm_mc 88 = 0 ∧ pm_ms 88 = 0 := by decide +kernel
theorem mf14_114 : pm_fnd pm_mth 14 114 = some (1, 216, 1353, 1354, 1355, 86, 1356) := rfl
theorem cc0_216 : pm_fr 216 + 1 ≤ pm_fr 0 ∧ 8 + (pm_ml 216 + 11) + pm_lo 216 ≤ pm_lo 0 ∧ pm_mc 216 = 0 ∧ pm_ms 216 = 0 := by decide +kernel
theorem mf14_115 : pm_fnd pm_mth 14 115 = some (1, 89, 683, 684, 685, 75, 686) := rfl
theorem cc0_89 : pm_fr 89 + 1 ≤ pm_fr 0 ∧ 8 + (pm_ml 89 + 11) + pm_lo 89 ≤ pm_lo 0 ∧ pm_mc 89 = 0 ∧ pm_ms 89 = 0 := by decide +kernel
theorem mf14_118 : pm_fnd pm_mth 14 118 = some (1, 217, 1357, 1358, 1359, 86, 1360) := rfl
theorem cc0_217 : pm_fr 217 + 1 ≤ pm_fr 0 ∧ 8 + (pm_ml 217 + 11) + pm_lo 217 ≤ pm_lo 0 ∧ pm_mc 217 = 0 ∧ pm_ms 217 = 0 := by decide +kernel
theorem mf14_119 : pm_fnd pm_mth 14 119 = some (1, 96, 714, 715, 716, 75, 717) := rfl
theorem cc0_96 : pm_fr 96 + 1 ≤ pm_fr 0 ∧ 8 + (pm_ml 96 + 11) + pm_lo 96 ≤ pm_lo 0 ∧ pm_mc 96 = 0 ∧ pm_ms 96 = 0 := by decide +kernel
theorem mf14_122 : pm_fnd pm_mth 14 122 = some (1, 221, 1372, 1373, 1374, 86, 1375) := rfl
theorem cc0_221 : pm_fr 221 + 1 ≤ pm_fr 0 ∧ 8 + (pm_ml 221 + 11) + pm_lo 221 ≤ pm_lo 0 ∧ pm_mc 221 = 0 ∧ pm_ms 221 = 0 := by decide +kernel
theorem mf14_123 : pm_fnd pm_mth 14 123 = some (1, 98, 722, 723, 724, 75, 725) := rfl
theorem cc0_98 : pm_fr 98 + 1 ≤ pm_fr 0 ∧ 8 + (pm_ml 98 + 11) + pm_lo 98 ≤ pm_lo 0 ∧ pm_mc 98 = 0 ∧ pm_ms 98 = 0 := by decide +kernel
theorem mf14_127 : pm_fnd pm_mth 14 127 = some (1, 222, 1376, 1377, 1378, 86, 1379) := rfl
theorem cc0_222 : pm_fr 222 + 1 ≤ pm_fr 0 ∧ 8 + (pm_ml 222 + 11) + pm_lo 222 ≤ pm_lo 0 ∧ pm_mc 222 = 0 ∧ pm_ms 222 = 0 := by decide +kernel
theorem mf14_128 : pm_fnd pm_mth 14 128 = some (1, 99, 726, 727, 728, 75, 729) := rfl
theorem cc0_99 : pm_fr 99 + 1 ≤ pm_fr 0 ∧ 8 + (pm_ml 99 + 11) + pm_lo 99 ≤ pm_lo 0 ∧ pm_mc 99 = 0 ∧ pm_ms 99 = 0 := by decide +kernel
theorem mf14_131 : pm_fnd pm_mth 14 131 = some (1, 225, 1388, 1389, 1390, 86, 1391) := rfl
theorem cc0_225 : pm_fr 225 + 1 ≤ pm_fr 0 ∧ 8 + (pm_ml 225 + 11) + pm_lo 225 ≤ pm_lo 0 ∧ pm_mc 225 = 0 ∧ pm_ms 225 = 0 := by decide +kernel
theorem mf14_132 : pm_fnd pm_mth 14 132 = some (1, 105, 751, 752, 753, 75, 754) := rfl
theorem cc0_105 : pm_fr 105 + 1 ≤ pm_fr 0 ∧ 8 + (pm_ml 105 + 11) + pm_lo 105 ≤ pm_lo 0 ∧ pm_mc 105 = 0 ∧ pm_ms 105 = 0 := by decide +kernel
theorem mf14_135 : pm_fnd pm_mth 14 135 = some (1, 229, 1404, 1405, 1406, 86, 1407) := rfl
theorem cc0_229 : pm_fr 229 + 1 ≤ pm_fr 0 ∧ 8 + (pm_ml 229 + 11) + pm_lo 229 ≤ pm_lo 0 ∧ pm_mc 229 = 0 ∧ pm_ms 229 = 0 := by decide +kernel
theorem mf14_136 : pm_fnd pm_mth 14 136 = some (1, 109, 770, 771, 772, 75, 773) := rfl
theorem cc0_109 : pm_fr 109 + 1 ≤ pm_fr 0 ∧ 8 + (pm_ml 109 + 11) + pm_lo 109 ≤ pm_lo 0 ∧ pm_mc 109 = 0 ∧ pm_ms 109 = 0 := by decide +kernel
theorem mf14_139 : pm_fnd pm_mth 14 139 = some (1, 231, 1412, 1413, 1414, 86, 1415) := rfl
theorem cc0_231 : pm_fr 231 + 1 ≤ pm_fr 0 ∧ 8 + (pm_ml 231 + 11) + pm_lo 231 ≤ pm_lo 0 ∧ pm_mc 231 = 0 ∧ pm_ms 231 = 0 := by decide +kernel
theorem mf14_140 : pm_fnd pm_mth 14 140 = some (1, 111, 779, 780, 781, 75, 782) := rfl
theorem cc0_111 : pm_fr 111 + 1 ≤ pm_fr 0 ∧ 8 + (pm_ml 111 + 11) + pm_lo 111 ≤ pm_lo 0 ∧ pm_mc 111 = 0 ∧ pm_ms 111 = 0 := by decide +kernel
theorem mf14_144 : pm_fnd pm_mth 14 144 = some (1, 232, 1416, 1417, 1418, 86, 1419) := rfl
theorem cc0_232 : pm_fr 232 + 1 ≤ pm_fr 0 ∧ 8 + (pm_ml 232 + 11) + pm_lo 232 ≤ pm_lo 0 ∧ pm_mc 232 = 0 ∧ pm_ms 232 = 0 := by decide +kernel
theorem mf14_145 : pm_fnd pm_mth 14 145 = some (1, 114, 791, 792, 793, 75, 794) := rfl
theorem cc0_114 : pm_fr 114 + 1 ≤ pm_fr 0 ∧ 8 + (pm_ml 114 + 11) + pm_lo 114 ≤ pm_lo 0 ∧ pm_mc 114 = 0 ∧ pm_ms 114 = 0 := by decide +kernel
theorem mf14_148 : pm_fnd pm_mth 14 148 = some (1, 234, 1424, 1425, 1426, 86, 1427) := rfl
theorem cc0_234 : pm_fr 234 + 1 ≤ pm_fr 0 ∧ 8 + (pm_ml 234 + 11) + pm_lo 234 ≤ pm_lo 0 ∧ pm_mc 234 = 0 ∧ pm_ms 234 = 0 := by decide +kernel
theorem mf14_149 : pm_fnd pm_mth 14 149 = some (1, 115, 795, 796, 797, 75, 798) := rfl
theorem cc0_115 : pm_fr 115 + 1 ≤ pm_fr 0 ∧ 8 + (pm_ml 115 + 11) + pm_lo 115 ≤ pm_lo 0 ∧ pm_mc 115 = 0 ∧ pm_ms 115 = 0 := by decide +kernel
theorem mf14_152 : pm_fnd pm_mth 14 152 = some (1, 235, 1428, 1429, 1430, 86, 1431) := rfl
theorem cc0_235 : pm_fr 235 + 1 ≤ pm_fr 0 ∧ 8 + (pm_ml 235 + 11) + pm_lo 235 ≤ pm_lo 0 ∧ pm_mc 235 = 0 ∧ pm_ms 235 = 0 := by decide +kernel
theorem mf14_153 : pm_fnd pm_mth 14 153 = some (1, 120, 814, 815, 816, 75, 817) := rfl
theorem cc0_120 : pm_fr 120 + 1 ≤ pm_fr 0 ∧ 8 + (pm_ml 120 + 11) + pm_lo 120 ≤ pm_lo 0 ∧ pm_mc 120 = 0 ∧ pm_ms 120 = 0 := by decide +kernel
theorem mf14_156 : pm_fnd pm_mth 14 156 = some (1, 239, 1443, 1444, 1445, 86, 1446) := rfl
theorem cc0_239 : pm_fr 239 + 1 ≤ pm_fr 0 ∧ 8 + (pm_ml 239 + 11) + pm_lo 239 ≤ pm_lo 0 ∧ pm_mc 239 = 0 ∧ pm_ms 239 = 0 := by decide +kernel
theorem mf14_157 : pm_fnd pm_mth 14 157 = some (1, 121, 818, 819, 820, 75, 821) := rfl
theorem cc0_121 : pm_fr 121 + 1 ≤ pm_fr 0 ∧ 8 + (pm_ml 121 + 11) + pm_lo 121 ≤ pm_lo 0 ∧ pm_mc 121 = 0 ∧ pm_ms 121 = 0 := by decide +kernel
theorem mf14_160 : pm_fnd pm_mth 14 160 = some (1, 240, 1447, 1448, 1449, 86, 1450) := rfl
theorem cc0_240 : pm_fr 240 + 1 ≤ pm_fr 0 ∧ 8 + (pm_ml 240 + 11) + pm_lo 240 ≤ pm_lo 0 ∧ pm_mc 240 = 0 ∧ pm_ms 240 = 0 := by decide +kernel
theorem mf14_161 : pm_fnd pm_mth 14 161 = some (1, 123, 829, 830, 831, 75, 832) := rfl
theorem cc0_123 : pm_fr 123 + 1 ≤ pm_fr 0 ∧ 8 + (pm_ml 123 + 11) + pm_lo 123 ≤ pm_lo 0 ∧ pm_mc 123 = 0 ∧ pm_ms 123 = 0 := by decide +kernel
theorem mf14_164 : pm_fnd pm_mth 14 164 = some (1, 243, 1458, 1459, 1460, 86, 1461) := rfl
theorem cc0_243 : pm_fr 243 + 1 ≤ pm_fr 0 ∧ 8 + (pm_ml 243 + 11) + pm_lo 243 ≤ pm_lo 0 ∧ pm_mc 243 = 0 ∧ pm_ms 243 = 0 := by decide +kernel
theorem mf14_165 : pm_fnd pm_mth 14 165 = some (1, 125, 836, 837, 838, 75, 839) := rfl
theorem cc0_125 : pm_fr 125 + 1 ≤ pm_fr 0 ∧ 8 + (pm_ml 125 + 11) + pm_lo 125 ≤ pm_lo 0 ∧ pm_mc 125 = 0 ∧ pm_ms 125 = 0 := by decide +kernel
theorem mf14_168 : pm_fnd pm_mth 14 168 = some (1, 223, 1380, 1381, 1382, 86, 1383) := rfl
theorem cc0_223 : pm_fr 223 + 1 ≤ pm_fr 0 ∧ 8 + (pm_ml 223 + 11) + pm_lo 223 ≤ pm_lo 0 ∧ pm_mc 223 = 0 ∧ pm_ms 223 = 0 := by decide +kernel
theorem mf14_169 : pm_fnd pm_mth 14 169 = some (1, 126, 840, 841, 842, 75, 843) := rfl
theorem cc0_126 : pm_fr 126 + 1 ≤ pm_fr 0 ∧ 8 + (pm_ml 126 + 11) + pm_lo 126 ≤ pm_lo 0 ∧ pm_mc 126 = 0 ∧ pm_ms 126 = 0 := by decide +kernel
theorem mf14_172 : pm_fnd pm_mth 14 172 = some (1, 224, 1384, 1385, 1386, 86, 1387) := rfl
theorem cc0_224 : pm_fr 224 + 1 ≤ pm_fr 0 ∧ 8 + (pm_ml 224 + 11) + pm_lo 224 ≤ pm_lo 0 ∧ pm_mc 224 = 0 ∧ pm_ms 224 = 0 := by decide +kernel
theorem mf14_173 : pm_fnd pm_mth 14 173 = some (1, 127, 844, 845, 846, 75, 847) := rfl
theorem cc0_127 : pm_fr 127 + 1 ≤ pm_fr 0 ∧ 8 + (pm_ml 127 + 11) + pm_lo 127 ≤ pm_lo 0 ∧ pm_mc 127 = 0 ∧ pm_ms 127 = 0 := by decide +kernel
theorem mf14_176 : pm_fnd pm_mth 14 176 = some (1, 244, 1462, 1463, 1464, 86, 1465) := rfl
theorem cc0_244 : pm_fr 244 + 1 ≤ pm_fr 0 ∧ 8 + (pm_ml 244 + 11) + pm_lo 244 ≤ pm_lo 0 ∧ pm_mc 244 = 0 ∧ pm_ms 244 = 0 := by decide +kernel
theorem mf14_177 : pm_fnd pm_mth 14 177 = some (1, 129, 853, 854, 855, 75, 856) := rfl
theorem cc0_129 : pm_fr 129 + 1 ≤ pm_fr 0 ∧ 8 + (pm_ml 129 + 11) + pm_lo 129 ≤ pm_lo 0 ∧ pm_mc 129 = 0 ∧ pm_ms 129 = 0 := by decide +kernel
theorem mf14_180 : pm_fnd pm_mth 14 180 = some (1, 245, 1466, 1467, 1468, 86, 1469) := rfl
theorem cc0_245 : pm_fr 245 + 1 ≤ pm_fr 0 ∧ 8 + (pm_ml 245 + 11) + pm_lo 245 ≤ pm_lo 0 ∧ pm_mc 245 = 0 ∧ pm_ms 245 = 0 := by decide +kernel
theorem mf14_181 : pm_fnd pm_mth 14 181 = some (1, 134, 873, 874, 875, 75, 876) := rfl
theorem cc0_134 : pm_fr 134 + 1 ≤ pm_fr 0 ∧ 8 + (pm_ml 134 + 11) + pm_lo 134 ≤ pm_lo 0 ∧ pm_mc 134 = 0 ∧ pm_ms 134 = 0 := by decide +kernel
theorem mf14_184 : pm_fnd pm_mth 14 184 = some (1, 157, 1123, 1124, 1125, 86, 1126) := rfl
theorem cc0_157 : pm_fr 157 + 1 ≤ pm_fr 0 ∧ 8 + (pm_ml 157 + 11) + pm_lo 157 ≤ pm_lo 0 ∧ pm_mc 157 = 0 ∧ pm_ms 157 = 0 := by decide +kernel
theorem mf14_185 : pm_fnd pm_mth 14 185 = some (1, 135, 877, 878, 879, 75, 880) := rfl
theorem cc0_135 : pm_fr 135 + 1 ≤ pm_fr 0 ∧ 8 + (pm_ml 135 + 11) + pm_lo 135 ≤ pm_lo 0 ∧ pm_mc 135 = 0 ∧ pm_ms 135 = 0 := by decide +kernel
theorem mf14_189 : pm_fnd pm_mth 14 189 = some (1, 158, 1127, 1128, 1129, 86, 1130) := rfl
theorem cc0_158 : pm_fr 158 + 1 ≤ pm_fr 0 ∧ 8 + (pm_ml 158 + 11) + pm_lo 158 ≤ pm_lo 0 ∧ pm_mc 158 = 0 ∧ pm_ms 158 = 0 := by decide +kernel
theorem mf14_190 : pm_fnd pm_mth 14 190 = some (1, 136, 881, 882, 883, 75, 884) := rfl
theorem cc0_136 : pm_fr 136 + 1 ≤ pm_fr 0 ∧ 8 + (pm_ml 136 + 11) + pm_lo 136 ≤ pm_lo 0 ∧ pm_mc 136 = 0 ∧ pm_ms 136 = 0 := by decide +kernel
theorem mf14_193 : pm_fnd pm_mth 14 193 = some (1, 159, 1131, 1132, 1133, 86, 1134) := rfl
theorem cc0_159 : pm_fr 159 + 1 ≤ pm_fr 0 ∧ 8 + (pm_ml 159 + 11) + pm_lo 159 ≤ pm_lo 0 ∧ pm_mc 159 = 0 ∧ pm_ms 159 = 0 := by decide +kernel
theorem mf14_194 : pm_fnd pm_mth 14 194 = some (1, 137, 885, 886, 887, 75, 888) := rfl
theorem cc0_137 : pm_fr 137 + 1 ≤ pm_fr 0 ∧ 8 + (pm_ml 137 + 11) + pm_lo 137 ≤ pm_lo 0 ∧ pm_mc 137 = 0 ∧ pm_ms 137 = 0 := by decide +kernel
theorem mf14_197 : pm_fnd pm_mth 14 197 = some (1, 248, 1478, 1479, 1480, 86, 1481) := rfl
theorem cc0_248 : pm_fr 248 + 1 ≤ pm_fr 0 ∧ 8 + (pm_ml 248 + 11) + pm_lo 248 ≤ pm_lo 0 ∧ pm_mc 248 = 0 ∧ pm_ms 248 = 0 := by decide +kernel
theorem mf14_198 : pm_fnd pm_mth 14 198 = some (1, 143, 909, 910, 911, 75, 912) := rfl
theorem cc0_143 : pm_fr 143 + 1 ≤ pm_fr 0 ∧ 8 + (pm_ml 143 + 11) + pm_lo 143 ≤ pm_lo 0 ∧ pm_mc 143 = 0 ∧ pm_ms 143 = 0 := by decide +kernel
theorem mf14_201 : pm_fnd pm_mth 14 201 = some (1, 154, 1112, 1113, 1114, 86, 1115) := rfl
theorem cc0_154 : pm_fr 154 + 1 ≤ pm_fr 0 ∧ 8 + (pm_ml 154 + 11) + pm_lo 154 ≤ pm_lo 0 ∧ pm_mc 154 = 0 ∧ pm_ms 154 = 0 := by decide +kernel
theorem mf14_202 : pm_fnd pm_mth 14 202 = some (1, 144, 913, 914, 915, 75, 916) := rfl
theorem cc0_144 : pm_fr 144 + 1 ≤ pm_fr 0 ∧ 8 + (pm_ml 144 + 11) + pm_lo 144 ≤ pm_lo 0 ∧ pm_mc 144 = 0 ∧ pm_ms 144 = 0 := by decide +kernel
theorem mf14_205 : pm_fnd pm_mth 14 205 = some (1, 155, 1116, 1117, 1118, 86, 1119) := rfl
theorem cc0_155 : pm_fr 155 + 1 ≤ pm_fr 0 ∧ 8 + (pm_ml 155 + 11) + pm_lo 155 ≤ pm_lo 0 ∧ pm_mc 155 = 0 ∧ pm_ms 155 = 0 := by decide +kernel
theorem mf14_206 : pm_fnd pm_mth 14 206 = some (1, 145, 917, 918, 919, 75, 920) := rfl
theorem cc0_145 : pm_fr 145 + 1 ≤ pm_fr 0 ∧ 8 + (pm_ml 145 + 11) + pm_lo 145 ≤ pm_lo 0 ∧ pm_mc 145 = 0 ∧ pm_ms 145 = 0 := by decide +kernel
theorem mf14_209 : pm_fnd pm_mth 14 209 = some (1, 250, 1486, 1487, 1488, 86, 1489) := rfl
theorem cc0_250 : pm_fr 250 + 1 ≤ pm_fr 0 ∧ 8 + (pm_ml 250 + 11) + pm_lo 250 ≤ pm_lo 0 ∧ pm_mc 250 = 0 ∧ pm_ms 250 = 0 := by decide +kernel
theorem mf10_110 : pm_fnd pm_mth 10 110 = some (0, 13, 378, 379, 0, 75, 380) := rfl
theorem cc12_13 : pm_fr 13 + 1 ≤ pm_fr 12 ∧ 8 + (pm_ml 13 + 11) + pm_lo 13 ≤ pm_lo 12 ∧ pm_mc 13 = 0 ∧ pm_ms 13 = 0 := by decide +kernel
theorem mf10_114 : pm_fnd pm_mth 10 114 = some (1, 14, 381, 383, 0, 75, 384) := rfl
theorem cc12_14 : pm_fr 14 + 1 ≤ pm_fr 12 ∧ 8 + (pm_ml 14 + 11) + pm_lo 14 ≤ pm_lo 12 ∧ pm_mc 14 = 0 ∧ pm_ms 14 = 0 := by decide +kernel
theorem fl10_11 : pm_fnd pm_fl 10 11 = some (10, 0, 316) := by decide +kernel
theorem mf10_118 : pm_fnd pm_mth 10 118 = some (1, 15, 385, 386, 387, 76, 388) := rfl
theorem cc12_15 : pm_fr 15 + 1 ≤ pm_fr 12 ∧ 8 + (pm_ml 15 + 11) + pm_lo 15 ≤ pm_lo 12 ∧ pm_mc 15 = 0 ∧ pm_ms 15 = 0 := by decide +kernel
theorem fl10_96 : pm_fnd pm_fl 10 96 = some (10, 15, 331) := by decide +kernel
theorem fl10_93 : pm_fnd pm_fl 10 93 = some (10, 14, 330) := by decide +kernel
theorem fl5_9 : pm_fnd pm_fl 5 9 = some (5, 0, 105) := by decide +kernel
theorem fl5_15 : pm_fnd pm_fl 5 15 = some (5, 1, 109) := by decide +kernel
theorem mf10_122 : pm_fnd pm_mth 10 122 = some (1, 17, 393, 395, 1, 75, 396) := rfl
theorem cc16_17 : pm_fr 17 + 1 ≤ pm_fr 16 ∧ 8 + (pm_ml 17 + 11) + pm_lo 17 ≤ pm_lo 16 ∧ pm_mc 17 = 0 ∧ pm_ms 17 = 0 := by decide +kernel
theorem fl10_126 : pm_fnd pm_fl 10 126 = some (5, 1, 110) := by decide +kernel
theorem fl10_100 : pm_fnd pm_fl 10 100 = some (10, 16, 332) := by decide +kernel
theorem cc17_13 : pm_fr 13 + 1 ≤ pm_fr 17 ∧ 8 + (pm_ml 13 + 11) + pm_lo 13 ≤ pm_lo 17 ∧ pm_mc 13 = 0 ∧ pm_ms 13 = 0 := by decide +kernel
theorem mf10_129 : pm_fnd pm_mth 10 129 = some (1, 18, 397, 398, 399, 76, 400) := rfl
theorem cc17_18 : pm_fr 18 + 1 ≤ pm_fr 17 ∧ 8 + (pm_ml 18 + 11) + pm_lo 18 ≤ pm_lo 17 ∧ pm_mc 18 = 0 ∧ pm_ms 18 = 0 := by decide +kernel
theorem cc17_14 : pm_fr 14 + 1 ≤ pm_fr 17 ∧ 8 + (pm_ml 14 + 11) + pm_lo 14 ≤ pm_lo 17 ∧ pm_mc 14 = 0 ∧ pm_ms 14 = 0 := by decide +kernel
theorem fl10_133 : pm_fnd pm_fl 10 133 = some (5, 0, 108) := by decide +kernel
theorem cc19_17 : pm_fr 17 + 1 ≤ pm_fr 19 ∧ 8 + (pm_ml 17 + 11) + pm_lo 17 ≤ pm_lo 19 ∧ pm_mc 17 = 0 ∧ pm_ms 17 = 0 := by decide +kernel
theorem cc20_13 : pm_fr 13 + 1 ≤ pm_fr 20 ∧ 8 + (pm_ml 13 + 11) + pm_lo 13 ≤ pm_lo 20 ∧ pm_mc 13 = 0 ∧ pm_ms 13 = 0 := by decide +kernel
theorem cc20_18 : pm_fr 18 + 1 ≤ pm_fr 20 ∧ 8 + (pm_ml 18 + 11) + pm_lo 18 ≤ pm_lo 20 ∧ pm_mc 18 = 0 ∧ pm_ms 18 = 0 := by decide +kernel
theorem cc20_14 : pm_fr 14 + 1 ≤ pm_fr 20 ∧ 8 + (pm_ml 14 + 11) + pm_lo 14 ≤ pm_lo 20 ∧ pm_mc 14 = 0 ∧ pm_ms 14 = 0 := by decide +kernel
theorem cc21_13 : pm_fr 13 + 1 ≤ pm_fr 21 ∧ 8 + (pm_ml 13 + 11) + pm_lo 13 ≤ pm_lo 21 ∧ pm_mc 13 = 0 ∧ pm_ms 13 = 0 := by decide +kernel
theorem cc21_14 : pm_fr 14 + 1 ≤ pm_fr 21 ∧ 8 + (pm_ml 14 + 11) + pm_lo 14 ≤ pm_lo 21 ∧ pm_mc 14 = 0 ∧ pm_ms 14 = 0 := by decide +kernel
theorem cc21_18 : pm_fr 18 + 1 ≤ pm_fr 21 ∧ 8 + (pm_ml 18 + 11) + pm_lo 18 ≤ pm_lo 21 ∧ pm_mc 18 = 0 ∧ pm_ms 18 = 0 := by decide +kernel
theorem mf10_136 : pm_fnd pm_mth 10 136 = some (1, 22, 413, 414, 415, 76, 416) := rfl
theorem cc21_22 : pm_fr 22 + 1 ≤ pm_fr 21 ∧ 8 + (pm_ml 22 + 11) + pm_lo 22 ≤ pm_lo 21 ∧ pm_mc 22 = 0 ∧ pm_ms 22 = 0 := by decide +kernel
theorem mf10_139 : pm_fnd pm_mth 10 139 = some (5, 0, 417, 419, 418, 87, 0) := rfl
theorem cc23_13 : pm_fr 13 + 1 ≤ pm_fr 23 ∧ 8 + (pm_ml 13 + 11) + pm_lo 13 ≤ pm_lo 23 ∧ pm_mc 13 = 0 ∧ pm_ms 13 = 0 := by decide +kernel
theorem cc23_18 : pm_fr 18 + 1 ≤ pm_fr 23 ∧ 8 + (pm_ml 18 + 11) + pm_lo 18 ≤ pm_lo 23 ∧ pm_mc 18 = 0 ∧ pm_ms 18 = 0 := by decide +kernel
theorem cc23_14 : pm_fr 14 + 1 ≤ pm_fr 23 ∧ 8 + (pm_ml 14 + 11) + pm_lo 14 ≤ pm_lo 23 ∧ pm_mc 14 = 0 ∧ pm_ms 14 = 0 := by decide +kernel
theorem mf10_145 : pm_fnd pm_mth 10 145 = some (1, 24, 424, 425, 426, 76, 427) := rfl
theorem cc23_24 : pm_fr 24 + 1 ≤ pm_fr 23 ∧ 8 + (pm_ml 24 + 11) + pm_lo 24 ≤ pm_lo 23 ∧ pm_mc 24 = 0 ∧ pm_ms 24 = 0 := by decide +kernel
theorem cc25_13 : pm_fr 13 + 1 ≤ pm_fr 25 ∧ 8 + (pm_ml 13 + 11) + pm_lo 13 ≤ pm_lo 25 ∧ pm_mc 13 = 0 ∧ pm_ms 13 = 0 := by decide +kernel
theorem cc25_14 : pm_fr 14 + 1 ≤ pm_fr 25 ∧ 8 + (pm_ml 14 + 11) + pm_lo 14 ≤ pm_lo 25 ∧ pm_mc 14 = 0 ∧ pm_ms 14 = 0 := by decide +kernel
theorem fl10_18 : pm_fnd pm_fl 10 18 = some (10, 1, 317) := by decide +kernel
theorem mf10_149 : pm_fnd pm_mth 10 149 = some (1, 26, 432, 433, 434, 77, 435) := rfl
theorem cc25_26 : pm_fr 26 + 1 ≤ pm_fr 25 ∧ 8 + (pm_ml 26 + 11) + pm_lo 26 ≤ pm_lo 25 ∧ pm_mc 26 = 0 ∧ pm_ms 26 = 0 := by decide +kernel
theorem fl9_9 : pm_fnd pm_fl 9 9 = some (9, 0, 126) := by decide +kernel
theorem fl9_15 : pm_fnd pm_fl 9 15 = some (9, 1, 129) := by decide +kernel
theorem cc27_13 : pm_fr 13 + 1 ≤ pm_fr 27 ∧ 8 + (pm_ml 13 + 11) + pm_lo 13 ≤ pm_lo 27 ∧ pm_mc 13 = 0 ∧ pm_ms 13 = 0 := by decide +kernel
theorem mf10_150 : pm_fnd pm_mth 10 150 = some (1, 28, 440, 441, 442, 77, 443) := rfl
theorem cc27_28 : pm_fr 28 + 1 ≤ pm_fr 27 ∧ 8 + (pm_ml 28 + 11) + pm_lo 28 ≤ pm_lo 27 ∧ pm_mc 28 = 0 ∧ pm_ms 28 = 0 := by decide +kernel
theorem cc27_14 : pm_fr 14 + 1 ≤ pm_fr 27 ∧ 8 + (pm_ml 14 + 11) + pm_lo 14 ≤ pm_lo 27 ∧ pm_mc 14 = 0 ∧ pm_ms 14 = 0 := by decide +kernel
theorem fl10_151 : pm_fnd pm_fl 10 151 = some (9, 0, 128) := by decide +kernel
theorem fl10_152 : pm_fnd pm_fl 10 152 = some (9, 1, 131) := by decide +kernel
theorem cc29_13 : pm_fr 13 + 1 ≤ pm_fr 29 ∧ 8 + (pm_ml 13 + 11) + pm_lo 13 ≤ pm_lo 29 ∧ pm_mc 13 = 0 ∧ pm_ms 13 = 0 := by decide +kernel
theorem cc29_28 : pm_fr 28 + 1 ≤ pm_fr 29 ∧ 8 + (pm_ml 28 + 11) + pm_lo 28 ≤ pm_lo 29 ∧ pm_mc 28 = 0 ∧ pm_ms 28 = 0 := by decide +kernel
theorem cc29_14 : pm_fr 14 + 1 ≤ pm_fr 29 ∧ 8 + (pm_ml 14 + 11) + pm_lo 14 ≤ pm_lo 29 ∧ pm_mc 14 = 0 ∧ pm_ms 14 = 0 := by decide +kernel
theorem fl10_61 : pm_fnd pm_fl 10 61 = some (10, 8, 324) := by decide +kernel
theorem mf10_156 : pm_fnd pm_mth 10 156 = some (1, 30, 448, 449, 450, 82, 451) := rfl
theorem cc29_30 : pm_fr 30 + 1 ≤ pm_fr 29 ∧ 8 + (pm_ml 30 + 11) + pm_lo 30 ≤ pm_lo 29 ∧ pm_mc 30 = 0 ∧ pm_ms 30 = 0 := by decide +kernel
theorem mf10_160 : pm_fnd pm_mth 10 160 = some (1, 40, 488, 489, 490, 82, 491) := rfl
theorem cc29_40 : pm_fr 40 + 1 ≤ pm_fr 29 ∧ 8 + (pm_ml 40 + 11) + pm_lo 40 ≤ pm_lo 29 ∧ pm_mc 40 = 0 ∧ pm_ms 40 = 0 := by decide +kernel
theorem mf3_37 : pm_fnd pm_mth 3 37 = some (1, 31, 452, 454, 2, 82, 455) := rfl
theorem cc30_31 : pm_fr 31 + 1 ≤ pm_fr 30 ∧ 8 + (pm_ml 31 + 11) + pm_lo 31 ≤ pm_lo 30 ∧ pm_mc 31 = 0 ∧ pm_ms 31 = 0 := by decide +kernel
theorem mf3_56 : pm_fnd pm_mth 3 56 = some (1, 32, 456, 458, 3, 82, 459) := rfl
theorem cc30_32 : pm_fr 32 + 1 ≤ pm_fr 30 ∧ 8 + (pm_ml 32 + 11) + pm_lo 32 ≤ pm_lo 30 ∧ pm_mc 32 = 0 ∧ pm_ms 32 = 0 := by decide +kernel
theorem mf3_59 : pm_fnd pm_mth 3 59 = some (1, 34, 464, 466, 5, 82, 467) := rfl
theorem cc30_34 : pm_fr 34 + 1 ≤ pm_fr 30 ∧ 8 + (pm_ml 34 + 11) + pm_lo 34 ≤ pm_lo 30 ∧ pm_mc 34 = 0 ∧ pm_ms 34 = 0 := by decide +kernel
theorem mf3_63 : pm_fnd pm_mth 3 63 = some (1, 35, 468, 470, 6, 82, 471) := rfl
theorem cc30_35 : pm_fr 35 + 1 ≤ pm_fr 30 ∧ 8 + (pm_ml 35 + 11) + pm_lo 35 ≤ pm_lo 30 ∧ pm_mc 35 = 0 ∧ pm_ms 35 = 0 := by decide +kernel
theorem fl3_33 : pm_fnd pm_fl 3 33 = some (3, 4, 236) := by decide +kernel
theorem fl3_29 : pm_fnd pm_fl 3 29 = some (3, 3, 235) := by decide +kernel
theorem fl3_21 : pm_fnd pm_fl 3 21 = some (3, 1, 232) := by decide +kernel
theorem mf3_67 : pm_fnd pm_mth 3 67 = some (1, 38, 480, 481, 482, 79, 483) := rfl
theorem cc30_38 : pm_fr 38 + 1 ≤ pm_fr 30 ∧ 8 + (pm_ml 38 + 11) + pm_lo 38 ≤ pm_lo 30 ∧ pm_mc 38 = 0 ∧ pm_ms 38 = 0 := by decide +kernel
theorem mf3_44 : pm_fnd pm_mth 3 44 = some (1, 39, 484, 486, 9, 82, 487) := rfl
theorem cc30_39 : pm_fr 39 + 1 ≤ pm_fr 30 ∧ 8 + (pm_ml 39 + 11) + pm_lo 39 ≤ pm_lo 30 ∧ pm_mc 39 = 0 ∧ pm_ms 39 = 0 := by decide +kernel
theorem mf3_69 : pm_fnd pm_mth 3 69 = some (1, 36, 472, 474, 7, 82, 475) := rfl
theorem cc30_36 : pm_fr 36 + 1 ≤ pm_fr 30 ∧ 8 + (pm_ml 36 + 11) + pm_lo 36 ≤ pm_lo 30 ∧ pm_mc 36 = 0 ∧ pm_ms 36 = 0 := by decide +kernel
theorem fl3_72 : pm_fnd pm_fl 3 72 = some (2, 1, 169) := by decide +kernel
theorem fl3_25 : pm_fnd pm_fl 3 25 = some (3, 2, 234) := by decide +kernel
theorem mf3_82 : pm_fnd pm_mth 3 82 = some (1, 33, 460, 462, 4, 82, 463) := rfl
theorem cc32_33 : pm_fr 33 + 1 ≤ pm_fr 32 ∧ 8 + (pm_ml 33 + 11) + pm_lo 33 ≤ pm_lo 32 ∧ pm_mc 33 = 0 ∧ pm_ms 33 = 0 := by decide +kernel
theorem fl3_75 : pm_fnd pm_fl 3 75 = some (9, 0, 127) := by decide +kernel
theorem fl3_78 : pm_fnd pm_fl 3 78 = some (9, 1, 130) := by decide +kernel
theorem cc34_33 : pm_fr 33 + 1 ≤ pm_fr 34 ∧ 8 + (pm_ml 33 + 11) + pm_lo 33 ≤ pm_lo 34 ∧ pm_mc 33 = 0 ∧ pm_ms 33 = 0 := by decide +kernel
theorem cc35_36 : pm_fr 36 + 1 ≤ pm_fr 35 ∧ 8 + (pm_ml 36 + 11) + pm_lo 36 ≤ pm_lo 35 ∧ pm_mc 36 = 0 ∧ pm_ms 36 = 0 := by decide +kernel
theorem mf3_88 : pm_fnd pm_mth 3 88 = some (1, 37, 476, 478, 8, 82, 479) := rfl
theorem cc35_37 : pm_fr 37 + 1 ≤ pm_fr 35 ∧ 8 + (pm_ml 37 + 11) + pm_lo 37 ≤ pm_lo 35 ∧ pm_mc 37 = 0 ∧ pm_ms 37 = 0 := by decide +kernel
theorem cc36_33 : pm_fr 33 + 1 ≤ pm_fr 36 ∧ 8 + (pm_ml 33 + 11) + pm_lo 33 ≤ pm_lo 36 ∧ pm_mc 33 = 0 ∧ pm_ms 33 = 0 := by decide +kernel
theorem cc36_37 : pm_fr 37 + 1 ≤ pm_fr 36 ∧ 8 + (pm_ml 37 + 11) + pm_lo 37 ≤ pm_lo 36 ∧ pm_mc 37 = 0 ∧ pm_ms 37 = 0 := by decide +kernel
theorem cc37_33 : pm_fr 33 + 1 ≤ pm_fr 37 ∧ 8 + (pm_ml 33 + 11) + pm_lo 33 ≤ pm_lo 37 ∧ pm_mc 33 = 0 ∧ pm_ms 33 = 0 := by decide +kernel
theorem fl2_9 : pm_fnd pm_fl 2 9 = some (2, 0, 163) := by decide +kernel
theorem fl2_15 : pm_fnd pm_fl 2 15 = some (2, 1, 168) := by decide +kernel
theorem cc39_32 : pm_fr 32 + 1 ≤ pm_fr 39 ∧ 8 + (pm_ml 32 + 11) + pm_lo 32 ≤ pm_lo 39 ∧ pm_mc 32 = 0 ∧ pm_ms 32 = 0 := by decide +kernel
theorem cc40_31 : pm_fr 31 + 1 ≤ pm_fr 40 ∧ 8 + (pm_ml 31 + 11) + pm_lo 31 ≤ pm_lo 40 ∧ pm_mc 31 = 0 ∧ pm_ms 31 = 0 := by decide +kernel
theorem fl3_12 : pm_fnd pm_fl 3 12 = some (3, 0, 230) := by decide +kernel
theorem fl3_41 : pm_fnd pm_fl 3 41 = some (6, 0, 146) := by decide +kernel
theorem cc40_39 : pm_fr 39 + 1 ≤ pm_fr 40 ∧ 8 + (pm_ml 39 + 11) + pm_lo 39 ≤ pm_lo 40 ∧ pm_mc 39 = 0 ∧ pm_ms 39 = 0 := by decide +kernel
theorem mf3_48 : pm_fnd pm_mth 3 48 = some (1, 41, 492, 494, 10, 82, 495) := rfl
theorem cc40_41 : pm_fr 41 + 1 ≤ pm_fr 40 ∧ 8 + (pm_ml 41 + 11) + pm_lo 41 ≤ pm_lo 40 ∧ pm_mc 41 = 0 ∧ pm_ms 41 = 0 := by decide +kernel
theorem fl3_52 : pm_fnd pm_fl 3 52 = some (6, 1, 149) := by decide +kernel
theorem cc41_33 : pm_fr 33 + 1 ≤ pm_fr 41 ∧ 8 + (pm_ml 33 + 11) + pm_lo 33 ≤ pm_lo 41 ∧ pm_mc 33 = 0 ∧ pm_ms 33 = 0 := by decide +kernel
theorem cc41_36 : pm_fr 36 + 1 ≤ pm_fr 41 ∧ 8 + (pm_ml 36 + 11) + pm_lo 36 ≤ pm_lo 41 ∧ pm_mc 36 = 0 ∧ pm_ms 36 = 0 := by decide +kernel
theorem mf3_85 : pm_fnd pm_mth 3 85 = some (1, 42, 496, 498, 11, 82, 499) := rfl
theorem cc41_42 : pm_fr 42 + 1 ≤ pm_fr 41 ∧ 8 + (pm_ml 42 + 11) + pm_lo 42 ≤ pm_lo 41 ∧ pm_mc 42 = 0 ∧ pm_ms 42 = 0 := by decide +kernel
theorem cc42_36 : pm_fr 36 + 1 ≤ pm_fr 42 ∧ 8 + (pm_ml 36 + 11) + pm_lo 36 ≤ pm_lo 42 ∧ pm_mc 36 = 0 ∧ pm_ms 36 = 0 := by decide +kernel
theorem cc42_34 : pm_fr 34 + 1 ≤ pm_fr 42 ∧ 8 + (pm_ml 34 + 11) + pm_lo 34 ≤ pm_lo 42 ∧ pm_mc 34 = 0 ∧ pm_ms 34 = 0 := by decide +kernel
theorem cc43_13 : pm_fr 13 + 1 ≤ pm_fr 43 ∧ 8 + (pm_ml 13 + 11) + pm_lo 13 ≤ pm_lo 43 ∧ pm_mc 13 = 0 ∧ pm_ms 13 = 0 := by decide +kernel
theorem cc43_28 : pm_fr 28 + 1 ≤ pm_fr 43 ∧ 8 + (pm_ml 28 + 11) + pm_lo 28 ≤ pm_lo 43 ∧ pm_mc 28 = 0 ∧ pm_ms 28 = 0 := by decide +kernel
theorem cc43_14 : pm_fr 14 + 1 ≤ pm_fr 43 ∧ 8 + (pm_ml 14 + 11) + pm_lo 14 ≤ pm_lo 43 ∧ pm_mc 14 = 0 ∧ pm_ms 14 = 0 := by decide +kernel
theorem cc43_40 : pm_fr 40 + 1 ≤ pm_fr 43 ∧ 8 + (pm_ml 40 + 11) + pm_lo 40 ≤ pm_lo 43 ∧ pm_mc 40 = 0 ∧ pm_ms 40 = 0 := by decide +kernel
theorem fl10_25 : pm_fnd pm_fl 10 25 = some (10, 2, 318) := by decide +kernel
theorem fl10_163 : pm_fnd pm_fl 10 163 = some (3, 0, 231) := by decide +kernel
theorem mf10_167 : pm_fnd pm_mth 10 167 = some (1, 44, 504, 505, 506, 78, 507) := rfl
theorem cc43_44 : pm_fr 44 + 1 ≤ pm_fr 43 ∧ 8 + (pm_ml 44 + 11) + pm_lo 44 ≤ pm_lo 43 ∧ pm_mc 44 = 0 ∧ pm_ms 44 = 0 := by decide +kernel
theorem fl10_171 : pm_fnd pm_fl 10 171 = some (6, 0, 147) := by decide +kernel
theorem fl6_9 : pm_fnd pm_fl 6 9 = some (6, 0, 145) := by decide +kernel
theorem fl6_15 : pm_fnd pm_fl 6 15 = some (6, 1, 148) := by decide +kernel
theorem cc45_13 : pm_fr 13 + 1 ≤ pm_fr 45 ∧ 8 + (pm_ml 13 + 11) + pm_lo 13 ≤ pm_lo 45 ∧ pm_mc 13 = 0 ∧ pm_ms 13 = 0 := by decide +kernel
theorem mf10_172 : pm_fnd pm_mth 10 172 = some (1, 46, 512, 513, 514, 78, 515) := rfl
theorem cc45_46 : pm_fr 46 + 1 ≤ pm_fr 45 ∧ 8 + (pm_ml 46 + 11) + pm_lo 46 ≤ pm_lo 45 ∧ pm_mc 46 = 0 ∧ pm_ms 46 = 0 := by decide +kernel
theorem cc47_13 : pm_fr 13 + 1 ≤ pm_fr 47 ∧ 8 + (pm_ml 13 + 11) + pm_lo 13 ≤ pm_lo 47 ∧ pm_mc 13 = 0 ∧ pm_ms 13 = 0 := by decide +kernel
theorem cc47_28 : pm_fr 28 + 1 ≤ pm_fr 47 ∧ 8 + (pm_ml 28 + 11) + pm_lo 28 ≤ pm_lo 47 ∧ pm_mc 28 = 0 ∧ pm_ms 28 = 0 := by decide +kernel
theorem cc47_14 : pm_fr 14 + 1 ≤ pm_fr 47 ∧ 8 + (pm_ml 14 + 11) + pm_lo 14 ≤ pm_lo 47 ∧ pm_mc 14 = 0 ∧ pm_ms 14 = 0 := by decide +kernel
theorem cc47_30 : pm_fr 30 + 1 ≤ pm_fr 47 ∧ 8 + (pm_ml 30 + 11) + pm_lo 30 ≤ pm_lo 47 ∧ pm_mc 30 = 0 ∧ pm_ms 30 = 0 := by decide +kernel
theorem fl10_32 : pm_fnd pm_fl 10 32 = some (10, 3, 319) := by decide +kernel
theorem fl10_175 : pm_fnd pm_fl 10 175 = some (3, 1, 233) := by decide +kernel
theorem mf10_179 : pm_fnd pm_mth 10 179 = some (1, 48, 520, 521, 522, 79, 523) := rfl
theorem cc47_48 : pm_fr 48 + 1 ≤ pm_fr 47 ∧ 8 + (pm_ml 48 + 11) + pm_lo 48 ≤ pm_lo 47 ∧ pm_mc 48 = 0 ∧ pm_ms 48 = 0 := by decide +kernel
theorem mf10_182 : pm_fnd pm_mth 10 182 = some (1, 49, 524, 525, 526, 79, 527) := rfl
theorem cc47_49 : pm_fr 49 + 1 ≤ pm_fr 47 ∧ 8 + (pm_ml 49 + 11) + pm_lo 49 ≤ pm_lo 47 ∧ pm_mc 49 = 0 ∧ pm_ms 49 = 0 := by decide +kernel
theorem mf2_37 : pm_fnd pm_mth 2 37 = some (1, 50, 528, 529, 530, 79, 531) := rfl
theorem cc49_50 : pm_fr 50 + 1 ≤ pm_fr 49 ∧ 8 + (pm_ml 50 + 11) + pm_lo 50 ≤ pm_lo 49 ∧ pm_mc 50 = 0 ∧ pm_ms 50 = 0 := by decide +kernel
theorem mf10_186 : pm_fnd pm_mth 10 186 = some (1, 52, 536, 538, 12, 75, 539) := rfl
theorem cc51_52 : pm_fr 52 + 1 ≤ pm_fr 51 ∧ 8 + (pm_ml 52 + 11) + pm_lo 52 ≤ pm_lo 51 ∧ pm_mc 52 = 0 ∧ pm_ms 52 = 0 := by decide +kernel
theorem fl10_189 : pm_fnd pm_fl 10 189 = some (6, 1, 150) := by decide +kernel
theorem mf10_192 : pm_fnd pm_mth 10 192 = some (0, 54, 544, 545, 0, 75, 546) := rfl
theorem cc51_54 : pm_fr 54 + 1 ≤ pm_fr 51 ∧ 8 + (pm_ml 54 + 11) + pm_lo 54 ≤ pm_lo 51 ∧ pm_mc 54 = 0 ∧ pm_ms 54 = 0 := by decide +kernel
theorem cc52_13 : pm_fr 13 + 1 ≤ pm_fr 52 ∧ 8 + (pm_ml 13 + 11) + pm_lo 13 ≤ pm_lo 52 ∧ pm_mc 13 = 0 ∧ pm_ms 13 = 0 := by decide +kernel
theorem mf10_208 : pm_fnd pm_mth 10 208 = some (1, 53, 540, 541, 542, 78, 543) := rfl
theorem cc52_53 : pm_fr 53 + 1 ≤ pm_fr 52 ∧ 8 + (pm_ml 53 + 11) + pm_lo 53 ≤ pm_lo 52 ∧ pm_mc 53 = 0 ∧ pm_ms 53 = 0 := by decide +kernel
theorem cc52_14 : pm_fr 14 + 1 ≤ pm_fr 52 ∧ 8 + (pm_ml 14 + 11) + pm_lo 14 ≤ pm_lo 52 ∧ pm_mc 14 = 0 ∧ pm_ms 14 = 0 := by decide +kernel
theorem cc55_52 : pm_fr 52 + 1 ≤ pm_fr 55 ∧ 8 + (pm_ml 52 + 11) + pm_lo 52 ≤ pm_lo 55 ∧ pm_mc 52 = 0 ∧ pm_ms 52 = 0 := by decide +kernel
theorem mf10_195 : pm_fnd pm_mth 10 195 = some (0, 56, 551, 552, 0, 75, 553) := rfl
theorem cc55_56 : pm_fr 56 + 1 ≤ pm_fr 55 ∧ 8 + (pm_ml 56 + 11) + pm_lo 56 ≤ pm_lo 55 ∧ pm_mc 56 = 0 ∧ pm_ms 56 = 0 := by decide +kernel
theorem cc55_14 : pm_fr 14 + 1 ≤ pm_fr 55 ∧ 8 + (pm_ml 14 + 11) + pm_lo 14 ≤ pm_lo 55 ∧ pm_mc 14 = 0 ∧ pm_ms 14 = 0 := by decide +kernel
theorem mf10_198 : pm_fnd pm_mth 10 198 = some (0, 57, 554, 555, 0, 75, 556) := rfl
theorem cc55_57 : pm_fr 57 + 1 ≤ pm_fr 55 ∧ 8 + (pm_ml 57 + 11) + pm_lo 57 ≤ pm_lo 55 ∧ pm_mc 57 = 0 ∧ pm_ms 57 = 0 := by decide +kernel
theorem cc56_54 : pm_fr 54 + 1 ≤ pm_fr 56 ∧ 8 + (pm_ml 54 + 11) + pm_lo 54 ≤ pm_lo 56 ∧ pm_mc 54 = 0 ∧ pm_ms 54 = 0 := by decide +kernel
theorem mf10_399 : pm_fnd pm_mth 10 399 = some (0, 58, 557, 558, 0, 75, 559) := rfl
theorem cc57_58 : pm_fr 58 + 1 ≤ pm_fr 57 ∧ 8 + (pm_ml 58 + 11) + pm_lo 58 ≤ pm_lo 57 ∧ pm_mc 58 = 0 ∧ pm_ms 58 = 0 := by decide +kernel
theorem mf10_402 : pm_fnd pm_mth 10 402 = some (0, 59, 560, 561, 0, 75, 562) := rfl
theorem cc57_59 : pm_fr 59 + 1 ≤ pm_fr 57 ∧ 8 + (pm_ml 59 + 11) + pm_lo 59 ≤ pm_lo 57 ∧ pm_mc 59 = 0 ∧ pm_ms 59 = 0 := by decide +kernel
theorem mf10_405 : pm_fnd pm_mth 10 405 = some (0, 60, 563, 564, 0, 75, 565) := rfl
theorem cc57_60 : pm_fr 60 + 1 ≤ pm_fr 57 ∧ 8 + (pm_ml 60 + 11) + pm_lo 60 ≤ pm_lo 57 ∧ pm_mc 60 = 0 ∧ pm_ms 60 = 0 := by decide +kernel
theorem mf10_408 : pm_fnd pm_mth 10 408 = some (0, 61, 566, 567, 0, 75, 568) := rfl
theorem cc57_61 : pm_fr 61 + 1 ≤ pm_fr 57 ∧ 8 + (pm_ml 61 + 11) + pm_lo 61 ≤ pm_lo 57 ∧ pm_mc 61 = 0 ∧ pm_ms 61 = 0 := by decide +kernel
theorem cc62_13 : pm_fr 13 + 1 ≤ pm_fr 62 ∧ 8 + (pm_ml 13 + 11) + pm_lo 13 ≤ pm_lo 62 ∧ pm_mc 13 = 0 ∧ pm_ms 13 = 0 := by decide +kernel
theorem mf10_201 : pm_fnd pm_mth 10 201 = some (1, 63, 573, 574, 575, 79, 576) := rfl
theorem cc62_63 : pm_fr 63 + 1 ≤ pm_fr 62 ∧ 8 + (pm_ml 63 + 11) + pm_lo 63 ≤ pm_lo 62 ∧ pm_mc 63 = 0 ∧ pm_ms 63 = 0 := by decide +kernel
theorem cc62_14 : pm_fr 14 + 1 ≤ pm_fr 62 ∧ 8 + (pm_ml 14 + 11) + pm_lo 14 ≤ pm_lo 62 ∧ pm_mc 14 = 0 ∧ pm_ms 14 = 0 := by decide +kernel
theorem mf10_202 : pm_fnd pm_mth 10 202 = some (1, 64, 577, 578, 579, 79, 580) := rfl
theorem cc62_64 : pm_fr 64 + 1 ≤ pm_fr 62 ∧ 8 + (pm_ml 64 + 11) + pm_lo 64 ≤ pm_lo 62 ∧ pm_mc 64 = 0 ∧ pm_ms 64 = 0 := by decide +kernel
theorem fl10_205 : pm_fnd pm_fl 10 205 = some (2, 1, 171) := by decide +kernel
theorem cc64_50 : pm_fr 50 + 1 ≤ pm_fr 64 ∧ 8 + (pm_ml 50 + 11) + pm_lo 50 ≤ pm_lo 64 ∧ pm_mc 50 = 0 ∧ pm_ms 50 = 0 := by decide +kernel
theorem cc65_13 : pm_fr 13 + 1 ≤ pm_fr 65 ∧ 8 + (pm_ml 13 + 11) + pm_lo 13 ≤ pm_lo 65 ∧ pm_mc 13 = 0 ∧ pm_ms 13 = 0 := by decide +kernel
theorem cc65_53 : pm_fr 53 + 1 ≤ pm_fr 65 ∧ 8 + (pm_ml 53 + 11) + pm_lo 53 ≤ pm_lo 65 ∧ pm_mc 53 = 0 ∧ pm_ms 53 = 0 := by decide +kernel
theorem cc65_18 : pm_fr 18 + 1 ≤ pm_fr 65 ∧ 8 + (pm_ml 18 + 11) + pm_lo 18 ≤ pm_lo 65 ∧ pm_mc 18 = 0 ∧ pm_ms 18 = 0 := by decide +kernel
theorem cc65_14 : pm_fr 14 + 1 ≤ pm_fr 65 ∧ 8 + (pm_ml 14 + 11) + pm_lo 14 ≤ pm_lo 65 ∧ pm_mc 14 = 0 ∧ pm_ms 14 = 0 := by decide +kernel
theorem mf10_209 : pm_fnd pm_mth 10 209 = some (1, 66, 585, 586, 587, 76, 588) := rfl
theorem cc65_66 : pm_fr 66 + 1 ≤ pm_fr 65 ∧ 8 + (pm_ml 66 + 11) + pm_lo 66 ≤ pm_lo 65 ∧ pm_mc 66 = 0 ∧ pm_ms 66 = 0 := by decide +kernel
theorem mf10_212 : pm_fnd pm_mth 10 212 = some (1, 67, 590, 591, 592, 78, 593) := rfl
theorem cc65_67 : pm_fr 67 + 1 ≤ pm_fr 65 ∧ 8 + (pm_ml 67 + 11) + pm_lo 67 ≤ pm_lo 65 ∧ pm_mc 67 = 0 ∧ pm_ms 67 = 0 := by decide +kernel
theorem mf10_216 : pm_fnd pm_mth 10 216 = some (1, 69, 597, 598, 599, 78, 600) := rfl
theorem cc65_69 : pm_fr 69 + 1 ≤ pm_fr 65 ∧ 8 + (pm_ml 69 + 11) + pm_lo 69 ≤ pm_lo 65 ∧ pm_mc 69 = 0 ∧ pm_ms 69 = 0 := by decide +kernel
theorem mf5_19 : pm_fnd pm_mth 5 19 = some (3, 13, 589, 379, 0, 75, 380) := rfl
theorem cc66_13 : pm_fr 13 + 1 ≤ pm_fr 66 ∧ 8 + (pm_ml 13 + 11) + pm_lo 13 ≤ pm_lo 66 ∧ pm_mc 13 = 0 ∧ pm_ms 13 = 0 := by decide +kernel
theorem mf6_19 : pm_fnd pm_mth 6 19 = some (3, 68, 594, 595, 0, 75, 596) := rfl
theorem cc67_68 : pm_fr 68 + 1 ≤ pm_fr 67 ∧ 8 + (pm_ml 68 + 11) + pm_lo 68 ≤ pm_lo 67 ∧ pm_mc 68 = 0 ∧ pm_ms 68 = 0 := by decide +kernel
theorem cc68_61 : pm_fr 61 + 1 ≤ pm_fr 68 ∧ 8 + (pm_ml 61 + 11) + pm_lo 61 ≤ pm_lo 68 ∧ pm_mc 61 = 0 ∧ pm_ms 61 = 0 := by decide +kernel
theorem cc68_59 : pm_fr 59 + 1 ≤ pm_fr 68 ∧ 8 + (pm_ml 59 + 11) + pm_lo 59 ≤ pm_lo 68 ∧ pm_mc 59 = 0 ∧ pm_ms 59 = 0 := by decide +kernel
theorem cc68_58 : pm_fr 58 + 1 ≤ pm_fr 68 ∧ 8 + (pm_ml 58 + 11) + pm_lo 58 ≤ pm_lo 68 ∧ pm_mc 58 = 0 ∧ pm_ms 58 = 0 := by decide +kernel
theorem cc68_60 : pm_fr 60 + 1 ≤ pm_fr 68 ∧ 8 + (pm_ml 60 + 11) + pm_lo 60 ≤ pm_lo 68 ∧ pm_mc 60 = 0 ∧ pm_ms 60 = 0 := by decide +kernel
theorem cc69_68 : pm_fr 68 + 1 ≤ pm_fr 69 ∧ 8 + (pm_ml 68 + 11) + pm_lo 68 ≤ pm_lo 69 ∧ pm_mc 68 = 0 ∧ pm_ms 68 = 0 := by decide +kernel
theorem cc70_13 : pm_fr 13 + 1 ≤ pm_fr 70 ∧ 8 + (pm_ml 13 + 11) + pm_lo 13 ≤ pm_lo 70 ∧ pm_mc 13 = 0 ∧ pm_ms 13 = 0 := by decide +kernel
theorem mf10_219 : pm_fnd pm_mth 10 219 = some (1, 71, 605, 607, 13, 75, 608) := rfl
theorem cc70_71 : pm_fr 71 + 1 ≤ pm_fr 70 ∧ 8 + (pm_ml 71 + 11) + pm_lo 71 ≤ pm_lo 70 ∧ pm_mc 71 = 0 ∧ pm_ms 71 = 0 := by decide +kernel
theorem fl10_222 : pm_fnd pm_fl 10 222 = some (2, 0, 167) := by decide +kernel
theorem cc70_15 : pm_fr 15 + 1 ≤ pm_fr 70 ∧ 8 + (pm_ml 15 + 11) + pm_lo 15 ≤ pm_lo 70 ∧ pm_mc 15 = 0 ∧ pm_ms 15 = 0 := by decide +kernel
theorem mf10_225 : pm_fnd pm_mth 10 225 = some (1, 72, 609, 610, 611, 79, 612) := rfl
theorem cc70_72 : pm_fr 72 + 1 ≤ pm_fr 70 ∧ 8 + (pm_ml 72 + 11) + pm_lo 72 ≤ pm_lo 70 ∧ pm_mc 72 = 0 ∧ pm_ms 72 = 0 := by decide +kernel
theorem mf10_229 : pm_fnd pm_mth 10 229 = some (1, 73, 614, 615, 616, 79, 617) := rfl
theorem cc70_73 : pm_fr 73 + 1 ≤ pm_fr 70 ∧ 8 + (pm_ml 73 + 11) + pm_lo 73 ≤ pm_lo 70 ∧ pm_mc 73 = 0 ∧ pm_ms 73 = 0 := by decide +kernel
theorem cc71_13 : pm_fr 13 + 1 ≤ pm_fr 71 ∧ 8 + (pm_ml 13 + 11) + pm_lo 13 ≤ pm_lo 71 ∧ pm_mc 13 = 0 ∧ pm_ms 13 = 0 := by decide +kernel
theorem cc71_53 : pm_fr 53 + 1 ≤ pm_fr 71 ∧ 8 + (pm_ml 53 + 11) + pm_lo 53 ≤ pm_lo 71 ∧ pm_mc 53 = 0 ∧ pm_ms 53 = 0 := by decide +kernel
theorem cc71_63 : pm_fr 63 + 1 ≤ pm_fr 71 ∧ 8 + (pm_ml 63 + 11) + pm_lo 63 ≤ pm_lo 71 ∧ pm_mc 63 = 0 ∧ pm_ms 63 = 0 := by decide +kernel
theorem cc71_14 : pm_fr 14 + 1 ≤ pm_fr 71 ∧ 8 + (pm_ml 14 + 11) + pm_lo 14 ≤ pm_lo 71 ∧ pm_mc 14 = 0 ∧ pm_ms 14 = 0 := by decide +kernel
theorem cc72_50 : pm_fr 50 + 1 ≤ pm_fr 72 ∧ 8 + (pm_ml 50 + 11) + pm_lo 50 ≤ pm_lo 72 ∧ pm_mc 50 = 0 ∧ pm_ms 50 = 0 := by decide +kernel
theorem mf2_31 : pm_fnd pm_mth 2 31 = some (1, 69, 613, 598, 599, 78, 600) := rfl
theorem cc72_69 : pm_fr 69 + 1 ≤ pm_fr 72 ∧ 8 + (pm_ml 69 + 11) + pm_lo 69 ≤ pm_lo 72 ∧ pm_mc 69 = 0 ∧ pm_ms 69 = 0 := by decide +kernel
theorem cc73_50 : pm_fr 50 + 1 ≤ pm_fr 73 ∧ 8 + (pm_ml 50 + 11) + pm_lo 50 ≤ pm_lo 73 ∧ pm_mc 50 = 0 ∧ pm_ms 50 = 0 := by decide +kernel
theorem cc73_69 : pm_fr 69 + 1 ≤ pm_fr 73 ∧ 8 + (pm_ml 69 + 11) + pm_lo 69 ≤ pm_lo 73 ∧ pm_mc 69 = 0 ∧ pm_ms 69 = 0 := by decide +kernel
theorem cc74_13 : pm_fr 13 + 1 ≤ pm_fr 74 ∧ 8 + (pm_ml 13 + 11) + pm_lo 13 ≤ pm_lo 74 ∧ pm_mc 13 = 0 ∧ pm_ms 13 = 0 := by decide +kernel
theorem cc74_53 : pm_fr 53 + 1 ≤ pm_fr 74 ∧ 8 + (pm_ml 53 + 11) + pm_lo 53 ≤ pm_lo 74 ∧ pm_mc 53 = 0 ∧ pm_ms 53 = 0 := by decide +kernel
theorem cc74_18 : pm_fr 18 + 1 ≤ pm_fr 74 ∧ 8 + (pm_ml 18 + 11) + pm_lo 18 ≤ pm_lo 74 ∧ pm_mc 18 = 0 ∧ pm_ms 18 = 0 := by decide +kernel
theorem cc74_14 : pm_fr 14 + 1 ≤ pm_fr 74 ∧ 8 + (pm_ml 14 + 11) + pm_lo 14 ≤ pm_lo 74 ∧ pm_mc 14 = 0 ∧ pm_ms 14 = 0 := by decide +kernel
theorem mf10_233 : pm_fnd pm_mth 10 233 = some (1, 75, 622, 624, 14, 75, 625) := rfl
theorem cc74_75 : pm_fr 75 + 1 ≤ pm_fr 74 ∧ 8 + (pm_ml 75 + 11) + pm_lo 75 ≤ pm_lo 74 ∧ pm_mc 75 = 0 ∧ pm_ms 75 = 0 := by decide +kernel
theorem mf10_237 : pm_fnd pm_mth 10 237 = some (1, 76, 626, 627, 628, 79, 629) := rfl
theorem cc74_76 : pm_fr 76 + 1 ≤ pm_fr 74 ∧ 8 + (pm_ml 76 + 11) + pm_lo 76 ≤ pm_lo 74 ∧ pm_mc 76 = 0 ∧ pm_ms 76 = 0 := by decide +kernel
theorem cc74_49 : pm_fr 49 + 1 ≤ pm_fr 74 ∧ 8 + (pm_ml 49 + 11) + pm_lo 49 ≤ pm_lo 74 ∧ pm_mc 49 = 0 ∧ pm_ms 49 = 0 := by decide +kernel
theorem cc75_14 : pm_fr 14 + 1 ≤ pm_fr 75 ∧ 8 + (pm_ml 14 + 11) + pm_lo 14 ≤ pm_lo 75 ∧ pm_mc 14 = 0 ∧ pm_ms 14 = 0 := by decide +kernel
theorem cc75_66 : pm_fr 66 + 1 ≤ pm_fr 75 ∧ 8 + (pm_ml 66 + 11) + pm_lo 66 ≤ pm_lo 75 ∧ pm_mc 66 = 0 ∧ pm_ms 66 = 0 := by decide +kernel
theorem fl2_19 : pm_fnd pm_fl 2 19 = some (5, 0, 107) := by decide +kernel
theorem mf2_24 : pm_fnd pm_mth 2 24 = some (1, 38, 630, 481, 482, 79, 483) := rfl
theorem cc76_38 : pm_fr 38 + 1 ≤ pm_fr 76 ∧ 8 + (pm_ml 38 + 11) + pm_lo 38 ≤ pm_lo 76 ∧ pm_mc 38 = 0 ∧ pm_ms 38 = 0 := by decide +kernel
theorem fl2_28 : pm_fnd pm_fl 2 28 = some (5, 1, 112) := by decide +kernel
theorem cc76_69 : pm_fr 69 + 1 ≤ pm_fr 76 ∧ 8 + (pm_ml 69 + 11) + pm_lo 69 ≤ pm_lo 76 ∧ pm_mc 69 = 0 ∧ pm_ms 69 = 0 := by decide +kernel
theorem mf10_241 : pm_fnd pm_mth 10 241 = some (1, 78, 635, 637, 15, 75, 638) := rfl
theorem cc77_78 : pm_fr 78 + 1 ≤ pm_fr 77 ∧ 8 + (pm_ml 78 + 11) + pm_lo 78 ≤ pm_lo 77 ∧ pm_mc 78 = 0 ∧ pm_ms 78 = 0 := by decide +kernel
theorem fl10_75 : pm_fnd pm_fl 10 75 = some (10, 10, 326) := by decide +kernel
theorem mf10_244 : pm_fnd pm_mth 10 244 = some (1, 79, 639, 640, 641, 84, 642) := rfl
theorem cc77_79 : pm_fr 79 + 1 ≤ pm_fr 77 ∧ 8 + (pm_ml 79 + 11) + pm_lo 79 ≤ pm_lo 77 ∧ pm_mc 79 = 0 ∧ pm_ms 79 = 0 := by decide +kernel
theorem fl10_248 : pm_fnd pm_fl 10 248 = some (7, 1, 285) := by decide +kernel
theorem fl10_251 : pm_fnd pm_fl 10 251 = some (7, 0, 283) := by decide +kernel
theorem cc78_13 : pm_fr 13 + 1 ≤ pm_fr 78 ∧ 8 + (pm_ml 13 + 11) + pm_lo 13 ≤ pm_lo 78 ∧ pm_mc 13 = 0 ∧ pm_ms 13 = 0 := by decide +kernel
theorem cc78_18 : pm_fr 18 + 1 ≤ pm_fr 78 ∧ 8 + (pm_ml 18 + 11) + pm_lo 18 ≤ pm_lo 78 ∧ pm_mc 18 = 0 ∧ pm_ms 18 = 0 := by decide +kernel
theorem cc78_14 : pm_fr 14 + 1 ≤ pm_fr 78 ∧ 8 + (pm_ml 14 + 11) + pm_lo 14 ≤ pm_lo 78 ∧ pm_mc 14 = 0 ∧ pm_ms 14 = 0 := by decide +kernel
theorem cc78_75 : pm_fr 75 + 1 ≤ pm_fr 78 ∧ 8 + (pm_ml 75 + 11) + pm_lo 75 ≤ pm_lo 78 ∧ pm_mc 75 = 0 ∧ pm_ms 75 = 0 := by decide +kernel
theorem fl7_9 : pm_fnd pm_fl 7 9 = some (7, 0, 282) := by decide +kernel
theorem fl7_24 : pm_fnd pm_fl 7 24 = some (7, 3, 288) := by decide +kernel
theorem mf7_28 : pm_fnd pm_mth 7 28 = some (1, 46, 643, 513, 514, 78, 515) := rfl
theorem cc79_46 : pm_fr 46 + 1 ≤ pm_fr 79 ∧ 8 + (pm_ml 46 + 11) + pm_lo 46 ≤ pm_lo 79 ∧ pm_mc 46 = 0 ∧ pm_ms 46 = 0 := by decide +kernel
theorem mf7_32 : pm_fnd pm_mth 7 32 = some (1, 80, 644, 646, 16, 84, 647) := rfl
theorem cc79_80 : pm_fr 80 + 1 ≤ pm_fr 79 ∧ 8 + (pm_ml 80 + 11) + pm_lo 80 ≤ pm_lo 79 ∧ pm_mc 80 = 0 ∧ pm_ms 80 = 0 := by decide +kernel
theorem fl7_15 : pm_fnd pm_fl 7 15 = some (7, 1, 284) := by decide +kernel
theorem fl7_18 : pm_fnd pm_fl 7 18 = some (7, 2, 286) := by decide +kernel
theorem fl7_36 : pm_fnd pm_fl 7 36 = some (5, 0, 106) := by decide +kernel
theorem fl7_41 : pm_fnd pm_fl 7 41 = some (5, 1, 111) := by decide +kernel
theorem mf7_45 : pm_fnd pm_mth 7 45 = some (1, 69, 648, 598, 599, 78, 600) := rfl
theorem cc80_69 : pm_fr 69 + 1 ≤ pm_fr 80 ∧ 8 + (pm_ml 69 + 11) + pm_lo 69 ≤ pm_lo 80 ∧ pm_mc 69 = 0 ∧ pm_ms 69 = 0 := by decide +kernel
theorem cc81_78 : pm_fr 78 + 1 ≤ pm_fr 81 ∧ 8 + (pm_ml 78 + 11) + pm_lo 78 ≤ pm_lo 81 ∧ pm_mc 78 = 0 ∧ pm_ms 78 = 0 := by decide +kernel
theorem cc81_79 : pm_fr 79 + 1 ≤ pm_fr 81 ∧ 8 + (pm_ml 79 + 11) + pm_lo 79 ≤ pm_lo 81 ∧ pm_mc 79 = 0 ∧ pm_ms 79 = 0 := by decide +kernel
theorem fl10_254 : pm_fnd pm_fl 10 254 = some (7, 2, 287) := by decide +kernel
theorem cc82_71 : pm_fr 71 + 1 ≤ pm_fr 82 ∧ 8 + (pm_ml 71 + 11) + pm_lo 71 ≤ pm_lo 82 ∧ pm_mc 71 = 0 ∧ pm_ms 71 = 0 := by decide +kernel
theorem fl10_40 : pm_fnd pm_fl 10 40 = some (10, 4, 320) := by decide +kernel
theorem mf10_257 : pm_fnd pm_mth 10 257 = some (1, 83, 657, 658, 659, 80, 660) := rfl
theorem cc82_83 : pm_fr 83 + 1 ≤ pm_fr 82 ∧ 8 + (pm_ml 83 + 11) + pm_lo 83 ≤ pm_lo 82 ∧ pm_mc 83 = 0 ∧ pm_ms 83 = 0 := by decide +kernel
theorem fl10_260 : pm_fnd pm_fl 10 260 = some (4, 0, 184) := by decide +kernel
theorem fl4_25 : pm_fnd pm_fl 4 25 = some (2, 0, 166) := by decide +kernel
theorem fl4_9 : pm_fnd pm_fl 4 9 = some (4, 0, 183) := by decide +kernel
theorem fl4_15 : pm_fnd pm_fl 4 15 = some (4, 1, 185) := by decide +kernel
theorem fl4_18 : pm_fnd pm_fl 4 18 = some (4, 2, 187) := by decide +kernel
theorem fl4_21 : pm_fnd pm_fl 4 21 = some (4, 3, 189) := by decide +kernel
theorem mf4_28 : pm_fnd pm_mth 4 28 = some (1, 72, 661, 610, 611, 79, 612) := rfl
theorem cc83_72 : pm_fr 72 + 1 ≤ pm_fr 83 ∧ 8 + (pm_ml 72 + 11) + pm_lo 72 ≤ pm_lo 83 ∧ pm_mc 72 = 0 ∧ pm_ms 72 = 0 := by decide +kernel
theorem mf4_32 : pm_fnd pm_mth 4 32 = some (1, 50, 662, 529, 530, 79, 531) := rfl
theorem cc83_50 : pm_fr 50 + 1 ≤ pm_fr 83 ∧ 8 + (pm_ml 50 + 11) + pm_lo 50 ≤ pm_lo 83 ∧ pm_mc 50 = 0 ∧ pm_ms 50 = 0 := by decide +kernel
theorem mf10_261 : pm_fnd pm_mth 10 261 = some (1, 85, 667, 668, 669, 80, 670) := rfl
theorem cc84_85 : pm_fr 85 + 1 ≤ pm_fr 84 ∧ 8 + (pm_ml 85 + 11) + pm_lo 85 ≤ pm_lo 84 ∧ pm_mc 85 = 0 ∧ pm_ms 85 = 0 := by decide +kernel
theorem fl10_262 : pm_fnd pm_fl 10 262 = some (4, 1, 186) := by decide +kernel
theorem cc84_13 : pm_fr 13 + 1 ≤ pm_fr 84 ∧ 8 + (pm_ml 13 + 11) + pm_lo 13 ≤ pm_lo 84 ∧ pm_mc 13 = 0 ∧ pm_ms 13 = 0 := by decide +kernel
theorem fl10_265 : pm_fnd pm_fl 10 265 = some (4, 2, 188) := by decide +kernel
theorem fl10_268 : pm_fnd pm_fl 10 268 = some (4, 3, 190) := by decide +kernel
theorem cc86_13 : pm_fr 13 + 1 ≤ pm_fr 86 ∧ 8 + (pm_ml 13 + 11) + pm_lo 13 ≤ pm_lo 86 ∧ pm_mc 13 = 0 ∧ pm_ms 13 = 0 := by decide +kernel
theorem cc86_85 : pm_fr 85 + 1 ≤ pm_fr 86 ∧ 8 + (pm_ml 85 + 11) + pm_lo 85 ≤ pm_lo 86 ∧ pm_mc 85 = 0 ∧ pm_ms 85 = 0 := by decide +kernel
theorem fl10_44 : pm_fnd pm_fl 10 44 = some (10, 5, 321) := by decide +kernel
theorem mf10_271 : pm_fnd pm_mth 10 271 = some (1, 87, 675, 676, 677, 80, 678) := rfl
theorem cc86_87 : pm_fr 87 + 1 ≤ pm_fr 86 ∧ 8 + (pm_ml 87 + 11) + pm_lo 87 ≤ pm_lo 86 ∧ pm_mc 87 = 0 ∧ pm_ms 87 = 0 := by decide +kernel
theorem cc88_13 : pm_fr 13 + 1 ≤ pm_fr 88 ∧ 8 + (pm_ml 13 + 11) + pm_lo 13 ≤ pm_lo 88 ∧ pm_mc 13 = 0 ∧ pm_ms 13 = 0 := by decide +kernel
theorem cc88_85 : pm_fr 85 + 1 ≤ pm_fr 88 ∧ 8 + (pm_ml 85 + 11) + pm_lo 85 ≤ pm_lo 88 ∧ pm_mc 85 = 0 ∧ pm_ms 85 = 0 := by decide +kernel
theorem cc88_14 : pm_fr 14 + 1 ≤ pm_fr 88 ∧ 8 + (pm_ml 14 + 11) + pm_lo 14 ≤ pm_lo 88 ∧ pm_mc 14 = 0 ∧ pm_ms 14 = 0 := by decide +kernel
theorem cc88_87 : pm_fr 87 + 1 ≤ pm_fr 88 ∧ 8 + (pm_ml 87 + 11) + pm_lo 87 ≤ pm_lo 88 ∧ pm_mc 87 = 0 ∧ pm_ms 87 = 0 := by decide +kernel
theorem mf10_274 : pm_fnd pm_mth 10 274 = some (1, 90, 687, 689, 17, 75, 690) := rfl
theorem cc89_90 : pm_fr 90 + 1 ≤ pm_fr 89 ∧ 8 + (pm_ml 90 + 11) + pm_lo 90 ≤ pm_lo 89 ∧ pm_mc 90 = 0 ∧ pm_ms 90 = 0 := by decide +kernel
theorem fl10_82 : pm_fnd pm_fl 10 82 = some (10, 11, 327) := by decide +kernel
theorem mf10_278 : pm_fnd pm_mth 10 278 = some (1, 91, 691, 692, 693, 85, 694) := rfl
theorem cc89_91 : pm_fr 91 + 1 ≤ pm_fr 89 ∧ 8 + (pm_ml 91 + 11) + pm_lo 91 ≤ pm_lo 89 ∧ pm_mc 91 = 0 ∧ pm_ms 91 = 0 := by decide +kernel
theorem fl10_282 : pm_fnd pm_fl 10 282 = some (1, 0, 305) := by decide +kernel
theorem cc90_13 : pm_fr 13 + 1 ≤ pm_fr 90 ∧ 8 + (pm_ml 13 + 11) + pm_lo 13 ≤ pm_lo 90 ∧ pm_mc 13 = 0 ∧ pm_ms 13 = 0 := by decide +kernel
theorem cc90_71 : pm_fr 71 + 1 ≤ pm_fr 90 ∧ 8 + (pm_ml 71 + 11) + pm_lo 71 ≤ pm_lo 90 ∧ pm_mc 71 = 0 ∧ pm_ms 71 = 0 := by decide +kernel
theorem cc90_14 : pm_fr 14 + 1 ≤ pm_fr 90 ∧ 8 + (pm_ml 14 + 11) + pm_lo 14 ≤ pm_lo 90 ∧ pm_mc 14 = 0 ∧ pm_ms 14 = 0 := by decide +kernel
theorem fl1_9 : pm_fnd pm_fl 1 9 = some (1, 0, 304) := by decide +kernel
theorem fl1_15 : pm_fnd pm_fl 1 15 = some (1, 1, 306) := by decide +kernel
theorem mf1_22 : pm_fnd pm_mth 1 22 = some (0, 92, 695, 696, 0, 88, 697) := rfl
theorem cc91_92 : pm_fr 92 + 1 ≤ pm_fr 91 ∧ 8 + (pm_ml 92 + 11) + pm_lo 92 ≤ pm_lo 91 ∧ pm_mc 92 = 0 ∧ pm_ms 92 = 0 := by decide +kernel
theorem mf1_28 : pm_fnd pm_mth 1 28 = some (0, 93, 701, 702, 0, 85, 703) := rfl
theorem cc91_93 : pm_fr 93 + 1 ≤ pm_fr 91 ∧ 8 + (pm_ml 93 + 11) + pm_lo 93 ≤ pm_lo 91 ∧ pm_mc 93 = 0 ∧ pm_ms 93 = 0 := by decide +kernel
theorem mf1_31 : pm_fnd pm_mth 1 31 = some (1, 94, 704, 706, 18, 85, 707) := rfl
theorem cc91_94 : pm_fr 94 + 1 ≤ pm_fr 91 ∧ 8 + (pm_ml 94 + 11) + pm_lo 94 ≤ pm_lo 91 ∧ pm_mc 94 = 0 ∧ pm_ms 94 = 0 := by decide +kernel
theorem fl1_35 : pm_fnd pm_fl 1 35 = some (2, 0, 165) := by decide +kernel
theorem mf1_40 : pm_fnd pm_mth 1 40 = some (1, 95, 710, 712, 19, 85, 713) := rfl
theorem cc91_95 : pm_fr 95 + 1 ≤ pm_fr 91 ∧ 8 + (pm_ml 95 + 11) + pm_lo 95 ≤ pm_lo 91 ∧ pm_mc 95 = 0 ∧ pm_ms 95 = 0 := by decide +kernel
theorem fl1_19 : pm_fnd pm_fl 1 19 = some (1, 2, 308) := by decide +kernel
theorem mf1_44 : pm_fnd pm_mth 1 44 = some (1, 69, 708, 598, 599, 78, 600) := rfl
theorem cc94_69 : pm_fr 69 + 1 ≤ pm_fr 94 ∧ 8 + (pm_ml 69 + 11) + pm_lo 69 ≤ pm_lo 94 ∧ pm_mc 69 = 0 ∧ pm_ms 69 = 0 := by decide +kernel
theorem mf1_50 : pm_fnd pm_mth 1 50 = some (1, 50, 709, 529, 530, 79, 531) := rfl
theorem cc94_50 : pm_fr 50 + 1 ≤ pm_fr 94 ∧ 8 + (pm_ml 50 + 11) + pm_lo 50 ≤ pm_lo 94 ∧ pm_mc 50 = 0 ∧ pm_ms 50 = 0 := by decide +kernel
theorem fl1_54 : pm_fnd pm_fl 1 54 = some (2, 1, 170) := by decide +kernel
theorem cc96_90 : pm_fr 90 + 1 ≤ pm_fr 96 ∧ 8 + (pm_ml 90 + 11) + pm_lo 90 ≤ pm_lo 96 ∧ pm_mc 90 = 0 ∧ pm_ms 90 = 0 := by decide +kernel
theorem cc96_91 : pm_fr 91 + 1 ≤ pm_fr 96 ∧ 8 + (pm_ml 91 + 11) + pm_lo 91 ≤ pm_lo 96 ∧ pm_mc 91 = 0 ∧ pm_ms 91 = 0 := by decide +kernel
theorem cc96_14 : pm_fr 14 + 1 ≤ pm_fr 96 ∧ 8 + (pm_ml 14 + 11) + pm_lo 14 ≤ pm_lo 96 ∧ pm_mc 14 = 0 ∧ pm_ms 14 = 0 := by decide +kernel
theorem mf10_285 : pm_fnd pm_mth 10 285 = some (1, 97, 718, 719, 720, 85, 721) := rfl
theorem cc96_97 : pm_fr 97 + 1 ≤ pm_fr 96 ∧ 8 + (pm_ml 97 + 11) + pm_lo 97 ≤ pm_lo 96 ∧ pm_mc 97 = 0 ∧ pm_ms 97 = 0 := by decide +kernel
theorem cc97_92 : pm_fr 92 + 1 ≤ pm_fr 97 ∧ 8 + (pm_ml 92 + 11) + pm_lo 92 ≤ pm_lo 97 ∧ pm_mc 92 = 0 ∧ pm_ms 92 = 0 := by decide +kernel
theorem cc98_13 : pm_fr 13 + 1 ≤ pm_fr 98 ∧ 8 + (pm_ml 13 + 11) + pm_lo 13 ≤ pm_lo 98 ∧ pm_mc 13 = 0 ∧ pm_ms 13 = 0 := by decide +kernel
theorem cc98_90 : pm_fr 90 + 1 ≤ pm_fr 98 ∧ 8 + (pm_ml 90 + 11) + pm_lo 90 ≤ pm_lo 98 ∧ pm_mc 90 = 0 ∧ pm_ms 90 = 0 := by decide +kernel
theorem cc98_14 : pm_fr 14 + 1 ≤ pm_fr 98 ∧ 8 + (pm_ml 14 + 11) + pm_lo 14 ≤ pm_lo 98 ∧ pm_mc 14 = 0 ∧ pm_ms 14 = 0 := by decide +kernel
theorem cc98_91 : pm_fr 91 + 1 ≤ pm_fr 98 ∧ 8 + (pm_ml 91 + 11) + pm_lo 91 ≤ pm_lo 98 ∧ pm_mc 91 = 0 ∧ pm_ms 91 = 0 := by decide +kernel
theorem fl10_288 : pm_fnd pm_fl 10 288 = some (1, 1, 307) := by decide +kernel
theorem mf10_291 : pm_fnd pm_mth 10 291 = some (1, 100, 730, 732, 20, 75, 733) := rfl
theorem cc99_100 : pm_fr 100 + 1 ≤ pm_fr 99 ∧ 8 + (pm_ml 100 + 11) + pm_lo 100 ≤ pm_lo 99 ∧ pm_mc 100 = 0 ∧ pm_ms 100 = 0 := by decide +kernel
theorem fl10_68 : pm_fnd pm_fl 10 68 = some (10, 9, 325) := by decide +kernel
theorem fl10_55 : pm_fnd pm_fl 10 55 = some (10, 7, 323) := by decide +kernel
theorem mf10_294 : pm_fnd pm_mth 10 294 = some (1, 101, 734, 735, 736, 83, 737) := rfl
theorem cc99_101 : pm_fr 101 + 1 ≤ pm_fr 99 ∧ 8 + (pm_ml 101 + 11) + pm_lo 101 ≤ pm_lo 99 ∧ pm_mc 101 = 0 ∧ pm_ms 101 = 0 := by decide +kernel
theorem fl10_298 : pm_fnd pm_fl 10 298 = some (8, 1, 259) := by decide +kernel
theorem fl10_299 : pm_fnd pm_fl 10 299 = some (8, 0, 257) := by decide +kernel
theorem cc100_13 : pm_fr 13 + 1 ≤ pm_fr 100 ∧ 8 + (pm_ml 13 + 11) + pm_lo 13 ≤ pm_lo 100 ∧ pm_mc 13 = 0 ∧ pm_ms 13 = 0 := by decide +kernel
theorem cc100_63 : pm_fr 63 + 1 ≤ pm_fr 100 ∧ 8 + (pm_ml 63 + 11) + pm_lo 63 ≤ pm_lo 100 ∧ pm_mc 63 = 0 ∧ pm_ms 63 = 0 := by decide +kernel
theorem cc100_14 : pm_fr 14 + 1 ≤ pm_fr 100 ∧ 8 + (pm_ml 14 + 11) + pm_lo 14 ≤ pm_lo 100 ∧ pm_mc 14 = 0 ∧ pm_ms 14 = 0 := by decide +kernel
theorem fl8_9 : pm_fnd pm_fl 8 9 = some (8, 0, 256) := by decide +kernel
theorem fl8_15 : pm_fnd pm_fl 8 15 = some (8, 1, 258) := by decide +kernel
theorem fl8_18 : pm_fnd pm_fl 8 18 = some (8, 2, 260) := by decide +kernel
theorem fl8_28 : pm_fnd pm_fl 8 28 = some (8, 4, 262) := by decide +kernel
theorem mf8_32 : pm_fnd pm_mth 8 32 = some (1, 46, 738, 513, 514, 78, 515) := rfl
theorem cc101_46 : pm_fr 46 + 1 ≤ pm_fr 101 ∧ 8 + (pm_ml 46 + 11) + pm_lo 46 ≤ pm_lo 101 ∧ pm_mc 46 = 0 ∧ pm_ms 46 = 0 := by decide +kernel
theorem fl8_22 : pm_fnd pm_fl 8 22 = some (8, 3, 261) := by decide +kernel
theorem mf8_36 : pm_fnd pm_mth 8 36 = some (1, 102, 739, 740, 741, 79, 742) := rfl
theorem cc101_102 : pm_fr 102 + 1 ≤ pm_fr 101 ∧ 8 + (pm_ml 102 + 11) + pm_lo 102 ≤ pm_lo 101 ∧ pm_mc 102 = 0 ∧ pm_ms 102 = 0 := by decide +kernel
theorem fl8_42 : pm_fnd pm_fl 8 42 = some (2, 0, 164) := by decide +kernel
theorem mf8_45 : pm_fnd pm_mth 8 45 = some (1, 103, 743, 744, 745, 81, 746) := rfl
theorem cc101_103 : pm_fr 103 + 1 ≤ pm_fr 101 ∧ 8 + (pm_ml 103 + 11) + pm_lo 103 ≤ pm_lo 101 ∧ pm_mc 103 = 0 ∧ pm_ms 103 = 0 := by decide +kernel
theorem cc102_69 : pm_fr 69 + 1 ≤ pm_fr 102 ∧ 8 + (pm_ml 69 + 11) + pm_lo 69 ≤ pm_lo 102 ∧ pm_mc 69 = 0 ∧ pm_ms 69 = 0 := by decide +kernel
theorem cc102_50 : pm_fr 50 + 1 ≤ pm_fr 102 ∧ 8 + (pm_ml 50 + 11) + pm_lo 50 ≤ pm_lo 102 ∧ pm_mc 50 = 0 ∧ pm_ms 50 = 0 := by decide +kernel
theorem fl0_9 : pm_fnd pm_fl 0 9 = some (0, 0, 207) := by decide +kernel
theorem mf0_22 : pm_fnd pm_mth 0 22 = some (1, 104, 747, 748, 749, 81, 750) := rfl
theorem cc103_104 : pm_fr 104 + 1 ≤ pm_fr 103 ∧ 8 + (pm_ml 104 + 11) + pm_lo 104 ≤ pm_lo 103 ∧ pm_mc 104 = 0 ∧ pm_ms 104 = 0 := by decide +kernel
theorem fl0_15 : pm_fnd pm_fl 0 15 = some (0, 1, 209) := by decide +kernel
theorem fl0_19 : pm_fnd pm_fl 0 19 = some (0, 2, 211) := by decide +kernel
theorem cc105_100 : pm_fr 100 + 1 ≤ pm_fr 105 ∧ 8 + (pm_ml 100 + 11) + pm_lo 100 ≤ pm_lo 105 ∧ pm_mc 100 = 0 ∧ pm_ms 100 = 0 := by decide +kernel
theorem cc105_101 : pm_fr 101 + 1 ≤ pm_fr 105 ∧ 8 + (pm_ml 101 + 11) + pm_lo 101 ≤ pm_lo 105 ∧ pm_mc 101 = 0 ∧ pm_ms 101 = 0 := by decide +kernel
theorem cc105_14 : pm_fr 14 + 1 ≤ pm_fr 105 ∧ 8 + (pm_ml 14 + 11) + pm_lo 14 ≤ pm_lo 105 ∧ pm_mc 14 = 0 ∧ pm_ms 14 = 0 := by decide +kernel
theorem mf10_302 : pm_fnd pm_mth 10 302 = some (1, 106, 755, 756, 757, 83, 758) := rfl
theorem cc105_106 : pm_fr 106 + 1 ≤ pm_fr 105 ∧ 8 + (pm_ml 106 + 11) + pm_lo 106 ≤ pm_lo 105 ∧ pm_mc 106 = 0 ∧ pm_ms 106 = 0 := by decide +kernel
theorem mf8_60 : pm_fnd pm_mth 8 60 = some (1, 107, 759, 760, 761, 83, 762) := rfl
theorem cc106_107 : pm_fr 107 + 1 ≤ pm_fr 106 ∧ 8 + (pm_ml 107 + 11) + pm_lo 107 ≤ pm_lo 106 ∧ pm_mc 107 = 0 ∧ pm_ms 107 = 0 := by decide +kernel
theorem mf8_51 : pm_fnd pm_mth 8 51 = some (1, 108, 763, 764, 765, 83, 766) := rfl
theorem cc107_108 : pm_fr 108 + 1 ≤ pm_fr 107 ∧ 8 + (pm_ml 108 + 11) + pm_lo 108 ≤ pm_lo 107 ∧ pm_mc 108 = 0 ∧ pm_ms 108 = 0 := by decide +kernel
theorem mf8_55 : pm_fnd pm_mth 8 55 = some (6, 0, 767, 768, 0, 89, 769) := rfl
theorem cc109_100 : pm_fr 100 + 1 ≤ pm_fr 109 ∧ 8 + (pm_ml 100 + 11) + pm_lo 100 ≤ pm_lo 109 ∧ pm_mc 100 = 0 ∧ pm_ms 100 = 0 := by decide +kernel
theorem cc109_101 : pm_fr 101 + 1 ≤ pm_fr 109 ∧ 8 + (pm_ml 101 + 11) + pm_lo 101 ≤ pm_lo 109 ∧ pm_mc 101 = 0 ∧ pm_ms 101 = 0 := by decide +kernel
theorem cc109_14 : pm_fr 14 + 1 ≤ pm_fr 109 ∧ 8 + (pm_ml 14 + 11) + pm_lo 14 ≤ pm_lo 109 ∧ pm_mc 14 = 0 ∧ pm_ms 14 = 0 := by decide +kernel
theorem mf10_305 : pm_fnd pm_mth 10 305 = some (1, 110, 774, 775, 776, 83, 777) := rfl
theorem cc109_110 : pm_fr 110 + 1 ≤ pm_fr 109 ∧ 8 + (pm_ml 110 + 11) + pm_lo 110 ≤ pm_lo 109 ∧ pm_mc 110 = 0 ∧ pm_ms 110 = 0 := by decide +kernel
theorem mf10_308 : pm_fnd pm_mth 10 308 = some (1, 107, 778, 760, 761, 83, 762) := rfl
theorem cc109_107 : pm_fr 107 + 1 ≤ pm_fr 109 ∧ 8 + (pm_ml 107 + 11) + pm_lo 107 ≤ pm_lo 109 ∧ pm_mc 107 = 0 ∧ pm_ms 107 = 0 := by decide +kernel
theorem cc110_107 : pm_fr 107 + 1 ≤ pm_fr 110 ∧ 8 + (pm_ml 107 + 11) + pm_lo 107 ≤ pm_lo 110 ∧ pm_mc 107 = 0 ∧ pm_ms 107 = 0 := by decide +kernel
theorem cc111_13 : pm_fr 13 + 1 ≤ pm_fr 111 ∧ 8 + (pm_ml 13 + 11) + pm_lo 13 ≤ pm_lo 111 ∧ pm_mc 13 = 0 ∧ pm_ms 13 = 0 := by decide +kernel
theorem cc111_100 : pm_fr 100 + 1 ≤ pm_fr 111 ∧ 8 + (pm_ml 100 + 11) + pm_lo 100 ≤ pm_lo 111 ∧ pm_mc 100 = 0 ∧ pm_ms 100 = 0 := by decide +kernel
theorem cc111_14 : pm_fr 14 + 1 ≤ pm_fr 111 ∧ 8 + (pm_ml 14 + 11) + pm_lo 14 ≤ pm_lo 111 ∧ pm_mc 14 = 0 ∧ pm_ms 14 = 0 := by decide +kernel
theorem cc111_101 : pm_fr 101 + 1 ≤ pm_fr 111 ∧ 8 + (pm_ml 101 + 11) + pm_lo 101 ≤ pm_lo 111 ∧ pm_mc 101 = 0 ∧ pm_ms 101 = 0 := by decide +kernel
theorem mf10_311 : pm_fnd pm_mth 10 311 = some (1, 108, 783, 764, 765, 83, 766) := rfl
theorem cc111_108 : pm_fr 108 + 1 ≤ pm_fr 111 ∧ 8 + (pm_ml 108 + 11) + pm_lo 108 ≤ pm_lo 111 ∧ pm_mc 108 = 0 ∧ pm_ms 108 = 0 := by decide +kernel
theorem mf10_314 : pm_fnd pm_mth 10 314 = some (1, 112, 784, 786, 21, 75, 787) := rfl
theorem cc111_112 : pm_fr 112 + 1 ≤ pm_fr 111 ∧ 8 + (pm_ml 112 + 11) + pm_lo 112 ≤ pm_lo 111 ∧ pm_mc 112 = 0 ∧ pm_ms 112 = 0 := by decide +kernel
theorem mf10_426 : pm_fnd pm_mth 10 426 = some (0, 113, 788, 789, 0, 75, 790) := rfl
theorem cc112_113 : pm_fr 113 + 1 ≤ pm_fr 112 ∧ 8 + (pm_ml 113 + 11) + pm_lo 113 ≤ pm_lo 112 ∧ pm_mc 113 = 0 ∧ pm_ms 113 = 0 := by decide +kernel
theorem fl10_103 : pm_fnd pm_fl 10 103 = some (10, 17, 333) := by decide +kernel
theorem fl10_107 : pm_fnd pm_fl 10 107 = some (10, 18, 334) := by decide +kernel
theorem cc114_100 : pm_fr 100 + 1 ≤ pm_fr 114 ∧ 8 + (pm_ml 100 + 11) + pm_lo 100 ≤ pm_lo 114 ∧ pm_mc 100 = 0 ∧ pm_ms 100 = 0 := by decide +kernel
theorem fl10_51 : pm_fnd pm_fl 10 51 = some (10, 6, 322) := by decide +kernel
theorem cc114_101 : pm_fr 101 + 1 ≤ pm_fr 114 ∧ 8 + (pm_ml 101 + 11) + pm_lo 101 ≤ pm_lo 114 ∧ pm_mc 101 = 0 ∧ pm_ms 101 = 0 := by decide +kernel
theorem mf10_318 : pm_fnd pm_mth 10 318 = some (1, 116, 799, 801, 22, 75, 802) := rfl
theorem cc115_116 : pm_fr 116 + 1 ≤ pm_fr 115 ∧ 8 + (pm_ml 116 + 11) + pm_lo 116 ≤ pm_lo 115 ∧ pm_mc 116 = 0 ∧ pm_ms 116 = 0 := by decide +kernel
theorem mf10_322 : pm_fnd pm_mth 10 322 = some (0, 117, 803, 804, 0, 75, 805) := rfl
theorem cc115_117 : pm_fr 117 + 1 ≤ pm_fr 115 ∧ 8 + (pm_ml 117 + 11) + pm_lo 117 ≤ pm_lo 115 ∧ pm_mc 117 = 0 ∧ pm_ms 117 = 0 := by decide +kernel
theorem mf10_326 : pm_fnd pm_mth 10 326 = some (0, 119, 810, 811, 0, 75, 812) := rfl
theorem cc115_119 : pm_fr 119 + 1 ≤ pm_fr 115 ∧ 8 + (pm_ml 119 + 11) + pm_lo 119 ≤ pm_lo 115 ∧ pm_mc 119 = 0 ∧ pm_ms 119 = 0 := by decide +kernel
theorem mf10_329 : pm_fnd pm_mth 10 329 = some (0, 92, 813, 696, 0, 88, 697) := rfl
theorem cc115_92 : pm_fr 92 + 1 ≤ pm_fr 115 ∧ 8 + (pm_ml 92 + 11) + pm_lo 92 ≤ pm_lo 115 ∧ pm_mc 92 = 0 ∧ pm_ms 92 = 0 := by decide +kernel
theorem cc116_13 : pm_fr 13 + 1 ≤ pm_fr 116 ∧ 8 + (pm_ml 13 + 11) + pm_lo 13 ≤ pm_lo 116 ∧ pm_mc 13 = 0 ∧ pm_ms 13 = 0 := by decide +kernel
theorem cc116_53 : pm_fr 53 + 1 ≤ pm_fr 116 ∧ 8 + (pm_ml 53 + 11) + pm_lo 53 ≤ pm_lo 116 ∧ pm_mc 53 = 0 ∧ pm_ms 53 = 0 := by decide +kernel
theorem cc116_14 : pm_fr 14 + 1 ≤ pm_fr 116 ∧ 8 + (pm_ml 14 + 11) + pm_lo 14 ≤ pm_lo 116 ∧ pm_mc 14 = 0 ∧ pm_ms 14 = 0 := by decide +kernel
theorem cc116_63 : pm_fr 63 + 1 ≤ pm_fr 116 ∧ 8 + (pm_ml 63 + 11) + pm_lo 63 ≤ pm_lo 116 ∧ pm_mc 63 = 0 ∧ pm_ms 63 = 0 := by decide +kernel
theorem cc116_18 : pm_fr 18 + 1 ≤ pm_fr 116 ∧ 8 + (pm_ml 18 + 11) + pm_lo 18 ≤ pm_lo 116 ∧ pm_mc 18 = 0 ∧ pm_ms 18 = 0 := by decide +kernel
theorem cc116_66 : pm_fr 66 + 1 ≤ pm_fr 116 ∧ 8 + (pm_ml 66 + 11) + pm_lo 66 ≤ pm_lo 116 ∧ pm_mc 66 = 0 ∧ pm_ms 66 = 0 := by decide +kernel
theorem mf10_411 : pm_fnd pm_mth 10 411 = some (1, 118, 806, 807, 808, 79, 809) := rfl
theorem cc117_118 : pm_fr 118 + 1 ≤ pm_fr 117 ∧ 8 + (pm_ml 118 + 11) + pm_lo 118 ≤ pm_lo 117 ∧ pm_mc 118 = 0 ∧ pm_ms 118 = 0 := by decide +kernel
theorem cc118_69 : pm_fr 69 + 1 ≤ pm_fr 118 ∧ 8 + (pm_ml 69 + 11) + pm_lo 69 ≤ pm_lo 118 ∧ pm_mc 69 = 0 ∧ pm_ms 69 = 0 := by decide +kernel
theorem cc120_116 : pm_fr 116 + 1 ≤ pm_fr 120 ∧ 8 + (pm_ml 116 + 11) + pm_lo 116 ≤ pm_lo 120 ∧ pm_mc 116 = 0 ∧ pm_ms 116 = 0 := by decide +kernel
theorem cc120_117 : pm_fr 117 + 1 ≤ pm_fr 120 ∧ 8 + (pm_ml 117 + 11) + pm_lo 117 ≤ pm_lo 120 ∧ pm_mc 117 = 0 ∧ pm_ms 117 = 0 := by decide +kernel
theorem cc121_13 : pm_fr 13 + 1 ≤ pm_fr 121 ∧ 8 + (pm_ml 13 + 11) + pm_lo 13 ≤ pm_lo 121 ∧ pm_mc 13 = 0 ∧ pm_ms 13 = 0 := by decide +kernel
theorem cc121_53 : pm_fr 53 + 1 ≤ pm_fr 121 ∧ 8 + (pm_ml 53 + 11) + pm_lo 53 ≤ pm_lo 121 ∧ pm_mc 53 = 0 ∧ pm_ms 53 = 0 := by decide +kernel
theorem cc121_63 : pm_fr 63 + 1 ≤ pm_fr 121 ∧ 8 + (pm_ml 63 + 11) + pm_lo 63 ≤ pm_lo 121 ∧ pm_mc 63 = 0 ∧ pm_ms 63 = 0 := by decide +kernel
theorem cc121_14 : pm_fr 14 + 1 ≤ pm_fr 121 ∧ 8 + (pm_ml 14 + 11) + pm_lo 14 ≤ pm_lo 121 ∧ pm_mc 14 = 0 ∧ pm_ms 14 = 0 := by decide +kernel
theorem fl10_86 : pm_fnd pm_fl 10 86 = some (10, 12, 328) := by decide +kernel
theorem cc121_72 : pm_fr 72 + 1 ≤ pm_fr 121 ∧ 8 + (pm_ml 72 + 11) + pm_lo 72 ≤ pm_lo 121 ∧ pm_mc 72 = 0 ∧ pm_ms 72 = 0 := by decide +kernel
theorem fl10_90 : pm_fnd pm_fl 10 90 = some (10, 13, 329) := by decide +kernel
theorem mf10_334 : pm_fnd pm_mth 10 334 = some (7, 0, 822, 823, 0, 89, 824) := rfl
theorem mf10_339 : pm_fnd pm_mth 10 339 = some (1, 122, 825, 827, 23, 75, 828) := rfl
theorem cc121_122 : pm_fr 122 + 1 ≤ pm_fr 121 ∧ 8 + (pm_ml 122 + 11) + pm_lo 122 ≤ pm_lo 121 ∧ pm_mc 122 = 0 ∧ pm_ms 122 = 0 := by decide +kernel
theorem cc123_71 : pm_fr 71 + 1 ≤ pm_fr 123 ∧ 8 + (pm_ml 71 + 11) + pm_lo 71 ≤ pm_lo 123 ∧ pm_mc 71 = 0 ∧ pm_ms 71 = 0 := by decide +kernel
theorem cc123_64 : pm_fr 64 + 1 ≤ pm_fr 123 ∧ 8 + (pm_ml 64 + 11) + pm_lo 64 ≤ pm_lo 123 ∧ pm_mc 64 = 0 ∧ pm_ms 64 = 0 := by decide +kernel
theorem cc123_13 : pm_fr 13 + 1 ≤ pm_fr 123 ∧ 8 + (pm_ml 13 + 11) + pm_lo 13 ≤ pm_lo 123 ∧ pm_mc 13 = 0 ∧ pm_ms 13 = 0 := by decide +kernel
theorem cc123_14 : pm_fr 14 + 1 ≤ pm_fr 123 ∧ 8 + (pm_ml 14 + 11) + pm_lo 14 ≤ pm_lo 123 ∧ pm_mc 14 = 0 ∧ pm_ms 14 = 0 := by decide +kernel
theorem cc123_72 : pm_fr 72 + 1 ≤ pm_fr 123 ∧ 8 + (pm_ml 72 + 11) + pm_lo 72 ≤ pm_lo 123 ∧ pm_mc 72 = 0 ∧ pm_ms 72 = 0 := by decide +kernel
theorem cc123_122 : pm_fr 122 + 1 ≤ pm_fr 123 ∧ 8 + (pm_ml 122 + 11) + pm_lo 122 ≤ pm_lo 123 ∧ pm_mc 122 = 0 ∧ pm_ms 122 = 0 := by decide +kernel
theorem mf10_342 : pm_fnd pm_mth 10 342 = some (0, 124, 833, 834, 0, 75, 835) := rfl
theorem cc123_124 : pm_fr 124 + 1 ≤ pm_fr 123 ∧ 8 + (pm_ml 124 + 11) + pm_lo 124 ≤ pm_lo 123 ∧ pm_mc 124 = 0 ∧ pm_ms 124 = 0 := by decide +kernel
theorem cc123_92 : pm_fr 92 + 1 ≤ pm_fr 123 ∧ 8 + (pm_ml 92 + 11) + pm_lo 92 ≤ pm_lo 123 ∧ pm_mc 92 = 0 ∧ pm_ms 92 = 0 := by decide +kernel
theorem cc125_13 : pm_fr 13 + 1 ≤ pm_fr 125 ∧ 8 + (pm_ml 13 + 11) + pm_lo 13 ≤ pm_lo 125 ∧ pm_mc 13 = 0 ∧ pm_ms 13 = 0 := by decide +kernel
theorem fl10_345 : pm_fnd pm_fl 10 345 = some (0, 0, 208) := by decide +kernel
theorem fl10_346 : pm_fnd pm_fl 10 346 = some (0, 1, 210) := by decide +kernel
theorem fl10_349 : pm_fnd pm_fl 10 349 = some (0, 2, 212) := by decide +kernel
theorem cc127_71 : pm_fr 71 + 1 ≤ pm_fr 127 ∧ 8 + (pm_ml 71 + 11) + pm_lo 71 ≤ pm_lo 127 ∧ pm_mc 71 = 0 ∧ pm_ms 71 = 0 := by decide +kernel
theorem cc127_72 : pm_fr 72 + 1 ≤ pm_fr 127 ∧ 8 + (pm_ml 72 + 11) + pm_lo 72 ≤ pm_lo 127 ∧ pm_mc 72 = 0 ∧ pm_ms 72 = 0 := by decide +kernel
theorem mf10_352 : pm_fnd pm_mth 10 352 = some (1, 103, 848, 744, 745, 81, 746) := rfl
theorem cc127_103 : pm_fr 103 + 1 ≤ pm_fr 127 ∧ 8 + (pm_ml 103 + 11) + pm_lo 103 ≤ pm_lo 127 ∧ pm_mc 103 = 0 ∧ pm_ms 103 = 0 := by decide +kernel
theorem mf10_355 : pm_fnd pm_mth 10 355 = some (1, 128, 849, 850, 851, 81, 852) := rfl
theorem cc127_128 : pm_fr 128 + 1 ≤ pm_fr 127 ∧ 8 + (pm_ml 128 + 11) + pm_lo 128 ≤ pm_lo 127 ∧ pm_mc 128 = 0 ∧ pm_ms 128 = 0 := by decide +kernel
theorem cc128_104 : pm_fr 104 + 1 ≤ pm_fr 128 ∧ 8 + (pm_ml 104 + 11) + pm_lo 104 ≤ pm_lo 128 ∧ pm_mc 104 = 0 ∧ pm_ms 104 = 0 := by decide +kernel
theorem cc129_71 : pm_fr 71 + 1 ≤ pm_fr 129 ∧ 8 + (pm_ml 71 + 11) + pm_lo 71 ≤ pm_lo 129 ∧ pm_mc 71 = 0 ∧ pm_ms 71 = 0 := by decide +kernel
theorem mf10_358 : pm_fnd pm_mth 10 358 = some (1, 130, 857, 859, 24, 75, 860) := rfl
theorem cc129_130 : pm_fr 130 + 1 ≤ pm_fr 129 ∧ 8 + (pm_ml 130 + 11) + pm_lo 130 ≤ pm_lo 129 ∧ pm_mc 130 = 0 ∧ pm_ms 130 = 0 := by decide +kernel
theorem mf10_362 : pm_fnd pm_mth 10 362 = some (1, 133, 869, 871, 26, 75, 872) := rfl
theorem cc129_133 : pm_fr 133 + 1 ≤ pm_fr 129 ∧ 8 + (pm_ml 133 + 11) + pm_lo 133 ≤ pm_lo 129 ∧ pm_mc 133 = 0 ∧ pm_ms 133 = 0 := by decide +kernel
theorem mf10_422 : pm_fnd pm_mth 10 422 = some (0, 131, 861, 862, 0, 75, 863) := rfl
theorem cc130_131 : pm_fr 131 + 1 ≤ pm_fr 130 ∧ 8 + (pm_ml 131 + 11) + pm_lo 131 ≤ pm_lo 130 ∧ pm_mc 131 = 0 ∧ pm_ms 131 = 0 := by decide +kernel
theorem cc130_92 : pm_fr 92 + 1 ≤ pm_fr 130 ∧ 8 + (pm_ml 92 + 11) + pm_lo 92 ≤ pm_lo 130 ∧ pm_mc 92 = 0 ∧ pm_ms 92 = 0 := by decide +kernel
theorem mf10_418 : pm_fnd pm_mth 10 418 = some (1, 132, 865, 867, 25, 75, 868) := rfl
theorem cc130_132 : pm_fr 132 + 1 ≤ pm_fr 130 ∧ 8 + (pm_ml 132 + 11) + pm_lo 132 ≤ pm_lo 130 ∧ pm_mc 132 = 0 ∧ pm_ms 132 = 0 := by decide +kernel
theorem mf10_414 : pm_fnd pm_mth 10 414 = some (1, 50, 864, 529, 530, 79, 531) := rfl
theorem cc131_50 : pm_fr 50 + 1 ≤ pm_fr 131 ∧ 8 + (pm_ml 50 + 11) + pm_lo 50 ≤ pm_lo 131 ∧ pm_mc 50 = 0 ∧ pm_ms 50 = 0 := by decide +kernel
theorem cc132_72 : pm_fr 72 + 1 ≤ pm_fr 132 ∧ 8 + (pm_ml 72 + 11) + pm_lo 72 ≤ pm_lo 132 ∧ pm_mc 72 = 0 ∧ pm_ms 72 = 0 := by decide +kernel
theorem cc132_103 : pm_fr 103 + 1 ≤ pm_fr 132 ∧ 8 + (pm_ml 103 + 11) + pm_lo 103 ≤ pm_lo 132 ∧ pm_mc 103 = 0 ∧ pm_ms 103 = 0 := by decide +kernel
theorem cc133_50 : pm_fr 50 + 1 ≤ pm_fr 133 ∧ 8 + (pm_ml 50 + 11) + pm_lo 50 ≤ pm_lo 133 ∧ pm_mc 50 = 0 ∧ pm_ms 50 = 0 := by decide +kernel
theorem cc133_132 : pm_fr 132 + 1 ≤ pm_fr 133 ∧ 8 + (pm_ml 132 + 11) + pm_lo 132 ≤ pm_lo 133 ∧ pm_mc 132 = 0 ∧ pm_ms 132 = 0 := by decide +kernel
theorem mf10_365 : pm_fnd pm_mth 10 365 = some (1, 138, 889, 891, 27, 75, 892) := rfl
theorem cc137_138 : pm_fr 138 + 1 ≤ pm_fr 137 ∧ 8 + (pm_ml 138 + 11) + pm_lo 138 ≤ pm_lo 137 ∧ pm_mc 138 = 0 ∧ pm_ms 138 = 0 := by decide +kernel
theorem mf10_368 : pm_fnd pm_mth 10 368 = some (1, 139, 893, 895, 28, 75, 896) := rfl
theorem cc137_139 : pm_fr 139 + 1 ≤ pm_fr 137 ∧ 8 + (pm_ml 139 + 11) + pm_lo 139 ≤ pm_lo 137 ∧ pm_mc 139 = 0 ∧ pm_ms 139 = 0 := by decide +kernel
theorem mf10_371 : pm_fnd pm_mth 10 371 = some (1, 140, 897, 899, 29, 75, 900) := rfl
theorem cc137_140 : pm_fr 140 + 1 ≤ pm_fr 137 ∧ 8 + (pm_ml 140 + 11) + pm_lo 140 ≤ pm_lo 137 ∧ pm_mc 140 = 0 ∧ pm_ms 140 = 0 := by decide +kernel
theorem mf10_375 : pm_fnd pm_mth 10 375 = some (1, 141, 901, 903, 30, 75, 904) := rfl
theorem cc137_141 : pm_fr 141 + 1 ≤ pm_fr 137 ∧ 8 + (pm_ml 141 + 11) + pm_lo 141 ≤ pm_lo 137 ∧ pm_mc 141 = 0 ∧ pm_ms 141 = 0 := by decide +kernel
theorem mf10_378 : pm_fnd pm_mth 10 378 = some (1, 142, 905, 907, 31, 75, 908) := rfl
theorem cc137_142 : pm_fr 142 + 1 ≤ pm_fr 137 ∧ 8 + (pm_ml 142 + 11) + pm_lo 142 ≤ pm_lo 137 ∧ pm_mc 142 = 0 ∧ pm_ms 142 = 0 := by decide +kernel
theorem cc138_53 : pm_fr 53 + 1 ≤ pm_fr 138 ∧ 8 + (pm_ml 53 + 11) + pm_lo 53 ≤ pm_lo 138 ∧ pm_mc 53 = 0 ∧ pm_ms 53 = 0 := by decide +kernel
theorem cc139_63 : pm_fr 63 + 1 ≤ pm_fr 139 ∧ 8 + (pm_ml 63 + 11) + pm_lo 63 ≤ pm_lo 139 ∧ pm_mc 63 = 0 ∧ pm_ms 63 = 0 := by decide +kernel
theorem cc140_56 : pm_fr 56 + 1 ≤ pm_fr 140 ∧ 8 + (pm_ml 56 + 11) + pm_lo 56 ≤ pm_lo 140 ∧ pm_mc 56 = 0 ∧ pm_ms 56 = 0 := by decide +kernel
theorem cc141_18 : pm_fr 18 + 1 ≤ pm_fr 141 ∧ 8 + (pm_ml 18 + 11) + pm_lo 18 ≤ pm_lo 141 ∧ pm_mc 18 = 0 ∧ pm_ms 18 = 0 := by decide +kernel
theorem cc142_28 : pm_fr 28 + 1 ≤ pm_fr 142 ∧ 8 + (pm_ml 28 + 11) + pm_lo 28 ≤ pm_lo 142 ∧ pm_mc 28 = 0 ∧ pm_ms 28 = 0 := by decide +kernel
theorem mf10_383 : pm_fnd pm_mth 10 383 = some (1, 137, 922, 886, 887, 75, 888) := rfl
theorem cc145_137 : pm_fr 137 + 1 ≤ pm_fr 145 ∧ 8 + (pm_ml 137 + 11) + pm_lo 137 ≤ pm_lo 145 ∧ pm_mc 137 = 0 ∧ pm_ms 137 = 0 := by decide +kernel
theorem mf10_386 : pm_fnd pm_mth 10 386 = some (0, 146, 923, 924, 0, 75, 925) := rfl
theorem cc145_146 : pm_fr 146 + 1 ≤ pm_fr 145 ∧ 8 + (pm_ml 146 + 11) + pm_lo 146 ≤ pm_lo 145 ∧ pm_mc 146 = 0 ∧ pm_ms 146 = 0 := by decide +kernel
theorem mf10_390 : pm_fnd pm_mth 10 390 = some (1, 147, 927, 928, 929, 78, 930) := rfl
theorem cc145_147 : pm_fr 147 + 1 ≤ pm_fr 145 ∧ 8 + (pm_ml 147 + 11) + pm_lo 147 ≤ pm_lo 145 ∧ pm_mc 147 = 0 ∧ pm_ms 147 = 0 := by decide +kernel
theorem mf10_394 : pm_fnd pm_mth 10 394 = some (1, 148, 933, 934, 935, 79, 936) := rfl
theorem cc145_148 : pm_fr 148 + 1 ≤ pm_fr 145 ∧ 8 + (pm_ml 148 + 11) + pm_lo 148 ≤ pm_lo 145 ∧ pm_mc 148 = 0 ∧ pm_ms 148 = 0 := by decide +kernel
theorem mf10_395 : pm_fnd pm_mth 10 395 = some (1, 149, 939, 940, 941, 81, 942) := rfl
theorem cc145_149 : pm_fr 149 + 1 ≤ pm_fr 145 ∧ 8 + (pm_ml 149 + 11) + pm_lo 149 ≤ pm_lo 145 ∧ pm_mc 149 = 0 ∧ pm_ms 149 = 0 := by decide +kernel
theorem mf10_396 : pm_fnd pm_mth 10 396 = some (1, 150, 944, 945, 946, 80, 947) := rfl
theorem cc145_150 : pm_fr 150 + 1 ≤ pm_fr 145 ∧ 8 + (pm_ml 150 + 11) + pm_lo 150 ≤ pm_lo 145 ∧ pm_mc 150 = 0 ∧ pm_ms 150 = 0 := by decide +kernel
theorem mf10_397 : pm_fnd pm_mth 10 397 = some (1, 151, 950, 951, 952, 76, 953) := rfl
theorem cc145_151 : pm_fr 151 + 1 ≤ pm_fr 145 ∧ 8 + (pm_ml 151 + 11) + pm_lo 151 ≤ pm_lo 145 ∧ pm_mc 151 = 0 ∧ pm_ms 151 = 0 := by decide +kernel
theorem mf10_398 : pm_fnd pm_mth 10 398 = some (1, 152, 955, 956, 957, 77, 958) := rfl
theorem cc145_152 : pm_fr 152 + 1 ≤ pm_fr 145 ∧ 8 + (pm_ml 152 + 11) + pm_lo 152 ≤ pm_lo 145 ∧ pm_mc 152 = 0 ∧ pm_ms 152 = 0 := by decide +kernel
theorem mf6_25 : pm_fnd pm_mth 6 25 = some (3, 146, 932, 924, 0, 75, 925) := rfl
theorem cc147_146 : pm_fr 146 + 1 ≤ pm_fr 147 ∧ 8 + (pm_ml 146 + 11) + pm_lo 146 ≤ pm_lo 147 ∧ pm_mc 146 = 0 ∧ pm_ms 146 = 0 := by decide +kernel
theorem mf2_43 : pm_fnd pm_mth 2 43 = some (3, 146, 938, 924, 0, 75, 925) := rfl
theorem cc148_146 : pm_fr 146 + 1 ≤ pm_fr 148 ∧ 8 + (pm_ml 146 + 11) + pm_lo 146 ≤ pm_lo 148 ∧ pm_mc 146 = 0 ∧ pm_ms 146 = 0 := by decide +kernel
theorem cc148_50 : pm_fr 50 + 1 ≤ pm_fr 148 ∧ 8 + (pm_ml 50 + 11) + pm_lo 50 ≤ pm_lo 148 ∧ pm_mc 50 = 0 ∧ pm_ms 50 = 0 := by decide +kernel
theorem mf0_26 : pm_fnd pm_mth 0 26 = some (3, 146, 943, 924, 0, 75, 925) := rfl
theorem cc149_146 : pm_fr 146 + 1 ≤ pm_fr 149 ∧ 8 + (pm_ml 146 + 11) + pm_lo 146 ≤ pm_lo 149 ∧ pm_mc 146 = 0 ∧ pm_ms 146 = 0 := by decide +kernel
theorem mf4_38 : pm_fnd pm_mth 4 38 = some (3, 146, 949, 924, 0, 75, 925) := rfl
theorem cc150_146 : pm_fr 146 + 1 ≤ pm_fr 150 ∧ 8 + (pm_ml 146 + 11) + pm_lo 146 ≤ pm_lo 150 ∧ pm_mc 146 = 0 ∧ pm_ms 146 = 0 := by decide +kernel
theorem mf5_23 : pm_fnd pm_mth 5 23 = some (3, 146, 954, 924, 0, 75, 925) := rfl
theorem cc151_146 : pm_fr 146 + 1 ≤ pm_fr 151 ∧ 8 + (pm_ml 146 + 11) + pm_lo 146 ≤ pm_lo 151 ∧ pm_mc 146 = 0 ∧ pm_ms 146 = 0 := by decide +kernel
theorem mf9_19 : pm_fnd pm_mth 9 19 = some (3, 146, 959, 924, 0, 75, 925) := rfl
theorem cc152_146 : pm_fr 146 + 1 ≤ pm_fr 152 ∧ 8 + (pm_ml 146 + 11) + pm_lo 146 ≤ pm_lo 152 ∧ pm_mc 146 = 0 ∧ pm_ms 146 = 0 := by decide +kernel
theorem fl11_88 : pm_fnd pm_fl 11 88 = some (11, 0, 966) := by decide +kernel
theorem mf11_92 : pm_fnd pm_mth 11 92 = some (0, 156, 1120, 1121, 0, 86, 1122) := rfl
theorem cc155_156 : pm_fr 156 + 1 ≤ pm_fr 155 ∧ 8 + (pm_ml 156 + 11) + pm_lo 156 ≤ pm_lo 155 ∧ pm_mc 156 = 0 ∧ pm_ms 156 = 0 := by decide +kernel
theorem fl11_7 : pm_fnd pm_fl 11 7 = some (11, 1, 967) := by decide +kernel
theorem fl11_96 : pm_fnd pm_fl 11 96 = some (11, 2, 968) := by decide +kernel
theorem fl11_99 : pm_fnd pm_fl 11 99 = some (11, 3, 969) := by decide +kernel
theorem fl11_84 : pm_fnd pm_fl 11 84 = some (11, 4, 970) := by decide +kernel
theorem mf11_102 : pm_fnd pm_mth 11 102 = some (0, 161, 1139, 1140, 0, 86, 1141) := rfl
theorem cc160_161 : pm_fr 161 + 1 ≤ pm_fr 160 ∧ 8 + (pm_ml 161 + 11) + pm_lo 161 ≤ pm_lo 160 ∧ pm_mc 161 = 0 ∧ pm_ms 161 = 0 := by decide +kernel
theorem mf11_106 : pm_fnd pm_mth 11 106 = some (1, 162, 1142, 1144, 32, 86, 1145) := rfl
theorem cc160_162 : pm_fr 162 + 1 ≤ pm_fr 160 ∧ 8 + (pm_ml 162 + 11) + pm_lo 162 ≤ pm_lo 160 ∧ pm_mc 162 = 0 ∧ pm_ms 162 = 0 := by decide +kernel
theorem fl11_13 : pm_fnd pm_fl 11 13 = some (11, 5, 971) := by decide +kernel
theorem fl11_16 : pm_fnd pm_fl 11 16 = some (11, 6, 972) := by decide +kernel
theorem cc161_156 : pm_fr 156 + 1 ≤ pm_fr 161 ∧ 8 + (pm_ml 156 + 11) + pm_lo 156 ≤ pm_lo 161 ∧ pm_mc 156 = 0 ∧ pm_ms 156 = 0 := by decide +kernel
theorem cc163_161 : pm_fr 161 + 1 ≤ pm_fr 163 ∧ 8 + (pm_ml 161 + 11) + pm_lo 161 ≤ pm_lo 163 ∧ pm_mc 161 = 0 ∧ pm_ms 161 = 0 := by decide +kernel
theorem cc163_162 : pm_fr 162 + 1 ≤ pm_fr 163 ∧ 8 + (pm_ml 162 + 11) + pm_lo 162 ≤ pm_lo 163 ∧ pm_mc 162 = 0 ∧ pm_ms 162 = 0 := by decide +kernel
theorem cc163_156 : pm_fr 156 + 1 ≤ pm_fr 163 ∧ 8 + (pm_ml 156 + 11) + pm_lo 156 ≤ pm_lo 163 ∧ pm_mc 156 = 0 ∧ pm_ms 156 = 0 := by decide +kernel
theorem mf11_110 : pm_fnd pm_mth 11 110 = some (1, 164, 1150, 1152, 33, 86, 1153) := rfl
theorem cc163_164 : pm_fr 164 + 1 ≤ pm_fr 163 ∧ 8 + (pm_ml 164 + 11) + pm_lo 164 ≤ pm_lo 163 ∧ pm_mc 164 = 0 ∧ pm_ms 164 = 0 := by decide +kernel
theorem mf11_114 : pm_fnd pm_mth 11 114 = some (1, 165, 1154, 1156, 34, 86, 1157) := rfl
theorem cc163_165 : pm_fr 165 + 1 ≤ pm_fr 163 ∧ 8 + (pm_ml 165 + 11) + pm_lo 165 ≤ pm_lo 163 ∧ pm_mc 165 = 0 ∧ pm_ms 165 = 0 := by decide +kernel
theorem cc166_161 : pm_fr 161 + 1 ≤ pm_fr 166 ∧ 8 + (pm_ml 161 + 11) + pm_lo 161 ≤ pm_lo 166 ∧ pm_mc 161 = 0 ∧ pm_ms 161 = 0 := by decide +kernel
theorem cc166_162 : pm_fr 162 + 1 ≤ pm_fr 166 ∧ 8 + (pm_ml 162 + 11) + pm_lo 162 ≤ pm_lo 166 ∧ pm_mc 162 = 0 ∧ pm_ms 162 = 0 := by decide +kernel
theorem cc166_156 : pm_fr 156 + 1 ≤ pm_fr 166 ∧ 8 + (pm_ml 156 + 11) + pm_lo 156 ≤ pm_lo 166 ∧ pm_mc 156 = 0 ∧ pm_ms 156 = 0 := by decide +kernel
theorem cc166_164 : pm_fr 164 + 1 ≤ pm_fr 166 ∧ 8 + (pm_ml 164 + 11) + pm_lo 164 ≤ pm_lo 166 ∧ pm_mc 164 = 0 ∧ pm_ms 164 = 0 := by decide +kernel
theorem cc166_165 : pm_fr 165 + 1 ≤ pm_fr 166 ∧ 8 + (pm_ml 165 + 11) + pm_lo 165 ≤ pm_lo 166 ∧ pm_mc 165 = 0 ∧ pm_ms 165 = 0 := by decide +kernel
theorem cc167_161 : pm_fr 161 + 1 ≤ pm_fr 167 ∧ 8 + (pm_ml 161 + 11) + pm_lo 161 ≤ pm_lo 167 ∧ pm_mc 161 = 0 ∧ pm_ms 161 = 0 := by decide +kernel
theorem cc167_162 : pm_fr 162 + 1 ≤ pm_fr 167 ∧ 8 + (pm_ml 162 + 11) + pm_lo 162 ≤ pm_lo 167 ∧ pm_mc 162 = 0 ∧ pm_ms 162 = 0 := by decide +kernel
theorem cc168_161 : pm_fr 161 + 1 ≤ pm_fr 168 ∧ 8 + (pm_ml 161 + 11) + pm_lo 161 ≤ pm_lo 168 ∧ pm_mc 161 = 0 ∧ pm_ms 161 = 0 := by decide +kernel
theorem cc168_162 : pm_fr 162 + 1 ≤ pm_fr 168 ∧ 8 + (pm_ml 162 + 11) + pm_lo 162 ≤ pm_lo 168 ∧ pm_mc 162 = 0 ∧ pm_ms 162 = 0 := by decide +kernel
theorem fl11_19 : pm_fnd pm_fl 11 19 = some (11, 7, 973) := by decide +kernel
theorem cc168_164 : pm_fr 164 + 1 ≤ pm_fr 168 ∧ 8 + (pm_ml 164 + 11) + pm_lo 164 ≤ pm_lo 168 ∧ pm_mc 164 = 0 ∧ pm_ms 164 = 0 := by decide +kernel
theorem cc169_161 : pm_fr 161 + 1 ≤ pm_fr 169 ∧ 8 + (pm_ml 161 + 11) + pm_lo 161 ≤ pm_lo 169 ∧ pm_mc 161 = 0 ∧ pm_ms 161 = 0 := by decide +kernel
theorem cc169_162 : pm_fr 162 + 1 ≤ pm_fr 169 ∧ 8 + (pm_ml 162 + 11) + pm_lo 162 ≤ pm_lo 169 ∧ pm_mc 162 = 0 ∧ pm_ms 162 = 0 := by decide +kernel
theorem cc169_164 : pm_fr 164 + 1 ≤ pm_fr 169 ∧ 8 + (pm_ml 164 + 11) + pm_lo 164 ≤ pm_lo 169 ∧ pm_mc 164 = 0 ∧ pm_ms 164 = 0 := by decide +kernel
theorem cc169_165 : pm_fr 165 + 1 ≤ pm_fr 169 ∧ 8 + (pm_ml 165 + 11) + pm_lo 165 ≤ pm_lo 169 ∧ pm_mc 165 = 0 ∧ pm_ms 165 = 0 := by decide +kernel
theorem mf11_117 : pm_fnd pm_mth 11 117 = some (0, 171, 1178, 1179, 0, 86, 1180) := rfl
theorem cc170_171 : pm_fr 171 + 1 ≤ pm_fr 170 ∧ 8 + (pm_ml 171 + 11) + pm_lo 171 ≤ pm_lo 170 ∧ pm_mc 171 = 0 ∧ pm_ms 171 = 0 := by decide +kernel
theorem cc170_162 : pm_fr 162 + 1 ≤ pm_fr 170 ∧ 8 + (pm_ml 162 + 11) + pm_lo 162 ≤ pm_lo 170 ∧ pm_mc 162 = 0 ∧ pm_ms 162 = 0 := by decide +kernel
theorem fl11_22 : pm_fnd pm_fl 11 22 = some (11, 8, 974) := by decide +kernel
theorem fl11_25 : pm_fnd pm_fl 11 25 = some (11, 9, 975) := by decide +kernel
theorem cc171_156 : pm_fr 156 + 1 ≤ pm_fr 171 ∧ 8 + (pm_ml 156 + 11) + pm_lo 156 ≤ pm_lo 171 ∧ pm_mc 156 = 0 ∧ pm_ms 156 = 0 := by decide +kernel
theorem cc172_171 : pm_fr 171 + 1 ≤ pm_fr 172 ∧ 8 + (pm_ml 171 + 11) + pm_lo 171 ≤ pm_lo 172 ∧ pm_mc 171 = 0 ∧ pm_ms 171 = 0 := by decide +kernel
theorem cc172_162 : pm_fr 162 + 1 ≤ pm_fr 172 ∧ 8 + (pm_ml 162 + 11) + pm_lo 162 ≤ pm_lo 172 ∧ pm_mc 162 = 0 ∧ pm_ms 162 = 0 := by decide +kernel
theorem cc172_156 : pm_fr 156 + 1 ≤ pm_fr 172 ∧ 8 + (pm_ml 156 + 11) + pm_lo 156 ≤ pm_lo 172 ∧ pm_mc 156 = 0 ∧ pm_ms 156 = 0 := by decide +kernel
theorem cc173_171 : pm_fr 171 + 1 ≤ pm_fr 173 ∧ 8 + (pm_ml 171 + 11) + pm_lo 171 ≤ pm_lo 173 ∧ pm_mc 171 = 0 ∧ pm_ms 171 = 0 := by decide +kernel
theorem cc173_162 : pm_fr 162 + 1 ≤ pm_fr 173 ∧ 8 + (pm_ml 162 + 11) + pm_lo 162 ≤ pm_lo 173 ∧ pm_mc 162 = 0 ∧ pm_ms 162 = 0 := by decide +kernel
theorem mf11_160 : pm_fnd pm_mth 11 160 = some (1, 174, 1189, 1191, 35, 86, 1192) := rfl
theorem cc173_174 : pm_fr 174 + 1 ≤ pm_fr 173 ∧ 8 + (pm_ml 174 + 11) + pm_lo 174 ≤ pm_lo 173 ∧ pm_mc 174 = 0 ∧ pm_ms 174 = 0 := by decide +kernel
theorem mf11_163 : pm_fnd pm_mth 11 163 = some (1, 181, 1217, 1219, 42, 86, 1220) := rfl
theorem cc173_181 : pm_fr 181 + 1 ≤ pm_fr 173 ∧ 8 + (pm_ml 181 + 11) + pm_lo 181 ≤ pm_lo 173 ∧ pm_mc 181 = 0 ∧ pm_ms 181 = 0 := by decide +kernel
theorem fl11_123 : pm_fnd pm_fl 11 123 = some (11, 16, 982) := by decide +kernel
theorem fl11_139 : pm_fnd pm_fl 11 139 = some (11, 18, 984) := by decide +kernel
theorem fl11_148 : pm_fnd pm_fl 11 148 = some (11, 19, 985) := by decide +kernel
theorem fl11_145 : pm_fnd pm_fl 11 145 = some (11, 20, 986) := by decide +kernel
theorem fl11_51 : pm_fnd pm_fl 11 51 = some (11, 22, 988) := by decide +kernel
theorem mf11_126 : pm_fnd pm_mth 11 126 = some (1, 175, 1193, 1195, 36, 86, 1196) := rfl
theorem cc174_175 : pm_fr 175 + 1 ≤ pm_fr 174 ∧ 8 + (pm_ml 175 + 11) + pm_lo 175 ≤ pm_lo 174 ∧ pm_mc 175 = 0 ∧ pm_ms 175 = 0 := by decide +kernel
theorem mf11_154 : pm_fnd pm_mth 11 154 = some (1, 176, 1197, 1199, 37, 86, 1200) := rfl
theorem cc174_176 : pm_fr 176 + 1 ≤ pm_fr 174 ∧ 8 + (pm_ml 176 + 11) + pm_lo 176 ≤ pm_lo 174 ∧ pm_mc 176 = 0 ∧ pm_ms 176 = 0 := by decide +kernel
theorem mf11_157 : pm_fnd pm_mth 11 157 = some (1, 179, 1209, 1211, 40, 86, 1212) := rfl
theorem cc174_179 : pm_fr 179 + 1 ≤ pm_fr 174 ∧ 8 + (pm_ml 179 + 11) + pm_lo 179 ≤ pm_lo 174 ∧ pm_mc 179 = 0 ∧ pm_ms 179 = 0 := by decide +kernel
theorem mf11_135 : pm_fnd pm_mth 11 135 = some (1, 177, 1201, 1203, 38, 86, 1204) := rfl
theorem cc176_177 : pm_fr 177 + 1 ≤ pm_fr 176 ∧ 8 + (pm_ml 177 + 11) + pm_lo 177 ≤ pm_lo 176 ∧ pm_mc 177 = 0 ∧ pm_ms 177 = 0 := by decide +kernel
theorem mf11_151 : pm_fnd pm_mth 11 151 = some (1, 178, 1205, 1207, 39, 86, 1208) := rfl
theorem cc176_178 : pm_fr 178 + 1 ≤ pm_fr 176 ∧ 8 + (pm_ml 178 + 11) + pm_lo 178 ≤ pm_lo 176 ∧ pm_mc 178 = 0 ∧ pm_ms 178 = 0 := by decide +kernel
theorem fl11_129 : pm_fnd pm_fl 11 129 = some (11, 17, 983) := by decide +kernel
theorem cc177_175 : pm_fr 175 + 1 ≤ pm_fr 177 ∧ 8 + (pm_ml 175 + 11) + pm_lo 175 ≤ pm_lo 177 ∧ pm_mc 175 = 0 ∧ pm_ms 175 = 0 := by decide +kernel
theorem cc178_175 : pm_fr 175 + 1 ≤ pm_fr 178 ∧ 8 + (pm_ml 175 + 11) + pm_lo 175 ≤ pm_lo 178 ∧ pm_mc 175 = 0 ∧ pm_ms 175 = 0 := by decide +kernel
theorem cc178_156 : pm_fr 156 + 1 ≤ pm_fr 178 ∧ 8 + (pm_ml 156 + 11) + pm_lo 156 ≤ pm_lo 178 ∧ pm_mc 156 = 0 ∧ pm_ms 156 = 0 := by decide +kernel
theorem cc179_177 : pm_fr 177 + 1 ≤ pm_fr 179 ∧ 8 + (pm_ml 177 + 11) + pm_lo 177 ≤ pm_lo 179 ∧ pm_mc 177 = 0 ∧ pm_ms 177 = 0 := by decide +kernel
theorem cc179_178 : pm_fr 178 + 1 ≤ pm_fr 179 ∧ 8 + (pm_ml 178 + 11) + pm_lo 178 ≤ pm_lo 179 ∧ pm_mc 178 = 0 ∧ pm_ms 178 = 0 := by decide +kernel
theorem mf11_132 : pm_fnd pm_mth 11 132 = some (1, 180, 1213, 1215, 41, 86, 1216) := rfl
theorem cc179_180 : pm_fr 180 + 1 ≤ pm_fr 179 ∧ 8 + (pm_ml 180 + 11) + pm_lo 180 ≤ pm_lo 179 ∧ pm_mc 180 = 0 ∧ pm_ms 180 = 0 := by decide +kernel
theorem cc180_175 : pm_fr 175 + 1 ≤ pm_fr 180 ∧ 8 + (pm_ml 175 + 11) + pm_lo 175 ≤ pm_lo 180 ∧ pm_mc 175 = 0 ∧ pm_ms 175 = 0 := by decide +kernel
theorem cc180_156 : pm_fr 156 + 1 ≤ pm_fr 180 ∧ 8 + (pm_ml 156 + 11) + pm_lo 156 ≤ pm_lo 180 ∧ pm_mc 156 = 0 ∧ pm_ms 156 = 0 := by decide +kernel
theorem cc181_175 : pm_fr 175 + 1 ≤ pm_fr 181 ∧ 8 + (pm_ml 175 + 11) + pm_lo 175 ≤ pm_lo 181 ∧ pm_mc 175 = 0 ∧ pm_ms 175 = 0 := by decide +kernel
theorem mf11_142 : pm_fnd pm_mth 11 142 = some (1, 182, 1221, 1223, 43, 86, 1224) := rfl
theorem cc181_182 : pm_fr 182 + 1 ≤ pm_fr 181 ∧ 8 + (pm_ml 182 + 11) + pm_lo 182 ≤ pm_lo 181 ∧ pm_mc 182 = 0 ∧ pm_ms 182 = 0 := by decide +kernel
theorem fl11_48 : pm_fnd pm_fl 11 48 = some (11, 21, 987) := by decide +kernel
theorem cc182_180 : pm_fr 180 + 1 ≤ pm_fr 182 ∧ 8 + (pm_ml 180 + 11) + pm_lo 180 ≤ pm_lo 182 ∧ pm_mc 180 = 0 ∧ pm_ms 180 = 0 := by decide +kernel
theorem cc182_177 : pm_fr 177 + 1 ≤ pm_fr 182 ∧ 8 + (pm_ml 177 + 11) + pm_lo 177 ≤ pm_lo 182 ∧ pm_mc 177 = 0 ∧ pm_ms 177 = 0 := by decide +kernel
theorem mf11_166 : pm_fnd pm_mth 11 166 = some (0, 184, 1229, 1230, 0, 86, 1231) := rfl
theorem cc183_184 : pm_fr 184 + 1 ≤ pm_fr 183 ∧ 8 + (pm_ml 184 + 11) + pm_lo 184 ≤ pm_lo 183 ∧ pm_mc 184 = 0 ∧ pm_ms 184 = 0 := by decide +kernel
theorem cc183_171 : pm_fr 171 + 1 ≤ pm_fr 183 ∧ 8 + (pm_ml 171 + 11) + pm_lo 171 ≤ pm_lo 183 ∧ pm_mc 171 = 0 ∧ pm_ms 171 = 0 := by decide +kernel
theorem cc183_162 : pm_fr 162 + 1 ≤ pm_fr 183 ∧ 8 + (pm_ml 162 + 11) + pm_lo 162 ≤ pm_lo 183 ∧ pm_mc 162 = 0 ∧ pm_ms 162 = 0 := by decide +kernel
theorem cc183_181 : pm_fr 181 + 1 ≤ pm_fr 183 ∧ 8 + (pm_ml 181 + 11) + pm_lo 181 ≤ pm_lo 183 ∧ pm_mc 181 = 0 ∧ pm_ms 181 = 0 := by decide +kernel
theorem fl11_36 : pm_fnd pm_fl 11 36 = some (11, 12, 978) := by decide +kernel
theorem fl11_29 : pm_fnd pm_fl 11 29 = some (11, 10, 976) := by decide +kernel
theorem fl11_32 : pm_fnd pm_fl 11 32 = some (11, 11, 977) := by decide +kernel
theorem cc184_156 : pm_fr 156 + 1 ≤ pm_fr 184 ∧ 8 + (pm_ml 156 + 11) + pm_lo 156 ≤ pm_lo 184 ∧ pm_mc 156 = 0 ∧ pm_ms 156 = 0 := by decide +kernel
theorem cc185_184 : pm_fr 184 + 1 ≤ pm_fr 185 ∧ 8 + (pm_ml 184 + 11) + pm_lo 184 ≤ pm_lo 185 ∧ pm_mc 184 = 0 ∧ pm_ms 184 = 0 := by decide +kernel
theorem cc185_156 : pm_fr 156 + 1 ≤ pm_fr 185 ∧ 8 + (pm_ml 156 + 11) + pm_lo 156 ≤ pm_lo 185 ∧ pm_mc 156 = 0 ∧ pm_ms 156 = 0 := by decide +kernel
theorem mf11_169 : pm_fnd pm_mth 11 169 = some (1, 186, 1236, 1238, 44, 86, 1239) := rfl
theorem cc185_186 : pm_fr 186 + 1 ≤ pm_fr 185 ∧ 8 + (pm_ml 186 + 11) + pm_lo 186 ≤ pm_lo 185 ∧ pm_mc 186 = 0 ∧ pm_ms 186 = 0 := by decide +kernel
theorem fl11_173 : pm_fnd pm_fl 11 173 = some (11, 23, 989) := by decide +kernel
theorem fl11_54 : pm_fnd pm_fl 11 54 = some (11, 24, 990) := by decide +kernel
theorem cc187_184 : pm_fr 184 + 1 ≤ pm_fr 187 ∧ 8 + (pm_ml 184 + 11) + pm_lo 184 ≤ pm_lo 187 ∧ pm_mc 184 = 0 ∧ pm_ms 184 = 0 := by decide +kernel
theorem cc187_171 : pm_fr 171 + 1 ≤ pm_fr 187 ∧ 8 + (pm_ml 171 + 11) + pm_lo 171 ≤ pm_lo 187 ∧ pm_mc 171 = 0 ∧ pm_ms 171 = 0 := by decide +kernel
theorem cc187_162 : pm_fr 162 + 1 ≤ pm_fr 187 ∧ 8 + (pm_ml 162 + 11) + pm_lo 162 ≤ pm_lo 187 ∧ pm_mc 162 = 0 ∧ pm_ms 162 = 0 := by decide +kernel
theorem cc187_174 : pm_fr 174 + 1 ≤ pm_fr 187 ∧ 8 + (pm_ml 174 + 11) + pm_lo 174 ≤ pm_lo 187 ∧ pm_mc 174 = 0 ∧ pm_ms 174 = 0 := by decide +kernel
theorem fl11_45 : pm_fnd pm_fl 11 45 = some (11, 15, 981) := by decide +kernel
theorem fl11_42 : pm_fnd pm_fl 11 42 = some (11, 14, 980) := by decide +kernel
theorem fl11_39 : pm_fnd pm_fl 11 39 = some (11, 13, 979) := by decide +kernel
theorem cc188_184 : pm_fr 184 + 1 ≤ pm_fr 188 ∧ 8 + (pm_ml 184 + 11) + pm_lo 184 ≤ pm_lo 188 ∧ pm_mc 184 = 0 ∧ pm_ms 184 = 0 := by decide +kernel
theorem cc188_162 : pm_fr 162 + 1 ≤ pm_fr 188 ∧ 8 + (pm_ml 162 + 11) + pm_lo 162 ≤ pm_lo 188 ∧ pm_mc 162 = 0 ∧ pm_ms 162 = 0 := by decide +kernel
theorem cc188_156 : pm_fr 156 + 1 ≤ pm_fr 188 ∧ 8 + (pm_ml 156 + 11) + pm_lo 156 ≤ pm_lo 188 ∧ pm_mc 156 = 0 ∧ pm_ms 156 = 0 := by decide +kernel
theorem mf11_176 : pm_fnd pm_mth 11 176 = some (1, 189, 1248, 1250, 45, 86, 1251) := rfl
theorem cc188_189 : pm_fr 189 + 1 ≤ pm_fr 188 ∧ 8 + (pm_ml 189 + 11) + pm_lo 189 ≤ pm_lo 188 ∧ pm_mc 189 = 0 ∧ pm_ms 189 = 0 := by decide +kernel
theorem mf11_120 : pm_fnd pm_mth 11 120 = some (0, 190, 1252, 1253, 0, 86, 1254) := rfl
theorem cc188_190 : pm_fr 190 + 1 ≤ pm_fr 188 ∧ 8 + (pm_ml 190 + 11) + pm_lo 190 ≤ pm_lo 188 ∧ pm_mc 190 = 0 ∧ pm_ms 190 = 0 := by decide +kernel
theorem cc188_165 : pm_fr 165 + 1 ≤ pm_fr 188 ∧ 8 + (pm_ml 165 + 11) + pm_lo 165 ≤ pm_lo 188 ∧ pm_mc 165 = 0 ∧ pm_ms 165 = 0 := by decide +kernel
theorem cc191_184 : pm_fr 184 + 1 ≤ pm_fr 191 ∧ 8 + (pm_ml 184 + 11) + pm_lo 184 ≤ pm_lo 191 ∧ pm_mc 184 = 0 ∧ pm_ms 184 = 0 := by decide +kernel
theorem cc191_156 : pm_fr 156 + 1 ≤ pm_fr 191 ∧ 8 + (pm_ml 156 + 11) + pm_lo 156 ≤ pm_lo 191 ∧ pm_mc 156 = 0 ∧ pm_ms 156 = 0 := by decide +kernel
theorem cc191_162 : pm_fr 162 + 1 ≤ pm_fr 191 ∧ 8 + (pm_ml 162 + 11) + pm_lo 162 ≤ pm_lo 191 ∧ pm_mc 162 = 0 ∧ pm_ms 162 = 0 := by decide +kernel
theorem cc191_189 : pm_fr 189 + 1 ≤ pm_fr 191 ∧ 8 + (pm_ml 189 + 11) + pm_lo 189 ≤ pm_lo 191 ∧ pm_mc 189 = 0 ∧ pm_ms 189 = 0 := by decide +kernel
theorem cc191_190 : pm_fr 190 + 1 ≤ pm_fr 191 ∧ 8 + (pm_ml 190 + 11) + pm_lo 190 ≤ pm_lo 191 ∧ pm_mc 190 = 0 ∧ pm_ms 190 = 0 := by decide +kernel
theorem mf11_179 : pm_fnd pm_mth 11 179 = some (0, 192, 1259, 1260, 0, 86, 1261) := rfl
theorem cc191_192 : pm_fr 192 + 1 ≤ pm_fr 191 ∧ 8 + (pm_ml 192 + 11) + pm_lo 192 ≤ pm_lo 191 ∧ pm_mc 192 = 0 ∧ pm_ms 192 = 0 := by decide +kernel
theorem mf11_182 : pm_fnd pm_mth 11 182 = some (0, 193, 1262, 1263, 0, 86, 1264) := rfl
theorem cc191_193 : pm_fr 193 + 1 ≤ pm_fr 191 ∧ 8 + (pm_ml 193 + 11) + pm_lo 193 ≤ pm_lo 191 ∧ pm_mc 193 = 0 ∧ pm_ms 193 = 0 := by decide +kernel
theorem cc193_190 : pm_fr 190 + 1 ≤ pm_fr 193 ∧ 8 + (pm_ml 190 + 11) + pm_lo 190 ≤ pm_lo 193 ∧ pm_mc 190 = 0 ∧ pm_ms 190 = 0 := by decide +kernel
theorem cc194_184 : pm_fr 184 + 1 ≤ pm_fr 194 ∧ 8 + (pm_ml 184 + 11) + pm_lo 184 ≤ pm_lo 194 ∧ pm_mc 184 = 0 ∧ pm_ms 184 = 0 := by decide +kernel
theorem cc194_162 : pm_fr 162 + 1 ≤ pm_fr 194 ∧ 8 + (pm_ml 162 + 11) + pm_lo 162 ≤ pm_lo 194 ∧ pm_mc 162 = 0 ∧ pm_ms 162 = 0 := by decide +kernel
theorem mf11_185 : pm_fnd pm_mth 11 185 = some (1, 195, 1269, 1271, 46, 86, 1272) := rfl
theorem cc194_195 : pm_fr 195 + 1 ≤ pm_fr 194 ∧ 8 + (pm_ml 195 + 11) + pm_lo 195 ≤ pm_lo 194 ∧ pm_mc 195 = 0 ∧ pm_ms 195 = 0 := by decide +kernel
theorem cc194_156 : pm_fr 156 + 1 ≤ pm_fr 194 ∧ 8 + (pm_ml 156 + 11) + pm_lo 156 ≤ pm_lo 194 ∧ pm_mc 156 = 0 ∧ pm_ms 156 = 0 := by decide +kernel
theorem mf11_188 : pm_fnd pm_mth 11 188 = some (1, 196, 1273, 1275, 47, 86, 1276) := rfl
theorem cc194_196 : pm_fr 196 + 1 ≤ pm_fr 194 ∧ 8 + (pm_ml 196 + 11) + pm_lo 196 ≤ pm_lo 194 ∧ pm_mc 196 = 0 ∧ pm_ms 196 = 0 := by decide +kernel
theorem cc194_165 : pm_fr 165 + 1 ≤ pm_fr 194 ∧ 8 + (pm_ml 165 + 11) + pm_lo 165 ≤ pm_lo 194 ∧ pm_mc 165 = 0 ∧ pm_ms 165 = 0 := by decide +kernel
theorem cc197_184 : pm_fr 184 + 1 ≤ pm_fr 197 ∧ 8 + (pm_ml 184 + 11) + pm_lo 184 ≤ pm_lo 197 ∧ pm_mc 184 = 0 ∧ pm_ms 184 = 0 := by decide +kernel
theorem cc197_161 : pm_fr 161 + 1 ≤ pm_fr 197 ∧ 8 + (pm_ml 161 + 11) + pm_lo 161 ≤ pm_lo 197 ∧ pm_mc 161 = 0 ∧ pm_ms 161 = 0 := by decide +kernel
theorem cc197_162 : pm_fr 162 + 1 ≤ pm_fr 197 ∧ 8 + (pm_ml 162 + 11) + pm_lo 162 ≤ pm_lo 197 ∧ pm_mc 162 = 0 ∧ pm_ms 162 = 0 := by decide +kernel
theorem mf11_206 : pm_fnd pm_mth 11 206 = some (1, 198, 1281, 1283, 48, 86, 1284) := rfl
theorem cc197_198 : pm_fr 198 + 1 ≤ pm_fr 197 ∧ 8 + (pm_ml 198 + 11) + pm_lo 198 ≤ pm_lo 197 ∧ pm_mc 198 = 0 ∧ pm_ms 198 = 0 := by decide +kernel
theorem mf11_210 : pm_fnd pm_mth 11 210 = some (1, 199, 1285, 1287, 49, 86, 1288) := rfl
theorem cc197_199 : pm_fr 199 + 1 ≤ pm_fr 197 ∧ 8 + (pm_ml 199 + 11) + pm_lo 199 ≤ pm_lo 197 ∧ pm_mc 199 = 0 ∧ pm_ms 199 = 0 := by decide +kernel
theorem fl11_191 : pm_fnd pm_fl 11 191 = some (11, 25, 991) := by decide +kernel
theorem mf11_203 : pm_fnd pm_mth 11 203 = some (1, 200, 1289, 1291, 50, 86, 1292) := rfl
theorem cc197_200 : pm_fr 200 + 1 ≤ pm_fr 197 ∧ 8 + (pm_ml 200 + 11) + pm_lo 200 ≤ pm_lo 197 ∧ pm_mc 200 = 0 ∧ pm_ms 200 = 0 := by decide +kernel
theorem fl11_197 : pm_fnd pm_fl 11 197 = some (11, 29, 995) := by decide +kernel
theorem cc197_165 : pm_fr 165 + 1 ≤ pm_fr 197 ∧ 8 + (pm_ml 165 + 11) + pm_lo 165 ≤ pm_lo 197 ∧ pm_mc 165 = 0 ∧ pm_ms 165 = 0 := by decide +kernel
theorem cc198_162 : pm_fr 162 + 1 ≤ pm_fr 198 ∧ 8 + (pm_ml 162 + 11) + pm_lo 162 ≤ pm_lo 198 ∧ pm_mc 162 = 0 ∧ pm_ms 162 = 0 := by decide +kernel
theorem cc198_156 : pm_fr 156 + 1 ≤ pm_fr 198 ∧ 8 + (pm_ml 156 + 11) + pm_lo 156 ≤ pm_lo 198 ∧ pm_mc 156 = 0 ∧ pm_ms 156 = 0 := by decide +kernel
theorem cc198_164 : pm_fr 164 + 1 ≤ pm_fr 198 ∧ 8 + (pm_ml 164 + 11) + pm_lo 164 ≤ pm_lo 198 ∧ pm_mc 164 = 0 ∧ pm_ms 164 = 0 := by decide +kernel
theorem fl11_60 : pm_fnd pm_fl 11 60 = some (11, 27, 993) := by decide +kernel
theorem mf11_194 : pm_fnd pm_mth 11 194 = some (1, 201, 1293, 1295, 51, 86, 1296) := rfl
theorem cc200_201 : pm_fr 201 + 1 ≤ pm_fr 200 ∧ 8 + (pm_ml 201 + 11) + pm_lo 201 ≤ pm_lo 200 ∧ pm_mc 201 = 0 ∧ pm_ms 201 = 0 := by decide +kernel
theorem cc200_190 : pm_fr 190 + 1 ≤ pm_fr 200 ∧ 8 + (pm_ml 190 + 11) + pm_lo 190 ≤ pm_lo 200 ∧ pm_mc 190 = 0 ∧ pm_ms 190 = 0 := by decide +kernel
theorem cc200_193 : pm_fr 193 + 1 ≤ pm_fr 200 ∧ 8 + (pm_ml 193 + 11) + pm_lo 193 ≤ pm_lo 200 ∧ pm_mc 193 = 0 ∧ pm_ms 193 = 0 := by decide +kernel
theorem cc200_192 : pm_fr 192 + 1 ≤ pm_fr 200 ∧ 8 + (pm_ml 192 + 11) + pm_lo 192 ≤ pm_lo 200 ∧ pm_mc 192 = 0 ∧ pm_ms 192 = 0 := by decide +kernel
theorem cc201_190 : pm_fr 190 + 1 ≤ pm_fr 201 ∧ 8 + (pm_ml 190 + 11) + pm_lo 190 ≤ pm_lo 201 ∧ pm_mc 190 = 0 ∧ pm_ms 190 = 0 := by decide +kernel
theorem cc201_193 : pm_fr 193 + 1 ≤ pm_fr 201 ∧ 8 + (pm_ml 193 + 11) + pm_lo 193 ≤ pm_lo 201 ∧ pm_mc 193 = 0 ∧ pm_ms 193 = 0 := by decide +kernel
theorem cc202_161 : pm_fr 161 + 1 ≤ pm_fr 202 ∧ 8 + (pm_ml 161 + 11) + pm_lo 161 ≤ pm_lo 202 ∧ pm_mc 161 = 0 ∧ pm_ms 161 = 0 := by decide +kernel
theorem mf11_219 : pm_fnd pm_mth 11 219 = some (1, 203, 1301, 1303, 52, 86, 1304) := rfl
theorem cc202_203 : pm_fr 203 + 1 ≤ pm_fr 202 ∧ 8 + (pm_ml 203 + 11) + pm_lo 203 ≤ pm_lo 202 ∧ pm_mc 203 = 0 ∧ pm_ms 203 = 0 := by decide +kernel
theorem mf11_222 : pm_fnd pm_mth 11 222 = some (1, 204, 1305, 1307, 53, 86, 1308) := rfl
theorem cc202_204 : pm_fr 204 + 1 ≤ pm_fr 202 ∧ 8 + (pm_ml 204 + 11) + pm_lo 204 ≤ pm_lo 202 ∧ pm_mc 204 = 0 ∧ pm_ms 204 = 0 := by decide +kernel
theorem fl11_200 : pm_fnd pm_fl 11 200 = some (11, 28, 994) := by decide +kernel
theorem cc202_165 : pm_fr 165 + 1 ≤ pm_fr 202 ∧ 8 + (pm_ml 165 + 11) + pm_lo 165 ≤ pm_lo 202 ∧ pm_mc 165 = 0 ∧ pm_ms 165 = 0 := by decide +kernel
theorem cc203_184 : pm_fr 184 + 1 ≤ pm_fr 203 ∧ 8 + (pm_ml 184 + 11) + pm_lo 184 ≤ pm_lo 203 ∧ pm_mc 184 = 0 ∧ pm_ms 184 = 0 := by decide +kernel
theorem cc203_162 : pm_fr 162 + 1 ≤ pm_fr 203 ∧ 8 + (pm_ml 162 + 11) + pm_lo 162 ≤ pm_lo 203 ∧ pm_mc 162 = 0 ∧ pm_ms 162 = 0 := by decide +kernel
theorem cc204_199 : pm_fr 199 + 1 ≤ pm_fr 204 ∧ 8 + (pm_ml 199 + 11) + pm_lo 199 ≤ pm_lo 204 ∧ pm_mc 199 = 0 ∧ pm_ms 199 = 0 := by decide +kernel
theorem mf11_213 : pm_fnd pm_mth 11 213 = some (1, 205, 1309, 1311, 54, 86, 1312) := rfl
theorem cc204_205 : pm_fr 205 + 1 ≤ pm_fr 204 ∧ 8 + (pm_ml 205 + 11) + pm_lo 205 ≤ pm_lo 204 ∧ pm_mc 205 = 0 ∧ pm_ms 205 = 0 := by decide +kernel
theorem mf11_216 : pm_fnd pm_mth 11 216 = some (1, 206, 1313, 1315, 55, 86, 1316) := rfl
theorem cc204_206 : pm_fr 206 + 1 ≤ pm_fr 204 ∧ 8 + (pm_ml 206 + 11) + pm_lo 206 ≤ pm_lo 204 ∧ pm_mc 206 = 0 ∧ pm_ms 206 = 0 := by decide +kernel
theorem fl11_57 : pm_fnd pm_fl 11 57 = some (11, 26, 992) := by decide +kernel
theorem cc206_200 : pm_fr 200 + 1 ≤ pm_fr 206 ∧ 8 + (pm_ml 200 + 11) + pm_lo 200 ≤ pm_lo 206 ∧ pm_mc 200 = 0 ∧ pm_ms 200 = 0 := by decide +kernel
theorem cc207_184 : pm_fr 184 + 1 ≤ pm_fr 207 ∧ 8 + (pm_ml 184 + 11) + pm_lo 184 ≤ pm_lo 207 ∧ pm_mc 184 = 0 ∧ pm_ms 184 = 0 := by decide +kernel
theorem cc207_161 : pm_fr 161 + 1 ≤ pm_fr 207 ∧ 8 + (pm_ml 161 + 11) + pm_lo 161 ≤ pm_lo 207 ∧ pm_mc 161 = 0 ∧ pm_ms 161 = 0 := by decide +kernel
theorem cc207_162 : pm_fr 162 + 1 ≤ pm_fr 207 ∧ 8 + (pm_ml 162 + 11) + pm_lo 162 ≤ pm_lo 207 ∧ pm_mc 162 = 0 ∧ pm_ms 162 = 0 := by decide +kernel
theorem cc207_198 : pm_fr 198 + 1 ≤ pm_fr 207 ∧ 8 + (pm_ml 198 + 11) + pm_lo 198 ≤ pm_lo 207 ∧ pm_mc 198 = 0 ∧ pm_ms 198 = 0 := by decide +kernel
theorem cc207_199 : pm_fr 199 + 1 ≤ pm_fr 207 ∧ 8 + (pm_ml 199 + 11) + pm_lo 199 ≤ pm_lo 207 ∧ pm_mc 199 = 0 ∧ pm_ms 199 = 0 := by decide +kernel
theorem cc207_200 : pm_fr 200 + 1 ≤ pm_fr 207 ∧ 8 + (pm_ml 200 + 11) + pm_lo 200 ≤ pm_lo 207 ∧ pm_mc 200 = 0 ∧ pm_ms 200 = 0 := by decide +kernel
theorem cc207_195 : pm_fr 195 + 1 ≤ pm_fr 207 ∧ 8 + (pm_ml 195 + 11) + pm_lo 195 ≤ pm_lo 207 ∧ pm_mc 195 = 0 ∧ pm_ms 195 = 0 := by decide +kernel
theorem mf11_239 : pm_fnd pm_mth 11 239 = some (1, 209, 1325, 1327, 56, 86, 1328) := rfl
theorem cc208_209 : pm_fr 209 + 1 ≤ pm_fr 208 ∧ 8 + (pm_ml 209 + 11) + pm_lo 209 ≤ pm_lo 208 ∧ pm_mc 209 = 0 ∧ pm_ms 209 = 0 := by decide +kernel
theorem fl11_226 : pm_fnd pm_fl 11 226 = some (11, 31, 997) := by decide +kernel
theorem fl11_233 : pm_fnd pm_fl 11 233 = some (11, 32, 998) := by decide +kernel
theorem cc208_165 : pm_fr 165 + 1 ≤ pm_fr 208 ∧ 8 + (pm_ml 165 + 11) + pm_lo 165 ≤ pm_lo 208 ∧ pm_mc 165 = 0 ∧ pm_ms 165 = 0 := by decide +kernel
theorem cc209_161 : pm_fr 161 + 1 ≤ pm_fr 209 ∧ 8 + (pm_ml 161 + 11) + pm_lo 161 ≤ pm_lo 209 ∧ pm_mc 161 = 0 ∧ pm_ms 161 = 0 := by decide +kernel
theorem cc209_156 : pm_fr 156 + 1 ≤ pm_fr 209 ∧ 8 + (pm_ml 156 + 11) + pm_lo 156 ≤ pm_lo 209 ∧ pm_mc 156 = 0 ∧ pm_ms 156 = 0 := by decide +kernel
theorem cc209_198 : pm_fr 198 + 1 ≤ pm_fr 209 ∧ 8 + (pm_ml 198 + 11) + pm_lo 198 ≤ pm_lo 209 ∧ pm_mc 198 = 0 ∧ pm_ms 198 = 0 := by decide +kernel
theorem cc209_186 : pm_fr 186 + 1 ≤ pm_fr 209 ∧ 8 + (pm_ml 186 + 11) + pm_lo 186 ≤ pm_lo 209 ∧ pm_mc 186 = 0 ∧ pm_ms 186 = 0 := by decide +kernel
theorem mf11_229 : pm_fnd pm_mth 11 229 = some (1, 210, 1329, 1331, 57, 86, 1332) := rfl
theorem cc209_210 : pm_fr 210 + 1 ≤ pm_fr 209 ∧ 8 + (pm_ml 210 + 11) + pm_lo 210 ≤ pm_lo 209 ∧ pm_mc 210 = 0 ∧ pm_ms 210 = 0 := by decide +kernel
theorem fl11_236 : pm_fnd pm_fl 11 236 = some (11, 30, 996) := by decide +kernel
theorem cc210_200 : pm_fr 200 + 1 ≤ pm_fr 210 ∧ 8 + (pm_ml 200 + 11) + pm_lo 200 ≤ pm_lo 210 ∧ pm_mc 200 = 0 ∧ pm_ms 200 = 0 := by decide +kernel
theorem cc211_209 : pm_fr 209 + 1 ≤ pm_fr 211 ∧ 8 + (pm_ml 209 + 11) + pm_lo 209 ≤ pm_lo 211 ∧ pm_mc 209 = 0 ∧ pm_ms 209 = 0 := by decide +kernel
theorem cc212_203 : pm_fr 203 + 1 ≤ pm_fr 212 ∧ 8 + (pm_ml 203 + 11) + pm_lo 203 ≤ pm_lo 212 ∧ pm_mc 203 = 0 ∧ pm_ms 203 = 0 := by decide +kernel
theorem fl11_66 : pm_fnd pm_fl 11 66 = some (11, 34, 1000) := by decide +kernel
theorem fl11_63 : pm_fnd pm_fl 11 63 = some (11, 33, 999) := by decide +kernel
theorem cc213_200 : pm_fr 200 + 1 ≤ pm_fr 213 ∧ 8 + (pm_ml 200 + 11) + pm_lo 200 ≤ pm_lo 213 ∧ pm_mc 200 = 0 ∧ pm_ms 200 = 0 := by decide +kernel
theorem cc213_165 : pm_fr 165 + 1 ≤ pm_fr 213 ∧ 8 + (pm_ml 165 + 11) + pm_lo 165 ≤ pm_lo 213 ∧ pm_mc 165 = 0 ∧ pm_ms 165 = 0 := by decide +kernel
theorem cc214_156 : pm_fr 156 + 1 ≤ pm_fr 214 ∧ 8 + (pm_ml 156 + 11) + pm_lo 156 ≤ pm_lo 214 ∧ pm_mc 156 = 0 ∧ pm_ms 156 = 0 := by decide +kernel
theorem mf11_242 : pm_fnd pm_mth 11 242 = some (1, 215, 1349, 1351, 58, 86, 1352) := rfl
theorem cc214_215 : pm_fr 215 + 1 ≤ pm_fr 214 ∧ 8 + (pm_ml 215 + 11) + pm_lo 215 ≤ pm_lo 214 ∧ pm_mc 215 = 0 ∧ pm_ms 215 = 0 := by decide +kernel
theorem cc216_156 : pm_fr 156 + 1 ≤ pm_fr 216 ∧ 8 + (pm_ml 156 + 11) + pm_lo 156 ≤ pm_lo 216 ∧ pm_mc 156 = 0 ∧ pm_ms 156 = 0 := by decide +kernel
theorem cc216_162 : pm_fr 162 + 1 ≤ pm_fr 216 ∧ 8 + (pm_ml 162 + 11) + pm_lo 162 ≤ pm_lo 216 ∧ pm_mc 162 = 0 ∧ pm_ms 162 = 0 := by decide +kernel
theorem cc216_215 : pm_fr 215 + 1 ≤ pm_fr 216 ∧ 8 + (pm_ml 215 + 11) + pm_lo 215 ≤ pm_lo 216 ∧ pm_mc 215 = 0 ∧ pm_ms 215 = 0 := by decide +kernel
theorem mf11_254 : pm_fnd pm_mth 11 254 = some (1, 218, 1361, 1363, 59, 86, 1364) := rfl
theorem cc217_218 : pm_fr 218 + 1 ≤ pm_fr 217 ∧ 8 + (pm_ml 218 + 11) + pm_lo 218 ≤ pm_lo 217 ∧ pm_mc 218 = 0 ∧ pm_ms 218 = 0 := by decide +kernel
theorem fl11_245 : pm_fnd pm_fl 11 245 = some (11, 35, 1001) := by decide +kernel
theorem cc218_184 : pm_fr 184 + 1 ≤ pm_fr 218 ∧ 8 + (pm_ml 184 + 11) + pm_lo 184 ≤ pm_lo 218 ∧ pm_mc 184 = 0 ∧ pm_ms 184 = 0 := by decide +kernel
theorem cc218_156 : pm_fr 156 + 1 ≤ pm_fr 218 ∧ 8 + (pm_ml 156 + 11) + pm_lo 156 ≤ pm_lo 218 ∧ pm_mc 156 = 0 ∧ pm_ms 156 = 0 := by decide +kernel
theorem cc218_162 : pm_fr 162 + 1 ≤ pm_fr 218 ∧ 8 + (pm_ml 162 + 11) + pm_lo 162 ≤ pm_lo 218 ∧ pm_mc 162 = 0 ∧ pm_ms 162 = 0 := by decide +kernel
theorem cc218_199 : pm_fr 199 + 1 ≤ pm_fr 218 ∧ 8 + (pm_ml 199 + 11) + pm_lo 199 ≤ pm_lo 218 ∧ pm_mc 199 = 0 ∧ pm_ms 199 = 0 := by decide +kernel
theorem cc218_205 : pm_fr 205 + 1 ≤ pm_fr 218 ∧ 8 + (pm_ml 205 + 11) + pm_lo 205 ≤ pm_lo 218 ∧ pm_mc 205 = 0 ∧ pm_ms 205 = 0 := by decide +kernel
theorem fl11_69 : pm_fnd pm_fl 11 69 = some (11, 36, 1002) := by decide +kernel
theorem mf11_248 : pm_fnd pm_mth 11 248 = some (0, 219, 1365, 1366, 0, 86, 1367) := rfl
theorem cc218_219 : pm_fr 219 + 1 ≤ pm_fr 218 ∧ 8 + (pm_ml 219 + 11) + pm_lo 219 ≤ pm_lo 218 ∧ pm_mc 219 = 0 ∧ pm_ms 219 = 0 := by decide +kernel
theorem mf11_251 : pm_fnd pm_mth 11 251 = some (1, 220, 1368, 1370, 60, 86, 1371) := rfl
theorem cc218_220 : pm_fr 220 + 1 ≤ pm_fr 218 ∧ 8 + (pm_ml 220 + 11) + pm_lo 220 ≤ pm_lo 218 ∧ pm_mc 220 = 0 ∧ pm_ms 220 = 0 := by decide +kernel
theorem cc220_200 : pm_fr 200 + 1 ≤ pm_fr 220 ∧ 8 + (pm_ml 200 + 11) + pm_lo 200 ≤ pm_lo 220 ∧ pm_mc 200 = 0 ∧ pm_ms 200 = 0 := by decide +kernel
theorem cc220_156 : pm_fr 156 + 1 ≤ pm_fr 220 ∧ 8 + (pm_ml 156 + 11) + pm_lo 156 ≤ pm_lo 220 ∧ pm_mc 156 = 0 ∧ pm_ms 156 = 0 := by decide +kernel
theorem cc221_218 : pm_fr 218 + 1 ≤ pm_fr 221 ∧ 8 + (pm_ml 218 + 11) + pm_lo 218 ≤ pm_lo 221 ∧ pm_mc 218 = 0 ∧ pm_ms 218 = 0 := by decide +kernel
theorem cc221_162 : pm_fr 162 + 1 ≤ pm_fr 221 ∧ 8 + (pm_ml 162 + 11) + pm_lo 162 ≤ pm_lo 221 ∧ pm_mc 162 = 0 ∧ pm_ms 162 = 0 := by decide +kernel
theorem cc222_218 : pm_fr 218 + 1 ≤ pm_fr 222 ∧ 8 + (pm_ml 218 + 11) + pm_lo 218 ≤ pm_lo 222 ∧ pm_mc 218 = 0 ∧ pm_ms 218 = 0 := by decide +kernel
theorem cc223_156 : pm_fr 156 + 1 ≤ pm_fr 223 ∧ 8 + (pm_ml 156 + 11) + pm_lo 156 ≤ pm_lo 223 ∧ pm_mc 156 = 0 ∧ pm_ms 156 = 0 := by decide +kernel
theorem fl11_258 : pm_fnd pm_fl 11 258 = some (11, 37, 1003) := by decide +kernel
theorem fl11_72 : pm_fnd pm_fl 11 72 = some (11, 38, 1004) := by decide +kernel
theorem fl11_75 : pm_fnd pm_fl 11 75 = some (11, 39, 1005) := by decide +kernel
theorem cc224_156 : pm_fr 156 + 1 ≤ pm_fr 224 ∧ 8 + (pm_ml 156 + 11) + pm_lo 156 ≤ pm_lo 224 ∧ pm_mc 156 = 0 ∧ pm_ms 156 = 0 := by decide +kernel
theorem mf11_279 : pm_fnd pm_mth 11 279 = some (1, 226, 1392, 1394, 61, 86, 1395) := rfl
theorem cc225_226 : pm_fr 226 + 1 ≤ pm_fr 225 ∧ 8 + (pm_ml 226 + 11) + pm_lo 226 ≤ pm_lo 225 ∧ pm_mc 226 = 0 ∧ pm_ms 226 = 0 := by decide +kernel
theorem fl11_267 : pm_fnd pm_fl 11 267 = some (11, 41, 1007) := by decide +kernel
theorem fl11_264 : pm_fnd pm_fl 11 264 = some (11, 40, 1006) := by decide +kernel
theorem cc225_165 : pm_fr 165 + 1 ≤ pm_fr 225 ∧ 8 + (pm_ml 165 + 11) + pm_lo 165 ≤ pm_lo 225 ∧ pm_mc 165 = 0 ∧ pm_ms 165 = 0 := by decide +kernel
theorem cc226_184 : pm_fr 184 + 1 ≤ pm_fr 226 ∧ 8 + (pm_ml 184 + 11) + pm_lo 184 ≤ pm_lo 226 ∧ pm_mc 184 = 0 ∧ pm_ms 184 = 0 := by decide +kernel
theorem cc226_156 : pm_fr 156 + 1 ≤ pm_fr 226 ∧ 8 + (pm_ml 156 + 11) + pm_lo 156 ≤ pm_lo 226 ∧ pm_mc 156 = 0 ∧ pm_ms 156 = 0 := by decide +kernel
theorem cc226_162 : pm_fr 162 + 1 ≤ pm_fr 226 ∧ 8 + (pm_ml 162 + 11) + pm_lo 162 ≤ pm_lo 226 ∧ pm_mc 162 = 0 ∧ pm_ms 162 = 0 := by decide +kernel
theorem cc226_205 : pm_fr 205 + 1 ≤ pm_fr 226 ∧ 8 + (pm_ml 205 + 11) + pm_lo 205 ≤ pm_lo 226 ∧ pm_mc 205 = 0 ∧ pm_ms 205 = 0 := by decide +kernel
theorem fl11_270 : pm_fnd pm_fl 11 270 = some (11, 42, 1008) := by decide +kernel
theorem fl11_273 : pm_fnd pm_fl 11 273 = some (11, 43, 1009) := by decide +kernel
theorem fl11_78 : pm_fnd pm_fl 11 78 = some (11, 44, 1010) := by decide +kernel
theorem cc226_186 : pm_fr 186 + 1 ≤ pm_fr 226 ∧ 8 + (pm_ml 186 + 11) + pm_lo 186 ≤ pm_lo 226 ∧ pm_mc 186 = 0 ∧ pm_ms 186 = 0 := by decide +kernel
theorem cc226_206 : pm_fr 206 + 1 ≤ pm_fr 226 ∧ 8 + (pm_ml 206 + 11) + pm_lo 206 ≤ pm_lo 226 ∧ pm_mc 206 = 0 ∧ pm_ms 206 = 0 := by decide +kernel
theorem mf11_276 : pm_fnd pm_mth 11 276 = some (1, 227, 1396, 1398, 62, 86, 1399) := rfl
theorem cc226_227 : pm_fr 227 + 1 ≤ pm_fr 226 ∧ 8 + (pm_ml 227 + 11) + pm_lo 227 ≤ pm_lo 226 ∧ pm_mc 227 = 0 ∧ pm_ms 227 = 0 := by decide +kernel
theorem mf11_261 : pm_fnd pm_mth 11 261 = some (1, 228, 1400, 1402, 63, 86, 1403) := rfl
theorem cc227_228 : pm_fr 228 + 1 ≤ pm_fr 227 ∧ 8 + (pm_ml 228 + 11) + pm_lo 228 ≤ pm_lo 227 ∧ pm_mc 228 = 0 ∧ pm_ms 228 = 0 := by decide +kernel
theorem cc229_226 : pm_fr 226 + 1 ≤ pm_fr 229 ∧ 8 + (pm_ml 226 + 11) + pm_lo 226 ≤ pm_lo 229 ∧ pm_mc 226 = 0 ∧ pm_ms 226 = 0 := by decide +kernel
theorem cc229_162 : pm_fr 162 + 1 ≤ pm_fr 229 ∧ 8 + (pm_ml 162 + 11) + pm_lo 162 ≤ pm_lo 229 ∧ pm_mc 162 = 0 ∧ pm_ms 162 = 0 := by decide +kernel
theorem mf11_282 : pm_fnd pm_mth 11 282 = some (1, 230, 1408, 1410, 64, 86, 1411) := rfl
theorem cc229_230 : pm_fr 230 + 1 ≤ pm_fr 229 ∧ 8 + (pm_ml 230 + 11) + pm_lo 230 ≤ pm_lo 229 ∧ pm_mc 230 = 0 ∧ pm_ms 230 = 0 := by decide +kernel
theorem cc231_226 : pm_fr 226 + 1 ≤ pm_fr 231 ∧ 8 + (pm_ml 226 + 11) + pm_lo 226 ≤ pm_lo 231 ∧ pm_mc 226 = 0 ∧ pm_ms 226 = 0 := by decide +kernel
theorem cc231_162 : pm_fr 162 + 1 ≤ pm_fr 231 ∧ 8 + (pm_ml 162 + 11) + pm_lo 162 ≤ pm_lo 231 ∧ pm_mc 162 = 0 ∧ pm_ms 162 = 0 := by decide +kernel
theorem cc231_230 : pm_fr 230 + 1 ≤ pm_fr 231 ∧ 8 + (pm_ml 230 + 11) + pm_lo 230 ≤ pm_lo 231 ∧ pm_mc 230 = 0 ∧ pm_ms 230 = 0 := by decide +kernel
theorem cc231_165 : pm_fr 165 + 1 ≤ pm_fr 231 ∧ 8 + (pm_ml 165 + 11) + pm_lo 165 ≤ pm_lo 231 ∧ pm_mc 165 = 0 ∧ pm_ms 165 = 0 := by decide +kernel
theorem cc232_184 : pm_fr 184 + 1 ≤ pm_fr 232 ∧ 8 + (pm_ml 184 + 11) + pm_lo 184 ≤ pm_lo 232 ∧ pm_mc 184 = 0 ∧ pm_ms 184 = 0 := by decide +kernel
theorem cc232_156 : pm_fr 156 + 1 ≤ pm_fr 232 ∧ 8 + (pm_ml 156 + 11) + pm_lo 156 ≤ pm_lo 232 ∧ pm_mc 156 = 0 ∧ pm_ms 156 = 0 := by decide +kernel
theorem cc232_162 : pm_fr 162 + 1 ≤ pm_fr 232 ∧ 8 + (pm_ml 162 + 11) + pm_lo 162 ≤ pm_lo 232 ∧ pm_mc 162 = 0 ∧ pm_ms 162 = 0 := by decide +kernel
theorem cc232_226 : pm_fr 226 + 1 ≤ pm_fr 232 ∧ 8 + (pm_ml 226 + 11) + pm_lo 226 ≤ pm_lo 232 ∧ pm_mc 226 = 0 ∧ pm_ms 226 = 0 := by decide +kernel
theorem mf11_285 : pm_fnd pm_mth 11 285 = some (1, 233, 1420, 1422, 65, 86, 1423) := rfl
theorem cc232_233 : pm_fr 233 + 1 ≤ pm_fr 232 ∧ 8 + (pm_ml 233 + 11) + pm_lo 233 ≤ pm_lo 232 ∧ pm_mc 233 = 0 ∧ pm_ms 233 = 0 := by decide +kernel
theorem cc234_226 : pm_fr 226 + 1 ≤ pm_fr 234 ∧ 8 + (pm_ml 226 + 11) + pm_lo 226 ≤ pm_lo 234 ∧ pm_mc 226 = 0 ∧ pm_ms 226 = 0 := by decide +kernel
theorem cc234_165 : pm_fr 165 + 1 ≤ pm_fr 234 ∧ 8 + (pm_ml 165 + 11) + pm_lo 165 ≤ pm_lo 234 ∧ pm_mc 165 = 0 ∧ pm_ms 165 = 0 := by decide +kernel
theorem mf11_295 : pm_fnd pm_mth 11 295 = some (1, 236, 1432, 1434, 66, 86, 1435) := rfl
theorem cc235_236 : pm_fr 236 + 1 ≤ pm_fr 235 ∧ 8 + (pm_ml 236 + 11) + pm_lo 236 ≤ pm_lo 235 ∧ pm_mc 236 = 0 ∧ pm_ms 236 = 0 := by decide +kernel
theorem fl11_292 : pm_fnd pm_fl 11 292 = some (11, 45, 1011) := by decide +kernel
theorem mf11_299 : pm_fnd pm_mth 11 299 = some (0, 238, 1440, 1441, 0, 86, 1442) := rfl
theorem cc235_238 : pm_fr 238 + 1 ≤ pm_fr 235 ∧ 8 + (pm_ml 238 + 11) + pm_lo 238 ≤ pm_lo 235 ∧ pm_mc 238 = 0 ∧ pm_ms 238 = 0 := by decide +kernel
theorem cc235_165 : pm_fr 165 + 1 ≤ pm_fr 235 ∧ 8 + (pm_ml 165 + 11) + pm_lo 165 ≤ pm_lo 235 ∧ pm_mc 165 = 0 ∧ pm_ms 165 = 0 := by decide +kernel
theorem cc236_184 : pm_fr 184 + 1 ≤ pm_fr 236 ∧ 8 + (pm_ml 184 + 11) + pm_lo 184 ≤ pm_lo 236 ∧ pm_mc 184 = 0 ∧ pm_ms 184 = 0 := by decide +kernel
theorem cc236_161 : pm_fr 161 + 1 ≤ pm_fr 236 ∧ 8 + (pm_ml 161 + 11) + pm_lo 161 ≤ pm_lo 236 ∧ pm_mc 161 = 0 ∧ pm_ms 161 = 0 := by decide +kernel
theorem cc236_162 : pm_fr 162 + 1 ≤ pm_fr 236 ∧ 8 + (pm_ml 162 + 11) + pm_lo 162 ≤ pm_lo 236 ∧ pm_mc 162 = 0 ∧ pm_ms 162 = 0 := by decide +kernel
theorem cc236_198 : pm_fr 198 + 1 ≤ pm_fr 236 ∧ 8 + (pm_ml 198 + 11) + pm_lo 198 ≤ pm_lo 236 ∧ pm_mc 198 = 0 ∧ pm_ms 198 = 0 := by decide +kernel
theorem cc236_205 : pm_fr 205 + 1 ≤ pm_fr 236 ∧ 8 + (pm_ml 205 + 11) + pm_lo 205 ≤ pm_lo 236 ∧ pm_mc 205 = 0 ∧ pm_ms 205 = 0 := by decide +kernel
theorem cc236_199 : pm_fr 199 + 1 ≤ pm_fr 236 ∧ 8 + (pm_ml 199 + 11) + pm_lo 199 ≤ pm_lo 236 ∧ pm_mc 199 = 0 ∧ pm_ms 199 = 0 := by decide +kernel
theorem mf11_289 : pm_fnd pm_mth 11 289 = some (1, 237, 1436, 1438, 67, 86, 1439) := rfl
theorem cc236_237 : pm_fr 237 + 1 ≤ pm_fr 236 ∧ 8 + (pm_ml 237 + 11) + pm_lo 237 ≤ pm_lo 236 ∧ pm_mc 237 = 0 ∧ pm_ms 237 = 0 := by decide +kernel
theorem cc237_200 : pm_fr 200 + 1 ≤ pm_fr 237 ∧ 8 + (pm_ml 200 + 11) + pm_lo 200 ≤ pm_lo 237 ∧ pm_mc 200 = 0 ∧ pm_ms 200 = 0 := by decide +kernel
theorem cc239_236 : pm_fr 236 + 1 ≤ pm_fr 239 ∧ 8 + (pm_ml 236 + 11) + pm_lo 236 ≤ pm_lo 239 ∧ pm_mc 236 = 0 ∧ pm_ms 236 = 0 := by decide +kernel
theorem cc240_184 : pm_fr 184 + 1 ≤ pm_fr 240 ∧ 8 + (pm_ml 184 + 11) + pm_lo 184 ≤ pm_lo 240 ∧ pm_mc 184 = 0 ∧ pm_ms 184 = 0 := by decide +kernel
theorem cc240_162 : pm_fr 162 + 1 ≤ pm_fr 240 ∧ 8 + (pm_ml 162 + 11) + pm_lo 162 ≤ pm_lo 240 ∧ pm_mc 162 = 0 ∧ pm_ms 162 = 0 := by decide +kernel
theorem cc240_204 : pm_fr 204 + 1 ≤ pm_fr 240 ∧ 8 + (pm_ml 204 + 11) + pm_lo 204 ≤ pm_lo 240 ∧ pm_mc 204 = 0 ∧ pm_ms 204 = 0 := by decide +kernel
theorem mf11_302 : pm_fnd pm_mth 11 302 = some (1, 241, 1451, 1453, 68, 86, 1454) := rfl
theorem cc240_241 : pm_fr 241 + 1 ≤ pm_fr 240 ∧ 8 + (pm_ml 241 + 11) + pm_lo 241 ≤ pm_lo 240 ∧ pm_mc 241 = 0 ∧ pm_ms 241 = 0 := by decide +kernel
theorem mf11_305 : pm_fnd pm_mth 11 305 = some (0, 242, 1455, 1456, 0, 86, 1457) := rfl
theorem cc240_242 : pm_fr 242 + 1 ≤ pm_fr 240 ∧ 8 + (pm_ml 242 + 11) + pm_lo 242 ≤ pm_lo 240 ∧ pm_mc 242 = 0 ∧ pm_ms 242 = 0 := by decide +kernel
theorem fl11_81 : pm_fnd pm_fl 11 81 = some (11, 46, 1012) := by decide +kernel
theorem cc240_165 : pm_fr 165 + 1 ≤ pm_fr 240 ∧ 8 + (pm_ml 165 + 11) + pm_lo 165 ≤ pm_lo 240 ∧ pm_mc 165 = 0 ∧ pm_ms 165 = 0 := by decide +kernel
theorem cc243_203 : pm_fr 203 + 1 ≤ pm_fr 243 ∧ 8 + (pm_ml 203 + 11) + pm_lo 203 ≤ pm_lo 243 ∧ pm_mc 203 = 0 ∧ pm_ms 203 = 0 := by decide +kernel
theorem cc243_195 : pm_fr 195 + 1 ≤ pm_fr 243 ∧ 8 + (pm_ml 195 + 11) + pm_lo 195 ≤ pm_lo 243 ∧ pm_mc 195 = 0 ∧ pm_ms 195 = 0 := by decide +kernel
theorem cc243_156 : pm_fr 156 + 1 ≤ pm_fr 243 ∧ 8 + (pm_ml 156 + 11) + pm_lo 156 ≤ pm_lo 243 ∧ pm_mc 156 = 0 ∧ pm_ms 156 = 0 := by decide +kernel
theorem cc243_162 : pm_fr 162 + 1 ≤ pm_fr 243 ∧ 8 + (pm_ml 162 + 11) + pm_lo 162 ≤ pm_lo 243 ∧ pm_mc 162 = 0 ∧ pm_ms 162 = 0 := by decide +kernel
theorem cc243_204 : pm_fr 204 + 1 ≤ pm_fr 243 ∧ 8 + (pm_ml 204 + 11) + pm_lo 204 ≤ pm_lo 243 ∧ pm_mc 204 = 0 ∧ pm_ms 204 = 0 := by decide +kernel
theorem cc243_241 : pm_fr 241 + 1 ≤ pm_fr 243 ∧ 8 + (pm_ml 241 + 11) + pm_lo 241 ≤ pm_lo 243 ∧ pm_mc 241 = 0 ∧ pm_ms 241 = 0 := by decide +kernel
theorem cc243_196 : pm_fr 196 + 1 ≤ pm_fr 243 ∧ 8 + (pm_ml 196 + 11) + pm_lo 196 ≤ pm_lo 243 ∧ pm_mc 196 = 0 ∧ pm_ms 196 = 0 := by decide +kernel
theorem cc243_206 : pm_fr 206 + 1 ≤ pm_fr 243 ∧ 8 + (pm_ml 206 + 11) + pm_lo 206 ≤ pm_lo 243 ∧ pm_mc 206 = 0 ∧ pm_ms 206 = 0 := by decide +kernel
theorem cc243_165 : pm_fr 165 + 1 ≤ pm_fr 243 ∧ 8 + (pm_ml 165 + 11) + pm_lo 165 ≤ pm_lo 243 ∧ pm_mc 165 = 0 ∧ pm_ms 165 = 0 := by decide +kernel
theorem cc244_203 : pm_fr 203 + 1 ≤ pm_fr 244 ∧ 8 + (pm_ml 203 + 11) + pm_lo 203 ≤ pm_lo 244 ∧ pm_mc 203 = 0 ∧ pm_ms 203 = 0 := by decide +kernel
theorem cc244_204 : pm_fr 204 + 1 ≤ pm_fr 244 ∧ 8 + (pm_ml 204 + 11) + pm_lo 204 ≤ pm_lo 244 ∧ pm_mc 204 = 0 ∧ pm_ms 204 = 0 := by decide +kernel
theorem cc244_228 : pm_fr 228 + 1 ≤ pm_fr 244 ∧ 8 + (pm_ml 228 + 11) + pm_lo 228 ≤ pm_lo 244 ∧ pm_mc 228 = 0 ∧ pm_ms 228 = 0 := by decide +kernel
theorem cc244_227 : pm_fr 227 + 1 ≤ pm_fr 244 ∧ 8 + (pm_ml 227 + 11) + pm_lo 227 ≤ pm_lo 244 ∧ pm_mc 227 = 0 ∧ pm_ms 227 = 0 := by decide +kernel
theorem cc244_165 : pm_fr 165 + 1 ≤ pm_fr 244 ∧ 8 + (pm_ml 165 + 11) + pm_lo 165 ≤ pm_lo 244 ∧ pm_mc 165 = 0 ∧ pm_ms 165 = 0 := by decide +kernel
theorem cc245_203 : pm_fr 203 + 1 ≤ pm_fr 245 ∧ 8 + (pm_ml 203 + 11) + pm_lo 203 ≤ pm_lo 245 ∧ pm_mc 203 = 0 ∧ pm_ms 203 = 0 := by decide +kernel
theorem cc245_199 : pm_fr 199 + 1 ≤ pm_fr 245 ∧ 8 + (pm_ml 199 + 11) + pm_lo 199 ≤ pm_lo 245 ∧ pm_mc 199 = 0 ∧ pm_ms 199 = 0 := by decide +kernel
theorem cc245_195 : pm_fr 195 + 1 ≤ pm_fr 245 ∧ 8 + (pm_ml 195 + 11) + pm_lo 195 ≤ pm_lo 245 ∧ pm_mc 195 = 0 ∧ pm_ms 195 = 0 := by decide +kernel
theorem cc245_196 : pm_fr 196 + 1 ≤ pm_fr 245 ∧ 8 + (pm_ml 196 + 11) + pm_lo 196 ≤ pm_lo 245 ∧ pm_mc 196 = 0 ∧ pm_ms 196 = 0 := by decide +kernel
theorem mf11_308 : pm_fnd pm_mth 11 308 = some (1, 246, 1470, 1472, 69, 86, 1473) := rfl
theorem cc245_246 : pm_fr 246 + 1 ≤ pm_fr 245 ∧ 8 + (pm_ml 246 + 11) + pm_lo 246 ≤ pm_lo 245 ∧ pm_mc 246 = 0 ∧ pm_ms 246 = 0 := by decide +kernel
theorem mf11_312 : pm_fnd pm_mth 11 312 = some (1, 247, 1474, 1476, 70, 86, 1477) := rfl
theorem cc245_247 : pm_fr 247 + 1 ≤ pm_fr 245 ∧ 8 + (pm_ml 247 + 11) + pm_lo 247 ≤ pm_lo 245 ∧ pm_mc 247 = 0 ∧ pm_ms 247 = 0 := by decide +kernel
theorem cc245_165 : pm_fr 165 + 1 ≤ pm_fr 245 ∧ 8 + (pm_ml 165 + 11) + pm_lo 165 ≤ pm_lo 245 ∧ pm_mc 165 = 0 ∧ pm_ms 165 = 0 := by decide +kernel
theorem cc246_205 : pm_fr 205 + 1 ≤ pm_fr 246 ∧ 8 + (pm_ml 205 + 11) + pm_lo 205 ≤ pm_lo 246 ∧ pm_mc 205 = 0 ∧ pm_ms 205 = 0 := by decide +kernel
theorem cc246_206 : pm_fr 206 + 1 ≤ pm_fr 246 ∧ 8 + (pm_ml 206 + 11) + pm_lo 206 ≤ pm_lo 246 ∧ pm_mc 206 = 0 ∧ pm_ms 206 = 0 := by decide +kernel
theorem cc246_227 : pm_fr 227 + 1 ≤ pm_fr 246 ∧ 8 + (pm_ml 227 + 11) + pm_lo 227 ≤ pm_lo 246 ∧ pm_mc 227 = 0 ∧ pm_ms 227 = 0 := by decide +kernel
theorem cc247_205 : pm_fr 205 + 1 ≤ pm_fr 247 ∧ 8 + (pm_ml 205 + 11) + pm_lo 205 ≤ pm_lo 247 ∧ pm_mc 205 = 0 ∧ pm_ms 205 = 0 := by decide +kernel
theorem cc247_206 : pm_fr 206 + 1 ≤ pm_fr 247 ∧ 8 + (pm_ml 206 + 11) + pm_lo 206 ≤ pm_lo 247 ∧ pm_mc 206 = 0 ∧ pm_ms 206 = 0 := by decide +kernel
theorem cc247_227 : pm_fr 227 + 1 ≤ pm_fr 247 ∧ 8 + (pm_ml 227 + 11) + pm_lo 227 ≤ pm_lo 247 ∧ pm_mc 227 = 0 ∧ pm_ms 227 = 0 := by decide +kernel
theorem cc247_196 : pm_fr 196 + 1 ≤ pm_fr 247 ∧ 8 + (pm_ml 196 + 11) + pm_lo 196 ≤ pm_lo 247 ∧ pm_mc 196 = 0 ∧ pm_ms 196 = 0 := by decide +kernel
theorem cc247_246 : pm_fr 246 + 1 ≤ pm_fr 247 ∧ 8 + (pm_ml 246 + 11) + pm_lo 246 ≤ pm_lo 247 ∧ pm_mc 246 = 0 ∧ pm_ms 246 = 0 := by decide +kernel
theorem cc248_156 : pm_fr 156 + 1 ≤ pm_fr 248 ∧ 8 + (pm_ml 156 + 11) + pm_lo 156 ≤ pm_lo 248 ∧ pm_mc 156 = 0 ∧ pm_ms 156 = 0 := by decide +kernel
theorem mf11_315 : pm_fnd pm_mth 11 315 = some (1, 249, 1482, 1484, 71, 86, 1485) := rfl
theorem cc248_249 : pm_fr 249 + 1 ≤ pm_fr 248 ∧ 8 + (pm_ml 249 + 11) + pm_lo 249 ≤ pm_lo 248 ∧ pm_mc 249 = 0 ∧ pm_ms 249 = 0 := by decide +kernel
theorem cc249_189 : pm_fr 189 + 1 ≤ pm_fr 249 ∧ 8 + (pm_ml 189 + 11) + pm_lo 189 ≤ pm_lo 249 ∧ pm_mc 189 = 0 ∧ pm_ms 189 = 0 := by decide +kernel
theorem cc249_190 : pm_fr 190 + 1 ≤ pm_fr 249 ∧ 8 + (pm_ml 190 + 11) + pm_lo 190 ≤ pm_lo 249 ∧ pm_mc 190 = 0 ∧ pm_ms 190 = 0 := by decide +kernel
theorem fl11_320 : pm_fnd pm_fl 11 320 = some (11, 47, 1013) := by decide +kernel
theorem cc250_249 : pm_fr 249 + 1 ≤ pm_fr 250 ∧ 8 + (pm_ml 249 + 11) + pm_lo 249 ≤ pm_lo 250 ∧ pm_mc 249 = 0 ∧ pm_ms 249 = 0 := by decide +kernel
theorem mf11_325 : pm_fnd pm_mth 11 325 = some (1, 251, 1491, 1493, 72, 86, 1494) := rfl
theorem cc250_251 : pm_fr 251 + 1 ≤ pm_fr 250 ∧ 8 + (pm_ml 251 + 11) + pm_lo 251 ≤ pm_lo 250 ∧ pm_mc 251 = 0 ∧ pm_ms 251 = 0 := by decide +kernel
theorem mf11_331 : pm_fnd pm_mth 11 331 = some (1, 252, 1496, 1498, 73, 86, 1499) := rfl
theorem cc250_252 : pm_fr 252 + 1 ≤ pm_fr 250 ∧ 8 + (pm_ml 252 + 11) + pm_lo 252 ≤ pm_lo 250 ∧ pm_mc 252 = 0 ∧ pm_ms 252 = 0 := by decide +kernel
theorem cc250_164 : pm_fr 164 + 1 ≤ pm_fr 250 ∧ 8 + (pm_ml 164 + 11) + pm_lo 164 ≤ pm_lo 250 ∧ pm_mc 164 = 0 ∧ pm_ms 164 = 0 := by decide +kernel
theorem cc250_175 : pm_fr 175 + 1 ≤ pm_fr 250 ∧ 8 + (pm_ml 175 + 11) + pm_lo 175 ≤ pm_lo 250 ∧ pm_mc 175 = 0 ∧ pm_ms 175 = 0 := by decide +kernel
theorem cc252_251 : pm_fr 251 + 1 ≤ pm_fr 252 ∧ 8 + (pm_ml 251 + 11) + pm_lo 251 ≤ pm_lo 252 ∧ pm_mc 251 = 0 ∧ pm_ms 251 = 0 := by decide +kernel
theorem cc252_189 : pm_fr 189 + 1 ≤ pm_fr 252 ∧ 8 + (pm_ml 189 + 11) + pm_lo 189 ≤ pm_lo 252 ∧ pm_mc 189 = 0 ∧ pm_ms 189 = 0 := by decide +kernel
