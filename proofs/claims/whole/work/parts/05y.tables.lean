theorem qw_648 : lw_tbl[648]? = some (Cond.castable "java/lang/IllegalArgumentException" "java/lang/IllegalArgumentException") := by decide +kernel
theorem qw_853 : lw_tbl[853]? = some (Cond.codeWith yL_addVault cL_addVault 4 (some FieldType.int) [(0, 9, 12, 13), (0, 9, 15, 15)]) := by decide +kernel
theorem qw_854 : lw_tbl[854]? = some (Cond.classLink "FlyTreasuryLaw" 13 "java/lang/IllegalArgumentException") := by decide +kernel
theorem qw_855 : lw_tbl[855]? = some (Cond.classLink "FlyTreasuryLaw" 15 "java/lang/IllegalStateException") := by decide +kernel
theorem qw_856 : lw_tbl[856]? = some (Cond.methodLink "FlyTreasuryLaw" 7 yX8_addVault) := by decide +kernel
theorem qw_857 : lw_tbl[857]? = some (Cond.instanceMethod yX8_addVault) := by decide +kernel
theorem qw_858 : lw_tbl[858]? = some (Cond.selects "FlyTreasury" yX8_addVault yX8_addVault) := by decide +kernel
theorem qw_859 : lw_tbl[859]? = some (Cond.code yX8_addVault cX8_addVault 2 (some FieldType.int)) := by decide +kernel
theorem qw_886 : lw_tbl[886]? = some (Cond.castable "java/lang/IndexOutOfBoundsException" "java/lang/IndexOutOfBoundsException") := by decide +kernel
theorem qw_902 : lw_tbl[902]? = some (Cond.castable "java/lang/IllegalStateException" "java/lang/IllegalStateException") := by decide +kernel
theorem qw_918 : lw_tbl[918]? = some (Cond.castable "java/lang/UnsupportedOperationException" "java/lang/UnsupportedOperationException") := by decide +kernel
theorem qw_944 : lw_tbl[944]? = some (Cond.codeWith yL_deposit cL_deposit 6 (some FieldType.int) [(0, 12, 15, 21), (0, 12, 19, 13), (0, 12, 23, 15)]) := by decide +kernel
theorem qw_945 : lw_tbl[945]? = some (Cond.classLink "FlyTreasuryLaw" 21 "java/lang/IndexOutOfBoundsException") := by decide +kernel
theorem qw_948 : lw_tbl[948]? = some (Cond.methodLink "FlyTreasuryLaw" 17 yX8_deposit) := by decide +kernel
theorem qw_949 : lw_tbl[949]? = some (Cond.instanceMethod yX8_deposit) := by decide +kernel
theorem qw_950 : lw_tbl[950]? = some (Cond.selects "FlyTreasury" yX8_deposit yX8_deposit) := by decide +kernel
theorem qw_951 : lw_tbl[951]? = some (Cond.code yX8_deposit cX8_deposit 4 (some FieldType.int)) := by decide +kernel
theorem qw_1015 : lw_tbl[1015]? = some (Cond.codeWith yL_withdraw cL_withdraw 6 (some FieldType.int) [(0, 12, 15, 21), (0, 12, 19, 13), (0, 12, 23, 15), (0, 12, 27, 26)]) := by decide +kernel
theorem qw_1016 : lw_tbl[1016]? = some (Cond.classLink "FlyTreasuryLaw" 26 "java/lang/UnsupportedOperationException") := by decide +kernel
theorem qw_1017 : lw_tbl[1017]? = some (Cond.methodLink "FlyTreasuryLaw" 23 yX8_withdraw) := by decide +kernel
theorem qw_1018 : lw_tbl[1018]? = some (Cond.instanceMethod yX8_withdraw) := by decide +kernel
theorem qw_1019 : lw_tbl[1019]? = some (Cond.selects "FlyTreasury" yX8_withdraw yX8_withdraw) := by decide +kernel
theorem qw_1020 : lw_tbl[1020]? = some (Cond.code yX8_withdraw cX8_withdraw 4 (some FieldType.int)) := by decide +kernel
theorem qw_1038 : lw_tbl[1038]? = some (Cond.codeWith yL_exchange cL_exchange 7 (some FieldType.int) [(0, 14, 17, 21), (0, 14, 21, 13), (0, 14, 25, 15), (0, 14, 29, 26)]) := by decide +kernel
theorem qw_1039 : lw_tbl[1039]? = some (Cond.methodLink "FlyTreasuryLaw" 28 yX8_exchange) := by decide +kernel
theorem qw_1040 : lw_tbl[1040]? = some (Cond.instanceMethod yX8_exchange) := by decide +kernel
theorem qw_1041 : lw_tbl[1041]? = some (Cond.selects "FlyTreasury" yX8_exchange yX8_exchange) := by decide +kernel
theorem qw_1042 : lw_tbl[1042]? = some (Cond.code yX8_exchange cX8_exchange 5 (some FieldType.int)) := by decide +kernel
theorem qw_1056 : lw_tbl[1056]? = some (Cond.codeWith yL_mint cL_mint 5 (some FieldType.int) [(0, 10, 13, 21), (0, 10, 17, 13), (0, 10, 21, 15), (0, 10, 25, 26)]) := by decide +kernel
theorem qw_1057 : lw_tbl[1057]? = some (Cond.methodLink "FlyTreasuryLaw" 32 yX8_mint) := by decide +kernel
theorem qw_1058 : lw_tbl[1058]? = some (Cond.instanceMethod yX8_mint) := by decide +kernel
theorem qw_1059 : lw_tbl[1059]? = some (Cond.selects "FlyTreasury" yX8_mint yX8_mint) := by decide +kernel
theorem qw_1060 : lw_tbl[1060]? = some (Cond.code yX8_mint cX8_mint 3 (some FieldType.int)) := by decide +kernel
theorem qw_1075 : lw_tbl[1075]? = some (Cond.codeWith yL_redeem cL_redeem 5 (some FieldType.int) [(0, 10, 13, 21), (0, 10, 17, 13), (0, 10, 21, 26)]) := by decide +kernel
theorem qw_1076 : lw_tbl[1076]? = some (Cond.methodLink "FlyTreasuryLaw" 36 yX8_redeem) := by decide +kernel
theorem qw_1077 : lw_tbl[1077]? = some (Cond.instanceMethod yX8_redeem) := by decide +kernel
theorem qw_1078 : lw_tbl[1078]? = some (Cond.selects "FlyTreasury" yX8_redeem yX8_redeem) := by decide +kernel
theorem qw_1079 : lw_tbl[1079]? = some (Cond.code yX8_redeem cX8_redeem 3 (some FieldType.int)) := by decide +kernel
theorem qw_1090 : lw_tbl[1090]? = some (Cond.codeWith yL_audit cL_audit 4 (some FieldType.int) [(0, 16, 19, 21), (0, 16, 22, 15)]) := by decide +kernel
theorem qw_1091 : lw_tbl[1091]? = some (Cond.methodLink "FlyTreasuryLaw" 39 yX8_audit) := by decide +kernel
theorem qw_1092 : lw_tbl[1092]? = some (Cond.instanceMethod yX8_audit) := by decide +kernel
theorem qw_1093 : lw_tbl[1093]? = some (Cond.selects "FlyTreasury" yX8_audit yX8_audit) := by decide +kernel
theorem qw_1094 : lw_tbl[1094]? = some (Cond.code yX8_audit cX8_audit 2 (some FieldType.boolean)) := by decide +kernel
theorem qw_1118 : lw_tbl[1118]? = some (Cond.codeWith yL_setRate cL_setRate 5 (some FieldType.int) [(0, 10, 13, 13)]) := by decide +kernel
theorem qw_1119 : lw_tbl[1119]? = some (Cond.methodLink "FlyTreasuryLaw" 43 yX8_setRate) := by decide +kernel
theorem qw_1120 : lw_tbl[1120]? = some (Cond.instanceMethod yX8_setRate) := by decide +kernel
theorem qw_1121 : lw_tbl[1121]? = some (Cond.selects "FlyTreasury" yX8_setRate yX8_setRate) := by decide +kernel
theorem qw_1122 : lw_tbl[1122]? = some (Cond.code yX8_setRate cX8_setRate 3 (some FieldType.int)) := by decide +kernel
theorem qw_1133 : lw_tbl[1133]? = some (Cond.codeWith yL_setStickiness cL_setStickiness 5 (some FieldType.int) [(0, 10, 13, 21), (0, 10, 17, 13)]) := by decide +kernel
theorem qw_1134 : lw_tbl[1134]? = some (Cond.methodLink "FlyTreasuryLaw" 47 yX8_setStickiness) := by decide +kernel
theorem qw_1135 : lw_tbl[1135]? = some (Cond.instanceMethod yX8_setStickiness) := by decide +kernel
theorem qw_1136 : lw_tbl[1136]? = some (Cond.selects "FlyTreasury" yX8_setStickiness yX8_setStickiness) := by decide +kernel
theorem qw_1137 : lw_tbl[1137]? = some (Cond.code yX8_setStickiness cX8_setStickiness 3 (some FieldType.int)) := by decide +kernel
theorem qw_1148 : lw_tbl[1148]? = some (Cond.codeWith yL_passDays cL_passDays 4 (some FieldType.int) [(0, 9, 12, 13)]) := by decide +kernel
theorem qw_1149 : lw_tbl[1149]? = some (Cond.methodLink "FlyTreasuryLaw" 50 yX8_passDays) := by decide +kernel
theorem qw_1150 : lw_tbl[1150]? = some (Cond.instanceMethod yX8_passDays) := by decide +kernel
theorem qw_1151 : lw_tbl[1151]? = some (Cond.selects "FlyTreasury" yX8_passDays yX8_passDays) := by decide +kernel
theorem qw_1152 : lw_tbl[1152]? = some (Cond.code yX8_passDays cX8_passDays 2 (some FieldType.int)) := by decide +kernel
theorem qw_1175 : lw_tbl[1175]? = some (Cond.codeWith yL_flies cL_flies 5 (some FieldType.int) [(0, 10, 13, 21), (0, 10, 17, 13)]) := by decide +kernel
theorem qw_1176 : lw_tbl[1176]? = some (Cond.methodLink "FlyTreasuryLaw" 53 yX8_flies) := by decide +kernel
theorem qw_1177 : lw_tbl[1177]? = some (Cond.instanceMethod yX8_flies) := by decide +kernel
theorem qw_1178 : lw_tbl[1178]? = some (Cond.selects "FlyTreasury" yX8_flies yX8_flies) := by decide +kernel
theorem qw_1179 : lw_tbl[1179]? = some (Cond.code yX8_flies cX8_flies 4 (some FieldType.int)) := by decide +kernel
theorem qw_1192 : lw_tbl[1192]? = some (Cond.codeWith yL_crumbs cL_crumbs 4 (some FieldType.int) [(0, 9, 12, 21)]) := by decide +kernel
theorem qw_1193 : lw_tbl[1193]? = some (Cond.methodLink "FlyTreasuryLaw" 57 yX8_crumbs) := by decide +kernel
theorem qw_1194 : lw_tbl[1194]? = some (Cond.instanceMethod yX8_crumbs) := by decide +kernel
theorem qw_1195 : lw_tbl[1195]? = some (Cond.selects "FlyTreasury" yX8_crumbs yX8_crumbs) := by decide +kernel
theorem qw_1196 : lw_tbl[1196]? = some (Cond.code yX8_crumbs cX8_crumbs 2 (some FieldType.int)) := by decide +kernel
theorem qw_1199 : lw_tbl[1199]? = some (Cond.codeWith yL_dew cL_dew 4 (some FieldType.int) [(0, 9, 12, 21)]) := by decide +kernel
theorem qw_1200 : lw_tbl[1200]? = some (Cond.methodLink "FlyTreasuryLaw" 60 yX8_dew) := by decide +kernel
theorem qw_1201 : lw_tbl[1201]? = some (Cond.instanceMethod yX8_dew) := by decide +kernel
theorem qw_1202 : lw_tbl[1202]? = some (Cond.selects "FlyTreasury" yX8_dew yX8_dew) := by decide +kernel
theorem qw_1203 : lw_tbl[1203]? = some (Cond.code yX8_dew cX8_dew 2 (some FieldType.int)) := by decide +kernel
theorem qw_1206 : lw_tbl[1206]? = some (Cond.codeWith yL_wings cL_wings 4 (some FieldType.int) [(0, 9, 12, 21)]) := by decide +kernel
theorem qw_1207 : lw_tbl[1207]? = some (Cond.methodLink "FlyTreasuryLaw" 63 yX8_wings) := by decide +kernel
theorem qw_1208 : lw_tbl[1208]? = some (Cond.instanceMethod yX8_wings) := by decide +kernel
theorem qw_1209 : lw_tbl[1209]? = some (Cond.selects "FlyTreasury" yX8_wings yX8_wings) := by decide +kernel
theorem qw_1210 : lw_tbl[1210]? = some (Cond.code yX8_wings cX8_wings 2 (some FieldType.int)) := by decide +kernel
theorem qw_1213 : lw_tbl[1213]? = some (Cond.codeWith yL_stickiness cL_stickiness 4 (some FieldType.int) [(0, 9, 12, 21)]) := by decide +kernel
theorem qw_1214 : lw_tbl[1214]? = some (Cond.methodLink "FlyTreasuryLaw" 66 yX8_stickiness) := by decide +kernel
theorem qw_1215 : lw_tbl[1215]? = some (Cond.instanceMethod yX8_stickiness) := by decide +kernel
theorem qw_1216 : lw_tbl[1216]? = some (Cond.selects "FlyTreasury" yX8_stickiness yX8_stickiness) := by decide +kernel
theorem qw_1217 : lw_tbl[1217]? = some (Cond.code yX8_stickiness cX8_stickiness 2 (some FieldType.int)) := by decide +kernel
theorem qw_1220 : lw_tbl[1220]? = some (Cond.codeWith yL_isFrozen cL_isFrozen 4 (some FieldType.int) [(0, 16, 19, 21)]) := by decide +kernel
theorem qw_1221 : lw_tbl[1221]? = some (Cond.methodLink "FlyTreasuryLaw" 69 yX8_isFrozen) := by decide +kernel
theorem qw_1222 : lw_tbl[1222]? = some (Cond.instanceMethod yX8_isFrozen) := by decide +kernel
theorem qw_1223 : lw_tbl[1223]? = some (Cond.selects "FlyTreasury" yX8_isFrozen yX8_isFrozen) := by decide +kernel
theorem qw_1224 : lw_tbl[1224]? = some (Cond.code yX8_isFrozen cX8_isFrozen 2 (some FieldType.boolean)) := by decide +kernel
theorem qw_1228 : lw_tbl[1228]? = some (Cond.codeWith yL_daysUntilThaw cL_daysUntilThaw 4 (some FieldType.int) [(0, 9, 12, 21), (0, 9, 15, 75)]) := by decide +kernel
theorem qw_1229 : lw_tbl[1229]? = some (Cond.classLink "FlyTreasuryLaw" 75 "java/util/NoSuchElementException") := by decide +kernel
theorem qw_1230 : lw_tbl[1230]? = some (Cond.methodLink "FlyTreasuryLaw" 72 yX8_daysUntilThaw) := by decide +kernel
theorem qw_1231 : lw_tbl[1231]? = some (Cond.instanceMethod yX8_daysUntilThaw) := by decide +kernel
theorem qw_1232 : lw_tbl[1232]? = some (Cond.selects "FlyTreasury" yX8_daysUntilThaw yX8_daysUntilThaw) := by decide +kernel
theorem qw_1233 : lw_tbl[1233]? = some (Cond.code yX8_daysUntilThaw cX8_daysUntilThaw 3 (some FieldType.int)) := by decide +kernel
theorem qw_1236 : lw_tbl[1236]? = some (Cond.castable "java/util/NoSuchElementException" "java/util/NoSuchElementException") := by decide +kernel
theorem qw_1252 : lw_tbl[1252]? = some (Cond.codeWith yL_value cL_value 4 (some FieldType.int) [(0, 9, 12, 21)]) := by decide +kernel
theorem qw_1253 : lw_tbl[1253]? = some (Cond.methodLink "FlyTreasuryLaw" 77 yX8_value) := by decide +kernel
theorem qw_1254 : lw_tbl[1254]? = some (Cond.instanceMethod yX8_value) := by decide +kernel
theorem qw_1255 : lw_tbl[1255]? = some (Cond.selects "FlyTreasury" yX8_value yX8_value) := by decide +kernel
theorem qw_1256 : lw_tbl[1256]? = some (Cond.code yX8_value cX8_value 2 (some FieldType.int)) := by decide +kernel
theorem qw_1260 : lw_tbl[1260]? = some (Cond.codeWith yL_reserve cL_reserve 4 (some FieldType.int) [(0, 9, 12, 21)]) := by decide +kernel
theorem qw_1261 : lw_tbl[1261]? = some (Cond.methodLink "FlyTreasuryLaw" 80 yX8_reserve) := by decide +kernel
theorem qw_1262 : lw_tbl[1262]? = some (Cond.instanceMethod yX8_reserve) := by decide +kernel
theorem qw_1263 : lw_tbl[1263]? = some (Cond.selects "FlyTreasury" yX8_reserve yX8_reserve) := by decide +kernel
theorem qw_1264 : lw_tbl[1264]? = some (Cond.code yX8_reserve cX8_reserve 3 (some FieldType.int)) := by decide +kernel
theorem qw_1268 : lw_tbl[1268]? = some (Cond.codeWith yL_isSound cL_isSound 4 (some FieldType.int) [(0, 16, 19, 21)]) := by decide +kernel
theorem qw_1269 : lw_tbl[1269]? = some (Cond.methodLink "FlyTreasuryLaw" 83 yX8_isSound) := by decide +kernel
theorem qw_1270 : lw_tbl[1270]? = some (Cond.instanceMethod yX8_isSound) := by decide +kernel
theorem qw_1271 : lw_tbl[1271]? = some (Cond.selects "FlyTreasury" yX8_isSound yX8_isSound) := by decide +kernel
theorem qw_1272 : lw_tbl[1272]? = some (Cond.code yX8_isSound cX8_isSound 2 (some FieldType.boolean)) := by decide +kernel
theorem qw_1276 : lw_tbl[1276]? = some (Cond.codeWith yL_mintable cL_mintable 4 (some FieldType.int) [(0, 9, 12, 21)]) := by decide +kernel
theorem qw_1277 : lw_tbl[1277]? = some (Cond.methodLink "FlyTreasuryLaw" 86 yX8_mintable) := by decide +kernel
theorem qw_1278 : lw_tbl[1278]? = some (Cond.instanceMethod yX8_mintable) := by decide +kernel
theorem qw_1279 : lw_tbl[1279]? = some (Cond.selects "FlyTreasury" yX8_mintable yX8_mintable) := by decide +kernel
theorem qw_1280 : lw_tbl[1280]? = some (Cond.code yX8_mintable cX8_mintable 2 (some FieldType.int)) := by decide +kernel
theorem qw_1284 : lw_tbl[1284]? = some (Cond.codeWith yL_daysUntilSound cL_daysUntilSound 4 (some FieldType.int) [(0, 9, 12, 21)]) := by decide +kernel
theorem qw_1285 : lw_tbl[1285]? = some (Cond.methodLink "FlyTreasuryLaw" 89 yX8_daysUntilSound) := by decide +kernel
theorem qw_1286 : lw_tbl[1286]? = some (Cond.instanceMethod yX8_daysUntilSound) := by decide +kernel
theorem qw_1287 : lw_tbl[1287]? = some (Cond.selects "FlyTreasury" yX8_daysUntilSound yX8_daysUntilSound) := by decide +kernel
theorem qw_1288 : lw_tbl[1288]? = some (Cond.code yX8_daysUntilSound cX8_daysUntilSound 2 (some FieldType.int)) := by decide +kernel
theorem qw_1292 : lw_tbl[1292]? = some (Cond.codeWith yL_daysUntilSoundByCounting cL_daysUntilSoundByCounting 4 (some FieldType.int) [(0, 9, 12, 21)]) := by decide +kernel
theorem qw_1293 : lw_tbl[1293]? = some (Cond.methodLink "FlyTreasuryLaw" 92 yX8_daysUntilSoundByCounting) := by decide +kernel
theorem qw_1294 : lw_tbl[1294]? = some (Cond.instanceMethod yX8_daysUntilSoundByCounting) := by decide +kernel
theorem qw_1295 : lw_tbl[1295]? = some (Cond.selects "FlyTreasury" yX8_daysUntilSoundByCounting yX8_daysUntilSoundByCounting) := by decide +kernel
theorem qw_1296 : lw_tbl[1296]? = some (Cond.code yX8_daysUntilSoundByCounting cX8_daysUntilSoundByCounting 2 (some FieldType.int)) := by decide +kernel
theorem qw_1300 : lw_tbl[1300]? = some (Cond.codeWith yL_mostFlies cL_mostFlies 5 (some FieldType.int) [(0, 10, 13, 21), (0, 10, 17, 13)]) := by decide +kernel
theorem qw_1301 : lw_tbl[1301]? = some (Cond.methodLink "FlyTreasuryLaw" 95 yX8_mostFlies) := by decide +kernel
theorem qw_1302 : lw_tbl[1302]? = some (Cond.instanceMethod yX8_mostFlies) := by decide +kernel
theorem qw_1303 : lw_tbl[1303]? = some (Cond.selects "FlyTreasury" yX8_mostFlies yX8_mostFlies) := by decide +kernel
theorem qw_1304 : lw_tbl[1304]? = some (Cond.code yX8_mostFlies cX8_mostFlies 4 (some FieldType.int)) := by decide +kernel
theorem qw_1312 : lw_tbl[1312]? = some (Cond.codeWith yL_mostFliesByExchanges cL_mostFliesByExchanges 5 (some FieldType.int) [(0, 10, 13, 21), (0, 10, 17, 13)]) := by decide +kernel
theorem qw_1313 : lw_tbl[1313]? = some (Cond.methodLink "FlyTreasuryLaw" 98 yX8_mostFliesByExchanges) := by decide +kernel
theorem qw_1314 : lw_tbl[1314]? = some (Cond.instanceMethod yX8_mostFliesByExchanges) := by decide +kernel
theorem qw_1315 : lw_tbl[1315]? = some (Cond.selects "FlyTreasury" yX8_mostFliesByExchanges yX8_mostFliesByExchanges) := by decide +kernel
theorem qw_1316 : lw_tbl[1316]? = some (Cond.code yX8_mostFliesByExchanges cX8_mostFliesByExchanges 4 (some FieldType.int)) := by decide +kernel
theorem qw_1323 : lw_tbl[1323]? = some (Cond.codeWith yL_rate cL_rate 4 (some FieldType.int) [(0, 9, 12, 13)]) := by decide +kernel
theorem qw_1324 : lw_tbl[1324]? = some (Cond.methodLink "FlyTreasuryLaw" 101 yX8_rate) := by decide +kernel
theorem qw_1325 : lw_tbl[1325]? = some (Cond.instanceMethod yX8_rate) := by decide +kernel
theorem qw_1326 : lw_tbl[1326]? = some (Cond.selects "FlyTreasury" yX8_rate yX8_rate) := by decide +kernel
theorem qw_1327 : lw_tbl[1327]? = some (Cond.code yX8_rate cX8_rate 2 (some FieldType.int)) := by decide +kernel
theorem qw_1330 : lw_tbl[1330]? = some (Cond.codeWith yL_totalFlies cL_totalFlies 4 (some FieldType.int) [(0, 9, 12, 13)]) := by decide +kernel
theorem qw_1331 : lw_tbl[1331]? = some (Cond.methodLink "FlyTreasuryLaw" 105 yX8_totalFlies) := by decide +kernel
theorem qw_1332 : lw_tbl[1332]? = some (Cond.instanceMethod yX8_totalFlies) := by decide +kernel
theorem qw_1333 : lw_tbl[1333]? = some (Cond.selects "FlyTreasury" yX8_totalFlies yX8_totalFlies) := by decide +kernel
theorem qw_1334 : lw_tbl[1334]? = some (Cond.code yX8_totalFlies cX8_totalFlies 2 (some FieldType.int)) := by decide +kernel
theorem qw_1338 : lw_tbl[1338]? = some (Cond.codeWith yL_totalFliesByAccounts cL_totalFliesByAccounts 4 (some FieldType.int) [(0, 9, 12, 13)]) := by decide +kernel
theorem qw_1339 : lw_tbl[1339]? = some (Cond.methodLink "FlyTreasuryLaw" 108 yX8_totalFliesByAccounts) := by decide +kernel
theorem qw_1340 : lw_tbl[1340]? = some (Cond.instanceMethod yX8_totalFliesByAccounts) := by decide +kernel
theorem qw_1341 : lw_tbl[1341]? = some (Cond.selects "FlyTreasury" yX8_totalFliesByAccounts yX8_totalFliesByAccounts) := by decide +kernel
theorem qw_1342 : lw_tbl[1342]? = some (Cond.code yX8_totalFliesByAccounts cX8_totalFliesByAccounts 2 (some FieldType.int)) := by decide +kernel
theorem qw_1346 : lw_tbl[1346]? = some (Cond.codeWith yL_vaultByValue cL_vaultByValue 4 (some FieldType.int) [(0, 9, 12, 75)]) := by decide +kernel
theorem qw_1347 : lw_tbl[1347]? = some (Cond.methodLink "FlyTreasuryLaw" 111 yX8_vaultByValue) := by decide +kernel
theorem qw_1348 : lw_tbl[1348]? = some (Cond.instanceMethod yX8_vaultByValue) := by decide +kernel
theorem qw_1349 : lw_tbl[1349]? = some (Cond.selects "FlyTreasury" yX8_vaultByValue yX8_vaultByValue) := by decide +kernel
theorem qw_1350 : lw_tbl[1350]? = some (Cond.code yX8_vaultByValue cX8_vaultByValue 3 (some FieldType.int)) := by decide +kernel
theorem qw_1362 : lw_tbl[1362]? = some (Cond.codeWith yL_kindByValue cL_kindByValue 4 (some FieldType.int) [(0, 9, 12, 75)]) := by decide +kernel
theorem qw_1363 : lw_tbl[1363]? = some (Cond.methodLink "FlyTreasuryLaw" 114 yX8_kindByValue) := by decide +kernel
theorem qw_1364 : lw_tbl[1364]? = some (Cond.instanceMethod yX8_kindByValue) := by decide +kernel
theorem qw_1365 : lw_tbl[1365]? = some (Cond.selects "FlyTreasury" yX8_kindByValue yX8_kindByValue) := by decide +kernel
theorem qw_1366 : lw_tbl[1366]? = some (Cond.code yX8_kindByValue cX8_kindByValue 3 (some FieldType.char)) := by decide +kernel
theorem qw_1377 : lw_tbl[1377]? = some (Cond.codeWith yL_meanValue cL_meanValue 3 (some FieldType.int) [(0, 7, 10, 122)]) := by decide +kernel
theorem qw_1378 : lw_tbl[1378]? = some (Cond.classLink "FlyTreasuryLaw" 122 "java/lang/ArithmeticException") := by decide +kernel
theorem qw_1390 : lw_tbl[1390]? = some (Cond.castable "java/lang/ArithmeticException" "java/lang/ArithmeticException") := by decide +kernel
theorem qw_1392 : lw_tbl[1392]? = some (Cond.methodLink "FlyTreasuryLaw" 118 yX8_meanValue) := by decide +kernel
theorem qw_1393 : lw_tbl[1393]? = some (Cond.instanceMethod yX8_meanValue) := by decide +kernel
theorem qw_1394 : lw_tbl[1394]? = some (Cond.selects "FlyTreasury" yX8_meanValue yX8_meanValue) := by decide +kernel
theorem qw_1395 : lw_tbl[1395]? = some (Cond.code yX8_meanValue cX8_meanValue 1 (some FieldType.double)) := by decide +kernel
theorem qw_1401 : lw_tbl[1401]? = some (Cond.codeWith yL_soundShare cL_soundShare 3 (some FieldType.int) [(0, 8, 11, 122)]) := by decide +kernel
theorem qw_1402 : lw_tbl[1402]? = some (Cond.methodLink "FlyTreasuryLaw" 124 yX8_soundShare) := by decide +kernel
theorem qw_1403 : lw_tbl[1403]? = some (Cond.instanceMethod yX8_soundShare) := by decide +kernel
theorem qw_1404 : lw_tbl[1404]? = some (Cond.selects "FlyTreasury" yX8_soundShare yX8_soundShare) := by decide +kernel
theorem qw_1405 : lw_tbl[1405]? = some (Cond.code yX8_soundShare cX8_soundShare 1 (some FieldType.float)) := by decide +kernel
theorem qw_1409 : lw_tbl[1409]? = some (Cond.codeWith yL_renderVault cL_renderVault 4 (some FieldType.int) [(0, 9, 12, 21)]) := by decide +kernel
theorem qw_1410 : lw_tbl[1410]? = some (Cond.methodLink "FlyTreasuryLaw" 128 yX8_renderVault) := by decide +kernel
theorem qw_1411 : lw_tbl[1411]? = some (Cond.instanceMethod yX8_renderVault) := by decide +kernel
theorem qw_1412 : lw_tbl[1412]? = some (Cond.selects "FlyTreasury" yX8_renderVault yX8_renderVault) := by decide +kernel
theorem qw_1413 : lw_tbl[1413]? = some (Cond.code yX8_renderVault cX8_renderVault 4 (some FieldType.int)) := by decide +kernel
theorem qw_1416 : lw_tbl[1416]? = some (Cond.codeWith yL_outputAt cL_outputAt 4 (some FieldType.int) [(0, 9, 12, 21)]) := by decide +kernel
theorem qw_1417 : lw_tbl[1417]? = some (Cond.methodLink "FlyTreasuryLaw" 131 yX8_outputAt) := by decide +kernel
theorem qw_1418 : lw_tbl[1418]? = some (Cond.instanceMethod yX8_outputAt) := by decide +kernel
theorem qw_1419 : lw_tbl[1419]? = some (Cond.selects "FlyTreasury" yX8_outputAt yX8_outputAt) := by decide +kernel
theorem qw_1420 : lw_tbl[1420]? = some (Cond.code yX8_outputAt cX8_outputAt 2 (some FieldType.char)) := by decide +kernel
theorem qw_1434 : lw_tbl[1434]? = some (Cond.codeWith yL_type cL_type 4 (some FieldType.int) [(0, 9, 12, 13), (0, 9, 15, 15)]) := by decide +kernel
theorem qw_1435 : lw_tbl[1435]? = some (Cond.methodLink "FlyTreasuryLaw" 134 yX8_type) := by decide +kernel
theorem qw_1436 : lw_tbl[1436]? = some (Cond.instanceMethod yX8_type) := by decide +kernel
theorem qw_1437 : lw_tbl[1437]? = some (Cond.selects "FlyTreasury" yX8_type yX8_type) := by decide +kernel
theorem qw_1438 : lw_tbl[1438]? = some (Cond.code yX8_type cX8_type 2 (some FieldType.int)) := by decide +kernel
theorem qw_1447 : lw_tbl[1447]? = some (Cond.codeWith yL_runScript cL_runScript 3 (some FieldType.int) [(0, 8, 11, 13), (0, 8, 14, 15)]) := by decide +kernel
theorem qw_1448 : lw_tbl[1448]? = some (Cond.methodLink "FlyTreasuryLaw" 137 yX8_runScript) := by decide +kernel
theorem qw_1449 : lw_tbl[1449]? = some (Cond.instanceMethod yX8_runScript) := by decide +kernel
theorem qw_1450 : lw_tbl[1450]? = some (Cond.selects "FlyTreasury" yX8_runScript yX8_runScript) := by decide +kernel
theorem qw_1451 : lw_tbl[1451]? = some (Cond.code yX8_runScript cX8_runScript 3 (some FieldType.int)) := by decide +kernel
theorem qw_1526 : lw_tbl[1526]? = some (Cond.codeWith yL_errorPosition cL_errorPosition 3 (some FieldType.int) [(0, 8, 11, 75)]) := by decide +kernel
theorem qw_1527 : lw_tbl[1527]? = some (Cond.methodLink "FlyTreasuryLaw" 141 yX8_errorPosition) := by decide +kernel
theorem qw_1528 : lw_tbl[1528]? = some (Cond.instanceMethod yX8_errorPosition) := by decide +kernel
theorem qw_1529 : lw_tbl[1529]? = some (Cond.selects "FlyTreasury" yX8_errorPosition yX8_errorPosition) := by decide +kernel
theorem qw_1530 : lw_tbl[1530]? = some (Cond.code yX8_errorPosition cX8_errorPosition 1 (some FieldType.int)) := by decide +kernel
theorem qw_1534 : lw_tbl[1534]? = some (Cond.codeWith yL_failedCommand cL_failedCommand 3 (some FieldType.int) [(0, 8, 11, 75)]) := by decide +kernel
theorem qw_1535 : lw_tbl[1535]? = some (Cond.methodLink "FlyTreasuryLaw" 144 yX8_failedCommand) := by decide +kernel
theorem qw_1536 : lw_tbl[1536]? = some (Cond.instanceMethod yX8_failedCommand) := by decide +kernel
theorem qw_1537 : lw_tbl[1537]? = some (Cond.selects "FlyTreasury" yX8_failedCommand yX8_failedCommand) := by decide +kernel
theorem qw_1538 : lw_tbl[1538]? = some (Cond.code yX8_failedCommand cX8_failedCommand 1 (some FieldType.int)) := by decide +kernel
theorem qw_1542 : lw_tbl[1542]? = some (Cond.codeWith yL_undo cL_undo 3 (some FieldType.int) [(0, 8, 11, 15)]) := by decide +kernel
theorem qw_1543 : lw_tbl[1543]? = some (Cond.methodLink "FlyTreasuryLaw" 147 yX8_undo) := by decide +kernel
theorem qw_1544 : lw_tbl[1544]? = some (Cond.instanceMethod yX8_undo) := by decide +kernel
theorem qw_1545 : lw_tbl[1545]? = some (Cond.selects "FlyTreasury" yX8_undo yX8_undo) := by decide +kernel
theorem qw_1546 : lw_tbl[1546]? = some (Cond.code yX8_undo cX8_undo 1 (some FieldType.int)) := by decide +kernel
theorem qw_1554 : lw_tbl[1554]? = some (Cond.codeWith yL_restore cL_restore 3 (some FieldType.int) [(0, 8, 11, 15)]) := by decide +kernel
theorem qw_1555 : lw_tbl[1555]? = some (Cond.methodLink "FlyTreasuryLaw" 150 yX8_restore) := by decide +kernel
theorem qw_1556 : lw_tbl[1556]? = some (Cond.instanceMethod yX8_restore) := by decide +kernel
theorem qw_1557 : lw_tbl[1557]? = some (Cond.selects "FlyTreasury" yX8_restore yX8_restore) := by decide +kernel
theorem qw_1558 : lw_tbl[1558]? = some (Cond.code yX8_restore cX8_restore 1 (some FieldType.int)) := by decide +kernel
theorem myL_addVault : yL_addVault.cls = "FlyTreasuryLaw" ∧ yL_addVault.cls ≠ "java/lang/invoke/MethodHandle" ∧ yL_addVault.cls ≠ "java/lang/invoke/VarHandle" ∧ (parseMethodDescriptor yL_addVault.desc).map (fun d => d.parameters.length) = some 3 := by decide +kernel
theorem myL_deposit : yL_deposit.cls = "FlyTreasuryLaw" ∧ yL_deposit.cls ≠ "java/lang/invoke/MethodHandle" ∧ yL_deposit.cls ≠ "java/lang/invoke/VarHandle" ∧ (parseMethodDescriptor yL_deposit.desc).map (fun d => d.parameters.length) = some 5 := by decide +kernel
theorem myL_withdraw : yL_withdraw.cls = "FlyTreasuryLaw" ∧ yL_withdraw.cls ≠ "java/lang/invoke/MethodHandle" ∧ yL_withdraw.cls ≠ "java/lang/invoke/VarHandle" ∧ (parseMethodDescriptor yL_withdraw.desc).map (fun d => d.parameters.length) = some 5 := by decide +kernel
theorem myL_exchange : yL_exchange.cls = "FlyTreasuryLaw" ∧ yL_exchange.cls ≠ "java/lang/invoke/MethodHandle" ∧ yL_exchange.cls ≠ "java/lang/invoke/VarHandle" ∧ (parseMethodDescriptor yL_exchange.desc).map (fun d => d.parameters.length) = some 6 := by decide +kernel
theorem myL_mint : yL_mint.cls = "FlyTreasuryLaw" ∧ yL_mint.cls ≠ "java/lang/invoke/MethodHandle" ∧ yL_mint.cls ≠ "java/lang/invoke/VarHandle" ∧ (parseMethodDescriptor yL_mint.desc).map (fun d => d.parameters.length) = some 4 := by decide +kernel
theorem myL_redeem : yL_redeem.cls = "FlyTreasuryLaw" ∧ yL_redeem.cls ≠ "java/lang/invoke/MethodHandle" ∧ yL_redeem.cls ≠ "java/lang/invoke/VarHandle" ∧ (parseMethodDescriptor yL_redeem.desc).map (fun d => d.parameters.length) = some 4 := by decide +kernel
theorem myL_audit : yL_audit.cls = "FlyTreasuryLaw" ∧ yL_audit.cls ≠ "java/lang/invoke/MethodHandle" ∧ yL_audit.cls ≠ "java/lang/invoke/VarHandle" ∧ (parseMethodDescriptor yL_audit.desc).map (fun d => d.parameters.length) = some 3 := by decide +kernel
theorem myL_setRate : yL_setRate.cls = "FlyTreasuryLaw" ∧ yL_setRate.cls ≠ "java/lang/invoke/MethodHandle" ∧ yL_setRate.cls ≠ "java/lang/invoke/VarHandle" ∧ (parseMethodDescriptor yL_setRate.desc).map (fun d => d.parameters.length) = some 4 := by decide +kernel
theorem myL_setStickiness : yL_setStickiness.cls = "FlyTreasuryLaw" ∧ yL_setStickiness.cls ≠ "java/lang/invoke/MethodHandle" ∧ yL_setStickiness.cls ≠ "java/lang/invoke/VarHandle" ∧ (parseMethodDescriptor yL_setStickiness.desc).map (fun d => d.parameters.length) = some 4 := by decide +kernel
theorem myL_passDays : yL_passDays.cls = "FlyTreasuryLaw" ∧ yL_passDays.cls ≠ "java/lang/invoke/MethodHandle" ∧ yL_passDays.cls ≠ "java/lang/invoke/VarHandle" ∧ (parseMethodDescriptor yL_passDays.desc).map (fun d => d.parameters.length) = some 3 := by decide +kernel
theorem myL_flies : yL_flies.cls = "FlyTreasuryLaw" ∧ yL_flies.cls ≠ "java/lang/invoke/MethodHandle" ∧ yL_flies.cls ≠ "java/lang/invoke/VarHandle" ∧ (parseMethodDescriptor yL_flies.desc).map (fun d => d.parameters.length) = some 4 := by decide +kernel
theorem myL_crumbs : yL_crumbs.cls = "FlyTreasuryLaw" ∧ yL_crumbs.cls ≠ "java/lang/invoke/MethodHandle" ∧ yL_crumbs.cls ≠ "java/lang/invoke/VarHandle" ∧ (parseMethodDescriptor yL_crumbs.desc).map (fun d => d.parameters.length) = some 3 := by decide +kernel
theorem myL_dew : yL_dew.cls = "FlyTreasuryLaw" ∧ yL_dew.cls ≠ "java/lang/invoke/MethodHandle" ∧ yL_dew.cls ≠ "java/lang/invoke/VarHandle" ∧ (parseMethodDescriptor yL_dew.desc).map (fun d => d.parameters.length) = some 3 := by decide +kernel
theorem myL_wings : yL_wings.cls = "FlyTreasuryLaw" ∧ yL_wings.cls ≠ "java/lang/invoke/MethodHandle" ∧ yL_wings.cls ≠ "java/lang/invoke/VarHandle" ∧ (parseMethodDescriptor yL_wings.desc).map (fun d => d.parameters.length) = some 3 := by decide +kernel
theorem myL_stickiness : yL_stickiness.cls = "FlyTreasuryLaw" ∧ yL_stickiness.cls ≠ "java/lang/invoke/MethodHandle" ∧ yL_stickiness.cls ≠ "java/lang/invoke/VarHandle" ∧ (parseMethodDescriptor yL_stickiness.desc).map (fun d => d.parameters.length) = some 3 := by decide +kernel
theorem myL_isFrozen : yL_isFrozen.cls = "FlyTreasuryLaw" ∧ yL_isFrozen.cls ≠ "java/lang/invoke/MethodHandle" ∧ yL_isFrozen.cls ≠ "java/lang/invoke/VarHandle" ∧ (parseMethodDescriptor yL_isFrozen.desc).map (fun d => d.parameters.length) = some 3 := by decide +kernel
theorem myL_daysUntilThaw : yL_daysUntilThaw.cls = "FlyTreasuryLaw" ∧ yL_daysUntilThaw.cls ≠ "java/lang/invoke/MethodHandle" ∧ yL_daysUntilThaw.cls ≠ "java/lang/invoke/VarHandle" ∧ (parseMethodDescriptor yL_daysUntilThaw.desc).map (fun d => d.parameters.length) = some 3 := by decide +kernel
theorem myL_value : yL_value.cls = "FlyTreasuryLaw" ∧ yL_value.cls ≠ "java/lang/invoke/MethodHandle" ∧ yL_value.cls ≠ "java/lang/invoke/VarHandle" ∧ (parseMethodDescriptor yL_value.desc).map (fun d => d.parameters.length) = some 3 := by decide +kernel
theorem myL_reserve : yL_reserve.cls = "FlyTreasuryLaw" ∧ yL_reserve.cls ≠ "java/lang/invoke/MethodHandle" ∧ yL_reserve.cls ≠ "java/lang/invoke/VarHandle" ∧ (parseMethodDescriptor yL_reserve.desc).map (fun d => d.parameters.length) = some 3 := by decide +kernel
theorem myL_isSound : yL_isSound.cls = "FlyTreasuryLaw" ∧ yL_isSound.cls ≠ "java/lang/invoke/MethodHandle" ∧ yL_isSound.cls ≠ "java/lang/invoke/VarHandle" ∧ (parseMethodDescriptor yL_isSound.desc).map (fun d => d.parameters.length) = some 3 := by decide +kernel
theorem myL_mintable : yL_mintable.cls = "FlyTreasuryLaw" ∧ yL_mintable.cls ≠ "java/lang/invoke/MethodHandle" ∧ yL_mintable.cls ≠ "java/lang/invoke/VarHandle" ∧ (parseMethodDescriptor yL_mintable.desc).map (fun d => d.parameters.length) = some 3 := by decide +kernel
theorem myL_daysUntilSound : yL_daysUntilSound.cls = "FlyTreasuryLaw" ∧ yL_daysUntilSound.cls ≠ "java/lang/invoke/MethodHandle" ∧ yL_daysUntilSound.cls ≠ "java/lang/invoke/VarHandle" ∧ (parseMethodDescriptor yL_daysUntilSound.desc).map (fun d => d.parameters.length) = some 3 := by decide +kernel
theorem myL_daysUntilSoundByCounting : yL_daysUntilSoundByCounting.cls = "FlyTreasuryLaw" ∧ yL_daysUntilSoundByCounting.cls ≠ "java/lang/invoke/MethodHandle" ∧ yL_daysUntilSoundByCounting.cls ≠ "java/lang/invoke/VarHandle" ∧ (parseMethodDescriptor yL_daysUntilSoundByCounting.desc).map (fun d => d.parameters.length) = some 3 := by decide +kernel
theorem myL_mostFlies : yL_mostFlies.cls = "FlyTreasuryLaw" ∧ yL_mostFlies.cls ≠ "java/lang/invoke/MethodHandle" ∧ yL_mostFlies.cls ≠ "java/lang/invoke/VarHandle" ∧ (parseMethodDescriptor yL_mostFlies.desc).map (fun d => d.parameters.length) = some 4 := by decide +kernel
theorem myL_mostFliesByExchanges : yL_mostFliesByExchanges.cls = "FlyTreasuryLaw" ∧ yL_mostFliesByExchanges.cls ≠ "java/lang/invoke/MethodHandle" ∧ yL_mostFliesByExchanges.cls ≠ "java/lang/invoke/VarHandle" ∧ (parseMethodDescriptor yL_mostFliesByExchanges.desc).map (fun d => d.parameters.length) = some 4 := by decide +kernel
theorem myL_rate : yL_rate.cls = "FlyTreasuryLaw" ∧ yL_rate.cls ≠ "java/lang/invoke/MethodHandle" ∧ yL_rate.cls ≠ "java/lang/invoke/VarHandle" ∧ (parseMethodDescriptor yL_rate.desc).map (fun d => d.parameters.length) = some 3 := by decide +kernel
theorem myL_totalFlies : yL_totalFlies.cls = "FlyTreasuryLaw" ∧ yL_totalFlies.cls ≠ "java/lang/invoke/MethodHandle" ∧ yL_totalFlies.cls ≠ "java/lang/invoke/VarHandle" ∧ (parseMethodDescriptor yL_totalFlies.desc).map (fun d => d.parameters.length) = some 3 := by decide +kernel
theorem myL_totalFliesByAccounts : yL_totalFliesByAccounts.cls = "FlyTreasuryLaw" ∧ yL_totalFliesByAccounts.cls ≠ "java/lang/invoke/MethodHandle" ∧ yL_totalFliesByAccounts.cls ≠ "java/lang/invoke/VarHandle" ∧ (parseMethodDescriptor yL_totalFliesByAccounts.desc).map (fun d => d.parameters.length) = some 3 := by decide +kernel
theorem myL_vaultByValue : yL_vaultByValue.cls = "FlyTreasuryLaw" ∧ yL_vaultByValue.cls ≠ "java/lang/invoke/MethodHandle" ∧ yL_vaultByValue.cls ≠ "java/lang/invoke/VarHandle" ∧ (parseMethodDescriptor yL_vaultByValue.desc).map (fun d => d.parameters.length) = some 3 := by decide +kernel
theorem myL_kindByValue : yL_kindByValue.cls = "FlyTreasuryLaw" ∧ yL_kindByValue.cls ≠ "java/lang/invoke/MethodHandle" ∧ yL_kindByValue.cls ≠ "java/lang/invoke/VarHandle" ∧ (parseMethodDescriptor yL_kindByValue.desc).map (fun d => d.parameters.length) = some 3 := by decide +kernel
theorem myL_meanValue : yL_meanValue.cls = "FlyTreasuryLaw" ∧ yL_meanValue.cls ≠ "java/lang/invoke/MethodHandle" ∧ yL_meanValue.cls ≠ "java/lang/invoke/VarHandle" ∧ (parseMethodDescriptor yL_meanValue.desc).map (fun d => d.parameters.length) = some 2 := by decide +kernel
theorem myL_soundShare : yL_soundShare.cls = "FlyTreasuryLaw" ∧ yL_soundShare.cls ≠ "java/lang/invoke/MethodHandle" ∧ yL_soundShare.cls ≠ "java/lang/invoke/VarHandle" ∧ (parseMethodDescriptor yL_soundShare.desc).map (fun d => d.parameters.length) = some 2 := by decide +kernel
theorem myL_renderVault : yL_renderVault.cls = "FlyTreasuryLaw" ∧ yL_renderVault.cls ≠ "java/lang/invoke/MethodHandle" ∧ yL_renderVault.cls ≠ "java/lang/invoke/VarHandle" ∧ (parseMethodDescriptor yL_renderVault.desc).map (fun d => d.parameters.length) = some 3 := by decide +kernel
theorem myL_outputAt : yL_outputAt.cls = "FlyTreasuryLaw" ∧ yL_outputAt.cls ≠ "java/lang/invoke/MethodHandle" ∧ yL_outputAt.cls ≠ "java/lang/invoke/VarHandle" ∧ (parseMethodDescriptor yL_outputAt.desc).map (fun d => d.parameters.length) = some 3 := by decide +kernel
theorem myL_type : yL_type.cls = "FlyTreasuryLaw" ∧ yL_type.cls ≠ "java/lang/invoke/MethodHandle" ∧ yL_type.cls ≠ "java/lang/invoke/VarHandle" ∧ (parseMethodDescriptor yL_type.desc).map (fun d => d.parameters.length) = some 3 := by decide +kernel
theorem myL_runScript : yL_runScript.cls = "FlyTreasuryLaw" ∧ yL_runScript.cls ≠ "java/lang/invoke/MethodHandle" ∧ yL_runScript.cls ≠ "java/lang/invoke/VarHandle" ∧ (parseMethodDescriptor yL_runScript.desc).map (fun d => d.parameters.length) = some 2 := by decide +kernel
theorem myL_errorPosition : yL_errorPosition.cls = "FlyTreasuryLaw" ∧ yL_errorPosition.cls ≠ "java/lang/invoke/MethodHandle" ∧ yL_errorPosition.cls ≠ "java/lang/invoke/VarHandle" ∧ (parseMethodDescriptor yL_errorPosition.desc).map (fun d => d.parameters.length) = some 2 := by decide +kernel
theorem myL_failedCommand : yL_failedCommand.cls = "FlyTreasuryLaw" ∧ yL_failedCommand.cls ≠ "java/lang/invoke/MethodHandle" ∧ yL_failedCommand.cls ≠ "java/lang/invoke/VarHandle" ∧ (parseMethodDescriptor yL_failedCommand.desc).map (fun d => d.parameters.length) = some 2 := by decide +kernel
theorem myL_undo : yL_undo.cls = "FlyTreasuryLaw" ∧ yL_undo.cls ≠ "java/lang/invoke/MethodHandle" ∧ yL_undo.cls ≠ "java/lang/invoke/VarHandle" ∧ (parseMethodDescriptor yL_undo.desc).map (fun d => d.parameters.length) = some 2 := by decide +kernel
theorem myL_restore : yL_restore.cls = "FlyTreasuryLaw" ∧ yL_restore.cls ≠ "java/lang/invoke/MethodHandle" ∧ yL_restore.cls ≠ "java/lang/invoke/VarHandle" ∧ (parseMethodDescriptor yL_restore.desc).map (fun d => d.parameters.length) = some 2 := by decide +kernel
