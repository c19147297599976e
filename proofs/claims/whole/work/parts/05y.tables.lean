theorem qw_73 : lw_tbl[73]? = some (Cond.initialized "FlyTreasuryLaw") := by decide +kernel
theorem qw_346 : lw_tbl[346]? = some (Cond.methodLink "FlyTreasuryLaw" 197 yX8_vaultCount) := by decide +kernel
theorem qw_347 : lw_tbl[347]? = some (Cond.instanceMethod yX8_vaultCount) := by decide +kernel
theorem qw_348 : lw_tbl[348]? = some (Cond.selects "FlyTreasury" yX8_vaultCount yX8_vaultCount) := by decide +kernel
theorem qw_349 : lw_tbl[349]? = some (Cond.code yX8_vaultCount cX8_vaultCount 1 (some FieldType.int)) := by decide +kernel
theorem qw_350 : lw_tbl[350]? = some (Cond.methodLink "FlyTreasuryLaw" 257 yX8_totalValue) := by decide +kernel
theorem qw_351 : lw_tbl[351]? = some (Cond.instanceMethod yX8_totalValue) := by decide +kernel
theorem qw_352 : lw_tbl[352]? = some (Cond.selects "FlyTreasury" yX8_totalValue yX8_totalValue) := by decide +kernel
theorem qw_353 : lw_tbl[353]? = some (Cond.code yX8_totalValue cX8_totalValue 1 (some FieldType.int)) := by decide +kernel
theorem qw_362 : lw_tbl[362]? = some (Cond.methodLink "FlyTreasuryLaw" 261 yX8_totalValueByKinds) := by decide +kernel
theorem qw_363 : lw_tbl[363]? = some (Cond.instanceMethod yX8_totalValueByKinds) := by decide +kernel
theorem qw_364 : lw_tbl[364]? = some (Cond.selects "FlyTreasury" yX8_totalValueByKinds yX8_totalValueByKinds) := by decide +kernel
theorem qw_365 : lw_tbl[365]? = some (Cond.code yX8_totalValueByKinds cX8_totalValueByKinds 1 (some FieldType.int)) := by decide +kernel
theorem qw_378 : lw_tbl[378]? = some (Cond.methodLink "FlyTreasuryLaw" 271 yX8_day) := by decide +kernel
theorem qw_379 : lw_tbl[379]? = some (Cond.instanceMethod yX8_day) := by decide +kernel
theorem qw_380 : lw_tbl[380]? = some (Cond.selects "FlyTreasury" yX8_day yX8_day) := by decide +kernel
theorem qw_381 : lw_tbl[381]? = some (Cond.code yX8_day cX8_day 1 (some FieldType.int)) := by decide +kernel
theorem qw_382 : lw_tbl[382]? = some (Cond.methodLink "FlyTreasuryLaw" 275 yX8_mintedTotal) := by decide +kernel
theorem qw_383 : lw_tbl[383]? = some (Cond.instanceMethod yX8_mintedTotal) := by decide +kernel
theorem qw_384 : lw_tbl[384]? = some (Cond.selects "FlyTreasury" yX8_mintedTotal yX8_mintedTotal) := by decide +kernel
theorem qw_385 : lw_tbl[385]? = some (Cond.code yX8_mintedTotal cX8_mintedTotal 1 (some FieldType.int)) := by decide +kernel
theorem qw_386 : lw_tbl[386]? = some (Cond.methodLink "FlyTreasuryLaw" 279 yX8_redeemedTotal) := by decide +kernel
theorem qw_387 : lw_tbl[387]? = some (Cond.instanceMethod yX8_redeemedTotal) := by decide +kernel
theorem qw_388 : lw_tbl[388]? = some (Cond.selects "FlyTreasury" yX8_redeemedTotal yX8_redeemedTotal) := by decide +kernel
theorem qw_389 : lw_tbl[389]? = some (Cond.code yX8_redeemedTotal cX8_redeemedTotal 1 (some FieldType.int)) := by decide +kernel
theorem qw_390 : lw_tbl[390]? = some (Cond.methodLink "FlyTreasuryLaw" 283 yX8_evaporatedTotal) := by decide +kernel
theorem qw_391 : lw_tbl[391]? = some (Cond.instanceMethod yX8_evaporatedTotal) := by decide +kernel
theorem qw_392 : lw_tbl[392]? = some (Cond.selects "FlyTreasury" yX8_evaporatedTotal yX8_evaporatedTotal) := by decide +kernel
theorem qw_393 : lw_tbl[393]? = some (Cond.code yX8_evaporatedTotal cX8_evaporatedTotal 1 (some FieldType.int)) := by decide +kernel
theorem qw_394 : lw_tbl[394]? = some (Cond.methodLink "FlyTreasuryLaw" 287 yX8_auditTotal) := by decide +kernel
theorem qw_395 : lw_tbl[395]? = some (Cond.instanceMethod yX8_auditTotal) := by decide +kernel
theorem qw_396 : lw_tbl[396]? = some (Cond.selects "FlyTreasury" yX8_auditTotal yX8_auditTotal) := by decide +kernel
theorem qw_397 : lw_tbl[397]? = some (Cond.code yX8_auditTotal cX8_auditTotal 1 (some FieldType.int)) := by decide +kernel
theorem qw_398 : lw_tbl[398]? = some (Cond.methodLink "FlyTreasuryLaw" 291 yX8_soundAuditTotal) := by decide +kernel
theorem qw_399 : lw_tbl[399]? = some (Cond.instanceMethod yX8_soundAuditTotal) := by decide +kernel
theorem qw_400 : lw_tbl[400]? = some (Cond.selects "FlyTreasury" yX8_soundAuditTotal yX8_soundAuditTotal) := by decide +kernel
theorem qw_401 : lw_tbl[401]? = some (Cond.code yX8_soundAuditTotal cX8_soundAuditTotal 1 (some FieldType.int)) := by decide +kernel
theorem qw_402 : lw_tbl[402]? = some (Cond.methodLink "FlyTreasuryLaw" 302 yX8_isConsistent) := by decide +kernel
theorem qw_403 : lw_tbl[403]? = some (Cond.instanceMethod yX8_isConsistent) := by decide +kernel
theorem qw_404 : lw_tbl[404]? = some (Cond.selects "FlyTreasury" yX8_isConsistent yX8_isConsistent) := by decide +kernel
theorem qw_405 : lw_tbl[405]? = some (Cond.code yX8_isConsistent cX8_isConsistent 1 (some FieldType.boolean)) := by decide +kernel
theorem qw_448 : lw_tbl[448]? = some (Cond.methodLink "FlyTreasuryLaw" 310 yX8_renderRates) := by decide +kernel
theorem qw_449 : lw_tbl[449]? = some (Cond.instanceMethod yX8_renderRates) := by decide +kernel
theorem qw_450 : lw_tbl[450]? = some (Cond.selects "FlyTreasury" yX8_renderRates yX8_renderRates) := by decide +kernel
theorem qw_451 : lw_tbl[451]? = some (Cond.code yX8_renderRates cX8_renderRates 2 (some FieldType.int)) := by decide +kernel
theorem qw_648 : lw_tbl[648]? = some (Cond.castable "java/lang/IllegalArgumentException" "java/lang/IllegalArgumentException") := by decide +kernel
theorem qw_837 : lw_tbl[837]? = some (Cond.methodLink "FlyTreasuryLaw" 333 yX8_save) := by decide +kernel
theorem qw_838 : lw_tbl[838]? = some (Cond.instanceMethod yX8_save) := by decide +kernel
theorem qw_839 : lw_tbl[839]? = some (Cond.selects "FlyTreasury" yX8_save yX8_save) := by decide +kernel
theorem qw_840 : lw_tbl[840]? = some (Cond.code yX8_save cX8_save 1 (some FieldType.int)) := by decide +kernel
theorem qw_851 : lw_tbl[851]? = some (Cond.methodLink "FlyTreasuryLaw" 157 yL_addVault) := by decide +kernel
theorem qw_852 : lw_tbl[852]? = some (Cond.static yL_addVault) := by decide +kernel
theorem qw_853 : lw_tbl[853]? = some (Cond.codeWith yL_addVault cL_addVault 4 (some FieldType.int) [(0, 9, 12, 13), (0, 9, 15, 15)]) := by decide +kernel
theorem qw_854 : lw_tbl[854]? = some (Cond.classLink "FlyTreasuryLaw" 13 "java/lang/IllegalArgumentException") := by decide +kernel
theorem qw_855 : lw_tbl[855]? = some (Cond.classLink "FlyTreasuryLaw" 15 "java/lang/IllegalStateException") := by decide +kernel
theorem qw_856 : lw_tbl[856]? = some (Cond.methodLink "FlyTreasuryLaw" 7 yX8_addVault) := by decide +kernel
theorem qw_857 : lw_tbl[857]? = some (Cond.instanceMethod yX8_addVault) := by decide +kernel
theorem qw_858 : lw_tbl[858]? = some (Cond.selects "FlyTreasury" yX8_addVault yX8_addVault) := by decide +kernel
theorem qw_859 : lw_tbl[859]? = some (Cond.code yX8_addVault cX8_addVault 2 (some FieldType.int)) := by decide +kernel
theorem qw_886 : lw_tbl[886]? = some (Cond.castable "java/lang/IndexOutOfBoundsException" "java/lang/IndexOutOfBoundsException") := by decide +kernel
theorem qw_902 : lw_tbl[902]? = some (Cond.castable "java/lang/IllegalStateException" "java/lang/IllegalStateException") := by decide +kernel
theorem qw_918 : lw_tbl[918]? = some (Cond.castable "java/lang/UnsupportedOperationException" "java/lang/UnsupportedOperationException") := by decide +kernel
theorem qw_942 : lw_tbl[942]? = some (Cond.methodLink "FlyTreasuryLaw" 166 yL_deposit) := by decide +kernel
theorem qw_943 : lw_tbl[943]? = some (Cond.static yL_deposit) := by decide +kernel
theorem qw_944 : lw_tbl[944]? = some (Cond.codeWith yL_deposit cL_deposit 6 (some FieldType.int) [(0, 12, 15, 21), (0, 12, 19, 13), (0, 12, 23, 15)]) := by decide +kernel
theorem qw_945 : lw_tbl[945]? = some (Cond.classLink "FlyTreasuryLaw" 21 "java/lang/IndexOutOfBoundsException") := by decide +kernel
theorem qw_948 : lw_tbl[948]? = some (Cond.methodLink "FlyTreasuryLaw" 17 yX8_deposit) := by decide +kernel
theorem qw_949 : lw_tbl[949]? = some (Cond.instanceMethod yX8_deposit) := by decide +kernel
theorem qw_950 : lw_tbl[950]? = some (Cond.selects "FlyTreasury" yX8_deposit yX8_deposit) := by decide +kernel
theorem qw_951 : lw_tbl[951]? = some (Cond.code yX8_deposit cX8_deposit 4 (some FieldType.int)) := by decide +kernel
theorem qw_1013 : lw_tbl[1013]? = some (Cond.methodLink "FlyTreasuryLaw" 170 yL_withdraw) := by decide +kernel
theorem qw_1014 : lw_tbl[1014]? = some (Cond.static yL_withdraw) := by decide +kernel
theorem qw_1015 : lw_tbl[1015]? = some (Cond.codeWith yL_withdraw cL_withdraw 6 (some FieldType.int) [(0, 12, 15, 21), (0, 12, 19, 13), (0, 12, 23, 15), (0, 12, 27, 26)]) := by decide +kernel
theorem qw_1016 : lw_tbl[1016]? = some (Cond.classLink "FlyTreasuryLaw" 26 "java/lang/UnsupportedOperationException") := by decide +kernel
theorem qw_1017 : lw_tbl[1017]? = some (Cond.methodLink "FlyTreasuryLaw" 23 yX8_withdraw) := by decide +kernel
theorem qw_1018 : lw_tbl[1018]? = some (Cond.instanceMethod yX8_withdraw) := by decide +kernel
theorem qw_1019 : lw_tbl[1019]? = some (Cond.selects "FlyTreasury" yX8_withdraw yX8_withdraw) := by decide +kernel
theorem qw_1020 : lw_tbl[1020]? = some (Cond.code yX8_withdraw cX8_withdraw 4 (some FieldType.int)) := by decide +kernel
theorem qw_1036 : lw_tbl[1036]? = some (Cond.methodLink "FlyTreasuryLaw" 173 yL_exchange) := by decide +kernel
theorem qw_1037 : lw_tbl[1037]? = some (Cond.static yL_exchange) := by decide +kernel
theorem qw_1038 : lw_tbl[1038]? = some (Cond.codeWith yL_exchange cL_exchange 7 (some FieldType.int) [(0, 14, 17, 21), (0, 14, 21, 13), (0, 14, 25, 15), (0, 14, 29, 26)]) := by decide +kernel
theorem qw_1039 : lw_tbl[1039]? = some (Cond.methodLink "FlyTreasuryLaw" 28 yX8_exchange) := by decide +kernel
theorem qw_1040 : lw_tbl[1040]? = some (Cond.instanceMethod yX8_exchange) := by decide +kernel
theorem qw_1041 : lw_tbl[1041]? = some (Cond.selects "FlyTreasury" yX8_exchange yX8_exchange) := by decide +kernel
theorem qw_1042 : lw_tbl[1042]? = some (Cond.code yX8_exchange cX8_exchange 5 (some FieldType.int)) := by decide +kernel
theorem qw_1054 : lw_tbl[1054]? = some (Cond.methodLink "FlyTreasuryLaw" 177 yL_mint) := by decide +kernel
theorem qw_1055 : lw_tbl[1055]? = some (Cond.static yL_mint) := by decide +kernel
theorem qw_1056 : lw_tbl[1056]? = some (Cond.codeWith yL_mint cL_mint 5 (some FieldType.int) [(0, 10, 13, 21), (0, 10, 17, 13), (0, 10, 21, 15), (0, 10, 25, 26)]) := by decide +kernel
theorem qw_1057 : lw_tbl[1057]? = some (Cond.methodLink "FlyTreasuryLaw" 32 yX8_mint) := by decide +kernel
theorem qw_1058 : lw_tbl[1058]? = some (Cond.instanceMethod yX8_mint) := by decide +kernel
theorem qw_1059 : lw_tbl[1059]? = some (Cond.selects "FlyTreasury" yX8_mint yX8_mint) := by decide +kernel
theorem qw_1060 : lw_tbl[1060]? = some (Cond.code yX8_mint cX8_mint 3 (some FieldType.int)) := by decide +kernel
theorem qw_1073 : lw_tbl[1073]? = some (Cond.methodLink "FlyTreasuryLaw" 181 yL_redeem) := by decide +kernel
theorem qw_1074 : lw_tbl[1074]? = some (Cond.static yL_redeem) := by decide +kernel
theorem qw_1075 : lw_tbl[1075]? = some (Cond.codeWith yL_redeem cL_redeem 5 (some FieldType.int) [(0, 10, 13, 21), (0, 10, 17, 13), (0, 10, 21, 26)]) := by decide +kernel
theorem qw_1076 : lw_tbl[1076]? = some (Cond.methodLink "FlyTreasuryLaw" 36 yX8_redeem) := by decide +kernel
theorem qw_1077 : lw_tbl[1077]? = some (Cond.instanceMethod yX8_redeem) := by decide +kernel
theorem qw_1078 : lw_tbl[1078]? = some (Cond.selects "FlyTreasury" yX8_redeem yX8_redeem) := by decide +kernel
theorem qw_1079 : lw_tbl[1079]? = some (Cond.code yX8_redeem cX8_redeem 3 (some FieldType.int)) := by decide +kernel
theorem qw_1088 : lw_tbl[1088]? = some (Cond.methodLink "FlyTreasuryLaw" 184 yL_audit) := by decide +kernel
theorem qw_1089 : lw_tbl[1089]? = some (Cond.static yL_audit) := by decide +kernel
theorem qw_1090 : lw_tbl[1090]? = some (Cond.codeWith yL_audit cL_audit 4 (some FieldType.int) [(0, 16, 19, 21), (0, 16, 22, 15)]) := by decide +kernel
theorem qw_1091 : lw_tbl[1091]? = some (Cond.methodLink "FlyTreasuryLaw" 39 yX8_audit) := by decide +kernel
theorem qw_1092 : lw_tbl[1092]? = some (Cond.instanceMethod yX8_audit) := by decide +kernel
theorem qw_1093 : lw_tbl[1093]? = some (Cond.selects "FlyTreasury" yX8_audit yX8_audit) := by decide +kernel
theorem qw_1094 : lw_tbl[1094]? = some (Cond.code yX8_audit cX8_audit 2 (some FieldType.boolean)) := by decide +kernel
theorem qw_1116 : lw_tbl[1116]? = some (Cond.methodLink "FlyTreasuryLaw" 187 yL_setRate) := by decide +kernel
theorem qw_1117 : lw_tbl[1117]? = some (Cond.static yL_setRate) := by decide +kernel
theorem qw_1118 : lw_tbl[1118]? = some (Cond.codeWith yL_setRate cL_setRate 5 (some FieldType.int) [(0, 10, 13, 13)]) := by decide +kernel
theorem qw_1119 : lw_tbl[1119]? = some (Cond.methodLink "FlyTreasuryLaw" 43 yX8_setRate) := by decide +kernel
theorem qw_1120 : lw_tbl[1120]? = some (Cond.instanceMethod yX8_setRate) := by decide +kernel
theorem qw_1121 : lw_tbl[1121]? = some (Cond.selects "FlyTreasury" yX8_setRate yX8_setRate) := by decide +kernel
theorem qw_1122 : lw_tbl[1122]? = some (Cond.code yX8_setRate cX8_setRate 3 (some FieldType.int)) := by decide +kernel
theorem qw_1131 : lw_tbl[1131]? = some (Cond.methodLink "FlyTreasuryLaw" 191 yL_setStickiness) := by decide +kernel
theorem qw_1132 : lw_tbl[1132]? = some (Cond.static yL_setStickiness) := by decide +kernel
theorem qw_1133 : lw_tbl[1133]? = some (Cond.codeWith yL_setStickiness cL_setStickiness 5 (some FieldType.int) [(0, 10, 13, 21), (0, 10, 17, 13)]) := by decide +kernel
theorem qw_1134 : lw_tbl[1134]? = some (Cond.methodLink "FlyTreasuryLaw" 47 yX8_setStickiness) := by decide +kernel
theorem qw_1135 : lw_tbl[1135]? = some (Cond.instanceMethod yX8_setStickiness) := by decide +kernel
theorem qw_1136 : lw_tbl[1136]? = some (Cond.selects "FlyTreasury" yX8_setStickiness yX8_setStickiness) := by decide +kernel
theorem qw_1137 : lw_tbl[1137]? = some (Cond.code yX8_setStickiness cX8_setStickiness 3 (some FieldType.int)) := by decide +kernel
theorem qw_1146 : lw_tbl[1146]? = some (Cond.methodLink "FlyTreasuryLaw" 194 yL_passDays) := by decide +kernel
theorem qw_1147 : lw_tbl[1147]? = some (Cond.static yL_passDays) := by decide +kernel
theorem qw_1148 : lw_tbl[1148]? = some (Cond.codeWith yL_passDays cL_passDays 4 (some FieldType.int) [(0, 9, 12, 13)]) := by decide +kernel
theorem qw_1149 : lw_tbl[1149]? = some (Cond.methodLink "FlyTreasuryLaw" 50 yX8_passDays) := by decide +kernel
theorem qw_1150 : lw_tbl[1150]? = some (Cond.instanceMethod yX8_passDays) := by decide +kernel
theorem qw_1151 : lw_tbl[1151]? = some (Cond.selects "FlyTreasury" yX8_passDays yX8_passDays) := by decide +kernel
theorem qw_1152 : lw_tbl[1152]? = some (Cond.code yX8_passDays cX8_passDays 2 (some FieldType.int)) := by decide +kernel
theorem qw_1173 : lw_tbl[1173]? = some (Cond.methodLink "FlyTreasuryLaw" 201 yL_flies) := by decide +kernel
theorem qw_1174 : lw_tbl[1174]? = some (Cond.static yL_flies) := by decide +kernel
theorem qw_1175 : lw_tbl[1175]? = some (Cond.codeWith yL_flies cL_flies 5 (some FieldType.int) [(0, 10, 13, 21), (0, 10, 17, 13)]) := by decide +kernel
theorem qw_1176 : lw_tbl[1176]? = some (Cond.methodLink "FlyTreasuryLaw" 53 yX8_flies) := by decide +kernel
theorem qw_1177 : lw_tbl[1177]? = some (Cond.instanceMethod yX8_flies) := by decide +kernel
theorem qw_1178 : lw_tbl[1178]? = some (Cond.selects "FlyTreasury" yX8_flies yX8_flies) := by decide +kernel
theorem qw_1179 : lw_tbl[1179]? = some (Cond.code yX8_flies cX8_flies 4 (some FieldType.int)) := by decide +kernel
theorem qw_1190 : lw_tbl[1190]? = some (Cond.methodLink "FlyTreasuryLaw" 205 yL_crumbs) := by decide +kernel
theorem qw_1191 : lw_tbl[1191]? = some (Cond.static yL_crumbs) := by decide +kernel
theorem qw_1192 : lw_tbl[1192]? = some (Cond.codeWith yL_crumbs cL_crumbs 4 (some FieldType.int) [(0, 9, 12, 21)]) := by decide +kernel
theorem qw_1193 : lw_tbl[1193]? = some (Cond.methodLink "FlyTreasuryLaw" 57 yX8_crumbs) := by decide +kernel
theorem qw_1194 : lw_tbl[1194]? = some (Cond.instanceMethod yX8_crumbs) := by decide +kernel
theorem qw_1195 : lw_tbl[1195]? = some (Cond.selects "FlyTreasury" yX8_crumbs yX8_crumbs) := by decide +kernel
theorem qw_1196 : lw_tbl[1196]? = some (Cond.code yX8_crumbs cX8_crumbs 2 (some FieldType.int)) := by decide +kernel
theorem qw_1197 : lw_tbl[1197]? = some (Cond.methodLink "FlyTreasuryLaw" 208 yL_dew) := by decide +kernel
theorem qw_1198 : lw_tbl[1198]? = some (Cond.static yL_dew) := by decide +kernel
theorem qw_1199 : lw_tbl[1199]? = some (Cond.codeWith yL_dew cL_dew 4 (some FieldType.int) [(0, 9, 12, 21)]) := by decide +kernel
theorem qw_1200 : lw_tbl[1200]? = some (Cond.methodLink "FlyTreasuryLaw" 60 yX8_dew) := by decide +kernel
theorem qw_1201 : lw_tbl[1201]? = some (Cond.instanceMethod yX8_dew) := by decide +kernel
theorem qw_1202 : lw_tbl[1202]? = some (Cond.selects "FlyTreasury" yX8_dew yX8_dew) := by decide +kernel
theorem qw_1203 : lw_tbl[1203]? = some (Cond.code yX8_dew cX8_dew 2 (some FieldType.int)) := by decide +kernel
theorem qw_1204 : lw_tbl[1204]? = some (Cond.methodLink "FlyTreasuryLaw" 211 yL_wings) := by decide +kernel
theorem qw_1205 : lw_tbl[1205]? = some (Cond.static yL_wings) := by decide +kernel
theorem qw_1206 : lw_tbl[1206]? = some (Cond.codeWith yL_wings cL_wings 4 (some FieldType.int) [(0, 9, 12, 21)]) := by decide +kernel
theorem qw_1207 : lw_tbl[1207]? = some (Cond.methodLink "FlyTreasuryLaw" 63 yX8_wings) := by decide +kernel
theorem qw_1208 : lw_tbl[1208]? = some (Cond.instanceMethod yX8_wings) := by decide +kernel
theorem qw_1209 : lw_tbl[1209]? = some (Cond.selects "FlyTreasury" yX8_wings yX8_wings) := by decide +kernel
theorem qw_1210 : lw_tbl[1210]? = some (Cond.code yX8_wings cX8_wings 2 (some FieldType.int)) := by decide +kernel
theorem qw_1211 : lw_tbl[1211]? = some (Cond.methodLink "FlyTreasuryLaw" 214 yL_stickiness) := by decide +kernel
theorem qw_1212 : lw_tbl[1212]? = some (Cond.static yL_stickiness) := by decide +kernel
theorem qw_1213 : lw_tbl[1213]? = some (Cond.codeWith yL_stickiness cL_stickiness 4 (some FieldType.int) [(0, 9, 12, 21)]) := by decide +kernel
theorem qw_1214 : lw_tbl[1214]? = some (Cond.methodLink "FlyTreasuryLaw" 66 yX8_stickiness) := by decide +kernel
theorem qw_1215 : lw_tbl[1215]? = some (Cond.instanceMethod yX8_stickiness) := by decide +kernel
theorem qw_1216 : lw_tbl[1216]? = some (Cond.selects "FlyTreasury" yX8_stickiness yX8_stickiness) := by decide +kernel
theorem qw_1217 : lw_tbl[1217]? = some (Cond.code yX8_stickiness cX8_stickiness 2 (some FieldType.int)) := by decide +kernel
theorem qw_1218 : lw_tbl[1218]? = some (Cond.methodLink "FlyTreasuryLaw" 217 yL_isFrozen) := by decide +kernel
theorem qw_1219 : lw_tbl[1219]? = some (Cond.static yL_isFrozen) := by decide +kernel
theorem qw_1220 : lw_tbl[1220]? = some (Cond.codeWith yL_isFrozen cL_isFrozen 4 (some FieldType.int) [(0, 16, 19, 21)]) := by decide +kernel
theorem qw_1221 : lw_tbl[1221]? = some (Cond.methodLink "FlyTreasuryLaw" 69 yX8_isFrozen) := by decide +kernel
theorem qw_1222 : lw_tbl[1222]? = some (Cond.instanceMethod yX8_isFrozen) := by decide +kernel
theorem qw_1223 : lw_tbl[1223]? = some (Cond.selects "FlyTreasury" yX8_isFrozen yX8_isFrozen) := by decide +kernel
theorem qw_1224 : lw_tbl[1224]? = some (Cond.code yX8_isFrozen cX8_isFrozen 2 (some FieldType.boolean)) := by decide +kernel
theorem qw_1226 : lw_tbl[1226]? = some (Cond.methodLink "FlyTreasuryLaw" 220 yL_daysUntilThaw) := by decide +kernel
theorem qw_1227 : lw_tbl[1227]? = some (Cond.static yL_daysUntilThaw) := by decide +kernel
theorem qw_1228 : lw_tbl[1228]? = some (Cond.codeWith yL_daysUntilThaw cL_daysUntilThaw 4 (some FieldType.int) [(0, 9, 12, 21), (0, 9, 15, 75)]) := by decide +kernel
theorem qw_1229 : lw_tbl[1229]? = some (Cond.classLink "FlyTreasuryLaw" 75 "java/util/NoSuchElementException") := by decide +kernel
theorem qw_1230 : lw_tbl[1230]? = some (Cond.methodLink "FlyTreasuryLaw" 72 yX8_daysUntilThaw) := by decide +kernel
theorem qw_1231 : lw_tbl[1231]? = some (Cond.instanceMethod yX8_daysUntilThaw) := by decide +kernel
theorem qw_1232 : lw_tbl[1232]? = some (Cond.selects "FlyTreasury" yX8_daysUntilThaw yX8_daysUntilThaw) := by decide +kernel
theorem qw_1233 : lw_tbl[1233]? = some (Cond.code yX8_daysUntilThaw cX8_daysUntilThaw 3 (some FieldType.int)) := by decide +kernel
theorem qw_1236 : lw_tbl[1236]? = some (Cond.castable "java/util/NoSuchElementException" "java/util/NoSuchElementException") := by decide +kernel
theorem qw_1250 : lw_tbl[1250]? = some (Cond.methodLink "FlyTreasuryLaw" 223 yL_value) := by decide +kernel
theorem qw_1251 : lw_tbl[1251]? = some (Cond.static yL_value) := by decide +kernel
theorem qw_1252 : lw_tbl[1252]? = some (Cond.codeWith yL_value cL_value 4 (some FieldType.int) [(0, 9, 12, 21)]) := by decide +kernel
theorem qw_1253 : lw_tbl[1253]? = some (Cond.methodLink "FlyTreasuryLaw" 77 yX8_value) := by decide +kernel
theorem qw_1254 : lw_tbl[1254]? = some (Cond.instanceMethod yX8_value) := by decide +kernel
theorem qw_1255 : lw_tbl[1255]? = some (Cond.selects "FlyTreasury" yX8_value yX8_value) := by decide +kernel
theorem qw_1256 : lw_tbl[1256]? = some (Cond.code yX8_value cX8_value 2 (some FieldType.int)) := by decide +kernel
theorem qw_1258 : lw_tbl[1258]? = some (Cond.methodLink "FlyTreasuryLaw" 226 yL_reserve) := by decide +kernel
theorem qw_1259 : lw_tbl[1259]? = some (Cond.static yL_reserve) := by decide +kernel
theorem qw_1260 : lw_tbl[1260]? = some (Cond.codeWith yL_reserve cL_reserve 4 (some FieldType.int) [(0, 9, 12, 21)]) := by decide +kernel
theorem qw_1261 : lw_tbl[1261]? = some (Cond.methodLink "FlyTreasuryLaw" 80 yX8_reserve) := by decide +kernel
theorem qw_1262 : lw_tbl[1262]? = some (Cond.instanceMethod yX8_reserve) := by decide +kernel
theorem qw_1263 : lw_tbl[1263]? = some (Cond.selects "FlyTreasury" yX8_reserve yX8_reserve) := by decide +kernel
theorem qw_1264 : lw_tbl[1264]? = some (Cond.code yX8_reserve cX8_reserve 3 (some FieldType.int)) := by decide +kernel
theorem qw_1266 : lw_tbl[1266]? = some (Cond.methodLink "FlyTreasuryLaw" 229 yL_isSound) := by decide +kernel
theorem qw_1267 : lw_tbl[1267]? = some (Cond.static yL_isSound) := by decide +kernel
theorem qw_1268 : lw_tbl[1268]? = some (Cond.codeWith yL_isSound cL_isSound 4 (some FieldType.int) [(0, 16, 19, 21)]) := by decide +kernel
theorem qw_1269 : lw_tbl[1269]? = some (Cond.methodLink "FlyTreasuryLaw" 83 yX8_isSound) := by decide +kernel
theorem qw_1270 : lw_tbl[1270]? = some (Cond.instanceMethod yX8_isSound) := by decide +kernel
theorem qw_1271 : lw_tbl[1271]? = some (Cond.selects "FlyTreasury" yX8_isSound yX8_isSound) := by decide +kernel
theorem qw_1272 : lw_tbl[1272]? = some (Cond.code yX8_isSound cX8_isSound 2 (some FieldType.boolean)) := by decide +kernel
theorem qw_1274 : lw_tbl[1274]? = some (Cond.methodLink "FlyTreasuryLaw" 232 yL_mintable) := by decide +kernel
theorem qw_1275 : lw_tbl[1275]? = some (Cond.static yL_mintable) := by decide +kernel
theorem qw_1276 : lw_tbl[1276]? = some (Cond.codeWith yL_mintable cL_mintable 4 (some FieldType.int) [(0, 9, 12, 21)]) := by decide +kernel
theorem qw_1277 : lw_tbl[1277]? = some (Cond.methodLink "FlyTreasuryLaw" 86 yX8_mintable) := by decide +kernel
theorem qw_1278 : lw_tbl[1278]? = some (Cond.instanceMethod yX8_mintable) := by decide +kernel
theorem qw_1279 : lw_tbl[1279]? = some (Cond.selects "FlyTreasury" yX8_mintable yX8_mintable) := by decide +kernel
theorem qw_1280 : lw_tbl[1280]? = some (Cond.code yX8_mintable cX8_mintable 2 (some FieldType.int)) := by decide +kernel
theorem qw_1282 : lw_tbl[1282]? = some (Cond.methodLink "FlyTreasuryLaw" 235 yL_daysUntilSound) := by decide +kernel
theorem qw_1283 : lw_tbl[1283]? = some (Cond.static yL_daysUntilSound) := by decide +kernel
theorem qw_1284 : lw_tbl[1284]? = some (Cond.codeWith yL_daysUntilSound cL_daysUntilSound 4 (some FieldType.int) [(0, 9, 12, 21)]) := by decide +kernel
theorem qw_1285 : lw_tbl[1285]? = some (Cond.methodLink "FlyTreasuryLaw" 89 yX8_daysUntilSound) := by decide +kernel
theorem qw_1286 : lw_tbl[1286]? = some (Cond.instanceMethod yX8_daysUntilSound) := by decide +kernel
theorem qw_1287 : lw_tbl[1287]? = some (Cond.selects "FlyTreasury" yX8_daysUntilSound yX8_daysUntilSound) := by decide +kernel
theorem qw_1288 : lw_tbl[1288]? = some (Cond.code yX8_daysUntilSound cX8_daysUntilSound 2 (some FieldType.int)) := by decide +kernel
theorem qw_1290 : lw_tbl[1290]? = some (Cond.methodLink "FlyTreasuryLaw" 238 yL_daysUntilSoundByCounting) := by decide +kernel
theorem qw_1291 : lw_tbl[1291]? = some (Cond.static yL_daysUntilSoundByCounting) := by decide +kernel
theorem qw_1292 : lw_tbl[1292]? = some (Cond.codeWith yL_daysUntilSoundByCounting cL_daysUntilSoundByCounting 4 (some FieldType.int) [(0, 9, 12, 21)]) := by decide +kernel
theorem qw_1293 : lw_tbl[1293]? = some (Cond.methodLink "FlyTreasuryLaw" 92 yX8_daysUntilSoundByCounting) := by decide +kernel
theorem qw_1294 : lw_tbl[1294]? = some (Cond.instanceMethod yX8_daysUntilSoundByCounting) := by decide +kernel
theorem qw_1295 : lw_tbl[1295]? = some (Cond.selects "FlyTreasury" yX8_daysUntilSoundByCounting yX8_daysUntilSoundByCounting) := by decide +kernel
theorem qw_1296 : lw_tbl[1296]? = some (Cond.code yX8_daysUntilSoundByCounting cX8_daysUntilSoundByCounting 2 (some FieldType.int)) := by decide +kernel
theorem qw_1298 : lw_tbl[1298]? = some (Cond.methodLink "FlyTreasuryLaw" 241 yL_mostFlies) := by decide +kernel
theorem qw_1299 : lw_tbl[1299]? = some (Cond.static yL_mostFlies) := by decide +kernel
theorem qw_1300 : lw_tbl[1300]? = some (Cond.codeWith yL_mostFlies cL_mostFlies 5 (some FieldType.int) [(0, 10, 13, 21), (0, 10, 17, 13)]) := by decide +kernel
theorem qw_1301 : lw_tbl[1301]? = some (Cond.methodLink "FlyTreasuryLaw" 95 yX8_mostFlies) := by decide +kernel
theorem qw_1302 : lw_tbl[1302]? = some (Cond.instanceMethod yX8_mostFlies) := by decide +kernel
theorem qw_1303 : lw_tbl[1303]? = some (Cond.selects "FlyTreasury" yX8_mostFlies yX8_mostFlies) := by decide +kernel
theorem qw_1304 : lw_tbl[1304]? = some (Cond.code yX8_mostFlies cX8_mostFlies 4 (some FieldType.int)) := by decide +kernel
theorem qw_1310 : lw_tbl[1310]? = some (Cond.methodLink "FlyTreasuryLaw" 244 yL_mostFliesByExchanges) := by decide +kernel
theorem qw_1311 : lw_tbl[1311]? = some (Cond.static yL_mostFliesByExchanges) := by decide +kernel
theorem qw_1312 : lw_tbl[1312]? = some (Cond.codeWith yL_mostFliesByExchanges cL_mostFliesByExchanges 5 (some FieldType.int) [(0, 10, 13, 21), (0, 10, 17, 13)]) := by decide +kernel
theorem qw_1313 : lw_tbl[1313]? = some (Cond.methodLink "FlyTreasuryLaw" 98 yX8_mostFliesByExchanges) := by decide +kernel
theorem qw_1314 : lw_tbl[1314]? = some (Cond.instanceMethod yX8_mostFliesByExchanges) := by decide +kernel
theorem qw_1315 : lw_tbl[1315]? = some (Cond.selects "FlyTreasury" yX8_mostFliesByExchanges yX8_mostFliesByExchanges) := by decide +kernel
theorem qw_1316 : lw_tbl[1316]? = some (Cond.code yX8_mostFliesByExchanges cX8_mostFliesByExchanges 4 (some FieldType.int)) := by decide +kernel
theorem qw_1321 : lw_tbl[1321]? = some (Cond.methodLink "FlyTreasuryLaw" 247 yL_rate) := by decide +kernel
theorem qw_1322 : lw_tbl[1322]? = some (Cond.static yL_rate) := by decide +kernel
theorem qw_1323 : lw_tbl[1323]? = some (Cond.codeWith yL_rate cL_rate 4 (some FieldType.int) [(0, 9, 12, 13)]) := by decide +kernel
theorem qw_1324 : lw_tbl[1324]? = some (Cond.methodLink "FlyTreasuryLaw" 101 yX8_rate) := by decide +kernel
theorem qw_1325 : lw_tbl[1325]? = some (Cond.instanceMethod yX8_rate) := by decide +kernel
theorem qw_1326 : lw_tbl[1326]? = some (Cond.selects "FlyTreasury" yX8_rate yX8_rate) := by decide +kernel
theorem qw_1327 : lw_tbl[1327]? = some (Cond.code yX8_rate cX8_rate 2 (some FieldType.int)) := by decide +kernel
theorem qw_1328 : lw_tbl[1328]? = some (Cond.methodLink "FlyTreasuryLaw" 251 yL_totalFlies) := by decide +kernel
theorem qw_1329 : lw_tbl[1329]? = some (Cond.static yL_totalFlies) := by decide +kernel
theorem qw_1330 : lw_tbl[1330]? = some (Cond.codeWith yL_totalFlies cL_totalFlies 4 (some FieldType.int) [(0, 9, 12, 13)]) := by decide +kernel
theorem qw_1331 : lw_tbl[1331]? = some (Cond.methodLink "FlyTreasuryLaw" 105 yX8_totalFlies) := by decide +kernel
theorem qw_1332 : lw_tbl[1332]? = some (Cond.instanceMethod yX8_totalFlies) := by decide +kernel
theorem qw_1333 : lw_tbl[1333]? = some (Cond.selects "FlyTreasury" yX8_totalFlies yX8_totalFlies) := by decide +kernel
theorem qw_1334 : lw_tbl[1334]? = some (Cond.code yX8_totalFlies cX8_totalFlies 2 (some FieldType.int)) := by decide +kernel
theorem qw_1336 : lw_tbl[1336]? = some (Cond.methodLink "FlyTreasuryLaw" 254 yL_totalFliesByAccounts) := by decide +kernel
theorem qw_1337 : lw_tbl[1337]? = some (Cond.static yL_totalFliesByAccounts) := by decide +kernel
theorem qw_1338 : lw_tbl[1338]? = some (Cond.codeWith yL_totalFliesByAccounts cL_totalFliesByAccounts 4 (some FieldType.int) [(0, 9, 12, 13)]) := by decide +kernel
theorem qw_1339 : lw_tbl[1339]? = some (Cond.methodLink "FlyTreasuryLaw" 108 yX8_totalFliesByAccounts) := by decide +kernel
theorem qw_1340 : lw_tbl[1340]? = some (Cond.instanceMethod yX8_totalFliesByAccounts) := by decide +kernel
theorem qw_1341 : lw_tbl[1341]? = some (Cond.selects "FlyTreasury" yX8_totalFliesByAccounts yX8_totalFliesByAccounts) := by decide +kernel
theorem qw_1342 : lw_tbl[1342]? = some (Cond.code yX8_totalFliesByAccounts cX8_totalFliesByAccounts 2 (some FieldType.int)) := by decide +kernel
theorem qw_1344 : lw_tbl[1344]? = some (Cond.methodLink "FlyTreasuryLaw" 265 yL_vaultByValue) := by decide +kernel
theorem qw_1345 : lw_tbl[1345]? = some (Cond.static yL_vaultByValue) := by decide +kernel
theorem qw_1346 : lw_tbl[1346]? = some (Cond.codeWith yL_vaultByValue cL_vaultByValue 4 (some FieldType.int) [(0, 9, 12, 75)]) := by decide +kernel
theorem qw_1347 : lw_tbl[1347]? = some (Cond.methodLink "FlyTreasuryLaw" 111 yX8_vaultByValue) := by decide +kernel
theorem qw_1348 : lw_tbl[1348]? = some (Cond.instanceMethod yX8_vaultByValue) := by decide +kernel
theorem qw_1349 : lw_tbl[1349]? = some (Cond.selects "FlyTreasury" yX8_vaultByValue yX8_vaultByValue) := by decide +kernel
theorem qw_1350 : lw_tbl[1350]? = some (Cond.code yX8_vaultByValue cX8_vaultByValue 3 (some FieldType.int)) := by decide +kernel
theorem qw_1360 : lw_tbl[1360]? = some (Cond.methodLink "FlyTreasuryLaw" 268 yL_kindByValue) := by decide +kernel
theorem qw_1361 : lw_tbl[1361]? = some (Cond.static yL_kindByValue) := by decide +kernel
theorem qw_1362 : lw_tbl[1362]? = some (Cond.codeWith yL_kindByValue cL_kindByValue 4 (some FieldType.int) [(0, 9, 12, 75)]) := by decide +kernel
theorem qw_1363 : lw_tbl[1363]? = some (Cond.methodLink "FlyTreasuryLaw" 114 yX8_kindByValue) := by decide +kernel
theorem qw_1364 : lw_tbl[1364]? = some (Cond.instanceMethod yX8_kindByValue) := by decide +kernel
theorem qw_1365 : lw_tbl[1365]? = some (Cond.selects "FlyTreasury" yX8_kindByValue yX8_kindByValue) := by decide +kernel
theorem qw_1366 : lw_tbl[1366]? = some (Cond.code yX8_kindByValue cX8_kindByValue 3 (some FieldType.char)) := by decide +kernel
theorem qw_1375 : lw_tbl[1375]? = some (Cond.methodLink "FlyTreasuryLaw" 295 yL_meanValue) := by decide +kernel
theorem qw_1376 : lw_tbl[1376]? = some (Cond.static yL_meanValue) := by decide +kernel
theorem qw_1377 : lw_tbl[1377]? = some (Cond.codeWith yL_meanValue cL_meanValue 3 (some FieldType.int) [(0, 7, 10, 122)]) := by decide +kernel
theorem qw_1378 : lw_tbl[1378]? = some (Cond.classLink "FlyTreasuryLaw" 122 "java/lang/ArithmeticException") := by decide +kernel
theorem qw_1390 : lw_tbl[1390]? = some (Cond.castable "java/lang/ArithmeticException" "java/lang/ArithmeticException") := by decide +kernel
theorem qw_1392 : lw_tbl[1392]? = some (Cond.methodLink "FlyTreasuryLaw" 118 yX8_meanValue) := by decide +kernel
theorem qw_1393 : lw_tbl[1393]? = some (Cond.instanceMethod yX8_meanValue) := by decide +kernel
theorem qw_1394 : lw_tbl[1394]? = some (Cond.selects "FlyTreasury" yX8_meanValue yX8_meanValue) := by decide +kernel
theorem qw_1395 : lw_tbl[1395]? = some (Cond.code yX8_meanValue cX8_meanValue 1 (some FieldType.double)) := by decide +kernel
theorem qw_1399 : lw_tbl[1399]? = some (Cond.methodLink "FlyTreasuryLaw" 299 yL_soundShare) := by decide +kernel
theorem qw_1400 : lw_tbl[1400]? = some (Cond.static yL_soundShare) := by decide +kernel
theorem qw_1401 : lw_tbl[1401]? = some (Cond.codeWith yL_soundShare cL_soundShare 3 (some FieldType.int) [(0, 8, 11, 122)]) := by decide +kernel
theorem qw_1402 : lw_tbl[1402]? = some (Cond.methodLink "FlyTreasuryLaw" 124 yX8_soundShare) := by decide +kernel
theorem qw_1403 : lw_tbl[1403]? = some (Cond.instanceMethod yX8_soundShare) := by decide +kernel
theorem qw_1404 : lw_tbl[1404]? = some (Cond.selects "FlyTreasury" yX8_soundShare yX8_soundShare) := by decide +kernel
theorem qw_1405 : lw_tbl[1405]? = some (Cond.code yX8_soundShare cX8_soundShare 1 (some FieldType.float)) := by decide +kernel
theorem qw_1407 : lw_tbl[1407]? = some (Cond.methodLink "FlyTreasuryLaw" 307 yL_renderVault) := by decide +kernel
theorem qw_1408 : lw_tbl[1408]? = some (Cond.static yL_renderVault) := by decide +kernel
theorem qw_1409 : lw_tbl[1409]? = some (Cond.codeWith yL_renderVault cL_renderVault 4 (some FieldType.int) [(0, 9, 12, 21)]) := by decide +kernel
theorem qw_1410 : lw_tbl[1410]? = some (Cond.methodLink "FlyTreasuryLaw" 128 yX8_renderVault) := by decide +kernel
theorem qw_1411 : lw_tbl[1411]? = some (Cond.instanceMethod yX8_renderVault) := by decide +kernel
theorem qw_1412 : lw_tbl[1412]? = some (Cond.selects "FlyTreasury" yX8_renderVault yX8_renderVault) := by decide +kernel
theorem qw_1413 : lw_tbl[1413]? = some (Cond.code yX8_renderVault cX8_renderVault 4 (some FieldType.int)) := by decide +kernel
theorem qw_1414 : lw_tbl[1414]? = some (Cond.methodLink "FlyTreasuryLaw" 314 yL_outputAt) := by decide +kernel
theorem qw_1415 : lw_tbl[1415]? = some (Cond.static yL_outputAt) := by decide +kernel
theorem qw_1416 : lw_tbl[1416]? = some (Cond.codeWith yL_outputAt cL_outputAt 4 (some FieldType.int) [(0, 9, 12, 21)]) := by decide +kernel
theorem qw_1417 : lw_tbl[1417]? = some (Cond.methodLink "FlyTreasuryLaw" 131 yX8_outputAt) := by decide +kernel
theorem qw_1418 : lw_tbl[1418]? = some (Cond.instanceMethod yX8_outputAt) := by decide +kernel
theorem qw_1419 : lw_tbl[1419]? = some (Cond.selects "FlyTreasury" yX8_outputAt yX8_outputAt) := by decide +kernel
theorem qw_1420 : lw_tbl[1420]? = some (Cond.code yX8_outputAt cX8_outputAt 2 (some FieldType.char)) := by decide +kernel
theorem qw_1432 : lw_tbl[1432]? = some (Cond.methodLink "FlyTreasuryLaw" 317 yL_type) := by decide +kernel
theorem qw_1433 : lw_tbl[1433]? = some (Cond.static yL_type) := by decide +kernel
theorem qw_1434 : lw_tbl[1434]? = some (Cond.codeWith yL_type cL_type 4 (some FieldType.int) [(0, 9, 12, 13), (0, 9, 15, 15)]) := by decide +kernel
theorem qw_1435 : lw_tbl[1435]? = some (Cond.methodLink "FlyTreasuryLaw" 134 yX8_type) := by decide +kernel
theorem qw_1436 : lw_tbl[1436]? = some (Cond.instanceMethod yX8_type) := by decide +kernel
theorem qw_1437 : lw_tbl[1437]? = some (Cond.selects "FlyTreasury" yX8_type yX8_type) := by decide +kernel
theorem qw_1438 : lw_tbl[1438]? = some (Cond.code yX8_type cX8_type 2 (some FieldType.int)) := by decide +kernel
theorem qw_1445 : lw_tbl[1445]? = some (Cond.methodLink "FlyTreasuryLaw" 320 yL_runScript) := by decide +kernel
theorem qw_1446 : lw_tbl[1446]? = some (Cond.static yL_runScript) := by decide +kernel
theorem qw_1447 : lw_tbl[1447]? = some (Cond.codeWith yL_runScript cL_runScript 3 (some FieldType.int) [(0, 8, 11, 13), (0, 8, 14, 15)]) := by decide +kernel
theorem qw_1448 : lw_tbl[1448]? = some (Cond.methodLink "FlyTreasuryLaw" 137 yX8_runScript) := by decide +kernel
theorem qw_1449 : lw_tbl[1449]? = some (Cond.instanceMethod yX8_runScript) := by decide +kernel
theorem qw_1450 : lw_tbl[1450]? = some (Cond.selects "FlyTreasury" yX8_runScript yX8_runScript) := by decide +kernel
theorem qw_1451 : lw_tbl[1451]? = some (Cond.code yX8_runScript cX8_runScript 3 (some FieldType.int)) := by decide +kernel
theorem qw_1524 : lw_tbl[1524]? = some (Cond.methodLink "FlyTreasuryLaw" 324 yL_errorPosition) := by decide +kernel
theorem qw_1525 : lw_tbl[1525]? = some (Cond.static yL_errorPosition) := by decide +kernel
theorem qw_1526 : lw_tbl[1526]? = some (Cond.codeWith yL_errorPosition cL_errorPosition 3 (some FieldType.int) [(0, 8, 11, 75)]) := by decide +kernel
theorem qw_1527 : lw_tbl[1527]? = some (Cond.methodLink "FlyTreasuryLaw" 141 yX8_errorPosition) := by decide +kernel
theorem qw_1528 : lw_tbl[1528]? = some (Cond.instanceMethod yX8_errorPosition) := by decide +kernel
theorem qw_1529 : lw_tbl[1529]? = some (Cond.selects "FlyTreasury" yX8_errorPosition yX8_errorPosition) := by decide +kernel
theorem qw_1530 : lw_tbl[1530]? = some (Cond.code yX8_errorPosition cX8_errorPosition 1 (some FieldType.int)) := by decide +kernel
theorem qw_1532 : lw_tbl[1532]? = some (Cond.methodLink "FlyTreasuryLaw" 327 yL_failedCommand) := by decide +kernel
theorem qw_1533 : lw_tbl[1533]? = some (Cond.static yL_failedCommand) := by decide +kernel
theorem qw_1534 : lw_tbl[1534]? = some (Cond.codeWith yL_failedCommand cL_failedCommand 3 (some FieldType.int) [(0, 8, 11, 75)]) := by decide +kernel
theorem qw_1535 : lw_tbl[1535]? = some (Cond.methodLink "FlyTreasuryLaw" 144 yX8_failedCommand) := by decide +kernel
theorem qw_1536 : lw_tbl[1536]? = some (Cond.instanceMethod yX8_failedCommand) := by decide +kernel
theorem qw_1537 : lw_tbl[1537]? = some (Cond.selects "FlyTreasury" yX8_failedCommand yX8_failedCommand) := by decide +kernel
theorem qw_1538 : lw_tbl[1538]? = some (Cond.code yX8_failedCommand cX8_failedCommand 1 (some FieldType.int)) := by decide +kernel
theorem qw_1540 : lw_tbl[1540]? = some (Cond.methodLink "FlyTreasuryLaw" 330 yL_undo) := by decide +kernel
theorem qw_1541 : lw_tbl[1541]? = some (Cond.static yL_undo) := by decide +kernel
theorem qw_1542 : lw_tbl[1542]? = some (Cond.codeWith yL_undo cL_undo 3 (some FieldType.int) [(0, 8, 11, 15)]) := by decide +kernel
theorem qw_1543 : lw_tbl[1543]? = some (Cond.methodLink "FlyTreasuryLaw" 147 yX8_undo) := by decide +kernel
theorem qw_1544 : lw_tbl[1544]? = some (Cond.instanceMethod yX8_undo) := by decide +kernel
theorem qw_1545 : lw_tbl[1545]? = some (Cond.selects "FlyTreasury" yX8_undo yX8_undo) := by decide +kernel
theorem qw_1546 : lw_tbl[1546]? = some (Cond.code yX8_undo cX8_undo 1 (some FieldType.int)) := by decide +kernel
theorem qw_1552 : lw_tbl[1552]? = some (Cond.methodLink "FlyTreasuryLaw" 337 yL_restore) := by decide +kernel
theorem qw_1553 : lw_tbl[1553]? = some (Cond.static yL_restore) := by decide +kernel
theorem qw_1554 : lw_tbl[1554]? = some (Cond.codeWith yL_restore cL_restore 3 (some FieldType.int) [(0, 8, 11, 15)]) := by decide +kernel
theorem qw_1555 : lw_tbl[1555]? = some (Cond.methodLink "FlyTreasuryLaw" 150 yX8_restore) := by decide +kernel
theorem qw_1556 : lw_tbl[1556]? = some (Cond.instanceMethod yX8_restore) := by decide +kernel
theorem qw_1557 : lw_tbl[1557]? = some (Cond.selects "FlyTreasury" yX8_restore yX8_restore) := by decide +kernel
theorem qw_1558 : lw_tbl[1558]? = some (Cond.code yX8_restore cX8_restore 1 (some FieldType.int)) := by decide +kernel
theorem qw_1560 : lw_tbl[1560]? = some (Cond.methodLink "FlyTreasuryLaw" 163 yX9_thrown) := by decide +kernel
theorem qw_1561 : lw_tbl[1561]? = some (Cond.instanceMethod yX9_thrown) := by decide +kernel
theorem qw_1562 : lw_tbl[1562]? = some (Cond.selects "FlyTreasuryModel" yX9_thrown yX9_thrown) := by decide +kernel
theorem qw_1563 : lw_tbl[1563]? = some (Cond.code yX9_thrown cX9_thrown 1 (some FieldType.int)) := by decide +kernel
theorem qw_1625 : lw_tbl[1625]? = some (Cond.methodLink "FlyTreasuryLaw" 162 yX9_addVault) := by decide +kernel
theorem qw_1626 : lw_tbl[1626]? = some (Cond.instanceMethod yX9_addVault) := by decide +kernel
theorem qw_1627 : lw_tbl[1627]? = some (Cond.selects "FlyTreasuryModel" yX9_addVault yX9_addVault) := by decide +kernel
theorem qw_1628 : lw_tbl[1628]? = some (Cond.code yX9_addVault cX9_addVault 3 (some FieldType.int)) := by decide +kernel
theorem qw_1660 : lw_tbl[1660]? = some (Cond.methodLink "FlyTreasuryLaw" 169 yX9_deposit) := by decide +kernel
theorem qw_1661 : lw_tbl[1661]? = some (Cond.instanceMethod yX9_deposit) := by decide +kernel
theorem qw_1662 : lw_tbl[1662]? = some (Cond.selects "FlyTreasuryModel" yX9_deposit yX9_deposit) := by decide +kernel
theorem qw_1663 : lw_tbl[1663]? = some (Cond.code yX9_deposit cX9_deposit 5 (some FieldType.int)) := by decide +kernel
theorem qw_1687 : lw_tbl[1687]? = some (Cond.methodLink "FlyTreasuryLaw" 172 yX9_withdraw) := by decide +kernel
theorem qw_1688 : lw_tbl[1688]? = some (Cond.instanceMethod yX9_withdraw) := by decide +kernel
theorem qw_1689 : lw_tbl[1689]? = some (Cond.selects "FlyTreasuryModel" yX9_withdraw yX9_withdraw) := by decide +kernel
theorem qw_1690 : lw_tbl[1690]? = some (Cond.code yX9_withdraw cX9_withdraw 5 (some FieldType.int)) := by decide +kernel
theorem qw_1715 : lw_tbl[1715]? = some (Cond.methodLink "FlyTreasuryLaw" 176 yX9_exchange) := by decide +kernel
theorem qw_1716 : lw_tbl[1716]? = some (Cond.instanceMethod yX9_exchange) := by decide +kernel
theorem qw_1717 : lw_tbl[1717]? = some (Cond.selects "FlyTreasuryModel" yX9_exchange yX9_exchange) := by decide +kernel
theorem qw_1718 : lw_tbl[1718]? = some (Cond.code yX9_exchange cX9_exchange 6 (some FieldType.int)) := by decide +kernel
theorem qw_1731 : lw_tbl[1731]? = some (Cond.methodLink "FlyTreasuryLaw" 180 yX9_mint) := by decide +kernel
theorem qw_1732 : lw_tbl[1732]? = some (Cond.instanceMethod yX9_mint) := by decide +kernel
theorem qw_1733 : lw_tbl[1733]? = some (Cond.selects "FlyTreasuryModel" yX9_mint yX9_mint) := by decide +kernel
theorem qw_1734 : lw_tbl[1734]? = some (Cond.code yX9_mint cX9_mint 4 (some FieldType.int)) := by decide +kernel
theorem qw_1743 : lw_tbl[1743]? = some (Cond.methodLink "FlyTreasuryLaw" 183 yX9_redeem) := by decide +kernel
theorem qw_1744 : lw_tbl[1744]? = some (Cond.instanceMethod yX9_redeem) := by decide +kernel
theorem qw_1745 : lw_tbl[1745]? = some (Cond.selects "FlyTreasuryModel" yX9_redeem yX9_redeem) := by decide +kernel
theorem qw_1746 : lw_tbl[1746]? = some (Cond.code yX9_redeem cX9_redeem 4 (some FieldType.int)) := by decide +kernel
theorem qw_1755 : lw_tbl[1755]? = some (Cond.methodLink "FlyTreasuryLaw" 186 yX9_audit) := by decide +kernel
theorem qw_1756 : lw_tbl[1756]? = some (Cond.instanceMethod yX9_audit) := by decide +kernel
theorem qw_1757 : lw_tbl[1757]? = some (Cond.selects "FlyTreasuryModel" yX9_audit yX9_audit) := by decide +kernel
theorem qw_1758 : lw_tbl[1758]? = some (Cond.code yX9_audit cX9_audit 3 (some FieldType.boolean)) := by decide +kernel
theorem qw_1767 : lw_tbl[1767]? = some (Cond.methodLink "FlyTreasuryLaw" 190 yX9_setRate) := by decide +kernel
theorem qw_1768 : lw_tbl[1768]? = some (Cond.instanceMethod yX9_setRate) := by decide +kernel
theorem qw_1769 : lw_tbl[1769]? = some (Cond.selects "FlyTreasuryModel" yX9_setRate yX9_setRate) := by decide +kernel
theorem qw_1770 : lw_tbl[1770]? = some (Cond.code yX9_setRate cX9_setRate 3 (some FieldType.int)) := by decide +kernel
theorem qw_1778 : lw_tbl[1778]? = some (Cond.methodLink "FlyTreasuryLaw" 193 yX9_setStickiness) := by decide +kernel
theorem qw_1779 : lw_tbl[1779]? = some (Cond.instanceMethod yX9_setStickiness) := by decide +kernel
theorem qw_1780 : lw_tbl[1780]? = some (Cond.selects "FlyTreasuryModel" yX9_setStickiness yX9_setStickiness) := by decide +kernel
theorem qw_1781 : lw_tbl[1781]? = some (Cond.code yX9_setStickiness cX9_setStickiness 4 (some FieldType.int)) := by decide +kernel
theorem qw_1790 : lw_tbl[1790]? = some (Cond.methodLink "FlyTreasuryLaw" 196 yX9_passDays) := by decide +kernel
theorem qw_1791 : lw_tbl[1791]? = some (Cond.instanceMethod yX9_passDays) := by decide +kernel
theorem qw_1792 : lw_tbl[1792]? = some (Cond.selects "FlyTreasuryModel" yX9_passDays yX9_passDays) := by decide +kernel
theorem qw_1793 : lw_tbl[1793]? = some (Cond.code yX9_passDays cX9_passDays 2 (some FieldType.int)) := by decide +kernel
theorem qw_1805 : lw_tbl[1805]? = some (Cond.methodLink "FlyTreasuryLaw" 200 yX9_vaultCount) := by decide +kernel
theorem qw_1806 : lw_tbl[1806]? = some (Cond.instanceMethod yX9_vaultCount) := by decide +kernel
theorem qw_1807 : lw_tbl[1807]? = some (Cond.selects "FlyTreasuryModel" yX9_vaultCount yX9_vaultCount) := by decide +kernel
theorem qw_1808 : lw_tbl[1808]? = some (Cond.code yX9_vaultCount cX9_vaultCount 1 (some FieldType.int)) := by decide +kernel
theorem qw_1813 : lw_tbl[1813]? = some (Cond.methodLink "FlyTreasuryLaw" 204 yX9_flies) := by decide +kernel
theorem qw_1814 : lw_tbl[1814]? = some (Cond.instanceMethod yX9_flies) := by decide +kernel
theorem qw_1815 : lw_tbl[1815]? = some (Cond.selects "FlyTreasuryModel" yX9_flies yX9_flies) := by decide +kernel
theorem qw_1816 : lw_tbl[1816]? = some (Cond.code yX9_flies cX9_flies 3 (some FieldType.int)) := by decide +kernel
theorem qw_1817 : lw_tbl[1817]? = some (Cond.methodLink "FlyTreasuryLaw" 207 yX9_crumbs) := by decide +kernel
theorem qw_1818 : lw_tbl[1818]? = some (Cond.instanceMethod yX9_crumbs) := by decide +kernel
theorem qw_1819 : lw_tbl[1819]? = some (Cond.selects "FlyTreasuryModel" yX9_crumbs yX9_crumbs) := by decide +kernel
theorem qw_1820 : lw_tbl[1820]? = some (Cond.code yX9_crumbs cX9_crumbs 2 (some FieldType.int)) := by decide +kernel
theorem qw_1825 : lw_tbl[1825]? = some (Cond.methodLink "FlyTreasuryLaw" 210 yX9_dew) := by decide +kernel
theorem qw_1826 : lw_tbl[1826]? = some (Cond.instanceMethod yX9_dew) := by decide +kernel
theorem qw_1827 : lw_tbl[1827]? = some (Cond.selects "FlyTreasuryModel" yX9_dew yX9_dew) := by decide +kernel
theorem qw_1828 : lw_tbl[1828]? = some (Cond.code yX9_dew cX9_dew 2 (some FieldType.int)) := by decide +kernel
theorem qw_1829 : lw_tbl[1829]? = some (Cond.methodLink "FlyTreasuryLaw" 213 yX9_wings) := by decide +kernel
theorem qw_1830 : lw_tbl[1830]? = some (Cond.instanceMethod yX9_wings) := by decide +kernel
theorem qw_1831 : lw_tbl[1831]? = some (Cond.selects "FlyTreasuryModel" yX9_wings yX9_wings) := by decide +kernel
theorem qw_1832 : lw_tbl[1832]? = some (Cond.code yX9_wings cX9_wings 2 (some FieldType.int)) := by decide +kernel
theorem qw_1833 : lw_tbl[1833]? = some (Cond.methodLink "FlyTreasuryLaw" 216 yX9_stickiness) := by decide +kernel
theorem qw_1834 : lw_tbl[1834]? = some (Cond.instanceMethod yX9_stickiness) := by decide +kernel
theorem qw_1835 : lw_tbl[1835]? = some (Cond.selects "FlyTreasuryModel" yX9_stickiness yX9_stickiness) := by decide +kernel
theorem qw_1836 : lw_tbl[1836]? = some (Cond.code yX9_stickiness cX9_stickiness 2 (some FieldType.int)) := by decide +kernel
theorem qw_1837 : lw_tbl[1837]? = some (Cond.methodLink "FlyTreasuryLaw" 219 yX9_isFrozen) := by decide +kernel
theorem qw_1838 : lw_tbl[1838]? = some (Cond.instanceMethod yX9_isFrozen) := by decide +kernel
theorem qw_1839 : lw_tbl[1839]? = some (Cond.selects "FlyTreasuryModel" yX9_isFrozen yX9_isFrozen) := by decide +kernel
theorem qw_1840 : lw_tbl[1840]? = some (Cond.code yX9_isFrozen cX9_isFrozen 2 (some FieldType.boolean)) := by decide +kernel
theorem qw_1841 : lw_tbl[1841]? = some (Cond.methodLink "FlyTreasuryLaw" 222 yX9_daysUntilThaw) := by decide +kernel
theorem qw_1842 : lw_tbl[1842]? = some (Cond.instanceMethod yX9_daysUntilThaw) := by decide +kernel
theorem qw_1843 : lw_tbl[1843]? = some (Cond.selects "FlyTreasuryModel" yX9_daysUntilThaw yX9_daysUntilThaw) := by decide +kernel
theorem qw_1844 : lw_tbl[1844]? = some (Cond.code yX9_daysUntilThaw cX9_daysUntilThaw 2 (some FieldType.int)) := by decide +kernel
theorem qw_1845 : lw_tbl[1845]? = some (Cond.methodLink "FlyTreasuryLaw" 225 yX9_value) := by decide +kernel
theorem qw_1846 : lw_tbl[1846]? = some (Cond.instanceMethod yX9_value) := by decide +kernel
theorem qw_1847 : lw_tbl[1847]? = some (Cond.selects "FlyTreasuryModel" yX9_value yX9_value) := by decide +kernel
theorem qw_1848 : lw_tbl[1848]? = some (Cond.code yX9_value cX9_value 2 (some FieldType.int)) := by decide +kernel
theorem qw_1849 : lw_tbl[1849]? = some (Cond.methodLink "FlyTreasuryLaw" 228 yX9_reserve) := by decide +kernel
theorem qw_1850 : lw_tbl[1850]? = some (Cond.instanceMethod yX9_reserve) := by decide +kernel
theorem qw_1851 : lw_tbl[1851]? = some (Cond.selects "FlyTreasuryModel" yX9_reserve yX9_reserve) := by decide +kernel
theorem qw_1852 : lw_tbl[1852]? = some (Cond.code yX9_reserve cX9_reserve 2 (some FieldType.int)) := by decide +kernel
theorem qw_1853 : lw_tbl[1853]? = some (Cond.methodLink "FlyTreasuryLaw" 231 yX9_isSound) := by decide +kernel
theorem qw_1854 : lw_tbl[1854]? = some (Cond.instanceMethod yX9_isSound) := by decide +kernel
theorem qw_1855 : lw_tbl[1855]? = some (Cond.selects "FlyTreasuryModel" yX9_isSound yX9_isSound) := by decide +kernel
theorem qw_1856 : lw_tbl[1856]? = some (Cond.code yX9_isSound cX9_isSound 2 (some FieldType.boolean)) := by decide +kernel
theorem qw_1857 : lw_tbl[1857]? = some (Cond.methodLink "FlyTreasuryLaw" 234 yX9_mintable) := by decide +kernel
theorem qw_1858 : lw_tbl[1858]? = some (Cond.instanceMethod yX9_mintable) := by decide +kernel
theorem qw_1859 : lw_tbl[1859]? = some (Cond.selects "FlyTreasuryModel" yX9_mintable yX9_mintable) := by decide +kernel
theorem qw_1860 : lw_tbl[1860]? = some (Cond.code yX9_mintable cX9_mintable 2 (some FieldType.int)) := by decide +kernel
theorem qw_1861 : lw_tbl[1861]? = some (Cond.methodLink "FlyTreasuryLaw" 237 yX9_daysUntilSound) := by decide +kernel
theorem qw_1865 : lw_tbl[1865]? = some (Cond.methodLink "FlyTreasuryLaw" 240 yX9_daysUntilSoundByCounting) := by decide +kernel
theorem qw_1866 : lw_tbl[1866]? = some (Cond.instanceMethod yX9_daysUntilSoundByCounting) := by decide +kernel
theorem qw_1867 : lw_tbl[1867]? = some (Cond.selects "FlyTreasuryModel" yX9_daysUntilSoundByCounting yX9_daysUntilSoundByCounting) := by decide +kernel
theorem qw_1868 : lw_tbl[1868]? = some (Cond.code yX9_daysUntilSoundByCounting cX9_daysUntilSoundByCounting 2 (some FieldType.int)) := by decide +kernel
theorem qw_1870 : lw_tbl[1870]? = some (Cond.methodLink "FlyTreasuryLaw" 243 yX9_mostFlies) := by decide +kernel
theorem qw_1874 : lw_tbl[1874]? = some (Cond.methodLink "FlyTreasuryLaw" 246 yX9_mostFliesByExchanges) := by decide +kernel
theorem qw_1875 : lw_tbl[1875]? = some (Cond.instanceMethod yX9_mostFliesByExchanges) := by decide +kernel
theorem qw_1876 : lw_tbl[1876]? = some (Cond.selects "FlyTreasuryModel" yX9_mostFliesByExchanges yX9_mostFliesByExchanges) := by decide +kernel
theorem qw_1877 : lw_tbl[1877]? = some (Cond.code yX9_mostFliesByExchanges cX9_mostFliesByExchanges 3 (some FieldType.int)) := by decide +kernel
theorem qw_1879 : lw_tbl[1879]? = some (Cond.methodLink "FlyTreasuryLaw" 250 yX9_rate) := by decide +kernel
theorem qw_1880 : lw_tbl[1880]? = some (Cond.instanceMethod yX9_rate) := by decide +kernel
theorem qw_1881 : lw_tbl[1881]? = some (Cond.selects "FlyTreasuryModel" yX9_rate yX9_rate) := by decide +kernel
theorem qw_1882 : lw_tbl[1882]? = some (Cond.code yX9_rate cX9_rate 2 (some FieldType.int)) := by decide +kernel
theorem qw_1883 : lw_tbl[1883]? = some (Cond.methodLink "FlyTreasuryLaw" 253 yX9_totalFlies) := by decide +kernel
theorem qw_1884 : lw_tbl[1884]? = some (Cond.instanceMethod yX9_totalFlies) := by decide +kernel
theorem qw_1885 : lw_tbl[1885]? = some (Cond.selects "FlyTreasuryModel" yX9_totalFlies yX9_totalFlies) := by decide +kernel
theorem qw_1886 : lw_tbl[1886]? = some (Cond.code yX9_totalFlies cX9_totalFlies 2 (some FieldType.int)) := by decide +kernel
theorem qw_1891 : lw_tbl[1891]? = some (Cond.methodLink "FlyTreasuryLaw" 256 yX9_totalFliesByAccounts) := by decide +kernel
theorem qw_1892 : lw_tbl[1892]? = some (Cond.instanceMethod yX9_totalFliesByAccounts) := by decide +kernel
theorem qw_1893 : lw_tbl[1893]? = some (Cond.selects "FlyTreasuryModel" yX9_totalFliesByAccounts yX9_totalFliesByAccounts) := by decide +kernel
theorem qw_1894 : lw_tbl[1894]? = some (Cond.code yX9_totalFliesByAccounts cX9_totalFliesByAccounts 2 (some FieldType.int)) := by decide +kernel
theorem qw_1895 : lw_tbl[1895]? = some (Cond.methodLink "FlyTreasuryLaw" 260 yX9_totalValue) := by decide +kernel
theorem qw_1903 : lw_tbl[1903]? = some (Cond.methodLink "FlyTreasuryLaw" 264 yX9_totalValueByKinds) := by decide +kernel
theorem qw_1904 : lw_tbl[1904]? = some (Cond.instanceMethod yX9_totalValueByKinds) := by decide +kernel
theorem qw_1905 : lw_tbl[1905]? = some (Cond.selects "FlyTreasuryModel" yX9_totalValueByKinds yX9_totalValueByKinds) := by decide +kernel
theorem qw_1906 : lw_tbl[1906]? = some (Cond.code yX9_totalValueByKinds cX9_totalValueByKinds 1 (some FieldType.int)) := by decide +kernel
theorem qw_1908 : lw_tbl[1908]? = some (Cond.methodLink "FlyTreasuryLaw" 267 yX9_vaultByValue) := by decide +kernel
theorem qw_1909 : lw_tbl[1909]? = some (Cond.instanceMethod yX9_vaultByValue) := by decide +kernel
theorem qw_1910 : lw_tbl[1910]? = some (Cond.selects "FlyTreasuryModel" yX9_vaultByValue yX9_vaultByValue) := by decide +kernel
theorem qw_1911 : lw_tbl[1911]? = some (Cond.code yX9_vaultByValue cX9_vaultByValue 5 (some FieldType.int)) := by decide +kernel
theorem qw_1916 : lw_tbl[1916]? = some (Cond.methodLink "FlyTreasuryLaw" 270 yX9_kindByValue) := by decide +kernel
theorem qw_1917 : lw_tbl[1917]? = some (Cond.instanceMethod yX9_kindByValue) := by decide +kernel
theorem qw_1918 : lw_tbl[1918]? = some (Cond.selects "FlyTreasuryModel" yX9_kindByValue yX9_kindByValue) := by decide +kernel
theorem qw_1919 : lw_tbl[1919]? = some (Cond.code yX9_kindByValue cX9_kindByValue 6 (some FieldType.char)) := by decide +kernel
theorem qw_1923 : lw_tbl[1923]? = some (Cond.methodLink "FlyTreasuryLaw" 274 yX9_day) := by decide +kernel
theorem qw_1924 : lw_tbl[1924]? = some (Cond.instanceMethod yX9_day) := by decide +kernel
theorem qw_1925 : lw_tbl[1925]? = some (Cond.selects "FlyTreasuryModel" yX9_day yX9_day) := by decide +kernel
theorem qw_1926 : lw_tbl[1926]? = some (Cond.code yX9_day cX9_day 1 (some FieldType.int)) := by decide +kernel
theorem qw_1927 : lw_tbl[1927]? = some (Cond.methodLink "FlyTreasuryLaw" 278 yX9_mintedTotal) := by decide +kernel
theorem qw_1928 : lw_tbl[1928]? = some (Cond.instanceMethod yX9_mintedTotal) := by decide +kernel
theorem qw_1929 : lw_tbl[1929]? = some (Cond.selects "FlyTreasuryModel" yX9_mintedTotal yX9_mintedTotal) := by decide +kernel
theorem qw_1930 : lw_tbl[1930]? = some (Cond.code yX9_mintedTotal cX9_mintedTotal 1 (some FieldType.int)) := by decide +kernel
theorem qw_1931 : lw_tbl[1931]? = some (Cond.methodLink "FlyTreasuryLaw" 282 yX9_redeemedTotal) := by decide +kernel
theorem qw_1932 : lw_tbl[1932]? = some (Cond.instanceMethod yX9_redeemedTotal) := by decide +kernel
theorem qw_1933 : lw_tbl[1933]? = some (Cond.selects "FlyTreasuryModel" yX9_redeemedTotal yX9_redeemedTotal) := by decide +kernel
theorem qw_1934 : lw_tbl[1934]? = some (Cond.code yX9_redeemedTotal cX9_redeemedTotal 1 (some FieldType.int)) := by decide +kernel
theorem qw_1935 : lw_tbl[1935]? = some (Cond.methodLink "FlyTreasuryLaw" 286 yX9_evaporatedTotal) := by decide +kernel
theorem qw_1936 : lw_tbl[1936]? = some (Cond.instanceMethod yX9_evaporatedTotal) := by decide +kernel
theorem qw_1937 : lw_tbl[1937]? = some (Cond.selects "FlyTreasuryModel" yX9_evaporatedTotal yX9_evaporatedTotal) := by decide +kernel
theorem qw_1938 : lw_tbl[1938]? = some (Cond.code yX9_evaporatedTotal cX9_evaporatedTotal 1 (some FieldType.int)) := by decide +kernel
theorem qw_1939 : lw_tbl[1939]? = some (Cond.methodLink "FlyTreasuryLaw" 290 yX9_auditTotal) := by decide +kernel
theorem qw_1940 : lw_tbl[1940]? = some (Cond.instanceMethod yX9_auditTotal) := by decide +kernel
theorem qw_1941 : lw_tbl[1941]? = some (Cond.selects "FlyTreasuryModel" yX9_auditTotal yX9_auditTotal) := by decide +kernel
theorem qw_1942 : lw_tbl[1942]? = some (Cond.code yX9_auditTotal cX9_auditTotal 1 (some FieldType.int)) := by decide +kernel
theorem qw_1943 : lw_tbl[1943]? = some (Cond.methodLink "FlyTreasuryLaw" 294 yX9_soundAuditTotal) := by decide +kernel
theorem qw_1944 : lw_tbl[1944]? = some (Cond.instanceMethod yX9_soundAuditTotal) := by decide +kernel
theorem qw_1945 : lw_tbl[1945]? = some (Cond.selects "FlyTreasuryModel" yX9_soundAuditTotal yX9_soundAuditTotal) := by decide +kernel
theorem qw_1946 : lw_tbl[1946]? = some (Cond.code yX9_soundAuditTotal cX9_soundAuditTotal 1 (some FieldType.int)) := by decide +kernel
theorem qw_1947 : lw_tbl[1947]? = some (Cond.methodLink "FlyTreasuryLaw" 298 yX9_meanValue) := by decide +kernel
theorem qw_1948 : lw_tbl[1948]? = some (Cond.instanceMethod yX9_meanValue) := by decide +kernel
theorem qw_1949 : lw_tbl[1949]? = some (Cond.selects "FlyTreasuryModel" yX9_meanValue yX9_meanValue) := by decide +kernel
theorem qw_1950 : lw_tbl[1950]? = some (Cond.code yX9_meanValue cX9_meanValue 1 (some FieldType.double)) := by decide +kernel
theorem qw_1951 : lw_tbl[1951]? = some (Cond.methodLink "FlyTreasuryLaw" 301 yX9_soundShare) := by decide +kernel
theorem qw_1952 : lw_tbl[1952]? = some (Cond.instanceMethod yX9_soundShare) := by decide +kernel
theorem qw_1953 : lw_tbl[1953]? = some (Cond.selects "FlyTreasuryModel" yX9_soundShare yX9_soundShare) := by decide +kernel
theorem qw_1954 : lw_tbl[1954]? = some (Cond.code yX9_soundShare cX9_soundShare 1 (some FieldType.float)) := by decide +kernel
theorem qw_1955 : lw_tbl[1955]? = some (Cond.methodLink "FlyTreasuryLaw" 306 yX9_isConsistent) := by decide +kernel
theorem qw_1956 : lw_tbl[1956]? = some (Cond.instanceMethod yX9_isConsistent) := by decide +kernel
theorem qw_1957 : lw_tbl[1957]? = some (Cond.selects "FlyTreasuryModel" yX9_isConsistent yX9_isConsistent) := by decide +kernel
theorem qw_1958 : lw_tbl[1958]? = some (Cond.code yX9_isConsistent cX9_isConsistent 3 (some FieldType.boolean)) := by decide +kernel
theorem qw_1959 : lw_tbl[1959]? = some (Cond.methodLink "FlyTreasuryLaw" 309 yX9_renderVault) := by decide +kernel
theorem qw_1960 : lw_tbl[1960]? = some (Cond.instanceMethod yX9_renderVault) := by decide +kernel
theorem qw_1961 : lw_tbl[1961]? = some (Cond.selects "FlyTreasuryModel" yX9_renderVault yX9_renderVault) := by decide +kernel
theorem qw_1962 : lw_tbl[1962]? = some (Cond.code yX9_renderVault cX9_renderVault 3 (some FieldType.int)) := by decide +kernel
theorem qw_1971 : lw_tbl[1971]? = some (Cond.methodLink "FlyTreasuryLaw" 313 yX9_renderRates) := by decide +kernel
theorem qw_1972 : lw_tbl[1972]? = some (Cond.instanceMethod yX9_renderRates) := by decide +kernel
theorem qw_1973 : lw_tbl[1973]? = some (Cond.selects "FlyTreasuryModel" yX9_renderRates yX9_renderRates) := by decide +kernel
theorem qw_1974 : lw_tbl[1974]? = some (Cond.code yX9_renderRates cX9_renderRates 2 (some FieldType.int)) := by decide +kernel
theorem qw_1975 : lw_tbl[1975]? = some (Cond.methodLink "FlyTreasuryLaw" 316 yX9_outputAt) := by decide +kernel
theorem qw_1976 : lw_tbl[1976]? = some (Cond.instanceMethod yX9_outputAt) := by decide +kernel
theorem qw_1977 : lw_tbl[1977]? = some (Cond.selects "FlyTreasuryModel" yX9_outputAt yX9_outputAt) := by decide +kernel
theorem qw_1978 : lw_tbl[1978]? = some (Cond.code yX9_outputAt cX9_outputAt 2 (some FieldType.char)) := by decide +kernel
theorem qw_1979 : lw_tbl[1979]? = some (Cond.methodLink "FlyTreasuryLaw" 319 yX9_type) := by decide +kernel
theorem qw_1980 : lw_tbl[1980]? = some (Cond.instanceMethod yX9_type) := by decide +kernel
theorem qw_1981 : lw_tbl[1981]? = some (Cond.selects "FlyTreasuryModel" yX9_type yX9_type) := by decide +kernel
theorem qw_1982 : lw_tbl[1982]? = some (Cond.code yX9_type cX9_type 2 (some FieldType.int)) := by decide +kernel
theorem qw_1983 : lw_tbl[1983]? = some (Cond.methodLink "FlyTreasuryLaw" 323 yX9_runScript) := by decide +kernel
theorem qw_1984 : lw_tbl[1984]? = some (Cond.instanceMethod yX9_runScript) := by decide +kernel
theorem qw_1985 : lw_tbl[1985]? = some (Cond.selects "FlyTreasuryModel" yX9_runScript yX9_runScript) := by decide +kernel
theorem qw_1986 : lw_tbl[1986]? = some (Cond.code yX9_runScript cX9_runScript 2 (some FieldType.int)) := by decide +kernel
theorem qw_2047 : lw_tbl[2047]? = some (Cond.methodLink "FlyTreasuryLaw" 326 yX9_errorPosition) := by decide +kernel
theorem qw_2048 : lw_tbl[2048]? = some (Cond.instanceMethod yX9_errorPosition) := by decide +kernel
theorem qw_2049 : lw_tbl[2049]? = some (Cond.selects "FlyTreasuryModel" yX9_errorPosition yX9_errorPosition) := by decide +kernel
theorem qw_2050 : lw_tbl[2050]? = some (Cond.code yX9_errorPosition cX9_errorPosition 1 (some FieldType.int)) := by decide +kernel
theorem qw_2051 : lw_tbl[2051]? = some (Cond.methodLink "FlyTreasuryLaw" 329 yX9_failedCommand) := by decide +kernel
theorem qw_2052 : lw_tbl[2052]? = some (Cond.instanceMethod yX9_failedCommand) := by decide +kernel
theorem qw_2053 : lw_tbl[2053]? = some (Cond.selects "FlyTreasuryModel" yX9_failedCommand yX9_failedCommand) := by decide +kernel
theorem qw_2054 : lw_tbl[2054]? = some (Cond.code yX9_failedCommand cX9_failedCommand 1 (some FieldType.int)) := by decide +kernel
theorem qw_2055 : lw_tbl[2055]? = some (Cond.methodLink "FlyTreasuryLaw" 332 yX9_undo) := by decide +kernel
theorem qw_2056 : lw_tbl[2056]? = some (Cond.instanceMethod yX9_undo) := by decide +kernel
theorem qw_2057 : lw_tbl[2057]? = some (Cond.selects "FlyTreasuryModel" yX9_undo yX9_undo) := by decide +kernel
theorem qw_2058 : lw_tbl[2058]? = some (Cond.code yX9_undo cX9_undo 3 (some FieldType.int)) := by decide +kernel
theorem qw_2059 : lw_tbl[2059]? = some (Cond.methodLink "FlyTreasuryLaw" 336 yX9_save) := by decide +kernel
theorem qw_2060 : lw_tbl[2060]? = some (Cond.instanceMethod yX9_save) := by decide +kernel
theorem qw_2061 : lw_tbl[2061]? = some (Cond.selects "FlyTreasuryModel" yX9_save yX9_save) := by decide +kernel
theorem qw_2062 : lw_tbl[2062]? = some (Cond.code yX9_save cX9_save 2 (some FieldType.int)) := by decide +kernel
theorem qw_2063 : lw_tbl[2063]? = some (Cond.methodLink "FlyTreasuryLaw" 339 yX9_restore) := by decide +kernel
theorem qw_2064 : lw_tbl[2064]? = some (Cond.instanceMethod yX9_restore) := by decide +kernel
theorem qw_2065 : lw_tbl[2065]? = some (Cond.selects "FlyTreasuryModel" yX9_restore yX9_restore) := by decide +kernel
theorem qw_2066 : lw_tbl[2066]? = some (Cond.code yX9_restore cX9_restore 2 (some FieldType.int)) := by decide +kernel
theorem myL_addVault : yL_addVault.cls = "FlyTreasuryLaw" ∧ yL_addVault.cls ≠ "java/lang/invoke/MethodHandle" ∧ yL_addVault.cls ≠ "java/lang/invoke/VarHandle" ∧ (parseMethodDescriptor yL_addVault.desc).map (fun d => d.parameters.length) = some 3 := by decide +kernel
theorem myL_deposit : yL_deposit.cls = "FlyTreasuryLaw" ∧ yL_deposit.cls ≠ "java/lang/invoke/MethodHandle" ∧ yL_deposit.cls ≠ "java/lang/invoke/VarHandle" ∧ (parseMethodDescriptor yL_deposit.desc).map (fun d => d.parameters.length) = some 5 := by decide +kernel
theorem myL_withdraw : yL_withdraw.cls = "FlyTreasuryLaw" ∧ yL_withdraw.cls ≠ "java/lang/invoke/MethodHandle" ∧ yL_withdraw.cls ≠ "java/lang/invoke/VarHandle" ∧ (parseMethodDescriptor yL_withdraw.desc).map (fun d => d.parameters.length) = some 5 := by decide +kernel
theorem myL_exchange : yL_exchange.cls = "FlyTreasuryLaw" ∧ yL_exchange.cls ≠ "java/lang/invoke/MethodHandle" ∧ yL_exchange.cls ≠ "java/lang/invoke/VarHandle" ∧ (parseMethodDescriptor yL_exchange.desc).map (fun d => d.parameters.length) = some 6 := by decide +kernel
theorem myL_mint : yL_mint.cls = "FlyTreasuryLaw" ∧ yL_mint.cls ≠ "java/lang/invoke/MethodHandle" ∧ yL_mint.cls ≠ "java/lang/invoke/VarHandle" ∧ (parseMethodDescriptor yL_mint.desc).map (fun d => d.parameters.length) = some 4 := by decide +kernel
theorem myL_redeem : yL_redeem.cls = "FlyTreasuryLaw" ∧ yL_redeem.cls ≠ "java/lang/invoke/MethodHandle" ∧ yL_redeem.cls ≠ "java/lang/invoke/VarHandle" ∧ (parseMethodDescriptor yL_redeem.desc).map (fun d => d.parameters.length) = some 4 := by decide +kernel
theorem myL_audit : yL_audit.cls = "FlyTreasuryLaw" ∧ yL_audit.cls ≠ "java/lang/invoke/MethodHandle" ∧ yL_audit.cls ≠ "java/lang/invoke/VarHandle" ∧ (parseMethodDescriptor yL_audit.desc).map (fun d => d.parameters.length) = some 3 := by decide +kernel
theorem myL_setRate : yL_setRate.cls = "FlyTreasuryLaw" ∧ yL_setRate.cls ≠ "java/lang/invoke/MethodHandle" ∧ yL_setRate.cls ≠ "java/lang/invoke/VarHandle" ∧ (parseMethodDescriptor yL_setRate.desc).map (fun d => d.parameters.length) = some 4 := by decide +kernel
theorem myL_setStickiness : yL_setStickiness.cls = "FlyTreasuryLaw" ∧ yL_setStickiness.cls ≠ "java/lang/invoke/MethodHandle" ∧ yL_setStickiness.cls ≠ "java/lang/invoke/VarHandle" ∧ (parseMethodDescriptor yL_setStickiness.desc).map (fun d => d.parameters.length) = some 4 := by decide +kernel
theorem myL_passDays : yL_passDays.cls = "FlyTreasuryLaw" ∧ yL_passDays.cls ≠ "java/lang/invoke/MethodHandle" ∧ yL_passDays.cls ≠ "java/lang/invoke/VarHandle" ∧ (parseMethodDescriptor yL_passDays.desc).map (fun d => d.parameters.length) = some 3 := by decide +kernel
theorem myL_flies : yL_flies.cls = "FlyTreasuryLaw" ∧ yL_flies.cls ≠ "java/lang/invoke/MethodHandle" ∧ yL_flies.cls ≠ "java/lang/invoke/VarHandle" ∧ (parseMethodDescriptor yL_flies.desc).map (fun d => d.parameters.length) = some 4 := by decide +kernel
theorem myL_crumbs : yL_crumbs.cls = "FlyTreasuryLaw" ∧ yL_crumbs.cls ≠ "java/lang/invoke/MethodHandle" ∧ yL_crumbs.cls ≠ "java/lang/invoke/VarHandle" ∧ (parseMethodDescriptor yL_crumbs.desc).map (fun d => d.parameters.length) = some 3 := by decide +kernel
theorem myL_dew : yL_dew.cls = "FlyTreasuryLaw" ∧ yL_dew.cls ≠ "java/lang/invoke/MethodHandle" ∧ yL_dew.cls ≠ "java/lang/invoke/VarHandle" ∧ (parseMethodDescriptor yL_dew.desc).map (fun d => d.parameters.length) = some 3 := by decide +kernel
theorem myL_wings : yL_wings.cls = "FlyTreasuryLaw" ∧ yL_wings.cls ≠ "java/lang/invoke/MethodHandle" ∧ yL_wings.cls ≠ "java/lang/invoke/VarHandle" ∧ (parseMethodDescriptor yL_wings.desc).map (fun d => d.parameters.length) = some 3 := by decide +kernel
theorem myL_stickiness : yL_stickiness.cls = "FlyTreasuryLaw" ∧ yL_stickiness.cls ≠ "java/lang/invoke/MethodHandle" ∧ yL_stickiness.cls ≠ "java/lang/invoke/VarHandle" ∧ (parseMethodDescriptor yL_stickiness.desc).map (fun d => d.parameters.length) = some 3 := by decide +kernel
theorem myL_isFrozen : yL_isFrozen.cls = "FlyTreasuryLaw" ∧ yL_isFrozen.cls ≠ "java/lang/invoke/MethodHandle" ∧ yL_isFrozen.cls ≠ "java/lang/invoke/VarHandle" ∧ (parseMethodDescriptor yL_isFrozen.desc).map (fun d => d.parameters.length) = some 3 := by decide +kernel
theorem myL_daysUntilThaw : yL_daysUntilThaw.cls = "FlyTreasuryLaw" ∧ yL_daysUntilThaw.cls ≠ "java/lang/invoke/MethodHandle" ∧ yL_daysUntilThaw.cls ≠ "java/lang/invoke/VarHandle" ∧ (parseMethodDescriptor yL_daysUntilThaw.desc).map (fun d => d.parameters.length) = some 3 := by decide +kernel
theorem myL_value : yL_value.cls = "FlyTreasuryLaw" ∧ yL_value.cls ≠ "java/lang/invoke/MethodHandle" ∧ yL_value.cls ≠ "java/lang/invoke/VarHandle" ∧ (parseMethodDescriptor yL_value.desc).map (fun d => d.parameters.length) = some 3 := by decide +kernel
theorem myL_reserve : yL_reserve.cls = "FlyTreasuryLaw" ∧ yL_reserve.cls ≠ "java/lang/invoke/MethodHandle" ∧ yL_reserve.cls ≠ "java/lang/invoke/VarHandle" ∧ (parseMethodDescriptor yL_reserve.desc).map (fun d => d.parameters.length) = some 3 := by decide +kernel
theorem myL_isSound : yL_isSound.cls = "FlyTreasuryLaw" ∧ yL_isSound.cls ≠ "java/lang/invoke/MethodHandle" ∧ yL_isSound.cls ≠ "java/lang/invoke/VarHandle" ∧ (parseMethodDescriptor yL_isSound.desc).map (fun d => d.parameters.length) = some 3 := by decide +kernel
theorem myL_mintable : yL_mintable.cls = "FlyTreasuryLaw" ∧ yL_mintable.cls ≠ "java/lang/invoke/MethodHandle" ∧ yL_mintable.cls ≠ "java/lang/invoke/VarHandle" ∧ (parseMethodDescriptor yL_mintable.desc).map (fun d => d.parameters.length) = some 3 := by decide +kernel
theorem myL_daysUntilSound : yL_daysUntilSound.cls = "FlyTreasuryLaw" ∧ yL_daysUntilSound.cls ≠ "java/lang/invoke/MethodHandle" ∧ yL_daysUntilSound.cls ≠ "java/lang/invoke/VarHandle" ∧ (parseMethodDescriptor yL_daysUntilSound.desc).map (fun d => d.parameters.length) = some 3 := by decide +kernel
theorem myL_daysUntilSoundByCounting : yL_daysUntilSoundByCounting.cls = "FlyTreasuryLaw" ∧ yL_daysUntilSoundByCounting.cls ≠ "java/lang/invoke/MethodHandle" ∧ yL_daysUntilSoundByCounting.cls ≠ "java/lang/invoke/VarHandle" ∧ (parseMethodDescriptor yL_daysUntilSoundByCounting.desc).map (fun d => d.parameters.length) = some 3 := by decide +kernel
theorem myL_mostFlies : yL_mostFlies.cls = "FlyTreasuryLaw" ∧ yL_mostFlies.cls ≠ "java/lang/invoke/MethodHandle" ∧ yL_mostFlies.cls ≠ "java/lang/invoke/VarHandle" ∧ (parseMethodDescriptor yL_mostFlies.desc).map (fun d => d.parameters.length) = some 4 := by decide +kernel
theorem myL_mostFliesByExchanges : yL_mostFliesByExchanges.cls = "FlyTreasuryLaw" ∧ yL_mostFliesByExchanges.cls ≠ "java/lang/invoke/MethodHandle" ∧ yL_mostFliesByExchanges.cls ≠ "java/lang/invoke/VarHandle" ∧ (parseMethodDescriptor yL_mostFliesByExchanges.desc).map (fun d => d.parameters.length) = some 4 := by decide +kernel
theorem myL_rate : yL_rate.cls = "FlyTreasuryLaw" ∧ yL_rate.cls ≠ "java/lang/invoke/MethodHandle" ∧ yL_rate.cls ≠ "java/lang/invoke/VarHandle" ∧ (parseMethodDescriptor yL_rate.desc).map (fun d => d.parameters.length) = some 3 := by decide +kernel
theorem myL_totalFlies : yL_totalFlies.cls = "FlyTreasuryLaw" ∧ yL_totalFlies.cls ≠ "java/lang/invoke/MethodHandle" ∧ yL_totalFlies.cls ≠ "java/lang/invoke/VarHandle" ∧ (parseMethodDescriptor yL_totalFlies.desc).map (fun d => d.parameters.length) = some 3 := by decide +kernel
theorem myL_totalFliesByAccounts : yL_totalFliesByAccounts.cls = "FlyTreasuryLaw" ∧ yL_totalFliesByAccounts.cls ≠ "java/lang/invoke/MethodHandle" ∧ yL_totalFliesByAccounts.cls ≠ "java/lang/invoke/VarHandle" ∧ (parseMethodDescriptor yL_totalFliesByAccounts.desc).map (fun d => d.parameters.length) = some 3 := by decide +kernel
theorem myL_vaultByValue : yL_vaultByValue.cls = "FlyTreasuryLaw" ∧ yL_vaultByValue.cls ≠ "java/lang/invoke/MethodHandle" ∧ yL_vaultByValue.cls ≠ "java/lang/invoke/VarHandle" ∧ (parseMethodDescriptor yL_vaultByValue.desc).map (fun d => d.parameters.length) = some 3 := by decide +kernel
theorem myL_kindByValue : yL_kindByValue.cls = "FlyTreasuryLaw" ∧ yL_kindByValue.cls ≠ "java/lang/invoke/MethodHandle" ∧ yL_kindByValue.cls ≠ "java/lang/invoke/VarHandle" ∧ (parseMethodDescriptor yL_kindByValue.desc).map (fun d => d.parameters.length) = some 3 := by decide +kernel
theorem myL_meanValue : yL_meanValue.cls = "FlyTreasuryLaw" ∧ yL_meanValue.cls ≠ "java/lang/invoke/MethodHandle" ∧ yL_meanValue.cls ≠ "java/lang/invoke/VarHandle" ∧ (parseMethodDescriptor yL_meanValue.desc).map (fun d => d.parameters.length) = some 2 := by decide +kernel
theorem myL_soundShare : yL_soundShare.cls = "FlyTreasuryLaw" ∧ yL_soundShare.cls ≠ "java/lang/invoke/MethodHandle" ∧ yL_soundShare.cls ≠ "java/lang/invoke/VarHandle" ∧ (parseMethodDescriptor yL_soundShare.desc).map (fun d => d.parameters.length) = some 2 := by decide +kernel
theorem myL_renderVault : yL_renderVault.cls = "FlyTreasuryLaw" ∧ yL_renderVault.cls ≠ "java/lang/invoke/MethodHandle" ∧ yL_renderVault.cls ≠ "java/lang/invoke/VarHandle" ∧ (parseMethodDescriptor yL_renderVault.desc).map (fun d => d.parameters.length) = some 3 := by decide +kernel
theorem myL_outputAt : yL_outputAt.cls = "FlyTreasuryLaw" ∧ yL_outputAt.cls ≠ "java/lang/invoke/MethodHandle" ∧ yL_outputAt.cls ≠ "java/lang/invoke/VarHandle" ∧ (parseMethodDescriptor yL_outputAt.desc).map (fun d => d.parameters.length) = some 3 := by decide +kernel
theorem myL_type : yL_type.cls = "FlyTreasuryLaw" ∧ yL_type.cls ≠ "java/lang/invoke/MethodHandle" ∧ yL_type.cls ≠ "java/lang/invoke/VarHandle" ∧ (parseMethodDescriptor yL_type.desc).map (fun d => d.parameters.length) = some 3 := by decide +kernel
theorem myL_runScript : yL_runScript.cls = "FlyTreasuryLaw" ∧ yL_runScript.cls ≠ "java/lang/invoke/MethodHandle" ∧ yL_runScript.cls ≠ "java/lang/invoke/VarHandle" ∧ (parseMethodDescriptor yL_runScript.desc).map (fun d => d.parameters.length) = some 2 := by decide +kernel
theorem myL_errorPosition : yL_errorPosition.cls = "FlyTreasuryLaw" ∧ yL_errorPosition.cls ≠ "java/lang/invoke/MethodHandle" ∧ yL_errorPosition.cls ≠ "java/lang/invoke/VarHandle" ∧ (parseMethodDescriptor yL_errorPosition.desc).map (fun d => d.parameters.length) = some 2 := by decide +kernel
theorem myL_failedCommand : yL_failedCommand.cls = "FlyTreasuryLaw" ∧ yL_failedCommand.cls ≠ "java/lang/invoke/MethodHandle" ∧ yL_failedCommand.cls ≠ "java/lang/invoke/VarHandle" ∧ (parseMethodDescriptor yL_failedCommand.desc).map (fun d => d.parameters.length) = some 2 := by decide +kernel
theorem myL_undo : yL_undo.cls = "FlyTreasuryLaw" ∧ yL_undo.cls ≠ "java/lang/invoke/MethodHandle" ∧ yL_undo.cls ≠ "java/lang/invoke/VarHandle" ∧ (parseMethodDescriptor yL_undo.desc).map (fun d => d.parameters.length) = some 2 := by decide +kernel
theorem myL_restore : yL_restore.cls = "FlyTreasuryLaw" ∧ yL_restore.cls ≠ "java/lang/invoke/MethodHandle" ∧ yL_restore.cls ≠ "java/lang/invoke/VarHandle" ∧ (parseMethodDescriptor yL_restore.desc).map (fun d => d.parameters.length) = some 2 := by decide +kernel
