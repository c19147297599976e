theorem qw_0 : lw_tbl[0]? = some (Cond.selects "FlyTreasury$Ledger" yX3_valueOfKind yX3_valueOfKind) := by decide +kernel
theorem qw_2 : lw_tbl[2]? = some (Cond.selects "FlyTreasury$Ledger" yX3_letOneDayPass yX3_letOneDayPass) := by decide +kernel
theorem qw_3 : lw_tbl[3]? = some (Cond.selects "FlyTreasury" yX8_vaultAt yX8_vaultAt) := by decide +kernel
theorem qw_4 : lw_tbl[4]? = some (Cond.selects "FlyTreasury$Ledger" yX3_ranksBefore yX3_ranksBefore) := by decide +kernel
theorem qw_5 : lw_tbl[5]? = some (Cond.selects "FlyTreasury$Ledger" yX3_kindRanksBefore yX3_kindRanksBefore) := by decide +kernel
theorem qw_6 : lw_tbl[6]? = some (Cond.selects "FlyTreasury$Script" yX6_readOrder yX6_readOrder) := by decide +kernel
theorem qw_7 : lw_tbl[7]? = some (Cond.selects "FlyTreasury$Script" yX6_readWord yX6_readWord) := by decide +kernel
theorem qw_8 : lw_tbl[8]? = some (Cond.selects "FlyTreasury$Script" yX6_fitOf yX6_fitOf) := by decide +kernel
theorem qw_9 : lw_tbl[9]? = some (Cond.selects "FlyTreasury$Script" yX6_signAt yX6_signAt) := by decide +kernel
theorem qw_10 : lw_tbl[10]? = some (Cond.selects "FlyTreasury$Script" yX6_readDays yX6_readDays) := by decide +kernel
theorem qw_11 : lw_tbl[11]? = some (Cond.selects "FlyTreasury$Script" yX6_readSign yX6_readSign) := by decide +kernel
theorem qw_12 : lw_tbl[12]? = some (Cond.selects "FlyTreasury$Script" yX6_readPart yX6_readPart) := by decide +kernel
theorem qw_13 : lw_tbl[13]? = some (Cond.selects "FlyTreasury$Script" yX6_readDigit yX6_readDigit) := by decide +kernel
theorem qw_14 : lw_tbl[14]? = some (Cond.selects "FlyTreasury$Script" yX6_readNumber yX6_readNumber) := by decide +kernel
theorem qw_15 : lw_tbl[15]? = some (Cond.selects "FlyTreasury$Script" yX6_readKind yX6_readKind) := by decide +kernel
theorem qw_16 : lw_tbl[16]? = some (Cond.selects "FlyTreasury" yX8_firstRefusedOrder yX8_firstRefusedOrder) := by decide +kernel
theorem qw_17 : lw_tbl[17]? = some (Cond.selects "FlyTreasury" yX8_refusalOf yX8_refusalOf) := by decide +kernel
theorem qw_18 : lw_tbl[18]? = some (Cond.selects "FlyTreasury" yX8_carryOut yX8_carryOut) := by decide +kernel
theorem qw_19 : lw_tbl[19]? = some (Cond.selects "FlyTreasuryModel" yX9_notVault yX9_notVault) := by decide +kernel
theorem qw_20 : lw_tbl[20]? = some (Cond.selects "FlyTreasuryModel" yX9_fails yX9_fails) := by decide +kernel
theorem qw_21 : lw_tbl[21]? = some (Cond.selects "FlyTreasuryModel" yX9_remembers yX9_remembers) := by decide +kernel
theorem qw_22 : lw_tbl[22]? = some (Cond.selects "FlyTreasuryModel" yX9_copies yX9_copies) := by decide +kernel
theorem qw_23 : lw_tbl[23]? = some (Cond.selects "FlyTreasuryModel" yX9_keeps yX9_keeps) := by decide +kernel
theorem qw_24 : lw_tbl[24]? = some (Cond.selects "FlyTreasuryModel" yX9_addsVault yX9_addsVault) := by decide +kernel
theorem qw_25 : lw_tbl[25]? = some (Cond.selects "FlyTreasuryModel" yX9_puts yX9_puts) := by decide +kernel
theorem qw_26 : lw_tbl[26]? = some (Cond.selects "FlyTreasuryModel" yX9_notDeposit yX9_notDeposit) := by decide +kernel
theorem qw_27 : lw_tbl[27]? = some (Cond.selects "FlyTreasuryModel" yX9_isVault yX9_isVault) := by decide +kernel
theorem qw_28 : lw_tbl[28]? = some (Cond.selects "FlyTreasuryModel" yX9_of yX9_of) := by decide +kernel
theorem qw_29 : lw_tbl[29]? = some (Cond.selects "FlyTreasuryModel" yX9_deposits yX9_deposits) := by decide +kernel
theorem qw_30 : lw_tbl[30]? = some (Cond.selects "FlyTreasuryModel" yX9_adds yX9_adds) := by decide +kernel
theorem qw_31 : lw_tbl[31]? = some (Cond.selects "FlyTreasuryModel" yX9_notWithdraw yX9_notWithdraw) := by decide +kernel
theorem qw_32 : lw_tbl[32]? = some (Cond.selects "FlyTreasuryModel" yX9_isSoundWithout yX9_isSoundWithout) := by decide +kernel
theorem qw_33 : lw_tbl[33]? = some (Cond.selects "FlyTreasuryModel" yX9_spare yX9_spare) := by decide +kernel
theorem qw_34 : lw_tbl[34]? = some (Cond.selects "FlyTreasuryModel" yX9_valueOf yX9_valueOf) := by decide +kernel
theorem qw_35 : lw_tbl[35]? = some (Cond.selects "FlyTreasuryModel" yX9_reserveOf yX9_reserveOf) := by decide +kernel
theorem qw_36 : lw_tbl[36]? = some (Cond.selects "FlyTreasuryModel" yX9_withdraws yX9_withdraws) := by decide +kernel
theorem qw_37 : lw_tbl[37]? = some (Cond.selects "FlyTreasuryModel" yX9_notExchange yX9_notExchange) := by decide +kernel
theorem qw_38 : lw_tbl[38]? = some (Cond.selects "FlyTreasuryModel" yX9_legsOf yX9_legsOf) := by decide +kernel
theorem qw_39 : lw_tbl[39]? = some (Cond.selects "FlyTreasuryModel" yX9_exchanges yX9_exchanges) := by decide +kernel
theorem qw_40 : lw_tbl[40]? = some (Cond.selects "FlyTreasuryModel" yX9_notMint yX9_notMint) := by decide +kernel
theorem qw_41 : lw_tbl[41]? = some (Cond.selects "FlyTreasuryModel" yX9_mints yX9_mints) := by decide +kernel
theorem qw_42 : lw_tbl[42]? = some (Cond.selects "FlyTreasuryModel" yX9_notRedeem yX9_notRedeem) := by decide +kernel
theorem qw_43 : lw_tbl[43]? = some (Cond.selects "FlyTreasuryModel" yX9_redeems yX9_redeems) := by decide +kernel
theorem qw_44 : lw_tbl[44]? = some (Cond.selects "FlyTreasuryModel" yX9_notAudit yX9_notAudit) := by decide +kernel
theorem qw_45 : lw_tbl[45]? = some (Cond.selects "FlyTreasuryModel" yX9_audits yX9_audits) := by decide +kernel
theorem qw_46 : lw_tbl[46]? = some (Cond.selects "FlyTreasuryModel" yX9_setsRate yX9_setsRate) := by decide +kernel
theorem qw_47 : lw_tbl[47]? = some (Cond.selects "FlyTreasuryModel" yX9_notStick yX9_notStick) := by decide +kernel
theorem qw_48 : lw_tbl[48]? = some (Cond.selects "FlyTreasuryModel" yX9_sticks yX9_sticks) := by decide +kernel
theorem qw_49 : lw_tbl[49]? = some (Cond.selects "FlyTreasuryModel" yX9_passes yX9_passes) := by decide +kernel
theorem qw_50 : lw_tbl[50]? = some (Cond.selects "FlyTreasuryModel" yX9_passesOne yX9_passesOne) := by decide +kernel
theorem qw_51 : lw_tbl[51]? = some (Cond.selects "FlyTreasuryModel" yX9_asks yX9_asks) := by decide +kernel
theorem qw_52 : lw_tbl[52]? = some (Cond.selects "FlyTreasuryModel" yX9_asksVault yX9_asksVault) := by decide +kernel
theorem qw_53 : lw_tbl[53]? = some (Cond.selects "FlyTreasuryModel" yX9_fliesOf yX9_fliesOf) := by decide +kernel
theorem qw_54 : lw_tbl[54]? = some (Cond.selects "FlyTreasuryModel" yX9_valueAll yX9_valueAll) := by decide +kernel
theorem qw_55 : lw_tbl[55]? = some (Cond.selects "FlyTreasuryModel" yX9_isAhead yX9_isAhead) := by decide +kernel
theorem qw_56 : lw_tbl[56]? = some (Cond.selects "FlyTreasuryModel" yX9_writes yX9_writes) := by decide +kernel
theorem qw_57 : lw_tbl[57]? = some (Cond.selects "FlyTreasuryModel" yX9_writesNumber yX9_writesNumber) := by decide +kernel
theorem qw_58 : lw_tbl[58]? = some (Cond.selects "FlyTreasuryModel" yX9_readsAll yX9_readsAll) := by decide +kernel
theorem qw_59 : lw_tbl[59]? = some (Cond.selects "FlyTreasuryModel" yX9_readsCommand yX9_readsCommand) := by decide +kernel
theorem qw_60 : lw_tbl[60]? = some (Cond.selects "FlyTreasuryModel" yX9_nextChar yX9_nextChar) := by decide +kernel
theorem qw_61 : lw_tbl[61]? = some (Cond.selects "FlyTreasuryModel" yX9_reads yX9_reads) := by decide +kernel
theorem qw_62 : lw_tbl[62]? = some (Cond.selects "FlyTreasuryModel" yX9_readsDigit yX9_readsDigit) := by decide +kernel
theorem qw_63 : lw_tbl[63]? = some (Cond.selects "FlyTreasuryModel" yX9_readsFlies yX9_readsFlies) := by decide +kernel
theorem qw_64 : lw_tbl[64]? = some (Cond.selects "FlyTreasuryModel" yX9_readsKind yX9_readsKind) := by decide +kernel
theorem qw_65 : lw_tbl[65]? = some (Cond.selects "FlyTreasuryModel" yX9_readsNumber yX9_readsNumber) := by decide +kernel
theorem qw_66 : lw_tbl[66]? = some (Cond.selects "FlyTreasuryModel" yX9_readsS yX9_readsS) := by decide +kernel
theorem qw_67 : lw_tbl[67]? = some (Cond.selects "FlyTreasuryModel" yX9_readsM yX9_readsM) := by decide +kernel
theorem qw_68 : lw_tbl[68]? = some (Cond.selects "FlyTreasuryModel" yX9_readsDay yX9_readsDay) := by decide +kernel
theorem qw_69 : lw_tbl[69]? = some (Cond.selects "FlyTreasuryModel" yX9_doesAll yX9_doesAll) := by decide +kernel
theorem qw_70 : lw_tbl[70]? = some (Cond.selects "FlyTreasuryModel" yX9_notNow yX9_notNow) := by decide +kernel
theorem qw_71 : lw_tbl[71]? = some (Cond.selects "FlyTreasuryModel" yX9_doesNow yX9_doesNow) := by decide +kernel
theorem qw_72 : lw_tbl[72]? = some (Cond.selects "FlyTreasuryModel" yX9_goesBack yX9_goesBack) := by decide +kernel
theorem qw_74 : lw_tbl[74]? = some (Cond.initialized "FlyTreasury") := by decide +kernel
theorem qw_75 : lw_tbl[75]? = some (Cond.initialized "FlyTreasury$Ledger") := by decide +kernel
theorem qw_76 : lw_tbl[76]? = some (Cond.initialized "FlyTreasury$Vault") := by decide +kernel
theorem qw_77 : lw_tbl[77]? = some (Cond.initialized "FlyTreasury$History") := by decide +kernel
theorem qw_78 : lw_tbl[78]? = some (Cond.initialized "FlyTreasury$Script") := by decide +kernel
theorem qw_80 : lw_tbl[80]? = some (Cond.initialized "java/lang/Enum") := by decide +kernel
theorem qw_82 : lw_tbl[82]? = some (Cond.initialized "java/lang/AbstractStringBuilder") := by decide +kernel
theorem qw_83 : lw_tbl[83]? = some (Cond.initialized "java/lang/StringBuilder") := by decide +kernel
theorem qw_84 : lw_tbl[84]? = some (Cond.initialized "java/lang/String") := by decide +kernel
theorem qw_86 : lw_tbl[86]? = some (Cond.initialized "FlyTreasuryModel") := by decide +kernel
theorem qw_92 : lw_tbl[92]? = some (Cond.initialized "java/lang/IndexOutOfBoundsException") := by decide +kernel
theorem qw_93 : lw_tbl[93]? = some (Cond.initialized "java/lang/IllegalArgumentException") := by decide +kernel
theorem qw_94 : lw_tbl[94]? = some (Cond.initialized "java/lang/IllegalStateException") := by decide +kernel
theorem qw_95 : lw_tbl[95]? = some (Cond.initialized "java/lang/UnsupportedOperationException") := by decide +kernel
theorem qw_96 : lw_tbl[96]? = some (Cond.initialized "java/lang/System") := by decide +kernel
theorem qw_97 : lw_tbl[97]? = some (Cond.initialized "java/lang/Math") := by decide +kernel
theorem qw_99 : lw_tbl[99]? = some (Cond.initialized "java/lang/StringLatin1") := by decide +kernel
theorem qw_100 : lw_tbl[100]? = some (Cond.initialized "jdk/internal/util/Preconditions") := by decide +kernel
theorem qw_102 : lw_tbl[102]? = some (Cond.initialized "java/util/NoSuchElementException") := by decide +kernel
theorem qw_103 : lw_tbl[103]? = some (Cond.initialized "java/lang/ArithmeticException") := by decide +kernel
theorem qw_105 : lw_tbl[105]? = some (Cond.initialized "jdk/internal/util/ArraysSupport") := by decide +kernel
theorem qw_106 : lw_tbl[106]? = some (Cond.initialized "java/util/Arrays") := by decide +kernel
theorem qw_108 : lw_tbl[108]? = some (Cond.initialized "java/lang/Integer") := by decide +kernel
theorem qw_130 : lw_tbl[130]? = some (Cond.fieldLink "FlyTreasury$Vault" 9 "FlyTreasury$Vault" "held" "[I") := by decide +kernel
theorem qw_131 : lw_tbl[131]? = some (Cond.fieldLinkNest "FlyTreasury$Ledger" 94 "FlyTreasury$Vault" "held" "[I" "FlyTreasury") := by decide +kernel
theorem qw_132 : lw_tbl[132]? = some (Cond.fieldLinkNest "FlyTreasury" 140 "FlyTreasury$Vault" "held" "[I" "FlyTreasury") := by decide +kernel
theorem qw_133 : lw_tbl[133]? = some (Cond.fieldLink "FlyTreasury$Vault" 15 "FlyTreasury$Vault" "crumbLegs" "I") := by decide +kernel
theorem qw_134 : lw_tbl[134]? = some (Cond.fieldLinkNest "FlyTreasury$Ledger" 114 "FlyTreasury$Vault" "crumbLegs" "I" "FlyTreasury") := by decide +kernel
theorem qw_135 : lw_tbl[135]? = some (Cond.fieldLinkNest "FlyTreasury" 150 "FlyTreasury$Vault" "crumbLegs" "I" "FlyTreasury") := by decide +kernel
theorem qw_136 : lw_tbl[136]? = some (Cond.fieldLink "FlyTreasury$Vault" 19 "FlyTreasury$Vault" "drops" "I") := by decide +kernel
theorem qw_137 : lw_tbl[137]? = some (Cond.fieldLinkNest "FlyTreasury$Ledger" 105 "FlyTreasury$Vault" "drops" "I" "FlyTreasury") := by decide +kernel
theorem qw_138 : lw_tbl[138]? = some (Cond.fieldLinkNest "FlyTreasury" 153 "FlyTreasury$Vault" "drops" "I" "FlyTreasury") := by decide +kernel
theorem qw_139 : lw_tbl[139]? = some (Cond.fieldLink "FlyTreasury$Vault" 22 "FlyTreasury$Vault" "wingCount" "I") := by decide +kernel
theorem qw_140 : lw_tbl[140]? = some (Cond.fieldLinkNest "FlyTreasury" 156 "FlyTreasury$Vault" "wingCount" "I" "FlyTreasury") := by decide +kernel
theorem qw_141 : lw_tbl[141]? = some (Cond.fieldLink "FlyTreasury$Vault" 25 "FlyTreasury$Vault" "tenths" "I") := by decide +kernel
theorem qw_142 : lw_tbl[142]? = some (Cond.fieldLinkNest "FlyTreasury$Ledger" 76 "FlyTreasury$Vault" "tenths" "I" "FlyTreasury") := by decide +kernel
theorem qw_143 : lw_tbl[143]? = some (Cond.fieldLinkNest "FlyTreasury" 159 "FlyTreasury$Vault" "tenths" "I" "FlyTreasury") := by decide +kernel
theorem qw_144 : lw_tbl[144]? = some (Cond.fieldLink "FlyTreasury$Vault" 28 "FlyTreasury$Vault" "frozenDays" "I") := by decide +kernel
theorem qw_145 : lw_tbl[145]? = some (Cond.fieldLinkNest "FlyTreasury" 173 "FlyTreasury$Vault" "frozenDays" "I" "FlyTreasury") := by decide +kernel
theorem qw_159 : lw_tbl[159]? = some (Cond.arrayClass FieldType.int) := by decide +kernel
theorem qw_160 : lw_tbl[160]? = some (Cond.fieldLink "FlyTreasury$Ledger" 11 "FlyTreasury$Ledger" "vaults" "[LFlyTreasury$Vault;") := by decide +kernel
theorem qw_161 : lw_tbl[161]? = some (Cond.fieldLinkNest "FlyTreasury" 345 "FlyTreasury$Ledger" "vaults" "[LFlyTreasury$Vault;" "FlyTreasury") := by decide +kernel
theorem qw_162 : lw_tbl[162]? = some (Cond.fieldLink "FlyTreasury$Ledger" 17 "FlyTreasury$Ledger" "rates" "[I") := by decide +kernel
theorem qw_163 : lw_tbl[163]? = some (Cond.fieldLinkNest "FlyTreasury" 176 "FlyTreasury$Ledger" "rates" "[I" "FlyTreasury") := by decide +kernel
theorem qw_164 : lw_tbl[164]? = some (Cond.fieldLink "FlyTreasury$Ledger" 21 "FlyTreasury$Ledger" "fliesIn" "[I") := by decide +kernel
theorem qw_165 : lw_tbl[165]? = some (Cond.fieldLink "FlyTreasury$Ledger" 24 "FlyTreasury$Ledger" "fliesOut" "[I") := by decide +kernel
theorem qw_166 : lw_tbl[166]? = some (Cond.fieldLink "FlyTreasury$Ledger" 27 "FlyTreasury$Ledger" "vaultsOpen" "I") := by decide +kernel
theorem qw_167 : lw_tbl[167]? = some (Cond.fieldLinkNest "FlyTreasury" 133 "FlyTreasury$Ledger" "vaultsOpen" "I" "FlyTreasury") := by decide +kernel
theorem qw_168 : lw_tbl[168]? = some (Cond.fieldLink "FlyTreasury$Ledger" 31 "FlyTreasury$Ledger" "today" "I") := by decide +kernel
theorem qw_169 : lw_tbl[169]? = some (Cond.fieldLinkNest "FlyTreasury" 235 "FlyTreasury$Ledger" "today" "I" "FlyTreasury") := by decide +kernel
theorem qw_170 : lw_tbl[170]? = some (Cond.fieldLink "FlyTreasury$Ledger" 34 "FlyTreasury$Ledger" "dropsMinted" "I") := by decide +kernel
theorem qw_171 : lw_tbl[171]? = some (Cond.fieldLinkNest "FlyTreasury" 238 "FlyTreasury$Ledger" "dropsMinted" "I" "FlyTreasury") := by decide +kernel
theorem qw_172 : lw_tbl[172]? = some (Cond.fieldLink "FlyTreasury$Ledger" 37 "FlyTreasury$Ledger" "dropsRedeemed" "I") := by decide +kernel
theorem qw_173 : lw_tbl[173]? = some (Cond.fieldLinkNest "FlyTreasury" 241 "FlyTreasury$Ledger" "dropsRedeemed" "I" "FlyTreasury") := by decide +kernel
theorem qw_174 : lw_tbl[174]? = some (Cond.fieldLink "FlyTreasury$Ledger" 40 "FlyTreasury$Ledger" "dropsEvaporated" "I") := by decide +kernel
theorem qw_175 : lw_tbl[175]? = some (Cond.fieldLinkNest "FlyTreasury" 244 "FlyTreasury$Ledger" "dropsEvaporated" "I" "FlyTreasury") := by decide +kernel
theorem qw_176 : lw_tbl[176]? = some (Cond.fieldLink "FlyTreasury$Ledger" 43 "FlyTreasury$Ledger" "audits" "I") := by decide +kernel
theorem qw_177 : lw_tbl[177]? = some (Cond.fieldLinkNest "FlyTreasury" 247 "FlyTreasury$Ledger" "audits" "I" "FlyTreasury") := by decide +kernel
theorem qw_178 : lw_tbl[178]? = some (Cond.fieldLink "FlyTreasury$Ledger" 46 "FlyTreasury$Ledger" "soundAudits" "I") := by decide +kernel
theorem qw_179 : lw_tbl[179]? = some (Cond.fieldLinkNest "FlyTreasury" 250 "FlyTreasury$Ledger" "soundAudits" "I" "FlyTreasury") := by decide +kernel
theorem qw_212 : lw_tbl[212]? = some (Cond.fieldLink "FlyTreasury$History" 11 "FlyTreasury$History" "states" "[LFlyTreasury$Ledger;") := by decide +kernel
theorem qw_213 : lw_tbl[213]? = some (Cond.fieldLink "FlyTreasury$History" 17 "FlyTreasury$History" "newest" "I") := by decide +kernel
theorem qw_214 : lw_tbl[214]? = some (Cond.fieldLink "FlyTreasury$History" 21 "FlyTreasury$History" "size" "I") := by decide +kernel
theorem qw_215 : lw_tbl[215]? = some (Cond.fieldLinkNest "FlyTreasury" 330 "FlyTreasury$History" "size" "I" "FlyTreasury") := by decide +kernel
theorem qw_239 : lw_tbl[239]? = some (Cond.fieldLinkNest "FlyTreasury$Script" 43 "FlyTreasury$Order" "command" "LFlyTreasury$Command;" "FlyTreasury") := by decide +kernel
theorem qw_240 : lw_tbl[240]? = some (Cond.fieldLinkNest "FlyTreasury" 392 "FlyTreasury$Order" "command" "LFlyTreasury$Command;" "FlyTreasury") := by decide +kernel
theorem qw_242 : lw_tbl[242]? = some (Cond.fieldLinkNest "FlyTreasury$Script" 98 "FlyTreasury$Order" "vault" "I" "FlyTreasury") := by decide +kernel
theorem qw_243 : lw_tbl[243]? = some (Cond.fieldLinkNest "FlyTreasury" 404 "FlyTreasury$Order" "vault" "I" "FlyTreasury") := by decide +kernel
theorem qw_245 : lw_tbl[245]? = some (Cond.fieldLinkNest "FlyTreasury$Script" 108 "FlyTreasury$Order" "kind" "C" "FlyTreasury") := by decide +kernel
theorem qw_246 : lw_tbl[246]? = some (Cond.fieldLinkNest "FlyTreasury" 407 "FlyTreasury$Order" "kind" "C" "FlyTreasury") := by decide +kernel
theorem qw_248 : lw_tbl[248]? = some (Cond.fieldLinkNest "FlyTreasury$Script" 112 "FlyTreasury$Order" "otherKind" "C" "FlyTreasury") := by decide +kernel
theorem qw_249 : lw_tbl[249]? = some (Cond.fieldLinkNest "FlyTreasury" 411 "FlyTreasury$Order" "otherKind" "C" "FlyTreasury") := by decide +kernel
theorem qw_251 : lw_tbl[251]? = some (Cond.fieldLinkNest "FlyTreasury$Script" 92 "FlyTreasury$Order" "number" "I" "FlyTreasury") := by decide +kernel
theorem qw_252 : lw_tbl[252]? = some (Cond.fieldLinkNest "FlyTreasury" 401 "FlyTreasury$Order" "number" "I" "FlyTreasury") := by decide +kernel
theorem qw_264 : lw_tbl[264]? = some (Cond.arrayClass FieldType.char) := by decide +kernel
theorem qw_265 : lw_tbl[265]? = some (Cond.fieldLink "FlyTreasury$Script" 9 "FlyTreasury$Script" "text" "[C") := by decide +kernel
theorem qw_266 : lw_tbl[266]? = some (Cond.fieldLink "FlyTreasury$Script" 17 "FlyTreasury$Script" "orders" "[LFlyTreasury$Order;") := by decide +kernel
theorem qw_267 : lw_tbl[267]? = some (Cond.fieldLinkNest "FlyTreasury" 373 "FlyTreasury$Script" "orders" "[LFlyTreasury$Order;" "FlyTreasury") := by decide +kernel
theorem qw_268 : lw_tbl[268]? = some (Cond.fieldLink "FlyTreasury$Script" 21 "FlyTreasury$Script" "length" "I") := by decide +kernel
theorem qw_269 : lw_tbl[269]? = some (Cond.fieldLinkNest "FlyTreasury" 297 "FlyTreasury$Script" "length" "I" "FlyTreasury") := by decide +kernel
theorem qw_270 : lw_tbl[270]? = some (Cond.fieldLink "FlyTreasury$Script" 25 "FlyTreasury$Script" "position" "I") := by decide +kernel
theorem qw_271 : lw_tbl[271]? = some (Cond.fieldLinkNest "FlyTreasury" 310 "FlyTreasury$Script" "position" "I" "FlyTreasury") := by decide +kernel
theorem qw_272 : lw_tbl[272]? = some (Cond.fieldLink "FlyTreasury$Script" 28 "FlyTreasury$Script" "orderCount" "I") := by decide +kernel
theorem qw_273 : lw_tbl[273]? = some (Cond.fieldLinkNest "FlyTreasury" 323 "FlyTreasury$Script" "orderCount" "I" "FlyTreasury") := by decide +kernel
theorem qw_294 : lw_tbl[294]? = some (Cond.fieldLink "java/lang/AbstractStringBuilder" 18 "java/lang/String" "COMPACT_STRINGS" "Z") := by decide +kernel
theorem qw_303 : lw_tbl[303]? = some (Cond.fieldLink "java/lang/AbstractStringBuilder" 15 "java/lang/AbstractStringBuilder" "value" "[B") := by decide +kernel
theorem qw_304 : lw_tbl[304]? = some (Cond.fieldLink "java/lang/AbstractStringBuilder" 22 "java/lang/AbstractStringBuilder" "coder" "B") := by decide +kernel
theorem qw_305 : lw_tbl[305]? = some (Cond.fieldLink "java/lang/AbstractStringBuilder" 73 "java/lang/AbstractStringBuilder" "maybeLatin1" "Z") := by decide +kernel
theorem qw_307 : lw_tbl[307]? = some (Cond.fieldLink "java/lang/AbstractStringBuilder" 79 "java/lang/AbstractStringBuilder" "count" "I") := by decide +kernel
theorem qw_316 : lw_tbl[316]? = some (Cond.superclass "java/lang/StringBuilder" "java/lang/AbstractStringBuilder") := by decide +kernel
theorem qw_317 : lw_tbl[317]? = some (Cond.arrayClass FieldType.byte) := by decide +kernel
theorem qw_318 : lw_tbl[318]? = some (Cond.fieldLink "FlyTreasury" 12 "FlyTreasury" "ledger" "LFlyTreasury$Ledger;") := by decide +kernel
theorem qw_319 : lw_tbl[319]? = some (Cond.fieldLink "FlyTreasury" 16 "FlyTreasury" "snapshot" "LFlyTreasury$Ledger;") := by decide +kernel
theorem qw_320 : lw_tbl[320]? = some (Cond.fieldLink "FlyTreasury" 19 "FlyTreasury" "beforeScript" "LFlyTreasury$Ledger;") := by decide +kernel
theorem qw_321 : lw_tbl[321]? = some (Cond.fieldLink "FlyTreasury" 25 "FlyTreasury" "history" "LFlyTreasury$History;") := by decide +kernel
theorem qw_322 : lw_tbl[322]? = some (Cond.fieldLink "FlyTreasury" 32 "FlyTreasury" "script" "LFlyTreasury$Script;") := by decide +kernel
theorem qw_323 : lw_tbl[323]? = some (Cond.fieldLink "FlyTreasury" 39 "FlyTreasury" "output" "Ljava/lang/StringBuilder;") := by decide +kernel
theorem qw_324 : lw_tbl[324]? = some (Cond.fieldLink "FlyTreasury" 43 "FlyTreasury" "hasSnapshot" "Z") := by decide +kernel
theorem qw_325 : lw_tbl[325]? = some (Cond.fieldLink "FlyTreasury" 47 "FlyTreasury" "latestErrorPosition" "I") := by decide +kernel
theorem qw_326 : lw_tbl[326]? = some (Cond.fieldLink "FlyTreasury" 51 "FlyTreasury" "latestFailedCommand" "I") := by decide +kernel
theorem qw_354 : lw_tbl[354]? = some (Cond.methodLink "FlyTreasury" 212 yX3_valueByVaults) := by decide +kernel
theorem qw_355 : lw_tbl[355]? = some (Cond.instanceMethod yX3_valueByVaults) := by decide +kernel
theorem qw_356 : lw_tbl[356]? = some (Cond.selects "FlyTreasury$Ledger" yX3_valueByVaults yX3_valueByVaults) := by decide +kernel
theorem qw_357 : lw_tbl[357]? = some (Cond.code yX3_valueByVaults cX3_valueByVaults 3 (some FieldType.int)) := by decide +kernel
theorem qw_358 : lw_tbl[358]? = some (Cond.methodLink "FlyTreasury$Ledger" 101 yX7_legsAt) := by decide +kernel
theorem qw_359 : lw_tbl[359]? = some (Cond.instanceMethod yX7_legsAt) := by decide +kernel
theorem qw_360 : lw_tbl[360]? = some (Cond.selects "FlyTreasury$Vault" yX7_legsAt yX7_legsAt) := by decide +kernel
theorem qw_361 : lw_tbl[361]? = some (Cond.code yX7_legsAt cX7_legsAt 4 (some FieldType.int)) := by decide +kernel
theorem qw_366 : lw_tbl[366]? = some (Cond.methodLink "FlyTreasury" 216 yX3_valueByKinds) := by decide +kernel
theorem qw_367 : lw_tbl[367]? = some (Cond.instanceMethod yX3_valueByKinds) := by decide +kernel
theorem qw_368 : lw_tbl[368]? = some (Cond.selects "FlyTreasury$Ledger" yX3_valueByKinds yX3_valueByKinds) := by decide +kernel
theorem qw_369 : lw_tbl[369]? = some (Cond.code yX3_valueByKinds cX3_valueByKinds 3 (some FieldType.int)) := by decide +kernel
theorem qw_370 : lw_tbl[370]? = some (Cond.methodLink "FlyTreasury$Ledger" 144 yX3_valueOfKind) := by decide +kernel
theorem qw_372 : lw_tbl[372]? = some (Cond.instanceMethod yX3_valueOfKind) := by decide +kernel
theorem qw_373 : lw_tbl[373]? = some (Cond.code yX3_valueOfKind cX3_valueOfKind 2 (some FieldType.int)) := by decide +kernel
theorem qw_374 : lw_tbl[374]? = some (Cond.methodLink "FlyTreasury$Ledger" 147 yX3_fliesByVaults) := by decide +kernel
theorem qw_375 : lw_tbl[375]? = some (Cond.instanceMethod yX3_fliesByVaults) := by decide +kernel
theorem qw_376 : lw_tbl[376]? = some (Cond.selects "FlyTreasury$Ledger" yX3_fliesByVaults yX3_fliesByVaults) := by decide +kernel
theorem qw_377 : lw_tbl[377]? = some (Cond.code yX3_fliesByVaults cX3_fliesByVaults 4 (some FieldType.int)) := by decide +kernel
theorem qw_406 : lw_tbl[406]? = some (Cond.methodLink "FlyTreasury" 260 yX3_fliesAgree) := by decide +kernel
theorem qw_407 : lw_tbl[407]? = some (Cond.instanceMethod yX3_fliesAgree) := by decide +kernel
theorem qw_408 : lw_tbl[408]? = some (Cond.selects "FlyTreasury$Ledger" yX3_fliesAgree yX3_fliesAgree) := by decide +kernel
theorem qw_409 : lw_tbl[409]? = some (Cond.code yX3_fliesAgree cX3_fliesAgree 2 (some FieldType.boolean)) := by decide +kernel
theorem qw_410 : lw_tbl[410]? = some (Cond.methodLink "FlyTreasury$Ledger" 157 yX3_fliesByAccounts) := by decide +kernel
theorem qw_411 : lw_tbl[411]? = some (Cond.instanceMethod yX3_fliesByAccounts) := by decide +kernel
theorem qw_412 : lw_tbl[412]? = some (Cond.selects "FlyTreasury$Ledger" yX3_fliesByAccounts yX3_fliesByAccounts) := by decide +kernel
theorem qw_413 : lw_tbl[413]? = some (Cond.code yX3_fliesByAccounts cX3_fliesByAccounts 2 (some FieldType.int)) := by decide +kernel
theorem qw_414 : lw_tbl[414]? = some (Cond.methodLink "FlyTreasury" 263 yX3_valuesAgree) := by decide +kernel
theorem qw_415 : lw_tbl[415]? = some (Cond.instanceMethod yX3_valuesAgree) := by decide +kernel
theorem qw_416 : lw_tbl[416]? = some (Cond.selects "FlyTreasury$Ledger" yX3_valuesAgree yX3_valuesAgree) := by decide +kernel
theorem qw_417 : lw_tbl[417]? = some (Cond.code yX3_valuesAgree cX3_valuesAgree 1 (some FieldType.boolean)) := by decide +kernel
theorem qw_418 : lw_tbl[418]? = some (Cond.methodLink "FlyTreasury$Ledger" 160 yX3_valueByVaults) := by decide +kernel
theorem qw_419 : lw_tbl[419]? = some (Cond.methodLink "FlyTreasury$Ledger" 163 yX3_valueByKinds) := by decide +kernel
theorem qw_420 : lw_tbl[420]? = some (Cond.methodLink "FlyTreasury" 266 yX3_predictionsAgree) := by decide +kernel
theorem qw_421 : lw_tbl[421]? = some (Cond.instanceMethod yX3_predictionsAgree) := by decide +kernel
theorem qw_422 : lw_tbl[422]? = some (Cond.selects "FlyTreasury$Ledger" yX3_predictionsAgree yX3_predictionsAgree) := by decide +kernel
theorem qw_423 : lw_tbl[423]? = some (Cond.code yX3_predictionsAgree cX3_predictionsAgree 2 (some FieldType.boolean)) := by decide +kernel
theorem qw_424 : lw_tbl[424]? = some (Cond.methodLink "FlyTreasury$Ledger" 166 yX7_daysBySubtraction) := by decide +kernel
theorem qw_425 : lw_tbl[425]? = some (Cond.instanceMethod yX7_daysBySubtraction) := by decide +kernel
theorem qw_426 : lw_tbl[426]? = some (Cond.selects "FlyTreasury$Vault" yX7_daysBySubtraction yX7_daysBySubtraction) := by decide +kernel
theorem qw_427 : lw_tbl[427]? = some (Cond.code yX7_daysBySubtraction cX7_daysBySubtraction 2 (some FieldType.int)) := by decide +kernel
theorem qw_428 : lw_tbl[428]? = some (Cond.methodLink "FlyTreasury$Vault" 41 yX7_legsAt) := by decide +kernel
theorem qw_429 : lw_tbl[429]? = some (Cond.methodLink "FlyTreasury$Vault" 45 yX7_backingOf) := by decide +kernel
theorem qw_430 : lw_tbl[430]? = some (Cond.instanceMethod yX7_backingOf) := by decide +kernel
theorem qw_431 : lw_tbl[431]? = some (Cond.selects "FlyTreasury$Vault" yX7_backingOf yX7_backingOf) := by decide +kernel
theorem qw_432 : lw_tbl[432]? = some (Cond.code yX7_backingOf cX7_backingOf 2 (some FieldType.int)) := by decide +kernel
theorem qw_433 : lw_tbl[433]? = some (Cond.methodLink "FlyTreasury$Vault" 37 yX7_reserveOf) := by decide +kernel
theorem qw_434 : lw_tbl[434]? = some (Cond.instanceMethod yX7_reserveOf) := by decide +kernel
theorem qw_435 : lw_tbl[435]? = some (Cond.selects "FlyTreasury$Vault" yX7_reserveOf yX7_reserveOf) := by decide +kernel
theorem qw_436 : lw_tbl[436]? = some (Cond.code yX7_reserveOf cX7_reserveOf 2 (some FieldType.int)) := by decide +kernel
theorem qw_437 : lw_tbl[437]? = some (Cond.methodLink "FlyTreasury$Vault" 48 yJ9_max_7cf53) := by decide +kernel
theorem qw_438 : lw_tbl[438]? = some (Cond.static yJ9_max_7cf53) := by decide +kernel
theorem qw_439 : lw_tbl[439]? = some (Cond.code yJ9_max_7cf53 cJ9_max_7cf53 2 (some FieldType.int)) := by decide +kernel
theorem qw_440 : lw_tbl[440]? = some (Cond.methodLink "FlyTreasury$Ledger" 169 yX7_daysByCounting) := by decide +kernel
theorem qw_441 : lw_tbl[441]? = some (Cond.instanceMethod yX7_daysByCounting) := by decide +kernel
theorem qw_442 : lw_tbl[442]? = some (Cond.selects "FlyTreasury$Vault" yX7_daysByCounting yX7_daysByCounting) := by decide +kernel
theorem qw_443 : lw_tbl[443]? = some (Cond.code yX7_daysByCounting cX7_daysByCounting 5 (some FieldType.int)) := by decide +kernel
theorem qw_444 : lw_tbl[444]? = some (Cond.methodLink "FlyTreasury" 269 yX3_dewAgrees) := by decide +kernel
theorem qw_445 : lw_tbl[445]? = some (Cond.instanceMethod yX3_dewAgrees) := by decide +kernel
theorem qw_446 : lw_tbl[446]? = some (Cond.selects "FlyTreasury$Ledger" yX3_dewAgrees yX3_dewAgrees) := by decide +kernel
theorem qw_447 : lw_tbl[447]? = some (Cond.code yX3_dewAgrees cX3_dewAgrees 3 (some FieldType.boolean)) := by decide +kernel
theorem qw_452 : lw_tbl[452]? = some (Cond.methodLink "FlyTreasury" 272 yJ4_setLength_d00df) := by decide +kernel
theorem qw_453 : lw_tbl[453]? = some (Cond.instanceMethod yJ4_setLength_d00df) := by decide +kernel
theorem qw_454 : lw_tbl[454]? = some (Cond.selects "java/lang/StringBuilder" yJ4_setLength_d00df yJ4_setLength_d00df) := by decide +kernel
theorem qw_455 : lw_tbl[455]? = some (Cond.code yJ4_setLength_d00df cJ4_setLength_d00df 2 none) := by decide +kernel
theorem qw_456 : lw_tbl[456]? = some (Cond.methodLink "java/lang/StringBuilder" 333 yJ5_setLength_d00df) := by decide +kernel
theorem qw_457 : lw_tbl[457]? = some (Cond.instanceMethod yJ5_setLength_d00df) := by decide +kernel
theorem qw_458 : lw_tbl[458]? = some (Cond.code yJ5_setLength_d00df cJ5_setLength_d00df 2 none) := by decide +kernel
theorem qw_478 : lw_tbl[478]? = some (Cond.methodLink "java/lang/AbstractStringBuilder" 100 yJ5_ensureCapacityInternal_d00df) := by decide +kernel
theorem qw_479 : lw_tbl[479]? = some (Cond.privateMethod yJ5_ensureCapacityInternal_d00df) := by decide +kernel
theorem qw_480 : lw_tbl[480]? = some (Cond.instanceMethod yJ5_ensureCapacityInternal_d00df) := by decide +kernel
theorem qw_481 : lw_tbl[481]? = some (Cond.code yJ5_ensureCapacityInternal_d00df cJ5_ensureCapacityInternal_d00df 3 none) := by decide +kernel
theorem qw_482 : lw_tbl[482]? = some (Cond.methodLink "java/lang/AbstractStringBuilder" 104 yJ5_newCapacity_0f7a4) := by decide +kernel
theorem qw_483 : lw_tbl[483]? = some (Cond.privateMethod yJ5_newCapacity_0f7a4) := by decide +kernel
theorem qw_484 : lw_tbl[484]? = some (Cond.instanceMethod yJ5_newCapacity_0f7a4) := by decide +kernel
theorem qw_485 : lw_tbl[485]? = some (Cond.code yJ5_newCapacity_0f7a4 cJ5_newCapacity_0f7a4 6 (some FieldType.int)) := by decide +kernel
theorem qw_486 : lw_tbl[486]? = some (Cond.methodLink "java/lang/AbstractStringBuilder" 114 yJ8_newLength_cabcc) := by decide +kernel
theorem qw_487 : lw_tbl[487]? = some (Cond.static yJ8_newLength_cabcc) := by decide +kernel
theorem qw_488 : lw_tbl[488]? = some (Cond.code yJ8_newLength_cabcc cJ8_newLength_cabcc 4 (some FieldType.int)) := by decide +kernel
theorem qw_489 : lw_tbl[489]? = some (Cond.methodLink "jdk/internal/util/ArraysSupport" 194 yJ9_max_7cf53) := by decide +kernel
theorem qw_490 : lw_tbl[490]? = some (Cond.constant "jdk/internal/util/ArraysSupport" 200 (2147483639 : Int32)) := by decide +kernel
theorem qw_494 : lw_tbl[494]? = some (Cond.constant "java/lang/AbstractStringBuilder" 39 (2147483647 : Int32)) := by decide +kernel
theorem qw_495 : lw_tbl[495]? = some (Cond.methodLink "java/lang/AbstractStringBuilder" 108 yJ7_copyOf_9075b) := by decide +kernel
theorem qw_496 : lw_tbl[496]? = some (Cond.static yJ7_copyOf_9075b) := by decide +kernel
theorem qw_497 : lw_tbl[497]? = some (Cond.code yJ7_copyOf_9075b cJ7_copyOf_9075b 3 (some (FieldType.array FieldType.byte))) := by decide +kernel
theorem qw_505 : lw_tbl[505]? = some (Cond.methodLink "java/util/Arrays" 304 yJ9_min_7cf53) := by decide +kernel
theorem qw_506 : lw_tbl[506]? = some (Cond.static yJ9_min_7cf53) := by decide +kernel
theorem qw_507 : lw_tbl[507]? = some (Cond.code yJ9_min_7cf53 cJ9_min_7cf53 2 (some FieldType.int)) := by decide +kernel
theorem qw_508 : lw_tbl[508]? = some (Cond.methodLink "java/util/Arrays" 150 arraycopyName) := by decide +kernel
theorem qw_509 : lw_tbl[509]? = some (Cond.static arraycopyName) := by decide +kernel
theorem qw_510 : lw_tbl[510]? = some (Cond.native arraycopyName) := by decide +kernel
theorem qw_511 : lw_tbl[511]? = some (Cond.methodLink "java/lang/AbstractStringBuilder" 83 yJ5_isLatin1_aae02) := by decide +kernel
theorem qw_512 : lw_tbl[512]? = some (Cond.instanceMethod yJ5_isLatin1_aae02) := by decide +kernel
theorem qw_513 : lw_tbl[513]? = some (Cond.sameMethod "java/lang/AbstractStringBuilder" "java/lang/AbstractStringBuilder" "isLatin1" "()Z") := by decide +kernel
theorem qw_514 : lw_tbl[514]? = some (Cond.selects "java/lang/StringBuilder" yJ5_isLatin1_aae02 yJ5_isLatin1_aae02) := by decide +kernel
theorem qw_515 : lw_tbl[515]? = some (Cond.code yJ5_isLatin1_aae02 cJ5_isLatin1_aae02 1 (some FieldType.boolean)) := by decide +kernel
theorem qw_528 : lw_tbl[528]? = some (Cond.fieldLink "java/lang/String" 1053 "jdk/internal/util/Preconditions" "SIOOBE_FORMATTER" "Ljava/util/function/BiFunction;") := by decide +kernel
theorem qw_543 : lw_tbl[543]? = some (Cond.instanceMethod yJ0_length_8abf5) := by decide +kernel
theorem qw_544 : lw_tbl[544]? = some (Cond.selects "java/lang/String" yJ0_length_8abf5 yJ0_length_8abf5) := by decide +kernel
theorem qw_545 : lw_tbl[545]? = some (Cond.code yJ0_length_8abf5 cJ0_length_8abf5 1 (some FieldType.int)) := by decide +kernel
theorem qw_546 : lw_tbl[546]? = some (Cond.methodLink "java/lang/String" 335 yJ0_coder_7d493) := by decide +kernel
theorem qw_547 : lw_tbl[547]? = some (Cond.instanceMethod yJ0_coder_7d493) := by decide +kernel
theorem qw_548 : lw_tbl[548]? = some (Cond.selects "java/lang/String" yJ0_coder_7d493 yJ0_coder_7d493) := by decide +kernel
theorem qw_549 : lw_tbl[549]? = some (Cond.code yJ0_coder_7d493 cJ0_coder_7d493 1 (some FieldType.byte)) := by decide +kernel
theorem qw_550 : lw_tbl[550]? = some (Cond.fieldLink "java/lang/String" 38 "java/lang/String" "COMPACT_STRINGS" "Z") := by decide +kernel
theorem qw_586 : lw_tbl[586]? = some (Cond.instanceMethod yJ4_append_bf812) := by decide +kernel
theorem qw_587 : lw_tbl[587]? = some (Cond.selects "java/lang/StringBuilder" yJ4_append_bf812 yJ4_append_bf812) := by decide +kernel
theorem qw_588 : lw_tbl[588]? = some (Cond.code yJ4_append_bf812 cJ4_append_bf812 2 (some (FieldType.object "java/lang/StringBuilder"))) := by decide +kernel
theorem qw_589 : lw_tbl[589]? = some (Cond.methodLink "java/lang/StringBuilder" 53 yJ5_append_c97b9) := by decide +kernel
theorem qw_590 : lw_tbl[590]? = some (Cond.instanceMethod yJ5_append_c97b9) := by decide +kernel
theorem qw_591 : lw_tbl[591]? = some (Cond.code yJ5_append_c97b9 cJ5_append_c97b9 4 (some (FieldType.object "java/lang/AbstractStringBuilder"))) := by decide +kernel
theorem qw_592 : lw_tbl[592]? = some (Cond.methodLink "java/lang/AbstractStringBuilder" 245 yJ6_stringSize_0f7a4) := by decide +kernel
theorem qw_593 : lw_tbl[593]? = some (Cond.static yJ6_stringSize_0f7a4) := by decide +kernel
theorem qw_594 : lw_tbl[594]? = some (Cond.code yJ6_stringSize_0f7a4 cJ6_stringSize_0f7a4 4 (some FieldType.int)) := by decide +kernel
theorem qw_595 : lw_tbl[595]? = some (Cond.methodLink "java/lang/AbstractStringBuilder" 248 yJ6_getChars_ba4f3) := by decide +kernel
theorem qw_596 : lw_tbl[596]? = some (Cond.static yJ6_getChars_ba4f3) := by decide +kernel
theorem qw_597 : lw_tbl[597]? = some (Cond.code yJ6_getChars_ba4f3 cJ6_getChars_ba4f3 7 (some FieldType.int)) := by decide +kernel
theorem qw_598 : lw_tbl[598]? = some (Cond.fieldLink "java/lang/Integer" 83 "java/lang/Integer" "DigitOnes" "[B") := by decide +kernel
theorem qw_600 : lw_tbl[600]? = some (Cond.fieldLink "java/lang/Integer" 87 "java/lang/Integer" "DigitTens" "[B") := by decide +kernel
theorem qw_629 : lw_tbl[629]? = some (Cond.instanceMethod yJ5_length_8abf5) := by decide +kernel
theorem qw_630 : lw_tbl[630]? = some (Cond.sameMethod "java/lang/AbstractStringBuilder" "java/lang/AbstractStringBuilder" "length" "()I") := by decide +kernel
theorem qw_632 : lw_tbl[632]? = some (Cond.instanceMethod yJ4_length_8abf5) := by decide +kernel
theorem qw_633 : lw_tbl[633]? = some (Cond.code yJ4_length_8abf5 cJ4_length_8abf5 1 (some FieldType.int)) := by decide +kernel
theorem qw_634 : lw_tbl[634]? = some (Cond.methodLink "java/lang/StringBuilder" 343 yJ5_length_8abf5) := by decide +kernel
theorem qw_635 : lw_tbl[635]? = some (Cond.code yJ5_length_8abf5 cJ5_length_8abf5 1 (some FieldType.int)) := by decide +kernel
theorem qw_736 : lw_tbl[736]? = some (Cond.fieldLink "java/lang/String" 9 "java/lang/String" "value" "[B") := by decide +kernel
theorem qw_737 : lw_tbl[737]? = some (Cond.fieldLink "java/lang/String" 15 "java/lang/String" "coder" "B") := by decide +kernel
theorem qw_797 : lw_tbl[797]? = some (Cond.methodLink "FlyTreasury" 276 yJ4_append_cf468) := by decide +kernel
theorem qw_798 : lw_tbl[798]? = some (Cond.instanceMethod yJ4_append_cf468) := by decide +kernel
theorem qw_799 : lw_tbl[799]? = some (Cond.selects "java/lang/StringBuilder" yJ4_append_cf468 yJ4_append_cf468) := by decide +kernel
theorem qw_800 : lw_tbl[800]? = some (Cond.code yJ4_append_cf468 cJ4_append_cf468 2 (some (FieldType.object "java/lang/StringBuilder"))) := by decide +kernel
theorem qw_801 : lw_tbl[801]? = some (Cond.methodLink "java/lang/StringBuilder" 50 yJ5_append_3fe6f) := by decide +kernel
theorem qw_802 : lw_tbl[802]? = some (Cond.instanceMethod yJ5_append_3fe6f) := by decide +kernel
theorem qw_803 : lw_tbl[803]? = some (Cond.code yJ5_append_3fe6f cJ5_append_3fe6f 2 (some (FieldType.object "java/lang/AbstractStringBuilder"))) := by decide +kernel
theorem qw_804 : lw_tbl[804]? = some (Cond.methodLink "java/lang/AbstractStringBuilder" 191 yJ1_canEncode_fc78d) := by decide +kernel
theorem qw_805 : lw_tbl[805]? = some (Cond.static yJ1_canEncode_fc78d) := by decide +kernel
theorem qw_806 : lw_tbl[806]? = some (Cond.code yJ1_canEncode_fc78d cJ1_canEncode_fc78d 1 (some FieldType.boolean)) := by decide +kernel
theorem qw_814 : lw_tbl[814]? = some (Cond.static yJ0_checkIndex_df160) := by decide +kernel
theorem qw_815 : lw_tbl[815]? = some (Cond.code yJ0_checkIndex_df160 cJ0_checkIndex_df160 2 none) := by decide +kernel
theorem qw_816 : lw_tbl[816]? = some (Cond.methodLink "java/lang/String" 1059 yJ3_checkIndex_8e157) := by decide +kernel
theorem qw_817 : lw_tbl[817]? = some (Cond.static yJ3_checkIndex_8e157) := by decide +kernel
theorem qw_818 : lw_tbl[818]? = some (Cond.code yJ3_checkIndex_8e157 cJ3_checkIndex_8e157 3 (some FieldType.int)) := by decide +kernel
theorem qw_820 : lw_tbl[820]? = some (Cond.methodLink "FlyTreasury" 229 yJ0_charAt_5068e) := by decide +kernel
theorem qw_821 : lw_tbl[821]? = some (Cond.instanceMethod yJ0_charAt_5068e) := by decide +kernel
theorem qw_822 : lw_tbl[822]? = some (Cond.selects "java/lang/String" yJ0_charAt_5068e yJ0_charAt_5068e) := by decide +kernel
theorem qw_823 : lw_tbl[823]? = some (Cond.code yJ0_charAt_5068e cJ0_charAt_5068e 2 (some FieldType.char)) := by decide +kernel
theorem qw_824 : lw_tbl[824]? = some (Cond.methodLink "java/lang/String" 492 yJ0_isLatin1_aae02) := by decide +kernel
theorem qw_825 : lw_tbl[825]? = some (Cond.instanceMethod yJ0_isLatin1_aae02) := by decide +kernel
theorem qw_826 : lw_tbl[826]? = some (Cond.selects "java/lang/String" yJ0_isLatin1_aae02 yJ0_isLatin1_aae02) := by decide +kernel
theorem qw_827 : lw_tbl[827]? = some (Cond.code yJ0_isLatin1_aae02 cJ0_isLatin1_aae02 1 (some FieldType.boolean)) := by decide +kernel
theorem qw_828 : lw_tbl[828]? = some (Cond.methodLink "java/lang/String" 495 yJ1_charAt_3b067) := by decide +kernel
theorem qw_829 : lw_tbl[829]? = some (Cond.static yJ1_charAt_3b067) := by decide +kernel
theorem qw_830 : lw_tbl[830]? = some (Cond.code yJ1_charAt_3b067 cJ1_charAt_3b067 2 (some FieldType.char)) := by decide +kernel
theorem qw_831 : lw_tbl[831]? = some (Cond.methodLink "java/lang/StringLatin1" 9 yJ0_checkIndex_df160) := by decide +kernel
theorem qw_835 : lw_tbl[835]? = some (Cond.methodLink "FlyTreasury" 280 yJ4_append_bf812) := by decide +kernel
theorem qw_836 : lw_tbl[836]? = some (Cond.methodLink "FlyTreasury" 283 yJ4_length_8abf5) := by decide +kernel
theorem qw_841 : lw_tbl[841]? = some (Cond.methodLink "FlyTreasury" 315 yX3_copyFrom) := by decide +kernel
theorem qw_842 : lw_tbl[842]? = some (Cond.instanceMethod yX3_copyFrom) := by decide +kernel
theorem qw_843 : lw_tbl[843]? = some (Cond.selects "FlyTreasury$Ledger" yX3_copyFrom yX3_copyFrom) := by decide +kernel
theorem qw_844 : lw_tbl[844]? = some (Cond.code yX3_copyFrom cX3_copyFrom 3 none) := by decide +kernel
theorem qw_845 : lw_tbl[845]? = some (Cond.methodLink "FlyTreasury$Ledger" 50 yX7_copyFrom) := by decide +kernel
theorem qw_846 : lw_tbl[846]? = some (Cond.instanceMethod yX7_copyFrom) := by decide +kernel
theorem qw_847 : lw_tbl[847]? = some (Cond.selects "FlyTreasury$Vault" yX7_copyFrom yX7_copyFrom) := by decide +kernel
theorem qw_848 : lw_tbl[848]? = some (Cond.code yX7_copyFrom cX7_copyFrom 2 none) := by decide +kernel
theorem qw_849 : lw_tbl[849]? = some (Cond.methodLink "FlyTreasury$Vault" 31 arraycopyName) := by decide +kernel
theorem qw_850 : lw_tbl[850]? = some (Cond.methodLink "FlyTreasury$Ledger" 54 arraycopyName) := by decide +kernel
theorem qw_860 : lw_tbl[860]? = some (Cond.methodLink "FlyTreasury" 54 yX3_refusalToOpen) := by decide +kernel
theorem qw_861 : lw_tbl[861]? = some (Cond.instanceMethod yX3_refusalToOpen) := by decide +kernel
theorem qw_862 : lw_tbl[862]? = some (Cond.selects "FlyTreasury$Ledger" yX3_refusalToOpen yX3_refusalToOpen) := by decide +kernel
theorem qw_863 : lw_tbl[863]? = some (Cond.code yX3_refusalToOpen cX3_refusalToOpen 2 (some (FieldType.object "FlyTreasury$Refusal"))) := by decide +kernel
theorem qw_864 : lw_tbl[864]? = some (Cond.methodLink "FlyTreasury$Ledger" 60 yX3_within) := by decide +kernel
theorem qw_865 : lw_tbl[865]? = some (Cond.static yX3_within) := by decide +kernel
theorem qw_866 : lw_tbl[866]? = some (Cond.code yX3_within cX3_within 3 (some FieldType.boolean)) := by decide +kernel
theorem qw_867 : lw_tbl[867]? = some (Cond.fieldLink "FlyTreasury$Ledger" 64 "FlyTreasury$Refusal" "BAD_ARGUMENT" "LFlyTreasury$Refusal;") := by decide +kernel
theorem qw_869 : lw_tbl[869]? = some (Cond.fieldLink "FlyTreasury$Ledger" 70 "FlyTreasury$Refusal" "BAD_STATE" "LFlyTreasury$Refusal;") := by decide +kernel
theorem qw_871 : lw_tbl[871]? = some (Cond.fieldLink "FlyTreasury$Ledger" 73 "FlyTreasury$Refusal" "NONE" "LFlyTreasury$Refusal;") := by decide +kernel
theorem qw_873 : lw_tbl[873]? = some (Cond.methodLink "FlyTreasury" 58 yX8_demand) := by decide +kernel
theorem qw_874 : lw_tbl[874]? = some (Cond.static yX8_demand) := by decide +kernel
theorem qw_875 : lw_tbl[875]? = some (Cond.code yX8_demand cX8_demand 1 none) := by decide +kernel
theorem qw_876 : lw_tbl[876]? = some (Cond.fieldLink "FlyTreasury" 354 "FlyTreasury$1" "$SwitchMap$FlyTreasury$Refusal" "[I") := by decide +kernel
theorem qw_878 : lw_tbl[878]? = some (Cond.methodLink "FlyTreasury" 359 ⟨"FlyTreasury$Refusal", "ordinal", "()I"⟩) := by decide +kernel
theorem qw_879 : lw_tbl[879]? = some (Cond.sameMethod "FlyTreasury$Refusal" "java/lang/Enum" "ordinal" "()I") := by decide +kernel
theorem qw_881 : lw_tbl[881]? = some (Cond.selects "FlyTreasury$Refusal" ⟨"FlyTreasury$Refusal", "ordinal", "()I"⟩ yJx29ce0_ordinal_8abf5) := by decide +kernel
theorem qw_882 : lw_tbl[882]? = some (Cond.instanceMethod yJx29ce0_ordinal_8abf5) := by decide +kernel
theorem qw_883 : lw_tbl[883]? = some (Cond.code yJx29ce0_ordinal_8abf5 cJx29ce0_ordinal_8abf5 1 (some FieldType.int)) := by decide +kernel
theorem qw_884 : lw_tbl[884]? = some (Cond.classLink "FlyTreasury" 286 "java/lang/IndexOutOfBoundsException") := by decide +kernel
theorem qw_897 : lw_tbl[897]? = some (Cond.classLink "FlyTreasury" 292 "java/lang/IllegalArgumentException") := by decide +kernel
theorem qw_900 : lw_tbl[900]? = some (Cond.classLink "FlyTreasury" 299 "java/lang/IllegalStateException") := by decide +kernel
theorem qw_916 : lw_tbl[916]? = some (Cond.classLink "FlyTreasury" 368 "java/lang/UnsupportedOperationException") := by decide +kernel
theorem qw_932 : lw_tbl[932]? = some (Cond.methodLink "FlyTreasury" 62 yX2_remember) := by decide +kernel
theorem qw_933 : lw_tbl[933]? = some (Cond.instanceMethod yX2_remember) := by decide +kernel
theorem qw_934 : lw_tbl[934]? = some (Cond.selects "FlyTreasury$History" yX2_remember yX2_remember) := by decide +kernel
theorem qw_935 : lw_tbl[935]? = some (Cond.code yX2_remember cX2_remember 2 none) := by decide +kernel
theorem qw_936 : lw_tbl[936]? = some (Cond.methodLink "FlyTreasury$History" 25 yX3_copyFrom) := by decide +kernel
theorem qw_937 : lw_tbl[937]? = some (Cond.methodLink "FlyTreasury$History" 29 yJ9_min_7cf53) := by decide +kernel
theorem qw_938 : lw_tbl[938]? = some (Cond.methodLink "FlyTreasury" 66 yX3_open) := by decide +kernel
theorem qw_939 : lw_tbl[939]? = some (Cond.instanceMethod yX3_open) := by decide +kernel
theorem qw_940 : lw_tbl[940]? = some (Cond.selects "FlyTreasury$Ledger" yX3_open yX3_open) := by decide +kernel
theorem qw_941 : lw_tbl[941]? = some (Cond.code yX3_open cX3_open 3 (some FieldType.int)) := by decide +kernel
theorem qw_952 : lw_tbl[952]? = some (Cond.methodLink "FlyTreasury" 70 yX3_refusalToPut) := by decide +kernel
theorem qw_953 : lw_tbl[953]? = some (Cond.instanceMethod yX3_refusalToPut) := by decide +kernel
theorem qw_954 : lw_tbl[954]? = some (Cond.selects "FlyTreasury$Ledger" yX3_refusalToPut yX3_refusalToPut) := by decide +kernel
theorem qw_955 : lw_tbl[955]? = some (Cond.code yX3_refusalToPut cX3_refusalToPut 5 (some (FieldType.object "FlyTreasury$Refusal"))) := by decide +kernel
theorem qw_956 : lw_tbl[956]? = some (Cond.methodLink "FlyTreasury$Ledger" 79 yX3_hasVault) := by decide +kernel
theorem qw_957 : lw_tbl[957]? = some (Cond.instanceMethod yX3_hasVault) := by decide +kernel
theorem qw_958 : lw_tbl[958]? = some (Cond.selects "FlyTreasury$Ledger" yX3_hasVault yX3_hasVault) := by decide +kernel
theorem qw_959 : lw_tbl[959]? = some (Cond.code yX3_hasVault cX3_hasVault 2 (some FieldType.boolean)) := by decide +kernel
theorem qw_960 : lw_tbl[960]? = some (Cond.fieldLink "FlyTreasury$Ledger" 83 "FlyTreasury$Refusal" "NO_SUCH_VAULT" "LFlyTreasury$Refusal;") := by decide +kernel
theorem qw_963 : lw_tbl[963]? = some (Cond.methodLink "FlyTreasury$Ledger" 88 yJ0_indexOf_0f7a4) := by decide +kernel
theorem qw_964 : lw_tbl[964]? = some (Cond.instanceMethod yJ0_indexOf_0f7a4) := by decide +kernel
theorem qw_965 : lw_tbl[965]? = some (Cond.selects "java/lang/String" yJ0_indexOf_0f7a4 yJ0_indexOf_0f7a4) := by decide +kernel
theorem qw_966 : lw_tbl[966]? = some (Cond.code yJ0_indexOf_0f7a4 cJ0_indexOf_0f7a4 2 (some FieldType.int)) := by decide +kernel
theorem qw_967 : lw_tbl[967]? = some (Cond.methodLink "java/lang/String" 633 yJ0_indexOf_7cf53) := by decide +kernel
theorem qw_968 : lw_tbl[968]? = some (Cond.instanceMethod yJ0_indexOf_7cf53) := by decide +kernel
theorem qw_969 : lw_tbl[969]? = some (Cond.selects "java/lang/String" yJ0_indexOf_7cf53 yJ0_indexOf_7cf53) := by decide +kernel
theorem qw_970 : lw_tbl[970]? = some (Cond.code yJ0_indexOf_7cf53 cJ0_indexOf_7cf53 3 (some FieldType.int)) := by decide +kernel
theorem qw_971 : lw_tbl[971]? = some (Cond.methodLink "java/lang/String" 505 yJ0_length_8abf5) := by decide +kernel
theorem qw_972 : lw_tbl[972]? = some (Cond.methodLink "java/lang/String" 637 yJ1_indexOf_4cfef) := by decide +kernel
theorem qw_973 : lw_tbl[973]? = some (Cond.static yJ1_indexOf_4cfef) := by decide +kernel
theorem qw_974 : lw_tbl[974]? = some (Cond.code yJ1_indexOf_4cfef cJ1_indexOf_4cfef 4 (some FieldType.int)) := by decide +kernel
theorem qw_975 : lw_tbl[975]? = some (Cond.methodLink "java/lang/StringLatin1" 88 yJ1_canEncode_9a6ad) := by decide +kernel
theorem qw_976 : lw_tbl[976]? = some (Cond.static yJ1_canEncode_9a6ad) := by decide +kernel
theorem qw_977 : lw_tbl[977]? = some (Cond.code yJ1_canEncode_9a6ad cJ1_canEncode_9a6ad 1 (some FieldType.boolean)) := by decide +kernel
theorem qw_978 : lw_tbl[978]? = some (Cond.methodLink "java/lang/StringLatin1" 92 yJ9_max_7cf53) := by decide +kernel
theorem qw_979 : lw_tbl[979]? = some (Cond.methodLink "java/lang/StringLatin1" 38 yJ9_min_7cf53) := by decide +kernel
theorem qw_980 : lw_tbl[980]? = some (Cond.methodLink "java/lang/StringLatin1" 95 yJ1_indexOfChar_4cfef) := by decide +kernel
theorem qw_981 : lw_tbl[981]? = some (Cond.static yJ1_indexOfChar_4cfef) := by decide +kernel
theorem qw_982 : lw_tbl[982]? = some (Cond.code yJ1_indexOfChar_4cfef cJ1_indexOfChar_4cfef 6 (some FieldType.int)) := by decide +kernel
theorem qw_1009 : lw_tbl[1009]? = some (Cond.methodLink "FlyTreasury" 74 yX3_put) := by decide +kernel
theorem qw_1010 : lw_tbl[1010]? = some (Cond.instanceMethod yX3_put) := by decide +kernel
theorem qw_1011 : lw_tbl[1011]? = some (Cond.selects "FlyTreasury$Ledger" yX3_put yX3_put) := by decide +kernel
theorem qw_1012 : lw_tbl[1012]? = some (Cond.code yX3_put cX3_put 5 (some FieldType.int)) := by decide +kernel
theorem qw_1021 : lw_tbl[1021]? = some (Cond.methodLink "FlyTreasury" 78 yX3_refusalToTake) := by decide +kernel
theorem qw_1022 : lw_tbl[1022]? = some (Cond.instanceMethod yX3_refusalToTake) := by decide +kernel
theorem qw_1023 : lw_tbl[1023]? = some (Cond.selects "FlyTreasury$Ledger" yX3_refusalToTake yX3_refusalToTake) := by decide +kernel
theorem qw_1024 : lw_tbl[1024]? = some (Cond.code yX3_refusalToTake cX3_refusalToTake 8 (some (FieldType.object "FlyTreasury$Refusal"))) := by decide +kernel
theorem qw_1025 : lw_tbl[1025]? = some (Cond.methodLink "FlyTreasury$Ledger" 97 yX7_frozen) := by decide +kernel
theorem qw_1026 : lw_tbl[1026]? = some (Cond.instanceMethod yX7_frozen) := by decide +kernel
theorem qw_1027 : lw_tbl[1027]? = some (Cond.selects "FlyTreasury$Vault" yX7_frozen yX7_frozen) := by decide +kernel
theorem qw_1028 : lw_tbl[1028]? = some (Cond.code yX7_frozen cX7_frozen 1 (some FieldType.boolean)) := by decide +kernel
theorem qw_1029 : lw_tbl[1029]? = some (Cond.methodLink "FlyTreasury$Ledger" 108 yX7_backingOf) := by decide +kernel
theorem qw_1030 : lw_tbl[1030]? = some (Cond.fieldLink "FlyTreasury$Ledger" 111 "FlyTreasury$Refusal" "BEYOND_MEANS" "LFlyTreasury$Refusal;") := by decide +kernel
theorem qw_1032 : lw_tbl[1032]? = some (Cond.methodLink "FlyTreasury" 81 yX3_take) := by decide +kernel
theorem qw_1033 : lw_tbl[1033]? = some (Cond.instanceMethod yX3_take) := by decide +kernel
theorem qw_1034 : lw_tbl[1034]? = some (Cond.selects "FlyTreasury$Ledger" yX3_take yX3_take) := by decide +kernel
theorem qw_1035 : lw_tbl[1035]? = some (Cond.code yX3_take cX3_take 5 (some FieldType.int)) := by decide +kernel
theorem qw_1043 : lw_tbl[1043]? = some (Cond.methodLink "FlyTreasury" 84 yX3_refusalToSwap) := by decide +kernel
theorem qw_1044 : lw_tbl[1044]? = some (Cond.instanceMethod yX3_refusalToSwap) := by decide +kernel
theorem qw_1045 : lw_tbl[1045]? = some (Cond.selects "FlyTreasury$Ledger" yX3_refusalToSwap yX3_refusalToSwap) := by decide +kernel
theorem qw_1046 : lw_tbl[1046]? = some (Cond.code yX3_refusalToSwap cX3_refusalToSwap 10 (some (FieldType.object "FlyTreasury$Refusal"))) := by decide +kernel
theorem qw_1047 : lw_tbl[1047]? = some (Cond.methodLinkNest "FlyTreasury$Ledger" 117 yX8_quotient "FlyTreasury") := by decide +kernel
theorem qw_1048 : lw_tbl[1048]? = some (Cond.static yX8_quotient) := by decide +kernel
theorem qw_1049 : lw_tbl[1049]? = some (Cond.code yX8_quotient cX8_quotient 2 (some FieldType.int)) := by decide +kernel
theorem qw_1050 : lw_tbl[1050]? = some (Cond.methodLink "FlyTreasury" 88 yX3_swap) := by decide +kernel
theorem qw_1051 : lw_tbl[1051]? = some (Cond.instanceMethod yX3_swap) := by decide +kernel
theorem qw_1052 : lw_tbl[1052]? = some (Cond.selects "FlyTreasury$Ledger" yX3_swap yX3_swap) := by decide +kernel
theorem qw_1053 : lw_tbl[1053]? = some (Cond.code yX3_swap cX3_swap 10 (some FieldType.int)) := by decide +kernel
theorem qw_1061 : lw_tbl[1061]? = some (Cond.methodLink "FlyTreasury" 92 yX3_refusalToIssue) := by decide +kernel
theorem qw_1062 : lw_tbl[1062]? = some (Cond.instanceMethod yX3_refusalToIssue) := by decide +kernel
theorem qw_1063 : lw_tbl[1063]? = some (Cond.selects "FlyTreasury$Ledger" yX3_refusalToIssue yX3_refusalToIssue) := by decide +kernel
theorem qw_1064 : lw_tbl[1064]? = some (Cond.code yX3_refusalToIssue cX3_refusalToIssue 3 (some (FieldType.object "FlyTreasury$Refusal"))) := by decide +kernel
theorem qw_1065 : lw_tbl[1065]? = some (Cond.methodLink "FlyTreasury$Ledger" 121 yX7_dropsFreeAt) := by decide +kernel
theorem qw_1066 : lw_tbl[1066]? = some (Cond.instanceMethod yX7_dropsFreeAt) := by decide +kernel
theorem qw_1067 : lw_tbl[1067]? = some (Cond.selects "FlyTreasury$Vault" yX7_dropsFreeAt yX7_dropsFreeAt) := by decide +kernel
theorem qw_1068 : lw_tbl[1068]? = some (Cond.code yX7_dropsFreeAt cX7_dropsFreeAt 2 (some FieldType.int)) := by decide +kernel
theorem qw_1069 : lw_tbl[1069]? = some (Cond.methodLink "FlyTreasury" 96 yX3_issue) := by decide +kernel
theorem qw_1070 : lw_tbl[1070]? = some (Cond.instanceMethod yX3_issue) := by decide +kernel
theorem qw_1071 : lw_tbl[1071]? = some (Cond.selects "FlyTreasury$Ledger" yX3_issue yX3_issue) := by decide +kernel
theorem qw_1072 : lw_tbl[1072]? = some (Cond.code yX3_issue cX3_issue 3 (some FieldType.int)) := by decide +kernel
theorem qw_1080 : lw_tbl[1080]? = some (Cond.methodLink "FlyTreasury" 100 yX3_refusalToMelt) := by decide +kernel
theorem qw_1081 : lw_tbl[1081]? = some (Cond.instanceMethod yX3_refusalToMelt) := by decide +kernel
theorem qw_1082 : lw_tbl[1082]? = some (Cond.selects "FlyTreasury$Ledger" yX3_refusalToMelt yX3_refusalToMelt) := by decide +kernel
theorem qw_1083 : lw_tbl[1083]? = some (Cond.code yX3_refusalToMelt cX3_refusalToMelt 3 (some (FieldType.object "FlyTreasury$Refusal"))) := by decide +kernel
theorem qw_1084 : lw_tbl[1084]? = some (Cond.methodLink "FlyTreasury" 103 yX3_melt) := by decide +kernel
theorem qw_1085 : lw_tbl[1085]? = some (Cond.instanceMethod yX3_melt) := by decide +kernel
theorem qw_1086 : lw_tbl[1086]? = some (Cond.selects "FlyTreasury$Ledger" yX3_melt yX3_melt) := by decide +kernel
theorem qw_1087 : lw_tbl[1087]? = some (Cond.code yX3_melt cX3_melt 3 (some FieldType.int)) := by decide +kernel
theorem qw_1095 : lw_tbl[1095]? = some (Cond.methodLink "FlyTreasury" 106 yX3_refusalToInspect) := by decide +kernel
theorem qw_1096 : lw_tbl[1096]? = some (Cond.instanceMethod yX3_refusalToInspect) := by decide +kernel
theorem qw_1097 : lw_tbl[1097]? = some (Cond.selects "FlyTreasury$Ledger" yX3_refusalToInspect yX3_refusalToInspect) := by decide +kernel
theorem qw_1098 : lw_tbl[1098]? = some (Cond.code yX3_refusalToInspect cX3_refusalToInspect 2 (some (FieldType.object "FlyTreasury$Refusal"))) := by decide +kernel
theorem qw_1099 : lw_tbl[1099]? = some (Cond.methodLink "FlyTreasury" 109 yX3_inspect) := by decide +kernel
theorem qw_1100 : lw_tbl[1100]? = some (Cond.instanceMethod yX3_inspect) := by decide +kernel
theorem qw_1101 : lw_tbl[1101]? = some (Cond.selects "FlyTreasury$Ledger" yX3_inspect yX3_inspect) := by decide +kernel
theorem qw_1102 : lw_tbl[1102]? = some (Cond.code yX3_inspect cX3_inspect 3 (some FieldType.boolean)) := by decide +kernel
theorem qw_1103 : lw_tbl[1103]? = some (Cond.methodLink "FlyTreasury$Ledger" 124 yX7_soundAt) := by decide +kernel
theorem qw_1104 : lw_tbl[1104]? = some (Cond.instanceMethod yX7_soundAt) := by decide +kernel
theorem qw_1105 : lw_tbl[1105]? = some (Cond.selects "FlyTreasury$Vault" yX7_soundAt yX7_soundAt) := by decide +kernel
theorem qw_1106 : lw_tbl[1106]? = some (Cond.code yX7_soundAt cX7_soundAt 2 (some FieldType.boolean)) := by decide +kernel
theorem qw_1107 : lw_tbl[1107]? = some (Cond.methodLink "FlyTreasury$Ledger" 128 yX7_reward) := by decide +kernel
theorem qw_1108 : lw_tbl[1108]? = some (Cond.instanceMethod yX7_reward) := by decide +kernel
theorem qw_1109 : lw_tbl[1109]? = some (Cond.selects "FlyTreasury$Vault" yX7_reward yX7_reward) := by decide +kernel
theorem qw_1110 : lw_tbl[1110]? = some (Cond.code yX7_reward cX7_reward 1 none) := by decide +kernel
theorem qw_1111 : lw_tbl[1111]? = some (Cond.methodLink "FlyTreasury$Vault" 57 yJ9_min_7cf53) := by decide +kernel
theorem qw_1112 : lw_tbl[1112]? = some (Cond.methodLink "FlyTreasury$Ledger" 131 yX7_punish) := by decide +kernel
theorem qw_1113 : lw_tbl[1113]? = some (Cond.instanceMethod yX7_punish) := by decide +kernel
theorem qw_1114 : lw_tbl[1114]? = some (Cond.selects "FlyTreasury$Vault" yX7_punish yX7_punish) := by decide +kernel
theorem qw_1115 : lw_tbl[1115]? = some (Cond.code yX7_punish cX7_punish 1 none) := by decide +kernel
theorem qw_1123 : lw_tbl[1123]? = some (Cond.methodLink "FlyTreasury" 113 yX3_refusalToRate) := by decide +kernel
theorem qw_1124 : lw_tbl[1124]? = some (Cond.instanceMethod yX3_refusalToRate) := by decide +kernel
theorem qw_1125 : lw_tbl[1125]? = some (Cond.selects "FlyTreasury$Ledger" yX3_refusalToRate yX3_refusalToRate) := by decide +kernel
theorem qw_1126 : lw_tbl[1126]? = some (Cond.code yX3_refusalToRate cX3_refusalToRate 4 (some (FieldType.object "FlyTreasury$Refusal"))) := by decide +kernel
theorem qw_1127 : lw_tbl[1127]? = some (Cond.methodLink "FlyTreasury" 117 yX3_changeRate) := by decide +kernel
theorem qw_1128 : lw_tbl[1128]? = some (Cond.instanceMethod yX3_changeRate) := by decide +kernel
theorem qw_1129 : lw_tbl[1129]? = some (Cond.selects "FlyTreasury$Ledger" yX3_changeRate yX3_changeRate) := by decide +kernel
theorem qw_1130 : lw_tbl[1130]? = some (Cond.code yX3_changeRate cX3_changeRate 5 (some FieldType.int)) := by decide +kernel
theorem qw_1138 : lw_tbl[1138]? = some (Cond.methodLink "FlyTreasury" 121 yX3_refusalToStick) := by decide +kernel
theorem qw_1139 : lw_tbl[1139]? = some (Cond.instanceMethod yX3_refusalToStick) := by decide +kernel
theorem qw_1140 : lw_tbl[1140]? = some (Cond.selects "FlyTreasury$Ledger" yX3_refusalToStick yX3_refusalToStick) := by decide +kernel
theorem qw_1141 : lw_tbl[1141]? = some (Cond.code yX3_refusalToStick cX3_refusalToStick 3 (some (FieldType.object "FlyTreasury$Refusal"))) := by decide +kernel
theorem qw_1142 : lw_tbl[1142]? = some (Cond.methodLink "FlyTreasury" 124 yX3_changeStickiness) := by decide +kernel
theorem qw_1143 : lw_tbl[1143]? = some (Cond.instanceMethod yX3_changeStickiness) := by decide +kernel
theorem qw_1144 : lw_tbl[1144]? = some (Cond.selects "FlyTreasury$Ledger" yX3_changeStickiness yX3_changeStickiness) := by decide +kernel
theorem qw_1145 : lw_tbl[1145]? = some (Cond.code yX3_changeStickiness cX3_changeStickiness 4 (some FieldType.int)) := by decide +kernel
theorem qw_1153 : lw_tbl[1153]? = some (Cond.methodLink "FlyTreasury" 127 yX3_refusalToWait) := by decide +kernel
theorem qw_1154 : lw_tbl[1154]? = some (Cond.instanceMethod yX3_refusalToWait) := by decide +kernel
theorem qw_1155 : lw_tbl[1155]? = some (Cond.selects "FlyTreasury$Ledger" yX3_refusalToWait yX3_refusalToWait) := by decide +kernel
theorem qw_1156 : lw_tbl[1156]? = some (Cond.code yX3_refusalToWait cX3_refusalToWait 2 (some (FieldType.object "FlyTreasury$Refusal"))) := by decide +kernel
theorem qw_1157 : lw_tbl[1157]? = some (Cond.methodLink "FlyTreasury" 130 yX3_letPass) := by decide +kernel
theorem qw_1158 : lw_tbl[1158]? = some (Cond.instanceMethod yX3_letPass) := by decide +kernel
theorem qw_1159 : lw_tbl[1159]? = some (Cond.selects "FlyTreasury$Ledger" yX3_letPass yX3_letPass) := by decide +kernel
theorem qw_1160 : lw_tbl[1160]? = some (Cond.code yX3_letPass cX3_letPass 4 (some FieldType.int)) := by decide +kernel
theorem qw_1161 : lw_tbl[1161]? = some (Cond.methodLink "FlyTreasury$Ledger" 134 yX3_letOneDayPass) := by decide +kernel
theorem qw_1163 : lw_tbl[1163]? = some (Cond.instanceMethod yX3_letOneDayPass) := by decide +kernel
theorem qw_1164 : lw_tbl[1164]? = some (Cond.code yX3_letOneDayPass cX3_letOneDayPass 3 (some FieldType.int)) := by decide +kernel
theorem qw_1165 : lw_tbl[1165]? = some (Cond.methodLink "FlyTreasury$Ledger" 138 yX7_evaporate) := by decide +kernel
theorem qw_1166 : lw_tbl[1166]? = some (Cond.instanceMethod yX7_evaporate) := by decide +kernel
theorem qw_1167 : lw_tbl[1167]? = some (Cond.selects "FlyTreasury$Vault" yX7_evaporate yX7_evaporate) := by decide +kernel
theorem qw_1168 : lw_tbl[1168]? = some (Cond.code yX7_evaporate cX7_evaporate 1 (some FieldType.int)) := by decide +kernel
theorem qw_1169 : lw_tbl[1169]? = some (Cond.methodLink "FlyTreasury$Ledger" 141 yX7_thaw) := by decide +kernel
theorem qw_1170 : lw_tbl[1170]? = some (Cond.instanceMethod yX7_thaw) := by decide +kernel
theorem qw_1171 : lw_tbl[1171]? = some (Cond.selects "FlyTreasury$Vault" yX7_thaw yX7_thaw) := by decide +kernel
theorem qw_1172 : lw_tbl[1172]? = some (Cond.code yX7_thaw cX7_thaw 1 none) := by decide +kernel
theorem qw_1180 : lw_tbl[1180]? = some (Cond.methodLink "FlyTreasury" 136 yX8_vaultAt) := by decide +kernel
theorem qw_1182 : lw_tbl[1182]? = some (Cond.instanceMethod yX8_vaultAt) := by decide +kernel
theorem qw_1183 : lw_tbl[1183]? = some (Cond.code yX8_vaultAt cX8_vaultAt 2 (some (FieldType.object "FlyTreasury$Vault"))) := by decide +kernel
theorem qw_1184 : lw_tbl[1184]? = some (Cond.methodLink "FlyTreasury" 340 yX3_hasVault) := by decide +kernel
theorem qw_1185 : lw_tbl[1185]? = some (Cond.methodLink "FlyTreasury" 146 yX8_kindNumber) := by decide +kernel
theorem qw_1186 : lw_tbl[1186]? = some (Cond.static yX8_kindNumber) := by decide +kernel
theorem qw_1187 : lw_tbl[1187]? = some (Cond.code yX8_kindNumber cX8_kindNumber 2 (some FieldType.int)) := by decide +kernel
theorem qw_1188 : lw_tbl[1188]? = some (Cond.methodLink "FlyTreasury" 349 yJ0_indexOf_0f7a4) := by decide +kernel
theorem qw_1225 : lw_tbl[1225]? = some (Cond.methodLink "FlyTreasury" 162 yX7_frozen) := by decide +kernel
theorem qw_1234 : lw_tbl[1234]? = some (Cond.classLink "FlyTreasury" 166 "java/util/NoSuchElementException") := by decide +kernel
theorem qw_1257 : lw_tbl[1257]? = some (Cond.methodLink "FlyTreasury" 179 yX7_legsAt) := by decide +kernel
theorem qw_1265 : lw_tbl[1265]? = some (Cond.methodLink "FlyTreasury" 183 yX7_reserveOf) := by decide +kernel
theorem qw_1273 : lw_tbl[1273]? = some (Cond.methodLink "FlyTreasury" 186 yX7_soundAt) := by decide +kernel
theorem qw_1281 : lw_tbl[1281]? = some (Cond.methodLink "FlyTreasury" 190 yX7_dropsFreeAt) := by decide +kernel
theorem qw_1289 : lw_tbl[1289]? = some (Cond.methodLink "FlyTreasury" 193 yX7_daysBySubtraction) := by decide +kernel
theorem qw_1297 : lw_tbl[1297]? = some (Cond.methodLink "FlyTreasury" 196 yX7_daysByCounting) := by decide +kernel
theorem qw_1305 : lw_tbl[1305]? = some (Cond.methodLink "FlyTreasury" 199 yX7_mostByValue) := by decide +kernel
theorem qw_1306 : lw_tbl[1306]? = some (Cond.instanceMethod yX7_mostByValue) := by decide +kernel
theorem qw_1307 : lw_tbl[1307]? = some (Cond.selects "FlyTreasury$Vault" yX7_mostByValue yX7_mostByValue) := by decide +kernel
theorem qw_1308 : lw_tbl[1308]? = some (Cond.code yX7_mostByValue cX7_mostByValue 3 (some FieldType.int)) := by decide +kernel
theorem qw_1309 : lw_tbl[1309]? = some (Cond.methodLinkNest "FlyTreasury$Vault" 54 yX8_quotient "FlyTreasury") := by decide +kernel
theorem qw_1317 : lw_tbl[1317]? = some (Cond.methodLink "FlyTreasury" 203 yX7_mostBySwaps) := by decide +kernel
theorem qw_1318 : lw_tbl[1318]? = some (Cond.instanceMethod yX7_mostBySwaps) := by decide +kernel
theorem qw_1319 : lw_tbl[1319]? = some (Cond.selects "FlyTreasury$Vault" yX7_mostBySwaps yX7_mostBySwaps) := by decide +kernel
theorem qw_1320 : lw_tbl[1320]? = some (Cond.code yX7_mostBySwaps cX7_mostBySwaps 9 (some FieldType.int)) := by decide +kernel
theorem qw_1335 : lw_tbl[1335]? = some (Cond.methodLink "FlyTreasury" 206 yX3_fliesByVaults) := by decide +kernel
theorem qw_1343 : lw_tbl[1343]? = some (Cond.methodLink "FlyTreasury" 209 yX3_fliesByAccounts) := by decide +kernel
theorem qw_1351 : lw_tbl[1351]? = some (Cond.methodLink "FlyTreasury" 219 yX3_vaultAtRank) := by decide +kernel
theorem qw_1352 : lw_tbl[1352]? = some (Cond.instanceMethod yX3_vaultAtRank) := by decide +kernel
theorem qw_1353 : lw_tbl[1353]? = some (Cond.selects "FlyTreasury$Ledger" yX3_vaultAtRank yX3_vaultAtRank) := by decide +kernel
theorem qw_1354 : lw_tbl[1354]? = some (Cond.code yX3_vaultAtRank cX3_vaultAtRank 5 (some FieldType.int)) := by decide +kernel
theorem qw_1355 : lw_tbl[1355]? = some (Cond.methodLink "FlyTreasury$Ledger" 150 yX3_ranksBefore) := by decide +kernel
theorem qw_1357 : lw_tbl[1357]? = some (Cond.instanceMethod yX3_ranksBefore) := by decide +kernel
theorem qw_1358 : lw_tbl[1358]? = some (Cond.code yX3_ranksBefore cX3_ranksBefore 5 (some FieldType.boolean)) := by decide +kernel
theorem qw_1367 : lw_tbl[1367]? = some (Cond.methodLink "FlyTreasury" 224 yX3_kindAtRank) := by decide +kernel
theorem qw_1368 : lw_tbl[1368]? = some (Cond.instanceMethod yX3_kindAtRank) := by decide +kernel
theorem qw_1369 : lw_tbl[1369]? = some (Cond.selects "FlyTreasury$Ledger" yX3_kindAtRank yX3_kindAtRank) := by decide +kernel
theorem qw_1370 : lw_tbl[1370]? = some (Cond.code yX3_kindAtRank cX3_kindAtRank 5 (some FieldType.int)) := by decide +kernel
theorem qw_1371 : lw_tbl[1371]? = some (Cond.methodLink "FlyTreasury$Ledger" 154 yX3_kindRanksBefore) := by decide +kernel
theorem qw_1373 : lw_tbl[1373]? = some (Cond.instanceMethod yX3_kindRanksBefore) := by decide +kernel
theorem qw_1374 : lw_tbl[1374]? = some (Cond.code yX3_kindRanksBefore cX3_kindRanksBefore 5 (some FieldType.boolean)) := by decide +kernel
theorem qw_1396 : lw_tbl[1396]? = some (Cond.classLink "FlyTreasury" 253 "java/lang/ArithmeticException") := by decide +kernel
theorem qw_1422 : lw_tbl[1422]? = some (Cond.methodLink "FlyTreasury" 291 yJ4_charAt_5068e) := by decide +kernel
theorem qw_1423 : lw_tbl[1423]? = some (Cond.instanceMethod yJ4_charAt_5068e) := by decide +kernel
theorem qw_1424 : lw_tbl[1424]? = some (Cond.selects "java/lang/StringBuilder" yJ4_charAt_5068e yJ4_charAt_5068e) := by decide +kernel
theorem qw_1425 : lw_tbl[1425]? = some (Cond.code yJ4_charAt_5068e cJ4_charAt_5068e 2 (some FieldType.char)) := by decide +kernel
theorem qw_1426 : lw_tbl[1426]? = some (Cond.methodLink "java/lang/StringBuilder" 329 yJ5_charAt_5068e) := by decide +kernel
theorem qw_1427 : lw_tbl[1427]? = some (Cond.instanceMethod yJ5_charAt_5068e) := by decide +kernel
theorem qw_1428 : lw_tbl[1428]? = some (Cond.code yJ5_charAt_5068e cJ5_charAt_5068e 5 (some FieldType.char)) := by decide +kernel
theorem qw_1429 : lw_tbl[1429]? = some (Cond.methodLink "java/lang/AbstractStringBuilder" 138 yJ9_min_7cf53) := by decide +kernel
theorem qw_1430 : lw_tbl[1430]? = some (Cond.methodLink "java/lang/AbstractStringBuilder" 144 yJ0_checkIndex_df160) := by decide +kernel
theorem qw_1441 : lw_tbl[1441]? = some (Cond.methodLink "FlyTreasury" 304 yX6_append) := by decide +kernel
theorem qw_1442 : lw_tbl[1442]? = some (Cond.instanceMethod yX6_append) := by decide +kernel
theorem qw_1443 : lw_tbl[1443]? = some (Cond.selects "FlyTreasury$Script" yX6_append yX6_append) := by decide +kernel
theorem qw_1444 : lw_tbl[1444]? = some (Cond.code yX6_append cX6_append 2 none) := by decide +kernel
theorem qw_1452 : lw_tbl[1452]? = some (Cond.methodLink "FlyTreasury" 307 yX6_parse) := by decide +kernel
theorem qw_1453 : lw_tbl[1453]? = some (Cond.instanceMethod yX6_parse) := by decide +kernel
theorem qw_1454 : lw_tbl[1454]? = some (Cond.selects "FlyTreasury$Script" yX6_parse yX6_parse) := by decide +kernel
theorem qw_1455 : lw_tbl[1455]? = some (Cond.code yX6_parse cX6_parse 1 (some FieldType.boolean)) := by decide +kernel
theorem qw_1456 : lw_tbl[1456]? = some (Cond.methodLink "FlyTreasury$Script" 32 yX6_readOrder) := by decide +kernel
theorem qw_1458 : lw_tbl[1458]? = some (Cond.instanceMethod yX6_readOrder) := by decide +kernel
theorem qw_1459 : lw_tbl[1459]? = some (Cond.code yX6_readOrder cX6_readOrder 4 (some FieldType.boolean)) := by decide +kernel
theorem qw_1460 : lw_tbl[1460]? = some (Cond.methodLink "FlyTreasury$Script" 40 yX6_readWord) := by decide +kernel
theorem qw_1462 : lw_tbl[1462]? = some (Cond.instanceMethod yX6_readWord) := by decide +kernel
theorem qw_1463 : lw_tbl[1463]? = some (Cond.code yX6_readWord cX6_readWord 8 (some FieldType.boolean)) := by decide +kernel
theorem qw_1464 : lw_tbl[1464]? = some (Cond.fieldLinkNest "FlyTreasury$Script" 72 "FlyTreasury" "COMMANDS" "[LFlyTreasury$Command;" "FlyTreasury") := by decide +kernel
theorem qw_1466 : lw_tbl[1466]? = some (Cond.methodLink "FlyTreasury$Script" 79 yX6_fitOf) := by decide +kernel
theorem qw_1468 : lw_tbl[1468]? = some (Cond.instanceMethod yX6_fitOf) := by decide +kernel
theorem qw_1469 : lw_tbl[1469]? = some (Cond.code yX6_fitOf cX6_fitOf 3 (some FieldType.int)) := by decide +kernel
theorem qw_1470 : lw_tbl[1470]? = some (Cond.methodLink "FlyTreasury$Script" 59 yJ0_length_8abf5) := by decide +kernel
theorem qw_1471 : lw_tbl[1471]? = some (Cond.methodLink "FlyTreasury$Script" 89 yX6_signAt) := by decide +kernel
theorem qw_1473 : lw_tbl[1473]? = some (Cond.instanceMethod yX6_signAt) := by decide +kernel
theorem qw_1474 : lw_tbl[1474]? = some (Cond.code yX6_signAt cX6_signAt 2 (some FieldType.char)) := by decide +kernel
theorem qw_1475 : lw_tbl[1475]? = some (Cond.methodLink "FlyTreasury$Script" 64 yJ0_charAt_5068e) := by decide +kernel
theorem qw_1476 : lw_tbl[1476]? = some (Cond.methodLink "FlyTreasury$Script" 83 yJ9_max_7cf53) := by decide +kernel
theorem qw_1477 : lw_tbl[1477]? = some (Cond.fieldLink "FlyTreasury$Script" 47 "FlyTreasury$Command" "DAY" "LFlyTreasury$Command;") := by decide +kernel
theorem qw_1478 : lw_tbl[1478]? = some (Cond.methodLink "FlyTreasury$Script" 52 yX6_readDays) := by decide +kernel
theorem qw_1480 : lw_tbl[1480]? = some (Cond.instanceMethod yX6_readDays) := by decide +kernel
theorem qw_1481 : lw_tbl[1481]? = some (Cond.code yX6_readDays cX6_readDays 2 (some FieldType.boolean)) := by decide +kernel
theorem qw_1482 : lw_tbl[1482]? = some (Cond.methodLink "FlyTreasury$Script" 36 yX6_readSign) := by decide +kernel
theorem qw_1484 : lw_tbl[1484]? = some (Cond.instanceMethod yX6_readSign) := by decide +kernel
theorem qw_1485 : lw_tbl[1485]? = some (Cond.code yX6_readSign cX6_readSign 2 (some FieldType.boolean)) := by decide +kernel
theorem qw_1486 : lw_tbl[1486]? = some (Cond.methodLink "FlyTreasury$Script" 68 yX6_readPart) := by decide +kernel
theorem qw_1488 : lw_tbl[1488]? = some (Cond.instanceMethod yX6_readPart) := by decide +kernel
theorem qw_1489 : lw_tbl[1489]? = some (Cond.code yX6_readPart cX6_readPart 3 (some FieldType.boolean)) := by decide +kernel
theorem qw_1490 : lw_tbl[1490]? = some (Cond.methodLink "FlyTreasury$Script" 95 yX6_readDigit) := by decide +kernel
theorem qw_1492 : lw_tbl[1492]? = some (Cond.instanceMethod yX6_readDigit) := by decide +kernel
theorem qw_1493 : lw_tbl[1493]? = some (Cond.code yX6_readDigit cX6_readDigit 2 (some FieldType.int)) := by decide +kernel
theorem qw_1494 : lw_tbl[1494]? = some (Cond.methodLink "FlyTreasury$Script" 101 yX6_readNumber) := by decide +kernel
theorem qw_1496 : lw_tbl[1496]? = some (Cond.instanceMethod yX6_readNumber) := by decide +kernel
theorem qw_1497 : lw_tbl[1497]? = some (Cond.code yX6_readNumber cX6_readNumber 3 (some FieldType.int)) := by decide +kernel
theorem qw_1498 : lw_tbl[1498]? = some (Cond.methodLink "FlyTreasury$Script" 104 yX6_readKind) := by decide +kernel
theorem qw_1500 : lw_tbl[1500]? = some (Cond.instanceMethod yX6_readKind) := by decide +kernel
theorem qw_1501 : lw_tbl[1501]? = some (Cond.code yX6_readKind cX6_readKind 2 (some FieldType.char)) := by decide +kernel
theorem qw_1503 : lw_tbl[1503]? = some (Cond.methodLink "FlyTreasury$Script" 117 yJ0_indexOf_0f7a4) := by decide +kernel
theorem qw_1505 : lw_tbl[1505]? = some (Cond.methodLink "FlyTreasury" 318 yX8_firstRefusedOrder) := by decide +kernel
theorem qw_1507 : lw_tbl[1507]? = some (Cond.instanceMethod yX8_firstRefusedOrder) := by decide +kernel
theorem qw_1508 : lw_tbl[1508]? = some (Cond.code yX8_firstRefusedOrder cX8_firstRefusedOrder 2 (some FieldType.int)) := by decide +kernel
theorem qw_1509 : lw_tbl[1509]? = some (Cond.methodLink "FlyTreasury" 377 yX8_refusalOf) := by decide +kernel
theorem qw_1511 : lw_tbl[1511]? = some (Cond.instanceMethod yX8_refusalOf) := by decide +kernel
theorem qw_1512 : lw_tbl[1512]? = some (Cond.code yX8_refusalOf cX8_refusalOf 2 (some (FieldType.object "FlyTreasury$Refusal"))) := by decide +kernel
theorem qw_1513 : lw_tbl[1513]? = some (Cond.fieldLink "FlyTreasury" 389 "FlyTreasury$1" "$SwitchMap$FlyTreasury$Command" "[I") := by decide +kernel
theorem qw_1515 : lw_tbl[1515]? = some (Cond.methodLink "FlyTreasury" 398 ⟨"FlyTreasury$Command", "ordinal", "()I"⟩) := by decide +kernel
theorem qw_1516 : lw_tbl[1516]? = some (Cond.sameMethod "FlyTreasury$Command" "java/lang/Enum" "ordinal" "()I") := by decide +kernel
theorem qw_1517 : lw_tbl[1517]? = some (Cond.selects "FlyTreasury$Command" ⟨"FlyTreasury$Command", "ordinal", "()I"⟩ yJx29ce0_ordinal_8abf5) := by decide +kernel
theorem qw_1518 : lw_tbl[1518]? = some (Cond.fieldLink "FlyTreasury" 381 "FlyTreasury$Refusal" "NONE" "LFlyTreasury$Refusal;") := by decide +kernel
theorem qw_1519 : lw_tbl[1519]? = some (Cond.methodLink "FlyTreasury" 385 yX8_carryOut) := by decide +kernel
theorem qw_1521 : lw_tbl[1521]? = some (Cond.instanceMethod yX8_carryOut) := by decide +kernel
theorem qw_1522 : lw_tbl[1522]? = some (Cond.code yX8_carryOut cX8_carryOut 2 none) := by decide +kernel
theorem qw_1548 : lw_tbl[1548]? = some (Cond.methodLink "FlyTreasury" 335 yX2_takeBack) := by decide +kernel
theorem qw_1549 : lw_tbl[1549]? = some (Cond.instanceMethod yX2_takeBack) := by decide +kernel
theorem qw_1550 : lw_tbl[1550]? = some (Cond.selects "FlyTreasury$History" yX2_takeBack yX2_takeBack) := by decide +kernel
theorem qw_1551 : lw_tbl[1551]? = some (Cond.code yX2_takeBack cX2_takeBack 2 none) := by decide +kernel
theorem qw_1570 : lw_tbl[1570]? = some (Cond.fieldLink "FlyTreasuryModel" 1 "FlyTreasuryModel" "thrown" "I") := by decide +kernel
theorem qw_1571 : lw_tbl[1571]? = some (Cond.fieldLink "FlyTreasuryModel" 13 "FlyTreasuryModel" "w" "[I") := by decide +kernel
theorem qw_1572 : lw_tbl[1572]? = some (Cond.fieldLink "FlyTreasuryModel" 17 "FlyTreasuryModel" "undos" "[I") := by decide +kernel
theorem qw_1573 : lw_tbl[1573]? = some (Cond.fieldLink "FlyTreasuryModel" 20 "FlyTreasuryModel" "savedRow" "[I") := by decide +kernel
theorem qw_1574 : lw_tbl[1574]? = some (Cond.fieldLink "FlyTreasuryModel" 23 "FlyTreasuryModel" "before" "[I") := by decide +kernel
theorem qw_1575 : lw_tbl[1575]? = some (Cond.fieldLink "FlyTreasuryModel" 42 "FlyTreasuryModel" "changes" "I") := by decide +kernel
theorem qw_1576 : lw_tbl[1576]? = some (Cond.fieldLink "FlyTreasuryModel" 45 "FlyTreasuryModel" "firstChange" "I") := by decide +kernel
theorem qw_1577 : lw_tbl[1577]? = some (Cond.fieldLink "FlyTreasuryModel" 262 "FlyTreasuryModel" "isSaved" "Z") := by decide +kernel
theorem qw_1578 : lw_tbl[1578]? = some (Cond.fieldLink "FlyTreasuryModel" 26 "FlyTreasuryModel" "line" "[C") := by decide +kernel
theorem qw_1579 : lw_tbl[1579]? = some (Cond.fieldLink "FlyTreasuryModel" 194 "FlyTreasuryModel" "lineLength" "I") := by decide +kernel
theorem qw_1580 : lw_tbl[1580]? = some (Cond.fieldLink "FlyTreasuryModel" 30 "FlyTreasuryModel" "text" "[C") := by decide +kernel
theorem qw_1581 : lw_tbl[1581]? = some (Cond.fieldLink "FlyTreasuryModel" 204 "FlyTreasuryModel" "textLength" "I") := by decide +kernel
theorem qw_1582 : lw_tbl[1582]? = some (Cond.fieldLink "FlyTreasuryModel" 207 "FlyTreasuryModel" "textAt" "I") := by decide +kernel
theorem qw_1583 : lw_tbl[1583]? = some (Cond.fieldLink "FlyTreasuryModel" 33 "FlyTreasuryModel" "errorAt" "I") := by decide +kernel
theorem qw_1584 : lw_tbl[1584]? = some (Cond.fieldLink "FlyTreasuryModel" 36 "FlyTreasuryModel" "failedAt" "I") := by decide +kernel
theorem qw_1585 : lw_tbl[1585]? = some (Cond.fieldLink "FlyTreasuryModel" 39 "FlyTreasuryModel" "numbers" "[I") := by decide +kernel
theorem qw_1586 : lw_tbl[1586]? = some (Cond.fieldLink "FlyTreasuryModel" 225 "FlyTreasuryModel" "sort" "I") := by decide +kernel
theorem qw_1587 : lw_tbl[1587]? = some (Cond.fieldLink "FlyTreasuryModel" 244 "FlyTreasuryModel" "done" "I") := by decide +kernel
theorem qw_1629 : lw_tbl[1629]? = some (Cond.methodLink "FlyTreasuryModel" 73 yX9_notVault) := by decide +kernel
theorem qw_1631 : lw_tbl[1631]? = some (Cond.instanceMethod yX9_notVault) := by decide +kernel
theorem qw_1632 : lw_tbl[1632]? = some (Cond.code yX9_notVault cX9_notVault 2 (some FieldType.int)) := by decide +kernel
theorem qw_1633 : lw_tbl[1633]? = some (Cond.methodLink "FlyTreasuryModel" 54 yX9_isBetween) := by decide +kernel
theorem qw_1634 : lw_tbl[1634]? = some (Cond.static yX9_isBetween) := by decide +kernel
theorem qw_1635 : lw_tbl[1635]? = some (Cond.code yX9_isBetween cX9_isBetween 3 (some FieldType.boolean)) := by decide +kernel
theorem qw_1636 : lw_tbl[1636]? = some (Cond.methodLink "FlyTreasuryModel" 76 yX9_fails) := by decide +kernel
theorem qw_1638 : lw_tbl[1638]? = some (Cond.instanceMethod yX9_fails) := by decide +kernel
theorem qw_1639 : lw_tbl[1639]? = some (Cond.code yX9_fails cX9_fails 2 (some FieldType.int)) := by decide +kernel
theorem qw_1640 : lw_tbl[1640]? = some (Cond.methodLink "FlyTreasuryModel" 79 yX9_remembers) := by decide +kernel
theorem qw_1642 : lw_tbl[1642]? = some (Cond.instanceMethod yX9_remembers) := by decide +kernel
theorem qw_1643 : lw_tbl[1643]? = some (Cond.code yX9_remembers cX9_remembers 1 none) := by decide +kernel
theorem qw_1644 : lw_tbl[1644]? = some (Cond.methodLink "FlyTreasuryModel" 48 yX9_copies) := by decide +kernel
theorem qw_1646 : lw_tbl[1646]? = some (Cond.instanceMethod yX9_copies) := by decide +kernel
theorem qw_1647 : lw_tbl[1647]? = some (Cond.code yX9_copies cX9_copies 2 none) := by decide +kernel
theorem qw_1648 : lw_tbl[1648]? = some (Cond.methodLink "FlyTreasuryModel" 51 yX9_keeps) := by decide +kernel
theorem qw_1650 : lw_tbl[1650]? = some (Cond.instanceMethod yX9_keeps) := by decide +kernel
theorem qw_1651 : lw_tbl[1651]? = some (Cond.code yX9_keeps cX9_keeps 3 none) := by decide +kernel
theorem qw_1652 : lw_tbl[1652]? = some (Cond.methodLink "FlyTreasuryModel" 82 yX9_addsVault) := by decide +kernel
theorem qw_1654 : lw_tbl[1654]? = some (Cond.instanceMethod yX9_addsVault) := by decide +kernel
theorem qw_1655 : lw_tbl[1655]? = some (Cond.code yX9_addsVault cX9_addsVault 4 (some FieldType.int)) := by decide +kernel
theorem qw_1656 : lw_tbl[1656]? = some (Cond.methodLink "FlyTreasuryModel" 69 yX9_puts) := by decide +kernel
theorem qw_1658 : lw_tbl[1658]? = some (Cond.instanceMethod yX9_puts) := by decide +kernel
theorem qw_1659 : lw_tbl[1659]? = some (Cond.code yX9_puts cX9_puts 4 none) := by decide +kernel
theorem qw_1664 : lw_tbl[1664]? = some (Cond.methodLink "FlyTreasuryModel" 95 yX9_notDeposit) := by decide +kernel
theorem qw_1666 : lw_tbl[1666]? = some (Cond.instanceMethod yX9_notDeposit) := by decide +kernel
theorem qw_1667 : lw_tbl[1667]? = some (Cond.code yX9_notDeposit cX9_notDeposit 4 (some FieldType.int)) := by decide +kernel
theorem qw_1668 : lw_tbl[1668]? = some (Cond.methodLink "FlyTreasuryModel" 85 yX9_isVault) := by decide +kernel
theorem qw_1670 : lw_tbl[1670]? = some (Cond.instanceMethod yX9_isVault) := by decide +kernel
theorem qw_1671 : lw_tbl[1671]? = some (Cond.code yX9_isVault cX9_isVault 2 (some FieldType.boolean)) := by decide +kernel
theorem qw_1672 : lw_tbl[1672]? = some (Cond.methodLink "FlyTreasuryModel" 89 yX9_kindOf) := by decide +kernel
theorem qw_1673 : lw_tbl[1673]? = some (Cond.static yX9_kindOf) := by decide +kernel
theorem qw_1674 : lw_tbl[1674]? = some (Cond.code yX9_kindOf cX9_kindOf 1 (some FieldType.int)) := by decide +kernel
theorem qw_1675 : lw_tbl[1675]? = some (Cond.methodLink "FlyTreasuryModel" 58 yX9_of) := by decide +kernel
theorem qw_1677 : lw_tbl[1677]? = some (Cond.instanceMethod yX9_of) := by decide +kernel
theorem qw_1678 : lw_tbl[1678]? = some (Cond.code yX9_of cX9_of 3 (some FieldType.int)) := by decide +kernel
theorem qw_1679 : lw_tbl[1679]? = some (Cond.methodLink "FlyTreasuryModel" 99 yX9_deposits) := by decide +kernel
theorem qw_1681 : lw_tbl[1681]? = some (Cond.instanceMethod yX9_deposits) := by decide +kernel
theorem qw_1682 : lw_tbl[1682]? = some (Cond.code yX9_deposits cX9_deposits 4 (some FieldType.int)) := by decide +kernel
theorem qw_1683 : lw_tbl[1683]? = some (Cond.methodLink "FlyTreasuryModel" 92 yX9_adds) := by decide +kernel
theorem qw_1685 : lw_tbl[1685]? = some (Cond.instanceMethod yX9_adds) := by decide +kernel
theorem qw_1686 : lw_tbl[1686]? = some (Cond.code yX9_adds cX9_adds 4 none) := by decide +kernel
theorem qw_1691 : lw_tbl[1691]? = some (Cond.methodLink "FlyTreasuryModel" 108 yX9_notWithdraw) := by decide +kernel
theorem qw_1693 : lw_tbl[1693]? = some (Cond.instanceMethod yX9_notWithdraw) := by decide +kernel
theorem qw_1694 : lw_tbl[1694]? = some (Cond.code yX9_notWithdraw cX9_notWithdraw 4 (some FieldType.int)) := by decide +kernel
theorem qw_1695 : lw_tbl[1695]? = some (Cond.methodLink "FlyTreasuryModel" 105 yX9_isSoundWithout) := by decide +kernel
theorem qw_1697 : lw_tbl[1697]? = some (Cond.instanceMethod yX9_isSoundWithout) := by decide +kernel
theorem qw_1698 : lw_tbl[1698]? = some (Cond.code yX9_isSoundWithout cX9_isSoundWithout 5 (some FieldType.boolean)) := by decide +kernel
theorem qw_1699 : lw_tbl[1699]? = some (Cond.methodLink "FlyTreasuryModel" 102 yX9_spare) := by decide +kernel
theorem qw_1701 : lw_tbl[1701]? = some (Cond.instanceMethod yX9_spare) := by decide +kernel
theorem qw_1702 : lw_tbl[1702]? = some (Cond.code yX9_spare cX9_spare 2 (some FieldType.int)) := by decide +kernel
theorem qw_1703 : lw_tbl[1703]? = some (Cond.methodLink "FlyTreasuryModel" 62 yX9_valueOf) := by decide +kernel
theorem qw_1705 : lw_tbl[1705]? = some (Cond.instanceMethod yX9_valueOf) := by decide +kernel
theorem qw_1706 : lw_tbl[1706]? = some (Cond.code yX9_valueOf cX9_valueOf 4 (some FieldType.int)) := by decide +kernel
theorem qw_1707 : lw_tbl[1707]? = some (Cond.methodLink "FlyTreasuryModel" 66 yX9_reserveOf) := by decide +kernel
theorem qw_1709 : lw_tbl[1709]? = some (Cond.instanceMethod yX9_reserveOf) := by decide +kernel
theorem qw_1710 : lw_tbl[1710]? = some (Cond.code yX9_reserveOf cX9_reserveOf 2 (some FieldType.int)) := by decide +kernel
theorem qw_1711 : lw_tbl[1711]? = some (Cond.methodLink "FlyTreasuryModel" 111 yX9_withdraws) := by decide +kernel
theorem qw_1713 : lw_tbl[1713]? = some (Cond.instanceMethod yX9_withdraws) := by decide +kernel
theorem qw_1714 : lw_tbl[1714]? = some (Cond.code yX9_withdraws cX9_withdraws 4 (some FieldType.int)) := by decide +kernel
theorem qw_1719 : lw_tbl[1719]? = some (Cond.methodLink "FlyTreasuryModel" 117 yX9_notExchange) := by decide +kernel
theorem qw_1721 : lw_tbl[1721]? = some (Cond.instanceMethod yX9_notExchange) := by decide +kernel
theorem qw_1722 : lw_tbl[1722]? = some (Cond.code yX9_notExchange cX9_notExchange 6 (some FieldType.int)) := by decide +kernel
theorem qw_1723 : lw_tbl[1723]? = some (Cond.methodLink "FlyTreasuryModel" 114 yX9_legsOf) := by decide +kernel
theorem qw_1725 : lw_tbl[1725]? = some (Cond.instanceMethod yX9_legsOf) := by decide +kernel
theorem qw_1726 : lw_tbl[1726]? = some (Cond.code yX9_legsOf cX9_legsOf 4 (some FieldType.int)) := by decide +kernel
theorem qw_1727 : lw_tbl[1727]? = some (Cond.methodLink "FlyTreasuryModel" 121 yX9_exchanges) := by decide +kernel
theorem qw_1729 : lw_tbl[1729]? = some (Cond.instanceMethod yX9_exchanges) := by decide +kernel
theorem qw_1730 : lw_tbl[1730]? = some (Cond.code yX9_exchanges cX9_exchanges 7 (some FieldType.int)) := by decide +kernel
theorem qw_1735 : lw_tbl[1735]? = some (Cond.methodLink "FlyTreasuryModel" 124 yX9_notMint) := by decide +kernel
theorem qw_1737 : lw_tbl[1737]? = some (Cond.instanceMethod yX9_notMint) := by decide +kernel
theorem qw_1738 : lw_tbl[1738]? = some (Cond.code yX9_notMint cX9_notMint 3 (some FieldType.int)) := by decide +kernel
theorem qw_1739 : lw_tbl[1739]? = some (Cond.methodLink "FlyTreasuryModel" 127 yX9_mints) := by decide +kernel
theorem qw_1741 : lw_tbl[1741]? = some (Cond.instanceMethod yX9_mints) := by decide +kernel
theorem qw_1742 : lw_tbl[1742]? = some (Cond.code yX9_mints cX9_mints 3 (some FieldType.int)) := by decide +kernel
theorem qw_1747 : lw_tbl[1747]? = some (Cond.methodLink "FlyTreasuryModel" 130 yX9_notRedeem) := by decide +kernel
theorem qw_1749 : lw_tbl[1749]? = some (Cond.instanceMethod yX9_notRedeem) := by decide +kernel
theorem qw_1750 : lw_tbl[1750]? = some (Cond.code yX9_notRedeem cX9_notRedeem 3 (some FieldType.int)) := by decide +kernel
theorem qw_1751 : lw_tbl[1751]? = some (Cond.methodLink "FlyTreasuryModel" 133 yX9_redeems) := by decide +kernel
theorem qw_1753 : lw_tbl[1753]? = some (Cond.instanceMethod yX9_redeems) := by decide +kernel
theorem qw_1754 : lw_tbl[1754]? = some (Cond.code yX9_redeems cX9_redeems 3 (some FieldType.int)) := by decide +kernel
theorem qw_1759 : lw_tbl[1759]? = some (Cond.methodLink "FlyTreasuryModel" 136 yX9_notAudit) := by decide +kernel
theorem qw_1761 : lw_tbl[1761]? = some (Cond.instanceMethod yX9_notAudit) := by decide +kernel
theorem qw_1762 : lw_tbl[1762]? = some (Cond.code yX9_notAudit cX9_notAudit 2 (some FieldType.int)) := by decide +kernel
theorem qw_1763 : lw_tbl[1763]? = some (Cond.methodLink "FlyTreasuryModel" 139 yX9_audits) := by decide +kernel
theorem qw_1765 : lw_tbl[1765]? = some (Cond.instanceMethod yX9_audits) := by decide +kernel
theorem qw_1766 : lw_tbl[1766]? = some (Cond.code yX9_audits cX9_audits 2 (some FieldType.int)) := by decide +kernel
theorem qw_1771 : lw_tbl[1771]? = some (Cond.methodLink "FlyTreasuryModel" 142 yX9_notRate) := by decide +kernel
theorem qw_1772 : lw_tbl[1772]? = some (Cond.static yX9_notRate) := by decide +kernel
theorem qw_1773 : lw_tbl[1773]? = some (Cond.code yX9_notRate cX9_notRate 2 (some FieldType.int)) := by decide +kernel
theorem qw_1774 : lw_tbl[1774]? = some (Cond.methodLink "FlyTreasuryModel" 145 yX9_setsRate) := by decide +kernel
theorem qw_1776 : lw_tbl[1776]? = some (Cond.instanceMethod yX9_setsRate) := by decide +kernel
theorem qw_1777 : lw_tbl[1777]? = some (Cond.code yX9_setsRate cX9_setsRate 4 (some FieldType.int)) := by decide +kernel
theorem qw_1782 : lw_tbl[1782]? = some (Cond.methodLink "FlyTreasuryModel" 148 yX9_notStick) := by decide +kernel
theorem qw_1784 : lw_tbl[1784]? = some (Cond.instanceMethod yX9_notStick) := by decide +kernel
theorem qw_1785 : lw_tbl[1785]? = some (Cond.code yX9_notStick cX9_notStick 3 (some FieldType.int)) := by decide +kernel
theorem qw_1786 : lw_tbl[1786]? = some (Cond.methodLink "FlyTreasuryModel" 151 yX9_sticks) := by decide +kernel
theorem qw_1788 : lw_tbl[1788]? = some (Cond.instanceMethod yX9_sticks) := by decide +kernel
theorem qw_1789 : lw_tbl[1789]? = some (Cond.code yX9_sticks cX9_sticks 4 (some FieldType.int)) := by decide +kernel
theorem qw_1794 : lw_tbl[1794]? = some (Cond.methodLink "FlyTreasuryModel" 158 yX9_notDays) := by decide +kernel
theorem qw_1795 : lw_tbl[1795]? = some (Cond.static yX9_notDays) := by decide +kernel
theorem qw_1796 : lw_tbl[1796]? = some (Cond.code yX9_notDays cX9_notDays 1 (some FieldType.int)) := by decide +kernel
theorem qw_1797 : lw_tbl[1797]? = some (Cond.methodLink "FlyTreasuryModel" 161 yX9_passes) := by decide +kernel
theorem qw_1799 : lw_tbl[1799]? = some (Cond.instanceMethod yX9_passes) := by decide +kernel
theorem qw_1800 : lw_tbl[1800]? = some (Cond.code yX9_passes cX9_passes 4 (some FieldType.int)) := by decide +kernel
theorem qw_1801 : lw_tbl[1801]? = some (Cond.methodLink "FlyTreasuryModel" 154 yX9_passesOne) := by decide +kernel
theorem qw_1803 : lw_tbl[1803]? = some (Cond.instanceMethod yX9_passesOne) := by decide +kernel
theorem qw_1804 : lw_tbl[1804]? = some (Cond.code yX9_passesOne cX9_passesOne 3 (some FieldType.int)) := by decide +kernel
theorem qw_1809 : lw_tbl[1809]? = some (Cond.methodLink "FlyTreasuryModel" 164 yX9_asks) := by decide +kernel
theorem qw_1811 : lw_tbl[1811]? = some (Cond.instanceMethod yX9_asks) := by decide +kernel
theorem qw_1812 : lw_tbl[1812]? = some (Cond.code yX9_asks cX9_asks 2 (some FieldType.int)) := by decide +kernel
theorem qw_1821 : lw_tbl[1821]? = some (Cond.methodLink "FlyTreasuryModel" 167 yX9_asksVault) := by decide +kernel
theorem qw_1823 : lw_tbl[1823]? = some (Cond.instanceMethod yX9_asksVault) := by decide +kernel
theorem qw_1824 : lw_tbl[1824]? = some (Cond.code yX9_asksVault cX9_asksVault 3 (some FieldType.int)) := by decide +kernel
theorem qw_1862 : lw_tbl[1862]? = some (Cond.instanceMethod yX9_daysUntilSound) := by decide +kernel
theorem qw_1863 : lw_tbl[1863]? = some (Cond.selects "FlyTreasuryModel" yX9_daysUntilSound yX9_daysUntilSound) := by decide +kernel
theorem qw_1864 : lw_tbl[1864]? = some (Cond.code yX9_daysUntilSound cX9_daysUntilSound 2 (some FieldType.int)) := by decide +kernel
theorem qw_1869 : lw_tbl[1869]? = some (Cond.methodLink "FlyTreasuryModel" 170 yX9_daysUntilSound) := by decide +kernel
theorem qw_1871 : lw_tbl[1871]? = some (Cond.instanceMethod yX9_mostFlies) := by decide +kernel
theorem qw_1872 : lw_tbl[1872]? = some (Cond.selects "FlyTreasuryModel" yX9_mostFlies yX9_mostFlies) := by decide +kernel
theorem qw_1873 : lw_tbl[1873]? = some (Cond.code yX9_mostFlies cX9_mostFlies 3 (some FieldType.int)) := by decide +kernel
theorem qw_1878 : lw_tbl[1878]? = some (Cond.methodLink "FlyTreasuryModel" 173 yX9_mostFlies) := by decide +kernel
theorem qw_1887 : lw_tbl[1887]? = some (Cond.methodLink "FlyTreasuryModel" 177 yX9_fliesOf) := by decide +kernel
theorem qw_1889 : lw_tbl[1889]? = some (Cond.instanceMethod yX9_fliesOf) := by decide +kernel
theorem qw_1890 : lw_tbl[1890]? = some (Cond.code yX9_fliesOf cX9_fliesOf 4 (some FieldType.int)) := by decide +kernel
theorem qw_1896 : lw_tbl[1896]? = some (Cond.instanceMethod yX9_totalValue) := by decide +kernel
theorem qw_1897 : lw_tbl[1897]? = some (Cond.selects "FlyTreasuryModel" yX9_totalValue yX9_totalValue) := by decide +kernel
theorem qw_1898 : lw_tbl[1898]? = some (Cond.code yX9_totalValue cX9_totalValue 1 (some FieldType.int)) := by decide +kernel
theorem qw_1899 : lw_tbl[1899]? = some (Cond.methodLink "FlyTreasuryModel" 180 yX9_valueAll) := by decide +kernel
theorem qw_1901 : lw_tbl[1901]? = some (Cond.instanceMethod yX9_valueAll) := by decide +kernel
theorem qw_1902 : lw_tbl[1902]? = some (Cond.code yX9_valueAll cX9_valueAll 3 (some FieldType.int)) := by decide +kernel
theorem qw_1907 : lw_tbl[1907]? = some (Cond.methodLink "FlyTreasuryModel" 183 yX9_totalValue) := by decide +kernel
theorem qw_1912 : lw_tbl[1912]? = some (Cond.methodLink "FlyTreasuryModel" 186 yX9_isAhead) := by decide +kernel
theorem qw_1914 : lw_tbl[1914]? = some (Cond.instanceMethod yX9_isAhead) := by decide +kernel
theorem qw_1915 : lw_tbl[1915]? = some (Cond.code yX9_isAhead cX9_isAhead 5 (some FieldType.boolean)) := by decide +kernel
theorem qw_1920 : lw_tbl[1920]? = some (Cond.methodLink "FlyTreasuryModel" 190 yX9_letterOf) := by decide +kernel
theorem qw_1921 : lw_tbl[1921]? = some (Cond.static yX9_letterOf) := by decide +kernel
theorem qw_1922 : lw_tbl[1922]? = some (Cond.code yX9_letterOf cX9_letterOf 1 (some FieldType.char)) := by decide +kernel
theorem qw_1963 : lw_tbl[1963]? = some (Cond.methodLink "FlyTreasuryModel" 197 yX9_writes) := by decide +kernel
theorem qw_1965 : lw_tbl[1965]? = some (Cond.instanceMethod yX9_writes) := by decide +kernel
theorem qw_1966 : lw_tbl[1966]? = some (Cond.code yX9_writes cX9_writes 2 none) := by decide +kernel
theorem qw_1967 : lw_tbl[1967]? = some (Cond.methodLink "FlyTreasuryModel" 201 yX9_writesNumber) := by decide +kernel
theorem qw_1969 : lw_tbl[1969]? = some (Cond.instanceMethod yX9_writesNumber) := by decide +kernel
theorem qw_1970 : lw_tbl[1970]? = some (Cond.code yX9_writesNumber cX9_writesNumber 4 none) := by decide +kernel
theorem qw_1987 : lw_tbl[1987]? = some (Cond.methodLink "FlyTreasuryModel" 253 yX9_readsAll) := by decide +kernel
theorem qw_1989 : lw_tbl[1989]? = some (Cond.instanceMethod yX9_readsAll) := by decide +kernel
theorem qw_1990 : lw_tbl[1990]? = some (Cond.code yX9_readsAll cX9_readsAll 2 (some FieldType.boolean)) := by decide +kernel
theorem qw_1991 : lw_tbl[1991]? = some (Cond.methodLink "FlyTreasuryModel" 241 yX9_readsCommand) := by decide +kernel
theorem qw_1993 : lw_tbl[1993]? = some (Cond.instanceMethod yX9_readsCommand) := by decide +kernel
theorem qw_1994 : lw_tbl[1994]? = some (Cond.code yX9_readsCommand cX9_readsCommand 1 (some FieldType.boolean)) := by decide +kernel
theorem qw_1995 : lw_tbl[1995]? = some (Cond.methodLink "FlyTreasuryModel" 210 yX9_nextChar) := by decide +kernel
theorem qw_1997 : lw_tbl[1997]? = some (Cond.instanceMethod yX9_nextChar) := by decide +kernel
theorem qw_1998 : lw_tbl[1998]? = some (Cond.code yX9_nextChar cX9_nextChar 1 (some FieldType.int)) := by decide +kernel
theorem qw_1999 : lw_tbl[1999]? = some (Cond.methodLink "FlyTreasuryModel" 216 yX9_reads) := by decide +kernel
theorem qw_2001 : lw_tbl[2001]? = some (Cond.instanceMethod yX9_reads) := by decide +kernel
theorem qw_2002 : lw_tbl[2002]? = some (Cond.code yX9_reads cX9_reads 2 (some FieldType.boolean)) := by decide +kernel
theorem qw_2003 : lw_tbl[2003]? = some (Cond.methodLink "FlyTreasuryModel" 213 yX9_readsDigit) := by decide +kernel
theorem qw_2005 : lw_tbl[2005]? = some (Cond.instanceMethod yX9_readsDigit) := by decide +kernel
theorem qw_2006 : lw_tbl[2006]? = some (Cond.code yX9_readsDigit cX9_readsDigit 2 (some FieldType.boolean)) := by decide +kernel
theorem qw_2007 : lw_tbl[2007]? = some (Cond.methodLink "FlyTreasuryModel" 228 yX9_readsFlies) := by decide +kernel
theorem qw_2009 : lw_tbl[2009]? = some (Cond.instanceMethod yX9_readsFlies) := by decide +kernel
theorem qw_2010 : lw_tbl[2010]? = some (Cond.code yX9_readsFlies cX9_readsFlies 1 (some FieldType.boolean)) := by decide +kernel
theorem qw_2011 : lw_tbl[2011]? = some (Cond.methodLink "FlyTreasuryModel" 219 yX9_readsKind) := by decide +kernel
theorem qw_2013 : lw_tbl[2013]? = some (Cond.instanceMethod yX9_readsKind) := by decide +kernel
theorem qw_2014 : lw_tbl[2014]? = some (Cond.code yX9_readsKind cX9_readsKind 2 (some FieldType.boolean)) := by decide +kernel
theorem qw_2015 : lw_tbl[2015]? = some (Cond.methodLink "FlyTreasuryModel" 222 yX9_readsNumber) := by decide +kernel
theorem qw_2017 : lw_tbl[2017]? = some (Cond.instanceMethod yX9_readsNumber) := by decide +kernel
theorem qw_2018 : lw_tbl[2018]? = some (Cond.code yX9_readsNumber cX9_readsNumber 2 (some FieldType.boolean)) := by decide +kernel
theorem qw_2019 : lw_tbl[2019]? = some (Cond.methodLink "FlyTreasuryModel" 232 yX9_readsS) := by decide +kernel
theorem qw_2021 : lw_tbl[2021]? = some (Cond.instanceMethod yX9_readsS) := by decide +kernel
theorem qw_2022 : lw_tbl[2022]? = some (Cond.code yX9_readsS cX9_readsS 1 (some FieldType.boolean)) := by decide +kernel
theorem qw_2023 : lw_tbl[2023]? = some (Cond.methodLink "FlyTreasuryModel" 235 yX9_readsM) := by decide +kernel
theorem qw_2025 : lw_tbl[2025]? = some (Cond.instanceMethod yX9_readsM) := by decide +kernel
theorem qw_2026 : lw_tbl[2026]? = some (Cond.code yX9_readsM cX9_readsM 1 (some FieldType.boolean)) := by decide +kernel
theorem qw_2027 : lw_tbl[2027]? = some (Cond.methodLink "FlyTreasuryModel" 238 yX9_readsDay) := by decide +kernel
theorem qw_2029 : lw_tbl[2029]? = some (Cond.instanceMethod yX9_readsDay) := by decide +kernel
theorem qw_2030 : lw_tbl[2030]? = some (Cond.code yX9_readsDay cX9_readsDay 1 (some FieldType.boolean)) := by decide +kernel
theorem qw_2031 : lw_tbl[2031]? = some (Cond.methodLink "FlyTreasuryModel" 256 yX9_doesAll) := by decide +kernel
theorem qw_2033 : lw_tbl[2033]? = some (Cond.instanceMethod yX9_doesAll) := by decide +kernel
theorem qw_2034 : lw_tbl[2034]? = some (Cond.code yX9_doesAll cX9_doesAll 2 (some FieldType.boolean)) := by decide +kernel
theorem qw_2035 : lw_tbl[2035]? = some (Cond.methodLink "FlyTreasuryModel" 247 yX9_notNow) := by decide +kernel
theorem qw_2037 : lw_tbl[2037]? = some (Cond.instanceMethod yX9_notNow) := by decide +kernel
theorem qw_2038 : lw_tbl[2038]? = some (Cond.code yX9_notNow cX9_notNow 3 (some FieldType.int)) := by decide +kernel
theorem qw_2039 : lw_tbl[2039]? = some (Cond.methodLink "FlyTreasuryModel" 250 yX9_doesNow) := by decide +kernel
theorem qw_2041 : lw_tbl[2041]? = some (Cond.instanceMethod yX9_doesNow) := by decide +kernel
theorem qw_2042 : lw_tbl[2042]? = some (Cond.code yX9_doesNow cX9_doesNow 3 (some FieldType.int)) := by decide +kernel
theorem qw_2043 : lw_tbl[2043]? = some (Cond.methodLink "FlyTreasuryModel" 259 yX9_goesBack) := by decide +kernel
theorem qw_2045 : lw_tbl[2045]? = some (Cond.instanceMethod yX9_goesBack) := by decide +kernel
theorem qw_2046 : lw_tbl[2046]? = some (Cond.code yX9_goesBack cX9_goesBack 2 none) := by decide +kernel
theorem qw_2067 : lw_tbl[2067]? = some (Cond.arrayClass FieldType.long) := by decide +kernel
theorem qw_2068 : lw_tbl[2068]? = some (Cond.arrayClass FieldType.double) := by decide +kernel
theorem qw_2069 : lw_tbl[2069]? = some (Cond.sameMethod "java/lang/AbstractStringBuilder" "java/lang/AbstractStringBuilder" "setLength" "(I)V") := by decide +kernel
theorem qw_2072 : lw_tbl[2072]? = some (Cond.sameMethod "java/lang/AbstractStringBuilder" "java/lang/AbstractStringBuilder" "ensureCapacityInternal" "(I)V") := by decide +kernel
theorem qw_2073 : lw_tbl[2073]? = some (Cond.sameMethod "java/lang/AbstractStringBuilder" "java/lang/AbstractStringBuilder" "newCapacity" "(I)I") := by decide +kernel
theorem qw_2077 : lw_tbl[2077]? = some (Cond.sameMethod "java/lang/AbstractStringBuilder" "java/lang/AbstractStringBuilder" "append" "(I)Ljava/lang/AbstractStringBuilder;") := by decide +kernel
theorem qw_2079 : lw_tbl[2079]? = some (Cond.sameMethod "java/lang/AbstractStringBuilder" "java/lang/AbstractStringBuilder" "append" "(C)Ljava/lang/AbstractStringBuilder;") := by decide +kernel
theorem qw_2080 : lw_tbl[2080]? = some (Cond.selects "java/lang/StringBuilder" yJ4_length_8abf5 yJ4_length_8abf5) := by decide +kernel
theorem qw_2081 : lw_tbl[2081]? = some (Cond.sameMethod "java/lang/AbstractStringBuilder" "java/lang/AbstractStringBuilder" "charAt" "(I)C") := by decide +kernel
theorem qw_2104 : lw_tbl[2104]? = some (Cond.fieldLink "java/lang/Enum" 7 "java/lang/Enum" "ordinal" "I") := by decide +kernel
theorem qw_2105 : lw_tbl[2105]? = some (Cond.fieldLinkNest "FlyTreasury$Script" 76 "FlyTreasury$Command" "word" "Ljava/lang/String;" "FlyTreasury") := by decide +kernel
theorem qw_2106 : lw_tbl[2106]? = some (Cond.fieldLinkNest "FlyTreasury$Script" 55 "FlyTreasury$Command" "form" "Ljava/lang/String;" "FlyTreasury") := by decide +kernel
theorem myX8_quotient : yX8_quotient.cls = "FlyTreasury" ∧ yX8_quotient.cls ≠ "java/lang/invoke/MethodHandle" ∧ yX8_quotient.cls ≠ "java/lang/invoke/VarHandle" ∧ (parseMethodDescriptor yX8_quotient.desc).map (fun d => d.parameters.length) = some 2 := by decide +kernel
theorem myX7_copyFrom : yX7_copyFrom.cls = "FlyTreasury$Vault" ∧ yX7_copyFrom.cls ≠ "java/lang/invoke/MethodHandle" ∧ yX7_copyFrom.cls ≠ "java/lang/invoke/VarHandle" ∧ (parseMethodDescriptor yX7_copyFrom.desc).map (fun d => d.parameters.length) = some 1 := by decide +kernel
theorem myX7_legsAt : yX7_legsAt.cls = "FlyTreasury$Vault" ∧ yX7_legsAt.cls ≠ "java/lang/invoke/MethodHandle" ∧ yX7_legsAt.cls ≠ "java/lang/invoke/VarHandle" ∧ (parseMethodDescriptor yX7_legsAt.desc).map (fun d => d.parameters.length) = some 1 := by decide +kernel
theorem myX7_reserveOf : yX7_reserveOf.cls = "FlyTreasury$Vault" ∧ yX7_reserveOf.cls ≠ "java/lang/invoke/MethodHandle" ∧ yX7_reserveOf.cls ≠ "java/lang/invoke/VarHandle" ∧ (parseMethodDescriptor yX7_reserveOf.desc).map (fun d => d.parameters.length) = some 1 := by decide +kernel
theorem myX7_backingOf : yX7_backingOf.cls = "FlyTreasury$Vault" ∧ yX7_backingOf.cls ≠ "java/lang/invoke/MethodHandle" ∧ yX7_backingOf.cls ≠ "java/lang/invoke/VarHandle" ∧ (parseMethodDescriptor yX7_backingOf.desc).map (fun d => d.parameters.length) = some 1 := by decide +kernel
theorem myX7_soundAt : yX7_soundAt.cls = "FlyTreasury$Vault" ∧ yX7_soundAt.cls ≠ "java/lang/invoke/MethodHandle" ∧ yX7_soundAt.cls ≠ "java/lang/invoke/VarHandle" ∧ (parseMethodDescriptor yX7_soundAt.desc).map (fun d => d.parameters.length) = some 1 := by decide +kernel
theorem myX7_dropsFreeAt : yX7_dropsFreeAt.cls = "FlyTreasury$Vault" ∧ yX7_dropsFreeAt.cls ≠ "java/lang/invoke/MethodHandle" ∧ yX7_dropsFreeAt.cls ≠ "java/lang/invoke/VarHandle" ∧ (parseMethodDescriptor yX7_dropsFreeAt.desc).map (fun d => d.parameters.length) = some 1 := by decide +kernel
theorem myX7_daysBySubtraction : yX7_daysBySubtraction.cls = "FlyTreasury$Vault" ∧ yX7_daysBySubtraction.cls ≠ "java/lang/invoke/MethodHandle" ∧ yX7_daysBySubtraction.cls ≠ "java/lang/invoke/VarHandle" ∧ (parseMethodDescriptor yX7_daysBySubtraction.desc).map (fun d => d.parameters.length) = some 1 := by decide +kernel
theorem myX7_daysByCounting : yX7_daysByCounting.cls = "FlyTreasury$Vault" ∧ yX7_daysByCounting.cls ≠ "java/lang/invoke/MethodHandle" ∧ yX7_daysByCounting.cls ≠ "java/lang/invoke/VarHandle" ∧ (parseMethodDescriptor yX7_daysByCounting.desc).map (fun d => d.parameters.length) = some 1 := by decide +kernel
theorem myX7_mostByValue : yX7_mostByValue.cls = "FlyTreasury$Vault" ∧ yX7_mostByValue.cls ≠ "java/lang/invoke/MethodHandle" ∧ yX7_mostByValue.cls ≠ "java/lang/invoke/VarHandle" ∧ (parseMethodDescriptor yX7_mostByValue.desc).map (fun d => d.parameters.length) = some 2 := by decide +kernel
theorem myX7_mostBySwaps : yX7_mostBySwaps.cls = "FlyTreasury$Vault" ∧ yX7_mostBySwaps.cls ≠ "java/lang/invoke/MethodHandle" ∧ yX7_mostBySwaps.cls ≠ "java/lang/invoke/VarHandle" ∧ (parseMethodDescriptor yX7_mostBySwaps.desc).map (fun d => d.parameters.length) = some 2 := by decide +kernel
theorem myX7_frozen : yX7_frozen.cls = "FlyTreasury$Vault" ∧ yX7_frozen.cls ≠ "java/lang/invoke/MethodHandle" ∧ yX7_frozen.cls ≠ "java/lang/invoke/VarHandle" ∧ (parseMethodDescriptor yX7_frozen.desc).map (fun d => d.parameters.length) = some 0 := by decide +kernel
theorem myX7_reward : yX7_reward.cls = "FlyTreasury$Vault" ∧ yX7_reward.cls ≠ "java/lang/invoke/MethodHandle" ∧ yX7_reward.cls ≠ "java/lang/invoke/VarHandle" ∧ (parseMethodDescriptor yX7_reward.desc).map (fun d => d.parameters.length) = some 0 := by decide +kernel
theorem myX7_punish : yX7_punish.cls = "FlyTreasury$Vault" ∧ yX7_punish.cls ≠ "java/lang/invoke/MethodHandle" ∧ yX7_punish.cls ≠ "java/lang/invoke/VarHandle" ∧ (parseMethodDescriptor yX7_punish.desc).map (fun d => d.parameters.length) = some 0 := by decide +kernel
theorem myX7_evaporate : yX7_evaporate.cls = "FlyTreasury$Vault" ∧ yX7_evaporate.cls ≠ "java/lang/invoke/MethodHandle" ∧ yX7_evaporate.cls ≠ "java/lang/invoke/VarHandle" ∧ (parseMethodDescriptor yX7_evaporate.desc).map (fun d => d.parameters.length) = some 0 := by decide +kernel
theorem myX7_thaw : yX7_thaw.cls = "FlyTreasury$Vault" ∧ yX7_thaw.cls ≠ "java/lang/invoke/MethodHandle" ∧ yX7_thaw.cls ≠ "java/lang/invoke/VarHandle" ∧ (parseMethodDescriptor yX7_thaw.desc).map (fun d => d.parameters.length) = some 0 := by decide +kernel
theorem myJ0_coder_7d493 : yJ0_coder_7d493.cls = "java/lang/String" ∧ yJ0_coder_7d493.cls ≠ "java/lang/invoke/MethodHandle" ∧ yJ0_coder_7d493.cls ≠ "java/lang/invoke/VarHandle" ∧ (parseMethodDescriptor yJ0_coder_7d493.desc).map (fun d => d.parameters.length) = some 0 := by decide +kernel
theorem myJ0_length_8abf5 : yJ0_length_8abf5.cls = "java/lang/String" ∧ yJ0_length_8abf5.cls ≠ "java/lang/invoke/MethodHandle" ∧ yJ0_length_8abf5.cls ≠ "java/lang/invoke/VarHandle" ∧ (parseMethodDescriptor yJ0_length_8abf5.desc).map (fun d => d.parameters.length) = some 0 := by decide +kernel
theorem myJ0_isLatin1_aae02 : yJ0_isLatin1_aae02.cls = "java/lang/String" ∧ yJ0_isLatin1_aae02.cls ≠ "java/lang/invoke/MethodHandle" ∧ yJ0_isLatin1_aae02.cls ≠ "java/lang/invoke/VarHandle" ∧ (parseMethodDescriptor yJ0_isLatin1_aae02.desc).map (fun d => d.parameters.length) = some 0 := by decide +kernel
theorem myJ3_checkIndex_8e157 : yJ3_checkIndex_8e157.cls = "jdk/internal/util/Preconditions" ∧ yJ3_checkIndex_8e157.cls ≠ "java/lang/invoke/MethodHandle" ∧ yJ3_checkIndex_8e157.cls ≠ "java/lang/invoke/VarHandle" ∧ (parseMethodDescriptor yJ3_checkIndex_8e157.desc).map (fun d => d.parameters.length) = some 3 := by decide +kernel
theorem myJ0_checkIndex_df160 : yJ0_checkIndex_df160.cls = "java/lang/String" ∧ yJ0_checkIndex_df160.cls ≠ "java/lang/invoke/MethodHandle" ∧ yJ0_checkIndex_df160.cls ≠ "java/lang/invoke/VarHandle" ∧ (parseMethodDescriptor yJ0_checkIndex_df160.desc).map (fun d => d.parameters.length) = some 2 := by decide +kernel
theorem myJ1_charAt_3b067 : yJ1_charAt_3b067.cls = "java/lang/StringLatin1" ∧ yJ1_charAt_3b067.cls ≠ "java/lang/invoke/MethodHandle" ∧ yJ1_charAt_3b067.cls ≠ "java/lang/invoke/VarHandle" ∧ (parseMethodDescriptor yJ1_charAt_3b067.desc).map (fun d => d.parameters.length) = some 2 := by decide +kernel
theorem myJ0_charAt_5068e : yJ0_charAt_5068e.cls = "java/lang/String" ∧ yJ0_charAt_5068e.cls ≠ "java/lang/invoke/MethodHandle" ∧ yJ0_charAt_5068e.cls ≠ "java/lang/invoke/VarHandle" ∧ (parseMethodDescriptor yJ0_charAt_5068e.desc).map (fun d => d.parameters.length) = some 1 := by decide +kernel
theorem myJ1_canEncode_9a6ad : yJ1_canEncode_9a6ad.cls = "java/lang/StringLatin1" ∧ yJ1_canEncode_9a6ad.cls ≠ "java/lang/invoke/MethodHandle" ∧ yJ1_canEncode_9a6ad.cls ≠ "java/lang/invoke/VarHandle" ∧ (parseMethodDescriptor yJ1_canEncode_9a6ad.desc).map (fun d => d.parameters.length) = some 1 := by decide +kernel
theorem myJ1_indexOfChar_4cfef : yJ1_indexOfChar_4cfef.cls = "java/lang/StringLatin1" ∧ yJ1_indexOfChar_4cfef.cls ≠ "java/lang/invoke/MethodHandle" ∧ yJ1_indexOfChar_4cfef.cls ≠ "java/lang/invoke/VarHandle" ∧ (parseMethodDescriptor yJ1_indexOfChar_4cfef.desc).map (fun d => d.parameters.length) = some 4 := by decide +kernel
theorem myJ1_indexOf_4cfef : yJ1_indexOf_4cfef.cls = "java/lang/StringLatin1" ∧ yJ1_indexOf_4cfef.cls ≠ "java/lang/invoke/MethodHandle" ∧ yJ1_indexOf_4cfef.cls ≠ "java/lang/invoke/VarHandle" ∧ (parseMethodDescriptor yJ1_indexOf_4cfef.desc).map (fun d => d.parameters.length) = some 4 := by decide +kernel
theorem myJ0_indexOf_7cf53 : yJ0_indexOf_7cf53.cls = "java/lang/String" ∧ yJ0_indexOf_7cf53.cls ≠ "java/lang/invoke/MethodHandle" ∧ yJ0_indexOf_7cf53.cls ≠ "java/lang/invoke/VarHandle" ∧ (parseMethodDescriptor yJ0_indexOf_7cf53.desc).map (fun d => d.parameters.length) = some 2 := by decide +kernel
theorem myJ0_indexOf_0f7a4 : yJ0_indexOf_0f7a4.cls = "java/lang/String" ∧ yJ0_indexOf_0f7a4.cls ≠ "java/lang/invoke/MethodHandle" ∧ yJ0_indexOf_0f7a4.cls ≠ "java/lang/invoke/VarHandle" ∧ (parseMethodDescriptor yJ0_indexOf_0f7a4.desc).map (fun d => d.parameters.length) = some 1 := by decide +kernel
theorem myJ1_canEncode_fc78d : yJ1_canEncode_fc78d.cls = "java/lang/StringLatin1" ∧ yJ1_canEncode_fc78d.cls ≠ "java/lang/invoke/MethodHandle" ∧ yJ1_canEncode_fc78d.cls ≠ "java/lang/invoke/VarHandle" ∧ (parseMethodDescriptor yJ1_canEncode_fc78d.desc).map (fun d => d.parameters.length) = some 1 := by decide +kernel
theorem myX3_copyFrom : yX3_copyFrom.cls = "FlyTreasury$Ledger" ∧ yX3_copyFrom.cls ≠ "java/lang/invoke/MethodHandle" ∧ yX3_copyFrom.cls ≠ "java/lang/invoke/VarHandle" ∧ (parseMethodDescriptor yX3_copyFrom.desc).map (fun d => d.parameters.length) = some 1 := by decide +kernel
theorem myX3_hasVault : yX3_hasVault.cls = "FlyTreasury$Ledger" ∧ yX3_hasVault.cls ≠ "java/lang/invoke/MethodHandle" ∧ yX3_hasVault.cls ≠ "java/lang/invoke/VarHandle" ∧ (parseMethodDescriptor yX3_hasVault.desc).map (fun d => d.parameters.length) = some 1 := by decide +kernel
theorem myX3_within : yX3_within.cls = "FlyTreasury$Ledger" ∧ yX3_within.cls ≠ "java/lang/invoke/MethodHandle" ∧ yX3_within.cls ≠ "java/lang/invoke/VarHandle" ∧ (parseMethodDescriptor yX3_within.desc).map (fun d => d.parameters.length) = some 3 := by decide +kernel
theorem myX3_refusalToOpen : yX3_refusalToOpen.cls = "FlyTreasury$Ledger" ∧ yX3_refusalToOpen.cls ≠ "java/lang/invoke/MethodHandle" ∧ yX3_refusalToOpen.cls ≠ "java/lang/invoke/VarHandle" ∧ (parseMethodDescriptor yX3_refusalToOpen.desc).map (fun d => d.parameters.length) = some 1 := by decide +kernel
theorem myX3_open : yX3_open.cls = "FlyTreasury$Ledger" ∧ yX3_open.cls ≠ "java/lang/invoke/MethodHandle" ∧ yX3_open.cls ≠ "java/lang/invoke/VarHandle" ∧ (parseMethodDescriptor yX3_open.desc).map (fun d => d.parameters.length) = some 1 := by decide +kernel
theorem myX3_refusalToPut : yX3_refusalToPut.cls = "FlyTreasury$Ledger" ∧ yX3_refusalToPut.cls ≠ "java/lang/invoke/MethodHandle" ∧ yX3_refusalToPut.cls ≠ "java/lang/invoke/VarHandle" ∧ (parseMethodDescriptor yX3_refusalToPut.desc).map (fun d => d.parameters.length) = some 3 := by decide +kernel
theorem myX3_put : yX3_put.cls = "FlyTreasury$Ledger" ∧ yX3_put.cls ≠ "java/lang/invoke/MethodHandle" ∧ yX3_put.cls ≠ "java/lang/invoke/VarHandle" ∧ (parseMethodDescriptor yX3_put.desc).map (fun d => d.parameters.length) = some 3 := by decide +kernel
theorem myX3_refusalToTake : yX3_refusalToTake.cls = "FlyTreasury$Ledger" ∧ yX3_refusalToTake.cls ≠ "java/lang/invoke/MethodHandle" ∧ yX3_refusalToTake.cls ≠ "java/lang/invoke/VarHandle" ∧ (parseMethodDescriptor yX3_refusalToTake.desc).map (fun d => d.parameters.length) = some 3 := by decide +kernel
theorem myX3_take : yX3_take.cls = "FlyTreasury$Ledger" ∧ yX3_take.cls ≠ "java/lang/invoke/MethodHandle" ∧ yX3_take.cls ≠ "java/lang/invoke/VarHandle" ∧ (parseMethodDescriptor yX3_take.desc).map (fun d => d.parameters.length) = some 3 := by decide +kernel
theorem myX3_refusalToSwap : yX3_refusalToSwap.cls = "FlyTreasury$Ledger" ∧ yX3_refusalToSwap.cls ≠ "java/lang/invoke/MethodHandle" ∧ yX3_refusalToSwap.cls ≠ "java/lang/invoke/VarHandle" ∧ (parseMethodDescriptor yX3_refusalToSwap.desc).map (fun d => d.parameters.length) = some 4 := by decide +kernel
theorem myX3_swap : yX3_swap.cls = "FlyTreasury$Ledger" ∧ yX3_swap.cls ≠ "java/lang/invoke/MethodHandle" ∧ yX3_swap.cls ≠ "java/lang/invoke/VarHandle" ∧ (parseMethodDescriptor yX3_swap.desc).map (fun d => d.parameters.length) = some 4 := by decide +kernel
theorem myX3_refusalToIssue : yX3_refusalToIssue.cls = "FlyTreasury$Ledger" ∧ yX3_refusalToIssue.cls ≠ "java/lang/invoke/MethodHandle" ∧ yX3_refusalToIssue.cls ≠ "java/lang/invoke/VarHandle" ∧ (parseMethodDescriptor yX3_refusalToIssue.desc).map (fun d => d.parameters.length) = some 2 := by decide +kernel
theorem myX3_issue : yX3_issue.cls = "FlyTreasury$Ledger" ∧ yX3_issue.cls ≠ "java/lang/invoke/MethodHandle" ∧ yX3_issue.cls ≠ "java/lang/invoke/VarHandle" ∧ (parseMethodDescriptor yX3_issue.desc).map (fun d => d.parameters.length) = some 2 := by decide +kernel
theorem myX3_refusalToMelt : yX3_refusalToMelt.cls = "FlyTreasury$Ledger" ∧ yX3_refusalToMelt.cls ≠ "java/lang/invoke/MethodHandle" ∧ yX3_refusalToMelt.cls ≠ "java/lang/invoke/VarHandle" ∧ (parseMethodDescriptor yX3_refusalToMelt.desc).map (fun d => d.parameters.length) = some 2 := by decide +kernel
theorem myX3_melt : yX3_melt.cls = "FlyTreasury$Ledger" ∧ yX3_melt.cls ≠ "java/lang/invoke/MethodHandle" ∧ yX3_melt.cls ≠ "java/lang/invoke/VarHandle" ∧ (parseMethodDescriptor yX3_melt.desc).map (fun d => d.parameters.length) = some 2 := by decide +kernel
theorem myX3_refusalToInspect : yX3_refusalToInspect.cls = "FlyTreasury$Ledger" ∧ yX3_refusalToInspect.cls ≠ "java/lang/invoke/MethodHandle" ∧ yX3_refusalToInspect.cls ≠ "java/lang/invoke/VarHandle" ∧ (parseMethodDescriptor yX3_refusalToInspect.desc).map (fun d => d.parameters.length) = some 1 := by decide +kernel
theorem myX3_inspect : yX3_inspect.cls = "FlyTreasury$Ledger" ∧ yX3_inspect.cls ≠ "java/lang/invoke/MethodHandle" ∧ yX3_inspect.cls ≠ "java/lang/invoke/VarHandle" ∧ (parseMethodDescriptor yX3_inspect.desc).map (fun d => d.parameters.length) = some 1 := by decide +kernel
theorem myX3_refusalToRate : yX3_refusalToRate.cls = "FlyTreasury$Ledger" ∧ yX3_refusalToRate.cls ≠ "java/lang/invoke/MethodHandle" ∧ yX3_refusalToRate.cls ≠ "java/lang/invoke/VarHandle" ∧ (parseMethodDescriptor yX3_refusalToRate.desc).map (fun d => d.parameters.length) = some 2 := by decide +kernel
theorem myX3_changeRate : yX3_changeRate.cls = "FlyTreasury$Ledger" ∧ yX3_changeRate.cls ≠ "java/lang/invoke/MethodHandle" ∧ yX3_changeRate.cls ≠ "java/lang/invoke/VarHandle" ∧ (parseMethodDescriptor yX3_changeRate.desc).map (fun d => d.parameters.length) = some 2 := by decide +kernel
theorem myX3_refusalToStick : yX3_refusalToStick.cls = "FlyTreasury$Ledger" ∧ yX3_refusalToStick.cls ≠ "java/lang/invoke/MethodHandle" ∧ yX3_refusalToStick.cls ≠ "java/lang/invoke/VarHandle" ∧ (parseMethodDescriptor yX3_refusalToStick.desc).map (fun d => d.parameters.length) = some 2 := by decide +kernel
theorem myX3_changeStickiness : yX3_changeStickiness.cls = "FlyTreasury$Ledger" ∧ yX3_changeStickiness.cls ≠ "java/lang/invoke/MethodHandle" ∧ yX3_changeStickiness.cls ≠ "java/lang/invoke/VarHandle" ∧ (parseMethodDescriptor yX3_changeStickiness.desc).map (fun d => d.parameters.length) = some 2 := by decide +kernel
theorem myX3_refusalToWait : yX3_refusalToWait.cls = "FlyTreasury$Ledger" ∧ yX3_refusalToWait.cls ≠ "java/lang/invoke/MethodHandle" ∧ yX3_refusalToWait.cls ≠ "java/lang/invoke/VarHandle" ∧ (parseMethodDescriptor yX3_refusalToWait.desc).map (fun d => d.parameters.length) = some 1 := by decide +kernel
theorem myX3_letOneDayPass : yX3_letOneDayPass.cls = "FlyTreasury$Ledger" ∧ yX3_letOneDayPass.cls ≠ "java/lang/invoke/MethodHandle" ∧ yX3_letOneDayPass.cls ≠ "java/lang/invoke/VarHandle" ∧ (parseMethodDescriptor yX3_letOneDayPass.desc).map (fun d => d.parameters.length) = some 0 := by decide +kernel
theorem myX3_letPass : yX3_letPass.cls = "FlyTreasury$Ledger" ∧ yX3_letPass.cls ≠ "java/lang/invoke/MethodHandle" ∧ yX3_letPass.cls ≠ "java/lang/invoke/VarHandle" ∧ (parseMethodDescriptor yX3_letPass.desc).map (fun d => d.parameters.length) = some 1 := by decide +kernel
theorem myX3_fliesByVaults : yX3_fliesByVaults.cls = "FlyTreasury$Ledger" ∧ yX3_fliesByVaults.cls ≠ "java/lang/invoke/MethodHandle" ∧ yX3_fliesByVaults.cls ≠ "java/lang/invoke/VarHandle" ∧ (parseMethodDescriptor yX3_fliesByVaults.desc).map (fun d => d.parameters.length) = some 1 := by decide +kernel
theorem myX3_fliesByAccounts : yX3_fliesByAccounts.cls = "FlyTreasury$Ledger" ∧ yX3_fliesByAccounts.cls ≠ "java/lang/invoke/MethodHandle" ∧ yX3_fliesByAccounts.cls ≠ "java/lang/invoke/VarHandle" ∧ (parseMethodDescriptor yX3_fliesByAccounts.desc).map (fun d => d.parameters.length) = some 1 := by decide +kernel
theorem myX3_valueByVaults : yX3_valueByVaults.cls = "FlyTreasury$Ledger" ∧ yX3_valueByVaults.cls ≠ "java/lang/invoke/MethodHandle" ∧ yX3_valueByVaults.cls ≠ "java/lang/invoke/VarHandle" ∧ (parseMethodDescriptor yX3_valueByVaults.desc).map (fun d => d.parameters.length) = some 0 := by decide +kernel
theorem myX3_valueOfKind : yX3_valueOfKind.cls = "FlyTreasury$Ledger" ∧ yX3_valueOfKind.cls ≠ "java/lang/invoke/MethodHandle" ∧ yX3_valueOfKind.cls ≠ "java/lang/invoke/VarHandle" ∧ (parseMethodDescriptor yX3_valueOfKind.desc).map (fun d => d.parameters.length) = some 1 := by decide +kernel
theorem myX3_valueByKinds : yX3_valueByKinds.cls = "FlyTreasury$Ledger" ∧ yX3_valueByKinds.cls ≠ "java/lang/invoke/MethodHandle" ∧ yX3_valueByKinds.cls ≠ "java/lang/invoke/VarHandle" ∧ (parseMethodDescriptor yX3_valueByKinds.desc).map (fun d => d.parameters.length) = some 0 := by decide +kernel
theorem myX3_ranksBefore : yX3_ranksBefore.cls = "FlyTreasury$Ledger" ∧ yX3_ranksBefore.cls ≠ "java/lang/invoke/MethodHandle" ∧ yX3_ranksBefore.cls ≠ "java/lang/invoke/VarHandle" ∧ (parseMethodDescriptor yX3_ranksBefore.desc).map (fun d => d.parameters.length) = some 2 := by decide +kernel
theorem myX3_vaultAtRank : yX3_vaultAtRank.cls = "FlyTreasury$Ledger" ∧ yX3_vaultAtRank.cls ≠ "java/lang/invoke/MethodHandle" ∧ yX3_vaultAtRank.cls ≠ "java/lang/invoke/VarHandle" ∧ (parseMethodDescriptor yX3_vaultAtRank.desc).map (fun d => d.parameters.length) = some 1 := by decide +kernel
theorem myX3_kindRanksBefore : yX3_kindRanksBefore.cls = "FlyTreasury$Ledger" ∧ yX3_kindRanksBefore.cls ≠ "java/lang/invoke/MethodHandle" ∧ yX3_kindRanksBefore.cls ≠ "java/lang/invoke/VarHandle" ∧ (parseMethodDescriptor yX3_kindRanksBefore.desc).map (fun d => d.parameters.length) = some 2 := by decide +kernel
theorem myX3_kindAtRank : yX3_kindAtRank.cls = "FlyTreasury$Ledger" ∧ yX3_kindAtRank.cls ≠ "java/lang/invoke/MethodHandle" ∧ yX3_kindAtRank.cls ≠ "java/lang/invoke/VarHandle" ∧ (parseMethodDescriptor yX3_kindAtRank.desc).map (fun d => d.parameters.length) = some 1 := by decide +kernel
theorem myX3_fliesAgree : yX3_fliesAgree.cls = "FlyTreasury$Ledger" ∧ yX3_fliesAgree.cls ≠ "java/lang/invoke/MethodHandle" ∧ yX3_fliesAgree.cls ≠ "java/lang/invoke/VarHandle" ∧ (parseMethodDescriptor yX3_fliesAgree.desc).map (fun d => d.parameters.length) = some 0 := by decide +kernel
theorem myX3_valuesAgree : yX3_valuesAgree.cls = "FlyTreasury$Ledger" ∧ yX3_valuesAgree.cls ≠ "java/lang/invoke/MethodHandle" ∧ yX3_valuesAgree.cls ≠ "java/lang/invoke/VarHandle" ∧ (parseMethodDescriptor yX3_valuesAgree.desc).map (fun d => d.parameters.length) = some 0 := by decide +kernel
theorem myX3_predictionsAgree : yX3_predictionsAgree.cls = "FlyTreasury$Ledger" ∧ yX3_predictionsAgree.cls ≠ "java/lang/invoke/MethodHandle" ∧ yX3_predictionsAgree.cls ≠ "java/lang/invoke/VarHandle" ∧ (parseMethodDescriptor yX3_predictionsAgree.desc).map (fun d => d.parameters.length) = some 0 := by decide +kernel
theorem myX3_dewAgrees : yX3_dewAgrees.cls = "FlyTreasury$Ledger" ∧ yX3_dewAgrees.cls ≠ "java/lang/invoke/MethodHandle" ∧ yX3_dewAgrees.cls ≠ "java/lang/invoke/VarHandle" ∧ (parseMethodDescriptor yX3_dewAgrees.desc).map (fun d => d.parameters.length) = some 0 := by decide +kernel
theorem myX2_remember : yX2_remember.cls = "FlyTreasury$History" ∧ yX2_remember.cls ≠ "java/lang/invoke/MethodHandle" ∧ yX2_remember.cls ≠ "java/lang/invoke/VarHandle" ∧ (parseMethodDescriptor yX2_remember.desc).map (fun d => d.parameters.length) = some 1 := by decide +kernel
theorem myX2_takeBack : yX2_takeBack.cls = "FlyTreasury$History" ∧ yX2_takeBack.cls ≠ "java/lang/invoke/MethodHandle" ∧ yX2_takeBack.cls ≠ "java/lang/invoke/VarHandle" ∧ (parseMethodDescriptor yX2_takeBack.desc).map (fun d => d.parameters.length) = some 1 := by decide +kernel
theorem myX6_append : yX6_append.cls = "FlyTreasury$Script" ∧ yX6_append.cls ≠ "java/lang/invoke/MethodHandle" ∧ yX6_append.cls ≠ "java/lang/invoke/VarHandle" ∧ (parseMethodDescriptor yX6_append.desc).map (fun d => d.parameters.length) = some 1 := by decide +kernel
theorem myX6_signAt : yX6_signAt.cls = "FlyTreasury$Script" ∧ yX6_signAt.cls ≠ "java/lang/invoke/MethodHandle" ∧ yX6_signAt.cls ≠ "java/lang/invoke/VarHandle" ∧ (parseMethodDescriptor yX6_signAt.desc).map (fun d => d.parameters.length) = some 1 := by decide +kernel
theorem myX6_fitOf : yX6_fitOf.cls = "FlyTreasury$Script" ∧ yX6_fitOf.cls ≠ "java/lang/invoke/MethodHandle" ∧ yX6_fitOf.cls ≠ "java/lang/invoke/VarHandle" ∧ (parseMethodDescriptor yX6_fitOf.desc).map (fun d => d.parameters.length) = some 1 := by decide +kernel
theorem myX6_readWord : yX6_readWord.cls = "FlyTreasury$Script" ∧ yX6_readWord.cls ≠ "java/lang/invoke/MethodHandle" ∧ yX6_readWord.cls ≠ "java/lang/invoke/VarHandle" ∧ (parseMethodDescriptor yX6_readWord.desc).map (fun d => d.parameters.length) = some 1 := by decide +kernel
theorem myX6_readSign : yX6_readSign.cls = "FlyTreasury$Script" ∧ yX6_readSign.cls ≠ "java/lang/invoke/MethodHandle" ∧ yX6_readSign.cls ≠ "java/lang/invoke/VarHandle" ∧ (parseMethodDescriptor yX6_readSign.desc).map (fun d => d.parameters.length) = some 1 := by decide +kernel
theorem myX6_readDigit : yX6_readDigit.cls = "FlyTreasury$Script" ∧ yX6_readDigit.cls ≠ "java/lang/invoke/MethodHandle" ∧ yX6_readDigit.cls ≠ "java/lang/invoke/VarHandle" ∧ (parseMethodDescriptor yX6_readDigit.desc).map (fun d => d.parameters.length) = some 0 := by decide +kernel
theorem myX6_readNumber : yX6_readNumber.cls = "FlyTreasury$Script" ∧ yX6_readNumber.cls ≠ "java/lang/invoke/MethodHandle" ∧ yX6_readNumber.cls ≠ "java/lang/invoke/VarHandle" ∧ (parseMethodDescriptor yX6_readNumber.desc).map (fun d => d.parameters.length) = some 0 := by decide +kernel
theorem myX6_readKind : yX6_readKind.cls = "FlyTreasury$Script" ∧ yX6_readKind.cls ≠ "java/lang/invoke/MethodHandle" ∧ yX6_readKind.cls ≠ "java/lang/invoke/VarHandle" ∧ (parseMethodDescriptor yX6_readKind.desc).map (fun d => d.parameters.length) = some 0 := by decide +kernel
theorem myX6_readPart : yX6_readPart.cls = "FlyTreasury$Script" ∧ yX6_readPart.cls ≠ "java/lang/invoke/MethodHandle" ∧ yX6_readPart.cls ≠ "java/lang/invoke/VarHandle" ∧ (parseMethodDescriptor yX6_readPart.desc).map (fun d => d.parameters.length) = some 2 := by decide +kernel
theorem myX6_readDays : yX6_readDays.cls = "FlyTreasury$Script" ∧ yX6_readDays.cls ≠ "java/lang/invoke/MethodHandle" ∧ yX6_readDays.cls ≠ "java/lang/invoke/VarHandle" ∧ (parseMethodDescriptor yX6_readDays.desc).map (fun d => d.parameters.length) = some 1 := by decide +kernel
theorem myX6_readOrder : yX6_readOrder.cls = "FlyTreasury$Script" ∧ yX6_readOrder.cls ≠ "java/lang/invoke/MethodHandle" ∧ yX6_readOrder.cls ≠ "java/lang/invoke/VarHandle" ∧ (parseMethodDescriptor yX6_readOrder.desc).map (fun d => d.parameters.length) = some 1 := by decide +kernel
theorem myX6_parse : yX6_parse.cls = "FlyTreasury$Script" ∧ yX6_parse.cls ≠ "java/lang/invoke/MethodHandle" ∧ yX6_parse.cls ≠ "java/lang/invoke/VarHandle" ∧ (parseMethodDescriptor yX6_parse.desc).map (fun d => d.parameters.length) = some 0 := by decide +kernel
theorem myX8_demand : yX8_demand.cls = "FlyTreasury" ∧ yX8_demand.cls ≠ "java/lang/invoke/MethodHandle" ∧ yX8_demand.cls ≠ "java/lang/invoke/VarHandle" ∧ (parseMethodDescriptor yX8_demand.desc).map (fun d => d.parameters.length) = some 1 := by decide +kernel
theorem myX8_addVault : yX8_addVault.cls = "FlyTreasury" ∧ yX8_addVault.cls ≠ "java/lang/invoke/MethodHandle" ∧ yX8_addVault.cls ≠ "java/lang/invoke/VarHandle" ∧ (parseMethodDescriptor yX8_addVault.desc).map (fun d => d.parameters.length) = some 1 := by decide +kernel
theorem myX8_deposit : yX8_deposit.cls = "FlyTreasury" ∧ yX8_deposit.cls ≠ "java/lang/invoke/MethodHandle" ∧ yX8_deposit.cls ≠ "java/lang/invoke/VarHandle" ∧ (parseMethodDescriptor yX8_deposit.desc).map (fun d => d.parameters.length) = some 3 := by decide +kernel
theorem myX8_withdraw : yX8_withdraw.cls = "FlyTreasury" ∧ yX8_withdraw.cls ≠ "java/lang/invoke/MethodHandle" ∧ yX8_withdraw.cls ≠ "java/lang/invoke/VarHandle" ∧ (parseMethodDescriptor yX8_withdraw.desc).map (fun d => d.parameters.length) = some 3 := by decide +kernel
theorem myX8_exchange : yX8_exchange.cls = "FlyTreasury" ∧ yX8_exchange.cls ≠ "java/lang/invoke/MethodHandle" ∧ yX8_exchange.cls ≠ "java/lang/invoke/VarHandle" ∧ (parseMethodDescriptor yX8_exchange.desc).map (fun d => d.parameters.length) = some 4 := by decide +kernel
theorem myX8_mint : yX8_mint.cls = "FlyTreasury" ∧ yX8_mint.cls ≠ "java/lang/invoke/MethodHandle" ∧ yX8_mint.cls ≠ "java/lang/invoke/VarHandle" ∧ (parseMethodDescriptor yX8_mint.desc).map (fun d => d.parameters.length) = some 2 := by decide +kernel
theorem myX8_redeem : yX8_redeem.cls = "FlyTreasury" ∧ yX8_redeem.cls ≠ "java/lang/invoke/MethodHandle" ∧ yX8_redeem.cls ≠ "java/lang/invoke/VarHandle" ∧ (parseMethodDescriptor yX8_redeem.desc).map (fun d => d.parameters.length) = some 2 := by decide +kernel
theorem myX8_audit : yX8_audit.cls = "FlyTreasury" ∧ yX8_audit.cls ≠ "java/lang/invoke/MethodHandle" ∧ yX8_audit.cls ≠ "java/lang/invoke/VarHandle" ∧ (parseMethodDescriptor yX8_audit.desc).map (fun d => d.parameters.length) = some 1 := by decide +kernel
theorem myX8_setRate : yX8_setRate.cls = "FlyTreasury" ∧ yX8_setRate.cls ≠ "java/lang/invoke/MethodHandle" ∧ yX8_setRate.cls ≠ "java/lang/invoke/VarHandle" ∧ (parseMethodDescriptor yX8_setRate.desc).map (fun d => d.parameters.length) = some 2 := by decide +kernel
theorem myX8_setStickiness : yX8_setStickiness.cls = "FlyTreasury" ∧ yX8_setStickiness.cls ≠ "java/lang/invoke/MethodHandle" ∧ yX8_setStickiness.cls ≠ "java/lang/invoke/VarHandle" ∧ (parseMethodDescriptor yX8_setStickiness.desc).map (fun d => d.parameters.length) = some 2 := by decide +kernel
theorem myX8_passDays : yX8_passDays.cls = "FlyTreasury" ∧ yX8_passDays.cls ≠ "java/lang/invoke/MethodHandle" ∧ yX8_passDays.cls ≠ "java/lang/invoke/VarHandle" ∧ (parseMethodDescriptor yX8_passDays.desc).map (fun d => d.parameters.length) = some 1 := by decide +kernel
theorem myX8_vaultCount : yX8_vaultCount.cls = "FlyTreasury" ∧ yX8_vaultCount.cls ≠ "java/lang/invoke/MethodHandle" ∧ yX8_vaultCount.cls ≠ "java/lang/invoke/VarHandle" ∧ (parseMethodDescriptor yX8_vaultCount.desc).map (fun d => d.parameters.length) = some 0 := by decide +kernel
theorem myX8_vaultAt : yX8_vaultAt.cls = "FlyTreasury" ∧ yX8_vaultAt.cls ≠ "java/lang/invoke/MethodHandle" ∧ yX8_vaultAt.cls ≠ "java/lang/invoke/VarHandle" ∧ (parseMethodDescriptor yX8_vaultAt.desc).map (fun d => d.parameters.length) = some 1 := by decide +kernel
theorem myX8_kindNumber : yX8_kindNumber.cls = "FlyTreasury" ∧ yX8_kindNumber.cls ≠ "java/lang/invoke/MethodHandle" ∧ yX8_kindNumber.cls ≠ "java/lang/invoke/VarHandle" ∧ (parseMethodDescriptor yX8_kindNumber.desc).map (fun d => d.parameters.length) = some 1 := by decide +kernel
theorem myX8_flies : yX8_flies.cls = "FlyTreasury" ∧ yX8_flies.cls ≠ "java/lang/invoke/MethodHandle" ∧ yX8_flies.cls ≠ "java/lang/invoke/VarHandle" ∧ (parseMethodDescriptor yX8_flies.desc).map (fun d => d.parameters.length) = some 2 := by decide +kernel
theorem myX8_crumbs : yX8_crumbs.cls = "FlyTreasury" ∧ yX8_crumbs.cls ≠ "java/lang/invoke/MethodHandle" ∧ yX8_crumbs.cls ≠ "java/lang/invoke/VarHandle" ∧ (parseMethodDescriptor yX8_crumbs.desc).map (fun d => d.parameters.length) = some 1 := by decide +kernel
theorem myX8_dew : yX8_dew.cls = "FlyTreasury" ∧ yX8_dew.cls ≠ "java/lang/invoke/MethodHandle" ∧ yX8_dew.cls ≠ "java/lang/invoke/VarHandle" ∧ (parseMethodDescriptor yX8_dew.desc).map (fun d => d.parameters.length) = some 1 := by decide +kernel
theorem myX8_wings : yX8_wings.cls = "FlyTreasury" ∧ yX8_wings.cls ≠ "java/lang/invoke/MethodHandle" ∧ yX8_wings.cls ≠ "java/lang/invoke/VarHandle" ∧ (parseMethodDescriptor yX8_wings.desc).map (fun d => d.parameters.length) = some 1 := by decide +kernel
theorem myX8_stickiness : yX8_stickiness.cls = "FlyTreasury" ∧ yX8_stickiness.cls ≠ "java/lang/invoke/MethodHandle" ∧ yX8_stickiness.cls ≠ "java/lang/invoke/VarHandle" ∧ (parseMethodDescriptor yX8_stickiness.desc).map (fun d => d.parameters.length) = some 1 := by decide +kernel
theorem myX8_isFrozen : yX8_isFrozen.cls = "FlyTreasury" ∧ yX8_isFrozen.cls ≠ "java/lang/invoke/MethodHandle" ∧ yX8_isFrozen.cls ≠ "java/lang/invoke/VarHandle" ∧ (parseMethodDescriptor yX8_isFrozen.desc).map (fun d => d.parameters.length) = some 1 := by decide +kernel
theorem myX8_daysUntilThaw : yX8_daysUntilThaw.cls = "FlyTreasury" ∧ yX8_daysUntilThaw.cls ≠ "java/lang/invoke/MethodHandle" ∧ yX8_daysUntilThaw.cls ≠ "java/lang/invoke/VarHandle" ∧ (parseMethodDescriptor yX8_daysUntilThaw.desc).map (fun d => d.parameters.length) = some 1 := by decide +kernel
theorem myX8_value : yX8_value.cls = "FlyTreasury" ∧ yX8_value.cls ≠ "java/lang/invoke/MethodHandle" ∧ yX8_value.cls ≠ "java/lang/invoke/VarHandle" ∧ (parseMethodDescriptor yX8_value.desc).map (fun d => d.parameters.length) = some 1 := by decide +kernel
theorem myX8_reserve : yX8_reserve.cls = "FlyTreasury" ∧ yX8_reserve.cls ≠ "java/lang/invoke/MethodHandle" ∧ yX8_reserve.cls ≠ "java/lang/invoke/VarHandle" ∧ (parseMethodDescriptor yX8_reserve.desc).map (fun d => d.parameters.length) = some 1 := by decide +kernel
theorem myX8_isSound : yX8_isSound.cls = "FlyTreasury" ∧ yX8_isSound.cls ≠ "java/lang/invoke/MethodHandle" ∧ yX8_isSound.cls ≠ "java/lang/invoke/VarHandle" ∧ (parseMethodDescriptor yX8_isSound.desc).map (fun d => d.parameters.length) = some 1 := by decide +kernel
theorem myX8_mintable : yX8_mintable.cls = "FlyTreasury" ∧ yX8_mintable.cls ≠ "java/lang/invoke/MethodHandle" ∧ yX8_mintable.cls ≠ "java/lang/invoke/VarHandle" ∧ (parseMethodDescriptor yX8_mintable.desc).map (fun d => d.parameters.length) = some 1 := by decide +kernel
theorem myX8_daysUntilSound : yX8_daysUntilSound.cls = "FlyTreasury" ∧ yX8_daysUntilSound.cls ≠ "java/lang/invoke/MethodHandle" ∧ yX8_daysUntilSound.cls ≠ "java/lang/invoke/VarHandle" ∧ (parseMethodDescriptor yX8_daysUntilSound.desc).map (fun d => d.parameters.length) = some 1 := by decide +kernel
theorem myX8_daysUntilSoundByCounting : yX8_daysUntilSoundByCounting.cls = "FlyTreasury" ∧ yX8_daysUntilSoundByCounting.cls ≠ "java/lang/invoke/MethodHandle" ∧ yX8_daysUntilSoundByCounting.cls ≠ "java/lang/invoke/VarHandle" ∧ (parseMethodDescriptor yX8_daysUntilSoundByCounting.desc).map (fun d => d.parameters.length) = some 1 := by decide +kernel
theorem myX8_mostFlies : yX8_mostFlies.cls = "FlyTreasury" ∧ yX8_mostFlies.cls ≠ "java/lang/invoke/MethodHandle" ∧ yX8_mostFlies.cls ≠ "java/lang/invoke/VarHandle" ∧ (parseMethodDescriptor yX8_mostFlies.desc).map (fun d => d.parameters.length) = some 2 := by decide +kernel
theorem myX8_mostFliesByExchanges : yX8_mostFliesByExchanges.cls = "FlyTreasury" ∧ yX8_mostFliesByExchanges.cls ≠ "java/lang/invoke/MethodHandle" ∧ yX8_mostFliesByExchanges.cls ≠ "java/lang/invoke/VarHandle" ∧ (parseMethodDescriptor yX8_mostFliesByExchanges.desc).map (fun d => d.parameters.length) = some 2 := by decide +kernel
theorem myX8_rate : yX8_rate.cls = "FlyTreasury" ∧ yX8_rate.cls ≠ "java/lang/invoke/MethodHandle" ∧ yX8_rate.cls ≠ "java/lang/invoke/VarHandle" ∧ (parseMethodDescriptor yX8_rate.desc).map (fun d => d.parameters.length) = some 1 := by decide +kernel
theorem myX8_totalFlies : yX8_totalFlies.cls = "FlyTreasury" ∧ yX8_totalFlies.cls ≠ "java/lang/invoke/MethodHandle" ∧ yX8_totalFlies.cls ≠ "java/lang/invoke/VarHandle" ∧ (parseMethodDescriptor yX8_totalFlies.desc).map (fun d => d.parameters.length) = some 1 := by decide +kernel
theorem myX8_totalFliesByAccounts : yX8_totalFliesByAccounts.cls = "FlyTreasury" ∧ yX8_totalFliesByAccounts.cls ≠ "java/lang/invoke/MethodHandle" ∧ yX8_totalFliesByAccounts.cls ≠ "java/lang/invoke/VarHandle" ∧ (parseMethodDescriptor yX8_totalFliesByAccounts.desc).map (fun d => d.parameters.length) = some 1 := by decide +kernel
theorem myX8_totalValue : yX8_totalValue.cls = "FlyTreasury" ∧ yX8_totalValue.cls ≠ "java/lang/invoke/MethodHandle" ∧ yX8_totalValue.cls ≠ "java/lang/invoke/VarHandle" ∧ (parseMethodDescriptor yX8_totalValue.desc).map (fun d => d.parameters.length) = some 0 := by decide +kernel
theorem myX8_totalValueByKinds : yX8_totalValueByKinds.cls = "FlyTreasury" ∧ yX8_totalValueByKinds.cls ≠ "java/lang/invoke/MethodHandle" ∧ yX8_totalValueByKinds.cls ≠ "java/lang/invoke/VarHandle" ∧ (parseMethodDescriptor yX8_totalValueByKinds.desc).map (fun d => d.parameters.length) = some 0 := by decide +kernel
theorem myX8_vaultByValue : yX8_vaultByValue.cls = "FlyTreasury" ∧ yX8_vaultByValue.cls ≠ "java/lang/invoke/MethodHandle" ∧ yX8_vaultByValue.cls ≠ "java/lang/invoke/VarHandle" ∧ (parseMethodDescriptor yX8_vaultByValue.desc).map (fun d => d.parameters.length) = some 1 := by decide +kernel
theorem myX8_kindByValue : yX8_kindByValue.cls = "FlyTreasury" ∧ yX8_kindByValue.cls ≠ "java/lang/invoke/MethodHandle" ∧ yX8_kindByValue.cls ≠ "java/lang/invoke/VarHandle" ∧ (parseMethodDescriptor yX8_kindByValue.desc).map (fun d => d.parameters.length) = some 1 := by decide +kernel
theorem myX8_day : yX8_day.cls = "FlyTreasury" ∧ yX8_day.cls ≠ "java/lang/invoke/MethodHandle" ∧ yX8_day.cls ≠ "java/lang/invoke/VarHandle" ∧ (parseMethodDescriptor yX8_day.desc).map (fun d => d.parameters.length) = some 0 := by decide +kernel
theorem myX8_mintedTotal : yX8_mintedTotal.cls = "FlyTreasury" ∧ yX8_mintedTotal.cls ≠ "java/lang/invoke/MethodHandle" ∧ yX8_mintedTotal.cls ≠ "java/lang/invoke/VarHandle" ∧ (parseMethodDescriptor yX8_mintedTotal.desc).map (fun d => d.parameters.length) = some 0 := by decide +kernel
theorem myX8_redeemedTotal : yX8_redeemedTotal.cls = "FlyTreasury" ∧ yX8_redeemedTotal.cls ≠ "java/lang/invoke/MethodHandle" ∧ yX8_redeemedTotal.cls ≠ "java/lang/invoke/VarHandle" ∧ (parseMethodDescriptor yX8_redeemedTotal.desc).map (fun d => d.parameters.length) = some 0 := by decide +kernel
theorem myX8_evaporatedTotal : yX8_evaporatedTotal.cls = "FlyTreasury" ∧ yX8_evaporatedTotal.cls ≠ "java/lang/invoke/MethodHandle" ∧ yX8_evaporatedTotal.cls ≠ "java/lang/invoke/VarHandle" ∧ (parseMethodDescriptor yX8_evaporatedTotal.desc).map (fun d => d.parameters.length) = some 0 := by decide +kernel
theorem myX8_auditTotal : yX8_auditTotal.cls = "FlyTreasury" ∧ yX8_auditTotal.cls ≠ "java/lang/invoke/MethodHandle" ∧ yX8_auditTotal.cls ≠ "java/lang/invoke/VarHandle" ∧ (parseMethodDescriptor yX8_auditTotal.desc).map (fun d => d.parameters.length) = some 0 := by decide +kernel
theorem myX8_soundAuditTotal : yX8_soundAuditTotal.cls = "FlyTreasury" ∧ yX8_soundAuditTotal.cls ≠ "java/lang/invoke/MethodHandle" ∧ yX8_soundAuditTotal.cls ≠ "java/lang/invoke/VarHandle" ∧ (parseMethodDescriptor yX8_soundAuditTotal.desc).map (fun d => d.parameters.length) = some 0 := by decide +kernel
theorem myX8_meanValue : yX8_meanValue.cls = "FlyTreasury" ∧ yX8_meanValue.cls ≠ "java/lang/invoke/MethodHandle" ∧ yX8_meanValue.cls ≠ "java/lang/invoke/VarHandle" ∧ (parseMethodDescriptor yX8_meanValue.desc).map (fun d => d.parameters.length) = some 0 := by decide +kernel
theorem myX8_soundShare : yX8_soundShare.cls = "FlyTreasury" ∧ yX8_soundShare.cls ≠ "java/lang/invoke/MethodHandle" ∧ yX8_soundShare.cls ≠ "java/lang/invoke/VarHandle" ∧ (parseMethodDescriptor yX8_soundShare.desc).map (fun d => d.parameters.length) = some 0 := by decide +kernel
theorem myX8_isConsistent : yX8_isConsistent.cls = "FlyTreasury" ∧ yX8_isConsistent.cls ≠ "java/lang/invoke/MethodHandle" ∧ yX8_isConsistent.cls ≠ "java/lang/invoke/VarHandle" ∧ (parseMethodDescriptor yX8_isConsistent.desc).map (fun d => d.parameters.length) = some 0 := by decide +kernel
theorem myX8_type : yX8_type.cls = "FlyTreasury" ∧ yX8_type.cls ≠ "java/lang/invoke/MethodHandle" ∧ yX8_type.cls ≠ "java/lang/invoke/VarHandle" ∧ (parseMethodDescriptor yX8_type.desc).map (fun d => d.parameters.length) = some 1 := by decide +kernel
theorem myX8_refusalOf : yX8_refusalOf.cls = "FlyTreasury" ∧ yX8_refusalOf.cls ≠ "java/lang/invoke/MethodHandle" ∧ yX8_refusalOf.cls ≠ "java/lang/invoke/VarHandle" ∧ (parseMethodDescriptor yX8_refusalOf.desc).map (fun d => d.parameters.length) = some 1 := by decide +kernel
theorem myX8_carryOut : yX8_carryOut.cls = "FlyTreasury" ∧ yX8_carryOut.cls ≠ "java/lang/invoke/MethodHandle" ∧ yX8_carryOut.cls ≠ "java/lang/invoke/VarHandle" ∧ (parseMethodDescriptor yX8_carryOut.desc).map (fun d => d.parameters.length) = some 1 := by decide +kernel
theorem myX8_firstRefusedOrder : yX8_firstRefusedOrder.cls = "FlyTreasury" ∧ yX8_firstRefusedOrder.cls ≠ "java/lang/invoke/MethodHandle" ∧ yX8_firstRefusedOrder.cls ≠ "java/lang/invoke/VarHandle" ∧ (parseMethodDescriptor yX8_firstRefusedOrder.desc).map (fun d => d.parameters.length) = some 0 := by decide +kernel
theorem myX8_runScript : yX8_runScript.cls = "FlyTreasury" ∧ yX8_runScript.cls ≠ "java/lang/invoke/MethodHandle" ∧ yX8_runScript.cls ≠ "java/lang/invoke/VarHandle" ∧ (parseMethodDescriptor yX8_runScript.desc).map (fun d => d.parameters.length) = some 0 := by decide +kernel
theorem myX8_errorPosition : yX8_errorPosition.cls = "FlyTreasury" ∧ yX8_errorPosition.cls ≠ "java/lang/invoke/MethodHandle" ∧ yX8_errorPosition.cls ≠ "java/lang/invoke/VarHandle" ∧ (parseMethodDescriptor yX8_errorPosition.desc).map (fun d => d.parameters.length) = some 0 := by decide +kernel
theorem myX8_failedCommand : yX8_failedCommand.cls = "FlyTreasury" ∧ yX8_failedCommand.cls ≠ "java/lang/invoke/MethodHandle" ∧ yX8_failedCommand.cls ≠ "java/lang/invoke/VarHandle" ∧ (parseMethodDescriptor yX8_failedCommand.desc).map (fun d => d.parameters.length) = some 0 := by decide +kernel
theorem myX8_undo : yX8_undo.cls = "FlyTreasury" ∧ yX8_undo.cls ≠ "java/lang/invoke/MethodHandle" ∧ yX8_undo.cls ≠ "java/lang/invoke/VarHandle" ∧ (parseMethodDescriptor yX8_undo.desc).map (fun d => d.parameters.length) = some 0 := by decide +kernel
theorem myX8_save : yX8_save.cls = "FlyTreasury" ∧ yX8_save.cls ≠ "java/lang/invoke/MethodHandle" ∧ yX8_save.cls ≠ "java/lang/invoke/VarHandle" ∧ (parseMethodDescriptor yX8_save.desc).map (fun d => d.parameters.length) = some 0 := by decide +kernel
theorem myX8_restore : yX8_restore.cls = "FlyTreasury" ∧ yX8_restore.cls ≠ "java/lang/invoke/MethodHandle" ∧ yX8_restore.cls ≠ "java/lang/invoke/VarHandle" ∧ (parseMethodDescriptor yX8_restore.desc).map (fun d => d.parameters.length) = some 0 := by decide +kernel
theorem myJ6_stringSize_0f7a4 : yJ6_stringSize_0f7a4.cls = "java/lang/Integer" ∧ yJ6_stringSize_0f7a4.cls ≠ "java/lang/invoke/MethodHandle" ∧ yJ6_stringSize_0f7a4.cls ≠ "java/lang/invoke/VarHandle" ∧ (parseMethodDescriptor yJ6_stringSize_0f7a4.desc).map (fun d => d.parameters.length) = some 1 := by decide +kernel
theorem myJ8_newLength_cabcc : yJ8_newLength_cabcc.cls = "jdk/internal/util/ArraysSupport" ∧ yJ8_newLength_cabcc.cls ≠ "java/lang/invoke/MethodHandle" ∧ yJ8_newLength_cabcc.cls ≠ "java/lang/invoke/VarHandle" ∧ (parseMethodDescriptor yJ8_newLength_cabcc.desc).map (fun d => d.parameters.length) = some 3 := by decide +kernel
theorem myJ5_newCapacity_0f7a4 : yJ5_newCapacity_0f7a4.cls = "java/lang/AbstractStringBuilder" ∧ yJ5_newCapacity_0f7a4.cls ≠ "java/lang/invoke/MethodHandle" ∧ yJ5_newCapacity_0f7a4.cls ≠ "java/lang/invoke/VarHandle" ∧ (parseMethodDescriptor yJ5_newCapacity_0f7a4.desc).map (fun d => d.parameters.length) = some 1 := by decide +kernel
theorem myJ5_isLatin1_aae02 : yJ5_isLatin1_aae02.cls = "java/lang/AbstractStringBuilder" ∧ yJ5_isLatin1_aae02.cls ≠ "java/lang/invoke/MethodHandle" ∧ yJ5_isLatin1_aae02.cls ≠ "java/lang/invoke/VarHandle" ∧ (parseMethodDescriptor yJ5_isLatin1_aae02.desc).map (fun d => d.parameters.length) = some 0 := by decide +kernel
theorem myJ5_length_8abf5 : yJ5_length_8abf5.cls = "java/lang/AbstractStringBuilder" ∧ yJ5_length_8abf5.cls ≠ "java/lang/invoke/MethodHandle" ∧ yJ5_length_8abf5.cls ≠ "java/lang/invoke/VarHandle" ∧ (parseMethodDescriptor yJ5_length_8abf5.desc).map (fun d => d.parameters.length) = some 0 := by decide +kernel
theorem myJ6_getChars_ba4f3 : yJ6_getChars_ba4f3.cls = "java/lang/Integer" ∧ yJ6_getChars_ba4f3.cls ≠ "java/lang/invoke/MethodHandle" ∧ yJ6_getChars_ba4f3.cls ≠ "java/lang/invoke/VarHandle" ∧ (parseMethodDescriptor yJ6_getChars_ba4f3.desc).map (fun d => d.parameters.length) = some 3 := by decide +kernel
theorem myJ5_ensureCapacityInternal_d00df : yJ5_ensureCapacityInternal_d00df.cls = "java/lang/AbstractStringBuilder" ∧ yJ5_ensureCapacityInternal_d00df.cls ≠ "java/lang/invoke/MethodHandle" ∧ yJ5_ensureCapacityInternal_d00df.cls ≠ "java/lang/invoke/VarHandle" ∧ (parseMethodDescriptor yJ5_ensureCapacityInternal_d00df.desc).map (fun d => d.parameters.length) = some 1 := by decide +kernel
theorem myJ7_copyOf_9075b : yJ7_copyOf_9075b.cls = "java/util/Arrays" ∧ yJ7_copyOf_9075b.cls ≠ "java/lang/invoke/MethodHandle" ∧ yJ7_copyOf_9075b.cls ≠ "java/lang/invoke/VarHandle" ∧ (parseMethodDescriptor yJ7_copyOf_9075b.desc).map (fun d => d.parameters.length) = some 2 := by decide +kernel
theorem myJ5_setLength_d00df : yJ5_setLength_d00df.cls = "java/lang/AbstractStringBuilder" ∧ yJ5_setLength_d00df.cls ≠ "java/lang/invoke/MethodHandle" ∧ yJ5_setLength_d00df.cls ≠ "java/lang/invoke/VarHandle" ∧ (parseMethodDescriptor yJ5_setLength_d00df.desc).map (fun d => d.parameters.length) = some 1 := by decide +kernel
theorem myJ5_charAt_5068e : yJ5_charAt_5068e.cls = "java/lang/AbstractStringBuilder" ∧ yJ5_charAt_5068e.cls ≠ "java/lang/invoke/MethodHandle" ∧ yJ5_charAt_5068e.cls ≠ "java/lang/invoke/VarHandle" ∧ (parseMethodDescriptor yJ5_charAt_5068e.desc).map (fun d => d.parameters.length) = some 1 := by decide +kernel
theorem myJ5_append_3fe6f : yJ5_append_3fe6f.cls = "java/lang/AbstractStringBuilder" ∧ yJ5_append_3fe6f.cls ≠ "java/lang/invoke/MethodHandle" ∧ yJ5_append_3fe6f.cls ≠ "java/lang/invoke/VarHandle" ∧ (parseMethodDescriptor yJ5_append_3fe6f.desc).map (fun d => d.parameters.length) = some 1 := by decide +kernel
theorem myJ5_append_c97b9 : yJ5_append_c97b9.cls = "java/lang/AbstractStringBuilder" ∧ yJ5_append_c97b9.cls ≠ "java/lang/invoke/MethodHandle" ∧ yJ5_append_c97b9.cls ≠ "java/lang/invoke/VarHandle" ∧ (parseMethodDescriptor yJ5_append_c97b9.desc).map (fun d => d.parameters.length) = some 1 := by decide +kernel
theorem myJ4_append_cf468 : yJ4_append_cf468.cls = "java/lang/StringBuilder" ∧ yJ4_append_cf468.cls ≠ "java/lang/invoke/MethodHandle" ∧ yJ4_append_cf468.cls ≠ "java/lang/invoke/VarHandle" ∧ (parseMethodDescriptor yJ4_append_cf468.desc).map (fun d => d.parameters.length) = some 1 := by decide +kernel
theorem myJ4_append_bf812 : yJ4_append_bf812.cls = "java/lang/StringBuilder" ∧ yJ4_append_bf812.cls ≠ "java/lang/invoke/MethodHandle" ∧ yJ4_append_bf812.cls ≠ "java/lang/invoke/VarHandle" ∧ (parseMethodDescriptor yJ4_append_bf812.desc).map (fun d => d.parameters.length) = some 1 := by decide +kernel
theorem myJ4_charAt_5068e : yJ4_charAt_5068e.cls = "java/lang/StringBuilder" ∧ yJ4_charAt_5068e.cls ≠ "java/lang/invoke/MethodHandle" ∧ yJ4_charAt_5068e.cls ≠ "java/lang/invoke/VarHandle" ∧ (parseMethodDescriptor yJ4_charAt_5068e.desc).map (fun d => d.parameters.length) = some 1 := by decide +kernel
theorem myJ4_setLength_d00df : yJ4_setLength_d00df.cls = "java/lang/StringBuilder" ∧ yJ4_setLength_d00df.cls ≠ "java/lang/invoke/MethodHandle" ∧ yJ4_setLength_d00df.cls ≠ "java/lang/invoke/VarHandle" ∧ (parseMethodDescriptor yJ4_setLength_d00df.desc).map (fun d => d.parameters.length) = some 1 := by decide +kernel
theorem myJ4_length_8abf5 : yJ4_length_8abf5.cls = "java/lang/StringBuilder" ∧ yJ4_length_8abf5.cls ≠ "java/lang/invoke/MethodHandle" ∧ yJ4_length_8abf5.cls ≠ "java/lang/invoke/VarHandle" ∧ (parseMethodDescriptor yJ4_length_8abf5.desc).map (fun d => d.parameters.length) = some 0 := by decide +kernel
theorem myX8_renderVault : yX8_renderVault.cls = "FlyTreasury" ∧ yX8_renderVault.cls ≠ "java/lang/invoke/MethodHandle" ∧ yX8_renderVault.cls ≠ "java/lang/invoke/VarHandle" ∧ (parseMethodDescriptor yX8_renderVault.desc).map (fun d => d.parameters.length) = some 1 := by decide +kernel
theorem myX8_renderRates : yX8_renderRates.cls = "FlyTreasury" ∧ yX8_renderRates.cls ≠ "java/lang/invoke/MethodHandle" ∧ yX8_renderRates.cls ≠ "java/lang/invoke/VarHandle" ∧ (parseMethodDescriptor yX8_renderRates.desc).map (fun d => d.parameters.length) = some 0 := by decide +kernel
theorem myX8_outputAt : yX8_outputAt.cls = "FlyTreasury" ∧ yX8_outputAt.cls ≠ "java/lang/invoke/MethodHandle" ∧ yX8_outputAt.cls ≠ "java/lang/invoke/VarHandle" ∧ (parseMethodDescriptor yX8_outputAt.desc).map (fun d => d.parameters.length) = some 1 := by decide +kernel
theorem myX9_thrown : yX9_thrown.cls = "FlyTreasuryModel" ∧ yX9_thrown.cls ≠ "java/lang/invoke/MethodHandle" ∧ yX9_thrown.cls ≠ "java/lang/invoke/VarHandle" ∧ (parseMethodDescriptor yX9_thrown.desc).map (fun d => d.parameters.length) = some 0 := by decide +kernel
theorem myX9_fails : yX9_fails.cls = "FlyTreasuryModel" ∧ yX9_fails.cls ≠ "java/lang/invoke/MethodHandle" ∧ yX9_fails.cls ≠ "java/lang/invoke/VarHandle" ∧ (parseMethodDescriptor yX9_fails.desc).map (fun d => d.parameters.length) = some 1 := by decide +kernel
theorem myX9_isBetween : yX9_isBetween.cls = "FlyTreasuryModel" ∧ yX9_isBetween.cls ≠ "java/lang/invoke/MethodHandle" ∧ yX9_isBetween.cls ≠ "java/lang/invoke/VarHandle" ∧ (parseMethodDescriptor yX9_isBetween.desc).map (fun d => d.parameters.length) = some 3 := by decide +kernel
theorem myX9_copies : yX9_copies.cls = "FlyTreasuryModel" ∧ yX9_copies.cls ≠ "java/lang/invoke/MethodHandle" ∧ yX9_copies.cls ≠ "java/lang/invoke/VarHandle" ∧ (parseMethodDescriptor yX9_copies.desc).map (fun d => d.parameters.length) = some 0 := by decide +kernel
theorem myX9_goesBack : yX9_goesBack.cls = "FlyTreasuryModel" ∧ yX9_goesBack.cls ≠ "java/lang/invoke/MethodHandle" ∧ yX9_goesBack.cls ≠ "java/lang/invoke/VarHandle" ∧ (parseMethodDescriptor yX9_goesBack.desc).map (fun d => d.parameters.length) = some 0 := by decide +kernel
theorem myX9_keeps : yX9_keeps.cls = "FlyTreasuryModel" ∧ yX9_keeps.cls ≠ "java/lang/invoke/MethodHandle" ∧ yX9_keeps.cls ≠ "java/lang/invoke/VarHandle" ∧ (parseMethodDescriptor yX9_keeps.desc).map (fun d => d.parameters.length) = some 0 := by decide +kernel
theorem myX9_remembers : yX9_remembers.cls = "FlyTreasuryModel" ∧ yX9_remembers.cls ≠ "java/lang/invoke/MethodHandle" ∧ yX9_remembers.cls ≠ "java/lang/invoke/VarHandle" ∧ (parseMethodDescriptor yX9_remembers.desc).map (fun d => d.parameters.length) = some 0 := by decide +kernel
theorem myX9_kindOf : yX9_kindOf.cls = "FlyTreasuryModel" ∧ yX9_kindOf.cls ≠ "java/lang/invoke/MethodHandle" ∧ yX9_kindOf.cls ≠ "java/lang/invoke/VarHandle" ∧ (parseMethodDescriptor yX9_kindOf.desc).map (fun d => d.parameters.length) = some 1 := by decide +kernel
theorem myX9_letterOf : yX9_letterOf.cls = "FlyTreasuryModel" ∧ yX9_letterOf.cls ≠ "java/lang/invoke/MethodHandle" ∧ yX9_letterOf.cls ≠ "java/lang/invoke/VarHandle" ∧ (parseMethodDescriptor yX9_letterOf.desc).map (fun d => d.parameters.length) = some 1 := by decide +kernel
theorem myX9_isVault : yX9_isVault.cls = "FlyTreasuryModel" ∧ yX9_isVault.cls ≠ "java/lang/invoke/MethodHandle" ∧ yX9_isVault.cls ≠ "java/lang/invoke/VarHandle" ∧ (parseMethodDescriptor yX9_isVault.desc).map (fun d => d.parameters.length) = some 1 := by decide +kernel
theorem myX9_of : yX9_of.cls = "FlyTreasuryModel" ∧ yX9_of.cls ≠ "java/lang/invoke/MethodHandle" ∧ yX9_of.cls ≠ "java/lang/invoke/VarHandle" ∧ (parseMethodDescriptor yX9_of.desc).map (fun d => d.parameters.length) = some 2 := by decide +kernel
theorem myX9_adds : yX9_adds.cls = "FlyTreasuryModel" ∧ yX9_adds.cls ≠ "java/lang/invoke/MethodHandle" ∧ yX9_adds.cls ≠ "java/lang/invoke/VarHandle" ∧ (parseMethodDescriptor yX9_adds.desc).map (fun d => d.parameters.length) = some 3 := by decide +kernel
theorem myX9_puts : yX9_puts.cls = "FlyTreasuryModel" ∧ yX9_puts.cls ≠ "java/lang/invoke/MethodHandle" ∧ yX9_puts.cls ≠ "java/lang/invoke/VarHandle" ∧ (parseMethodDescriptor yX9_puts.desc).map (fun d => d.parameters.length) = some 3 := by decide +kernel
theorem myX9_valueOf : yX9_valueOf.cls = "FlyTreasuryModel" ∧ yX9_valueOf.cls ≠ "java/lang/invoke/MethodHandle" ∧ yX9_valueOf.cls ≠ "java/lang/invoke/VarHandle" ∧ (parseMethodDescriptor yX9_valueOf.desc).map (fun d => d.parameters.length) = some 1 := by decide +kernel
theorem myX9_reserveOf : yX9_reserveOf.cls = "FlyTreasuryModel" ∧ yX9_reserveOf.cls ≠ "java/lang/invoke/MethodHandle" ∧ yX9_reserveOf.cls ≠ "java/lang/invoke/VarHandle" ∧ (parseMethodDescriptor yX9_reserveOf.desc).map (fun d => d.parameters.length) = some 1 := by decide +kernel
theorem myX9_spare : yX9_spare.cls = "FlyTreasuryModel" ∧ yX9_spare.cls ≠ "java/lang/invoke/MethodHandle" ∧ yX9_spare.cls ≠ "java/lang/invoke/VarHandle" ∧ (parseMethodDescriptor yX9_spare.desc).map (fun d => d.parameters.length) = some 1 := by decide +kernel
theorem myX9_notVault : yX9_notVault.cls = "FlyTreasuryModel" ∧ yX9_notVault.cls ≠ "java/lang/invoke/MethodHandle" ∧ yX9_notVault.cls ≠ "java/lang/invoke/VarHandle" ∧ (parseMethodDescriptor yX9_notVault.desc).map (fun d => d.parameters.length) = some 1 := by decide +kernel
theorem myX9_addsVault : yX9_addsVault.cls = "FlyTreasuryModel" ∧ yX9_addsVault.cls ≠ "java/lang/invoke/MethodHandle" ∧ yX9_addsVault.cls ≠ "java/lang/invoke/VarHandle" ∧ (parseMethodDescriptor yX9_addsVault.desc).map (fun d => d.parameters.length) = some 1 := by decide +kernel
theorem myX9_addVault : yX9_addVault.cls = "FlyTreasuryModel" ∧ yX9_addVault.cls ≠ "java/lang/invoke/MethodHandle" ∧ yX9_addVault.cls ≠ "java/lang/invoke/VarHandle" ∧ (parseMethodDescriptor yX9_addVault.desc).map (fun d => d.parameters.length) = some 1 := by decide +kernel
theorem myX9_notDeposit : yX9_notDeposit.cls = "FlyTreasuryModel" ∧ yX9_notDeposit.cls ≠ "java/lang/invoke/MethodHandle" ∧ yX9_notDeposit.cls ≠ "java/lang/invoke/VarHandle" ∧ (parseMethodDescriptor yX9_notDeposit.desc).map (fun d => d.parameters.length) = some 3 := by decide +kernel
theorem myX9_deposits : yX9_deposits.cls = "FlyTreasuryModel" ∧ yX9_deposits.cls ≠ "java/lang/invoke/MethodHandle" ∧ yX9_deposits.cls ≠ "java/lang/invoke/VarHandle" ∧ (parseMethodDescriptor yX9_deposits.desc).map (fun d => d.parameters.length) = some 3 := by decide +kernel
theorem myX9_deposit : yX9_deposit.cls = "FlyTreasuryModel" ∧ yX9_deposit.cls ≠ "java/lang/invoke/MethodHandle" ∧ yX9_deposit.cls ≠ "java/lang/invoke/VarHandle" ∧ (parseMethodDescriptor yX9_deposit.desc).map (fun d => d.parameters.length) = some 3 := by decide +kernel
theorem myX9_isSoundWithout : yX9_isSoundWithout.cls = "FlyTreasuryModel" ∧ yX9_isSoundWithout.cls ≠ "java/lang/invoke/MethodHandle" ∧ yX9_isSoundWithout.cls ≠ "java/lang/invoke/VarHandle" ∧ (parseMethodDescriptor yX9_isSoundWithout.desc).map (fun d => d.parameters.length) = some 3 := by decide +kernel
theorem myX9_notWithdraw : yX9_notWithdraw.cls = "FlyTreasuryModel" ∧ yX9_notWithdraw.cls ≠ "java/lang/invoke/MethodHandle" ∧ yX9_notWithdraw.cls ≠ "java/lang/invoke/VarHandle" ∧ (parseMethodDescriptor yX9_notWithdraw.desc).map (fun d => d.parameters.length) = some 3 := by decide +kernel
theorem myX9_withdraws : yX9_withdraws.cls = "FlyTreasuryModel" ∧ yX9_withdraws.cls ≠ "java/lang/invoke/MethodHandle" ∧ yX9_withdraws.cls ≠ "java/lang/invoke/VarHandle" ∧ (parseMethodDescriptor yX9_withdraws.desc).map (fun d => d.parameters.length) = some 3 := by decide +kernel
theorem myX9_withdraw : yX9_withdraw.cls = "FlyTreasuryModel" ∧ yX9_withdraw.cls ≠ "java/lang/invoke/MethodHandle" ∧ yX9_withdraw.cls ≠ "java/lang/invoke/VarHandle" ∧ (parseMethodDescriptor yX9_withdraw.desc).map (fun d => d.parameters.length) = some 3 := by decide +kernel
theorem myX9_legsOf : yX9_legsOf.cls = "FlyTreasuryModel" ∧ yX9_legsOf.cls ≠ "java/lang/invoke/MethodHandle" ∧ yX9_legsOf.cls ≠ "java/lang/invoke/VarHandle" ∧ (parseMethodDescriptor yX9_legsOf.desc).map (fun d => d.parameters.length) = some 3 := by decide +kernel
theorem myX9_notExchange : yX9_notExchange.cls = "FlyTreasuryModel" ∧ yX9_notExchange.cls ≠ "java/lang/invoke/MethodHandle" ∧ yX9_notExchange.cls ≠ "java/lang/invoke/VarHandle" ∧ (parseMethodDescriptor yX9_notExchange.desc).map (fun d => d.parameters.length) = some 4 := by decide +kernel
theorem myX9_exchanges : yX9_exchanges.cls = "FlyTreasuryModel" ∧ yX9_exchanges.cls ≠ "java/lang/invoke/MethodHandle" ∧ yX9_exchanges.cls ≠ "java/lang/invoke/VarHandle" ∧ (parseMethodDescriptor yX9_exchanges.desc).map (fun d => d.parameters.length) = some 4 := by decide +kernel
theorem myX9_exchange : yX9_exchange.cls = "FlyTreasuryModel" ∧ yX9_exchange.cls ≠ "java/lang/invoke/MethodHandle" ∧ yX9_exchange.cls ≠ "java/lang/invoke/VarHandle" ∧ (parseMethodDescriptor yX9_exchange.desc).map (fun d => d.parameters.length) = some 4 := by decide +kernel
theorem myX9_notMint : yX9_notMint.cls = "FlyTreasuryModel" ∧ yX9_notMint.cls ≠ "java/lang/invoke/MethodHandle" ∧ yX9_notMint.cls ≠ "java/lang/invoke/VarHandle" ∧ (parseMethodDescriptor yX9_notMint.desc).map (fun d => d.parameters.length) = some 2 := by decide +kernel
theorem myX9_mints : yX9_mints.cls = "FlyTreasuryModel" ∧ yX9_mints.cls ≠ "java/lang/invoke/MethodHandle" ∧ yX9_mints.cls ≠ "java/lang/invoke/VarHandle" ∧ (parseMethodDescriptor yX9_mints.desc).map (fun d => d.parameters.length) = some 2 := by decide +kernel
theorem myX9_mint : yX9_mint.cls = "FlyTreasuryModel" ∧ yX9_mint.cls ≠ "java/lang/invoke/MethodHandle" ∧ yX9_mint.cls ≠ "java/lang/invoke/VarHandle" ∧ (parseMethodDescriptor yX9_mint.desc).map (fun d => d.parameters.length) = some 2 := by decide +kernel
theorem myX9_notRedeem : yX9_notRedeem.cls = "FlyTreasuryModel" ∧ yX9_notRedeem.cls ≠ "java/lang/invoke/MethodHandle" ∧ yX9_notRedeem.cls ≠ "java/lang/invoke/VarHandle" ∧ (parseMethodDescriptor yX9_notRedeem.desc).map (fun d => d.parameters.length) = some 2 := by decide +kernel
theorem myX9_redeems : yX9_redeems.cls = "FlyTreasuryModel" ∧ yX9_redeems.cls ≠ "java/lang/invoke/MethodHandle" ∧ yX9_redeems.cls ≠ "java/lang/invoke/VarHandle" ∧ (parseMethodDescriptor yX9_redeems.desc).map (fun d => d.parameters.length) = some 2 := by decide +kernel
theorem myX9_redeem : yX9_redeem.cls = "FlyTreasuryModel" ∧ yX9_redeem.cls ≠ "java/lang/invoke/MethodHandle" ∧ yX9_redeem.cls ≠ "java/lang/invoke/VarHandle" ∧ (parseMethodDescriptor yX9_redeem.desc).map (fun d => d.parameters.length) = some 2 := by decide +kernel
theorem myX9_notAudit : yX9_notAudit.cls = "FlyTreasuryModel" ∧ yX9_notAudit.cls ≠ "java/lang/invoke/MethodHandle" ∧ yX9_notAudit.cls ≠ "java/lang/invoke/VarHandle" ∧ (parseMethodDescriptor yX9_notAudit.desc).map (fun d => d.parameters.length) = some 1 := by decide +kernel
theorem myX9_audits : yX9_audits.cls = "FlyTreasuryModel" ∧ yX9_audits.cls ≠ "java/lang/invoke/MethodHandle" ∧ yX9_audits.cls ≠ "java/lang/invoke/VarHandle" ∧ (parseMethodDescriptor yX9_audits.desc).map (fun d => d.parameters.length) = some 1 := by decide +kernel
theorem myX9_audit : yX9_audit.cls = "FlyTreasuryModel" ∧ yX9_audit.cls ≠ "java/lang/invoke/MethodHandle" ∧ yX9_audit.cls ≠ "java/lang/invoke/VarHandle" ∧ (parseMethodDescriptor yX9_audit.desc).map (fun d => d.parameters.length) = some 1 := by decide +kernel
theorem myX9_notRate : yX9_notRate.cls = "FlyTreasuryModel" ∧ yX9_notRate.cls ≠ "java/lang/invoke/MethodHandle" ∧ yX9_notRate.cls ≠ "java/lang/invoke/VarHandle" ∧ (parseMethodDescriptor yX9_notRate.desc).map (fun d => d.parameters.length) = some 2 := by decide +kernel
theorem myX9_setsRate : yX9_setsRate.cls = "FlyTreasuryModel" ∧ yX9_setsRate.cls ≠ "java/lang/invoke/MethodHandle" ∧ yX9_setsRate.cls ≠ "java/lang/invoke/VarHandle" ∧ (parseMethodDescriptor yX9_setsRate.desc).map (fun d => d.parameters.length) = some 2 := by decide +kernel
theorem myX9_setRate : yX9_setRate.cls = "FlyTreasuryModel" ∧ yX9_setRate.cls ≠ "java/lang/invoke/MethodHandle" ∧ yX9_setRate.cls ≠ "java/lang/invoke/VarHandle" ∧ (parseMethodDescriptor yX9_setRate.desc).map (fun d => d.parameters.length) = some 2 := by decide +kernel
theorem myX9_notStick : yX9_notStick.cls = "FlyTreasuryModel" ∧ yX9_notStick.cls ≠ "java/lang/invoke/MethodHandle" ∧ yX9_notStick.cls ≠ "java/lang/invoke/VarHandle" ∧ (parseMethodDescriptor yX9_notStick.desc).map (fun d => d.parameters.length) = some 2 := by decide +kernel
theorem myX9_sticks : yX9_sticks.cls = "FlyTreasuryModel" ∧ yX9_sticks.cls ≠ "java/lang/invoke/MethodHandle" ∧ yX9_sticks.cls ≠ "java/lang/invoke/VarHandle" ∧ (parseMethodDescriptor yX9_sticks.desc).map (fun d => d.parameters.length) = some 2 := by decide +kernel
theorem myX9_setStickiness : yX9_setStickiness.cls = "FlyTreasuryModel" ∧ yX9_setStickiness.cls ≠ "java/lang/invoke/MethodHandle" ∧ yX9_setStickiness.cls ≠ "java/lang/invoke/VarHandle" ∧ (parseMethodDescriptor yX9_setStickiness.desc).map (fun d => d.parameters.length) = some 2 := by decide +kernel
theorem myX9_passesOne : yX9_passesOne.cls = "FlyTreasuryModel" ∧ yX9_passesOne.cls ≠ "java/lang/invoke/MethodHandle" ∧ yX9_passesOne.cls ≠ "java/lang/invoke/VarHandle" ∧ (parseMethodDescriptor yX9_passesOne.desc).map (fun d => d.parameters.length) = some 0 := by decide +kernel
theorem myX9_passes : yX9_passes.cls = "FlyTreasuryModel" ∧ yX9_passes.cls ≠ "java/lang/invoke/MethodHandle" ∧ yX9_passes.cls ≠ "java/lang/invoke/VarHandle" ∧ (parseMethodDescriptor yX9_passes.desc).map (fun d => d.parameters.length) = some 1 := by decide +kernel
theorem myX9_notDays : yX9_notDays.cls = "FlyTreasuryModel" ∧ yX9_notDays.cls ≠ "java/lang/invoke/MethodHandle" ∧ yX9_notDays.cls ≠ "java/lang/invoke/VarHandle" ∧ (parseMethodDescriptor yX9_notDays.desc).map (fun d => d.parameters.length) = some 1 := by decide +kernel
theorem myX9_passDays : yX9_passDays.cls = "FlyTreasuryModel" ∧ yX9_passDays.cls ≠ "java/lang/invoke/MethodHandle" ∧ yX9_passDays.cls ≠ "java/lang/invoke/VarHandle" ∧ (parseMethodDescriptor yX9_passDays.desc).map (fun d => d.parameters.length) = some 1 := by decide +kernel
theorem myX9_asks : yX9_asks.cls = "FlyTreasuryModel" ∧ yX9_asks.cls ≠ "java/lang/invoke/MethodHandle" ∧ yX9_asks.cls ≠ "java/lang/invoke/VarHandle" ∧ (parseMethodDescriptor yX9_asks.desc).map (fun d => d.parameters.length) = some 1 := by decide +kernel
theorem myX9_vaultCount : yX9_vaultCount.cls = "FlyTreasuryModel" ∧ yX9_vaultCount.cls ≠ "java/lang/invoke/MethodHandle" ∧ yX9_vaultCount.cls ≠ "java/lang/invoke/VarHandle" ∧ (parseMethodDescriptor yX9_vaultCount.desc).map (fun d => d.parameters.length) = some 0 := by decide +kernel
theorem myX9_flies : yX9_flies.cls = "FlyTreasuryModel" ∧ yX9_flies.cls ≠ "java/lang/invoke/MethodHandle" ∧ yX9_flies.cls ≠ "java/lang/invoke/VarHandle" ∧ (parseMethodDescriptor yX9_flies.desc).map (fun d => d.parameters.length) = some 2 := by decide +kernel
theorem myX9_asksVault : yX9_asksVault.cls = "FlyTreasuryModel" ∧ yX9_asksVault.cls ≠ "java/lang/invoke/MethodHandle" ∧ yX9_asksVault.cls ≠ "java/lang/invoke/VarHandle" ∧ (parseMethodDescriptor yX9_asksVault.desc).map (fun d => d.parameters.length) = some 2 := by decide +kernel
theorem myX9_crumbs : yX9_crumbs.cls = "FlyTreasuryModel" ∧ yX9_crumbs.cls ≠ "java/lang/invoke/MethodHandle" ∧ yX9_crumbs.cls ≠ "java/lang/invoke/VarHandle" ∧ (parseMethodDescriptor yX9_crumbs.desc).map (fun d => d.parameters.length) = some 1 := by decide +kernel
theorem myX9_dew : yX9_dew.cls = "FlyTreasuryModel" ∧ yX9_dew.cls ≠ "java/lang/invoke/MethodHandle" ∧ yX9_dew.cls ≠ "java/lang/invoke/VarHandle" ∧ (parseMethodDescriptor yX9_dew.desc).map (fun d => d.parameters.length) = some 1 := by decide +kernel
theorem myX9_wings : yX9_wings.cls = "FlyTreasuryModel" ∧ yX9_wings.cls ≠ "java/lang/invoke/MethodHandle" ∧ yX9_wings.cls ≠ "java/lang/invoke/VarHandle" ∧ (parseMethodDescriptor yX9_wings.desc).map (fun d => d.parameters.length) = some 1 := by decide +kernel
theorem myX9_stickiness : yX9_stickiness.cls = "FlyTreasuryModel" ∧ yX9_stickiness.cls ≠ "java/lang/invoke/MethodHandle" ∧ yX9_stickiness.cls ≠ "java/lang/invoke/VarHandle" ∧ (parseMethodDescriptor yX9_stickiness.desc).map (fun d => d.parameters.length) = some 1 := by decide +kernel
theorem myX9_isFrozen : yX9_isFrozen.cls = "FlyTreasuryModel" ∧ yX9_isFrozen.cls ≠ "java/lang/invoke/MethodHandle" ∧ yX9_isFrozen.cls ≠ "java/lang/invoke/VarHandle" ∧ (parseMethodDescriptor yX9_isFrozen.desc).map (fun d => d.parameters.length) = some 1 := by decide +kernel
theorem myX9_daysUntilThaw : yX9_daysUntilThaw.cls = "FlyTreasuryModel" ∧ yX9_daysUntilThaw.cls ≠ "java/lang/invoke/MethodHandle" ∧ yX9_daysUntilThaw.cls ≠ "java/lang/invoke/VarHandle" ∧ (parseMethodDescriptor yX9_daysUntilThaw.desc).map (fun d => d.parameters.length) = some 1 := by decide +kernel
theorem myX9_value : yX9_value.cls = "FlyTreasuryModel" ∧ yX9_value.cls ≠ "java/lang/invoke/MethodHandle" ∧ yX9_value.cls ≠ "java/lang/invoke/VarHandle" ∧ (parseMethodDescriptor yX9_value.desc).map (fun d => d.parameters.length) = some 1 := by decide +kernel
theorem myX9_reserve : yX9_reserve.cls = "FlyTreasuryModel" ∧ yX9_reserve.cls ≠ "java/lang/invoke/MethodHandle" ∧ yX9_reserve.cls ≠ "java/lang/invoke/VarHandle" ∧ (parseMethodDescriptor yX9_reserve.desc).map (fun d => d.parameters.length) = some 1 := by decide +kernel
theorem myX9_isSound : yX9_isSound.cls = "FlyTreasuryModel" ∧ yX9_isSound.cls ≠ "java/lang/invoke/MethodHandle" ∧ yX9_isSound.cls ≠ "java/lang/invoke/VarHandle" ∧ (parseMethodDescriptor yX9_isSound.desc).map (fun d => d.parameters.length) = some 1 := by decide +kernel
theorem myX9_mintable : yX9_mintable.cls = "FlyTreasuryModel" ∧ yX9_mintable.cls ≠ "java/lang/invoke/MethodHandle" ∧ yX9_mintable.cls ≠ "java/lang/invoke/VarHandle" ∧ (parseMethodDescriptor yX9_mintable.desc).map (fun d => d.parameters.length) = some 1 := by decide +kernel
theorem myX9_daysUntilSound : yX9_daysUntilSound.cls = "FlyTreasuryModel" ∧ yX9_daysUntilSound.cls ≠ "java/lang/invoke/MethodHandle" ∧ yX9_daysUntilSound.cls ≠ "java/lang/invoke/VarHandle" ∧ (parseMethodDescriptor yX9_daysUntilSound.desc).map (fun d => d.parameters.length) = some 1 := by decide +kernel
theorem myX9_daysUntilSoundByCounting : yX9_daysUntilSoundByCounting.cls = "FlyTreasuryModel" ∧ yX9_daysUntilSoundByCounting.cls ≠ "java/lang/invoke/MethodHandle" ∧ yX9_daysUntilSoundByCounting.cls ≠ "java/lang/invoke/VarHandle" ∧ (parseMethodDescriptor yX9_daysUntilSoundByCounting.desc).map (fun d => d.parameters.length) = some 1 := by decide +kernel
theorem myX9_mostFlies : yX9_mostFlies.cls = "FlyTreasuryModel" ∧ yX9_mostFlies.cls ≠ "java/lang/invoke/MethodHandle" ∧ yX9_mostFlies.cls ≠ "java/lang/invoke/VarHandle" ∧ (parseMethodDescriptor yX9_mostFlies.desc).map (fun d => d.parameters.length) = some 2 := by decide +kernel
theorem myX9_mostFliesByExchanges : yX9_mostFliesByExchanges.cls = "FlyTreasuryModel" ∧ yX9_mostFliesByExchanges.cls ≠ "java/lang/invoke/MethodHandle" ∧ yX9_mostFliesByExchanges.cls ≠ "java/lang/invoke/VarHandle" ∧ (parseMethodDescriptor yX9_mostFliesByExchanges.desc).map (fun d => d.parameters.length) = some 2 := by decide +kernel
theorem myX9_rate : yX9_rate.cls = "FlyTreasuryModel" ∧ yX9_rate.cls ≠ "java/lang/invoke/MethodHandle" ∧ yX9_rate.cls ≠ "java/lang/invoke/VarHandle" ∧ (parseMethodDescriptor yX9_rate.desc).map (fun d => d.parameters.length) = some 1 := by decide +kernel
theorem myX9_fliesOf : yX9_fliesOf.cls = "FlyTreasuryModel" ∧ yX9_fliesOf.cls ≠ "java/lang/invoke/MethodHandle" ∧ yX9_fliesOf.cls ≠ "java/lang/invoke/VarHandle" ∧ (parseMethodDescriptor yX9_fliesOf.desc).map (fun d => d.parameters.length) = some 1 := by decide +kernel
theorem myX9_totalFlies : yX9_totalFlies.cls = "FlyTreasuryModel" ∧ yX9_totalFlies.cls ≠ "java/lang/invoke/MethodHandle" ∧ yX9_totalFlies.cls ≠ "java/lang/invoke/VarHandle" ∧ (parseMethodDescriptor yX9_totalFlies.desc).map (fun d => d.parameters.length) = some 1 := by decide +kernel
theorem myX9_totalFliesByAccounts : yX9_totalFliesByAccounts.cls = "FlyTreasuryModel" ∧ yX9_totalFliesByAccounts.cls ≠ "java/lang/invoke/MethodHandle" ∧ yX9_totalFliesByAccounts.cls ≠ "java/lang/invoke/VarHandle" ∧ (parseMethodDescriptor yX9_totalFliesByAccounts.desc).map (fun d => d.parameters.length) = some 1 := by decide +kernel
theorem myX9_valueAll : yX9_valueAll.cls = "FlyTreasuryModel" ∧ yX9_valueAll.cls ≠ "java/lang/invoke/MethodHandle" ∧ yX9_valueAll.cls ≠ "java/lang/invoke/VarHandle" ∧ (parseMethodDescriptor yX9_valueAll.desc).map (fun d => d.parameters.length) = some 0 := by decide +kernel
theorem myX9_totalValue : yX9_totalValue.cls = "FlyTreasuryModel" ∧ yX9_totalValue.cls ≠ "java/lang/invoke/MethodHandle" ∧ yX9_totalValue.cls ≠ "java/lang/invoke/VarHandle" ∧ (parseMethodDescriptor yX9_totalValue.desc).map (fun d => d.parameters.length) = some 0 := by decide +kernel
theorem myX9_totalValueByKinds : yX9_totalValueByKinds.cls = "FlyTreasuryModel" ∧ yX9_totalValueByKinds.cls ≠ "java/lang/invoke/MethodHandle" ∧ yX9_totalValueByKinds.cls ≠ "java/lang/invoke/VarHandle" ∧ (parseMethodDescriptor yX9_totalValueByKinds.desc).map (fun d => d.parameters.length) = some 0 := by decide +kernel
theorem myX9_isAhead : yX9_isAhead.cls = "FlyTreasuryModel" ∧ yX9_isAhead.cls ≠ "java/lang/invoke/MethodHandle" ∧ yX9_isAhead.cls ≠ "java/lang/invoke/VarHandle" ∧ (parseMethodDescriptor yX9_isAhead.desc).map (fun d => d.parameters.length) = some 2 := by decide +kernel
theorem myX9_vaultByValue : yX9_vaultByValue.cls = "FlyTreasuryModel" ∧ yX9_vaultByValue.cls ≠ "java/lang/invoke/MethodHandle" ∧ yX9_vaultByValue.cls ≠ "java/lang/invoke/VarHandle" ∧ (parseMethodDescriptor yX9_vaultByValue.desc).map (fun d => d.parameters.length) = some 1 := by decide +kernel
theorem myX9_kindByValue : yX9_kindByValue.cls = "FlyTreasuryModel" ∧ yX9_kindByValue.cls ≠ "java/lang/invoke/MethodHandle" ∧ yX9_kindByValue.cls ≠ "java/lang/invoke/VarHandle" ∧ (parseMethodDescriptor yX9_kindByValue.desc).map (fun d => d.parameters.length) = some 1 := by decide +kernel
theorem myX9_day : yX9_day.cls = "FlyTreasuryModel" ∧ yX9_day.cls ≠ "java/lang/invoke/MethodHandle" ∧ yX9_day.cls ≠ "java/lang/invoke/VarHandle" ∧ (parseMethodDescriptor yX9_day.desc).map (fun d => d.parameters.length) = some 0 := by decide +kernel
theorem myX9_mintedTotal : yX9_mintedTotal.cls = "FlyTreasuryModel" ∧ yX9_mintedTotal.cls ≠ "java/lang/invoke/MethodHandle" ∧ yX9_mintedTotal.cls ≠ "java/lang/invoke/VarHandle" ∧ (parseMethodDescriptor yX9_mintedTotal.desc).map (fun d => d.parameters.length) = some 0 := by decide +kernel
theorem myX9_redeemedTotal : yX9_redeemedTotal.cls = "FlyTreasuryModel" ∧ yX9_redeemedTotal.cls ≠ "java/lang/invoke/MethodHandle" ∧ yX9_redeemedTotal.cls ≠ "java/lang/invoke/VarHandle" ∧ (parseMethodDescriptor yX9_redeemedTotal.desc).map (fun d => d.parameters.length) = some 0 := by decide +kernel
theorem myX9_evaporatedTotal : yX9_evaporatedTotal.cls = "FlyTreasuryModel" ∧ yX9_evaporatedTotal.cls ≠ "java/lang/invoke/MethodHandle" ∧ yX9_evaporatedTotal.cls ≠ "java/lang/invoke/VarHandle" ∧ (parseMethodDescriptor yX9_evaporatedTotal.desc).map (fun d => d.parameters.length) = some 0 := by decide +kernel
theorem myX9_auditTotal : yX9_auditTotal.cls = "FlyTreasuryModel" ∧ yX9_auditTotal.cls ≠ "java/lang/invoke/MethodHandle" ∧ yX9_auditTotal.cls ≠ "java/lang/invoke/VarHandle" ∧ (parseMethodDescriptor yX9_auditTotal.desc).map (fun d => d.parameters.length) = some 0 := by decide +kernel
theorem myX9_soundAuditTotal : yX9_soundAuditTotal.cls = "FlyTreasuryModel" ∧ yX9_soundAuditTotal.cls ≠ "java/lang/invoke/MethodHandle" ∧ yX9_soundAuditTotal.cls ≠ "java/lang/invoke/VarHandle" ∧ (parseMethodDescriptor yX9_soundAuditTotal.desc).map (fun d => d.parameters.length) = some 0 := by decide +kernel
theorem myX9_meanValue : yX9_meanValue.cls = "FlyTreasuryModel" ∧ yX9_meanValue.cls ≠ "java/lang/invoke/MethodHandle" ∧ yX9_meanValue.cls ≠ "java/lang/invoke/VarHandle" ∧ (parseMethodDescriptor yX9_meanValue.desc).map (fun d => d.parameters.length) = some 0 := by decide +kernel
theorem myX9_soundShare : yX9_soundShare.cls = "FlyTreasuryModel" ∧ yX9_soundShare.cls ≠ "java/lang/invoke/MethodHandle" ∧ yX9_soundShare.cls ≠ "java/lang/invoke/VarHandle" ∧ (parseMethodDescriptor yX9_soundShare.desc).map (fun d => d.parameters.length) = some 0 := by decide +kernel
theorem myX9_isConsistent : yX9_isConsistent.cls = "FlyTreasuryModel" ∧ yX9_isConsistent.cls ≠ "java/lang/invoke/MethodHandle" ∧ yX9_isConsistent.cls ≠ "java/lang/invoke/VarHandle" ∧ (parseMethodDescriptor yX9_isConsistent.desc).map (fun d => d.parameters.length) = some 0 := by decide +kernel
theorem myX9_writes : yX9_writes.cls = "FlyTreasuryModel" ∧ yX9_writes.cls ≠ "java/lang/invoke/MethodHandle" ∧ yX9_writes.cls ≠ "java/lang/invoke/VarHandle" ∧ (parseMethodDescriptor yX9_writes.desc).map (fun d => d.parameters.length) = some 1 := by decide +kernel
theorem myX9_writesNumber : yX9_writesNumber.cls = "FlyTreasuryModel" ∧ yX9_writesNumber.cls ≠ "java/lang/invoke/MethodHandle" ∧ yX9_writesNumber.cls ≠ "java/lang/invoke/VarHandle" ∧ (parseMethodDescriptor yX9_writesNumber.desc).map (fun d => d.parameters.length) = some 1 := by decide +kernel
theorem myX9_renderVault : yX9_renderVault.cls = "FlyTreasuryModel" ∧ yX9_renderVault.cls ≠ "java/lang/invoke/MethodHandle" ∧ yX9_renderVault.cls ≠ "java/lang/invoke/VarHandle" ∧ (parseMethodDescriptor yX9_renderVault.desc).map (fun d => d.parameters.length) = some 1 := by decide +kernel
theorem myX9_renderRates : yX9_renderRates.cls = "FlyTreasuryModel" ∧ yX9_renderRates.cls ≠ "java/lang/invoke/MethodHandle" ∧ yX9_renderRates.cls ≠ "java/lang/invoke/VarHandle" ∧ (parseMethodDescriptor yX9_renderRates.desc).map (fun d => d.parameters.length) = some 0 := by decide +kernel
theorem myX9_outputAt : yX9_outputAt.cls = "FlyTreasuryModel" ∧ yX9_outputAt.cls ≠ "java/lang/invoke/MethodHandle" ∧ yX9_outputAt.cls ≠ "java/lang/invoke/VarHandle" ∧ (parseMethodDescriptor yX9_outputAt.desc).map (fun d => d.parameters.length) = some 1 := by decide +kernel
theorem myX9_type : yX9_type.cls = "FlyTreasuryModel" ∧ yX9_type.cls ≠ "java/lang/invoke/MethodHandle" ∧ yX9_type.cls ≠ "java/lang/invoke/VarHandle" ∧ (parseMethodDescriptor yX9_type.desc).map (fun d => d.parameters.length) = some 1 := by decide +kernel
theorem myX9_nextChar : yX9_nextChar.cls = "FlyTreasuryModel" ∧ yX9_nextChar.cls ≠ "java/lang/invoke/MethodHandle" ∧ yX9_nextChar.cls ≠ "java/lang/invoke/VarHandle" ∧ (parseMethodDescriptor yX9_nextChar.desc).map (fun d => d.parameters.length) = some 0 := by decide +kernel
theorem myX9_reads : yX9_reads.cls = "FlyTreasuryModel" ∧ yX9_reads.cls ≠ "java/lang/invoke/MethodHandle" ∧ yX9_reads.cls ≠ "java/lang/invoke/VarHandle" ∧ (parseMethodDescriptor yX9_reads.desc).map (fun d => d.parameters.length) = some 1 := by decide +kernel
theorem myX9_readsDigit : yX9_readsDigit.cls = "FlyTreasuryModel" ∧ yX9_readsDigit.cls ≠ "java/lang/invoke/MethodHandle" ∧ yX9_readsDigit.cls ≠ "java/lang/invoke/VarHandle" ∧ (parseMethodDescriptor yX9_readsDigit.desc).map (fun d => d.parameters.length) = some 1 := by decide +kernel
theorem myX9_readsNumber : yX9_readsNumber.cls = "FlyTreasuryModel" ∧ yX9_readsNumber.cls ≠ "java/lang/invoke/MethodHandle" ∧ yX9_readsNumber.cls ≠ "java/lang/invoke/VarHandle" ∧ (parseMethodDescriptor yX9_readsNumber.desc).map (fun d => d.parameters.length) = some 1 := by decide +kernel
theorem myX9_readsKind : yX9_readsKind.cls = "FlyTreasuryModel" ∧ yX9_readsKind.cls ≠ "java/lang/invoke/MethodHandle" ∧ yX9_readsKind.cls ≠ "java/lang/invoke/VarHandle" ∧ (parseMethodDescriptor yX9_readsKind.desc).map (fun d => d.parameters.length) = some 1 := by decide +kernel
theorem myX9_readsFlies : yX9_readsFlies.cls = "FlyTreasuryModel" ∧ yX9_readsFlies.cls ≠ "java/lang/invoke/MethodHandle" ∧ yX9_readsFlies.cls ≠ "java/lang/invoke/VarHandle" ∧ (parseMethodDescriptor yX9_readsFlies.desc).map (fun d => d.parameters.length) = some 0 := by decide +kernel
theorem myX9_readsS : yX9_readsS.cls = "FlyTreasuryModel" ∧ yX9_readsS.cls ≠ "java/lang/invoke/MethodHandle" ∧ yX9_readsS.cls ≠ "java/lang/invoke/VarHandle" ∧ (parseMethodDescriptor yX9_readsS.desc).map (fun d => d.parameters.length) = some 0 := by decide +kernel
theorem myX9_readsM : yX9_readsM.cls = "FlyTreasuryModel" ∧ yX9_readsM.cls ≠ "java/lang/invoke/MethodHandle" ∧ yX9_readsM.cls ≠ "java/lang/invoke/VarHandle" ∧ (parseMethodDescriptor yX9_readsM.desc).map (fun d => d.parameters.length) = some 0 := by decide +kernel
theorem myX9_readsDay : yX9_readsDay.cls = "FlyTreasuryModel" ∧ yX9_readsDay.cls ≠ "java/lang/invoke/MethodHandle" ∧ yX9_readsDay.cls ≠ "java/lang/invoke/VarHandle" ∧ (parseMethodDescriptor yX9_readsDay.desc).map (fun d => d.parameters.length) = some 0 := by decide +kernel
theorem myX9_readsCommand : yX9_readsCommand.cls = "FlyTreasuryModel" ∧ yX9_readsCommand.cls ≠ "java/lang/invoke/MethodHandle" ∧ yX9_readsCommand.cls ≠ "java/lang/invoke/VarHandle" ∧ (parseMethodDescriptor yX9_readsCommand.desc).map (fun d => d.parameters.length) = some 0 := by decide +kernel
theorem myX9_readsAll : yX9_readsAll.cls = "FlyTreasuryModel" ∧ yX9_readsAll.cls ≠ "java/lang/invoke/MethodHandle" ∧ yX9_readsAll.cls ≠ "java/lang/invoke/VarHandle" ∧ (parseMethodDescriptor yX9_readsAll.desc).map (fun d => d.parameters.length) = some 0 := by decide +kernel
theorem myX9_notNow : yX9_notNow.cls = "FlyTreasuryModel" ∧ yX9_notNow.cls ≠ "java/lang/invoke/MethodHandle" ∧ yX9_notNow.cls ≠ "java/lang/invoke/VarHandle" ∧ (parseMethodDescriptor yX9_notNow.desc).map (fun d => d.parameters.length) = some 0 := by decide +kernel
theorem myX9_doesNow : yX9_doesNow.cls = "FlyTreasuryModel" ∧ yX9_doesNow.cls ≠ "java/lang/invoke/MethodHandle" ∧ yX9_doesNow.cls ≠ "java/lang/invoke/VarHandle" ∧ (parseMethodDescriptor yX9_doesNow.desc).map (fun d => d.parameters.length) = some 0 := by decide +kernel
theorem myX9_doesAll : yX9_doesAll.cls = "FlyTreasuryModel" ∧ yX9_doesAll.cls ≠ "java/lang/invoke/MethodHandle" ∧ yX9_doesAll.cls ≠ "java/lang/invoke/VarHandle" ∧ (parseMethodDescriptor yX9_doesAll.desc).map (fun d => d.parameters.length) = some 0 := by decide +kernel
theorem myX9_runScript : yX9_runScript.cls = "FlyTreasuryModel" ∧ yX9_runScript.cls ≠ "java/lang/invoke/MethodHandle" ∧ yX9_runScript.cls ≠ "java/lang/invoke/VarHandle" ∧ (parseMethodDescriptor yX9_runScript.desc).map (fun d => d.parameters.length) = some 0 := by decide +kernel
theorem myX9_errorPosition : yX9_errorPosition.cls = "FlyTreasuryModel" ∧ yX9_errorPosition.cls ≠ "java/lang/invoke/MethodHandle" ∧ yX9_errorPosition.cls ≠ "java/lang/invoke/VarHandle" ∧ (parseMethodDescriptor yX9_errorPosition.desc).map (fun d => d.parameters.length) = some 0 := by decide +kernel
theorem myX9_failedCommand : yX9_failedCommand.cls = "FlyTreasuryModel" ∧ yX9_failedCommand.cls ≠ "java/lang/invoke/MethodHandle" ∧ yX9_failedCommand.cls ≠ "java/lang/invoke/VarHandle" ∧ (parseMethodDescriptor yX9_failedCommand.desc).map (fun d => d.parameters.length) = some 0 := by decide +kernel
theorem myX9_undo : yX9_undo.cls = "FlyTreasuryModel" ∧ yX9_undo.cls ≠ "java/lang/invoke/MethodHandle" ∧ yX9_undo.cls ≠ "java/lang/invoke/VarHandle" ∧ (parseMethodDescriptor yX9_undo.desc).map (fun d => d.parameters.length) = some 0 := by decide +kernel
theorem myX9_save : yX9_save.cls = "FlyTreasuryModel" ∧ yX9_save.cls ≠ "java/lang/invoke/MethodHandle" ∧ yX9_save.cls ≠ "java/lang/invoke/VarHandle" ∧ (parseMethodDescriptor yX9_save.desc).map (fun d => d.parameters.length) = some 0 := by decide +kernel
theorem myX9_restore : yX9_restore.cls = "FlyTreasuryModel" ∧ yX9_restore.cls ≠ "java/lang/invoke/MethodHandle" ∧ yX9_restore.cls ≠ "java/lang/invoke/VarHandle" ∧ (parseMethodDescriptor yX9_restore.desc).map (fun d => d.parameters.length) = some 0 := by decide +kernel
