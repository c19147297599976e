theorem dX8_renderVault_100 : decode cX8_renderVault 100 = .ok (.pop, 1) := by decide +kernel
theorem dX8_renderVault_101 : decode cX8_renderVault 101 = .ok (.aload_n 2, 1) := by decide +kernel
theorem dX8_renderVault_102 : decode cX8_renderVault 102 = .ok (.invokevirtual 162, 3) := by decide +kernel
theorem dX8_renderVault_105 : decode cX8_renderVault 105 = .ok (.ifCond .eq 20, 3) := by decide +kernel
theorem dX8_renderVault_108 : decode cX8_renderVault 108 = .ok (.aload_n 0, 1) := by decide +kernel
theorem dX8_renderVault_109 : decode cX8_renderVault 109 = .ok (.getfield 39, 3) := by decide +kernel
theorem dX8_renderVault_112 : decode cX8_renderVault 112 = .ok (.bipush 42, 2) := by decide +kernel
theorem dX8_renderVault_114 : decode cX8_renderVault 114 = .ok (.invokevirtual 276, 3) := by decide +kernel
theorem dX8_renderVault_117 : decode cX8_renderVault 117 = .ok (.aload_n 2, 1) := by decide +kernel
theorem dX8_renderVault_118 : decode cX8_renderVault 118 = .ok (.getfield 173, 3) := by decide +kernel
theorem dX8_renderVault_121 : decode cX8_renderVault 121 = .ok (.invokevirtual 280, 3) := by decide +kernel
theorem dX8_renderVault_124 : decode cX8_renderVault 124 = .ok (.pop, 1) := by decide +kernel
theorem dX8_renderVault_125 : decode cX8_renderVault 125 = .ok (.aload_n 0, 1) := by decide +kernel
theorem dX8_renderVault_126 : decode cX8_renderVault 126 = .ok (.getfield 39, 3) := by decide +kernel
theorem dX8_renderVault_129 : decode cX8_renderVault 129 = .ok (.invokevirtual 283, 3) := by decide +kernel
theorem dX8_renderVault_132 : decode cX8_renderVault 132 = .ok (.ireturn, 1) := by decide +kernel
theorem dX8_renderRates_0 : decode cX8_renderRates 0 = .ok (.aload_n 0, 1) := by decide +kernel
theorem dX8_renderRates_1 : decode cX8_renderRates 1 = .ok (.getfield 39, 3) := by decide +kernel
theorem dX8_renderRates_4 : decode cX8_renderRates 4 = .ok (.iconst 0, 1) := by decide +kernel
theorem dX8_renderRates_5 : decode cX8_renderRates 5 = .ok (.invokevirtual 272, 3) := by decide +kernel
theorem dX8_renderRates_8 : decode cX8_renderRates 8 = .ok (.iconst 0, 1) := by decide +kernel
theorem dX8_renderRates_9 : decode cX8_renderRates 9 = .ok (.istore_n 1, 1) := by decide +kernel
theorem dX8_renderRates_10 : decode cX8_renderRates 10 = .ok (.iload_n 1, 1) := by decide +kernel
theorem dX8_renderRates_11 : decode cX8_renderRates 11 = .ok (.iconst 3, 1) := by decide +kernel
theorem dX8_renderRates_12 : decode cX8_renderRates 12 = .ok (.if_icmp .ge 49, 3) := by decide +kernel
theorem dX8_renderRates_15 : decode cX8_renderRates 15 = .ok (.iload_n 1, 1) := by decide +kernel
theorem dX8_renderRates_16 : decode cX8_renderRates 16 = .ok (.ifCond .le 13, 3) := by decide +kernel
theorem dX8_renderRates_19 : decode cX8_renderRates 19 = .ok (.aload_n 0, 1) := by decide +kernel
theorem dX8_renderRates_20 : decode cX8_renderRates 20 = .ok (.getfield 39, 3) := by decide +kernel
theorem dX8_renderRates_23 : decode cX8_renderRates 23 = .ok (.bipush 44, 2) := by decide +kernel
theorem dX8_renderRates_25 : decode cX8_renderRates 25 = .ok (.invokevirtual 276, 3) := by decide +kernel
theorem dX8_renderRates_28 : decode cX8_renderRates 28 = .ok (.pop, 1) := by decide +kernel
theorem dX8_renderRates_29 : decode cX8_renderRates 29 = .ok (.aload_n 0, 1) := by decide +kernel
theorem dX8_renderRates_30 : decode cX8_renderRates 30 = .ok (.getfield 39, 3) := by decide +kernel
theorem dX8_renderRates_33 : decode cX8_renderRates 33 = .ok (.ldc 227, 2) := by decide +kernel
theorem dX8_renderRates_35 : decode cX8_renderRates 35 = .ok (.iload_n 1, 1) := by decide +kernel
theorem dX8_renderRates_36 : decode cX8_renderRates 36 = .ok (.invokevirtual 229, 3) := by decide +kernel
theorem dX8_renderRates_39 : decode cX8_renderRates 39 = .ok (.invokevirtual 276, 3) := by decide +kernel
theorem dX8_renderRates_42 : decode cX8_renderRates 42 = .ok (.aload_n 0, 1) := by decide +kernel
theorem dX8_renderRates_43 : decode cX8_renderRates 43 = .ok (.getfield 12, 3) := by decide +kernel
theorem dX8_renderRates_46 : decode cX8_renderRates 46 = .ok (.getfield 176, 3) := by decide +kernel
theorem dX8_renderRates_49 : decode cX8_renderRates 49 = .ok (.iload_n 1, 1) := by decide +kernel
theorem dX8_renderRates_50 : decode cX8_renderRates 50 = .ok (.iaload, 1) := by decide +kernel
theorem dX8_renderRates_51 : decode cX8_renderRates 51 = .ok (.invokevirtual 280, 3) := by decide +kernel
theorem dX8_renderRates_54 : decode cX8_renderRates 54 = .ok (.pop, 1) := by decide +kernel
theorem dX8_renderRates_55 : decode cX8_renderRates 55 = .ok (.iinc 1 1, 3) := by decide +kernel
theorem dX8_renderRates_58 : decode cX8_renderRates 58 = .ok (.goto (-48), 3) := by decide +kernel
theorem dX8_renderRates_61 : decode cX8_renderRates 61 = .ok (.aload_n 0, 1) := by decide +kernel
theorem dX8_renderRates_62 : decode cX8_renderRates 62 = .ok (.getfield 39, 3) := by decide +kernel
theorem dX8_renderRates_65 : decode cX8_renderRates 65 = .ok (.invokevirtual 283, 3) := by decide +kernel
theorem dX8_renderRates_68 : decode cX8_renderRates 68 = .ok (.ireturn, 1) := by decide +kernel
theorem dX8_outputAt_0 : decode cX8_outputAt 0 = .ok (.iload_n 1, 1) := by decide +kernel
theorem dX8_outputAt_1 : decode cX8_outputAt 1 = .ok (.ifCond .lt 14, 3) := by decide +kernel
theorem dX8_outputAt_4 : decode cX8_outputAt 4 = .ok (.iload_n 1, 1) := by decide +kernel
theorem dX8_outputAt_5 : decode cX8_outputAt 5 = .ok (.aload_n 0, 1) := by decide +kernel
theorem dX8_outputAt_6 : decode cX8_outputAt 6 = .ok (.getfield 39, 3) := by decide +kernel
theorem dX8_outputAt_9 : decode cX8_outputAt 9 = .ok (.invokevirtual 283, 3) := by decide +kernel
theorem dX8_outputAt_12 : decode cX8_outputAt 12 = .ok (.if_icmp .lt 14, 3) := by decide +kernel
theorem dX8_outputAt_15 : decode cX8_outputAt 15 = .ok (.new 286, 3) := by decide +kernel
theorem dX8_outputAt_18 : decode cX8_outputAt 18 = .ok (.dup, 1) := by decide +kernel
theorem dX8_outputAt_19 : decode cX8_outputAt 19 = .ok (.ldc_w 288, 3) := by decide +kernel
theorem dX8_outputAt_22 : decode cX8_outputAt 22 = .ok (.invokespecial 290, 3) := by decide +kernel
theorem dX8_outputAt_25 : decode cX8_outputAt 25 = .ok (.athrow, 1) := by decide +kernel
theorem dX8_outputAt_26 : decode cX8_outputAt 26 = .ok (.aload_n 0, 1) := by decide +kernel
theorem dX8_outputAt_27 : decode cX8_outputAt 27 = .ok (.getfield 39, 3) := by decide +kernel
theorem dX8_outputAt_30 : decode cX8_outputAt 30 = .ok (.iload_n 1, 1) := by decide +kernel
theorem dX8_outputAt_31 : decode cX8_outputAt 31 = .ok (.invokevirtual 291, 3) := by decide +kernel
theorem dX8_outputAt_34 : decode cX8_outputAt 34 = .ok (.ireturn, 1) := by decide +kernel
theorem dX8_type_0 : decode cX8_type 0 = .ok (.iload_n 1, 1) := by decide +kernel
theorem dX8_type_1 : decode cX8_type 1 = .ok (.bipush 32, 2) := by decide +kernel
theorem dX8_type_3 : decode cX8_type 3 = .ok (.if_icmp .lt 9, 3) := by decide +kernel
theorem dX8_type_6 : decode cX8_type 6 = .ok (.iload_n 1, 1) := by decide +kernel
theorem dX8_type_7 : decode cX8_type 7 = .ok (.bipush 126, 2) := by decide +kernel
theorem dX8_type_9 : decode cX8_type 9 = .ok (.if_icmp .le 14, 3) := by decide +kernel
theorem dX8_type_12 : decode cX8_type 12 = .ok (.new 292, 3) := by decide +kernel
theorem dX8_type_15 : decode cX8_type 15 = .ok (.dup, 1) := by decide +kernel
theorem dX8_type_16 : decode cX8_type 16 = .ok (.ldc_w 294, 3) := by decide +kernel
theorem dX8_type_19 : decode cX8_type 19 = .ok (.invokespecial 296, 3) := by decide +kernel
theorem dX8_type_22 : decode cX8_type 22 = .ok (.athrow, 1) := by decide +kernel
theorem dX8_type_23 : decode cX8_type 23 = .ok (.aload_n 0, 1) := by decide +kernel
theorem dX8_type_24 : decode cX8_type 24 = .ok (.getfield 32, 3) := by decide +kernel
theorem dX8_type_27 : decode cX8_type 27 = .ok (.getfield 297, 3) := by decide +kernel
theorem dX8_type_30 : decode cX8_type 30 = .ok (.bipush 60, 2) := by decide +kernel
theorem dX8_type_32 : decode cX8_type 32 = .ok (.if_icmp .lt 14, 3) := by decide +kernel
theorem dX8_type_35 : decode cX8_type 35 = .ok (.new 299, 3) := by decide +kernel
theorem dX8_type_38 : decode cX8_type 38 = .ok (.dup, 1) := by decide +kernel
theorem dX8_type_39 : decode cX8_type 39 = .ok (.ldc_w 301, 3) := by decide +kernel
theorem dX8_type_42 : decode cX8_type 42 = .ok (.invokespecial 303, 3) := by decide +kernel
theorem dX8_type_45 : decode cX8_type 45 = .ok (.athrow, 1) := by decide +kernel
theorem dX8_type_46 : decode cX8_type 46 = .ok (.aload_n 0, 1) := by decide +kernel
theorem dX8_type_47 : decode cX8_type 47 = .ok (.getfield 32, 3) := by decide +kernel
theorem dX8_type_50 : decode cX8_type 50 = .ok (.iload_n 1, 1) := by decide +kernel
theorem dX8_type_51 : decode cX8_type 51 = .ok (.invokevirtual 304, 3) := by decide +kernel
theorem dX8_type_54 : decode cX8_type 54 = .ok (.aload_n 0, 1) := by decide +kernel
theorem dX8_type_55 : decode cX8_type 55 = .ok (.getfield 32, 3) := by decide +kernel
theorem dX8_type_58 : decode cX8_type 58 = .ok (.getfield 297, 3) := by decide +kernel
theorem dX8_type_61 : decode cX8_type 61 = .ok (.ireturn, 1) := by decide +kernel
theorem dX8_runScript_0 : decode cX8_runScript 0 = .ok (.aload_n 0, 1) := by decide +kernel
theorem dX8_runScript_1 : decode cX8_runScript 1 = .ok (.getfield 32, 3) := by decide +kernel
theorem dX8_runScript_4 : decode cX8_runScript 4 = .ok (.invokevirtual 307, 3) := by decide +kernel
theorem dX8_runScript_7 : decode cX8_runScript 7 = .ok (.istore_n 1, 1) := by decide +kernel
theorem dX8_runScript_8 : decode cX8_runScript 8 = .ok (.aload_n 0, 1) := by decide +kernel
theorem dX8_runScript_9 : decode cX8_runScript 9 = .ok (.getfield 32, 3) := by decide +kernel
theorem dX8_runScript_12 : decode cX8_runScript 12 = .ok (.iconst 0, 1) := by decide +kernel
theorem dX8_runScript_13 : decode cX8_runScript 13 = .ok (.putfield 297, 3) := by decide +kernel
theorem dX8_runScript_16 : decode cX8_runScript 16 = .ok (.iload_n 1, 1) := by decide +kernel
theorem dX8_runScript_17 : decode cX8_runScript 17 = .ok (.ifCond .ne 25, 3) := by decide +kernel
theorem dX8_runScript_20 : decode cX8_runScript 20 = .ok (.aload_n 0, 1) := by decide +kernel
theorem dX8_runScript_21 : decode cX8_runScript 21 = .ok (.aload_n 0, 1) := by decide +kernel
theorem dX8_runScript_22 : decode cX8_runScript 22 = .ok (.getfield 32, 3) := by decide +kernel
theorem dX8_runScript_25 : decode cX8_runScript 25 = .ok (.getfield 310, 3) := by decide +kernel
theorem dX8_runScript_28 : decode cX8_runScript 28 = .ok (.putfield 47, 3) := by decide +kernel
theorem dX8_runScript_31 : decode cX8_runScript 31 = .ok (.new 292, 3) := by decide +kernel
theorem dX8_runScript_34 : decode cX8_runScript 34 = .ok (.dup, 1) := by decide +kernel
theorem dX8_runScript_35 : decode cX8_runScript 35 = .ok (.ldc_w 313, 3) := by decide +kernel
theorem dX8_runScript_38 : decode cX8_runScript 38 = .ok (.invokespecial 296, 3) := by decide +kernel
theorem dX8_runScript_41 : decode cX8_runScript 41 = .ok (.athrow, 1) := by decide +kernel
theorem dX8_runScript_42 : decode cX8_runScript 42 = .ok (.aload_n 0, 1) := by decide +kernel
theorem dX8_runScript_43 : decode cX8_runScript 43 = .ok (.getfield 19, 3) := by decide +kernel
theorem dX8_runScript_46 : decode cX8_runScript 46 = .ok (.aload_n 0, 1) := by decide +kernel
theorem dX8_runScript_47 : decode cX8_runScript 47 = .ok (.getfield 12, 3) := by decide +kernel
theorem dX8_runScript_50 : decode cX8_runScript 50 = .ok (.invokevirtual 315, 3) := by decide +kernel
theorem dX8_runScript_53 : decode cX8_runScript 53 = .ok (.aload_n 0, 1) := by decide +kernel
theorem dX8_runScript_54 : decode cX8_runScript 54 = .ok (.invokevirtual 318, 3) := by decide +kernel
theorem dX8_runScript_57 : decode cX8_runScript 57 = .ok (.istore_n 2, 1) := by decide +kernel
theorem dX8_runScript_58 : decode cX8_runScript 58 = .ok (.iload_n 2, 1) := by decide +kernel
theorem dX8_runScript_59 : decode cX8_runScript 59 = .ok (.ifCond .lt 30, 3) := by decide +kernel
theorem dX8_runScript_62 : decode cX8_runScript 62 = .ok (.aload_n 0, 1) := by decide +kernel
theorem dX8_runScript_63 : decode cX8_runScript 63 = .ok (.getfield 12, 3) := by decide +kernel
theorem dX8_runScript_66 : decode cX8_runScript 66 = .ok (.aload_n 0, 1) := by decide +kernel
theorem dX8_runScript_67 : decode cX8_runScript 67 = .ok (.getfield 19, 3) := by decide +kernel
theorem dX8_runScript_70 : decode cX8_runScript 70 = .ok (.invokevirtual 315, 3) := by decide +kernel
theorem dX8_runScript_73 : decode cX8_runScript 73 = .ok (.aload_n 0, 1) := by decide +kernel
theorem dX8_runScript_74 : decode cX8_runScript 74 = .ok (.iload_n 2, 1) := by decide +kernel
theorem dX8_runScript_75 : decode cX8_runScript 75 = .ok (.putfield 51, 3) := by decide +kernel
theorem dX8_runScript_78 : decode cX8_runScript 78 = .ok (.new 299, 3) := by decide +kernel
theorem dX8_runScript_81 : decode cX8_runScript 81 = .ok (.dup, 1) := by decide +kernel
theorem dX8_runScript_82 : decode cX8_runScript 82 = .ok (.ldc_w 321, 3) := by decide +kernel
theorem dX8_runScript_85 : decode cX8_runScript 85 = .ok (.invokespecial 303, 3) := by decide +kernel
theorem dX8_runScript_88 : decode cX8_runScript 88 = .ok (.athrow, 1) := by decide +kernel
theorem dX8_runScript_89 : decode cX8_runScript 89 = .ok (.aload_n 0, 1) := by decide +kernel
theorem dX8_runScript_90 : decode cX8_runScript 90 = .ok (.getfield 25, 3) := by decide +kernel
theorem dX8_runScript_93 : decode cX8_runScript 93 = .ok (.aload_n 0, 1) := by decide +kernel
theorem dX8_runScript_94 : decode cX8_runScript 94 = .ok (.getfield 19, 3) := by decide +kernel
theorem dX8_runScript_97 : decode cX8_runScript 97 = .ok (.invokevirtual 62, 3) := by decide +kernel
theorem dX8_runScript_100 : decode cX8_runScript 100 = .ok (.aload_n 0, 1) := by decide +kernel
theorem dX8_runScript_101 : decode cX8_runScript 101 = .ok (.getfield 32, 3) := by decide +kernel
theorem dX8_runScript_104 : decode cX8_runScript 104 = .ok (.getfield 323, 3) := by decide +kernel
theorem dX8_runScript_107 : decode cX8_runScript 107 = .ok (.ireturn, 1) := by decide +kernel
theorem dX8_errorPosition_0 : decode cX8_errorPosition 0 = .ok (.aload_n 0, 1) := by decide +kernel
theorem dX8_errorPosition_1 : decode cX8_errorPosition 1 = .ok (.getfield 47, 3) := by decide +kernel
theorem dX8_errorPosition_4 : decode cX8_errorPosition 4 = .ok (.iconst (-1), 1) := by decide +kernel
theorem dX8_errorPosition_5 : decode cX8_errorPosition 5 = .ok (.if_icmp .ne 14, 3) := by decide +kernel
theorem dX8_errorPosition_8 : decode cX8_errorPosition 8 = .ok (.new 166, 3) := by decide +kernel
theorem dX8_errorPosition_11 : decode cX8_errorPosition 11 = .ok (.dup, 1) := by decide +kernel
theorem dX8_errorPosition_12 : decode cX8_errorPosition 12 = .ok (.ldc_w 326, 3) := by decide +kernel
theorem dX8_errorPosition_15 : decode cX8_errorPosition 15 = .ok (.invokespecial 170, 3) := by decide +kernel
theorem dX8_errorPosition_18 : decode cX8_errorPosition 18 = .ok (.athrow, 1) := by decide +kernel
theorem dX8_errorPosition_19 : decode cX8_errorPosition 19 = .ok (.aload_n 0, 1) := by decide +kernel
theorem dX8_errorPosition_20 : decode cX8_errorPosition 20 = .ok (.getfield 47, 3) := by decide +kernel
theorem dX8_errorPosition_23 : decode cX8_errorPosition 23 = .ok (.ireturn, 1) := by decide +kernel
theorem dX8_failedCommand_0 : decode cX8_failedCommand 0 = .ok (.aload_n 0, 1) := by decide +kernel
theorem dX8_failedCommand_1 : decode cX8_failedCommand 1 = .ok (.getfield 51, 3) := by decide +kernel
theorem dX8_failedCommand_4 : decode cX8_failedCommand 4 = .ok (.iconst (-1), 1) := by decide +kernel
theorem dX8_failedCommand_5 : decode cX8_failedCommand 5 = .ok (.if_icmp .ne 14, 3) := by decide +kernel
theorem dX8_failedCommand_8 : decode cX8_failedCommand 8 = .ok (.new 166, 3) := by decide +kernel
theorem dX8_failedCommand_11 : decode cX8_failedCommand 11 = .ok (.dup, 1) := by decide +kernel
theorem dX8_failedCommand_12 : decode cX8_failedCommand 12 = .ok (.ldc_w 328, 3) := by decide +kernel
theorem dX8_failedCommand_15 : decode cX8_failedCommand 15 = .ok (.invokespecial 170, 3) := by decide +kernel
theorem dX8_failedCommand_18 : decode cX8_failedCommand 18 = .ok (.athrow, 1) := by decide +kernel
theorem dX8_failedCommand_19 : decode cX8_failedCommand 19 = .ok (.aload_n 0, 1) := by decide +kernel
theorem dX8_failedCommand_20 : decode cX8_failedCommand 20 = .ok (.getfield 51, 3) := by decide +kernel
theorem dX8_failedCommand_23 : decode cX8_failedCommand 23 = .ok (.ireturn, 1) := by decide +kernel
theorem dX8_undo_0 : decode cX8_undo 0 = .ok (.aload_n 0, 1) := by decide +kernel
theorem dX8_undo_1 : decode cX8_undo 1 = .ok (.getfield 25, 3) := by decide +kernel
theorem dX8_undo_4 : decode cX8_undo 4 = .ok (.getfield 330, 3) := by decide +kernel
theorem dX8_undo_7 : decode cX8_undo 7 = .ok (.ifCond .ne 14, 3) := by decide +kernel
theorem dX8_undo_10 : decode cX8_undo 10 = .ok (.new 299, 3) := by decide +kernel
theorem dX8_undo_13 : decode cX8_undo 13 = .ok (.dup, 1) := by decide +kernel
theorem dX8_undo_14 : decode cX8_undo 14 = .ok (.ldc_w 333, 3) := by decide +kernel
theorem dX8_undo_17 : decode cX8_undo 17 = .ok (.invokespecial 303, 3) := by decide +kernel
theorem dX8_undo_20 : decode cX8_undo 20 = .ok (.athrow, 1) := by decide +kernel
theorem dX8_undo_21 : decode cX8_undo 21 = .ok (.aload_n 0, 1) := by decide +kernel
theorem dX8_undo_22 : decode cX8_undo 22 = .ok (.getfield 25, 3) := by decide +kernel
theorem dX8_undo_25 : decode cX8_undo 25 = .ok (.aload_n 0, 1) := by decide +kernel
theorem dX8_undo_26 : decode cX8_undo 26 = .ok (.getfield 12, 3) := by decide +kernel
theorem dX8_undo_29 : decode cX8_undo 29 = .ok (.invokevirtual 335, 3) := by decide +kernel
theorem dX8_undo_32 : decode cX8_undo 32 = .ok (.aload_n 0, 1) := by decide +kernel
theorem dX8_undo_33 : decode cX8_undo 33 = .ok (.getfield 25, 3) := by decide +kernel
theorem dX8_undo_36 : decode cX8_undo 36 = .ok (.getfield 330, 3) := by decide +kernel
theorem dX8_undo_39 : decode cX8_undo 39 = .ok (.ireturn, 1) := by decide +kernel
theorem dX8_save_0 : decode cX8_save 0 = .ok (.aload_n 0, 1) := by decide +kernel
theorem dX8_save_1 : decode cX8_save 1 = .ok (.getfield 16, 3) := by decide +kernel
theorem dX8_save_4 : decode cX8_save 4 = .ok (.aload_n 0, 1) := by decide +kernel
theorem dX8_save_5 : decode cX8_save 5 = .ok (.getfield 12, 3) := by decide +kernel
theorem dX8_save_8 : decode cX8_save 8 = .ok (.invokevirtual 315, 3) := by decide +kernel
theorem dX8_save_11 : decode cX8_save 11 = .ok (.aload_n 0, 1) := by decide +kernel
theorem dX8_save_12 : decode cX8_save 12 = .ok (.iconst 1, 1) := by decide +kernel
theorem dX8_save_13 : decode cX8_save 13 = .ok (.putfield 43, 3) := by decide +kernel
theorem dX8_save_16 : decode cX8_save 16 = .ok (.aload_n 0, 1) := by decide +kernel
theorem dX8_save_17 : decode cX8_save 17 = .ok (.getfield 12, 3) := by decide +kernel
theorem dX8_save_20 : decode cX8_save 20 = .ok (.getfield 133, 3) := by decide +kernel
theorem dX8_save_23 : decode cX8_save 23 = .ok (.ireturn, 1) := by decide +kernel
theorem dX8_restore_0 : decode cX8_restore 0 = .ok (.aload_n 0, 1) := by decide +kernel
theorem dX8_restore_1 : decode cX8_restore 1 = .ok (.getfield 43, 3) := by decide +kernel
theorem dX8_restore_4 : decode cX8_restore 4 = .ok (.ifCond .ne 14, 3) := by decide +kernel
theorem dX8_restore_7 : decode cX8_restore 7 = .ok (.new 299, 3) := by decide +kernel
theorem dX8_restore_10 : decode cX8_restore 10 = .ok (.dup, 1) := by decide +kernel
theorem dX8_restore_11 : decode cX8_restore 11 = .ok (.ldc_w 338, 3) := by decide +kernel
theorem dX8_restore_14 : decode cX8_restore 14 = .ok (.invokespecial 303, 3) := by decide +kernel
theorem dX8_restore_17 : decode cX8_restore 17 = .ok (.athrow, 1) := by decide +kernel
theorem dX8_restore_18 : decode cX8_restore 18 = .ok (.aload_n 0, 1) := by decide +kernel
theorem dX8_restore_19 : decode cX8_restore 19 = .ok (.getfield 12, 3) := by decide +kernel
theorem dX8_restore_22 : decode cX8_restore 22 = .ok (.aload_n 0, 1) := by decide +kernel
theorem dX8_restore_23 : decode cX8_restore 23 = .ok (.getfield 16, 3) := by decide +kernel
theorem dX8_restore_26 : decode cX8_restore 26 = .ok (.invokevirtual 315, 3) := by decide +kernel
theorem dX8_restore_29 : decode cX8_restore 29 = .ok (.aload_n 0, 1) := by decide +kernel
theorem dX8_restore_30 : decode cX8_restore 30 = .ok (.getfield 25, 3) := by decide +kernel
theorem dX8_restore_33 : decode cX8_restore 33 = .ok (.iconst 0, 1) := by decide +kernel
theorem dX8_restore_34 : decode cX8_restore 34 = .ok (.putfield 330, 3) := by decide +kernel
theorem dX8_restore_37 : decode cX8_restore 37 = .ok (.aload_n 0, 1) := by decide +kernel
theorem dX8_restore_38 : decode cX8_restore 38 = .ok (.getfield 12, 3) := by decide +kernel
theorem dX8_restore_41 : decode cX8_restore 41 = .ok (.getfield 133, 3) := by decide +kernel
theorem dX8_restore_44 : decode cX8_restore 44 = .ok (.ireturn, 1) := by decide +kernel
theorem dX8_vaultAt_0 : decode cX8_vaultAt 0 = .ok (.aload_n 0, 1) := by decide +kernel
theorem dX8_vaultAt_1 : decode cX8_vaultAt 1 = .ok (.getfield 12, 3) := by decide +kernel
theorem dX8_vaultAt_4 : decode cX8_vaultAt 4 = .ok (.iload_n 1, 1) := by decide +kernel
theorem dX8_vaultAt_5 : decode cX8_vaultAt 5 = .ok (.invokevirtual 340, 3) := by decide +kernel
theorem dX8_vaultAt_8 : decode cX8_vaultAt 8 = .ok (.ifCond .ne 14, 3) := by decide +kernel
theorem dX8_vaultAt_11 : decode cX8_vaultAt 11 = .ok (.new 286, 3) := by decide +kernel
theorem dX8_vaultAt_14 : decode cX8_vaultAt 14 = .ok (.dup, 1) := by decide +kernel
theorem dX8_vaultAt_15 : decode cX8_vaultAt 15 = .ok (.ldc_w 343, 3) := by decide +kernel
theorem dX8_vaultAt_18 : decode cX8_vaultAt 18 = .ok (.invokespecial 290, 3) := by decide +kernel
theorem dX8_vaultAt_21 : decode cX8_vaultAt 21 = .ok (.athrow, 1) := by decide +kernel
theorem dX8_vaultAt_22 : decode cX8_vaultAt 22 = .ok (.aload_n 0, 1) := by decide +kernel
theorem dX8_vaultAt_23 : decode cX8_vaultAt 23 = .ok (.getfield 12, 3) := by decide +kernel
theorem dX8_vaultAt_26 : decode cX8_vaultAt 26 = .ok (.getfield 345, 3) := by decide +kernel
theorem dX8_vaultAt_29 : decode cX8_vaultAt 29 = .ok (.iload_n 1, 1) := by decide +kernel
theorem dX8_vaultAt_30 : decode cX8_vaultAt 30 = .ok (.aaload, 1) := by decide +kernel
theorem dX8_vaultAt_31 : decode cX8_vaultAt 31 = .ok (.areturn, 1) := by decide +kernel
theorem dX8_kindNumber_0 : decode cX8_kindNumber 0 = .ok (.ldc 227, 2) := by decide +kernel
theorem dX8_kindNumber_2 : decode cX8_kindNumber 2 = .ok (.iload_n 0, 1) := by decide +kernel
theorem dX8_kindNumber_3 : decode cX8_kindNumber 3 = .ok (.invokevirtual 349, 3) := by decide +kernel
theorem dX8_kindNumber_6 : decode cX8_kindNumber 6 = .ok (.istore_n 1, 1) := by decide +kernel
theorem dX8_kindNumber_7 : decode cX8_kindNumber 7 = .ok (.iload_n 1, 1) := by decide +kernel
theorem dX8_kindNumber_8 : decode cX8_kindNumber 8 = .ok (.ifCond .ge 14, 3) := by decide +kernel
theorem dX8_kindNumber_11 : decode cX8_kindNumber 11 = .ok (.new 292, 3) := by decide +kernel
theorem dX8_kindNumber_14 : decode cX8_kindNumber 14 = .ok (.dup, 1) := by decide +kernel
theorem dX8_kindNumber_15 : decode cX8_kindNumber 15 = .ok (.ldc_w 352, 3) := by decide +kernel
theorem dX8_kindNumber_18 : decode cX8_kindNumber 18 = .ok (.invokespecial 296, 3) := by decide +kernel
theorem dX8_kindNumber_21 : decode cX8_kindNumber 21 = .ok (.athrow, 1) := by decide +kernel
theorem dX8_kindNumber_22 : decode cX8_kindNumber 22 = .ok (.iload_n 1, 1) := by decide +kernel
theorem dX8_kindNumber_23 : decode cX8_kindNumber 23 = .ok (.ireturn, 1) := by decide +kernel
theorem dX8_demand_0 : decode cX8_demand 0 = .ok (.getstatic 354, 3) := by decide +kernel
theorem dX8_demand_3 : decode cX8_demand 3 = .ok (.aload_n 0, 1) := by decide +kernel
theorem dX8_demand_4 : decode cX8_demand 4 = .ok (.invokevirtual 359, 3) := by decide +kernel
theorem dX8_demand_7 : decode cX8_demand 7 = .ok (.iaload, 1) := by decide +kernel
theorem dX8_demand_8 : decode cX8_demand 8 = .ok (.tableswitch 76 1 4 #[32, 43, 54, 65], 32) := by decide +kernel
theorem dX8_demand_40 : decode cX8_demand 40 = .ok (.new 286, 3) := by decide +kernel
theorem dX8_demand_43 : decode cX8_demand 43 = .ok (.dup, 1) := by decide +kernel
theorem dX8_demand_44 : decode cX8_demand 44 = .ok (.ldc_w 343, 3) := by decide +kernel
theorem dX8_demand_47 : decode cX8_demand 47 = .ok (.invokespecial 290, 3) := by decide +kernel
theorem dX8_demand_50 : decode cX8_demand 50 = .ok (.athrow, 1) := by decide +kernel
theorem dX8_demand_51 : decode cX8_demand 51 = .ok (.new 292, 3) := by decide +kernel
theorem dX8_demand_54 : decode cX8_demand 54 = .ok (.dup, 1) := by decide +kernel
theorem dX8_demand_55 : decode cX8_demand 55 = .ok (.ldc_w 364, 3) := by decide +kernel
theorem dX8_demand_58 : decode cX8_demand 58 = .ok (.invokespecial 296, 3) := by decide +kernel
theorem dX8_demand_61 : decode cX8_demand 61 = .ok (.athrow, 1) := by decide +kernel
theorem dX8_demand_62 : decode cX8_demand 62 = .ok (.new 299, 3) := by decide +kernel
theorem dX8_demand_65 : decode cX8_demand 65 = .ok (.dup, 1) := by decide +kernel
theorem dX8_demand_66 : decode cX8_demand 66 = .ok (.ldc_w 366, 3) := by decide +kernel
theorem dX8_demand_69 : decode cX8_demand 69 = .ok (.invokespecial 303, 3) := by decide +kernel
theorem dX8_demand_72 : decode cX8_demand 72 = .ok (.athrow, 1) := by decide +kernel
theorem dX8_demand_73 : decode cX8_demand 73 = .ok (.new 368, 3) := by decide +kernel
theorem dX8_demand_76 : decode cX8_demand 76 = .ok (.dup, 1) := by decide +kernel
theorem dX8_demand_77 : decode cX8_demand 77 = .ok (.ldc_w 370, 3) := by decide +kernel
theorem dX8_demand_80 : decode cX8_demand 80 = .ok (.invokespecial 372, 3) := by decide +kernel
theorem dX8_demand_83 : decode cX8_demand 83 = .ok (.athrow, 1) := by decide +kernel
theorem dX8_demand_84 : decode cX8_demand 84 = .ok (.return_, 1) := by decide +kernel
theorem dX8_firstRefusedOrder_0 : decode cX8_firstRefusedOrder 0 = .ok (.iconst 0, 1) := by decide +kernel
theorem dX8_firstRefusedOrder_1 : decode cX8_firstRefusedOrder 1 = .ok (.istore_n 1, 1) := by decide +kernel
theorem dX8_firstRefusedOrder_2 : decode cX8_firstRefusedOrder 2 = .ok (.iload_n 1, 1) := by decide +kernel
theorem dX8_firstRefusedOrder_3 : decode cX8_firstRefusedOrder 3 = .ok (.aload_n 0, 1) := by decide +kernel
theorem dX8_firstRefusedOrder_4 : decode cX8_firstRefusedOrder 4 = .ok (.getfield 32, 3) := by decide +kernel
theorem dX8_firstRefusedOrder_7 : decode cX8_firstRefusedOrder 7 = .ok (.getfield 323, 3) := by decide +kernel
theorem dX8_firstRefusedOrder_10 : decode cX8_firstRefusedOrder 10 = .ok (.if_icmp .ge 49, 3) := by decide +kernel
theorem dX8_firstRefusedOrder_13 : decode cX8_firstRefusedOrder 13 = .ok (.iload_n 1, 1) := by decide +kernel
theorem dX8_firstRefusedOrder_14 : decode cX8_firstRefusedOrder 14 = .ok (.bipush 16, 2) := by decide +kernel
theorem dX8_firstRefusedOrder_16 : decode cX8_firstRefusedOrder 16 = .ok (.if_icmp .ge 43, 3) := by decide +kernel
theorem dX8_firstRefusedOrder_19 : decode cX8_firstRefusedOrder 19 = .ok (.aload_n 0, 1) := by decide +kernel
theorem dX8_firstRefusedOrder_20 : decode cX8_firstRefusedOrder 20 = .ok (.aload_n 0, 1) := by decide +kernel
theorem dX8_firstRefusedOrder_21 : decode cX8_firstRefusedOrder 21 = .ok (.getfield 32, 3) := by decide +kernel
theorem dX8_firstRefusedOrder_24 : decode cX8_firstRefusedOrder 24 = .ok (.getfield 373, 3) := by decide +kernel
theorem dX8_firstRefusedOrder_27 : decode cX8_firstRefusedOrder 27 = .ok (.iload_n 1, 1) := by decide +kernel
theorem dX8_firstRefusedOrder_28 : decode cX8_firstRefusedOrder 28 = .ok (.aaload, 1) := by decide +kernel
theorem dX8_firstRefusedOrder_29 : decode cX8_firstRefusedOrder 29 = .ok (.invokevirtual 377, 3) := by decide +kernel
theorem dX8_firstRefusedOrder_32 : decode cX8_firstRefusedOrder 32 = .ok (.getstatic 381, 3) := by decide +kernel
theorem dX8_firstRefusedOrder_35 : decode cX8_firstRefusedOrder 35 = .ok (.if_acmp .eq 5, 3) := by decide +kernel
theorem dX8_firstRefusedOrder_38 : decode cX8_firstRefusedOrder 38 = .ok (.iload_n 1, 1) := by decide +kernel
theorem dX8_firstRefusedOrder_39 : decode cX8_firstRefusedOrder 39 = .ok (.ireturn, 1) := by decide +kernel
theorem dX8_firstRefusedOrder_40 : decode cX8_firstRefusedOrder 40 = .ok (.aload_n 0, 1) := by decide +kernel
theorem dX8_firstRefusedOrder_41 : decode cX8_firstRefusedOrder 41 = .ok (.aload_n 0, 1) := by decide +kernel
theorem dX8_firstRefusedOrder_42 : decode cX8_firstRefusedOrder 42 = .ok (.getfield 32, 3) := by decide +kernel
theorem dX8_firstRefusedOrder_45 : decode cX8_firstRefusedOrder 45 = .ok (.getfield 373, 3) := by decide +kernel
theorem dX8_firstRefusedOrder_48 : decode cX8_firstRefusedOrder 48 = .ok (.iload_n 1, 1) := by decide +kernel
theorem dX8_firstRefusedOrder_49 : decode cX8_firstRefusedOrder 49 = .ok (.aaload, 1) := by decide +kernel
theorem dX8_firstRefusedOrder_50 : decode cX8_firstRefusedOrder 50 = .ok (.invokevirtual 385, 3) := by decide +kernel
theorem dX8_firstRefusedOrder_53 : decode cX8_firstRefusedOrder 53 = .ok (.iinc 1 1, 3) := by decide +kernel
theorem dX8_firstRefusedOrder_56 : decode cX8_firstRefusedOrder 56 = .ok (.goto (-54), 3) := by decide +kernel
theorem dX8_firstRefusedOrder_59 : decode cX8_firstRefusedOrder 59 = .ok (.iconst (-1), 1) := by decide +kernel
theorem dX8_firstRefusedOrder_60 : decode cX8_firstRefusedOrder 60 = .ok (.ireturn, 1) := by decide +kernel
theorem dX8_refusalOf_0 : decode cX8_refusalOf 0 = .ok (.getstatic 389, 3) := by decide +kernel
theorem dX8_refusalOf_3 : decode cX8_refusalOf 3 = .ok (.aload_n 1, 1) := by decide +kernel
theorem dX8_refusalOf_4 : decode cX8_refusalOf 4 = .ok (.getfield 392, 3) := by decide +kernel
theorem dX8_refusalOf_7 : decode cX8_refusalOf 7 = .ok (.invokevirtual 398, 3) := by decide +kernel
theorem dX8_refusalOf_10 : decode cX8_refusalOf 10 = .ok (.iaload, 1) := by decide +kernel
theorem dX8_refusalOf_11 : decode cX8_refusalOf 11 = .ok (.tableswitch 201 1 9 #[49, 61, 81, 101, 125, 141, 157, 169, 185], 49) := by decide +kernel
theorem dX8_refusalOf_60 : decode cX8_refusalOf 60 = .ok (.aload_n 0, 1) := by decide +kernel
theorem dX8_refusalOf_61 : decode cX8_refusalOf 61 = .ok (.getfield 12, 3) := by decide +kernel
theorem dX8_refusalOf_64 : decode cX8_refusalOf 64 = .ok (.aload_n 1, 1) := by decide +kernel
theorem dX8_refusalOf_65 : decode cX8_refusalOf 65 = .ok (.getfield 401, 3) := by decide +kernel
theorem dX8_refusalOf_68 : decode cX8_refusalOf 68 = .ok (.invokevirtual 54, 3) := by decide +kernel
theorem dX8_refusalOf_71 : decode cX8_refusalOf 71 = .ok (.areturn, 1) := by decide +kernel
theorem dX8_refusalOf_72 : decode cX8_refusalOf 72 = .ok (.aload_n 0, 1) := by decide +kernel
theorem dX8_refusalOf_73 : decode cX8_refusalOf 73 = .ok (.getfield 12, 3) := by decide +kernel
theorem dX8_refusalOf_76 : decode cX8_refusalOf 76 = .ok (.aload_n 1, 1) := by decide +kernel
theorem dX8_refusalOf_77 : decode cX8_refusalOf 77 = .ok (.getfield 404, 3) := by decide +kernel
theorem dX8_refusalOf_80 : decode cX8_refusalOf 80 = .ok (.aload_n 1, 1) := by decide +kernel
theorem dX8_refusalOf_81 : decode cX8_refusalOf 81 = .ok (.getfield 407, 3) := by decide +kernel
theorem dX8_refusalOf_84 : decode cX8_refusalOf 84 = .ok (.aload_n 1, 1) := by decide +kernel
theorem dX8_refusalOf_85 : decode cX8_refusalOf 85 = .ok (.getfield 401, 3) := by decide +kernel
theorem dX8_refusalOf_88 : decode cX8_refusalOf 88 = .ok (.invokevirtual 70, 3) := by decide +kernel
theorem dX8_refusalOf_91 : decode cX8_refusalOf 91 = .ok (.areturn, 1) := by decide +kernel
theorem dX8_refusalOf_92 : decode cX8_refusalOf 92 = .ok (.aload_n 0, 1) := by decide +kernel
theorem dX8_refusalOf_93 : decode cX8_refusalOf 93 = .ok (.getfield 12, 3) := by decide +kernel
theorem dX8_refusalOf_96 : decode cX8_refusalOf 96 = .ok (.aload_n 1, 1) := by decide +kernel
theorem dX8_refusalOf_97 : decode cX8_refusalOf 97 = .ok (.getfield 404, 3) := by decide +kernel
theorem dX8_refusalOf_100 : decode cX8_refusalOf 100 = .ok (.aload_n 1, 1) := by decide +kernel
theorem dX8_refusalOf_101 : decode cX8_refusalOf 101 = .ok (.getfield 407, 3) := by decide +kernel
theorem dX8_refusalOf_104 : decode cX8_refusalOf 104 = .ok (.aload_n 1, 1) := by decide +kernel
theorem dX8_refusalOf_105 : decode cX8_refusalOf 105 = .ok (.getfield 401, 3) := by decide +kernel
theorem dX8_refusalOf_108 : decode cX8_refusalOf 108 = .ok (.invokevirtual 78, 3) := by decide +kernel
theorem dX8_refusalOf_111 : decode cX8_refusalOf 111 = .ok (.areturn, 1) := by decide +kernel
theorem dX8_refusalOf_112 : decode cX8_refusalOf 112 = .ok (.aload_n 0, 1) := by decide +kernel
theorem dX8_refusalOf_113 : decode cX8_refusalOf 113 = .ok (.getfield 12, 3) := by decide +kernel
theorem dX8_refusalOf_116 : decode cX8_refusalOf 116 = .ok (.aload_n 1, 1) := by decide +kernel
theorem dX8_refusalOf_117 : decode cX8_refusalOf 117 = .ok (.getfield 404, 3) := by decide +kernel
theorem dX8_refusalOf_120 : decode cX8_refusalOf 120 = .ok (.aload_n 1, 1) := by decide +kernel
theorem dX8_refusalOf_121 : decode cX8_refusalOf 121 = .ok (.getfield 407, 3) := by decide +kernel
theorem dX8_refusalOf_124 : decode cX8_refusalOf 124 = .ok (.aload_n 1, 1) := by decide +kernel
theorem dX8_refusalOf_125 : decode cX8_refusalOf 125 = .ok (.getfield 411, 3) := by decide +kernel
theorem dX8_refusalOf_128 : decode cX8_refusalOf 128 = .ok (.aload_n 1, 1) := by decide +kernel
theorem dX8_refusalOf_129 : decode cX8_refusalOf 129 = .ok (.getfield 401, 3) := by decide +kernel
theorem dX8_refusalOf_132 : decode cX8_refusalOf 132 = .ok (.invokevirtual 84, 3) := by decide +kernel
theorem dX8_refusalOf_135 : decode cX8_refusalOf 135 = .ok (.areturn, 1) := by decide +kernel
theorem dX8_refusalOf_136 : decode cX8_refusalOf 136 = .ok (.aload_n 0, 1) := by decide +kernel
theorem dX8_refusalOf_137 : decode cX8_refusalOf 137 = .ok (.getfield 12, 3) := by decide +kernel
theorem dX8_refusalOf_140 : decode cX8_refusalOf 140 = .ok (.aload_n 1, 1) := by decide +kernel
theorem dX8_refusalOf_141 : decode cX8_refusalOf 141 = .ok (.getfield 404, 3) := by decide +kernel
theorem dX8_refusalOf_144 : decode cX8_refusalOf 144 = .ok (.aload_n 1, 1) := by decide +kernel
theorem dX8_refusalOf_145 : decode cX8_refusalOf 145 = .ok (.getfield 401, 3) := by decide +kernel
theorem dX8_refusalOf_148 : decode cX8_refusalOf 148 = .ok (.invokevirtual 92, 3) := by decide +kernel
theorem dX8_refusalOf_151 : decode cX8_refusalOf 151 = .ok (.areturn, 1) := by decide +kernel
theorem dX8_refusalOf_152 : decode cX8_refusalOf 152 = .ok (.aload_n 0, 1) := by decide +kernel
theorem dX8_refusalOf_153 : decode cX8_refusalOf 153 = .ok (.getfield 12, 3) := by decide +kernel
theorem dX8_refusalOf_156 : decode cX8_refusalOf 156 = .ok (.aload_n 1, 1) := by decide +kernel
theorem dX8_refusalOf_157 : decode cX8_refusalOf 157 = .ok (.getfield 404, 3) := by decide +kernel
theorem dX8_refusalOf_160 : decode cX8_refusalOf 160 = .ok (.aload_n 1, 1) := by decide +kernel
theorem dX8_refusalOf_161 : decode cX8_refusalOf 161 = .ok (.getfield 401, 3) := by decide +kernel
theorem dX8_refusalOf_164 : decode cX8_refusalOf 164 = .ok (.invokevirtual 100, 3) := by decide +kernel
theorem dX8_refusalOf_167 : decode cX8_refusalOf 167 = .ok (.areturn, 1) := by decide +kernel
theorem dX8_refusalOf_168 : decode cX8_refusalOf 168 = .ok (.aload_n 0, 1) := by decide +kernel
theorem dX8_refusalOf_169 : decode cX8_refusalOf 169 = .ok (.getfield 12, 3) := by decide +kernel
theorem dX8_refusalOf_172 : decode cX8_refusalOf 172 = .ok (.aload_n 1, 1) := by decide +kernel
theorem dX8_refusalOf_173 : decode cX8_refusalOf 173 = .ok (.getfield 404, 3) := by decide +kernel
theorem dX8_refusalOf_176 : decode cX8_refusalOf 176 = .ok (.invokevirtual 106, 3) := by decide +kernel
theorem dX8_refusalOf_179 : decode cX8_refusalOf 179 = .ok (.areturn, 1) := by decide +kernel
theorem dX8_refusalOf_180 : decode cX8_refusalOf 180 = .ok (.aload_n 0, 1) := by decide +kernel
theorem dX8_refusalOf_181 : decode cX8_refusalOf 181 = .ok (.getfield 12, 3) := by decide +kernel
theorem dX8_refusalOf_184 : decode cX8_refusalOf 184 = .ok (.aload_n 1, 1) := by decide +kernel
theorem dX8_refusalOf_185 : decode cX8_refusalOf 185 = .ok (.getfield 407, 3) := by decide +kernel
theorem dX8_refusalOf_188 : decode cX8_refusalOf 188 = .ok (.aload_n 1, 1) := by decide +kernel
theorem dX8_refusalOf_189 : decode cX8_refusalOf 189 = .ok (.getfield 401, 3) := by decide +kernel
theorem dX8_refusalOf_192 : decode cX8_refusalOf 192 = .ok (.invokevirtual 113, 3) := by decide +kernel
theorem dX8_refusalOf_195 : decode cX8_refusalOf 195 = .ok (.areturn, 1) := by decide +kernel
theorem dX8_refusalOf_196 : decode cX8_refusalOf 196 = .ok (.aload_n 0, 1) := by decide +kernel
theorem dX8_refusalOf_197 : decode cX8_refusalOf 197 = .ok (.getfield 12, 3) := by decide +kernel
theorem dX8_refusalOf_200 : decode cX8_refusalOf 200 = .ok (.aload_n 1, 1) := by decide +kernel
theorem dX8_refusalOf_201 : decode cX8_refusalOf 201 = .ok (.getfield 404, 3) := by decide +kernel
theorem dX8_refusalOf_204 : decode cX8_refusalOf 204 = .ok (.aload_n 1, 1) := by decide +kernel
theorem dX8_refusalOf_205 : decode cX8_refusalOf 205 = .ok (.getfield 401, 3) := by decide +kernel
theorem dX8_refusalOf_208 : decode cX8_refusalOf 208 = .ok (.invokevirtual 121, 3) := by decide +kernel
theorem dX8_refusalOf_211 : decode cX8_refusalOf 211 = .ok (.areturn, 1) := by decide +kernel
theorem dX8_refusalOf_212 : decode cX8_refusalOf 212 = .ok (.aload_n 0, 1) := by decide +kernel
theorem dX8_refusalOf_213 : decode cX8_refusalOf 213 = .ok (.getfield 12, 3) := by decide +kernel
theorem dX8_refusalOf_216 : decode cX8_refusalOf 216 = .ok (.aload_n 1, 1) := by decide +kernel
theorem dX8_refusalOf_217 : decode cX8_refusalOf 217 = .ok (.getfield 401, 3) := by decide +kernel
theorem dX8_refusalOf_220 : decode cX8_refusalOf 220 = .ok (.invokevirtual 127, 3) := by decide +kernel
theorem dX8_refusalOf_223 : decode cX8_refusalOf 223 = .ok (.areturn, 1) := by decide +kernel
theorem dX8_carryOut_0 : decode cX8_carryOut 0 = .ok (.getstatic 389, 3) := by decide +kernel
theorem dX8_carryOut_3 : decode cX8_carryOut 3 = .ok (.aload_n 1, 1) := by decide +kernel
theorem dX8_carryOut_4 : decode cX8_carryOut 4 = .ok (.getfield 392, 3) := by decide +kernel
theorem dX8_carryOut_7 : decode cX8_carryOut 7 = .ok (.invokevirtual 398, 3) := by decide +kernel
theorem dX8_carryOut_10 : decode cX8_carryOut 10 = .ok (.iaload, 1) := by decide +kernel
theorem dX8_carryOut_11 : decode cX8_carryOut 11 = .ok (.tableswitch 228 1 9 #[49, 64, 87, 110, 137, 156, 175, 190, 209], 49) := by decide +kernel
theorem dX8_carryOut_60 : decode cX8_carryOut 60 = .ok (.aload_n 0, 1) := by decide +kernel
theorem dX8_carryOut_61 : decode cX8_carryOut 61 = .ok (.getfield 12, 3) := by decide +kernel
theorem dX8_carryOut_64 : decode cX8_carryOut 64 = .ok (.aload_n 1, 1) := by decide +kernel
theorem dX8_carryOut_65 : decode cX8_carryOut 65 = .ok (.getfield 401, 3) := by decide +kernel
theorem dX8_carryOut_68 : decode cX8_carryOut 68 = .ok (.invokevirtual 66, 3) := by decide +kernel
theorem dX8_carryOut_71 : decode cX8_carryOut 71 = .ok (.pop, 1) := by decide +kernel
theorem dX8_carryOut_72 : decode cX8_carryOut 72 = .ok (.goto 179, 3) := by decide +kernel
theorem dX8_carryOut_75 : decode cX8_carryOut 75 = .ok (.aload_n 0, 1) := by decide +kernel
theorem dX8_carryOut_76 : decode cX8_carryOut 76 = .ok (.getfield 12, 3) := by decide +kernel
theorem dX8_carryOut_79 : decode cX8_carryOut 79 = .ok (.aload_n 1, 1) := by decide +kernel
theorem dX8_carryOut_80 : decode cX8_carryOut 80 = .ok (.getfield 404, 3) := by decide +kernel
theorem dX8_carryOut_83 : decode cX8_carryOut 83 = .ok (.aload_n 1, 1) := by decide +kernel
theorem dX8_carryOut_84 : decode cX8_carryOut 84 = .ok (.getfield 407, 3) := by decide +kernel
theorem dX8_carryOut_87 : decode cX8_carryOut 87 = .ok (.aload_n 1, 1) := by decide +kernel
theorem dX8_carryOut_88 : decode cX8_carryOut 88 = .ok (.getfield 401, 3) := by decide +kernel
theorem dX8_carryOut_91 : decode cX8_carryOut 91 = .ok (.invokevirtual 74, 3) := by decide +kernel
theorem dX8_carryOut_94 : decode cX8_carryOut 94 = .ok (.pop, 1) := by decide +kernel
theorem dX8_carryOut_95 : decode cX8_carryOut 95 = .ok (.goto 156, 3) := by decide +kernel
theorem dX8_carryOut_98 : decode cX8_carryOut 98 = .ok (.aload_n 0, 1) := by decide +kernel
theorem dX8_carryOut_99 : decode cX8_carryOut 99 = .ok (.getfield 12, 3) := by decide +kernel
theorem dX8_carryOut_102 : decode cX8_carryOut 102 = .ok (.aload_n 1, 1) := by decide +kernel
theorem dX8_carryOut_103 : decode cX8_carryOut 103 = .ok (.getfield 404, 3) := by decide +kernel
theorem dX8_carryOut_106 : decode cX8_carryOut 106 = .ok (.aload_n 1, 1) := by decide +kernel
theorem dX8_carryOut_107 : decode cX8_carryOut 107 = .ok (.getfield 407, 3) := by decide +kernel
theorem dX8_carryOut_110 : decode cX8_carryOut 110 = .ok (.aload_n 1, 1) := by decide +kernel
theorem dX8_carryOut_111 : decode cX8_carryOut 111 = .ok (.getfield 401, 3) := by decide +kernel
theorem dX8_carryOut_114 : decode cX8_carryOut 114 = .ok (.invokevirtual 81, 3) := by decide +kernel
theorem dX8_carryOut_117 : decode cX8_carryOut 117 = .ok (.pop, 1) := by decide +kernel
theorem dX8_carryOut_118 : decode cX8_carryOut 118 = .ok (.goto 133, 3) := by decide +kernel
theorem dX8_carryOut_121 : decode cX8_carryOut 121 = .ok (.aload_n 0, 1) := by decide +kernel
theorem dX8_carryOut_122 : decode cX8_carryOut 122 = .ok (.getfield 12, 3) := by decide +kernel
theorem dX8_carryOut_125 : decode cX8_carryOut 125 = .ok (.aload_n 1, 1) := by decide +kernel
theorem dX8_carryOut_126 : decode cX8_carryOut 126 = .ok (.getfield 404, 3) := by decide +kernel
theorem dX8_carryOut_129 : decode cX8_carryOut 129 = .ok (.aload_n 1, 1) := by decide +kernel
theorem dX8_carryOut_130 : decode cX8_carryOut 130 = .ok (.getfield 407, 3) := by decide +kernel
theorem dX8_carryOut_133 : decode cX8_carryOut 133 = .ok (.aload_n 1, 1) := by decide +kernel
theorem dX8_carryOut_134 : decode cX8_carryOut 134 = .ok (.getfield 411, 3) := by decide +kernel
theorem dX8_carryOut_137 : decode cX8_carryOut 137 = .ok (.aload_n 1, 1) := by decide +kernel
theorem dX8_carryOut_138 : decode cX8_carryOut 138 = .ok (.getfield 401, 3) := by decide +kernel
theorem dX8_carryOut_141 : decode cX8_carryOut 141 = .ok (.invokevirtual 88, 3) := by decide +kernel
theorem dX8_carryOut_144 : decode cX8_carryOut 144 = .ok (.pop, 1) := by decide +kernel
theorem dX8_carryOut_145 : decode cX8_carryOut 145 = .ok (.goto 106, 3) := by decide +kernel
theorem dX8_carryOut_148 : decode cX8_carryOut 148 = .ok (.aload_n 0, 1) := by decide +kernel
theorem dX8_carryOut_149 : decode cX8_carryOut 149 = .ok (.getfield 12, 3) := by decide +kernel
theorem dX8_carryOut_152 : decode cX8_carryOut 152 = .ok (.aload_n 1, 1) := by decide +kernel
theorem dX8_carryOut_153 : decode cX8_carryOut 153 = .ok (.getfield 404, 3) := by decide +kernel
theorem dX8_carryOut_156 : decode cX8_carryOut 156 = .ok (.aload_n 1, 1) := by decide +kernel
theorem dX8_carryOut_157 : decode cX8_carryOut 157 = .ok (.getfield 401, 3) := by decide +kernel
theorem dX8_carryOut_160 : decode cX8_carryOut 160 = .ok (.invokevirtual 96, 3) := by decide +kernel
theorem dX8_carryOut_163 : decode cX8_carryOut 163 = .ok (.pop, 1) := by decide +kernel
theorem dX8_carryOut_164 : decode cX8_carryOut 164 = .ok (.goto 87, 3) := by decide +kernel
theorem dX8_carryOut_167 : decode cX8_carryOut 167 = .ok (.aload_n 0, 1) := by decide +kernel
theorem dX8_carryOut_168 : decode cX8_carryOut 168 = .ok (.getfield 12, 3) := by decide +kernel
theorem dX8_carryOut_171 : decode cX8_carryOut 171 = .ok (.aload_n 1, 1) := by decide +kernel
theorem dX8_carryOut_172 : decode cX8_carryOut 172 = .ok (.getfield 404, 3) := by decide +kernel
theorem dX8_carryOut_175 : decode cX8_carryOut 175 = .ok (.aload_n 1, 1) := by decide +kernel
theorem dX8_carryOut_176 : decode cX8_carryOut 176 = .ok (.getfield 401, 3) := by decide +kernel
theorem dX8_carryOut_179 : decode cX8_carryOut 179 = .ok (.invokevirtual 103, 3) := by decide +kernel
theorem dX8_carryOut_182 : decode cX8_carryOut 182 = .ok (.pop, 1) := by decide +kernel
theorem dX8_carryOut_183 : decode cX8_carryOut 183 = .ok (.goto 68, 3) := by decide +kernel
theorem dX8_carryOut_186 : decode cX8_carryOut 186 = .ok (.aload_n 0, 1) := by decide +kernel
theorem dX8_carryOut_187 : decode cX8_carryOut 187 = .ok (.getfield 12, 3) := by decide +kernel
theorem dX8_carryOut_190 : decode cX8_carryOut 190 = .ok (.aload_n 1, 1) := by decide +kernel
theorem dX8_carryOut_191 : decode cX8_carryOut 191 = .ok (.getfield 404, 3) := by decide +kernel
theorem dX8_carryOut_194 : decode cX8_carryOut 194 = .ok (.invokevirtual 109, 3) := by decide +kernel
theorem dX8_carryOut_197 : decode cX8_carryOut 197 = .ok (.pop, 1) := by decide +kernel
theorem dX8_carryOut_198 : decode cX8_carryOut 198 = .ok (.goto 53, 3) := by decide +kernel
theorem dX8_carryOut_201 : decode cX8_carryOut 201 = .ok (.aload_n 0, 1) := by decide +kernel
theorem dX8_carryOut_202 : decode cX8_carryOut 202 = .ok (.getfield 12, 3) := by decide +kernel
theorem dX8_carryOut_205 : decode cX8_carryOut 205 = .ok (.aload_n 1, 1) := by decide +kernel
theorem dX8_carryOut_206 : decode cX8_carryOut 206 = .ok (.getfield 407, 3) := by decide +kernel
theorem dX8_carryOut_209 : decode cX8_carryOut 209 = .ok (.aload_n 1, 1) := by decide +kernel
theorem dX8_carryOut_210 : decode cX8_carryOut 210 = .ok (.getfield 401, 3) := by decide +kernel
theorem dX8_carryOut_213 : decode cX8_carryOut 213 = .ok (.invokevirtual 117, 3) := by decide +kernel
theorem dX8_carryOut_216 : decode cX8_carryOut 216 = .ok (.pop, 1) := by decide +kernel
theorem dX8_carryOut_217 : decode cX8_carryOut 217 = .ok (.goto 34, 3) := by decide +kernel
theorem dX8_carryOut_220 : decode cX8_carryOut 220 = .ok (.aload_n 0, 1) := by decide +kernel
theorem dX8_carryOut_221 : decode cX8_carryOut 221 = .ok (.getfield 12, 3) := by decide +kernel
theorem dX8_carryOut_224 : decode cX8_carryOut 224 = .ok (.aload_n 1, 1) := by decide +kernel
theorem dX8_carryOut_225 : decode cX8_carryOut 225 = .ok (.getfield 404, 3) := by decide +kernel
theorem dX8_carryOut_228 : decode cX8_carryOut 228 = .ok (.aload_n 1, 1) := by decide +kernel
theorem dX8_carryOut_229 : decode cX8_carryOut 229 = .ok (.getfield 401, 3) := by decide +kernel
theorem dX8_carryOut_232 : decode cX8_carryOut 232 = .ok (.invokevirtual 124, 3) := by decide +kernel
theorem dX8_carryOut_235 : decode cX8_carryOut 235 = .ok (.pop, 1) := by decide +kernel
theorem dX8_carryOut_236 : decode cX8_carryOut 236 = .ok (.goto 15, 3) := by decide +kernel
theorem dX8_carryOut_239 : decode cX8_carryOut 239 = .ok (.aload_n 0, 1) := by decide +kernel
theorem dX8_carryOut_240 : decode cX8_carryOut 240 = .ok (.getfield 12, 3) := by decide +kernel
theorem dX8_carryOut_243 : decode cX8_carryOut 243 = .ok (.aload_n 1, 1) := by decide +kernel
theorem dX8_carryOut_244 : decode cX8_carryOut 244 = .ok (.getfield 401, 3) := by decide +kernel
theorem dX8_carryOut_247 : decode cX8_carryOut 247 = .ok (.invokevirtual 130, 3) := by decide +kernel
theorem dX8_carryOut_250 : decode cX8_carryOut 250 = .ok (.pop, 1) := by decide +kernel
theorem dX8_carryOut_251 : decode cX8_carryOut 251 = .ok (.return_, 1) := by decide +kernel
theorem dX8_quotient_0 : decode cX8_quotient 0 = .ok (.iload_n 1, 1) := by decide +kernel
theorem dX8_quotient_1 : decode cX8_quotient 1 = .ok (.iconst 1, 1) := by decide +kernel
theorem dX8_quotient_2 : decode cX8_quotient 2 = .ok (.if_icmp .ge 7, 3) := by decide +kernel
theorem dX8_quotient_5 : decode cX8_quotient 5 = .ok (.iconst 0, 1) := by decide +kernel
theorem dX8_quotient_6 : decode cX8_quotient 6 = .ok (.goto 6, 3) := by decide +kernel
theorem dX8_quotient_9 : decode cX8_quotient 9 = .ok (.iload_n 0, 1) := by decide +kernel
theorem dX8_quotient_10 : decode cX8_quotient 10 = .ok (.iload_n 1, 1) := by decide +kernel
theorem dX8_quotient_11 : decode cX8_quotient 11 = .ok (.idiv, 1) := by decide +kernel
theorem dX8_quotient_12 : decode cX8_quotient 12 = .ok (.ireturn, 1) := by decide +kernel
theorem dX9_thrown_0 : decode cX9_thrown 0 = .ok (.aload_n 0, 1) := by decide +kernel
theorem dX9_thrown_1 : decode cX9_thrown 1 = .ok (.getfield 1, 3) := by decide +kernel
theorem dX9_thrown_4 : decode cX9_thrown 4 = .ok (.ireturn, 1) := by decide +kernel
theorem dX9_fails_0 : decode cX9_fails 0 = .ok (.aload_n 0, 1) := by decide +kernel
theorem dX9_fails_1 : decode cX9_fails 1 = .ok (.iload_n 1, 1) := by decide +kernel
theorem dX9_fails_2 : decode cX9_fails 2 = .ok (.putfield 1, 3) := by decide +kernel
theorem dX9_fails_5 : decode cX9_fails 5 = .ok (.iconst 0, 1) := by decide +kernel
theorem dX9_fails_6 : decode cX9_fails 6 = .ok (.ireturn, 1) := by decide +kernel
theorem dX9_isBetween_0 : decode cX9_isBetween 0 = .ok (.iload_n 1, 1) := by decide +kernel
theorem dX9_isBetween_1 : decode cX9_isBetween 1 = .ok (.iload_n 0, 1) := by decide +kernel
theorem dX9_isBetween_2 : decode cX9_isBetween 2 = .ok (.if_icmp .gt 12, 3) := by decide +kernel
theorem dX9_isBetween_5 : decode cX9_isBetween 5 = .ok (.iload_n 0, 1) := by decide +kernel
theorem dX9_isBetween_6 : decode cX9_isBetween 6 = .ok (.iload_n 2, 1) := by decide +kernel
theorem dX9_isBetween_7 : decode cX9_isBetween 7 = .ok (.if_icmp .gt 7, 3) := by decide +kernel
theorem dX9_isBetween_10 : decode cX9_isBetween 10 = .ok (.iconst 1, 1) := by decide +kernel
theorem dX9_isBetween_11 : decode cX9_isBetween 11 = .ok (.goto 4, 3) := by decide +kernel
theorem dX9_isBetween_14 : decode cX9_isBetween 14 = .ok (.iconst 0, 1) := by decide +kernel
theorem dX9_isBetween_15 : decode cX9_isBetween 15 = .ok (.ireturn, 1) := by decide +kernel
theorem dX9_init_0 : decode cX9_init 0 = .ok (.aload_n 0, 1) := by decide +kernel
theorem dX9_init_1 : decode cX9_init 1 = .ok (.invokespecial 7, 3) := by decide +kernel
theorem dX9_init_4 : decode cX9_init 4 = .ok (.aload_n 0, 1) := by decide +kernel
theorem dX9_init_5 : decode cX9_init 5 = .ok (.bipush 56, 2) := by decide +kernel
theorem dX9_init_7 : decode cX9_init 7 = .ok (.newarray .int, 2) := by decide +kernel
theorem dX9_init_9 : decode cX9_init 9 = .ok (.putfield 13, 3) := by decide +kernel
theorem dX9_init_12 : decode cX9_init 12 = .ok (.aload_n 0, 1) := by decide +kernel
theorem dX9_init_13 : decode cX9_init 13 = .ok (.sipush 448, 3) := by decide +kernel
theorem dX9_init_16 : decode cX9_init 16 = .ok (.newarray .int, 2) := by decide +kernel
theorem dX9_init_18 : decode cX9_init 18 = .ok (.putfield 17, 3) := by decide +kernel
theorem dX9_init_21 : decode cX9_init 21 = .ok (.aload_n 0, 1) := by decide +kernel
theorem dX9_init_22 : decode cX9_init 22 = .ok (.bipush 56, 2) := by decide +kernel
theorem dX9_init_24 : decode cX9_init 24 = .ok (.newarray .int, 2) := by decide +kernel
theorem dX9_init_26 : decode cX9_init 26 = .ok (.putfield 20, 3) := by decide +kernel
theorem dX9_init_29 : decode cX9_init 29 = .ok (.aload_n 0, 1) := by decide +kernel
theorem dX9_init_30 : decode cX9_init 30 = .ok (.bipush 56, 2) := by decide +kernel
theorem dX9_init_32 : decode cX9_init 32 = .ok (.newarray .int, 2) := by decide +kernel
theorem dX9_init_34 : decode cX9_init 34 = .ok (.putfield 23, 3) := by decide +kernel
theorem dX9_init_37 : decode cX9_init 37 = .ok (.aload_n 0, 1) := by decide +kernel
theorem dX9_init_38 : decode cX9_init 38 = .ok (.bipush 60, 2) := by decide +kernel
theorem dX9_init_40 : decode cX9_init 40 = .ok (.newarray .char, 2) := by decide +kernel
theorem dX9_init_42 : decode cX9_init 42 = .ok (.putfield 26, 3) := by decide +kernel
theorem dX9_init_45 : decode cX9_init 45 = .ok (.aload_n 0, 1) := by decide +kernel
theorem dX9_init_46 : decode cX9_init 46 = .ok (.bipush 60, 2) := by decide +kernel
theorem dX9_init_48 : decode cX9_init 48 = .ok (.newarray .char, 2) := by decide +kernel
theorem dX9_init_50 : decode cX9_init 50 = .ok (.putfield 30, 3) := by decide +kernel
theorem dX9_init_53 : decode cX9_init 53 = .ok (.aload_n 0, 1) := by decide +kernel
theorem dX9_init_54 : decode cX9_init 54 = .ok (.iconst (-1), 1) := by decide +kernel
theorem dX9_init_55 : decode cX9_init 55 = .ok (.putfield 33, 3) := by decide +kernel
theorem dX9_init_58 : decode cX9_init 58 = .ok (.aload_n 0, 1) := by decide +kernel
theorem dX9_init_59 : decode cX9_init 59 = .ok (.iconst (-1), 1) := by decide +kernel
theorem dX9_init_60 : decode cX9_init 60 = .ok (.putfield 36, 3) := by decide +kernel
theorem dX9_init_63 : decode cX9_init 63 = .ok (.aload_n 0, 1) := by decide +kernel
theorem dX9_init_64 : decode cX9_init 64 = .ok (.iconst 4, 1) := by decide +kernel
theorem dX9_init_65 : decode cX9_init 65 = .ok (.newarray .int, 2) := by decide +kernel
theorem dX9_init_67 : decode cX9_init 67 = .ok (.putfield 39, 3) := by decide +kernel
theorem dX9_init_70 : decode cX9_init 70 = .ok (.aload_n 0, 1) := by decide +kernel
theorem dX9_init_71 : decode cX9_init 71 = .ok (.getfield 13, 3) := by decide +kernel
theorem dX9_init_74 : decode cX9_init 74 = .ok (.iconst 2, 1) := by decide +kernel
theorem dX9_init_75 : decode cX9_init 75 = .ok (.iconst 2, 1) := by decide +kernel
theorem dX9_init_76 : decode cX9_init 76 = .ok (.iastore, 1) := by decide +kernel
theorem dX9_init_77 : decode cX9_init 77 = .ok (.aload_n 0, 1) := by decide +kernel
theorem dX9_init_78 : decode cX9_init 78 = .ok (.getfield 13, 3) := by decide +kernel
theorem dX9_init_81 : decode cX9_init 81 = .ok (.iconst 3, 1) := by decide +kernel
theorem dX9_init_82 : decode cX9_init 82 = .ok (.bipush 6, 2) := by decide +kernel
theorem dX9_init_84 : decode cX9_init 84 = .ok (.iastore, 1) := by decide +kernel
theorem dX9_init_85 : decode cX9_init 85 = .ok (.aload_n 0, 1) := by decide +kernel
theorem dX9_init_86 : decode cX9_init 86 = .ok (.getfield 13, 3) := by decide +kernel
theorem dX9_init_89 : decode cX9_init 89 = .ok (.iconst 4, 1) := by decide +kernel
theorem dX9_init_90 : decode cX9_init 90 = .ok (.bipush 20, 2) := by decide +kernel
theorem dX9_init_92 : decode cX9_init 92 = .ok (.iastore, 1) := by decide +kernel
theorem dX9_init_93 : decode cX9_init 93 = .ok (.return_, 1) := by decide +kernel
theorem dX9_copies_0 : decode cX9_copies 0 = .ok (.iconst 0, 1) := by decide +kernel
theorem dX9_copies_1 : decode cX9_copies 1 = .ok (.istore_n 1, 1) := by decide +kernel
theorem dX9_copies_2 : decode cX9_copies 2 = .ok (.iload_n 1, 1) := by decide +kernel
theorem dX9_copies_3 : decode cX9_copies 3 = .ok (.bipush 56, 2) := by decide +kernel
theorem dX9_copies_5 : decode cX9_copies 5 = .ok (.if_icmp .ge 21, 3) := by decide +kernel
theorem dX9_copies_8 : decode cX9_copies 8 = .ok (.aload_n 0, 1) := by decide +kernel
theorem dX9_copies_9 : decode cX9_copies 9 = .ok (.getfield 23, 3) := by decide +kernel
theorem dX9_copies_12 : decode cX9_copies 12 = .ok (.iload_n 1, 1) := by decide +kernel
theorem dX9_copies_13 : decode cX9_copies 13 = .ok (.aload_n 0, 1) := by decide +kernel
theorem dX9_copies_14 : decode cX9_copies 14 = .ok (.getfield 13, 3) := by decide +kernel
theorem dX9_copies_17 : decode cX9_copies 17 = .ok (.iload_n 1, 1) := by decide +kernel
theorem dX9_copies_18 : decode cX9_copies 18 = .ok (.iaload, 1) := by decide +kernel
theorem dX9_copies_19 : decode cX9_copies 19 = .ok (.iastore, 1) := by decide +kernel
theorem dX9_copies_20 : decode cX9_copies 20 = .ok (.iinc 1 1, 3) := by decide +kernel
theorem dX9_copies_23 : decode cX9_copies 23 = .ok (.goto (-21), 3) := by decide +kernel
theorem dX9_copies_26 : decode cX9_copies 26 = .ok (.return_, 1) := by decide +kernel
theorem dX9_goesBack_0 : decode cX9_goesBack 0 = .ok (.iconst 0, 1) := by decide +kernel
theorem dX9_goesBack_1 : decode cX9_goesBack 1 = .ok (.istore_n 1, 1) := by decide +kernel
theorem dX9_goesBack_2 : decode cX9_goesBack 2 = .ok (.iload_n 1, 1) := by decide +kernel
theorem dX9_goesBack_3 : decode cX9_goesBack 3 = .ok (.bipush 56, 2) := by decide +kernel
theorem dX9_goesBack_5 : decode cX9_goesBack 5 = .ok (.if_icmp .ge 21, 3) := by decide +kernel
theorem dX9_goesBack_8 : decode cX9_goesBack 8 = .ok (.aload_n 0, 1) := by decide +kernel
theorem dX9_goesBack_9 : decode cX9_goesBack 9 = .ok (.getfield 13, 3) := by decide +kernel
theorem dX9_goesBack_12 : decode cX9_goesBack 12 = .ok (.iload_n 1, 1) := by decide +kernel
theorem dX9_goesBack_13 : decode cX9_goesBack 13 = .ok (.aload_n 0, 1) := by decide +kernel
theorem dX9_goesBack_14 : decode cX9_goesBack 14 = .ok (.getfield 23, 3) := by decide +kernel
theorem dX9_goesBack_17 : decode cX9_goesBack 17 = .ok (.iload_n 1, 1) := by decide +kernel
theorem dX9_goesBack_18 : decode cX9_goesBack 18 = .ok (.iaload, 1) := by decide +kernel
theorem dX9_goesBack_19 : decode cX9_goesBack 19 = .ok (.iastore, 1) := by decide +kernel
theorem dX9_goesBack_20 : decode cX9_goesBack 20 = .ok (.iinc 1 1, 3) := by decide +kernel
theorem dX9_goesBack_23 : decode cX9_goesBack 23 = .ok (.goto (-21), 3) := by decide +kernel
theorem dX9_goesBack_26 : decode cX9_goesBack 26 = .ok (.return_, 1) := by decide +kernel
theorem dX9_keeps_0 : decode cX9_keeps 0 = .ok (.aload_n 0, 1) := by decide +kernel
theorem dX9_keeps_1 : decode cX9_keeps 1 = .ok (.getfield 42, 3) := by decide +kernel
theorem dX9_keeps_4 : decode cX9_keeps 4 = .ok (.bipush 8, 2) := by decide +kernel
theorem dX9_keeps_6 : decode cX9_keeps 6 = .ok (.if_icmp .ne 26, 3) := by decide +kernel
theorem dX9_keeps_9 : decode cX9_keeps 9 = .ok (.aload_n 0, 1) := by decide +kernel
theorem dX9_keeps_10 : decode cX9_keeps 10 = .ok (.aload_n 0, 1) := by decide +kernel
theorem dX9_keeps_11 : decode cX9_keeps 11 = .ok (.getfield 45, 3) := by decide +kernel
theorem dX9_keeps_14 : decode cX9_keeps 14 = .ok (.iconst 1, 1) := by decide +kernel
theorem dX9_keeps_15 : decode cX9_keeps 15 = .ok (.iadd, 1) := by decide +kernel
theorem dX9_keeps_16 : decode cX9_keeps 16 = .ok (.bipush 8, 2) := by decide +kernel
theorem dX9_keeps_18 : decode cX9_keeps 18 = .ok (.irem, 1) := by decide +kernel
theorem dX9_keeps_19 : decode cX9_keeps 19 = .ok (.putfield 45, 3) := by decide +kernel
theorem dX9_keeps_22 : decode cX9_keeps 22 = .ok (.aload_n 0, 1) := by decide +kernel
theorem dX9_keeps_23 : decode cX9_keeps 23 = .ok (.dup, 1) := by decide +kernel
theorem dX9_keeps_24 : decode cX9_keeps 24 = .ok (.getfield 42, 3) := by decide +kernel
theorem dX9_keeps_27 : decode cX9_keeps 27 = .ok (.iconst 1, 1) := by decide +kernel
theorem dX9_keeps_28 : decode cX9_keeps 28 = .ok (.isub, 1) := by decide +kernel
theorem dX9_keeps_29 : decode cX9_keeps 29 = .ok (.putfield 42, 3) := by decide +kernel
theorem dX9_keeps_32 : decode cX9_keeps 32 = .ok (.aload_n 0, 1) := by decide +kernel
theorem dX9_keeps_33 : decode cX9_keeps 33 = .ok (.getfield 45, 3) := by decide +kernel
theorem dX9_keeps_36 : decode cX9_keeps 36 = .ok (.aload_n 0, 1) := by decide +kernel
theorem dX9_keeps_37 : decode cX9_keeps 37 = .ok (.getfield 42, 3) := by decide +kernel
theorem dX9_keeps_40 : decode cX9_keeps 40 = .ok (.iadd, 1) := by decide +kernel
theorem dX9_keeps_41 : decode cX9_keeps 41 = .ok (.bipush 8, 2) := by decide +kernel
theorem dX9_keeps_43 : decode cX9_keeps 43 = .ok (.irem, 1) := by decide +kernel
theorem dX9_keeps_44 : decode cX9_keeps 44 = .ok (.istore_n 1, 1) := by decide +kernel
theorem dX9_keeps_45 : decode cX9_keeps 45 = .ok (.iconst 0, 1) := by decide +kernel
theorem dX9_keeps_46 : decode cX9_keeps 46 = .ok (.istore_n 2, 1) := by decide +kernel
theorem dX9_keeps_47 : decode cX9_keeps 47 = .ok (.iload_n 2, 1) := by decide +kernel
theorem dX9_keeps_48 : decode cX9_keeps 48 = .ok (.bipush 56, 2) := by decide +kernel
theorem dX9_keeps_50 : decode cX9_keeps 50 = .ok (.if_icmp .ge 26, 3) := by decide +kernel
theorem dX9_keeps_53 : decode cX9_keeps 53 = .ok (.aload_n 0, 1) := by decide +kernel
theorem dX9_keeps_54 : decode cX9_keeps 54 = .ok (.getfield 17, 3) := by decide +kernel
theorem dX9_keeps_57 : decode cX9_keeps 57 = .ok (.bipush 56, 2) := by decide +kernel
theorem dX9_keeps_59 : decode cX9_keeps 59 = .ok (.iload_n 1, 1) := by decide +kernel
theorem dX9_keeps_60 : decode cX9_keeps 60 = .ok (.imul, 1) := by decide +kernel
theorem dX9_keeps_61 : decode cX9_keeps 61 = .ok (.iload_n 2, 1) := by decide +kernel
theorem dX9_keeps_62 : decode cX9_keeps 62 = .ok (.iadd, 1) := by decide +kernel
theorem dX9_keeps_63 : decode cX9_keeps 63 = .ok (.aload_n 0, 1) := by decide +kernel
theorem dX9_keeps_64 : decode cX9_keeps 64 = .ok (.getfield 23, 3) := by decide +kernel
theorem dX9_keeps_67 : decode cX9_keeps 67 = .ok (.iload_n 2, 1) := by decide +kernel
theorem dX9_keeps_68 : decode cX9_keeps 68 = .ok (.iaload, 1) := by decide +kernel
theorem dX9_keeps_69 : decode cX9_keeps 69 = .ok (.iastore, 1) := by decide +kernel
theorem dX9_keeps_70 : decode cX9_keeps 70 = .ok (.iinc 2 1, 3) := by decide +kernel
theorem dX9_keeps_73 : decode cX9_keeps 73 = .ok (.goto (-26), 3) := by decide +kernel
theorem dX9_keeps_76 : decode cX9_keeps 76 = .ok (.aload_n 0, 1) := by decide +kernel
theorem dX9_keeps_77 : decode cX9_keeps 77 = .ok (.dup, 1) := by decide +kernel
theorem dX9_keeps_78 : decode cX9_keeps 78 = .ok (.getfield 42, 3) := by decide +kernel
theorem dX9_keeps_81 : decode cX9_keeps 81 = .ok (.iconst 1, 1) := by decide +kernel
theorem dX9_keeps_82 : decode cX9_keeps 82 = .ok (.iadd, 1) := by decide +kernel
theorem dX9_keeps_83 : decode cX9_keeps 83 = .ok (.putfield 42, 3) := by decide +kernel
theorem dX9_keeps_86 : decode cX9_keeps 86 = .ok (.return_, 1) := by decide +kernel
theorem dX9_remembers_0 : decode cX9_remembers 0 = .ok (.aload_n 0, 1) := by decide +kernel
theorem dX9_remembers_1 : decode cX9_remembers 1 = .ok (.invokevirtual 48, 3) := by decide +kernel
theorem dX9_remembers_4 : decode cX9_remembers 4 = .ok (.aload_n 0, 1) := by decide +kernel
theorem dX9_remembers_5 : decode cX9_remembers 5 = .ok (.invokevirtual 51, 3) := by decide +kernel
theorem dX9_remembers_8 : decode cX9_remembers 8 = .ok (.return_, 1) := by decide +kernel
theorem dX9_kindOf_0 : decode cX9_kindOf 0 = .ok (.iload_n 0, 1) := by decide +kernel
theorem dX9_kindOf_1 : decode cX9_kindOf 1 = .ok (.bipush 103, 2) := by decide +kernel
theorem dX9_kindOf_3 : decode cX9_kindOf 3 = .ok (.if_icmp .ne 7, 3) := by decide +kernel
theorem dX9_kindOf_6 : decode cX9_kindOf 6 = .ok (.iconst 0, 1) := by decide +kernel
theorem dX9_kindOf_7 : decode cX9_kindOf 7 = .ok (.goto 24, 3) := by decide +kernel
theorem dX9_kindOf_10 : decode cX9_kindOf 10 = .ok (.iload_n 0, 1) := by decide +kernel
theorem dX9_kindOf_11 : decode cX9_kindOf 11 = .ok (.bipush 109, 2) := by decide +kernel
theorem dX9_kindOf_13 : decode cX9_kindOf 13 = .ok (.if_icmp .ne 7, 3) := by decide +kernel
theorem dX9_kindOf_16 : decode cX9_kindOf 16 = .ok (.iconst 1, 1) := by decide +kernel
theorem dX9_kindOf_17 : decode cX9_kindOf 17 = .ok (.goto 14, 3) := by decide +kernel
theorem dX9_kindOf_20 : decode cX9_kindOf 20 = .ok (.iload_n 0, 1) := by decide +kernel
theorem dX9_kindOf_21 : decode cX9_kindOf 21 = .ok (.bipush 104, 2) := by decide +kernel
theorem dX9_kindOf_23 : decode cX9_kindOf 23 = .ok (.if_icmp .ne 7, 3) := by decide +kernel
theorem dX9_kindOf_26 : decode cX9_kindOf 26 = .ok (.iconst 2, 1) := by decide +kernel
theorem dX9_kindOf_27 : decode cX9_kindOf 27 = .ok (.goto 4, 3) := by decide +kernel
theorem dX9_kindOf_30 : decode cX9_kindOf 30 = .ok (.iconst (-1), 1) := by decide +kernel
theorem dX9_kindOf_31 : decode cX9_kindOf 31 = .ok (.ireturn, 1) := by decide +kernel
theorem dX9_letterOf_0 : decode cX9_letterOf 0 = .ok (.iload_n 0, 1) := by decide +kernel
theorem dX9_letterOf_1 : decode cX9_letterOf 1 = .ok (.ifCond .ne 8, 3) := by decide +kernel
theorem dX9_letterOf_4 : decode cX9_letterOf 4 = .ok (.bipush 103, 2) := by decide +kernel
theorem dX9_letterOf_6 : decode cX9_letterOf 6 = .ok (.goto 15, 3) := by decide +kernel
theorem dX9_letterOf_9 : decode cX9_letterOf 9 = .ok (.iload_n 0, 1) := by decide +kernel
theorem dX9_letterOf_10 : decode cX9_letterOf 10 = .ok (.iconst 1, 1) := by decide +kernel
theorem dX9_letterOf_11 : decode cX9_letterOf 11 = .ok (.if_icmp .ne 8, 3) := by decide +kernel
theorem dX9_letterOf_14 : decode cX9_letterOf 14 = .ok (.bipush 109, 2) := by decide +kernel
theorem dX9_letterOf_16 : decode cX9_letterOf 16 = .ok (.goto 5, 3) := by decide +kernel
theorem dX9_letterOf_19 : decode cX9_letterOf 19 = .ok (.bipush 104, 2) := by decide +kernel
theorem dX9_letterOf_21 : decode cX9_letterOf 21 = .ok (.ireturn, 1) := by decide +kernel
theorem dX9_isVault_0 : decode cX9_isVault 0 = .ok (.iload_n 1, 1) := by decide +kernel
theorem dX9_isVault_1 : decode cX9_isVault 1 = .ok (.iconst 0, 1) := by decide +kernel
theorem dX9_isVault_2 : decode cX9_isVault 2 = .ok (.aload_n 0, 1) := by decide +kernel
theorem dX9_isVault_3 : decode cX9_isVault 3 = .ok (.getfield 13, 3) := by decide +kernel
theorem dX9_isVault_6 : decode cX9_isVault 6 = .ok (.iconst 0, 1) := by decide +kernel
theorem dX9_isVault_7 : decode cX9_isVault 7 = .ok (.iaload, 1) := by decide +kernel
theorem dX9_isVault_8 : decode cX9_isVault 8 = .ok (.iconst 1, 1) := by decide +kernel
theorem dX9_isVault_9 : decode cX9_isVault 9 = .ok (.isub, 1) := by decide +kernel
theorem dX9_isVault_10 : decode cX9_isVault 10 = .ok (.invokestatic 54, 3) := by decide +kernel
theorem dX9_isVault_13 : decode cX9_isVault 13 = .ok (.ireturn, 1) := by decide +kernel
theorem dX9_of_0 : decode cX9_of 0 = .ok (.aload_n 0, 1) := by decide +kernel
theorem dX9_of_1 : decode cX9_of 1 = .ok (.getfield 13, 3) := by decide +kernel
theorem dX9_of_4 : decode cX9_of 4 = .ok (.bipush 16, 2) := by decide +kernel
theorem dX9_of_6 : decode cX9_of 6 = .ok (.bipush 8, 2) := by decide +kernel
theorem dX9_of_8 : decode cX9_of 8 = .ok (.iload_n 1, 1) := by decide +kernel
theorem dX9_of_9 : decode cX9_of 9 = .ok (.imul, 1) := by decide +kernel
theorem dX9_of_10 : decode cX9_of 10 = .ok (.iadd, 1) := by decide +kernel
theorem dX9_of_11 : decode cX9_of 11 = .ok (.iload_n 2, 1) := by decide +kernel
theorem dX9_of_12 : decode cX9_of 12 = .ok (.iadd, 1) := by decide +kernel
theorem dX9_of_13 : decode cX9_of 13 = .ok (.iaload, 1) := by decide +kernel
theorem dX9_of_14 : decode cX9_of 14 = .ok (.ireturn, 1) := by decide +kernel
theorem dX9_adds_0 : decode cX9_adds 0 = .ok (.aload_n 0, 1) := by decide +kernel
theorem dX9_adds_1 : decode cX9_adds 1 = .ok (.getfield 13, 3) := by decide +kernel
theorem dX9_adds_4 : decode cX9_adds 4 = .ok (.bipush 16, 2) := by decide +kernel
theorem dX9_adds_6 : decode cX9_adds 6 = .ok (.bipush 8, 2) := by decide +kernel
theorem dX9_adds_8 : decode cX9_adds 8 = .ok (.iload_n 1, 1) := by decide +kernel
theorem dX9_adds_9 : decode cX9_adds 9 = .ok (.imul, 1) := by decide +kernel
theorem dX9_adds_10 : decode cX9_adds 10 = .ok (.iadd, 1) := by decide +kernel
theorem dX9_adds_11 : decode cX9_adds 11 = .ok (.iload_n 2, 1) := by decide +kernel
theorem dX9_adds_12 : decode cX9_adds 12 = .ok (.iadd, 1) := by decide +kernel
theorem dX9_adds_13 : decode cX9_adds 13 = .ok (.dup2, 1) := by decide +kernel
theorem dX9_adds_14 : decode cX9_adds 14 = .ok (.iaload, 1) := by decide +kernel
theorem dX9_adds_15 : decode cX9_adds 15 = .ok (.iload_n 3, 1) := by decide +kernel
theorem dX9_adds_16 : decode cX9_adds 16 = .ok (.iadd, 1) := by decide +kernel
theorem dX9_adds_17 : decode cX9_adds 17 = .ok (.iastore, 1) := by decide +kernel
theorem dX9_adds_18 : decode cX9_adds 18 = .ok (.return_, 1) := by decide +kernel
theorem dX9_puts_0 : decode cX9_puts 0 = .ok (.aload_n 0, 1) := by decide +kernel
theorem dX9_puts_1 : decode cX9_puts 1 = .ok (.getfield 13, 3) := by decide +kernel
theorem dX9_puts_4 : decode cX9_puts 4 = .ok (.bipush 16, 2) := by decide +kernel
theorem dX9_puts_6 : decode cX9_puts 6 = .ok (.bipush 8, 2) := by decide +kernel
theorem dX9_puts_8 : decode cX9_puts 8 = .ok (.iload_n 1, 1) := by decide +kernel
theorem dX9_puts_9 : decode cX9_puts 9 = .ok (.imul, 1) := by decide +kernel
theorem dX9_puts_10 : decode cX9_puts 10 = .ok (.iadd, 1) := by decide +kernel
theorem dX9_puts_11 : decode cX9_puts 11 = .ok (.iload_n 2, 1) := by decide +kernel
theorem dX9_puts_12 : decode cX9_puts 12 = .ok (.iadd, 1) := by decide +kernel
theorem dX9_puts_13 : decode cX9_puts 13 = .ok (.iload_n 3, 1) := by decide +kernel
theorem dX9_puts_14 : decode cX9_puts 14 = .ok (.iastore, 1) := by decide +kernel
theorem dX9_puts_15 : decode cX9_puts 15 = .ok (.return_, 1) := by decide +kernel
theorem dX9_valueOf_0 : decode cX9_valueOf 0 = .ok (.aload_n 0, 1) := by decide +kernel
theorem dX9_valueOf_1 : decode cX9_valueOf 1 = .ok (.iload_n 1, 1) := by decide +kernel
theorem dX9_valueOf_2 : decode cX9_valueOf 2 = .ok (.iconst 3, 1) := by decide +kernel
theorem dX9_valueOf_3 : decode cX9_valueOf 3 = .ok (.invokevirtual 58, 3) := by decide +kernel
theorem dX9_valueOf_6 : decode cX9_valueOf 6 = .ok (.istore_n 2, 1) := by decide +kernel
theorem dX9_valueOf_7 : decode cX9_valueOf 7 = .ok (.iconst 0, 1) := by decide +kernel
theorem dX9_valueOf_8 : decode cX9_valueOf 8 = .ok (.istore_n 3, 1) := by decide +kernel
theorem dX9_valueOf_9 : decode cX9_valueOf 9 = .ok (.iload_n 3, 1) := by decide +kernel
theorem dX9_valueOf_10 : decode cX9_valueOf 10 = .ok (.iconst 3, 1) := by decide +kernel
theorem dX9_valueOf_11 : decode cX9_valueOf 11 = .ok (.if_icmp .ge 27, 3) := by decide +kernel
theorem dX9_valueOf_14 : decode cX9_valueOf 14 = .ok (.iload_n 2, 1) := by decide +kernel
theorem dX9_valueOf_15 : decode cX9_valueOf 15 = .ok (.aload_n 0, 1) := by decide +kernel
theorem dX9_valueOf_16 : decode cX9_valueOf 16 = .ok (.iload_n 1, 1) := by decide +kernel
theorem dX9_valueOf_17 : decode cX9_valueOf 17 = .ok (.iload_n 3, 1) := by decide +kernel
theorem dX9_valueOf_18 : decode cX9_valueOf 18 = .ok (.invokevirtual 58, 3) := by decide +kernel
theorem dX9_valueOf_21 : decode cX9_valueOf 21 = .ok (.aload_n 0, 1) := by decide +kernel
theorem dX9_valueOf_22 : decode cX9_valueOf 22 = .ok (.getfield 13, 3) := by decide +kernel
theorem dX9_valueOf_25 : decode cX9_valueOf 25 = .ok (.iconst 2, 1) := by decide +kernel
theorem dX9_valueOf_26 : decode cX9_valueOf 26 = .ok (.iload_n 3, 1) := by decide +kernel
theorem dX9_valueOf_27 : decode cX9_valueOf 27 = .ok (.iadd, 1) := by decide +kernel
theorem dX9_valueOf_28 : decode cX9_valueOf 28 = .ok (.iaload, 1) := by decide +kernel
theorem dX9_valueOf_29 : decode cX9_valueOf 29 = .ok (.imul, 1) := by decide +kernel
theorem dX9_valueOf_30 : decode cX9_valueOf 30 = .ok (.iadd, 1) := by decide +kernel
theorem dX9_valueOf_31 : decode cX9_valueOf 31 = .ok (.istore_n 2, 1) := by decide +kernel
theorem dX9_valueOf_32 : decode cX9_valueOf 32 = .ok (.iinc 3 1, 3) := by decide +kernel
theorem dX9_valueOf_35 : decode cX9_valueOf 35 = .ok (.goto (-26), 3) := by decide +kernel
theorem dX9_valueOf_38 : decode cX9_valueOf 38 = .ok (.iload_n 2, 1) := by decide +kernel
theorem dX9_valueOf_39 : decode cX9_valueOf 39 = .ok (.ireturn, 1) := by decide +kernel
theorem dX9_reserveOf_0 : decode cX9_reserveOf 0 = .ok (.aload_n 0, 1) := by decide +kernel
theorem dX9_reserveOf_1 : decode cX9_reserveOf 1 = .ok (.iload_n 1, 1) := by decide +kernel
theorem dX9_reserveOf_2 : decode cX9_reserveOf 2 = .ok (.invokevirtual 62, 3) := by decide +kernel
theorem dX9_reserveOf_5 : decode cX9_reserveOf 5 = .ok (.aload_n 0, 1) := by decide +kernel
theorem dX9_reserveOf_6 : decode cX9_reserveOf 6 = .ok (.iload_n 1, 1) := by decide +kernel
theorem dX9_reserveOf_7 : decode cX9_reserveOf 7 = .ok (.bipush 6, 2) := by decide +kernel
theorem dX9_reserveOf_9 : decode cX9_reserveOf 9 = .ok (.invokevirtual 58, 3) := by decide +kernel
theorem dX9_reserveOf_12 : decode cX9_reserveOf 12 = .ok (.imul, 1) := by decide +kernel
theorem dX9_reserveOf_13 : decode cX9_reserveOf 13 = .ok (.bipush 10, 2) := by decide +kernel
theorem dX9_reserveOf_15 : decode cX9_reserveOf 15 = .ok (.idiv, 1) := by decide +kernel
theorem dX9_reserveOf_16 : decode cX9_reserveOf 16 = .ok (.ireturn, 1) := by decide +kernel
theorem dX9_spare_0 : decode cX9_spare 0 = .ok (.aload_n 0, 1) := by decide +kernel
theorem dX9_spare_1 : decode cX9_spare 1 = .ok (.iload_n 1, 1) := by decide +kernel
theorem dX9_spare_2 : decode cX9_spare 2 = .ok (.invokevirtual 62, 3) := by decide +kernel
theorem dX9_spare_5 : decode cX9_spare 5 = .ok (.aload_n 0, 1) := by decide +kernel
theorem dX9_spare_6 : decode cX9_spare 6 = .ok (.iload_n 1, 1) := by decide +kernel
theorem dX9_spare_7 : decode cX9_spare 7 = .ok (.invokevirtual 66, 3) := by decide +kernel
theorem dX9_spare_10 : decode cX9_spare 10 = .ok (.isub, 1) := by decide +kernel
theorem dX9_spare_11 : decode cX9_spare 11 = .ok (.aload_n 0, 1) := by decide +kernel
theorem dX9_spare_12 : decode cX9_spare 12 = .ok (.iload_n 1, 1) := by decide +kernel
theorem dX9_spare_13 : decode cX9_spare 13 = .ok (.iconst 4, 1) := by decide +kernel
theorem dX9_spare_14 : decode cX9_spare 14 = .ok (.invokevirtual 58, 3) := by decide +kernel
theorem dX9_spare_17 : decode cX9_spare 17 = .ok (.isub, 1) := by decide +kernel
theorem dX9_spare_18 : decode cX9_spare 18 = .ok (.ireturn, 1) := by decide +kernel
theorem dX9_notVault_0 : decode cX9_notVault 0 = .ok (.iload_n 1, 1) := by decide +kernel
theorem dX9_notVault_1 : decode cX9_notVault 1 = .ok (.iconst 0, 1) := by decide +kernel
theorem dX9_notVault_2 : decode cX9_notVault 2 = .ok (.bipush 9, 2) := by decide +kernel
theorem dX9_notVault_4 : decode cX9_notVault 4 = .ok (.invokestatic 54, 3) := by decide +kernel
theorem dX9_notVault_7 : decode cX9_notVault 7 = .ok (.ifCond .ne 5, 3) := by decide +kernel
theorem dX9_notVault_10 : decode cX9_notVault 10 = .ok (.iconst 1, 1) := by decide +kernel
theorem dX9_notVault_11 : decode cX9_notVault 11 = .ok (.ireturn, 1) := by decide +kernel
theorem dX9_notVault_12 : decode cX9_notVault 12 = .ok (.aload_n 0, 1) := by decide +kernel
theorem dX9_notVault_13 : decode cX9_notVault 13 = .ok (.getfield 13, 3) := by decide +kernel
theorem dX9_notVault_16 : decode cX9_notVault 16 = .ok (.iconst 0, 1) := by decide +kernel
theorem dX9_notVault_17 : decode cX9_notVault 17 = .ok (.iaload, 1) := by decide +kernel
theorem dX9_notVault_18 : decode cX9_notVault 18 = .ok (.iconst 5, 1) := by decide +kernel
theorem dX9_notVault_19 : decode cX9_notVault 19 = .ok (.if_icmp .ne 7, 3) := by decide +kernel
theorem dX9_notVault_22 : decode cX9_notVault 22 = .ok (.iconst 2, 1) := by decide +kernel
theorem dX9_notVault_23 : decode cX9_notVault 23 = .ok (.goto 4, 3) := by decide +kernel
theorem dX9_notVault_26 : decode cX9_notVault 26 = .ok (.iconst 0, 1) := by decide +kernel
theorem dX9_notVault_27 : decode cX9_notVault 27 = .ok (.ireturn, 1) := by decide +kernel
theorem dX9_addsVault_0 : decode cX9_addsVault 0 = .ok (.aload_n 0, 1) := by decide +kernel
theorem dX9_addsVault_1 : decode cX9_addsVault 1 = .ok (.getfield 13, 3) := by decide +kernel
theorem dX9_addsVault_4 : decode cX9_addsVault 4 = .ok (.iconst 0, 1) := by decide +kernel
theorem dX9_addsVault_5 : decode cX9_addsVault 5 = .ok (.iaload, 1) := by decide +kernel
theorem dX9_addsVault_6 : decode cX9_addsVault 6 = .ok (.istore_n 2, 1) := by decide +kernel
theorem dX9_addsVault_7 : decode cX9_addsVault 7 = .ok (.aload_n 0, 1) := by decide +kernel
theorem dX9_addsVault_8 : decode cX9_addsVault 8 = .ok (.getfield 13, 3) := by decide +kernel
theorem dX9_addsVault_11 : decode cX9_addsVault 11 = .ok (.iconst 0, 1) := by decide +kernel
theorem dX9_addsVault_12 : decode cX9_addsVault 12 = .ok (.dup2, 1) := by decide +kernel
theorem dX9_addsVault_13 : decode cX9_addsVault 13 = .ok (.iaload, 1) := by decide +kernel
theorem dX9_addsVault_14 : decode cX9_addsVault 14 = .ok (.iconst 1, 1) := by decide +kernel
theorem dX9_addsVault_15 : decode cX9_addsVault 15 = .ok (.iadd, 1) := by decide +kernel
theorem dX9_addsVault_16 : decode cX9_addsVault 16 = .ok (.iastore, 1) := by decide +kernel
theorem dX9_addsVault_17 : decode cX9_addsVault 17 = .ok (.iconst 0, 1) := by decide +kernel
theorem dX9_addsVault_18 : decode cX9_addsVault 18 = .ok (.istore_n 3, 1) := by decide +kernel
theorem dX9_addsVault_19 : decode cX9_addsVault 19 = .ok (.iload_n 3, 1) := by decide +kernel
theorem dX9_addsVault_20 : decode cX9_addsVault 20 = .ok (.bipush 8, 2) := by decide +kernel
theorem dX9_addsVault_22 : decode cX9_addsVault 22 = .ok (.if_icmp .ge 16, 3) := by decide +kernel
theorem dX9_addsVault_25 : decode cX9_addsVault 25 = .ok (.aload_n 0, 1) := by decide +kernel
theorem dX9_addsVault_26 : decode cX9_addsVault 26 = .ok (.iload_n 2, 1) := by decide +kernel
theorem dX9_addsVault_27 : decode cX9_addsVault 27 = .ok (.iload_n 3, 1) := by decide +kernel
theorem dX9_addsVault_28 : decode cX9_addsVault 28 = .ok (.iconst 0, 1) := by decide +kernel
theorem dX9_addsVault_29 : decode cX9_addsVault 29 = .ok (.invokevirtual 69, 3) := by decide +kernel
theorem dX9_addsVault_32 : decode cX9_addsVault 32 = .ok (.iinc 3 1, 3) := by decide +kernel
theorem dX9_addsVault_35 : decode cX9_addsVault 35 = .ok (.goto (-16), 3) := by decide +kernel
theorem dX9_addsVault_38 : decode cX9_addsVault 38 = .ok (.aload_n 0, 1) := by decide +kernel
theorem dX9_addsVault_39 : decode cX9_addsVault 39 = .ok (.iload_n 2, 1) := by decide +kernel
theorem dX9_addsVault_40 : decode cX9_addsVault 40 = .ok (.iconst 5, 1) := by decide +kernel
theorem dX9_addsVault_41 : decode cX9_addsVault 41 = .ok (.iconst 1, 1) := by decide +kernel
theorem dX9_addsVault_42 : decode cX9_addsVault 42 = .ok (.invokevirtual 69, 3) := by decide +kernel
theorem dX9_addsVault_45 : decode cX9_addsVault 45 = .ok (.aload_n 0, 1) := by decide +kernel
theorem dX9_addsVault_46 : decode cX9_addsVault 46 = .ok (.iload_n 2, 1) := by decide +kernel
theorem dX9_addsVault_47 : decode cX9_addsVault 47 = .ok (.bipush 6, 2) := by decide +kernel
theorem dX9_addsVault_49 : decode cX9_addsVault 49 = .ok (.iload_n 1, 1) := by decide +kernel
theorem dX9_addsVault_50 : decode cX9_addsVault 50 = .ok (.invokevirtual 69, 3) := by decide +kernel
theorem dX9_addsVault_53 : decode cX9_addsVault 53 = .ok (.iload_n 2, 1) := by decide +kernel
theorem dX9_addsVault_54 : decode cX9_addsVault 54 = .ok (.ireturn, 1) := by decide +kernel
theorem dX9_addVault_0 : decode cX9_addVault 0 = .ok (.aload_n 0, 1) := by decide +kernel
theorem dX9_addVault_1 : decode cX9_addVault 1 = .ok (.iconst 0, 1) := by decide +kernel
theorem dX9_addVault_2 : decode cX9_addVault 2 = .ok (.putfield 1, 3) := by decide +kernel
theorem dX9_addVault_5 : decode cX9_addVault 5 = .ok (.aload_n 0, 1) := by decide +kernel
theorem dX9_addVault_6 : decode cX9_addVault 6 = .ok (.iload_n 1, 1) := by decide +kernel
theorem dX9_addVault_7 : decode cX9_addVault 7 = .ok (.invokevirtual 73, 3) := by decide +kernel
theorem dX9_addVault_10 : decode cX9_addVault 10 = .ok (.istore_n 2, 1) := by decide +kernel
theorem dX9_addVault_11 : decode cX9_addVault 11 = .ok (.iload_n 2, 1) := by decide +kernel
theorem dX9_addVault_12 : decode cX9_addVault 12 = .ok (.ifCond .eq 9, 3) := by decide +kernel
theorem dX9_addVault_15 : decode cX9_addVault 15 = .ok (.aload_n 0, 1) := by decide +kernel
theorem dX9_addVault_16 : decode cX9_addVault 16 = .ok (.iload_n 2, 1) := by decide +kernel
theorem dX9_addVault_17 : decode cX9_addVault 17 = .ok (.invokevirtual 76, 3) := by decide +kernel
theorem dX9_addVault_20 : decode cX9_addVault 20 = .ok (.ireturn, 1) := by decide +kernel
theorem dX9_addVault_21 : decode cX9_addVault 21 = .ok (.aload_n 0, 1) := by decide +kernel
theorem dX9_addVault_22 : decode cX9_addVault 22 = .ok (.invokevirtual 79, 3) := by decide +kernel
theorem dX9_addVault_25 : decode cX9_addVault 25 = .ok (.aload_n 0, 1) := by decide +kernel
theorem dX9_addVault_26 : decode cX9_addVault 26 = .ok (.iload_n 1, 1) := by decide +kernel
theorem dX9_addVault_27 : decode cX9_addVault 27 = .ok (.invokevirtual 82, 3) := by decide +kernel
theorem dX9_addVault_30 : decode cX9_addVault 30 = .ok (.ireturn, 1) := by decide +kernel
theorem dX9_notDeposit_0 : decode cX9_notDeposit 0 = .ok (.aload_n 0, 1) := by decide +kernel
theorem dX9_notDeposit_1 : decode cX9_notDeposit 1 = .ok (.iload_n 1, 1) := by decide +kernel
theorem dX9_notDeposit_2 : decode cX9_notDeposit 2 = .ok (.invokevirtual 85, 3) := by decide +kernel
theorem dX9_notDeposit_5 : decode cX9_notDeposit 5 = .ok (.ifCond .ne 5, 3) := by decide +kernel
theorem dX9_notDeposit_8 : decode cX9_notDeposit 8 = .ok (.iconst 1, 1) := by decide +kernel
theorem dX9_notDeposit_9 : decode cX9_notDeposit 9 = .ok (.ireturn, 1) := by decide +kernel
theorem dX9_notDeposit_10 : decode cX9_notDeposit 10 = .ok (.iload_n 2, 1) := by decide +kernel
theorem dX9_notDeposit_11 : decode cX9_notDeposit 11 = .ok (.invokestatic 89, 3) := by decide +kernel
theorem dX9_notDeposit_14 : decode cX9_notDeposit 14 = .ok (.ifCond .lt 13, 3) := by decide +kernel
theorem dX9_notDeposit_17 : decode cX9_notDeposit 17 = .ok (.iload_n 3, 1) := by decide +kernel
theorem dX9_notDeposit_18 : decode cX9_notDeposit 18 = .ok (.iconst 1, 1) := by decide +kernel
theorem dX9_notDeposit_19 : decode cX9_notDeposit 19 = .ok (.bipush 30, 2) := by decide +kernel
theorem dX9_notDeposit_21 : decode cX9_notDeposit 21 = .ok (.invokestatic 54, 3) := by decide +kernel
theorem dX9_notDeposit_24 : decode cX9_notDeposit 24 = .ok (.ifCond .ne 5, 3) := by decide +kernel
theorem dX9_notDeposit_27 : decode cX9_notDeposit 27 = .ok (.iconst 2, 1) := by decide +kernel
theorem dX9_notDeposit_28 : decode cX9_notDeposit 28 = .ok (.ireturn, 1) := by decide +kernel
theorem dX9_notDeposit_29 : decode cX9_notDeposit 29 = .ok (.aload_n 0, 1) := by decide +kernel
theorem dX9_notDeposit_30 : decode cX9_notDeposit 30 = .ok (.iload_n 1, 1) := by decide +kernel
theorem dX9_notDeposit_31 : decode cX9_notDeposit 31 = .ok (.iload_n 2, 1) := by decide +kernel
theorem dX9_notDeposit_32 : decode cX9_notDeposit 32 = .ok (.invokestatic 89, 3) := by decide +kernel
theorem dX9_notDeposit_35 : decode cX9_notDeposit 35 = .ok (.invokevirtual 58, 3) := by decide +kernel
theorem dX9_notDeposit_38 : decode cX9_notDeposit 38 = .ok (.iload_n 3, 1) := by decide +kernel
theorem dX9_notDeposit_39 : decode cX9_notDeposit 39 = .ok (.iadd, 1) := by decide +kernel
theorem dX9_notDeposit_40 : decode cX9_notDeposit 40 = .ok (.bipush 99, 2) := by decide +kernel
theorem dX9_notDeposit_42 : decode cX9_notDeposit 42 = .ok (.if_icmp .le 7, 3) := by decide +kernel
theorem dX9_notDeposit_45 : decode cX9_notDeposit 45 = .ok (.iconst 3, 1) := by decide +kernel
theorem dX9_notDeposit_46 : decode cX9_notDeposit 46 = .ok (.goto 4, 3) := by decide +kernel
theorem dX9_notDeposit_49 : decode cX9_notDeposit 49 = .ok (.iconst 0, 1) := by decide +kernel
theorem dX9_notDeposit_50 : decode cX9_notDeposit 50 = .ok (.ireturn, 1) := by decide +kernel
theorem dX9_deposits_0 : decode cX9_deposits 0 = .ok (.aload_n 0, 1) := by decide +kernel
theorem dX9_deposits_1 : decode cX9_deposits 1 = .ok (.iload_n 1, 1) := by decide +kernel
theorem dX9_deposits_2 : decode cX9_deposits 2 = .ok (.iload_n 2, 1) := by decide +kernel
theorem dX9_deposits_3 : decode cX9_deposits 3 = .ok (.invokestatic 89, 3) := by decide +kernel
theorem dX9_deposits_6 : decode cX9_deposits 6 = .ok (.iload_n 3, 1) := by decide +kernel
theorem dX9_deposits_7 : decode cX9_deposits 7 = .ok (.invokevirtual 92, 3) := by decide +kernel
theorem dX9_deposits_10 : decode cX9_deposits 10 = .ok (.aload_n 0, 1) := by decide +kernel
theorem dX9_deposits_11 : decode cX9_deposits 11 = .ok (.getfield 13, 3) := by decide +kernel
theorem dX9_deposits_14 : decode cX9_deposits 14 = .ok (.iconst 5, 1) := by decide +kernel
theorem dX9_deposits_15 : decode cX9_deposits 15 = .ok (.iload_n 2, 1) := by decide +kernel
theorem dX9_deposits_16 : decode cX9_deposits 16 = .ok (.invokestatic 89, 3) := by decide +kernel
theorem dX9_deposits_19 : decode cX9_deposits 19 = .ok (.iadd, 1) := by decide +kernel
theorem dX9_deposits_20 : decode cX9_deposits 20 = .ok (.dup2, 1) := by decide +kernel
theorem dX9_deposits_21 : decode cX9_deposits 21 = .ok (.iaload, 1) := by decide +kernel
theorem dX9_deposits_22 : decode cX9_deposits 22 = .ok (.iload_n 3, 1) := by decide +kernel
theorem dX9_deposits_23 : decode cX9_deposits 23 = .ok (.iadd, 1) := by decide +kernel
theorem dX9_deposits_24 : decode cX9_deposits 24 = .ok (.iastore, 1) := by decide +kernel
theorem dX9_deposits_25 : decode cX9_deposits 25 = .ok (.aload_n 0, 1) := by decide +kernel
theorem dX9_deposits_26 : decode cX9_deposits 26 = .ok (.iload_n 1, 1) := by decide +kernel
theorem dX9_deposits_27 : decode cX9_deposits 27 = .ok (.iload_n 2, 1) := by decide +kernel
theorem dX9_deposits_28 : decode cX9_deposits 28 = .ok (.invokestatic 89, 3) := by decide +kernel
theorem dX9_deposits_31 : decode cX9_deposits 31 = .ok (.invokevirtual 58, 3) := by decide +kernel
theorem dX9_deposits_34 : decode cX9_deposits 34 = .ok (.ireturn, 1) := by decide +kernel
theorem dX9_deposit_0 : decode cX9_deposit 0 = .ok (.aload_n 0, 1) := by decide +kernel
theorem dX9_deposit_1 : decode cX9_deposit 1 = .ok (.iconst 0, 1) := by decide +kernel
theorem dX9_deposit_2 : decode cX9_deposit 2 = .ok (.putfield 1, 3) := by decide +kernel
theorem dX9_deposit_5 : decode cX9_deposit 5 = .ok (.aload_n 0, 1) := by decide +kernel
theorem dX9_deposit_6 : decode cX9_deposit 6 = .ok (.iload_n 1, 1) := by decide +kernel
theorem dX9_deposit_7 : decode cX9_deposit 7 = .ok (.iload_n 2, 1) := by decide +kernel
theorem dX9_deposit_8 : decode cX9_deposit 8 = .ok (.iload_n 3, 1) := by decide +kernel
theorem dX9_deposit_9 : decode cX9_deposit 9 = .ok (.invokevirtual 95, 3) := by decide +kernel
theorem dX9_deposit_12 : decode cX9_deposit 12 = .ok (.istore 4, 2) := by decide +kernel
theorem dX9_deposit_14 : decode cX9_deposit 14 = .ok (.iload 4, 2) := by decide +kernel
theorem dX9_deposit_16 : decode cX9_deposit 16 = .ok (.ifCond .eq 10, 3) := by decide +kernel
theorem dX9_deposit_19 : decode cX9_deposit 19 = .ok (.aload_n 0, 1) := by decide +kernel
theorem dX9_deposit_20 : decode cX9_deposit 20 = .ok (.iload 4, 2) := by decide +kernel
theorem dX9_deposit_22 : decode cX9_deposit 22 = .ok (.invokevirtual 76, 3) := by decide +kernel
theorem dX9_deposit_25 : decode cX9_deposit 25 = .ok (.ireturn, 1) := by decide +kernel
theorem dX9_deposit_26 : decode cX9_deposit 26 = .ok (.aload_n 0, 1) := by decide +kernel
theorem dX9_deposit_27 : decode cX9_deposit 27 = .ok (.invokevirtual 79, 3) := by decide +kernel
theorem dX9_deposit_30 : decode cX9_deposit 30 = .ok (.aload_n 0, 1) := by decide +kernel
theorem dX9_deposit_31 : decode cX9_deposit 31 = .ok (.iload_n 1, 1) := by decide +kernel
theorem dX9_deposit_32 : decode cX9_deposit 32 = .ok (.iload_n 2, 1) := by decide +kernel
theorem dX9_deposit_33 : decode cX9_deposit 33 = .ok (.iload_n 3, 1) := by decide +kernel
theorem dX9_deposit_34 : decode cX9_deposit 34 = .ok (.invokevirtual 99, 3) := by decide +kernel
theorem dX9_deposit_37 : decode cX9_deposit 37 = .ok (.ireturn, 1) := by decide +kernel
theorem dX9_isSoundWithout_0 : decode cX9_isSoundWithout 0 = .ok (.aload_n 0, 1) := by decide +kernel
theorem dX9_isSoundWithout_1 : decode cX9_isSoundWithout 1 = .ok (.iload_n 1, 1) := by decide +kernel
theorem dX9_isSoundWithout_2 : decode cX9_isSoundWithout 2 = .ok (.iload_n 2, 1) := by decide +kernel
theorem dX9_isSoundWithout_3 : decode cX9_isSoundWithout 3 = .ok (.iload_n 3, 1) := by decide +kernel
theorem dX9_isSoundWithout_4 : decode cX9_isSoundWithout 4 = .ok (.ineg, 1) := by decide +kernel
theorem dX9_isSoundWithout_5 : decode cX9_isSoundWithout 5 = .ok (.invokevirtual 92, 3) := by decide +kernel
theorem dX9_isSoundWithout_8 : decode cX9_isSoundWithout 8 = .ok (.aload_n 0, 1) := by decide +kernel
theorem dX9_isSoundWithout_9 : decode cX9_isSoundWithout 9 = .ok (.iload_n 1, 1) := by decide +kernel
theorem dX9_isSoundWithout_10 : decode cX9_isSoundWithout 10 = .ok (.invokevirtual 102, 3) := by decide +kernel
theorem dX9_isSoundWithout_13 : decode cX9_isSoundWithout 13 = .ok (.ifCond .lt 7, 3) := by decide +kernel
theorem dX9_isSoundWithout_16 : decode cX9_isSoundWithout 16 = .ok (.iconst 1, 1) := by decide +kernel
theorem dX9_isSoundWithout_17 : decode cX9_isSoundWithout 17 = .ok (.goto 4, 3) := by decide +kernel
theorem dX9_isSoundWithout_20 : decode cX9_isSoundWithout 20 = .ok (.iconst 0, 1) := by decide +kernel
theorem dX9_isSoundWithout_21 : decode cX9_isSoundWithout 21 = .ok (.istore 4, 2) := by decide +kernel
theorem dX9_isSoundWithout_23 : decode cX9_isSoundWithout 23 = .ok (.aload_n 0, 1) := by decide +kernel
theorem dX9_isSoundWithout_24 : decode cX9_isSoundWithout 24 = .ok (.iload_n 1, 1) := by decide +kernel
theorem dX9_isSoundWithout_25 : decode cX9_isSoundWithout 25 = .ok (.iload_n 2, 1) := by decide +kernel
theorem dX9_isSoundWithout_26 : decode cX9_isSoundWithout 26 = .ok (.iload_n 3, 1) := by decide +kernel
theorem dX9_isSoundWithout_27 : decode cX9_isSoundWithout 27 = .ok (.invokevirtual 92, 3) := by decide +kernel
theorem dX9_isSoundWithout_30 : decode cX9_isSoundWithout 30 = .ok (.iload 4, 2) := by decide +kernel
theorem dX9_isSoundWithout_32 : decode cX9_isSoundWithout 32 = .ok (.ireturn, 1) := by decide +kernel
theorem dX9_notWithdraw_0 : decode cX9_notWithdraw 0 = .ok (.aload_n 0, 1) := by decide +kernel
theorem dX9_notWithdraw_1 : decode cX9_notWithdraw 1 = .ok (.iload_n 1, 1) := by decide +kernel
theorem dX9_notWithdraw_2 : decode cX9_notWithdraw 2 = .ok (.invokevirtual 85, 3) := by decide +kernel
theorem dX9_notWithdraw_5 : decode cX9_notWithdraw 5 = .ok (.ifCond .ne 5, 3) := by decide +kernel
theorem dX9_notWithdraw_8 : decode cX9_notWithdraw 8 = .ok (.iconst 1, 1) := by decide +kernel
theorem dX9_notWithdraw_9 : decode cX9_notWithdraw 9 = .ok (.ireturn, 1) := by decide +kernel
theorem dX9_notWithdraw_10 : decode cX9_notWithdraw 10 = .ok (.iload_n 2, 1) := by decide +kernel
theorem dX9_notWithdraw_11 : decode cX9_notWithdraw 11 = .ok (.invokestatic 89, 3) := by decide +kernel
theorem dX9_notWithdraw_14 : decode cX9_notWithdraw 14 = .ok (.ifCond .lt 13, 3) := by decide +kernel
theorem dX9_notWithdraw_17 : decode cX9_notWithdraw 17 = .ok (.iload_n 3, 1) := by decide +kernel
theorem dX9_notWithdraw_18 : decode cX9_notWithdraw 18 = .ok (.iconst 1, 1) := by decide +kernel
theorem dX9_notWithdraw_19 : decode cX9_notWithdraw 19 = .ok (.bipush 30, 2) := by decide +kernel
theorem dX9_notWithdraw_21 : decode cX9_notWithdraw 21 = .ok (.invokestatic 54, 3) := by decide +kernel
theorem dX9_notWithdraw_24 : decode cX9_notWithdraw 24 = .ok (.ifCond .ne 5, 3) := by decide +kernel
theorem dX9_notWithdraw_27 : decode cX9_notWithdraw 27 = .ok (.iconst 2, 1) := by decide +kernel
theorem dX9_notWithdraw_28 : decode cX9_notWithdraw 28 = .ok (.ireturn, 1) := by decide +kernel
theorem dX9_notWithdraw_29 : decode cX9_notWithdraw 29 = .ok (.aload_n 0, 1) := by decide +kernel
theorem dX9_notWithdraw_30 : decode cX9_notWithdraw 30 = .ok (.iload_n 1, 1) := by decide +kernel
theorem dX9_notWithdraw_31 : decode cX9_notWithdraw 31 = .ok (.bipush 7, 2) := by decide +kernel
theorem dX9_notWithdraw_33 : decode cX9_notWithdraw 33 = .ok (.invokevirtual 58, 3) := by decide +kernel
theorem dX9_notWithdraw_36 : decode cX9_notWithdraw 36 = .ok (.ifCond .le 5, 3) := by decide +kernel
theorem dX9_notWithdraw_39 : decode cX9_notWithdraw 39 = .ok (.iconst 3, 1) := by decide +kernel
theorem dX9_notWithdraw_40 : decode cX9_notWithdraw 40 = .ok (.ireturn, 1) := by decide +kernel
theorem dX9_notWithdraw_41 : decode cX9_notWithdraw 41 = .ok (.aload_n 0, 1) := by decide +kernel
theorem dX9_notWithdraw_42 : decode cX9_notWithdraw 42 = .ok (.iload_n 1, 1) := by decide +kernel
theorem dX9_notWithdraw_43 : decode cX9_notWithdraw 43 = .ok (.iload_n 2, 1) := by decide +kernel
theorem dX9_notWithdraw_44 : decode cX9_notWithdraw 44 = .ok (.invokestatic 89, 3) := by decide +kernel
theorem dX9_notWithdraw_47 : decode cX9_notWithdraw 47 = .ok (.invokevirtual 58, 3) := by decide +kernel
theorem dX9_notWithdraw_50 : decode cX9_notWithdraw 50 = .ok (.iload_n 3, 1) := by decide +kernel
theorem dX9_notWithdraw_51 : decode cX9_notWithdraw 51 = .ok (.if_icmp .lt 16, 3) := by decide +kernel
theorem dX9_notWithdraw_54 : decode cX9_notWithdraw 54 = .ok (.aload_n 0, 1) := by decide +kernel
theorem dX9_notWithdraw_55 : decode cX9_notWithdraw 55 = .ok (.iload_n 1, 1) := by decide +kernel
theorem dX9_notWithdraw_56 : decode cX9_notWithdraw 56 = .ok (.iload_n 2, 1) := by decide +kernel
theorem dX9_notWithdraw_57 : decode cX9_notWithdraw 57 = .ok (.invokestatic 89, 3) := by decide +kernel
theorem dX9_notWithdraw_60 : decode cX9_notWithdraw 60 = .ok (.iload_n 3, 1) := by decide +kernel
theorem dX9_notWithdraw_61 : decode cX9_notWithdraw 61 = .ok (.invokevirtual 105, 3) := by decide +kernel
theorem dX9_notWithdraw_64 : decode cX9_notWithdraw 64 = .ok (.ifCond .ne 7, 3) := by decide +kernel
theorem dX9_notWithdraw_67 : decode cX9_notWithdraw 67 = .ok (.iconst 4, 1) := by decide +kernel
theorem dX9_notWithdraw_68 : decode cX9_notWithdraw 68 = .ok (.goto 4, 3) := by decide +kernel
theorem dX9_notWithdraw_71 : decode cX9_notWithdraw 71 = .ok (.iconst 0, 1) := by decide +kernel
theorem dX9_notWithdraw_72 : decode cX9_notWithdraw 72 = .ok (.ireturn, 1) := by decide +kernel
theorem dX9_withdraws_0 : decode cX9_withdraws 0 = .ok (.aload_n 0, 1) := by decide +kernel
theorem dX9_withdraws_1 : decode cX9_withdraws 1 = .ok (.iload_n 1, 1) := by decide +kernel
theorem dX9_withdraws_2 : decode cX9_withdraws 2 = .ok (.iload_n 2, 1) := by decide +kernel
theorem dX9_withdraws_3 : decode cX9_withdraws 3 = .ok (.invokestatic 89, 3) := by decide +kernel
theorem dX9_withdraws_6 : decode cX9_withdraws 6 = .ok (.iload_n 3, 1) := by decide +kernel
theorem dX9_withdraws_7 : decode cX9_withdraws 7 = .ok (.ineg, 1) := by decide +kernel
theorem dX9_withdraws_8 : decode cX9_withdraws 8 = .ok (.invokevirtual 92, 3) := by decide +kernel
theorem dX9_withdraws_11 : decode cX9_withdraws 11 = .ok (.aload_n 0, 1) := by decide +kernel
theorem dX9_withdraws_12 : decode cX9_withdraws 12 = .ok (.getfield 13, 3) := by decide +kernel
theorem dX9_withdraws_15 : decode cX9_withdraws 15 = .ok (.bipush 8, 2) := by decide +kernel
theorem dX9_withdraws_17 : decode cX9_withdraws 17 = .ok (.iload_n 2, 1) := by decide +kernel
theorem dX9_withdraws_18 : decode cX9_withdraws 18 = .ok (.invokestatic 89, 3) := by decide +kernel
theorem dX9_withdraws_21 : decode cX9_withdraws 21 = .ok (.iadd, 1) := by decide +kernel
theorem dX9_withdraws_22 : decode cX9_withdraws 22 = .ok (.dup2, 1) := by decide +kernel
theorem dX9_withdraws_23 : decode cX9_withdraws 23 = .ok (.iaload, 1) := by decide +kernel
theorem dX9_withdraws_24 : decode cX9_withdraws 24 = .ok (.iload_n 3, 1) := by decide +kernel
theorem dX9_withdraws_25 : decode cX9_withdraws 25 = .ok (.iadd, 1) := by decide +kernel
theorem dX9_withdraws_26 : decode cX9_withdraws 26 = .ok (.iastore, 1) := by decide +kernel
theorem dX9_withdraws_27 : decode cX9_withdraws 27 = .ok (.aload_n 0, 1) := by decide +kernel
theorem dX9_withdraws_28 : decode cX9_withdraws 28 = .ok (.iload_n 1, 1) := by decide +kernel
theorem dX9_withdraws_29 : decode cX9_withdraws 29 = .ok (.iload_n 2, 1) := by decide +kernel
theorem dX9_withdraws_30 : decode cX9_withdraws 30 = .ok (.invokestatic 89, 3) := by decide +kernel
theorem dX9_withdraws_33 : decode cX9_withdraws 33 = .ok (.invokevirtual 58, 3) := by decide +kernel
theorem dX9_withdraws_36 : decode cX9_withdraws 36 = .ok (.ireturn, 1) := by decide +kernel
theorem dX9_withdraw_0 : decode cX9_withdraw 0 = .ok (.aload_n 0, 1) := by decide +kernel
theorem dX9_withdraw_1 : decode cX9_withdraw 1 = .ok (.iconst 0, 1) := by decide +kernel
theorem dX9_withdraw_2 : decode cX9_withdraw 2 = .ok (.putfield 1, 3) := by decide +kernel
theorem dX9_withdraw_5 : decode cX9_withdraw 5 = .ok (.aload_n 0, 1) := by decide +kernel
theorem dX9_withdraw_6 : decode cX9_withdraw 6 = .ok (.iload_n 1, 1) := by decide +kernel
theorem dX9_withdraw_7 : decode cX9_withdraw 7 = .ok (.iload_n 2, 1) := by decide +kernel
theorem dX9_withdraw_8 : decode cX9_withdraw 8 = .ok (.iload_n 3, 1) := by decide +kernel
theorem dX9_withdraw_9 : decode cX9_withdraw 9 = .ok (.invokevirtual 108, 3) := by decide +kernel
theorem dX9_withdraw_12 : decode cX9_withdraw 12 = .ok (.istore 4, 2) := by decide +kernel
theorem dX9_withdraw_14 : decode cX9_withdraw 14 = .ok (.iload 4, 2) := by decide +kernel
theorem dX9_withdraw_16 : decode cX9_withdraw 16 = .ok (.ifCond .eq 10, 3) := by decide +kernel
theorem dX9_withdraw_19 : decode cX9_withdraw 19 = .ok (.aload_n 0, 1) := by decide +kernel
theorem dX9_withdraw_20 : decode cX9_withdraw 20 = .ok (.iload 4, 2) := by decide +kernel
theorem dX9_withdraw_22 : decode cX9_withdraw 22 = .ok (.invokevirtual 76, 3) := by decide +kernel
theorem dX9_withdraw_25 : decode cX9_withdraw 25 = .ok (.ireturn, 1) := by decide +kernel
theorem dX9_withdraw_26 : decode cX9_withdraw 26 = .ok (.aload_n 0, 1) := by decide +kernel
theorem dX9_withdraw_27 : decode cX9_withdraw 27 = .ok (.invokevirtual 79, 3) := by decide +kernel
theorem dX9_withdraw_30 : decode cX9_withdraw 30 = .ok (.aload_n 0, 1) := by decide +kernel
theorem dX9_withdraw_31 : decode cX9_withdraw 31 = .ok (.iload_n 1, 1) := by decide +kernel
theorem dX9_withdraw_32 : decode cX9_withdraw 32 = .ok (.iload_n 2, 1) := by decide +kernel
theorem dX9_withdraw_33 : decode cX9_withdraw 33 = .ok (.iload_n 3, 1) := by decide +kernel
theorem dX9_withdraw_34 : decode cX9_withdraw 34 = .ok (.invokevirtual 111, 3) := by decide +kernel
theorem dX9_withdraw_37 : decode cX9_withdraw 37 = .ok (.ireturn, 1) := by decide +kernel
theorem dX9_legsOf_0 : decode cX9_legsOf 0 = .ok (.iload_n 3, 1) := by decide +kernel
theorem dX9_legsOf_1 : decode cX9_legsOf 1 = .ok (.aload_n 0, 1) := by decide +kernel
theorem dX9_legsOf_2 : decode cX9_legsOf 2 = .ok (.getfield 13, 3) := by decide +kernel
theorem dX9_legsOf_5 : decode cX9_legsOf 5 = .ok (.iconst 2, 1) := by decide +kernel
theorem dX9_legsOf_6 : decode cX9_legsOf 6 = .ok (.iload_n 2, 1) := by decide +kernel
theorem dX9_legsOf_7 : decode cX9_legsOf 7 = .ok (.iadd, 1) := by decide +kernel
theorem dX9_legsOf_8 : decode cX9_legsOf 8 = .ok (.iaload, 1) := by decide +kernel
theorem dX9_legsOf_9 : decode cX9_legsOf 9 = .ok (.imul, 1) := by decide +kernel
theorem dX9_legsOf_10 : decode cX9_legsOf 10 = .ok (.aload_n 0, 1) := by decide +kernel
theorem dX9_legsOf_11 : decode cX9_legsOf 11 = .ok (.iload_n 1, 1) := by decide +kernel
theorem dX9_legsOf_12 : decode cX9_legsOf 12 = .ok (.iconst 3, 1) := by decide +kernel
theorem dX9_legsOf_13 : decode cX9_legsOf 13 = .ok (.invokevirtual 58, 3) := by decide +kernel
theorem dX9_legsOf_16 : decode cX9_legsOf 16 = .ok (.iadd, 1) := by decide +kernel
theorem dX9_legsOf_17 : decode cX9_legsOf 17 = .ok (.ireturn, 1) := by decide +kernel
theorem dX9_notExchange_0 : decode cX9_notExchange 0 = .ok (.aload_n 0, 1) := by decide +kernel
theorem dX9_notExchange_1 : decode cX9_notExchange 1 = .ok (.iload_n 1, 1) := by decide +kernel
theorem dX9_notExchange_2 : decode cX9_notExchange 2 = .ok (.invokevirtual 85, 3) := by decide +kernel
theorem dX9_notExchange_5 : decode cX9_notExchange 5 = .ok (.ifCond .ne 5, 3) := by decide +kernel
theorem dX9_notExchange_8 : decode cX9_notExchange 8 = .ok (.iconst 1, 1) := by decide +kernel
theorem dX9_notExchange_9 : decode cX9_notExchange 9 = .ok (.ireturn, 1) := by decide +kernel
theorem dX9_notExchange_10 : decode cX9_notExchange 10 = .ok (.iload_n 2, 1) := by decide +kernel
theorem dX9_notExchange_11 : decode cX9_notExchange 11 = .ok (.invokestatic 89, 3) := by decide +kernel
theorem dX9_notExchange_14 : decode cX9_notExchange 14 = .ok (.ifCond .lt 26, 3) := by decide +kernel
theorem dX9_notExchange_17 : decode cX9_notExchange 17 = .ok (.iload_n 3, 1) := by decide +kernel
theorem dX9_notExchange_18 : decode cX9_notExchange 18 = .ok (.invokestatic 89, 3) := by decide +kernel
theorem dX9_notExchange_21 : decode cX9_notExchange 21 = .ok (.ifCond .lt 19, 3) := by decide +kernel
theorem dX9_notExchange_24 : decode cX9_notExchange 24 = .ok (.iload_n 2, 1) := by decide +kernel
theorem dX9_notExchange_25 : decode cX9_notExchange 25 = .ok (.iload_n 3, 1) := by decide +kernel
theorem dX9_notExchange_26 : decode cX9_notExchange 26 = .ok (.if_icmp .eq 14, 3) := by decide +kernel
theorem dX9_notExchange_29 : decode cX9_notExchange 29 = .ok (.iload 4, 2) := by decide +kernel
theorem dX9_notExchange_31 : decode cX9_notExchange 31 = .ok (.iconst 1, 1) := by decide +kernel
theorem dX9_notExchange_32 : decode cX9_notExchange 32 = .ok (.bipush 30, 2) := by decide +kernel
theorem dX9_notExchange_34 : decode cX9_notExchange 34 = .ok (.invokestatic 54, 3) := by decide +kernel
theorem dX9_notExchange_37 : decode cX9_notExchange 37 = .ok (.ifCond .ne 5, 3) := by decide +kernel
theorem dX9_notExchange_40 : decode cX9_notExchange 40 = .ok (.iconst 2, 1) := by decide +kernel
theorem dX9_notExchange_41 : decode cX9_notExchange 41 = .ok (.ireturn, 1) := by decide +kernel
theorem dX9_notExchange_42 : decode cX9_notExchange 42 = .ok (.aload_n 0, 1) := by decide +kernel
theorem dX9_notExchange_43 : decode cX9_notExchange 43 = .ok (.iload_n 1, 1) := by decide +kernel
theorem dX9_notExchange_44 : decode cX9_notExchange 44 = .ok (.bipush 7, 2) := by decide +kernel
theorem dX9_notExchange_46 : decode cX9_notExchange 46 = .ok (.invokevirtual 58, 3) := by decide +kernel
theorem dX9_notExchange_49 : decode cX9_notExchange 49 = .ok (.ifCond .le 5, 3) := by decide +kernel
theorem dX9_notExchange_52 : decode cX9_notExchange 52 = .ok (.iconst 3, 1) := by decide +kernel
theorem dX9_notExchange_53 : decode cX9_notExchange 53 = .ok (.ireturn, 1) := by decide +kernel
theorem dX9_notExchange_54 : decode cX9_notExchange 54 = .ok (.aload_n 0, 1) := by decide +kernel
theorem dX9_notExchange_55 : decode cX9_notExchange 55 = .ok (.iload_n 1, 1) := by decide +kernel
theorem dX9_notExchange_56 : decode cX9_notExchange 56 = .ok (.iload_n 2, 1) := by decide +kernel
theorem dX9_notExchange_57 : decode cX9_notExchange 57 = .ok (.invokestatic 89, 3) := by decide +kernel
theorem dX9_notExchange_60 : decode cX9_notExchange 60 = .ok (.iload 4, 2) := by decide +kernel
theorem dX9_notExchange_62 : decode cX9_notExchange 62 = .ok (.invokevirtual 114, 3) := by decide +kernel
theorem dX9_notExchange_65 : decode cX9_notExchange 65 = .ok (.aload_n 0, 1) := by decide +kernel
theorem dX9_notExchange_66 : decode cX9_notExchange 66 = .ok (.getfield 13, 3) := by decide +kernel
theorem dX9_notExchange_69 : decode cX9_notExchange 69 = .ok (.iconst 2, 1) := by decide +kernel
theorem dX9_notExchange_70 : decode cX9_notExchange 70 = .ok (.iload_n 3, 1) := by decide +kernel
theorem dX9_notExchange_71 : decode cX9_notExchange 71 = .ok (.invokestatic 89, 3) := by decide +kernel
theorem dX9_notExchange_74 : decode cX9_notExchange 74 = .ok (.iadd, 1) := by decide +kernel
theorem dX9_notExchange_75 : decode cX9_notExchange 75 = .ok (.iaload, 1) := by decide +kernel
theorem dX9_notExchange_76 : decode cX9_notExchange 76 = .ok (.idiv, 1) := by decide +kernel
theorem dX9_notExchange_77 : decode cX9_notExchange 77 = .ok (.istore 5, 2) := by decide +kernel
theorem dX9_notExchange_79 : decode cX9_notExchange 79 = .ok (.aload_n 0, 1) := by decide +kernel
theorem dX9_notExchange_80 : decode cX9_notExchange 80 = .ok (.iload_n 1, 1) := by decide +kernel
theorem dX9_notExchange_81 : decode cX9_notExchange 81 = .ok (.iload_n 2, 1) := by decide +kernel
theorem dX9_notExchange_82 : decode cX9_notExchange 82 = .ok (.invokestatic 89, 3) := by decide +kernel
theorem dX9_notExchange_85 : decode cX9_notExchange 85 = .ok (.invokevirtual 58, 3) := by decide +kernel
theorem dX9_notExchange_88 : decode cX9_notExchange 88 = .ok (.iload 4, 2) := by decide +kernel
theorem dX9_notExchange_90 : decode cX9_notExchange 90 = .ok (.if_icmp .lt 20, 3) := by decide +kernel
theorem dX9_notExchange_93 : decode cX9_notExchange 93 = .ok (.aload_n 0, 1) := by decide +kernel
theorem dX9_notExchange_94 : decode cX9_notExchange 94 = .ok (.iload_n 1, 1) := by decide +kernel
theorem dX9_notExchange_95 : decode cX9_notExchange 95 = .ok (.iload_n 3, 1) := by decide +kernel
theorem dX9_notExchange_96 : decode cX9_notExchange 96 = .ok (.invokestatic 89, 3) := by decide +kernel
theorem dX9_notExchange_99 : decode cX9_notExchange 99 = .ok (.invokevirtual 58, 3) := by decide +kernel
theorem dX9_notExchange_102 : decode cX9_notExchange 102 = .ok (.iload 5, 2) := by decide +kernel
theorem dX9_notExchange_104 : decode cX9_notExchange 104 = .ok (.iadd, 1) := by decide +kernel
theorem dX9_notExchange_105 : decode cX9_notExchange 105 = .ok (.bipush 99, 2) := by decide +kernel
theorem dX9_notExchange_107 : decode cX9_notExchange 107 = .ok (.if_icmp .le 7, 3) := by decide +kernel
theorem dX9_notExchange_110 : decode cX9_notExchange 110 = .ok (.iconst 4, 1) := by decide +kernel
theorem dX9_notExchange_111 : decode cX9_notExchange 111 = .ok (.goto 4, 3) := by decide +kernel
theorem dX9_notExchange_114 : decode cX9_notExchange 114 = .ok (.iconst 0, 1) := by decide +kernel
theorem dX9_notExchange_115 : decode cX9_notExchange 115 = .ok (.ireturn, 1) := by decide +kernel
theorem dX9_exchanges_0 : decode cX9_exchanges 0 = .ok (.aload_n 0, 1) := by decide +kernel
theorem dX9_exchanges_1 : decode cX9_exchanges 1 = .ok (.iload_n 1, 1) := by decide +kernel
theorem dX9_exchanges_2 : decode cX9_exchanges 2 = .ok (.iload_n 2, 1) := by decide +kernel
theorem dX9_exchanges_3 : decode cX9_exchanges 3 = .ok (.invokestatic 89, 3) := by decide +kernel
theorem dX9_exchanges_6 : decode cX9_exchanges 6 = .ok (.iload 4, 2) := by decide +kernel
theorem dX9_exchanges_8 : decode cX9_exchanges 8 = .ok (.invokevirtual 114, 3) := by decide +kernel
theorem dX9_exchanges_11 : decode cX9_exchanges 11 = .ok (.istore 5, 2) := by decide +kernel
theorem dX9_exchanges_13 : decode cX9_exchanges 13 = .ok (.iload 5, 2) := by decide +kernel
theorem dX9_exchanges_15 : decode cX9_exchanges 15 = .ok (.aload_n 0, 1) := by decide +kernel
theorem dX9_exchanges_16 : decode cX9_exchanges 16 = .ok (.getfield 13, 3) := by decide +kernel
theorem dX9_exchanges_19 : decode cX9_exchanges 19 = .ok (.iconst 2, 1) := by decide +kernel
theorem dX9_exchanges_20 : decode cX9_exchanges 20 = .ok (.iload_n 3, 1) := by decide +kernel
theorem dX9_exchanges_21 : decode cX9_exchanges 21 = .ok (.invokestatic 89, 3) := by decide +kernel
theorem dX9_exchanges_24 : decode cX9_exchanges 24 = .ok (.iadd, 1) := by decide +kernel
theorem dX9_exchanges_25 : decode cX9_exchanges 25 = .ok (.iaload, 1) := by decide +kernel
theorem dX9_exchanges_26 : decode cX9_exchanges 26 = .ok (.idiv, 1) := by decide +kernel
theorem dX9_exchanges_27 : decode cX9_exchanges 27 = .ok (.istore 6, 2) := by decide +kernel
theorem dX9_exchanges_29 : decode cX9_exchanges 29 = .ok (.aload_n 0, 1) := by decide +kernel
theorem dX9_exchanges_30 : decode cX9_exchanges 30 = .ok (.iload_n 1, 1) := by decide +kernel
theorem dX9_exchanges_31 : decode cX9_exchanges 31 = .ok (.iconst 3, 1) := by decide +kernel
theorem dX9_exchanges_32 : decode cX9_exchanges 32 = .ok (.iload 5, 2) := by decide +kernel
theorem dX9_exchanges_34 : decode cX9_exchanges 34 = .ok (.aload_n 0, 1) := by decide +kernel
theorem dX9_exchanges_35 : decode cX9_exchanges 35 = .ok (.getfield 13, 3) := by decide +kernel
theorem dX9_exchanges_38 : decode cX9_exchanges 38 = .ok (.iconst 2, 1) := by decide +kernel
theorem dX9_exchanges_39 : decode cX9_exchanges 39 = .ok (.iload_n 3, 1) := by decide +kernel
theorem dX9_exchanges_40 : decode cX9_exchanges 40 = .ok (.invokestatic 89, 3) := by decide +kernel
theorem dX9_exchanges_43 : decode cX9_exchanges 43 = .ok (.iadd, 1) := by decide +kernel
theorem dX9_exchanges_44 : decode cX9_exchanges 44 = .ok (.iaload, 1) := by decide +kernel
theorem dX9_exchanges_45 : decode cX9_exchanges 45 = .ok (.irem, 1) := by decide +kernel
theorem dX9_exchanges_46 : decode cX9_exchanges 46 = .ok (.invokevirtual 69, 3) := by decide +kernel
theorem dX9_exchanges_49 : decode cX9_exchanges 49 = .ok (.aload_n 0, 1) := by decide +kernel
theorem dX9_exchanges_50 : decode cX9_exchanges 50 = .ok (.iload_n 1, 1) := by decide +kernel
theorem dX9_exchanges_51 : decode cX9_exchanges 51 = .ok (.iload_n 2, 1) := by decide +kernel
theorem dX9_exchanges_52 : decode cX9_exchanges 52 = .ok (.invokestatic 89, 3) := by decide +kernel
theorem dX9_exchanges_55 : decode cX9_exchanges 55 = .ok (.iload 4, 2) := by decide +kernel
theorem dX9_exchanges_57 : decode cX9_exchanges 57 = .ok (.ineg, 1) := by decide +kernel
theorem dX9_exchanges_58 : decode cX9_exchanges 58 = .ok (.invokevirtual 92, 3) := by decide +kernel
theorem dX9_exchanges_61 : decode cX9_exchanges 61 = .ok (.aload_n 0, 1) := by decide +kernel
theorem dX9_exchanges_62 : decode cX9_exchanges 62 = .ok (.iload_n 1, 1) := by decide +kernel
theorem dX9_exchanges_63 : decode cX9_exchanges 63 = .ok (.iload_n 3, 1) := by decide +kernel
theorem dX9_exchanges_64 : decode cX9_exchanges 64 = .ok (.invokestatic 89, 3) := by decide +kernel
theorem dX9_exchanges_67 : decode cX9_exchanges 67 = .ok (.iload 6, 2) := by decide +kernel
theorem dX9_exchanges_69 : decode cX9_exchanges 69 = .ok (.invokevirtual 92, 3) := by decide +kernel
theorem dX9_exchanges_72 : decode cX9_exchanges 72 = .ok (.aload_n 0, 1) := by decide +kernel
theorem dX9_exchanges_73 : decode cX9_exchanges 73 = .ok (.getfield 13, 3) := by decide +kernel
theorem dX9_exchanges_76 : decode cX9_exchanges 76 = .ok (.bipush 8, 2) := by decide +kernel
theorem dX9_exchanges_78 : decode cX9_exchanges 78 = .ok (.iload_n 2, 1) := by decide +kernel
theorem dX9_exchanges_79 : decode cX9_exchanges 79 = .ok (.invokestatic 89, 3) := by decide +kernel
theorem dX9_exchanges_82 : decode cX9_exchanges 82 = .ok (.iadd, 1) := by decide +kernel
theorem dX9_exchanges_83 : decode cX9_exchanges 83 = .ok (.dup2, 1) := by decide +kernel
theorem dX9_exchanges_84 : decode cX9_exchanges 84 = .ok (.iaload, 1) := by decide +kernel
theorem dX9_exchanges_85 : decode cX9_exchanges 85 = .ok (.iload 4, 2) := by decide +kernel
theorem dX9_exchanges_87 : decode cX9_exchanges 87 = .ok (.iadd, 1) := by decide +kernel
theorem dX9_exchanges_88 : decode cX9_exchanges 88 = .ok (.iastore, 1) := by decide +kernel
theorem dX9_exchanges_89 : decode cX9_exchanges 89 = .ok (.aload_n 0, 1) := by decide +kernel
theorem dX9_exchanges_90 : decode cX9_exchanges 90 = .ok (.getfield 13, 3) := by decide +kernel
theorem dX9_exchanges_93 : decode cX9_exchanges 93 = .ok (.iconst 5, 1) := by decide +kernel
theorem dX9_exchanges_94 : decode cX9_exchanges 94 = .ok (.iload_n 3, 1) := by decide +kernel
theorem dX9_exchanges_95 : decode cX9_exchanges 95 = .ok (.invokestatic 89, 3) := by decide +kernel
theorem dX9_exchanges_98 : decode cX9_exchanges 98 = .ok (.iadd, 1) := by decide +kernel
theorem dX9_exchanges_99 : decode cX9_exchanges 99 = .ok (.dup2, 1) := by decide +kernel
theorem dX9_exchanges_100 : decode cX9_exchanges 100 = .ok (.iaload, 1) := by decide +kernel
theorem dX9_exchanges_101 : decode cX9_exchanges 101 = .ok (.iload 6, 2) := by decide +kernel
theorem dX9_exchanges_103 : decode cX9_exchanges 103 = .ok (.iadd, 1) := by decide +kernel
theorem dX9_exchanges_104 : decode cX9_exchanges 104 = .ok (.iastore, 1) := by decide +kernel
theorem dX9_exchanges_105 : decode cX9_exchanges 105 = .ok (.iload 6, 2) := by decide +kernel
theorem dX9_exchanges_107 : decode cX9_exchanges 107 = .ok (.ireturn, 1) := by decide +kernel
theorem dX9_exchange_0 : decode cX9_exchange 0 = .ok (.aload_n 0, 1) := by decide +kernel
theorem dX9_exchange_1 : decode cX9_exchange 1 = .ok (.iconst 0, 1) := by decide +kernel
theorem dX9_exchange_2 : decode cX9_exchange 2 = .ok (.putfield 1, 3) := by decide +kernel
theorem dX9_exchange_5 : decode cX9_exchange 5 = .ok (.aload_n 0, 1) := by decide +kernel
theorem dX9_exchange_6 : decode cX9_exchange 6 = .ok (.iload_n 1, 1) := by decide +kernel
theorem dX9_exchange_7 : decode cX9_exchange 7 = .ok (.iload_n 2, 1) := by decide +kernel
theorem dX9_exchange_8 : decode cX9_exchange 8 = .ok (.iload_n 3, 1) := by decide +kernel
theorem dX9_exchange_9 : decode cX9_exchange 9 = .ok (.iload 4, 2) := by decide +kernel
theorem dX9_exchange_11 : decode cX9_exchange 11 = .ok (.invokevirtual 117, 3) := by decide +kernel
theorem dX9_exchange_14 : decode cX9_exchange 14 = .ok (.istore 5, 2) := by decide +kernel
theorem dX9_exchange_16 : decode cX9_exchange 16 = .ok (.iload 5, 2) := by decide +kernel
theorem dX9_exchange_18 : decode cX9_exchange 18 = .ok (.ifCond .eq 10, 3) := by decide +kernel
theorem dX9_exchange_21 : decode cX9_exchange 21 = .ok (.aload_n 0, 1) := by decide +kernel
theorem dX9_exchange_22 : decode cX9_exchange 22 = .ok (.iload 5, 2) := by decide +kernel
theorem dX9_exchange_24 : decode cX9_exchange 24 = .ok (.invokevirtual 76, 3) := by decide +kernel
theorem dX9_exchange_27 : decode cX9_exchange 27 = .ok (.ireturn, 1) := by decide +kernel
theorem dX9_exchange_28 : decode cX9_exchange 28 = .ok (.aload_n 0, 1) := by decide +kernel
theorem dX9_exchange_29 : decode cX9_exchange 29 = .ok (.invokevirtual 79, 3) := by decide +kernel
theorem dX9_exchange_32 : decode cX9_exchange 32 = .ok (.aload_n 0, 1) := by decide +kernel
theorem dX9_exchange_33 : decode cX9_exchange 33 = .ok (.iload_n 1, 1) := by decide +kernel
theorem dX9_exchange_34 : decode cX9_exchange 34 = .ok (.iload_n 2, 1) := by decide +kernel
theorem dX9_exchange_35 : decode cX9_exchange 35 = .ok (.iload_n 3, 1) := by decide +kernel
theorem dX9_exchange_36 : decode cX9_exchange 36 = .ok (.iload 4, 2) := by decide +kernel
theorem dX9_exchange_38 : decode cX9_exchange 38 = .ok (.invokevirtual 121, 3) := by decide +kernel
theorem dX9_exchange_41 : decode cX9_exchange 41 = .ok (.ireturn, 1) := by decide +kernel
theorem dX9_notMint_0 : decode cX9_notMint 0 = .ok (.aload_n 0, 1) := by decide +kernel
theorem dX9_notMint_1 : decode cX9_notMint 1 = .ok (.iload_n 1, 1) := by decide +kernel
theorem dX9_notMint_2 : decode cX9_notMint 2 = .ok (.invokevirtual 85, 3) := by decide +kernel
theorem dX9_notMint_5 : decode cX9_notMint 5 = .ok (.ifCond .ne 5, 3) := by decide +kernel
theorem dX9_notMint_8 : decode cX9_notMint 8 = .ok (.iconst 1, 1) := by decide +kernel
theorem dX9_notMint_9 : decode cX9_notMint 9 = .ok (.ireturn, 1) := by decide +kernel
theorem dX9_notMint_10 : decode cX9_notMint 10 = .ok (.iload_n 2, 1) := by decide +kernel
theorem dX9_notMint_11 : decode cX9_notMint 11 = .ok (.iconst 1, 1) := by decide +kernel
theorem dX9_notMint_12 : decode cX9_notMint 12 = .ok (.bipush 99, 2) := by decide +kernel
theorem dX9_notMint_14 : decode cX9_notMint 14 = .ok (.invokestatic 54, 3) := by decide +kernel
theorem dX9_notMint_17 : decode cX9_notMint 17 = .ok (.ifCond .ne 5, 3) := by decide +kernel
theorem dX9_notMint_20 : decode cX9_notMint 20 = .ok (.iconst 2, 1) := by decide +kernel
theorem dX9_notMint_21 : decode cX9_notMint 21 = .ok (.ireturn, 1) := by decide +kernel
theorem dX9_notMint_22 : decode cX9_notMint 22 = .ok (.aload_n 0, 1) := by decide +kernel
theorem dX9_notMint_23 : decode cX9_notMint 23 = .ok (.iload_n 1, 1) := by decide +kernel
theorem dX9_notMint_24 : decode cX9_notMint 24 = .ok (.bipush 7, 2) := by decide +kernel
theorem dX9_notMint_26 : decode cX9_notMint 26 = .ok (.invokevirtual 58, 3) := by decide +kernel
theorem dX9_notMint_29 : decode cX9_notMint 29 = .ok (.ifCond .le 5, 3) := by decide +kernel
theorem dX9_notMint_32 : decode cX9_notMint 32 = .ok (.iconst 3, 1) := by decide +kernel
theorem dX9_notMint_33 : decode cX9_notMint 33 = .ok (.ireturn, 1) := by decide +kernel
theorem dX9_notMint_34 : decode cX9_notMint 34 = .ok (.aload_n 0, 1) := by decide +kernel
theorem dX9_notMint_35 : decode cX9_notMint 35 = .ok (.iload_n 1, 1) := by decide +kernel
theorem dX9_notMint_36 : decode cX9_notMint 36 = .ok (.invokevirtual 102, 3) := by decide +kernel
theorem dX9_notMint_39 : decode cX9_notMint 39 = .ok (.iload_n 2, 1) := by decide +kernel
theorem dX9_notMint_40 : decode cX9_notMint 40 = .ok (.if_icmp .ge 7, 3) := by decide +kernel
theorem dX9_notMint_43 : decode cX9_notMint 43 = .ok (.iconst 4, 1) := by decide +kernel
theorem dX9_notMint_44 : decode cX9_notMint 44 = .ok (.goto 4, 3) := by decide +kernel
theorem dX9_notMint_47 : decode cX9_notMint 47 = .ok (.iconst 0, 1) := by decide +kernel
theorem dX9_notMint_48 : decode cX9_notMint 48 = .ok (.ireturn, 1) := by decide +kernel
theorem dX9_mints_0 : decode cX9_mints 0 = .ok (.aload_n 0, 1) := by decide +kernel
theorem dX9_mints_1 : decode cX9_mints 1 = .ok (.iload_n 1, 1) := by decide +kernel
theorem dX9_mints_2 : decode cX9_mints 2 = .ok (.iconst 4, 1) := by decide +kernel
theorem dX9_mints_3 : decode cX9_mints 3 = .ok (.iload_n 2, 1) := by decide +kernel
theorem dX9_mints_4 : decode cX9_mints 4 = .ok (.invokevirtual 92, 3) := by decide +kernel
theorem dX9_mints_7 : decode cX9_mints 7 = .ok (.aload_n 0, 1) := by decide +kernel
theorem dX9_mints_8 : decode cX9_mints 8 = .ok (.getfield 13, 3) := by decide +kernel
theorem dX9_mints_11 : decode cX9_mints 11 = .ok (.bipush 11, 2) := by decide +kernel
theorem dX9_mints_13 : decode cX9_mints 13 = .ok (.dup2, 1) := by decide +kernel
theorem dX9_mints_14 : decode cX9_mints 14 = .ok (.iaload, 1) := by decide +kernel
theorem dX9_mints_15 : decode cX9_mints 15 = .ok (.iload_n 2, 1) := by decide +kernel
theorem dX9_mints_16 : decode cX9_mints 16 = .ok (.iadd, 1) := by decide +kernel
theorem dX9_mints_17 : decode cX9_mints 17 = .ok (.iastore, 1) := by decide +kernel
theorem dX9_mints_18 : decode cX9_mints 18 = .ok (.aload_n 0, 1) := by decide +kernel
theorem dX9_mints_19 : decode cX9_mints 19 = .ok (.iload_n 1, 1) := by decide +kernel
theorem dX9_mints_20 : decode cX9_mints 20 = .ok (.iconst 4, 1) := by decide +kernel
theorem dX9_mints_21 : decode cX9_mints 21 = .ok (.invokevirtual 58, 3) := by decide +kernel
theorem dX9_mints_24 : decode cX9_mints 24 = .ok (.ireturn, 1) := by decide +kernel
theorem dX9_mint_0 : decode cX9_mint 0 = .ok (.aload_n 0, 1) := by decide +kernel
theorem dX9_mint_1 : decode cX9_mint 1 = .ok (.iconst 0, 1) := by decide +kernel
theorem dX9_mint_2 : decode cX9_mint 2 = .ok (.putfield 1, 3) := by decide +kernel
theorem dX9_mint_5 : decode cX9_mint 5 = .ok (.aload_n 0, 1) := by decide +kernel
theorem dX9_mint_6 : decode cX9_mint 6 = .ok (.iload_n 1, 1) := by decide +kernel
theorem dX9_mint_7 : decode cX9_mint 7 = .ok (.iload_n 2, 1) := by decide +kernel
theorem dX9_mint_8 : decode cX9_mint 8 = .ok (.invokevirtual 124, 3) := by decide +kernel
theorem dX9_mint_11 : decode cX9_mint 11 = .ok (.istore_n 3, 1) := by decide +kernel
theorem dX9_mint_12 : decode cX9_mint 12 = .ok (.iload_n 3, 1) := by decide +kernel
theorem dX9_mint_13 : decode cX9_mint 13 = .ok (.ifCond .eq 9, 3) := by decide +kernel
theorem dX9_mint_16 : decode cX9_mint 16 = .ok (.aload_n 0, 1) := by decide +kernel
theorem dX9_mint_17 : decode cX9_mint 17 = .ok (.iload_n 3, 1) := by decide +kernel
theorem dX9_mint_18 : decode cX9_mint 18 = .ok (.invokevirtual 76, 3) := by decide +kernel
theorem dX9_mint_21 : decode cX9_mint 21 = .ok (.ireturn, 1) := by decide +kernel
theorem dX9_mint_22 : decode cX9_mint 22 = .ok (.aload_n 0, 1) := by decide +kernel
theorem dX9_mint_23 : decode cX9_mint 23 = .ok (.invokevirtual 79, 3) := by decide +kernel
theorem dX9_mint_26 : decode cX9_mint 26 = .ok (.aload_n 0, 1) := by decide +kernel
theorem dX9_mint_27 : decode cX9_mint 27 = .ok (.iload_n 1, 1) := by decide +kernel
theorem dX9_mint_28 : decode cX9_mint 28 = .ok (.iload_n 2, 1) := by decide +kernel
theorem dX9_mint_29 : decode cX9_mint 29 = .ok (.invokevirtual 127, 3) := by decide +kernel
theorem dX9_mint_32 : decode cX9_mint 32 = .ok (.ireturn, 1) := by decide +kernel
theorem dX9_notRedeem_0 : decode cX9_notRedeem 0 = .ok (.aload_n 0, 1) := by decide +kernel
theorem dX9_notRedeem_1 : decode cX9_notRedeem 1 = .ok (.iload_n 1, 1) := by decide +kernel
theorem dX9_notRedeem_2 : decode cX9_notRedeem 2 = .ok (.invokevirtual 85, 3) := by decide +kernel
theorem dX9_notRedeem_5 : decode cX9_notRedeem 5 = .ok (.ifCond .ne 5, 3) := by decide +kernel
theorem dX9_notRedeem_8 : decode cX9_notRedeem 8 = .ok (.iconst 1, 1) := by decide +kernel
theorem dX9_notRedeem_9 : decode cX9_notRedeem 9 = .ok (.ireturn, 1) := by decide +kernel
theorem dX9_notRedeem_10 : decode cX9_notRedeem 10 = .ok (.iload_n 2, 1) := by decide +kernel
theorem dX9_notRedeem_11 : decode cX9_notRedeem 11 = .ok (.iconst 1, 1) := by decide +kernel
theorem dX9_notRedeem_12 : decode cX9_notRedeem 12 = .ok (.bipush 99, 2) := by decide +kernel
theorem dX9_notRedeem_14 : decode cX9_notRedeem 14 = .ok (.invokestatic 54, 3) := by decide +kernel
theorem dX9_notRedeem_17 : decode cX9_notRedeem 17 = .ok (.ifCond .ne 5, 3) := by decide +kernel
theorem dX9_notRedeem_20 : decode cX9_notRedeem 20 = .ok (.iconst 2, 1) := by decide +kernel
theorem dX9_notRedeem_21 : decode cX9_notRedeem 21 = .ok (.ireturn, 1) := by decide +kernel
theorem dX9_notRedeem_22 : decode cX9_notRedeem 22 = .ok (.aload_n 0, 1) := by decide +kernel
theorem dX9_notRedeem_23 : decode cX9_notRedeem 23 = .ok (.iload_n 1, 1) := by decide +kernel
theorem dX9_notRedeem_24 : decode cX9_notRedeem 24 = .ok (.iconst 4, 1) := by decide +kernel
theorem dX9_notRedeem_25 : decode cX9_notRedeem 25 = .ok (.invokevirtual 58, 3) := by decide +kernel
theorem dX9_notRedeem_28 : decode cX9_notRedeem 28 = .ok (.iload_n 2, 1) := by decide +kernel
theorem dX9_notRedeem_29 : decode cX9_notRedeem 29 = .ok (.if_icmp .ge 7, 3) := by decide +kernel
theorem dX9_notRedeem_32 : decode cX9_notRedeem 32 = .ok (.iconst 3, 1) := by decide +kernel
theorem dX9_notRedeem_33 : decode cX9_notRedeem 33 = .ok (.goto 4, 3) := by decide +kernel
theorem dX9_notRedeem_36 : decode cX9_notRedeem 36 = .ok (.iconst 0, 1) := by decide +kernel
theorem dX9_notRedeem_37 : decode cX9_notRedeem 37 = .ok (.ireturn, 1) := by decide +kernel
theorem dX9_redeems_0 : decode cX9_redeems 0 = .ok (.aload_n 0, 1) := by decide +kernel
theorem dX9_redeems_1 : decode cX9_redeems 1 = .ok (.iload_n 1, 1) := by decide +kernel
theorem dX9_redeems_2 : decode cX9_redeems 2 = .ok (.iconst 4, 1) := by decide +kernel
theorem dX9_redeems_3 : decode cX9_redeems 3 = .ok (.iload_n 2, 1) := by decide +kernel
theorem dX9_redeems_4 : decode cX9_redeems 4 = .ok (.ineg, 1) := by decide +kernel
theorem dX9_redeems_5 : decode cX9_redeems 5 = .ok (.invokevirtual 92, 3) := by decide +kernel
theorem dX9_redeems_8 : decode cX9_redeems 8 = .ok (.aload_n 0, 1) := by decide +kernel
theorem dX9_redeems_9 : decode cX9_redeems 9 = .ok (.getfield 13, 3) := by decide +kernel
theorem dX9_redeems_12 : decode cX9_redeems 12 = .ok (.bipush 12, 2) := by decide +kernel
theorem dX9_redeems_14 : decode cX9_redeems 14 = .ok (.dup2, 1) := by decide +kernel
theorem dX9_redeems_15 : decode cX9_redeems 15 = .ok (.iaload, 1) := by decide +kernel
theorem dX9_redeems_16 : decode cX9_redeems 16 = .ok (.iload_n 2, 1) := by decide +kernel
theorem dX9_redeems_17 : decode cX9_redeems 17 = .ok (.iadd, 1) := by decide +kernel
theorem dX9_redeems_18 : decode cX9_redeems 18 = .ok (.iastore, 1) := by decide +kernel
theorem dX9_redeems_19 : decode cX9_redeems 19 = .ok (.aload_n 0, 1) := by decide +kernel
theorem dX9_redeems_20 : decode cX9_redeems 20 = .ok (.iload_n 1, 1) := by decide +kernel
theorem dX9_redeems_21 : decode cX9_redeems 21 = .ok (.iconst 4, 1) := by decide +kernel
theorem dX9_redeems_22 : decode cX9_redeems 22 = .ok (.invokevirtual 58, 3) := by decide +kernel
theorem dX9_redeems_25 : decode cX9_redeems 25 = .ok (.ireturn, 1) := by decide +kernel
theorem dX9_redeem_0 : decode cX9_redeem 0 = .ok (.aload_n 0, 1) := by decide +kernel
theorem dX9_redeem_1 : decode cX9_redeem 1 = .ok (.iconst 0, 1) := by decide +kernel
theorem dX9_redeem_2 : decode cX9_redeem 2 = .ok (.putfield 1, 3) := by decide +kernel
theorem dX9_redeem_5 : decode cX9_redeem 5 = .ok (.aload_n 0, 1) := by decide +kernel
theorem dX9_redeem_6 : decode cX9_redeem 6 = .ok (.iload_n 1, 1) := by decide +kernel
theorem dX9_redeem_7 : decode cX9_redeem 7 = .ok (.iload_n 2, 1) := by decide +kernel
theorem dX9_redeem_8 : decode cX9_redeem 8 = .ok (.invokevirtual 130, 3) := by decide +kernel
theorem dX9_redeem_11 : decode cX9_redeem 11 = .ok (.istore_n 3, 1) := by decide +kernel
theorem dX9_redeem_12 : decode cX9_redeem 12 = .ok (.iload_n 3, 1) := by decide +kernel
theorem dX9_redeem_13 : decode cX9_redeem 13 = .ok (.ifCond .eq 9, 3) := by decide +kernel
theorem dX9_redeem_16 : decode cX9_redeem 16 = .ok (.aload_n 0, 1) := by decide +kernel
theorem dX9_redeem_17 : decode cX9_redeem 17 = .ok (.iload_n 3, 1) := by decide +kernel
theorem dX9_redeem_18 : decode cX9_redeem 18 = .ok (.invokevirtual 76, 3) := by decide +kernel
theorem dX9_redeem_21 : decode cX9_redeem 21 = .ok (.ireturn, 1) := by decide +kernel
theorem dX9_redeem_22 : decode cX9_redeem 22 = .ok (.aload_n 0, 1) := by decide +kernel
theorem dX9_redeem_23 : decode cX9_redeem 23 = .ok (.invokevirtual 79, 3) := by decide +kernel
theorem dX9_redeem_26 : decode cX9_redeem 26 = .ok (.aload_n 0, 1) := by decide +kernel
theorem dX9_redeem_27 : decode cX9_redeem 27 = .ok (.iload_n 1, 1) := by decide +kernel
theorem dX9_redeem_28 : decode cX9_redeem 28 = .ok (.iload_n 2, 1) := by decide +kernel
theorem dX9_redeem_29 : decode cX9_redeem 29 = .ok (.invokevirtual 133, 3) := by decide +kernel
theorem dX9_redeem_32 : decode cX9_redeem 32 = .ok (.ireturn, 1) := by decide +kernel
theorem dX9_notAudit_0 : decode cX9_notAudit 0 = .ok (.aload_n 0, 1) := by decide +kernel
theorem dX9_notAudit_1 : decode cX9_notAudit 1 = .ok (.iload_n 1, 1) := by decide +kernel
theorem dX9_notAudit_2 : decode cX9_notAudit 2 = .ok (.invokevirtual 85, 3) := by decide +kernel
theorem dX9_notAudit_5 : decode cX9_notAudit 5 = .ok (.ifCond .ne 5, 3) := by decide +kernel
theorem dX9_notAudit_8 : decode cX9_notAudit 8 = .ok (.iconst 1, 1) := by decide +kernel
theorem dX9_notAudit_9 : decode cX9_notAudit 9 = .ok (.ireturn, 1) := by decide +kernel
theorem dX9_notAudit_10 : decode cX9_notAudit 10 = .ok (.aload_n 0, 1) := by decide +kernel
theorem dX9_notAudit_11 : decode cX9_notAudit 11 = .ok (.iload_n 1, 1) := by decide +kernel
theorem dX9_notAudit_12 : decode cX9_notAudit 12 = .ok (.bipush 7, 2) := by decide +kernel
theorem dX9_notAudit_14 : decode cX9_notAudit 14 = .ok (.invokevirtual 58, 3) := by decide +kernel
theorem dX9_notAudit_17 : decode cX9_notAudit 17 = .ok (.ifCond .le 7, 3) := by decide +kernel
theorem dX9_notAudit_20 : decode cX9_notAudit 20 = .ok (.iconst 2, 1) := by decide +kernel
theorem dX9_notAudit_21 : decode cX9_notAudit 21 = .ok (.goto 4, 3) := by decide +kernel
theorem dX9_notAudit_24 : decode cX9_notAudit 24 = .ok (.iconst 0, 1) := by decide +kernel
theorem dX9_notAudit_25 : decode cX9_notAudit 25 = .ok (.ireturn, 1) := by decide +kernel
theorem dX9_audits_0 : decode cX9_audits 0 = .ok (.aload_n 0, 1) := by decide +kernel
theorem dX9_audits_1 : decode cX9_audits 1 = .ok (.getfield 13, 3) := by decide +kernel
theorem dX9_audits_4 : decode cX9_audits 4 = .ok (.bipush 14, 2) := by decide +kernel
theorem dX9_audits_6 : decode cX9_audits 6 = .ok (.dup2, 1) := by decide +kernel
theorem dX9_audits_7 : decode cX9_audits 7 = .ok (.iaload, 1) := by decide +kernel
theorem dX9_audits_8 : decode cX9_audits 8 = .ok (.iconst 1, 1) := by decide +kernel
theorem dX9_audits_9 : decode cX9_audits 9 = .ok (.iadd, 1) := by decide +kernel
theorem dX9_audits_10 : decode cX9_audits 10 = .ok (.iastore, 1) := by decide +kernel
theorem dX9_audits_11 : decode cX9_audits 11 = .ok (.aload_n 0, 1) := by decide +kernel
theorem dX9_audits_12 : decode cX9_audits 12 = .ok (.iload_n 1, 1) := by decide +kernel
theorem dX9_audits_13 : decode cX9_audits 13 = .ok (.invokevirtual 102, 3) := by decide +kernel
theorem dX9_audits_16 : decode cX9_audits 16 = .ok (.ifCond .lt 33, 3) := by decide +kernel
theorem dX9_audits_19 : decode cX9_audits 19 = .ok (.aload_n 0, 1) := by decide +kernel
theorem dX9_audits_20 : decode cX9_audits 20 = .ok (.getfield 13, 3) := by decide +kernel
theorem dX9_audits_23 : decode cX9_audits 23 = .ok (.bipush 15, 2) := by decide +kernel
theorem dX9_audits_25 : decode cX9_audits 25 = .ok (.dup2, 1) := by decide +kernel
theorem dX9_audits_26 : decode cX9_audits 26 = .ok (.iaload, 1) := by decide +kernel
theorem dX9_audits_27 : decode cX9_audits 27 = .ok (.iconst 1, 1) := by decide +kernel
theorem dX9_audits_28 : decode cX9_audits 28 = .ok (.iadd, 1) := by decide +kernel
theorem dX9_audits_29 : decode cX9_audits 29 = .ok (.iastore, 1) := by decide +kernel
theorem dX9_audits_30 : decode cX9_audits 30 = .ok (.aload_n 0, 1) := by decide +kernel
theorem dX9_audits_31 : decode cX9_audits 31 = .ok (.iload_n 1, 1) := by decide +kernel
theorem dX9_audits_32 : decode cX9_audits 32 = .ok (.iconst 5, 1) := by decide +kernel
theorem dX9_audits_33 : decode cX9_audits 33 = .ok (.invokevirtual 58, 3) := by decide +kernel
theorem dX9_audits_36 : decode cX9_audits 36 = .ok (.iconst 3, 1) := by decide +kernel
theorem dX9_audits_37 : decode cX9_audits 37 = .ok (.if_icmp .ge 10, 3) := by decide +kernel
theorem dX9_audits_40 : decode cX9_audits 40 = .ok (.aload_n 0, 1) := by decide +kernel
theorem dX9_audits_41 : decode cX9_audits 41 = .ok (.iload_n 1, 1) := by decide +kernel
theorem dX9_audits_42 : decode cX9_audits 42 = .ok (.iconst 5, 1) := by decide +kernel
theorem dX9_audits_43 : decode cX9_audits 43 = .ok (.iconst 1, 1) := by decide +kernel
theorem dX9_audits_44 : decode cX9_audits 44 = .ok (.invokevirtual 92, 3) := by decide +kernel
theorem dX9_audits_47 : decode cX9_audits 47 = .ok (.iconst 1, 1) := by decide +kernel
theorem dX9_audits_48 : decode cX9_audits 48 = .ok (.ireturn, 1) := by decide +kernel
theorem dX9_audits_49 : decode cX9_audits 49 = .ok (.aload_n 0, 1) := by decide +kernel
theorem dX9_audits_50 : decode cX9_audits 50 = .ok (.iload_n 1, 1) := by decide +kernel
theorem dX9_audits_51 : decode cX9_audits 51 = .ok (.iconst 5, 1) := by decide +kernel
theorem dX9_audits_52 : decode cX9_audits 52 = .ok (.invokevirtual 58, 3) := by decide +kernel
theorem dX9_audits_55 : decode cX9_audits 55 = .ok (.ifCond .le 10, 3) := by decide +kernel
theorem dX9_audits_58 : decode cX9_audits 58 = .ok (.aload_n 0, 1) := by decide +kernel
theorem dX9_audits_59 : decode cX9_audits 59 = .ok (.iload_n 1, 1) := by decide +kernel
theorem dX9_audits_60 : decode cX9_audits 60 = .ok (.iconst 5, 1) := by decide +kernel
theorem dX9_audits_61 : decode cX9_audits 61 = .ok (.iconst (-1), 1) := by decide +kernel
theorem dX9_audits_62 : decode cX9_audits 62 = .ok (.invokevirtual 92, 3) := by decide +kernel
theorem dX9_audits_65 : decode cX9_audits 65 = .ok (.aload_n 0, 1) := by decide +kernel
theorem dX9_audits_66 : decode cX9_audits 66 = .ok (.iload_n 1, 1) := by decide +kernel
theorem dX9_audits_67 : decode cX9_audits 67 = .ok (.iconst 5, 1) := by decide +kernel
theorem dX9_audits_68 : decode cX9_audits 68 = .ok (.invokevirtual 58, 3) := by decide +kernel
theorem dX9_audits_71 : decode cX9_audits 71 = .ok (.ifCond .ne 11, 3) := by decide +kernel
theorem dX9_audits_74 : decode cX9_audits 74 = .ok (.aload_n 0, 1) := by decide +kernel
theorem dX9_audits_75 : decode cX9_audits 75 = .ok (.iload_n 1, 1) := by decide +kernel
theorem dX9_audits_76 : decode cX9_audits 76 = .ok (.bipush 7, 2) := by decide +kernel
theorem dX9_audits_78 : decode cX9_audits 78 = .ok (.iconst 5, 1) := by decide +kernel
theorem dX9_audits_79 : decode cX9_audits 79 = .ok (.invokevirtual 69, 3) := by decide +kernel
theorem dX9_audits_82 : decode cX9_audits 82 = .ok (.iconst 0, 1) := by decide +kernel
theorem dX9_audits_83 : decode cX9_audits 83 = .ok (.ireturn, 1) := by decide +kernel
theorem dX9_audit_0 : decode cX9_audit 0 = .ok (.aload_n 0, 1) := by decide +kernel
theorem dX9_audit_1 : decode cX9_audit 1 = .ok (.iconst 0, 1) := by decide +kernel
theorem dX9_audit_2 : decode cX9_audit 2 = .ok (.putfield 1, 3) := by decide +kernel
theorem dX9_audit_5 : decode cX9_audit 5 = .ok (.aload_n 0, 1) := by decide +kernel
theorem dX9_audit_6 : decode cX9_audit 6 = .ok (.iload_n 1, 1) := by decide +kernel
theorem dX9_audit_7 : decode cX9_audit 7 = .ok (.invokevirtual 136, 3) := by decide +kernel
theorem dX9_audit_10 : decode cX9_audit 10 = .ok (.istore_n 2, 1) := by decide +kernel
theorem dX9_audit_11 : decode cX9_audit 11 = .ok (.iload_n 2, 1) := by decide +kernel
theorem dX9_audit_12 : decode cX9_audit 12 = .ok (.ifCond .eq 17, 3) := by decide +kernel
theorem dX9_audit_15 : decode cX9_audit 15 = .ok (.aload_n 0, 1) := by decide +kernel
theorem dX9_audit_16 : decode cX9_audit 16 = .ok (.iload_n 2, 1) := by decide +kernel
theorem dX9_audit_17 : decode cX9_audit 17 = .ok (.invokevirtual 76, 3) := by decide +kernel
theorem dX9_audit_20 : decode cX9_audit 20 = .ok (.ifCond .le 7, 3) := by decide +kernel
theorem dX9_audit_23 : decode cX9_audit 23 = .ok (.iconst 1, 1) := by decide +kernel
theorem dX9_audit_24 : decode cX9_audit 24 = .ok (.goto 4, 3) := by decide +kernel
theorem dX9_audit_27 : decode cX9_audit 27 = .ok (.iconst 0, 1) := by decide +kernel
theorem dX9_audit_28 : decode cX9_audit 28 = .ok (.ireturn, 1) := by decide +kernel
theorem dX9_audit_29 : decode cX9_audit 29 = .ok (.aload_n 0, 1) := by decide +kernel
theorem dX9_audit_30 : decode cX9_audit 30 = .ok (.invokevirtual 79, 3) := by decide +kernel
theorem dX9_audit_33 : decode cX9_audit 33 = .ok (.aload_n 0, 1) := by decide +kernel
theorem dX9_audit_34 : decode cX9_audit 34 = .ok (.iload_n 1, 1) := by decide +kernel
theorem dX9_audit_35 : decode cX9_audit 35 = .ok (.invokevirtual 139, 3) := by decide +kernel
theorem dX9_audit_38 : decode cX9_audit 38 = .ok (.iconst 1, 1) := by decide +kernel
theorem dX9_audit_39 : decode cX9_audit 39 = .ok (.if_icmp .ne 7, 3) := by decide +kernel
theorem dX9_audit_42 : decode cX9_audit 42 = .ok (.iconst 1, 1) := by decide +kernel
theorem dX9_audit_43 : decode cX9_audit 43 = .ok (.goto 4, 3) := by decide +kernel
theorem dX9_audit_46 : decode cX9_audit 46 = .ok (.iconst 0, 1) := by decide +kernel
theorem dX9_audit_47 : decode cX9_audit 47 = .ok (.ireturn, 1) := by decide +kernel
theorem dX9_notRate_0 : decode cX9_notRate 0 = .ok (.iload_n 0, 1) := by decide +kernel
theorem dX9_notRate_1 : decode cX9_notRate 1 = .ok (.invokestatic 89, 3) := by decide +kernel
theorem dX9_notRate_4 : decode cX9_notRate 4 = .ok (.ifCond .lt 17, 3) := by decide +kernel
theorem dX9_notRate_7 : decode cX9_notRate 7 = .ok (.iload_n 1, 1) := by decide +kernel
theorem dX9_notRate_8 : decode cX9_notRate 8 = .ok (.iconst 1, 1) := by decide +kernel
theorem dX9_notRate_9 : decode cX9_notRate 9 = .ok (.bipush 50, 2) := by decide +kernel
theorem dX9_notRate_11 : decode cX9_notRate 11 = .ok (.invokestatic 54, 3) := by decide +kernel
theorem dX9_notRate_14 : decode cX9_notRate 14 = .ok (.ifCond .eq 7, 3) := by decide +kernel
theorem dX9_notRate_17 : decode cX9_notRate 17 = .ok (.iconst 0, 1) := by decide +kernel
theorem dX9_notRate_18 : decode cX9_notRate 18 = .ok (.goto 4, 3) := by decide +kernel
theorem dX9_notRate_21 : decode cX9_notRate 21 = .ok (.iconst 1, 1) := by decide +kernel
theorem dX9_notRate_22 : decode cX9_notRate 22 = .ok (.ireturn, 1) := by decide +kernel
theorem dX9_setsRate_0 : decode cX9_setsRate 0 = .ok (.aload_n 0, 1) := by decide +kernel
theorem dX9_setsRate_1 : decode cX9_setsRate 1 = .ok (.getfield 13, 3) := by decide +kernel
theorem dX9_setsRate_4 : decode cX9_setsRate 4 = .ok (.iconst 2, 1) := by decide +kernel
theorem dX9_setsRate_5 : decode cX9_setsRate 5 = .ok (.iload_n 1, 1) := by decide +kernel
theorem dX9_setsRate_6 : decode cX9_setsRate 6 = .ok (.invokestatic 89, 3) := by decide +kernel
theorem dX9_setsRate_9 : decode cX9_setsRate 9 = .ok (.iadd, 1) := by decide +kernel
theorem dX9_setsRate_10 : decode cX9_setsRate 10 = .ok (.iaload, 1) := by decide +kernel
theorem dX9_setsRate_11 : decode cX9_setsRate 11 = .ok (.istore_n 3, 1) := by decide +kernel
theorem dX9_setsRate_12 : decode cX9_setsRate 12 = .ok (.aload_n 0, 1) := by decide +kernel
theorem dX9_setsRate_13 : decode cX9_setsRate 13 = .ok (.getfield 13, 3) := by decide +kernel
theorem dX9_setsRate_16 : decode cX9_setsRate 16 = .ok (.iconst 2, 1) := by decide +kernel
theorem dX9_setsRate_17 : decode cX9_setsRate 17 = .ok (.iload_n 1, 1) := by decide +kernel
theorem dX9_setsRate_18 : decode cX9_setsRate 18 = .ok (.invokestatic 89, 3) := by decide +kernel
theorem dX9_setsRate_21 : decode cX9_setsRate 21 = .ok (.iadd, 1) := by decide +kernel
theorem dX9_setsRate_22 : decode cX9_setsRate 22 = .ok (.iload_n 2, 1) := by decide +kernel
theorem dX9_setsRate_23 : decode cX9_setsRate 23 = .ok (.iastore, 1) := by decide +kernel
theorem dX9_setsRate_24 : decode cX9_setsRate 24 = .ok (.iload_n 3, 1) := by decide +kernel
theorem dX9_setsRate_25 : decode cX9_setsRate 25 = .ok (.ireturn, 1) := by decide +kernel
theorem dX9_setRate_0 : decode cX9_setRate 0 = .ok (.aload_n 0, 1) := by decide +kernel
theorem dX9_setRate_1 : decode cX9_setRate 1 = .ok (.iconst 0, 1) := by decide +kernel
theorem dX9_setRate_2 : decode cX9_setRate 2 = .ok (.putfield 1, 3) := by decide +kernel
theorem dX9_setRate_5 : decode cX9_setRate 5 = .ok (.iload_n 1, 1) := by decide +kernel
theorem dX9_setRate_6 : decode cX9_setRate 6 = .ok (.iload_n 2, 1) := by decide +kernel
theorem dX9_setRate_7 : decode cX9_setRate 7 = .ok (.invokestatic 142, 3) := by decide +kernel
theorem dX9_setRate_10 : decode cX9_setRate 10 = .ok (.ifCond .eq 9, 3) := by decide +kernel
theorem dX9_setRate_13 : decode cX9_setRate 13 = .ok (.aload_n 0, 1) := by decide +kernel
theorem dX9_setRate_14 : decode cX9_setRate 14 = .ok (.iconst 1, 1) := by decide +kernel
theorem dX9_setRate_15 : decode cX9_setRate 15 = .ok (.invokevirtual 76, 3) := by decide +kernel
theorem dX9_setRate_18 : decode cX9_setRate 18 = .ok (.ireturn, 1) := by decide +kernel
theorem dX9_setRate_19 : decode cX9_setRate 19 = .ok (.aload_n 0, 1) := by decide +kernel
theorem dX9_setRate_20 : decode cX9_setRate 20 = .ok (.invokevirtual 79, 3) := by decide +kernel
theorem dX9_setRate_23 : decode cX9_setRate 23 = .ok (.aload_n 0, 1) := by decide +kernel
theorem dX9_setRate_24 : decode cX9_setRate 24 = .ok (.iload_n 1, 1) := by decide +kernel
theorem dX9_setRate_25 : decode cX9_setRate 25 = .ok (.iload_n 2, 1) := by decide +kernel
theorem dX9_setRate_26 : decode cX9_setRate 26 = .ok (.invokevirtual 145, 3) := by decide +kernel
theorem dX9_setRate_29 : decode cX9_setRate 29 = .ok (.ireturn, 1) := by decide +kernel
theorem dX9_notStick_0 : decode cX9_notStick 0 = .ok (.aload_n 0, 1) := by decide +kernel
theorem dX9_notStick_1 : decode cX9_notStick 1 = .ok (.iload_n 1, 1) := by decide +kernel
theorem dX9_notStick_2 : decode cX9_notStick 2 = .ok (.invokevirtual 85, 3) := by decide +kernel
theorem dX9_notStick_5 : decode cX9_notStick 5 = .ok (.ifCond .ne 5, 3) := by decide +kernel
theorem dX9_notStick_8 : decode cX9_notStick 8 = .ok (.iconst 1, 1) := by decide +kernel
theorem dX9_notStick_9 : decode cX9_notStick 9 = .ok (.ireturn, 1) := by decide +kernel
theorem dX9_notStick_10 : decode cX9_notStick 10 = .ok (.iload_n 2, 1) := by decide +kernel
theorem dX9_notStick_11 : decode cX9_notStick 11 = .ok (.iconst 0, 1) := by decide +kernel
theorem dX9_notStick_12 : decode cX9_notStick 12 = .ok (.bipush 9, 2) := by decide +kernel
theorem dX9_notStick_14 : decode cX9_notStick 14 = .ok (.invokestatic 54, 3) := by decide +kernel
theorem dX9_notStick_17 : decode cX9_notStick 17 = .ok (.ifCond .eq 7, 3) := by decide +kernel
theorem dX9_notStick_20 : decode cX9_notStick 20 = .ok (.iconst 0, 1) := by decide +kernel
theorem dX9_notStick_21 : decode cX9_notStick 21 = .ok (.goto 4, 3) := by decide +kernel
theorem dX9_notStick_24 : decode cX9_notStick 24 = .ok (.iconst 2, 1) := by decide +kernel
theorem dX9_notStick_25 : decode cX9_notStick 25 = .ok (.ireturn, 1) := by decide +kernel
theorem dX9_sticks_0 : decode cX9_sticks 0 = .ok (.aload_n 0, 1) := by decide +kernel
theorem dX9_sticks_1 : decode cX9_sticks 1 = .ok (.iload_n 1, 1) := by decide +kernel
theorem dX9_sticks_2 : decode cX9_sticks 2 = .ok (.bipush 6, 2) := by decide +kernel
theorem dX9_sticks_4 : decode cX9_sticks 4 = .ok (.invokevirtual 58, 3) := by decide +kernel
theorem dX9_sticks_7 : decode cX9_sticks 7 = .ok (.istore_n 3, 1) := by decide +kernel
theorem dX9_sticks_8 : decode cX9_sticks 8 = .ok (.aload_n 0, 1) := by decide +kernel
theorem dX9_sticks_9 : decode cX9_sticks 9 = .ok (.iload_n 1, 1) := by decide +kernel
theorem dX9_sticks_10 : decode cX9_sticks 10 = .ok (.bipush 6, 2) := by decide +kernel
theorem dX9_sticks_12 : decode cX9_sticks 12 = .ok (.iload_n 2, 1) := by decide +kernel
theorem dX9_sticks_13 : decode cX9_sticks 13 = .ok (.invokevirtual 69, 3) := by decide +kernel
theorem dX9_sticks_16 : decode cX9_sticks 16 = .ok (.iload_n 3, 1) := by decide +kernel
theorem dX9_sticks_17 : decode cX9_sticks 17 = .ok (.ireturn, 1) := by decide +kernel
theorem dX9_setStickiness_0 : decode cX9_setStickiness 0 = .ok (.aload_n 0, 1) := by decide +kernel
theorem dX9_setStickiness_1 : decode cX9_setStickiness 1 = .ok (.iconst 0, 1) := by decide +kernel
theorem dX9_setStickiness_2 : decode cX9_setStickiness 2 = .ok (.putfield 1, 3) := by decide +kernel
theorem dX9_setStickiness_5 : decode cX9_setStickiness 5 = .ok (.aload_n 0, 1) := by decide +kernel
theorem dX9_setStickiness_6 : decode cX9_setStickiness 6 = .ok (.iload_n 1, 1) := by decide +kernel
theorem dX9_setStickiness_7 : decode cX9_setStickiness 7 = .ok (.iload_n 2, 1) := by decide +kernel
theorem dX9_setStickiness_8 : decode cX9_setStickiness 8 = .ok (.invokevirtual 148, 3) := by decide +kernel
theorem dX9_setStickiness_11 : decode cX9_setStickiness 11 = .ok (.istore_n 3, 1) := by decide +kernel
theorem dX9_setStickiness_12 : decode cX9_setStickiness 12 = .ok (.iload_n 3, 1) := by decide +kernel
theorem dX9_setStickiness_13 : decode cX9_setStickiness 13 = .ok (.ifCond .eq 9, 3) := by decide +kernel
theorem dX9_setStickiness_16 : decode cX9_setStickiness 16 = .ok (.aload_n 0, 1) := by decide +kernel
theorem dX9_setStickiness_17 : decode cX9_setStickiness 17 = .ok (.iload_n 3, 1) := by decide +kernel
theorem dX9_setStickiness_18 : decode cX9_setStickiness 18 = .ok (.invokevirtual 76, 3) := by decide +kernel
theorem dX9_setStickiness_21 : decode cX9_setStickiness 21 = .ok (.ireturn, 1) := by decide +kernel
theorem dX9_setStickiness_22 : decode cX9_setStickiness 22 = .ok (.aload_n 0, 1) := by decide +kernel
theorem dX9_setStickiness_23 : decode cX9_setStickiness 23 = .ok (.invokevirtual 79, 3) := by decide +kernel
theorem dX9_setStickiness_26 : decode cX9_setStickiness 26 = .ok (.aload_n 0, 1) := by decide +kernel
theorem dX9_setStickiness_27 : decode cX9_setStickiness 27 = .ok (.iload_n 1, 1) := by decide +kernel
theorem dX9_setStickiness_28 : decode cX9_setStickiness 28 = .ok (.iload_n 2, 1) := by decide +kernel
theorem dX9_setStickiness_29 : decode cX9_setStickiness 29 = .ok (.invokevirtual 151, 3) := by decide +kernel
theorem dX9_setStickiness_32 : decode cX9_setStickiness 32 = .ok (.ireturn, 1) := by decide +kernel
theorem dX9_passesOne_0 : decode cX9_passesOne 0 = .ok (.iconst 0, 1) := by decide +kernel
theorem dX9_passesOne_1 : decode cX9_passesOne 1 = .ok (.istore_n 1, 1) := by decide +kernel
theorem dX9_passesOne_2 : decode cX9_passesOne 2 = .ok (.aload_n 0, 1) := by decide +kernel
theorem dX9_passesOne_3 : decode cX9_passesOne 3 = .ok (.getfield 13, 3) := by decide +kernel
theorem dX9_passesOne_6 : decode cX9_passesOne 6 = .ok (.iconst 1, 1) := by decide +kernel
theorem dX9_passesOne_7 : decode cX9_passesOne 7 = .ok (.dup2, 1) := by decide +kernel
theorem dX9_passesOne_8 : decode cX9_passesOne 8 = .ok (.iaload, 1) := by decide +kernel
theorem dX9_passesOne_9 : decode cX9_passesOne 9 = .ok (.iconst 1, 1) := by decide +kernel
theorem dX9_passesOne_10 : decode cX9_passesOne 10 = .ok (.iadd, 1) := by decide +kernel
theorem dX9_passesOne_11 : decode cX9_passesOne 11 = .ok (.iastore, 1) := by decide +kernel
theorem dX9_passesOne_12 : decode cX9_passesOne 12 = .ok (.iconst 0, 1) := by decide +kernel
theorem dX9_passesOne_13 : decode cX9_passesOne 13 = .ok (.istore_n 2, 1) := by decide +kernel
theorem dX9_passesOne_14 : decode cX9_passesOne 14 = .ok (.iload_n 2, 1) := by decide +kernel
theorem dX9_passesOne_15 : decode cX9_passesOne 15 = .ok (.aload_n 0, 1) := by decide +kernel
theorem dX9_passesOne_16 : decode cX9_passesOne 16 = .ok (.getfield 13, 3) := by decide +kernel
theorem dX9_passesOne_19 : decode cX9_passesOne 19 = .ok (.iconst 0, 1) := by decide +kernel
theorem dX9_passesOne_20 : decode cX9_passesOne 20 = .ok (.iaload, 1) := by decide +kernel
theorem dX9_passesOne_21 : decode cX9_passesOne 21 = .ok (.if_icmp .ge 46, 3) := by decide +kernel
theorem dX9_passesOne_24 : decode cX9_passesOne 24 = .ok (.aload_n 0, 1) := by decide +kernel
theorem dX9_passesOne_25 : decode cX9_passesOne 25 = .ok (.iload_n 2, 1) := by decide +kernel
theorem dX9_passesOne_26 : decode cX9_passesOne 26 = .ok (.iconst 4, 1) := by decide +kernel
theorem dX9_passesOne_27 : decode cX9_passesOne 27 = .ok (.invokevirtual 58, 3) := by decide +kernel
theorem dX9_passesOne_30 : decode cX9_passesOne 30 = .ok (.ifCond .le 13, 3) := by decide +kernel
theorem dX9_passesOne_33 : decode cX9_passesOne 33 = .ok (.aload_n 0, 1) := by decide +kernel
theorem dX9_passesOne_34 : decode cX9_passesOne 34 = .ok (.iload_n 2, 1) := by decide +kernel
theorem dX9_passesOne_35 : decode cX9_passesOne 35 = .ok (.iconst 4, 1) := by decide +kernel
theorem dX9_passesOne_36 : decode cX9_passesOne 36 = .ok (.iconst (-1), 1) := by decide +kernel
theorem dX9_passesOne_37 : decode cX9_passesOne 37 = .ok (.invokevirtual 92, 3) := by decide +kernel
theorem dX9_passesOne_40 : decode cX9_passesOne 40 = .ok (.iinc 1 1, 3) := by decide +kernel
theorem dX9_passesOne_43 : decode cX9_passesOne 43 = .ok (.aload_n 0, 1) := by decide +kernel
theorem dX9_passesOne_44 : decode cX9_passesOne 44 = .ok (.iload_n 2, 1) := by decide +kernel
theorem dX9_passesOne_45 : decode cX9_passesOne 45 = .ok (.bipush 7, 2) := by decide +kernel
theorem dX9_passesOne_47 : decode cX9_passesOne 47 = .ok (.invokevirtual 58, 3) := by decide +kernel
theorem dX9_passesOne_50 : decode cX9_passesOne 50 = .ok (.ifCond .le 11, 3) := by decide +kernel
theorem dX9_passesOne_53 : decode cX9_passesOne 53 = .ok (.aload_n 0, 1) := by decide +kernel
theorem dX9_passesOne_54 : decode cX9_passesOne 54 = .ok (.iload_n 2, 1) := by decide +kernel
theorem dX9_passesOne_55 : decode cX9_passesOne 55 = .ok (.bipush 7, 2) := by decide +kernel
theorem dX9_passesOne_57 : decode cX9_passesOne 57 = .ok (.iconst (-1), 1) := by decide +kernel
theorem dX9_passesOne_58 : decode cX9_passesOne 58 = .ok (.invokevirtual 92, 3) := by decide +kernel
theorem dX9_passesOne_61 : decode cX9_passesOne 61 = .ok (.iinc 2 1, 3) := by decide +kernel
theorem dX9_passesOne_64 : decode cX9_passesOne 64 = .ok (.goto (-50), 3) := by decide +kernel
theorem dX9_passesOne_67 : decode cX9_passesOne 67 = .ok (.aload_n 0, 1) := by decide +kernel
theorem dX9_passesOne_68 : decode cX9_passesOne 68 = .ok (.getfield 13, 3) := by decide +kernel
theorem dX9_passesOne_71 : decode cX9_passesOne 71 = .ok (.bipush 13, 2) := by decide +kernel
theorem dX9_passesOne_73 : decode cX9_passesOne 73 = .ok (.dup2, 1) := by decide +kernel
theorem dX9_passesOne_74 : decode cX9_passesOne 74 = .ok (.iaload, 1) := by decide +kernel
theorem dX9_passesOne_75 : decode cX9_passesOne 75 = .ok (.iload_n 1, 1) := by decide +kernel
theorem dX9_passesOne_76 : decode cX9_passesOne 76 = .ok (.iadd, 1) := by decide +kernel
theorem dX9_passesOne_77 : decode cX9_passesOne 77 = .ok (.iastore, 1) := by decide +kernel
theorem dX9_passesOne_78 : decode cX9_passesOne 78 = .ok (.iload_n 1, 1) := by decide +kernel
theorem dX9_passesOne_79 : decode cX9_passesOne 79 = .ok (.ireturn, 1) := by decide +kernel
theorem dX9_passes_0 : decode cX9_passes 0 = .ok (.iconst 0, 1) := by decide +kernel
theorem dX9_passes_1 : decode cX9_passes 1 = .ok (.istore_n 2, 1) := by decide +kernel
theorem dX9_passes_2 : decode cX9_passes 2 = .ok (.iconst 0, 1) := by decide +kernel
theorem dX9_passes_3 : decode cX9_passes 3 = .ok (.istore_n 3, 1) := by decide +kernel
theorem dX9_passes_4 : decode cX9_passes 4 = .ok (.iload_n 3, 1) := by decide +kernel
theorem dX9_passes_5 : decode cX9_passes 5 = .ok (.iload_n 1, 1) := by decide +kernel
theorem dX9_passes_6 : decode cX9_passes 6 = .ok (.if_icmp .ge 16, 3) := by decide +kernel
theorem dX9_passes_9 : decode cX9_passes 9 = .ok (.iload_n 2, 1) := by decide +kernel
theorem dX9_passes_10 : decode cX9_passes 10 = .ok (.aload_n 0, 1) := by decide +kernel
theorem dX9_passes_11 : decode cX9_passes 11 = .ok (.invokevirtual 154, 3) := by decide +kernel
theorem dX9_passes_14 : decode cX9_passes 14 = .ok (.iadd, 1) := by decide +kernel
theorem dX9_passes_15 : decode cX9_passes 15 = .ok (.istore_n 2, 1) := by decide +kernel
theorem dX9_passes_16 : decode cX9_passes 16 = .ok (.iinc 3 1, 3) := by decide +kernel
theorem dX9_passes_19 : decode cX9_passes 19 = .ok (.goto (-15), 3) := by decide +kernel
theorem dX9_passes_22 : decode cX9_passes 22 = .ok (.iload_n 2, 1) := by decide +kernel
theorem dX9_passes_23 : decode cX9_passes 23 = .ok (.ireturn, 1) := by decide +kernel
theorem dX9_notDays_0 : decode cX9_notDays 0 = .ok (.iload_n 0, 1) := by decide +kernel
theorem dX9_notDays_1 : decode cX9_notDays 1 = .ok (.iconst 1, 1) := by decide +kernel
theorem dX9_notDays_2 : decode cX9_notDays 2 = .ok (.bipush 30, 2) := by decide +kernel
theorem dX9_notDays_4 : decode cX9_notDays 4 = .ok (.invokestatic 54, 3) := by decide +kernel
theorem dX9_notDays_7 : decode cX9_notDays 7 = .ok (.ifCond .eq 7, 3) := by decide +kernel
theorem dX9_notDays_10 : decode cX9_notDays 10 = .ok (.iconst 0, 1) := by decide +kernel
theorem dX9_notDays_11 : decode cX9_notDays 11 = .ok (.goto 4, 3) := by decide +kernel
theorem dX9_notDays_14 : decode cX9_notDays 14 = .ok (.iconst 1, 1) := by decide +kernel
theorem dX9_notDays_15 : decode cX9_notDays 15 = .ok (.ireturn, 1) := by decide +kernel
theorem dX9_passDays_0 : decode cX9_passDays 0 = .ok (.aload_n 0, 1) := by decide +kernel
theorem dX9_passDays_1 : decode cX9_passDays 1 = .ok (.iconst 0, 1) := by decide +kernel
theorem dX9_passDays_2 : decode cX9_passDays 2 = .ok (.putfield 1, 3) := by decide +kernel
theorem dX9_passDays_5 : decode cX9_passDays 5 = .ok (.iload_n 1, 1) := by decide +kernel
theorem dX9_passDays_6 : decode cX9_passDays 6 = .ok (.invokestatic 158, 3) := by decide +kernel
theorem dX9_passDays_9 : decode cX9_passDays 9 = .ok (.ifCond .eq 9, 3) := by decide +kernel
theorem dX9_passDays_12 : decode cX9_passDays 12 = .ok (.aload_n 0, 1) := by decide +kernel
theorem dX9_passDays_13 : decode cX9_passDays 13 = .ok (.iconst 1, 1) := by decide +kernel
theorem dX9_passDays_14 : decode cX9_passDays 14 = .ok (.invokevirtual 76, 3) := by decide +kernel
theorem dX9_passDays_17 : decode cX9_passDays 17 = .ok (.ireturn, 1) := by decide +kernel
theorem dX9_passDays_18 : decode cX9_passDays 18 = .ok (.aload_n 0, 1) := by decide +kernel
theorem dX9_passDays_19 : decode cX9_passDays 19 = .ok (.invokevirtual 79, 3) := by decide +kernel
theorem dX9_passDays_22 : decode cX9_passDays 22 = .ok (.aload_n 0, 1) := by decide +kernel
theorem dX9_passDays_23 : decode cX9_passDays 23 = .ok (.iload_n 1, 1) := by decide +kernel
theorem dX9_passDays_24 : decode cX9_passDays 24 = .ok (.invokevirtual 161, 3) := by decide +kernel
theorem dX9_passDays_27 : decode cX9_passDays 27 = .ok (.ireturn, 1) := by decide +kernel
theorem dX9_asks_0 : decode cX9_asks 0 = .ok (.aload_n 0, 1) := by decide +kernel
theorem dX9_asks_1 : decode cX9_asks 1 = .ok (.iconst 0, 1) := by decide +kernel
theorem dX9_asks_2 : decode cX9_asks 2 = .ok (.putfield 1, 3) := by decide +kernel
theorem dX9_asks_5 : decode cX9_asks 5 = .ok (.aload_n 0, 1) := by decide +kernel
theorem dX9_asks_6 : decode cX9_asks 6 = .ok (.getfield 13, 3) := by decide +kernel
theorem dX9_asks_9 : decode cX9_asks 9 = .ok (.iload_n 1, 1) := by decide +kernel
theorem dX9_asks_10 : decode cX9_asks 10 = .ok (.iaload, 1) := by decide +kernel
theorem dX9_asks_11 : decode cX9_asks 11 = .ok (.ireturn, 1) := by decide +kernel
theorem dX9_vaultCount_0 : decode cX9_vaultCount 0 = .ok (.aload_n 0, 1) := by decide +kernel
theorem dX9_vaultCount_1 : decode cX9_vaultCount 1 = .ok (.iconst 0, 1) := by decide +kernel
theorem dX9_vaultCount_2 : decode cX9_vaultCount 2 = .ok (.invokevirtual 164, 3) := by decide +kernel
theorem dX9_vaultCount_5 : decode cX9_vaultCount 5 = .ok (.ireturn, 1) := by decide +kernel
theorem dX9_flies_0 : decode cX9_flies 0 = .ok (.aload_n 0, 1) := by decide +kernel
theorem dX9_flies_1 : decode cX9_flies 1 = .ok (.iconst 0, 1) := by decide +kernel
theorem dX9_flies_2 : decode cX9_flies 2 = .ok (.putfield 1, 3) := by decide +kernel
theorem dX9_flies_5 : decode cX9_flies 5 = .ok (.aload_n 0, 1) := by decide +kernel
theorem dX9_flies_6 : decode cX9_flies 6 = .ok (.iload_n 1, 1) := by decide +kernel
theorem dX9_flies_7 : decode cX9_flies 7 = .ok (.invokevirtual 85, 3) := by decide +kernel
theorem dX9_flies_10 : decode cX9_flies 10 = .ok (.ifCond .ne 9, 3) := by decide +kernel
theorem dX9_flies_13 : decode cX9_flies 13 = .ok (.aload_n 0, 1) := by decide +kernel
theorem dX9_flies_14 : decode cX9_flies 14 = .ok (.iconst 1, 1) := by decide +kernel
theorem dX9_flies_15 : decode cX9_flies 15 = .ok (.invokevirtual 76, 3) := by decide +kernel
theorem dX9_flies_18 : decode cX9_flies 18 = .ok (.ireturn, 1) := by decide +kernel
theorem dX9_flies_19 : decode cX9_flies 19 = .ok (.iload_n 2, 1) := by decide +kernel
theorem dX9_flies_20 : decode cX9_flies 20 = .ok (.invokestatic 89, 3) := by decide +kernel
theorem dX9_flies_23 : decode cX9_flies 23 = .ok (.ifCond .ge 11, 3) := by decide +kernel
theorem dX9_flies_26 : decode cX9_flies 26 = .ok (.aload_n 0, 1) := by decide +kernel
theorem dX9_flies_27 : decode cX9_flies 27 = .ok (.iconst 2, 1) := by decide +kernel
theorem dX9_flies_28 : decode cX9_flies 28 = .ok (.invokevirtual 76, 3) := by decide +kernel
theorem dX9_flies_31 : decode cX9_flies 31 = .ok (.goto 12, 3) := by decide +kernel
theorem dX9_flies_34 : decode cX9_flies 34 = .ok (.aload_n 0, 1) := by decide +kernel
theorem dX9_flies_35 : decode cX9_flies 35 = .ok (.iload_n 1, 1) := by decide +kernel
theorem dX9_flies_36 : decode cX9_flies 36 = .ok (.iload_n 2, 1) := by decide +kernel
theorem dX9_flies_37 : decode cX9_flies 37 = .ok (.invokestatic 89, 3) := by decide +kernel
theorem dX9_flies_40 : decode cX9_flies 40 = .ok (.invokevirtual 58, 3) := by decide +kernel
theorem dX9_flies_43 : decode cX9_flies 43 = .ok (.ireturn, 1) := by decide +kernel
theorem dX9_asksVault_0 : decode cX9_asksVault 0 = .ok (.aload_n 0, 1) := by decide +kernel
theorem dX9_asksVault_1 : decode cX9_asksVault 1 = .ok (.iconst 0, 1) := by decide +kernel
theorem dX9_asksVault_2 : decode cX9_asksVault 2 = .ok (.putfield 1, 3) := by decide +kernel
theorem dX9_asksVault_5 : decode cX9_asksVault 5 = .ok (.aload_n 0, 1) := by decide +kernel
theorem dX9_asksVault_6 : decode cX9_asksVault 6 = .ok (.iload_n 1, 1) := by decide +kernel
theorem dX9_asksVault_7 : decode cX9_asksVault 7 = .ok (.invokevirtual 85, 3) := by decide +kernel
theorem dX9_asksVault_10 : decode cX9_asksVault 10 = .ok (.ifCond .eq 12, 3) := by decide +kernel
theorem dX9_asksVault_13 : decode cX9_asksVault 13 = .ok (.aload_n 0, 1) := by decide +kernel
theorem dX9_asksVault_14 : decode cX9_asksVault 14 = .ok (.iload_n 1, 1) := by decide +kernel
theorem dX9_asksVault_15 : decode cX9_asksVault 15 = .ok (.iload_n 2, 1) := by decide +kernel
theorem dX9_asksVault_16 : decode cX9_asksVault 16 = .ok (.invokevirtual 58, 3) := by decide +kernel
theorem dX9_asksVault_19 : decode cX9_asksVault 19 = .ok (.goto 8, 3) := by decide +kernel
theorem dX9_asksVault_22 : decode cX9_asksVault 22 = .ok (.aload_n 0, 1) := by decide +kernel
theorem dX9_asksVault_23 : decode cX9_asksVault 23 = .ok (.iconst 1, 1) := by decide +kernel
theorem dX9_asksVault_24 : decode cX9_asksVault 24 = .ok (.invokevirtual 76, 3) := by decide +kernel
theorem dX9_asksVault_27 : decode cX9_asksVault 27 = .ok (.ireturn, 1) := by decide +kernel
theorem dX9_crumbs_0 : decode cX9_crumbs 0 = .ok (.aload_n 0, 1) := by decide +kernel
theorem dX9_crumbs_1 : decode cX9_crumbs 1 = .ok (.iload_n 1, 1) := by decide +kernel
theorem dX9_crumbs_2 : decode cX9_crumbs 2 = .ok (.iconst 3, 1) := by decide +kernel
theorem dX9_crumbs_3 : decode cX9_crumbs 3 = .ok (.invokevirtual 167, 3) := by decide +kernel
theorem dX9_crumbs_6 : decode cX9_crumbs 6 = .ok (.ireturn, 1) := by decide +kernel
theorem dX9_dew_0 : decode cX9_dew 0 = .ok (.aload_n 0, 1) := by decide +kernel
theorem dX9_dew_1 : decode cX9_dew 1 = .ok (.iload_n 1, 1) := by decide +kernel
theorem dX9_dew_2 : decode cX9_dew 2 = .ok (.iconst 4, 1) := by decide +kernel
theorem dX9_dew_3 : decode cX9_dew 3 = .ok (.invokevirtual 167, 3) := by decide +kernel
theorem dX9_dew_6 : decode cX9_dew 6 = .ok (.ireturn, 1) := by decide +kernel
theorem dX9_wings_0 : decode cX9_wings 0 = .ok (.aload_n 0, 1) := by decide +kernel
theorem dX9_wings_1 : decode cX9_wings 1 = .ok (.iload_n 1, 1) := by decide +kernel
theorem dX9_wings_2 : decode cX9_wings 2 = .ok (.iconst 5, 1) := by decide +kernel
theorem dX9_wings_3 : decode cX9_wings 3 = .ok (.invokevirtual 167, 3) := by decide +kernel
theorem dX9_wings_6 : decode cX9_wings 6 = .ok (.ireturn, 1) := by decide +kernel
theorem dX9_stickiness_0 : decode cX9_stickiness 0 = .ok (.aload_n 0, 1) := by decide +kernel
theorem dX9_stickiness_1 : decode cX9_stickiness 1 = .ok (.iload_n 1, 1) := by decide +kernel
theorem dX9_stickiness_2 : decode cX9_stickiness 2 = .ok (.bipush 6, 2) := by decide +kernel
theorem dX9_stickiness_4 : decode cX9_stickiness 4 = .ok (.invokevirtual 167, 3) := by decide +kernel
theorem dX9_stickiness_7 : decode cX9_stickiness 7 = .ok (.ireturn, 1) := by decide +kernel
theorem dX9_isFrozen_0 : decode cX9_isFrozen 0 = .ok (.aload_n 0, 1) := by decide +kernel
theorem dX9_isFrozen_1 : decode cX9_isFrozen 1 = .ok (.iload_n 1, 1) := by decide +kernel
theorem dX9_isFrozen_2 : decode cX9_isFrozen 2 = .ok (.bipush 7, 2) := by decide +kernel
theorem dX9_isFrozen_4 : decode cX9_isFrozen 4 = .ok (.invokevirtual 167, 3) := by decide +kernel
theorem dX9_isFrozen_7 : decode cX9_isFrozen 7 = .ok (.ifCond .le 7, 3) := by decide +kernel
theorem dX9_isFrozen_10 : decode cX9_isFrozen 10 = .ok (.iconst 1, 1) := by decide +kernel
theorem dX9_isFrozen_11 : decode cX9_isFrozen 11 = .ok (.goto 4, 3) := by decide +kernel
theorem dX9_isFrozen_14 : decode cX9_isFrozen 14 = .ok (.iconst 0, 1) := by decide +kernel
theorem dX9_isFrozen_15 : decode cX9_isFrozen 15 = .ok (.ireturn, 1) := by decide +kernel
theorem dX9_daysUntilThaw_0 : decode cX9_daysUntilThaw 0 = .ok (.aload_n 0, 1) := by decide +kernel
theorem dX9_daysUntilThaw_1 : decode cX9_daysUntilThaw 1 = .ok (.iconst 0, 1) := by decide +kernel
theorem dX9_daysUntilThaw_2 : decode cX9_daysUntilThaw 2 = .ok (.putfield 1, 3) := by decide +kernel
theorem dX9_daysUntilThaw_5 : decode cX9_daysUntilThaw 5 = .ok (.aload_n 0, 1) := by decide +kernel
theorem dX9_daysUntilThaw_6 : decode cX9_daysUntilThaw 6 = .ok (.iload_n 1, 1) := by decide +kernel
theorem dX9_daysUntilThaw_7 : decode cX9_daysUntilThaw 7 = .ok (.invokevirtual 85, 3) := by decide +kernel
theorem dX9_daysUntilThaw_10 : decode cX9_daysUntilThaw 10 = .ok (.ifCond .ne 9, 3) := by decide +kernel
theorem dX9_daysUntilThaw_13 : decode cX9_daysUntilThaw 13 = .ok (.aload_n 0, 1) := by decide +kernel
theorem dX9_daysUntilThaw_14 : decode cX9_daysUntilThaw 14 = .ok (.iconst 1, 1) := by decide +kernel
theorem dX9_daysUntilThaw_15 : decode cX9_daysUntilThaw 15 = .ok (.invokevirtual 76, 3) := by decide +kernel
theorem dX9_daysUntilThaw_18 : decode cX9_daysUntilThaw 18 = .ok (.ireturn, 1) := by decide +kernel
theorem dX9_daysUntilThaw_19 : decode cX9_daysUntilThaw 19 = .ok (.aload_n 0, 1) := by decide +kernel
theorem dX9_daysUntilThaw_20 : decode cX9_daysUntilThaw 20 = .ok (.iload_n 1, 1) := by decide +kernel
theorem dX9_daysUntilThaw_21 : decode cX9_daysUntilThaw 21 = .ok (.bipush 7, 2) := by decide +kernel
theorem dX9_daysUntilThaw_23 : decode cX9_daysUntilThaw 23 = .ok (.invokevirtual 58, 3) := by decide +kernel
theorem dX9_daysUntilThaw_26 : decode cX9_daysUntilThaw 26 = .ok (.ifCond .le 13, 3) := by decide +kernel
theorem dX9_daysUntilThaw_29 : decode cX9_daysUntilThaw 29 = .ok (.aload_n 0, 1) := by decide +kernel
theorem dX9_daysUntilThaw_30 : decode cX9_daysUntilThaw 30 = .ok (.iload_n 1, 1) := by decide +kernel
theorem dX9_daysUntilThaw_31 : decode cX9_daysUntilThaw 31 = .ok (.bipush 7, 2) := by decide +kernel
theorem dX9_daysUntilThaw_33 : decode cX9_daysUntilThaw 33 = .ok (.invokevirtual 58, 3) := by decide +kernel
theorem dX9_daysUntilThaw_36 : decode cX9_daysUntilThaw 36 = .ok (.goto 8, 3) := by decide +kernel
theorem dX9_daysUntilThaw_39 : decode cX9_daysUntilThaw 39 = .ok (.aload_n 0, 1) := by decide +kernel
theorem dX9_daysUntilThaw_40 : decode cX9_daysUntilThaw 40 = .ok (.iconst 2, 1) := by decide +kernel
theorem dX9_daysUntilThaw_41 : decode cX9_daysUntilThaw 41 = .ok (.invokevirtual 76, 3) := by decide +kernel
theorem dX9_daysUntilThaw_44 : decode cX9_daysUntilThaw 44 = .ok (.ireturn, 1) := by decide +kernel
theorem dX9_value_0 : decode cX9_value 0 = .ok (.aload_n 0, 1) := by decide +kernel
theorem dX9_value_1 : decode cX9_value 1 = .ok (.iconst 0, 1) := by decide +kernel
theorem dX9_value_2 : decode cX9_value 2 = .ok (.putfield 1, 3) := by decide +kernel
theorem dX9_value_5 : decode cX9_value 5 = .ok (.aload_n 0, 1) := by decide +kernel
theorem dX9_value_6 : decode cX9_value 6 = .ok (.iload_n 1, 1) := by decide +kernel
theorem dX9_value_7 : decode cX9_value 7 = .ok (.invokevirtual 85, 3) := by decide +kernel
theorem dX9_value_10 : decode cX9_value 10 = .ok (.ifCond .eq 11, 3) := by decide +kernel
theorem dX9_value_13 : decode cX9_value 13 = .ok (.aload_n 0, 1) := by decide +kernel
theorem dX9_value_14 : decode cX9_value 14 = .ok (.iload_n 1, 1) := by decide +kernel
theorem dX9_value_15 : decode cX9_value 15 = .ok (.invokevirtual 62, 3) := by decide +kernel
theorem dX9_value_18 : decode cX9_value 18 = .ok (.goto 8, 3) := by decide +kernel
theorem dX9_value_21 : decode cX9_value 21 = .ok (.aload_n 0, 1) := by decide +kernel
theorem dX9_value_22 : decode cX9_value 22 = .ok (.iconst 1, 1) := by decide +kernel
theorem dX9_value_23 : decode cX9_value 23 = .ok (.invokevirtual 76, 3) := by decide +kernel
theorem dX9_value_26 : decode cX9_value 26 = .ok (.ireturn, 1) := by decide +kernel
theorem dX9_reserve_0 : decode cX9_reserve 0 = .ok (.aload_n 0, 1) := by decide +kernel
theorem dX9_reserve_1 : decode cX9_reserve 1 = .ok (.iconst 0, 1) := by decide +kernel
theorem dX9_reserve_2 : decode cX9_reserve 2 = .ok (.putfield 1, 3) := by decide +kernel
theorem dX9_reserve_5 : decode cX9_reserve 5 = .ok (.aload_n 0, 1) := by decide +kernel
theorem dX9_reserve_6 : decode cX9_reserve 6 = .ok (.iload_n 1, 1) := by decide +kernel
theorem dX9_reserve_7 : decode cX9_reserve 7 = .ok (.invokevirtual 85, 3) := by decide +kernel
theorem dX9_reserve_10 : decode cX9_reserve 10 = .ok (.ifCond .eq 11, 3) := by decide +kernel
theorem dX9_reserve_13 : decode cX9_reserve 13 = .ok (.aload_n 0, 1) := by decide +kernel
theorem dX9_reserve_14 : decode cX9_reserve 14 = .ok (.iload_n 1, 1) := by decide +kernel
theorem dX9_reserve_15 : decode cX9_reserve 15 = .ok (.invokevirtual 66, 3) := by decide +kernel
theorem dX9_reserve_18 : decode cX9_reserve 18 = .ok (.goto 8, 3) := by decide +kernel
theorem dX9_reserve_21 : decode cX9_reserve 21 = .ok (.aload_n 0, 1) := by decide +kernel
theorem dX9_reserve_22 : decode cX9_reserve 22 = .ok (.iconst 1, 1) := by decide +kernel
theorem dX9_reserve_23 : decode cX9_reserve 23 = .ok (.invokevirtual 76, 3) := by decide +kernel
theorem dX9_reserve_26 : decode cX9_reserve 26 = .ok (.ireturn, 1) := by decide +kernel
theorem dX9_isSound_0 : decode cX9_isSound 0 = .ok (.aload_n 0, 1) := by decide +kernel
theorem dX9_isSound_1 : decode cX9_isSound 1 = .ok (.iconst 0, 1) := by decide +kernel
theorem dX9_isSound_2 : decode cX9_isSound 2 = .ok (.putfield 1, 3) := by decide +kernel
theorem dX9_isSound_5 : decode cX9_isSound 5 = .ok (.aload_n 0, 1) := by decide +kernel
theorem dX9_isSound_6 : decode cX9_isSound 6 = .ok (.iload_n 1, 1) := by decide +kernel
theorem dX9_isSound_7 : decode cX9_isSound 7 = .ok (.invokevirtual 85, 3) := by decide +kernel
theorem dX9_isSound_10 : decode cX9_isSound 10 = .ok (.ifCond .ne 17, 3) := by decide +kernel
theorem dX9_isSound_13 : decode cX9_isSound 13 = .ok (.aload_n 0, 1) := by decide +kernel
theorem dX9_isSound_14 : decode cX9_isSound 14 = .ok (.iconst 1, 1) := by decide +kernel
theorem dX9_isSound_15 : decode cX9_isSound 15 = .ok (.invokevirtual 76, 3) := by decide +kernel
theorem dX9_isSound_18 : decode cX9_isSound 18 = .ok (.ifCond .le 7, 3) := by decide +kernel
theorem dX9_isSound_21 : decode cX9_isSound 21 = .ok (.iconst 1, 1) := by decide +kernel
theorem dX9_isSound_22 : decode cX9_isSound 22 = .ok (.goto 4, 3) := by decide +kernel
theorem dX9_isSound_25 : decode cX9_isSound 25 = .ok (.iconst 0, 1) := by decide +kernel
theorem dX9_isSound_26 : decode cX9_isSound 26 = .ok (.ireturn, 1) := by decide +kernel
theorem dX9_isSound_27 : decode cX9_isSound 27 = .ok (.aload_n 0, 1) := by decide +kernel
theorem dX9_isSound_28 : decode cX9_isSound 28 = .ok (.iload_n 1, 1) := by decide +kernel
theorem dX9_isSound_29 : decode cX9_isSound 29 = .ok (.invokevirtual 102, 3) := by decide +kernel
theorem dX9_isSound_32 : decode cX9_isSound 32 = .ok (.ifCond .lt 7, 3) := by decide +kernel
theorem dX9_isSound_35 : decode cX9_isSound 35 = .ok (.iconst 1, 1) := by decide +kernel
theorem dX9_isSound_36 : decode cX9_isSound 36 = .ok (.goto 4, 3) := by decide +kernel
theorem dX9_isSound_39 : decode cX9_isSound 39 = .ok (.iconst 0, 1) := by decide +kernel
theorem dX9_isSound_40 : decode cX9_isSound 40 = .ok (.ireturn, 1) := by decide +kernel
theorem dX9_mintable_0 : decode cX9_mintable 0 = .ok (.aload_n 0, 1) := by decide +kernel
theorem dX9_mintable_1 : decode cX9_mintable 1 = .ok (.iconst 0, 1) := by decide +kernel
theorem dX9_mintable_2 : decode cX9_mintable 2 = .ok (.putfield 1, 3) := by decide +kernel
theorem dX9_mintable_5 : decode cX9_mintable 5 = .ok (.aload_n 0, 1) := by decide +kernel
theorem dX9_mintable_6 : decode cX9_mintable 6 = .ok (.iload_n 1, 1) := by decide +kernel
theorem dX9_mintable_7 : decode cX9_mintable 7 = .ok (.invokevirtual 85, 3) := by decide +kernel
theorem dX9_mintable_10 : decode cX9_mintable 10 = .ok (.ifCond .ne 9, 3) := by decide +kernel
theorem dX9_mintable_13 : decode cX9_mintable 13 = .ok (.aload_n 0, 1) := by decide +kernel
theorem dX9_mintable_14 : decode cX9_mintable 14 = .ok (.iconst 1, 1) := by decide +kernel
theorem dX9_mintable_15 : decode cX9_mintable 15 = .ok (.invokevirtual 76, 3) := by decide +kernel
theorem dX9_mintable_18 : decode cX9_mintable 18 = .ok (.ireturn, 1) := by decide +kernel
theorem dX9_mintable_19 : decode cX9_mintable 19 = .ok (.aload_n 0, 1) := by decide +kernel
theorem dX9_mintable_20 : decode cX9_mintable 20 = .ok (.iload_n 1, 1) := by decide +kernel
theorem dX9_mintable_21 : decode cX9_mintable 21 = .ok (.invokevirtual 102, 3) := by decide +kernel
theorem dX9_mintable_24 : decode cX9_mintable 24 = .ok (.ifCond .le 11, 3) := by decide +kernel
theorem dX9_mintable_27 : decode cX9_mintable 27 = .ok (.aload_n 0, 1) := by decide +kernel
theorem dX9_mintable_28 : decode cX9_mintable 28 = .ok (.iload_n 1, 1) := by decide +kernel
theorem dX9_mintable_29 : decode cX9_mintable 29 = .ok (.invokevirtual 102, 3) := by decide +kernel
theorem dX9_mintable_32 : decode cX9_mintable 32 = .ok (.goto 4, 3) := by decide +kernel
theorem dX9_mintable_35 : decode cX9_mintable 35 = .ok (.iconst 0, 1) := by decide +kernel
theorem dX9_mintable_36 : decode cX9_mintable 36 = .ok (.ireturn, 1) := by decide +kernel
theorem dX9_daysUntilSound_0 : decode cX9_daysUntilSound 0 = .ok (.aload_n 0, 1) := by decide +kernel
theorem dX9_daysUntilSound_1 : decode cX9_daysUntilSound 1 = .ok (.iconst 0, 1) := by decide +kernel
theorem dX9_daysUntilSound_2 : decode cX9_daysUntilSound 2 = .ok (.putfield 1, 3) := by decide +kernel
theorem dX9_daysUntilSound_5 : decode cX9_daysUntilSound 5 = .ok (.aload_n 0, 1) := by decide +kernel
theorem dX9_daysUntilSound_6 : decode cX9_daysUntilSound 6 = .ok (.iload_n 1, 1) := by decide +kernel
theorem dX9_daysUntilSound_7 : decode cX9_daysUntilSound 7 = .ok (.invokevirtual 85, 3) := by decide +kernel
theorem dX9_daysUntilSound_10 : decode cX9_daysUntilSound 10 = .ok (.ifCond .ne 9, 3) := by decide +kernel
theorem dX9_daysUntilSound_13 : decode cX9_daysUntilSound 13 = .ok (.aload_n 0, 1) := by decide +kernel
theorem dX9_daysUntilSound_14 : decode cX9_daysUntilSound 14 = .ok (.iconst 1, 1) := by decide +kernel
theorem dX9_daysUntilSound_15 : decode cX9_daysUntilSound 15 = .ok (.invokevirtual 76, 3) := by decide +kernel
theorem dX9_daysUntilSound_18 : decode cX9_daysUntilSound 18 = .ok (.ireturn, 1) := by decide +kernel
theorem dX9_daysUntilSound_19 : decode cX9_daysUntilSound 19 = .ok (.aload_n 0, 1) := by decide +kernel
theorem dX9_daysUntilSound_20 : decode cX9_daysUntilSound 20 = .ok (.iload_n 1, 1) := by decide +kernel
theorem dX9_daysUntilSound_21 : decode cX9_daysUntilSound 21 = .ok (.invokevirtual 102, 3) := by decide +kernel
theorem dX9_daysUntilSound_24 : decode cX9_daysUntilSound 24 = .ok (.ifCond .ge 12, 3) := by decide +kernel
theorem dX9_daysUntilSound_27 : decode cX9_daysUntilSound 27 = .ok (.aload_n 0, 1) := by decide +kernel
theorem dX9_daysUntilSound_28 : decode cX9_daysUntilSound 28 = .ok (.iload_n 1, 1) := by decide +kernel
theorem dX9_daysUntilSound_29 : decode cX9_daysUntilSound 29 = .ok (.invokevirtual 102, 3) := by decide +kernel
theorem dX9_daysUntilSound_32 : decode cX9_daysUntilSound 32 = .ok (.ineg, 1) := by decide +kernel
theorem dX9_daysUntilSound_33 : decode cX9_daysUntilSound 33 = .ok (.goto 4, 3) := by decide +kernel
theorem dX9_daysUntilSound_36 : decode cX9_daysUntilSound 36 = .ok (.iconst 0, 1) := by decide +kernel
theorem dX9_daysUntilSound_37 : decode cX9_daysUntilSound 37 = .ok (.ireturn, 1) := by decide +kernel
theorem dX9_daysUntilSoundByCounting_0 : decode cX9_daysUntilSoundByCounting 0 = .ok (.aload_n 0, 1) := by decide +kernel
theorem dX9_daysUntilSoundByCounting_1 : decode cX9_daysUntilSoundByCounting 1 = .ok (.iload_n 1, 1) := by decide +kernel
theorem dX9_daysUntilSoundByCounting_2 : decode cX9_daysUntilSoundByCounting 2 = .ok (.invokevirtual 170, 3) := by decide +kernel
theorem dX9_daysUntilSoundByCounting_5 : decode cX9_daysUntilSoundByCounting 5 = .ok (.ireturn, 1) := by decide +kernel
theorem dX9_mostFlies_0 : decode cX9_mostFlies 0 = .ok (.aload_n 0, 1) := by decide +kernel
theorem dX9_mostFlies_1 : decode cX9_mostFlies 1 = .ok (.iconst 0, 1) := by decide +kernel
theorem dX9_mostFlies_2 : decode cX9_mostFlies 2 = .ok (.putfield 1, 3) := by decide +kernel
theorem dX9_mostFlies_5 : decode cX9_mostFlies 5 = .ok (.aload_n 0, 1) := by decide +kernel
theorem dX9_mostFlies_6 : decode cX9_mostFlies 6 = .ok (.iload_n 1, 1) := by decide +kernel
theorem dX9_mostFlies_7 : decode cX9_mostFlies 7 = .ok (.invokevirtual 85, 3) := by decide +kernel
theorem dX9_mostFlies_10 : decode cX9_mostFlies 10 = .ok (.ifCond .ne 9, 3) := by decide +kernel
theorem dX9_mostFlies_13 : decode cX9_mostFlies 13 = .ok (.aload_n 0, 1) := by decide +kernel
theorem dX9_mostFlies_14 : decode cX9_mostFlies 14 = .ok (.iconst 1, 1) := by decide +kernel
theorem dX9_mostFlies_15 : decode cX9_mostFlies 15 = .ok (.invokevirtual 76, 3) := by decide +kernel
theorem dX9_mostFlies_18 : decode cX9_mostFlies 18 = .ok (.ireturn, 1) := by decide +kernel
theorem dX9_mostFlies_19 : decode cX9_mostFlies 19 = .ok (.iload_n 2, 1) := by decide +kernel
theorem dX9_mostFlies_20 : decode cX9_mostFlies 20 = .ok (.invokestatic 89, 3) := by decide +kernel
theorem dX9_mostFlies_23 : decode cX9_mostFlies 23 = .ok (.ifCond .ge 11, 3) := by decide +kernel
theorem dX9_mostFlies_26 : decode cX9_mostFlies 26 = .ok (.aload_n 0, 1) := by decide +kernel
theorem dX9_mostFlies_27 : decode cX9_mostFlies 27 = .ok (.iconst 2, 1) := by decide +kernel
theorem dX9_mostFlies_28 : decode cX9_mostFlies 28 = .ok (.invokevirtual 76, 3) := by decide +kernel
theorem dX9_mostFlies_31 : decode cX9_mostFlies 31 = .ok (.goto 20, 3) := by decide +kernel
theorem dX9_mostFlies_34 : decode cX9_mostFlies 34 = .ok (.aload_n 0, 1) := by decide +kernel
theorem dX9_mostFlies_35 : decode cX9_mostFlies 35 = .ok (.iload_n 1, 1) := by decide +kernel
theorem dX9_mostFlies_36 : decode cX9_mostFlies 36 = .ok (.invokevirtual 62, 3) := by decide +kernel
theorem dX9_mostFlies_39 : decode cX9_mostFlies 39 = .ok (.aload_n 0, 1) := by decide +kernel
theorem dX9_mostFlies_40 : decode cX9_mostFlies 40 = .ok (.getfield 13, 3) := by decide +kernel
theorem dX9_mostFlies_43 : decode cX9_mostFlies 43 = .ok (.iconst 2, 1) := by decide +kernel
theorem dX9_mostFlies_44 : decode cX9_mostFlies 44 = .ok (.iload_n 2, 1) := by decide +kernel
theorem dX9_mostFlies_45 : decode cX9_mostFlies 45 = .ok (.invokestatic 89, 3) := by decide +kernel
theorem dX9_mostFlies_48 : decode cX9_mostFlies 48 = .ok (.iadd, 1) := by decide +kernel
theorem dX9_mostFlies_49 : decode cX9_mostFlies 49 = .ok (.iaload, 1) := by decide +kernel
theorem dX9_mostFlies_50 : decode cX9_mostFlies 50 = .ok (.idiv, 1) := by decide +kernel
theorem dX9_mostFlies_51 : decode cX9_mostFlies 51 = .ok (.ireturn, 1) := by decide +kernel
theorem dX9_mostFliesByExchanges_0 : decode cX9_mostFliesByExchanges 0 = .ok (.aload_n 0, 1) := by decide +kernel
theorem dX9_mostFliesByExchanges_1 : decode cX9_mostFliesByExchanges 1 = .ok (.iload_n 1, 1) := by decide +kernel
theorem dX9_mostFliesByExchanges_2 : decode cX9_mostFliesByExchanges 2 = .ok (.iload_n 2, 1) := by decide +kernel
theorem dX9_mostFliesByExchanges_3 : decode cX9_mostFliesByExchanges 3 = .ok (.invokevirtual 173, 3) := by decide +kernel
theorem dX9_mostFliesByExchanges_6 : decode cX9_mostFliesByExchanges 6 = .ok (.ireturn, 1) := by decide +kernel
theorem dX9_rate_0 : decode cX9_rate 0 = .ok (.aload_n 0, 1) := by decide +kernel
theorem dX9_rate_1 : decode cX9_rate 1 = .ok (.iconst 0, 1) := by decide +kernel
theorem dX9_rate_2 : decode cX9_rate 2 = .ok (.putfield 1, 3) := by decide +kernel
theorem dX9_rate_5 : decode cX9_rate 5 = .ok (.iload_n 1, 1) := by decide +kernel
theorem dX9_rate_6 : decode cX9_rate 6 = .ok (.invokestatic 89, 3) := by decide +kernel
theorem dX9_rate_9 : decode cX9_rate 9 = .ok (.ifCond .ge 11, 3) := by decide +kernel
theorem dX9_rate_12 : decode cX9_rate 12 = .ok (.aload_n 0, 1) := by decide +kernel
theorem dX9_rate_13 : decode cX9_rate 13 = .ok (.iconst 1, 1) := by decide +kernel
theorem dX9_rate_14 : decode cX9_rate 14 = .ok (.invokevirtual 76, 3) := by decide +kernel
theorem dX9_rate_17 : decode cX9_rate 17 = .ok (.goto 14, 3) := by decide +kernel
theorem dX9_rate_20 : decode cX9_rate 20 = .ok (.aload_n 0, 1) := by decide +kernel
theorem dX9_rate_21 : decode cX9_rate 21 = .ok (.getfield 13, 3) := by decide +kernel
theorem dX9_rate_24 : decode cX9_rate 24 = .ok (.iconst 2, 1) := by decide +kernel
theorem dX9_rate_25 : decode cX9_rate 25 = .ok (.iload_n 1, 1) := by decide +kernel
theorem dX9_rate_26 : decode cX9_rate 26 = .ok (.invokestatic 89, 3) := by decide +kernel
theorem dX9_rate_29 : decode cX9_rate 29 = .ok (.iadd, 1) := by decide +kernel
theorem dX9_rate_30 : decode cX9_rate 30 = .ok (.iaload, 1) := by decide +kernel
theorem dX9_rate_31 : decode cX9_rate 31 = .ok (.ireturn, 1) := by decide +kernel
theorem dX9_fliesOf_0 : decode cX9_fliesOf 0 = .ok (.iconst 0, 1) := by decide +kernel
theorem dX9_fliesOf_1 : decode cX9_fliesOf 1 = .ok (.istore_n 2, 1) := by decide +kernel
theorem dX9_fliesOf_2 : decode cX9_fliesOf 2 = .ok (.iconst 0, 1) := by decide +kernel
theorem dX9_fliesOf_3 : decode cX9_fliesOf 3 = .ok (.istore_n 3, 1) := by decide +kernel
theorem dX9_fliesOf_4 : decode cX9_fliesOf 4 = .ok (.iload_n 3, 1) := by decide +kernel
theorem dX9_fliesOf_5 : decode cX9_fliesOf 5 = .ok (.aload_n 0, 1) := by decide +kernel
theorem dX9_fliesOf_6 : decode cX9_fliesOf 6 = .ok (.getfield 13, 3) := by decide +kernel
theorem dX9_fliesOf_9 : decode cX9_fliesOf 9 = .ok (.iconst 0, 1) := by decide +kernel
theorem dX9_fliesOf_10 : decode cX9_fliesOf 10 = .ok (.iaload, 1) := by decide +kernel
theorem dX9_fliesOf_11 : decode cX9_fliesOf 11 = .ok (.if_icmp .ge 18, 3) := by decide +kernel
theorem dX9_fliesOf_14 : decode cX9_fliesOf 14 = .ok (.iload_n 2, 1) := by decide +kernel
theorem dX9_fliesOf_15 : decode cX9_fliesOf 15 = .ok (.aload_n 0, 1) := by decide +kernel
theorem dX9_fliesOf_16 : decode cX9_fliesOf 16 = .ok (.iload_n 3, 1) := by decide +kernel
theorem dX9_fliesOf_17 : decode cX9_fliesOf 17 = .ok (.iload_n 1, 1) := by decide +kernel
theorem dX9_fliesOf_18 : decode cX9_fliesOf 18 = .ok (.invokevirtual 58, 3) := by decide +kernel
theorem dX9_fliesOf_21 : decode cX9_fliesOf 21 = .ok (.iadd, 1) := by decide +kernel
theorem dX9_fliesOf_22 : decode cX9_fliesOf 22 = .ok (.istore_n 2, 1) := by decide +kernel
theorem dX9_fliesOf_23 : decode cX9_fliesOf 23 = .ok (.iinc 3 1, 3) := by decide +kernel
theorem dX9_fliesOf_26 : decode cX9_fliesOf 26 = .ok (.goto (-22), 3) := by decide +kernel
theorem dX9_fliesOf_29 : decode cX9_fliesOf 29 = .ok (.iload_n 2, 1) := by decide +kernel
theorem dX9_fliesOf_30 : decode cX9_fliesOf 30 = .ok (.ireturn, 1) := by decide +kernel
theorem dX9_totalFlies_0 : decode cX9_totalFlies 0 = .ok (.aload_n 0, 1) := by decide +kernel
theorem dX9_totalFlies_1 : decode cX9_totalFlies 1 = .ok (.iconst 0, 1) := by decide +kernel
theorem dX9_totalFlies_2 : decode cX9_totalFlies 2 = .ok (.putfield 1, 3) := by decide +kernel
theorem dX9_totalFlies_5 : decode cX9_totalFlies 5 = .ok (.iload_n 1, 1) := by decide +kernel
theorem dX9_totalFlies_6 : decode cX9_totalFlies 6 = .ok (.invokestatic 89, 3) := by decide +kernel
theorem dX9_totalFlies_9 : decode cX9_totalFlies 9 = .ok (.ifCond .ge 11, 3) := by decide +kernel
theorem dX9_totalFlies_12 : decode cX9_totalFlies 12 = .ok (.aload_n 0, 1) := by decide +kernel
theorem dX9_totalFlies_13 : decode cX9_totalFlies 13 = .ok (.iconst 1, 1) := by decide +kernel
theorem dX9_totalFlies_14 : decode cX9_totalFlies 14 = .ok (.invokevirtual 76, 3) := by decide +kernel
theorem dX9_totalFlies_17 : decode cX9_totalFlies 17 = .ok (.goto 11, 3) := by decide +kernel
theorem dX9_totalFlies_20 : decode cX9_totalFlies 20 = .ok (.aload_n 0, 1) := by decide +kernel
theorem dX9_totalFlies_21 : decode cX9_totalFlies 21 = .ok (.iload_n 1, 1) := by decide +kernel
theorem dX9_totalFlies_22 : decode cX9_totalFlies 22 = .ok (.invokestatic 89, 3) := by decide +kernel
theorem dX9_totalFlies_25 : decode cX9_totalFlies 25 = .ok (.invokevirtual 177, 3) := by decide +kernel
theorem dX9_totalFlies_28 : decode cX9_totalFlies 28 = .ok (.ireturn, 1) := by decide +kernel
theorem dX9_totalFliesByAccounts_0 : decode cX9_totalFliesByAccounts 0 = .ok (.aload_n 0, 1) := by decide +kernel
theorem dX9_totalFliesByAccounts_1 : decode cX9_totalFliesByAccounts 1 = .ok (.iconst 0, 1) := by decide +kernel
theorem dX9_totalFliesByAccounts_2 : decode cX9_totalFliesByAccounts 2 = .ok (.putfield 1, 3) := by decide +kernel
theorem dX9_totalFliesByAccounts_5 : decode cX9_totalFliesByAccounts 5 = .ok (.iload_n 1, 1) := by decide +kernel
theorem dX9_totalFliesByAccounts_6 : decode cX9_totalFliesByAccounts 6 = .ok (.invokestatic 89, 3) := by decide +kernel
theorem dX9_totalFliesByAccounts_9 : decode cX9_totalFliesByAccounts 9 = .ok (.ifCond .ge 11, 3) := by decide +kernel
theorem dX9_totalFliesByAccounts_12 : decode cX9_totalFliesByAccounts 12 = .ok (.aload_n 0, 1) := by decide +kernel
theorem dX9_totalFliesByAccounts_13 : decode cX9_totalFliesByAccounts 13 = .ok (.iconst 1, 1) := by decide +kernel
theorem dX9_totalFliesByAccounts_14 : decode cX9_totalFliesByAccounts 14 = .ok (.invokevirtual 76, 3) := by decide +kernel
theorem dX9_totalFliesByAccounts_17 : decode cX9_totalFliesByAccounts 17 = .ok (.goto 27, 3) := by decide +kernel
theorem dX9_totalFliesByAccounts_20 : decode cX9_totalFliesByAccounts 20 = .ok (.aload_n 0, 1) := by decide +kernel
theorem dX9_totalFliesByAccounts_21 : decode cX9_totalFliesByAccounts 21 = .ok (.getfield 13, 3) := by decide +kernel
theorem dX9_totalFliesByAccounts_24 : decode cX9_totalFliesByAccounts 24 = .ok (.iconst 5, 1) := by decide +kernel
theorem dX9_totalFliesByAccounts_25 : decode cX9_totalFliesByAccounts 25 = .ok (.iload_n 1, 1) := by decide +kernel
theorem dX9_totalFliesByAccounts_26 : decode cX9_totalFliesByAccounts 26 = .ok (.invokestatic 89, 3) := by decide +kernel
theorem dX9_totalFliesByAccounts_29 : decode cX9_totalFliesByAccounts 29 = .ok (.iadd, 1) := by decide +kernel
theorem dX9_totalFliesByAccounts_30 : decode cX9_totalFliesByAccounts 30 = .ok (.iaload, 1) := by decide +kernel
theorem dX9_totalFliesByAccounts_31 : decode cX9_totalFliesByAccounts 31 = .ok (.aload_n 0, 1) := by decide +kernel
theorem dX9_totalFliesByAccounts_32 : decode cX9_totalFliesByAccounts 32 = .ok (.getfield 13, 3) := by decide +kernel
theorem dX9_totalFliesByAccounts_35 : decode cX9_totalFliesByAccounts 35 = .ok (.bipush 8, 2) := by decide +kernel
theorem dX9_totalFliesByAccounts_37 : decode cX9_totalFliesByAccounts 37 = .ok (.iload_n 1, 1) := by decide +kernel
theorem dX9_totalFliesByAccounts_38 : decode cX9_totalFliesByAccounts 38 = .ok (.invokestatic 89, 3) := by decide +kernel
theorem dX9_totalFliesByAccounts_41 : decode cX9_totalFliesByAccounts 41 = .ok (.iadd, 1) := by decide +kernel
theorem dX9_totalFliesByAccounts_42 : decode cX9_totalFliesByAccounts 42 = .ok (.iaload, 1) := by decide +kernel
theorem dX9_totalFliesByAccounts_43 : decode cX9_totalFliesByAccounts 43 = .ok (.isub, 1) := by decide +kernel
theorem dX9_totalFliesByAccounts_44 : decode cX9_totalFliesByAccounts 44 = .ok (.ireturn, 1) := by decide +kernel
theorem dX9_valueAll_0 : decode cX9_valueAll 0 = .ok (.iconst 0, 1) := by decide +kernel
theorem dX9_valueAll_1 : decode cX9_valueAll 1 = .ok (.istore_n 1, 1) := by decide +kernel
theorem dX9_valueAll_2 : decode cX9_valueAll 2 = .ok (.iconst 0, 1) := by decide +kernel
theorem dX9_valueAll_3 : decode cX9_valueAll 3 = .ok (.istore_n 2, 1) := by decide +kernel
theorem dX9_valueAll_4 : decode cX9_valueAll 4 = .ok (.iload_n 2, 1) := by decide +kernel
theorem dX9_valueAll_5 : decode cX9_valueAll 5 = .ok (.aload_n 0, 1) := by decide +kernel
theorem dX9_valueAll_6 : decode cX9_valueAll 6 = .ok (.getfield 13, 3) := by decide +kernel
theorem dX9_valueAll_9 : decode cX9_valueAll 9 = .ok (.iconst 0, 1) := by decide +kernel
theorem dX9_valueAll_10 : decode cX9_valueAll 10 = .ok (.iaload, 1) := by decide +kernel
theorem dX9_valueAll_11 : decode cX9_valueAll 11 = .ok (.if_icmp .ge 17, 3) := by decide +kernel
theorem dX9_valueAll_14 : decode cX9_valueAll 14 = .ok (.iload_n 1, 1) := by decide +kernel
theorem dX9_valueAll_15 : decode cX9_valueAll 15 = .ok (.aload_n 0, 1) := by decide +kernel
theorem dX9_valueAll_16 : decode cX9_valueAll 16 = .ok (.iload_n 2, 1) := by decide +kernel
theorem dX9_valueAll_17 : decode cX9_valueAll 17 = .ok (.invokevirtual 62, 3) := by decide +kernel
theorem dX9_valueAll_20 : decode cX9_valueAll 20 = .ok (.iadd, 1) := by decide +kernel
theorem dX9_valueAll_21 : decode cX9_valueAll 21 = .ok (.istore_n 1, 1) := by decide +kernel
theorem dX9_valueAll_22 : decode cX9_valueAll 22 = .ok (.iinc 2 1, 3) := by decide +kernel
theorem dX9_valueAll_25 : decode cX9_valueAll 25 = .ok (.goto (-21), 3) := by decide +kernel
theorem dX9_valueAll_28 : decode cX9_valueAll 28 = .ok (.iload_n 1, 1) := by decide +kernel
theorem dX9_valueAll_29 : decode cX9_valueAll 29 = .ok (.ireturn, 1) := by decide +kernel
theorem dX9_totalValue_0 : decode cX9_totalValue 0 = .ok (.aload_n 0, 1) := by decide +kernel
theorem dX9_totalValue_1 : decode cX9_totalValue 1 = .ok (.iconst 0, 1) := by decide +kernel
theorem dX9_totalValue_2 : decode cX9_totalValue 2 = .ok (.putfield 1, 3) := by decide +kernel
theorem dX9_totalValue_5 : decode cX9_totalValue 5 = .ok (.aload_n 0, 1) := by decide +kernel
theorem dX9_totalValue_6 : decode cX9_totalValue 6 = .ok (.invokevirtual 180, 3) := by decide +kernel
theorem dX9_totalValue_9 : decode cX9_totalValue 9 = .ok (.ireturn, 1) := by decide +kernel
theorem dX9_totalValueByKinds_0 : decode cX9_totalValueByKinds 0 = .ok (.aload_n 0, 1) := by decide +kernel
theorem dX9_totalValueByKinds_1 : decode cX9_totalValueByKinds 1 = .ok (.invokevirtual 183, 3) := by decide +kernel
theorem dX9_totalValueByKinds_4 : decode cX9_totalValueByKinds 4 = .ok (.ireturn, 1) := by decide +kernel
theorem dX9_isAhead_0 : decode cX9_isAhead 0 = .ok (.aload_n 0, 1) := by decide +kernel
theorem dX9_isAhead_1 : decode cX9_isAhead 1 = .ok (.iload_n 1, 1) := by decide +kernel
theorem dX9_isAhead_2 : decode cX9_isAhead 2 = .ok (.invokevirtual 62, 3) := by decide +kernel
theorem dX9_isAhead_5 : decode cX9_isAhead 5 = .ok (.aload_n 0, 1) := by decide +kernel
theorem dX9_isAhead_6 : decode cX9_isAhead 6 = .ok (.iload_n 2, 1) := by decide +kernel
theorem dX9_isAhead_7 : decode cX9_isAhead 7 = .ok (.invokevirtual 62, 3) := by decide +kernel
theorem dX9_isAhead_10 : decode cX9_isAhead 10 = .ok (.isub, 1) := by decide +kernel
theorem dX9_isAhead_11 : decode cX9_isAhead 11 = .ok (.istore_n 3, 1) := by decide +kernel
theorem dX9_isAhead_12 : decode cX9_isAhead 12 = .ok (.aload_n 0, 1) := by decide +kernel
theorem dX9_isAhead_13 : decode cX9_isAhead 13 = .ok (.iload_n 2, 1) := by decide +kernel
theorem dX9_isAhead_14 : decode cX9_isAhead 14 = .ok (.iconst 4, 1) := by decide +kernel
theorem dX9_isAhead_15 : decode cX9_isAhead 15 = .ok (.invokevirtual 58, 3) := by decide +kernel
theorem dX9_isAhead_18 : decode cX9_isAhead 18 = .ok (.aload_n 0, 1) := by decide +kernel
theorem dX9_isAhead_19 : decode cX9_isAhead 19 = .ok (.iload_n 1, 1) := by decide +kernel
theorem dX9_isAhead_20 : decode cX9_isAhead 20 = .ok (.iconst 4, 1) := by decide +kernel
theorem dX9_isAhead_21 : decode cX9_isAhead 21 = .ok (.invokevirtual 58, 3) := by decide +kernel
theorem dX9_isAhead_24 : decode cX9_isAhead 24 = .ok (.isub, 1) := by decide +kernel
theorem dX9_isAhead_25 : decode cX9_isAhead 25 = .ok (.istore 4, 2) := by decide +kernel
theorem dX9_isAhead_27 : decode cX9_isAhead 27 = .ok (.iload_n 3, 1) := by decide +kernel
theorem dX9_isAhead_28 : decode cX9_isAhead 28 = .ok (.ifCond .eq 13, 3) := by decide +kernel
theorem dX9_isAhead_31 : decode cX9_isAhead 31 = .ok (.iload_n 3, 1) := by decide +kernel
theorem dX9_isAhead_32 : decode cX9_isAhead 32 = .ok (.ifCond .le 7, 3) := by decide +kernel
theorem dX9_isAhead_35 : decode cX9_isAhead 35 = .ok (.iconst 1, 1) := by decide +kernel
theorem dX9_isAhead_36 : decode cX9_isAhead 36 = .ok (.goto 4, 3) := by decide +kernel
theorem dX9_isAhead_39 : decode cX9_isAhead 39 = .ok (.iconst 0, 1) := by decide +kernel
theorem dX9_isAhead_40 : decode cX9_isAhead 40 = .ok (.ireturn, 1) := by decide +kernel
theorem dX9_isAhead_41 : decode cX9_isAhead 41 = .ok (.iload 4, 2) := by decide +kernel
theorem dX9_isAhead_43 : decode cX9_isAhead 43 = .ok (.ifCond .eq 16, 3) := by decide +kernel
theorem dX9_isAhead_46 : decode cX9_isAhead 46 = .ok (.iload 4, 2) := by decide +kernel
theorem dX9_isAhead_48 : decode cX9_isAhead 48 = .ok (.ifCond .le 7, 3) := by decide +kernel
theorem dX9_isAhead_51 : decode cX9_isAhead 51 = .ok (.iconst 1, 1) := by decide +kernel
theorem dX9_isAhead_52 : decode cX9_isAhead 52 = .ok (.goto 17, 3) := by decide +kernel
theorem dX9_isAhead_55 : decode cX9_isAhead 55 = .ok (.iconst 0, 1) := by decide +kernel
theorem dX9_isAhead_56 : decode cX9_isAhead 56 = .ok (.goto 13, 3) := by decide +kernel
theorem dX9_isAhead_59 : decode cX9_isAhead 59 = .ok (.iload_n 1, 1) := by decide +kernel
theorem dX9_isAhead_60 : decode cX9_isAhead 60 = .ok (.iload_n 2, 1) := by decide +kernel
theorem dX9_isAhead_61 : decode cX9_isAhead 61 = .ok (.if_icmp .ge 7, 3) := by decide +kernel
theorem dX9_isAhead_64 : decode cX9_isAhead 64 = .ok (.iconst 1, 1) := by decide +kernel
theorem dX9_isAhead_65 : decode cX9_isAhead 65 = .ok (.goto 4, 3) := by decide +kernel
theorem dX9_isAhead_68 : decode cX9_isAhead 68 = .ok (.iconst 0, 1) := by decide +kernel
theorem dX9_isAhead_69 : decode cX9_isAhead 69 = .ok (.ireturn, 1) := by decide +kernel
theorem dX9_vaultByValue_0 : decode cX9_vaultByValue 0 = .ok (.aload_n 0, 1) := by decide +kernel
theorem dX9_vaultByValue_1 : decode cX9_vaultByValue 1 = .ok (.iconst 0, 1) := by decide +kernel
theorem dX9_vaultByValue_2 : decode cX9_vaultByValue 2 = .ok (.putfield 1, 3) := by decide +kernel
theorem dX9_vaultByValue_5 : decode cX9_vaultByValue 5 = .ok (.iconst 0, 1) := by decide +kernel
theorem dX9_vaultByValue_6 : decode cX9_vaultByValue 6 = .ok (.istore_n 2, 1) := by decide +kernel
theorem dX9_vaultByValue_7 : decode cX9_vaultByValue 7 = .ok (.iload_n 2, 1) := by decide +kernel
theorem dX9_vaultByValue_8 : decode cX9_vaultByValue 8 = .ok (.aload_n 0, 1) := by decide +kernel
theorem dX9_vaultByValue_9 : decode cX9_vaultByValue 9 = .ok (.getfield 13, 3) := by decide +kernel
theorem dX9_vaultByValue_12 : decode cX9_vaultByValue 12 = .ok (.iconst 0, 1) := by decide +kernel
theorem dX9_vaultByValue_13 : decode cX9_vaultByValue 13 = .ok (.iaload, 1) := by decide +kernel
theorem dX9_vaultByValue_14 : decode cX9_vaultByValue 14 = .ok (.if_icmp .ge 56, 3) := by decide +kernel
theorem dX9_vaultByValue_17 : decode cX9_vaultByValue 17 = .ok (.iconst 0, 1) := by decide +kernel
theorem dX9_vaultByValue_18 : decode cX9_vaultByValue 18 = .ok (.istore_n 3, 1) := by decide +kernel
theorem dX9_vaultByValue_19 : decode cX9_vaultByValue 19 = .ok (.iconst 0, 1) := by decide +kernel
theorem dX9_vaultByValue_20 : decode cX9_vaultByValue 20 = .ok (.istore 4, 2) := by decide +kernel
theorem dX9_vaultByValue_22 : decode cX9_vaultByValue 22 = .ok (.iload 4, 2) := by decide +kernel
theorem dX9_vaultByValue_24 : decode cX9_vaultByValue 24 = .ok (.aload_n 0, 1) := by decide +kernel
theorem dX9_vaultByValue_25 : decode cX9_vaultByValue 25 = .ok (.getfield 13, 3) := by decide +kernel
theorem dX9_vaultByValue_28 : decode cX9_vaultByValue 28 = .ok (.iconst 0, 1) := by decide +kernel
theorem dX9_vaultByValue_29 : decode cX9_vaultByValue 29 = .ok (.iaload, 1) := by decide +kernel
theorem dX9_vaultByValue_30 : decode cX9_vaultByValue 30 = .ok (.if_icmp .ge 27, 3) := by decide +kernel
theorem dX9_vaultByValue_33 : decode cX9_vaultByValue 33 = .ok (.iload_n 3, 1) := by decide +kernel
theorem dX9_vaultByValue_34 : decode cX9_vaultByValue 34 = .ok (.aload_n 0, 1) := by decide +kernel
theorem dX9_vaultByValue_35 : decode cX9_vaultByValue 35 = .ok (.iload 4, 2) := by decide +kernel
theorem dX9_vaultByValue_37 : decode cX9_vaultByValue 37 = .ok (.iload_n 2, 1) := by decide +kernel
theorem dX9_vaultByValue_38 : decode cX9_vaultByValue 38 = .ok (.invokevirtual 186, 3) := by decide +kernel
theorem dX9_vaultByValue_41 : decode cX9_vaultByValue 41 = .ok (.ifCond .eq 7, 3) := by decide +kernel
theorem dX9_vaultByValue_44 : decode cX9_vaultByValue 44 = .ok (.iconst 1, 1) := by decide +kernel
theorem dX9_vaultByValue_45 : decode cX9_vaultByValue 45 = .ok (.goto 4, 3) := by decide +kernel
theorem dX9_vaultByValue_48 : decode cX9_vaultByValue 48 = .ok (.iconst 0, 1) := by decide +kernel
theorem dX9_vaultByValue_49 : decode cX9_vaultByValue 49 = .ok (.iadd, 1) := by decide +kernel
theorem dX9_vaultByValue_50 : decode cX9_vaultByValue 50 = .ok (.istore_n 3, 1) := by decide +kernel
theorem dX9_vaultByValue_51 : decode cX9_vaultByValue 51 = .ok (.iinc 4 1, 3) := by decide +kernel
theorem dX9_vaultByValue_54 : decode cX9_vaultByValue 54 = .ok (.goto (-32), 3) := by decide +kernel
theorem dX9_vaultByValue_57 : decode cX9_vaultByValue 57 = .ok (.iload_n 3, 1) := by decide +kernel
theorem dX9_vaultByValue_58 : decode cX9_vaultByValue 58 = .ok (.iload_n 1, 1) := by decide +kernel
theorem dX9_vaultByValue_59 : decode cX9_vaultByValue 59 = .ok (.if_icmp .ne 5, 3) := by decide +kernel
theorem dX9_vaultByValue_62 : decode cX9_vaultByValue 62 = .ok (.iload_n 2, 1) := by decide +kernel
theorem dX9_vaultByValue_63 : decode cX9_vaultByValue 63 = .ok (.ireturn, 1) := by decide +kernel
theorem dX9_vaultByValue_64 : decode cX9_vaultByValue 64 = .ok (.iinc 2 1, 3) := by decide +kernel
theorem dX9_vaultByValue_67 : decode cX9_vaultByValue 67 = .ok (.goto (-60), 3) := by decide +kernel
theorem dX9_vaultByValue_70 : decode cX9_vaultByValue 70 = .ok (.aload_n 0, 1) := by decide +kernel
theorem dX9_vaultByValue_71 : decode cX9_vaultByValue 71 = .ok (.iconst 1, 1) := by decide +kernel
theorem dX9_vaultByValue_72 : decode cX9_vaultByValue 72 = .ok (.invokevirtual 76, 3) := by decide +kernel
theorem dX9_vaultByValue_75 : decode cX9_vaultByValue 75 = .ok (.ireturn, 1) := by decide +kernel
theorem dX9_kindByValue_0 : decode cX9_kindByValue 0 = .ok (.aload_n 0, 1) := by decide +kernel
theorem dX9_kindByValue_1 : decode cX9_kindByValue 1 = .ok (.iconst 0, 1) := by decide +kernel
theorem dX9_kindByValue_2 : decode cX9_kindByValue 2 = .ok (.putfield 1, 3) := by decide +kernel
theorem dX9_kindByValue_5 : decode cX9_kindByValue 5 = .ok (.iconst 0, 1) := by decide +kernel
theorem dX9_kindByValue_6 : decode cX9_kindByValue 6 = .ok (.istore_n 2, 1) := by decide +kernel
theorem dX9_kindByValue_7 : decode cX9_kindByValue 7 = .ok (.iload_n 2, 1) := by decide +kernel
theorem dX9_kindByValue_8 : decode cX9_kindByValue 8 = .ok (.iconst 3, 1) := by decide +kernel
theorem dX9_kindByValue_9 : decode cX9_kindByValue 9 = .ok (.if_icmp .ge 93, 3) := by decide +kernel
theorem dX9_kindByValue_12 : decode cX9_kindByValue 12 = .ok (.iconst 0, 1) := by decide +kernel
theorem dX9_kindByValue_13 : decode cX9_kindByValue 13 = .ok (.istore_n 3, 1) := by decide +kernel
theorem dX9_kindByValue_14 : decode cX9_kindByValue 14 = .ok (.iconst 0, 1) := by decide +kernel
theorem dX9_kindByValue_15 : decode cX9_kindByValue 15 = .ok (.istore 4, 2) := by decide +kernel
theorem dX9_kindByValue_17 : decode cX9_kindByValue 17 = .ok (.iload 4, 2) := by decide +kernel
theorem dX9_kindByValue_19 : decode cX9_kindByValue 19 = .ok (.iconst 3, 1) := by decide +kernel
theorem dX9_kindByValue_20 : decode cX9_kindByValue 20 = .ok (.if_icmp .ge 66, 3) := by decide +kernel
theorem dX9_kindByValue_23 : decode cX9_kindByValue 23 = .ok (.aload_n 0, 1) := by decide +kernel
theorem dX9_kindByValue_24 : decode cX9_kindByValue 24 = .ok (.iload 4, 2) := by decide +kernel
theorem dX9_kindByValue_26 : decode cX9_kindByValue 26 = .ok (.invokevirtual 177, 3) := by decide +kernel
theorem dX9_kindByValue_29 : decode cX9_kindByValue 29 = .ok (.aload_n 0, 1) := by decide +kernel
theorem dX9_kindByValue_30 : decode cX9_kindByValue 30 = .ok (.getfield 13, 3) := by decide +kernel
theorem dX9_kindByValue_33 : decode cX9_kindByValue 33 = .ok (.iconst 2, 1) := by decide +kernel
theorem dX9_kindByValue_34 : decode cX9_kindByValue 34 = .ok (.iload 4, 2) := by decide +kernel
theorem dX9_kindByValue_36 : decode cX9_kindByValue 36 = .ok (.iadd, 1) := by decide +kernel
theorem dX9_kindByValue_37 : decode cX9_kindByValue 37 = .ok (.iaload, 1) := by decide +kernel
theorem dX9_kindByValue_38 : decode cX9_kindByValue 38 = .ok (.imul, 1) := by decide +kernel
theorem dX9_kindByValue_39 : decode cX9_kindByValue 39 = .ok (.aload_n 0, 1) := by decide +kernel
theorem dX9_kindByValue_40 : decode cX9_kindByValue 40 = .ok (.iload_n 2, 1) := by decide +kernel
theorem dX9_kindByValue_41 : decode cX9_kindByValue 41 = .ok (.invokevirtual 177, 3) := by decide +kernel
theorem dX9_kindByValue_44 : decode cX9_kindByValue 44 = .ok (.aload_n 0, 1) := by decide +kernel
theorem dX9_kindByValue_45 : decode cX9_kindByValue 45 = .ok (.getfield 13, 3) := by decide +kernel
theorem dX9_kindByValue_48 : decode cX9_kindByValue 48 = .ok (.iconst 2, 1) := by decide +kernel
theorem dX9_kindByValue_49 : decode cX9_kindByValue 49 = .ok (.iload_n 2, 1) := by decide +kernel
theorem dX9_kindByValue_50 : decode cX9_kindByValue 50 = .ok (.iadd, 1) := by decide +kernel
theorem dX9_kindByValue_51 : decode cX9_kindByValue 51 = .ok (.iaload, 1) := by decide +kernel
theorem dX9_kindByValue_52 : decode cX9_kindByValue 52 = .ok (.imul, 1) := by decide +kernel
theorem dX9_kindByValue_53 : decode cX9_kindByValue 53 = .ok (.isub, 1) := by decide +kernel
theorem dX9_kindByValue_54 : decode cX9_kindByValue 54 = .ok (.istore 5, 2) := by decide +kernel
theorem dX9_kindByValue_56 : decode cX9_kindByValue 56 = .ok (.iload_n 3, 1) := by decide +kernel
theorem dX9_kindByValue_57 : decode cX9_kindByValue 57 = .ok (.iload 5, 2) := by decide +kernel
theorem dX9_kindByValue_59 : decode cX9_kindByValue 59 = .ok (.ifCond .gt 14, 3) := by decide +kernel
theorem dX9_kindByValue_62 : decode cX9_kindByValue 62 = .ok (.iload 5, 2) := by decide +kernel
theorem dX9_kindByValue_64 : decode cX9_kindByValue 64 = .ok (.ifCond .ne 13, 3) := by decide +kernel
theorem dX9_kindByValue_67 : decode cX9_kindByValue 67 = .ok (.iload 4, 2) := by decide +kernel
theorem dX9_kindByValue_69 : decode cX9_kindByValue 69 = .ok (.iload_n 2, 1) := by decide +kernel
theorem dX9_kindByValue_70 : decode cX9_kindByValue 70 = .ok (.if_icmp .ge 7, 3) := by decide +kernel
theorem dX9_kindByValue_73 : decode cX9_kindByValue 73 = .ok (.iconst 1, 1) := by decide +kernel
theorem dX9_kindByValue_74 : decode cX9_kindByValue 74 = .ok (.goto 4, 3) := by decide +kernel
theorem dX9_kindByValue_77 : decode cX9_kindByValue 77 = .ok (.iconst 0, 1) := by decide +kernel
theorem dX9_kindByValue_78 : decode cX9_kindByValue 78 = .ok (.iadd, 1) := by decide +kernel
theorem dX9_kindByValue_79 : decode cX9_kindByValue 79 = .ok (.istore_n 3, 1) := by decide +kernel
theorem dX9_kindByValue_80 : decode cX9_kindByValue 80 = .ok (.iinc 4 1, 3) := by decide +kernel
theorem dX9_kindByValue_83 : decode cX9_kindByValue 83 = .ok (.goto (-66), 3) := by decide +kernel
theorem dX9_kindByValue_86 : decode cX9_kindByValue 86 = .ok (.iload_n 3, 1) := by decide +kernel
theorem dX9_kindByValue_87 : decode cX9_kindByValue 87 = .ok (.iload_n 1, 1) := by decide +kernel
theorem dX9_kindByValue_88 : decode cX9_kindByValue 88 = .ok (.if_icmp .ne 8, 3) := by decide +kernel
theorem dX9_kindByValue_91 : decode cX9_kindByValue 91 = .ok (.iload_n 2, 1) := by decide +kernel
theorem dX9_kindByValue_92 : decode cX9_kindByValue 92 = .ok (.invokestatic 190, 3) := by decide +kernel
theorem dX9_kindByValue_95 : decode cX9_kindByValue 95 = .ok (.ireturn, 1) := by decide +kernel
theorem dX9_kindByValue_96 : decode cX9_kindByValue 96 = .ok (.iinc 2 1, 3) := by decide +kernel
theorem dX9_kindByValue_99 : decode cX9_kindByValue 99 = .ok (.goto (-92), 3) := by decide +kernel
theorem dX9_kindByValue_102 : decode cX9_kindByValue 102 = .ok (.aload_n 0, 1) := by decide +kernel
theorem dX9_kindByValue_103 : decode cX9_kindByValue 103 = .ok (.iconst 1, 1) := by decide +kernel
theorem dX9_kindByValue_104 : decode cX9_kindByValue 104 = .ok (.invokevirtual 76, 3) := by decide +kernel
theorem dX9_kindByValue_107 : decode cX9_kindByValue 107 = .ok (.i2c, 1) := by decide +kernel
theorem dX9_kindByValue_108 : decode cX9_kindByValue 108 = .ok (.ireturn, 1) := by decide +kernel
theorem dX9_day_0 : decode cX9_day 0 = .ok (.aload_n 0, 1) := by decide +kernel
theorem dX9_day_1 : decode cX9_day 1 = .ok (.iconst 1, 1) := by decide +kernel
theorem dX9_day_2 : decode cX9_day 2 = .ok (.invokevirtual 164, 3) := by decide +kernel
theorem dX9_day_5 : decode cX9_day 5 = .ok (.ireturn, 1) := by decide +kernel
theorem dX9_mintedTotal_0 : decode cX9_mintedTotal 0 = .ok (.aload_n 0, 1) := by decide +kernel
theorem dX9_mintedTotal_1 : decode cX9_mintedTotal 1 = .ok (.bipush 11, 2) := by decide +kernel
theorem dX9_mintedTotal_3 : decode cX9_mintedTotal 3 = .ok (.invokevirtual 164, 3) := by decide +kernel
theorem dX9_mintedTotal_6 : decode cX9_mintedTotal 6 = .ok (.ireturn, 1) := by decide +kernel
theorem dX9_redeemedTotal_0 : decode cX9_redeemedTotal 0 = .ok (.aload_n 0, 1) := by decide +kernel
theorem dX9_redeemedTotal_1 : decode cX9_redeemedTotal 1 = .ok (.bipush 12, 2) := by decide +kernel
theorem dX9_redeemedTotal_3 : decode cX9_redeemedTotal 3 = .ok (.invokevirtual 164, 3) := by decide +kernel
theorem dX9_redeemedTotal_6 : decode cX9_redeemedTotal 6 = .ok (.ireturn, 1) := by decide +kernel
theorem dX9_evaporatedTotal_0 : decode cX9_evaporatedTotal 0 = .ok (.aload_n 0, 1) := by decide +kernel
theorem dX9_evaporatedTotal_1 : decode cX9_evaporatedTotal 1 = .ok (.bipush 13, 2) := by decide +kernel
theorem dX9_evaporatedTotal_3 : decode cX9_evaporatedTotal 3 = .ok (.invokevirtual 164, 3) := by decide +kernel
theorem dX9_evaporatedTotal_6 : decode cX9_evaporatedTotal 6 = .ok (.ireturn, 1) := by decide +kernel
theorem dX9_auditTotal_0 : decode cX9_auditTotal 0 = .ok (.aload_n 0, 1) := by decide +kernel
theorem dX9_auditTotal_1 : decode cX9_auditTotal 1 = .ok (.bipush 14, 2) := by decide +kernel
theorem dX9_auditTotal_3 : decode cX9_auditTotal 3 = .ok (.invokevirtual 164, 3) := by decide +kernel
theorem dX9_auditTotal_6 : decode cX9_auditTotal 6 = .ok (.ireturn, 1) := by decide +kernel
theorem dX9_soundAuditTotal_0 : decode cX9_soundAuditTotal 0 = .ok (.aload_n 0, 1) := by decide +kernel
theorem dX9_soundAuditTotal_1 : decode cX9_soundAuditTotal 1 = .ok (.bipush 15, 2) := by decide +kernel
theorem dX9_soundAuditTotal_3 : decode cX9_soundAuditTotal 3 = .ok (.invokevirtual 164, 3) := by decide +kernel
theorem dX9_soundAuditTotal_6 : decode cX9_soundAuditTotal 6 = .ok (.ireturn, 1) := by decide +kernel
theorem dX9_meanValue_0 : decode cX9_meanValue 0 = .ok (.aload_n 0, 1) := by decide +kernel
theorem dX9_meanValue_1 : decode cX9_meanValue 1 = .ok (.iconst 0, 1) := by decide +kernel
theorem dX9_meanValue_2 : decode cX9_meanValue 2 = .ok (.putfield 1, 3) := by decide +kernel
theorem dX9_meanValue_5 : decode cX9_meanValue 5 = .ok (.aload_n 0, 1) := by decide +kernel
theorem dX9_meanValue_6 : decode cX9_meanValue 6 = .ok (.getfield 13, 3) := by decide +kernel
theorem dX9_meanValue_9 : decode cX9_meanValue 9 = .ok (.iconst 0, 1) := by decide +kernel
theorem dX9_meanValue_10 : decode cX9_meanValue 10 = .ok (.iaload, 1) := by decide +kernel
theorem dX9_meanValue_11 : decode cX9_meanValue 11 = .ok (.ifCond .ne 12, 3) := by decide +kernel
theorem dX9_meanValue_14 : decode cX9_meanValue 14 = .ok (.aload_n 0, 1) := by decide +kernel
theorem dX9_meanValue_15 : decode cX9_meanValue 15 = .ok (.iconst 1, 1) := by decide +kernel
theorem dX9_meanValue_16 : decode cX9_meanValue 16 = .ok (.invokevirtual 76, 3) := by decide +kernel
theorem dX9_meanValue_19 : decode cX9_meanValue 19 = .ok (.i2d, 1) := by decide +kernel
theorem dX9_meanValue_20 : decode cX9_meanValue 20 = .ok (.goto 16, 3) := by decide +kernel
theorem dX9_meanValue_23 : decode cX9_meanValue 23 = .ok (.aload_n 0, 1) := by decide +kernel
theorem dX9_meanValue_24 : decode cX9_meanValue 24 = .ok (.invokevirtual 180, 3) := by decide +kernel
theorem dX9_meanValue_27 : decode cX9_meanValue 27 = .ok (.i2d, 1) := by decide +kernel
theorem dX9_meanValue_28 : decode cX9_meanValue 28 = .ok (.aload_n 0, 1) := by decide +kernel
theorem dX9_meanValue_29 : decode cX9_meanValue 29 = .ok (.getfield 13, 3) := by decide +kernel
theorem dX9_meanValue_32 : decode cX9_meanValue 32 = .ok (.iconst 0, 1) := by decide +kernel
theorem dX9_meanValue_33 : decode cX9_meanValue 33 = .ok (.iaload, 1) := by decide +kernel
theorem dX9_meanValue_34 : decode cX9_meanValue 34 = .ok (.i2d, 1) := by decide +kernel
theorem dX9_meanValue_35 : decode cX9_meanValue 35 = .ok (.ddiv, 1) := by decide +kernel
theorem dX9_meanValue_36 : decode cX9_meanValue 36 = .ok (.dreturn, 1) := by decide +kernel
theorem dX9_soundShare_0 : decode cX9_soundShare 0 = .ok (.aload_n 0, 1) := by decide +kernel
theorem dX9_soundShare_1 : decode cX9_soundShare 1 = .ok (.iconst 0, 1) := by decide +kernel
theorem dX9_soundShare_2 : decode cX9_soundShare 2 = .ok (.putfield 1, 3) := by decide +kernel
theorem dX9_soundShare_5 : decode cX9_soundShare 5 = .ok (.aload_n 0, 1) := by decide +kernel
theorem dX9_soundShare_6 : decode cX9_soundShare 6 = .ok (.getfield 13, 3) := by decide +kernel
theorem dX9_soundShare_9 : decode cX9_soundShare 9 = .ok (.bipush 14, 2) := by decide +kernel
theorem dX9_soundShare_11 : decode cX9_soundShare 11 = .ok (.iaload, 1) := by decide +kernel
theorem dX9_soundShare_12 : decode cX9_soundShare 12 = .ok (.ifCond .ne 12, 3) := by decide +kernel
theorem dX9_soundShare_15 : decode cX9_soundShare 15 = .ok (.aload_n 0, 1) := by decide +kernel
theorem dX9_soundShare_16 : decode cX9_soundShare 16 = .ok (.iconst 1, 1) := by decide +kernel
theorem dX9_soundShare_17 : decode cX9_soundShare 17 = .ok (.invokevirtual 76, 3) := by decide +kernel
theorem dX9_soundShare_20 : decode cX9_soundShare 20 = .ok (.i2f, 1) := by decide +kernel
theorem dX9_soundShare_21 : decode cX9_soundShare 21 = .ok (.goto 20, 3) := by decide +kernel
theorem dX9_soundShare_24 : decode cX9_soundShare 24 = .ok (.aload_n 0, 1) := by decide +kernel
theorem dX9_soundShare_25 : decode cX9_soundShare 25 = .ok (.getfield 13, 3) := by decide +kernel
theorem dX9_soundShare_28 : decode cX9_soundShare 28 = .ok (.bipush 15, 2) := by decide +kernel
theorem dX9_soundShare_30 : decode cX9_soundShare 30 = .ok (.iaload, 1) := by decide +kernel
theorem dX9_soundShare_31 : decode cX9_soundShare 31 = .ok (.i2f, 1) := by decide +kernel
theorem dX9_soundShare_32 : decode cX9_soundShare 32 = .ok (.aload_n 0, 1) := by decide +kernel
theorem dX9_soundShare_33 : decode cX9_soundShare 33 = .ok (.getfield 13, 3) := by decide +kernel
theorem dX9_soundShare_36 : decode cX9_soundShare 36 = .ok (.bipush 14, 2) := by decide +kernel
theorem dX9_soundShare_38 : decode cX9_soundShare 38 = .ok (.iaload, 1) := by decide +kernel
theorem dX9_soundShare_39 : decode cX9_soundShare 39 = .ok (.i2f, 1) := by decide +kernel
theorem dX9_soundShare_40 : decode cX9_soundShare 40 = .ok (.fdiv, 1) := by decide +kernel
theorem dX9_soundShare_41 : decode cX9_soundShare 41 = .ok (.freturn, 1) := by decide +kernel
theorem dX9_isConsistent_0 : decode cX9_isConsistent 0 = .ok (.aload_n 0, 1) := by decide +kernel
theorem dX9_isConsistent_1 : decode cX9_isConsistent 1 = .ok (.iconst 0, 1) := by decide +kernel
theorem dX9_isConsistent_2 : decode cX9_isConsistent 2 = .ok (.putfield 1, 3) := by decide +kernel
theorem dX9_isConsistent_5 : decode cX9_isConsistent 5 = .ok (.iconst 0, 1) := by decide +kernel
theorem dX9_isConsistent_6 : decode cX9_isConsistent 6 = .ok (.istore_n 1, 1) := by decide +kernel
theorem dX9_isConsistent_7 : decode cX9_isConsistent 7 = .ok (.iconst 0, 1) := by decide +kernel
theorem dX9_isConsistent_8 : decode cX9_isConsistent 8 = .ok (.istore_n 2, 1) := by decide +kernel
theorem dX9_isConsistent_9 : decode cX9_isConsistent 9 = .ok (.iload_n 2, 1) := by decide +kernel
theorem dX9_isConsistent_10 : decode cX9_isConsistent 10 = .ok (.aload_n 0, 1) := by decide +kernel
theorem dX9_isConsistent_11 : decode cX9_isConsistent 11 = .ok (.getfield 13, 3) := by decide +kernel
theorem dX9_isConsistent_14 : decode cX9_isConsistent 14 = .ok (.iconst 0, 1) := by decide +kernel
theorem dX9_isConsistent_15 : decode cX9_isConsistent 15 = .ok (.iaload, 1) := by decide +kernel
theorem dX9_isConsistent_16 : decode cX9_isConsistent 16 = .ok (.if_icmp .ge 18, 3) := by decide +kernel
theorem dX9_isConsistent_19 : decode cX9_isConsistent 19 = .ok (.iload_n 1, 1) := by decide +kernel
theorem dX9_isConsistent_20 : decode cX9_isConsistent 20 = .ok (.aload_n 0, 1) := by decide +kernel
theorem dX9_isConsistent_21 : decode cX9_isConsistent 21 = .ok (.iload_n 2, 1) := by decide +kernel
theorem dX9_isConsistent_22 : decode cX9_isConsistent 22 = .ok (.iconst 4, 1) := by decide +kernel
theorem dX9_isConsistent_23 : decode cX9_isConsistent 23 = .ok (.invokevirtual 58, 3) := by decide +kernel
theorem dX9_isConsistent_26 : decode cX9_isConsistent 26 = .ok (.iadd, 1) := by decide +kernel
theorem dX9_isConsistent_27 : decode cX9_isConsistent 27 = .ok (.istore_n 1, 1) := by decide +kernel
theorem dX9_isConsistent_28 : decode cX9_isConsistent 28 = .ok (.iinc 2 1, 3) := by decide +kernel
theorem dX9_isConsistent_31 : decode cX9_isConsistent 31 = .ok (.goto (-22), 3) := by decide +kernel
theorem dX9_isConsistent_34 : decode cX9_isConsistent 34 = .ok (.iconst 0, 1) := by decide +kernel
theorem dX9_isConsistent_35 : decode cX9_isConsistent 35 = .ok (.istore_n 2, 1) := by decide +kernel
theorem dX9_isConsistent_36 : decode cX9_isConsistent 36 = .ok (.iload_n 2, 1) := by decide +kernel
theorem dX9_isConsistent_37 : decode cX9_isConsistent 37 = .ok (.iconst 3, 1) := by decide +kernel
theorem dX9_isConsistent_38 : decode cX9_isConsistent 38 = .ok (.if_icmp .ge 37, 3) := by decide +kernel
theorem dX9_isConsistent_41 : decode cX9_isConsistent 41 = .ok (.aload_n 0, 1) := by decide +kernel
theorem dX9_isConsistent_42 : decode cX9_isConsistent 42 = .ok (.iload_n 2, 1) := by decide +kernel
theorem dX9_isConsistent_43 : decode cX9_isConsistent 43 = .ok (.invokevirtual 177, 3) := by decide +kernel
theorem dX9_isConsistent_46 : decode cX9_isConsistent 46 = .ok (.aload_n 0, 1) := by decide +kernel
theorem dX9_isConsistent_47 : decode cX9_isConsistent 47 = .ok (.getfield 13, 3) := by decide +kernel
theorem dX9_isConsistent_50 : decode cX9_isConsistent 50 = .ok (.iconst 5, 1) := by decide +kernel
theorem dX9_isConsistent_51 : decode cX9_isConsistent 51 = .ok (.iload_n 2, 1) := by decide +kernel
theorem dX9_isConsistent_52 : decode cX9_isConsistent 52 = .ok (.iadd, 1) := by decide +kernel
theorem dX9_isConsistent_53 : decode cX9_isConsistent 53 = .ok (.iaload, 1) := by decide +kernel
theorem dX9_isConsistent_54 : decode cX9_isConsistent 54 = .ok (.aload_n 0, 1) := by decide +kernel
theorem dX9_isConsistent_55 : decode cX9_isConsistent 55 = .ok (.getfield 13, 3) := by decide +kernel
theorem dX9_isConsistent_58 : decode cX9_isConsistent 58 = .ok (.bipush 8, 2) := by decide +kernel
theorem dX9_isConsistent_60 : decode cX9_isConsistent 60 = .ok (.iload_n 2, 1) := by decide +kernel
theorem dX9_isConsistent_61 : decode cX9_isConsistent 61 = .ok (.iadd, 1) := by decide +kernel
theorem dX9_isConsistent_62 : decode cX9_isConsistent 62 = .ok (.iaload, 1) := by decide +kernel
theorem dX9_isConsistent_63 : decode cX9_isConsistent 63 = .ok (.isub, 1) := by decide +kernel
theorem dX9_isConsistent_64 : decode cX9_isConsistent 64 = .ok (.if_icmp .eq 5, 3) := by decide +kernel
theorem dX9_isConsistent_67 : decode cX9_isConsistent 67 = .ok (.iconst 0, 1) := by decide +kernel
theorem dX9_isConsistent_68 : decode cX9_isConsistent 68 = .ok (.ireturn, 1) := by decide +kernel
theorem dX9_isConsistent_69 : decode cX9_isConsistent 69 = .ok (.iinc 2 1, 3) := by decide +kernel
theorem dX9_isConsistent_72 : decode cX9_isConsistent 72 = .ok (.goto (-36), 3) := by decide +kernel
theorem dX9_isConsistent_75 : decode cX9_isConsistent 75 = .ok (.aload_n 0, 1) := by decide +kernel
theorem dX9_isConsistent_76 : decode cX9_isConsistent 76 = .ok (.getfield 13, 3) := by decide +kernel
theorem dX9_isConsistent_79 : decode cX9_isConsistent 79 = .ok (.bipush 11, 2) := by decide +kernel
theorem dX9_isConsistent_81 : decode cX9_isConsistent 81 = .ok (.iaload, 1) := by decide +kernel
theorem dX9_isConsistent_82 : decode cX9_isConsistent 82 = .ok (.aload_n 0, 1) := by decide +kernel
theorem dX9_isConsistent_83 : decode cX9_isConsistent 83 = .ok (.getfield 13, 3) := by decide +kernel
theorem dX9_isConsistent_86 : decode cX9_isConsistent 86 = .ok (.bipush 12, 2) := by decide +kernel
theorem dX9_isConsistent_88 : decode cX9_isConsistent 88 = .ok (.iaload, 1) := by decide +kernel
theorem dX9_isConsistent_89 : decode cX9_isConsistent 89 = .ok (.aload_n 0, 1) := by decide +kernel
theorem dX9_isConsistent_90 : decode cX9_isConsistent 90 = .ok (.getfield 13, 3) := by decide +kernel
theorem dX9_isConsistent_93 : decode cX9_isConsistent 93 = .ok (.bipush 13, 2) := by decide +kernel
theorem dX9_isConsistent_95 : decode cX9_isConsistent 95 = .ok (.iaload, 1) := by decide +kernel
theorem dX9_isConsistent_96 : decode cX9_isConsistent 96 = .ok (.iadd, 1) := by decide +kernel
theorem dX9_isConsistent_97 : decode cX9_isConsistent 97 = .ok (.iload_n 1, 1) := by decide +kernel
theorem dX9_isConsistent_98 : decode cX9_isConsistent 98 = .ok (.iadd, 1) := by decide +kernel
theorem dX9_isConsistent_99 : decode cX9_isConsistent 99 = .ok (.if_icmp .ne 7, 3) := by decide +kernel
theorem dX9_isConsistent_102 : decode cX9_isConsistent 102 = .ok (.iconst 1, 1) := by decide +kernel
theorem dX9_isConsistent_103 : decode cX9_isConsistent 103 = .ok (.goto 4, 3) := by decide +kernel
theorem dX9_isConsistent_106 : decode cX9_isConsistent 106 = .ok (.iconst 0, 1) := by decide +kernel
theorem dX9_isConsistent_107 : decode cX9_isConsistent 107 = .ok (.ireturn, 1) := by decide +kernel
theorem dX9_writes_0 : decode cX9_writes 0 = .ok (.aload_n 0, 1) := by decide +kernel
theorem dX9_writes_1 : decode cX9_writes 1 = .ok (.getfield 26, 3) := by decide +kernel
theorem dX9_writes_4 : decode cX9_writes 4 = .ok (.aload_n 0, 1) := by decide +kernel
theorem dX9_writes_5 : decode cX9_writes 5 = .ok (.getfield 194, 3) := by decide +kernel
theorem dX9_writes_8 : decode cX9_writes 8 = .ok (.iload_n 1, 1) := by decide +kernel
theorem dX9_writes_9 : decode cX9_writes 9 = .ok (.i2c, 1) := by decide +kernel
theorem dX9_writes_10 : decode cX9_writes 10 = .ok (.castore, 1) := by decide +kernel
theorem dX9_writes_11 : decode cX9_writes 11 = .ok (.aload_n 0, 1) := by decide +kernel
theorem dX9_writes_12 : decode cX9_writes 12 = .ok (.dup, 1) := by decide +kernel
theorem dX9_writes_13 : decode cX9_writes 13 = .ok (.getfield 194, 3) := by decide +kernel
theorem dX9_writes_16 : decode cX9_writes 16 = .ok (.iconst 1, 1) := by decide +kernel
theorem dX9_writes_17 : decode cX9_writes 17 = .ok (.iadd, 1) := by decide +kernel
theorem dX9_writes_18 : decode cX9_writes 18 = .ok (.putfield 194, 3) := by decide +kernel
theorem dX9_writes_21 : decode cX9_writes 21 = .ok (.return_, 1) := by decide +kernel
theorem dX9_writesNumber_0 : decode cX9_writesNumber 0 = .ok (.iconst 1, 1) := by decide +kernel
theorem dX9_writesNumber_1 : decode cX9_writesNumber 1 = .ok (.istore_n 2, 1) := by decide +kernel
theorem dX9_writesNumber_2 : decode cX9_writesNumber 2 = .ok (.iload_n 1, 1) := by decide +kernel
theorem dX9_writesNumber_3 : decode cX9_writesNumber 3 = .ok (.iload_n 2, 1) := by decide +kernel
theorem dX9_writesNumber_4 : decode cX9_writesNumber 4 = .ok (.idiv, 1) := by decide +kernel
theorem dX9_writesNumber_5 : decode cX9_writesNumber 5 = .ok (.bipush 9, 2) := by decide +kernel
theorem dX9_writesNumber_7 : decode cX9_writesNumber 7 = .ok (.if_icmp .le 11, 3) := by decide +kernel
theorem dX9_writesNumber_10 : decode cX9_writesNumber 10 = .ok (.iload_n 2, 1) := by decide +kernel
theorem dX9_writesNumber_11 : decode cX9_writesNumber 11 = .ok (.bipush 10, 2) := by decide +kernel
theorem dX9_writesNumber_13 : decode cX9_writesNumber 13 = .ok (.imul, 1) := by decide +kernel
theorem dX9_writesNumber_14 : decode cX9_writesNumber 14 = .ok (.istore_n 2, 1) := by decide +kernel
theorem dX9_writesNumber_15 : decode cX9_writesNumber 15 = .ok (.goto (-13), 3) := by decide +kernel
theorem dX9_writesNumber_18 : decode cX9_writesNumber 18 = .ok (.iload_n 2, 1) := by decide +kernel
theorem dX9_writesNumber_19 : decode cX9_writesNumber 19 = .ok (.istore_n 3, 1) := by decide +kernel
theorem dX9_writesNumber_20 : decode cX9_writesNumber 20 = .ok (.iload_n 3, 1) := by decide +kernel
theorem dX9_writesNumber_21 : decode cX9_writesNumber 21 = .ok (.ifCond .le 24, 3) := by decide +kernel
theorem dX9_writesNumber_24 : decode cX9_writesNumber 24 = .ok (.aload_n 0, 1) := by decide +kernel
theorem dX9_writesNumber_25 : decode cX9_writesNumber 25 = .ok (.bipush 48, 2) := by decide +kernel
theorem dX9_writesNumber_27 : decode cX9_writesNumber 27 = .ok (.iload_n 1, 1) := by decide +kernel
theorem dX9_writesNumber_28 : decode cX9_writesNumber 28 = .ok (.iload_n 3, 1) := by decide +kernel
theorem dX9_writesNumber_29 : decode cX9_writesNumber 29 = .ok (.idiv, 1) := by decide +kernel
theorem dX9_writesNumber_30 : decode cX9_writesNumber 30 = .ok (.bipush 10, 2) := by decide +kernel
theorem dX9_writesNumber_32 : decode cX9_writesNumber 32 = .ok (.irem, 1) := by decide +kernel
theorem dX9_writesNumber_33 : decode cX9_writesNumber 33 = .ok (.iadd, 1) := by decide +kernel
theorem dX9_writesNumber_34 : decode cX9_writesNumber 34 = .ok (.invokevirtual 197, 3) := by decide +kernel
theorem dX9_writesNumber_37 : decode cX9_writesNumber 37 = .ok (.iload_n 3, 1) := by decide +kernel
theorem dX9_writesNumber_38 : decode cX9_writesNumber 38 = .ok (.bipush 10, 2) := by decide +kernel
theorem dX9_writesNumber_40 : decode cX9_writesNumber 40 = .ok (.idiv, 1) := by decide +kernel
theorem dX9_writesNumber_41 : decode cX9_writesNumber 41 = .ok (.istore_n 3, 1) := by decide +kernel
theorem dX9_writesNumber_42 : decode cX9_writesNumber 42 = .ok (.goto (-22), 3) := by decide +kernel
theorem dX9_writesNumber_45 : decode cX9_writesNumber 45 = .ok (.return_, 1) := by decide +kernel
theorem dX9_renderVault_0 : decode cX9_renderVault 0 = .ok (.aload_n 0, 1) := by decide +kernel
theorem dX9_renderVault_1 : decode cX9_renderVault 1 = .ok (.iconst 0, 1) := by decide +kernel
theorem dX9_renderVault_2 : decode cX9_renderVault 2 = .ok (.putfield 1, 3) := by decide +kernel
theorem dX9_renderVault_5 : decode cX9_renderVault 5 = .ok (.aload_n 0, 1) := by decide +kernel
theorem dX9_renderVault_6 : decode cX9_renderVault 6 = .ok (.iload_n 1, 1) := by decide +kernel
theorem dX9_renderVault_7 : decode cX9_renderVault 7 = .ok (.invokevirtual 85, 3) := by decide +kernel
theorem dX9_renderVault_10 : decode cX9_renderVault 10 = .ok (.ifCond .ne 9, 3) := by decide +kernel
theorem dX9_renderVault_13 : decode cX9_renderVault 13 = .ok (.aload_n 0, 1) := by decide +kernel
theorem dX9_renderVault_14 : decode cX9_renderVault 14 = .ok (.iconst 1, 1) := by decide +kernel
theorem dX9_renderVault_15 : decode cX9_renderVault 15 = .ok (.invokevirtual 76, 3) := by decide +kernel
theorem dX9_renderVault_18 : decode cX9_renderVault 18 = .ok (.ireturn, 1) := by decide +kernel
theorem dX9_renderVault_19 : decode cX9_renderVault 19 = .ok (.aload_n 0, 1) := by decide +kernel
theorem dX9_renderVault_20 : decode cX9_renderVault 20 = .ok (.iconst 0, 1) := by decide +kernel
theorem dX9_renderVault_21 : decode cX9_renderVault 21 = .ok (.putfield 194, 3) := by decide +kernel
theorem dX9_renderVault_24 : decode cX9_renderVault 24 = .ok (.iconst 0, 1) := by decide +kernel
theorem dX9_renderVault_25 : decode cX9_renderVault 25 = .ok (.istore_n 2, 1) := by decide +kernel
theorem dX9_renderVault_26 : decode cX9_renderVault 26 = .ok (.iload_n 2, 1) := by decide +kernel
theorem dX9_renderVault_27 : decode cX9_renderVault 27 = .ok (.iconst 3, 1) := by decide +kernel
theorem dX9_renderVault_28 : decode cX9_renderVault 28 = .ok (.if_icmp .ge 27, 3) := by decide +kernel
theorem dX9_renderVault_31 : decode cX9_renderVault 31 = .ok (.aload_n 0, 1) := by decide +kernel
theorem dX9_renderVault_32 : decode cX9_renderVault 32 = .ok (.iload_n 2, 1) := by decide +kernel
theorem dX9_renderVault_33 : decode cX9_renderVault 33 = .ok (.invokestatic 190, 3) := by decide +kernel
theorem dX9_renderVault_36 : decode cX9_renderVault 36 = .ok (.invokevirtual 197, 3) := by decide +kernel
theorem dX9_renderVault_39 : decode cX9_renderVault 39 = .ok (.aload_n 0, 1) := by decide +kernel
theorem dX9_renderVault_40 : decode cX9_renderVault 40 = .ok (.aload_n 0, 1) := by decide +kernel
theorem dX9_renderVault_41 : decode cX9_renderVault 41 = .ok (.iload_n 1, 1) := by decide +kernel
theorem dX9_renderVault_42 : decode cX9_renderVault 42 = .ok (.iload_n 2, 1) := by decide +kernel
theorem dX9_renderVault_43 : decode cX9_renderVault 43 = .ok (.invokevirtual 58, 3) := by decide +kernel
theorem dX9_renderVault_46 : decode cX9_renderVault 46 = .ok (.invokevirtual 201, 3) := by decide +kernel
theorem dX9_renderVault_49 : decode cX9_renderVault 49 = .ok (.iinc 2 1, 3) := by decide +kernel
theorem dX9_renderVault_52 : decode cX9_renderVault 52 = .ok (.goto (-26), 3) := by decide +kernel
theorem dX9_renderVault_55 : decode cX9_renderVault 55 = .ok (.aload_n 0, 1) := by decide +kernel
theorem dX9_renderVault_56 : decode cX9_renderVault 56 = .ok (.bipush 43, 2) := by decide +kernel
theorem dX9_renderVault_58 : decode cX9_renderVault 58 = .ok (.invokevirtual 197, 3) := by decide +kernel
theorem dX9_renderVault_61 : decode cX9_renderVault 61 = .ok (.aload_n 0, 1) := by decide +kernel
theorem dX9_renderVault_62 : decode cX9_renderVault 62 = .ok (.aload_n 0, 1) := by decide +kernel
theorem dX9_renderVault_63 : decode cX9_renderVault 63 = .ok (.iload_n 1, 1) := by decide +kernel
theorem dX9_renderVault_64 : decode cX9_renderVault 64 = .ok (.iconst 3, 1) := by decide +kernel
theorem dX9_renderVault_65 : decode cX9_renderVault 65 = .ok (.invokevirtual 58, 3) := by decide +kernel
theorem dX9_renderVault_68 : decode cX9_renderVault 68 = .ok (.invokevirtual 201, 3) := by decide +kernel
theorem dX9_renderVault_71 : decode cX9_renderVault 71 = .ok (.aload_n 0, 1) := by decide +kernel
theorem dX9_renderVault_72 : decode cX9_renderVault 72 = .ok (.bipush 126, 2) := by decide +kernel
theorem dX9_renderVault_74 : decode cX9_renderVault 74 = .ok (.invokevirtual 197, 3) := by decide +kernel
theorem dX9_renderVault_77 : decode cX9_renderVault 77 = .ok (.aload_n 0, 1) := by decide +kernel
theorem dX9_renderVault_78 : decode cX9_renderVault 78 = .ok (.aload_n 0, 1) := by decide +kernel
theorem dX9_renderVault_79 : decode cX9_renderVault 79 = .ok (.iload_n 1, 1) := by decide +kernel
theorem dX9_renderVault_80 : decode cX9_renderVault 80 = .ok (.iconst 4, 1) := by decide +kernel
