theorem dX2_init_0 : decode cX2_init 0 = .ok (.aload_n 0, 1) := by decide +kernel
theorem dX2_init_1 : decode cX2_init 1 = .ok (.invokespecial 3, 3) := by decide +kernel
theorem dX2_init_4 : decode cX2_init 4 = .ok (.aload_n 0, 1) := by decide +kernel
theorem dX2_init_5 : decode cX2_init 5 = .ok (.bipush 8, 2) := by decide +kernel
theorem dX2_init_7 : decode cX2_init 7 = .ok (.anewarray 9, 3) := by decide +kernel
theorem dX2_init_10 : decode cX2_init 10 = .ok (.putfield 11, 3) := by decide +kernel
theorem dX2_init_13 : decode cX2_init 13 = .ok (.aload_n 0, 1) := by decide +kernel
theorem dX2_init_14 : decode cX2_init 14 = .ok (.iconst 0, 1) := by decide +kernel
theorem dX2_init_15 : decode cX2_init 15 = .ok (.putfield 17, 3) := by decide +kernel
theorem dX2_init_18 : decode cX2_init 18 = .ok (.aload_n 0, 1) := by decide +kernel
theorem dX2_init_19 : decode cX2_init 19 = .ok (.iconst 0, 1) := by decide +kernel
theorem dX2_init_20 : decode cX2_init 20 = .ok (.putfield 21, 3) := by decide +kernel
theorem dX2_init_23 : decode cX2_init 23 = .ok (.iconst 0, 1) := by decide +kernel
theorem dX2_init_24 : decode cX2_init 24 = .ok (.istore_n 1, 1) := by decide +kernel
theorem dX2_init_25 : decode cX2_init 25 = .ok (.iload_n 1, 1) := by decide +kernel
theorem dX2_init_26 : decode cX2_init 26 = .ok (.bipush 8, 2) := by decide +kernel
theorem dX2_init_28 : decode cX2_init 28 = .ok (.if_icmp .ge 22, 3) := by decide +kernel
theorem dX2_init_31 : decode cX2_init 31 = .ok (.aload_n 0, 1) := by decide +kernel
theorem dX2_init_32 : decode cX2_init 32 = .ok (.getfield 11, 3) := by decide +kernel
theorem dX2_init_35 : decode cX2_init 35 = .ok (.iload_n 1, 1) := by decide +kernel
theorem dX2_init_36 : decode cX2_init 36 = .ok (.new 9, 3) := by decide +kernel
theorem dX2_init_39 : decode cX2_init 39 = .ok (.dup, 1) := by decide +kernel
theorem dX2_init_40 : decode cX2_init 40 = .ok (.invokespecial 24, 3) := by decide +kernel
theorem dX2_init_43 : decode cX2_init 43 = .ok (.aastore, 1) := by decide +kernel
theorem dX2_init_44 : decode cX2_init 44 = .ok (.iinc 1 1, 3) := by decide +kernel
theorem dX2_init_47 : decode cX2_init 47 = .ok (.goto (-22), 3) := by decide +kernel
theorem dX2_init_50 : decode cX2_init 50 = .ok (.return_, 1) := by decide +kernel
theorem dX2_remember_0 : decode cX2_remember 0 = .ok (.aload_n 0, 1) := by decide +kernel
theorem dX2_remember_1 : decode cX2_remember 1 = .ok (.aload_n 0, 1) := by decide +kernel
theorem dX2_remember_2 : decode cX2_remember 2 = .ok (.getfield 17, 3) := by decide +kernel
theorem dX2_remember_5 : decode cX2_remember 5 = .ok (.iconst 1, 1) := by decide +kernel
theorem dX2_remember_6 : decode cX2_remember 6 = .ok (.iadd, 1) := by decide +kernel
theorem dX2_remember_7 : decode cX2_remember 7 = .ok (.bipush 8, 2) := by decide +kernel
theorem dX2_remember_9 : decode cX2_remember 9 = .ok (.irem, 1) := by decide +kernel
theorem dX2_remember_10 : decode cX2_remember 10 = .ok (.putfield 17, 3) := by decide +kernel
theorem dX2_remember_13 : decode cX2_remember 13 = .ok (.aload_n 0, 1) := by decide +kernel
theorem dX2_remember_14 : decode cX2_remember 14 = .ok (.getfield 11, 3) := by decide +kernel
theorem dX2_remember_17 : decode cX2_remember 17 = .ok (.aload_n 0, 1) := by decide +kernel
theorem dX2_remember_18 : decode cX2_remember 18 = .ok (.getfield 17, 3) := by decide +kernel
theorem dX2_remember_21 : decode cX2_remember 21 = .ok (.aaload, 1) := by decide +kernel
theorem dX2_remember_22 : decode cX2_remember 22 = .ok (.aload_n 1, 1) := by decide +kernel
theorem dX2_remember_23 : decode cX2_remember 23 = .ok (.invokevirtual 25, 3) := by decide +kernel
theorem dX2_remember_26 : decode cX2_remember 26 = .ok (.aload_n 0, 1) := by decide +kernel
theorem dX2_remember_27 : decode cX2_remember 27 = .ok (.aload_n 0, 1) := by decide +kernel
theorem dX2_remember_28 : decode cX2_remember 28 = .ok (.getfield 21, 3) := by decide +kernel
theorem dX2_remember_31 : decode cX2_remember 31 = .ok (.iconst 1, 1) := by decide +kernel
theorem dX2_remember_32 : decode cX2_remember 32 = .ok (.iadd, 1) := by decide +kernel
theorem dX2_remember_33 : decode cX2_remember 33 = .ok (.bipush 8, 2) := by decide +kernel
theorem dX2_remember_35 : decode cX2_remember 35 = .ok (.invokestatic 29, 3) := by decide +kernel
theorem dX2_remember_38 : decode cX2_remember 38 = .ok (.putfield 21, 3) := by decide +kernel
theorem dX2_remember_41 : decode cX2_remember 41 = .ok (.return_, 1) := by decide +kernel
theorem dX2_takeBack_0 : decode cX2_takeBack 0 = .ok (.aload_n 1, 1) := by decide +kernel
theorem dX2_takeBack_1 : decode cX2_takeBack 1 = .ok (.aload_n 0, 1) := by decide +kernel
theorem dX2_takeBack_2 : decode cX2_takeBack 2 = .ok (.getfield 11, 3) := by decide +kernel
theorem dX2_takeBack_5 : decode cX2_takeBack 5 = .ok (.aload_n 0, 1) := by decide +kernel
theorem dX2_takeBack_6 : decode cX2_takeBack 6 = .ok (.getfield 17, 3) := by decide +kernel
theorem dX2_takeBack_9 : decode cX2_takeBack 9 = .ok (.aaload, 1) := by decide +kernel
theorem dX2_takeBack_10 : decode cX2_takeBack 10 = .ok (.invokevirtual 25, 3) := by decide +kernel
theorem dX2_takeBack_13 : decode cX2_takeBack 13 = .ok (.aload_n 0, 1) := by decide +kernel
theorem dX2_takeBack_14 : decode cX2_takeBack 14 = .ok (.aload_n 0, 1) := by decide +kernel
theorem dX2_takeBack_15 : decode cX2_takeBack 15 = .ok (.getfield 17, 3) := by decide +kernel
theorem dX2_takeBack_18 : decode cX2_takeBack 18 = .ok (.bipush 8, 2) := by decide +kernel
theorem dX2_takeBack_20 : decode cX2_takeBack 20 = .ok (.iadd, 1) := by decide +kernel
theorem dX2_takeBack_21 : decode cX2_takeBack 21 = .ok (.iconst 1, 1) := by decide +kernel
theorem dX2_takeBack_22 : decode cX2_takeBack 22 = .ok (.isub, 1) := by decide +kernel
theorem dX2_takeBack_23 : decode cX2_takeBack 23 = .ok (.bipush 8, 2) := by decide +kernel
theorem dX2_takeBack_25 : decode cX2_takeBack 25 = .ok (.irem, 1) := by decide +kernel
theorem dX2_takeBack_26 : decode cX2_takeBack 26 = .ok (.putfield 17, 3) := by decide +kernel
theorem dX2_takeBack_29 : decode cX2_takeBack 29 = .ok (.aload_n 0, 1) := by decide +kernel
theorem dX2_takeBack_30 : decode cX2_takeBack 30 = .ok (.dup, 1) := by decide +kernel
theorem dX2_takeBack_31 : decode cX2_takeBack 31 = .ok (.getfield 21, 3) := by decide +kernel
theorem dX2_takeBack_34 : decode cX2_takeBack 34 = .ok (.iconst 1, 1) := by decide +kernel
theorem dX2_takeBack_35 : decode cX2_takeBack 35 = .ok (.isub, 1) := by decide +kernel
theorem dX2_takeBack_36 : decode cX2_takeBack 36 = .ok (.putfield 21, 3) := by decide +kernel
theorem dX2_takeBack_39 : decode cX2_takeBack 39 = .ok (.return_, 1) := by decide +kernel
theorem dX3_init_0 : decode cX3_init 0 = .ok (.aload_n 0, 1) := by decide +kernel
theorem dX3_init_1 : decode cX3_init 1 = .ok (.invokespecial 3, 3) := by decide +kernel
theorem dX3_init_4 : decode cX3_init 4 = .ok (.aload_n 0, 1) := by decide +kernel
theorem dX3_init_5 : decode cX3_init 5 = .ok (.iconst 5, 1) := by decide +kernel
theorem dX3_init_6 : decode cX3_init 6 = .ok (.anewarray 9, 3) := by decide +kernel
theorem dX3_init_9 : decode cX3_init 9 = .ok (.putfield 11, 3) := by decide +kernel
theorem dX3_init_12 : decode cX3_init 12 = .ok (.aload_n 0, 1) := by decide +kernel
theorem dX3_init_13 : decode cX3_init 13 = .ok (.iconst 3, 1) := by decide +kernel
theorem dX3_init_14 : decode cX3_init 14 = .ok (.newarray .int, 2) := by decide +kernel
theorem dX3_init_16 : decode cX3_init 16 = .ok (.dup, 1) := by decide +kernel
theorem dX3_init_17 : decode cX3_init 17 = .ok (.iconst 0, 1) := by decide +kernel
theorem dX3_init_18 : decode cX3_init 18 = .ok (.iconst 2, 1) := by decide +kernel
theorem dX3_init_19 : decode cX3_init 19 = .ok (.iastore, 1) := by decide +kernel
theorem dX3_init_20 : decode cX3_init 20 = .ok (.dup, 1) := by decide +kernel
theorem dX3_init_21 : decode cX3_init 21 = .ok (.iconst 1, 1) := by decide +kernel
theorem dX3_init_22 : decode cX3_init 22 = .ok (.bipush 6, 2) := by decide +kernel
theorem dX3_init_24 : decode cX3_init 24 = .ok (.iastore, 1) := by decide +kernel
theorem dX3_init_25 : decode cX3_init 25 = .ok (.dup, 1) := by decide +kernel
theorem dX3_init_26 : decode cX3_init 26 = .ok (.iconst 2, 1) := by decide +kernel
theorem dX3_init_27 : decode cX3_init 27 = .ok (.bipush 20, 2) := by decide +kernel
theorem dX3_init_29 : decode cX3_init 29 = .ok (.iastore, 1) := by decide +kernel
theorem dX3_init_30 : decode cX3_init 30 = .ok (.putfield 17, 3) := by decide +kernel
theorem dX3_init_33 : decode cX3_init 33 = .ok (.aload_n 0, 1) := by decide +kernel
theorem dX3_init_34 : decode cX3_init 34 = .ok (.iconst 3, 1) := by decide +kernel
theorem dX3_init_35 : decode cX3_init 35 = .ok (.newarray .int, 2) := by decide +kernel
theorem dX3_init_37 : decode cX3_init 37 = .ok (.putfield 21, 3) := by decide +kernel
theorem dX3_init_40 : decode cX3_init 40 = .ok (.aload_n 0, 1) := by decide +kernel
theorem dX3_init_41 : decode cX3_init 41 = .ok (.iconst 3, 1) := by decide +kernel
theorem dX3_init_42 : decode cX3_init 42 = .ok (.newarray .int, 2) := by decide +kernel
theorem dX3_init_44 : decode cX3_init 44 = .ok (.putfield 24, 3) := by decide +kernel
theorem dX3_init_47 : decode cX3_init 47 = .ok (.aload_n 0, 1) := by decide +kernel
theorem dX3_init_48 : decode cX3_init 48 = .ok (.iconst 0, 1) := by decide +kernel
theorem dX3_init_49 : decode cX3_init 49 = .ok (.putfield 27, 3) := by decide +kernel
theorem dX3_init_52 : decode cX3_init 52 = .ok (.aload_n 0, 1) := by decide +kernel
theorem dX3_init_53 : decode cX3_init 53 = .ok (.iconst 0, 1) := by decide +kernel
theorem dX3_init_54 : decode cX3_init 54 = .ok (.putfield 31, 3) := by decide +kernel
theorem dX3_init_57 : decode cX3_init 57 = .ok (.aload_n 0, 1) := by decide +kernel
theorem dX3_init_58 : decode cX3_init 58 = .ok (.iconst 0, 1) := by decide +kernel
theorem dX3_init_59 : decode cX3_init 59 = .ok (.putfield 34, 3) := by decide +kernel
theorem dX3_init_62 : decode cX3_init 62 = .ok (.aload_n 0, 1) := by decide +kernel
theorem dX3_init_63 : decode cX3_init 63 = .ok (.iconst 0, 1) := by decide +kernel
theorem dX3_init_64 : decode cX3_init 64 = .ok (.putfield 37, 3) := by decide +kernel
theorem dX3_init_67 : decode cX3_init 67 = .ok (.aload_n 0, 1) := by decide +kernel
theorem dX3_init_68 : decode cX3_init 68 = .ok (.iconst 0, 1) := by decide +kernel
theorem dX3_init_69 : decode cX3_init 69 = .ok (.putfield 40, 3) := by decide +kernel
theorem dX3_init_72 : decode cX3_init 72 = .ok (.aload_n 0, 1) := by decide +kernel
theorem dX3_init_73 : decode cX3_init 73 = .ok (.iconst 0, 1) := by decide +kernel
theorem dX3_init_74 : decode cX3_init 74 = .ok (.putfield 43, 3) := by decide +kernel
theorem dX3_init_77 : decode cX3_init 77 = .ok (.aload_n 0, 1) := by decide +kernel
theorem dX3_init_78 : decode cX3_init 78 = .ok (.iconst 0, 1) := by decide +kernel
theorem dX3_init_79 : decode cX3_init 79 = .ok (.putfield 46, 3) := by decide +kernel
theorem dX3_init_82 : decode cX3_init 82 = .ok (.iconst 0, 1) := by decide +kernel
theorem dX3_init_83 : decode cX3_init 83 = .ok (.istore_n 1, 1) := by decide +kernel
theorem dX3_init_84 : decode cX3_init 84 = .ok (.iload_n 1, 1) := by decide +kernel
theorem dX3_init_85 : decode cX3_init 85 = .ok (.iconst 5, 1) := by decide +kernel
theorem dX3_init_86 : decode cX3_init 86 = .ok (.if_icmp .ge 22, 3) := by decide +kernel
theorem dX3_init_89 : decode cX3_init 89 = .ok (.aload_n 0, 1) := by decide +kernel
theorem dX3_init_90 : decode cX3_init 90 = .ok (.getfield 11, 3) := by decide +kernel
theorem dX3_init_93 : decode cX3_init 93 = .ok (.iload_n 1, 1) := by decide +kernel
theorem dX3_init_94 : decode cX3_init 94 = .ok (.new 9, 3) := by decide +kernel
theorem dX3_init_97 : decode cX3_init 97 = .ok (.dup, 1) := by decide +kernel
theorem dX3_init_98 : decode cX3_init 98 = .ok (.invokespecial 49, 3) := by decide +kernel
theorem dX3_init_101 : decode cX3_init 101 = .ok (.aastore, 1) := by decide +kernel
theorem dX3_init_102 : decode cX3_init 102 = .ok (.iinc 1 1, 3) := by decide +kernel
theorem dX3_init_105 : decode cX3_init 105 = .ok (.goto (-21), 3) := by decide +kernel
theorem dX3_init_108 : decode cX3_init 108 = .ok (.return_, 1) := by decide +kernel
theorem dX3_copyFrom_0 : decode cX3_copyFrom 0 = .ok (.iconst 0, 1) := by decide +kernel
theorem dX3_copyFrom_1 : decode cX3_copyFrom 1 = .ok (.istore_n 2, 1) := by decide +kernel
theorem dX3_copyFrom_2 : decode cX3_copyFrom 2 = .ok (.iload_n 2, 1) := by decide +kernel
theorem dX3_copyFrom_3 : decode cX3_copyFrom 3 = .ok (.iconst 5, 1) := by decide +kernel
theorem dX3_copyFrom_4 : decode cX3_copyFrom 4 = .ok (.if_icmp .ge 24, 3) := by decide +kernel
theorem dX3_copyFrom_7 : decode cX3_copyFrom 7 = .ok (.aload_n 0, 1) := by decide +kernel
theorem dX3_copyFrom_8 : decode cX3_copyFrom 8 = .ok (.getfield 11, 3) := by decide +kernel
theorem dX3_copyFrom_11 : decode cX3_copyFrom 11 = .ok (.iload_n 2, 1) := by decide +kernel
theorem dX3_copyFrom_12 : decode cX3_copyFrom 12 = .ok (.aaload, 1) := by decide +kernel
theorem dX3_copyFrom_13 : decode cX3_copyFrom 13 = .ok (.aload_n 1, 1) := by decide +kernel
theorem dX3_copyFrom_14 : decode cX3_copyFrom 14 = .ok (.getfield 11, 3) := by decide +kernel
theorem dX3_copyFrom_17 : decode cX3_copyFrom 17 = .ok (.iload_n 2, 1) := by decide +kernel
theorem dX3_copyFrom_18 : decode cX3_copyFrom 18 = .ok (.aaload, 1) := by decide +kernel
theorem dX3_copyFrom_19 : decode cX3_copyFrom 19 = .ok (.invokevirtual 50, 3) := by decide +kernel
theorem dX3_copyFrom_22 : decode cX3_copyFrom 22 = .ok (.iinc 2 1, 3) := by decide +kernel
theorem dX3_copyFrom_25 : decode cX3_copyFrom 25 = .ok (.goto (-23), 3) := by decide +kernel
theorem dX3_copyFrom_28 : decode cX3_copyFrom 28 = .ok (.aload_n 1, 1) := by decide +kernel
theorem dX3_copyFrom_29 : decode cX3_copyFrom 29 = .ok (.getfield 17, 3) := by decide +kernel
theorem dX3_copyFrom_32 : decode cX3_copyFrom 32 = .ok (.iconst 0, 1) := by decide +kernel
theorem dX3_copyFrom_33 : decode cX3_copyFrom 33 = .ok (.aload_n 0, 1) := by decide +kernel
theorem dX3_copyFrom_34 : decode cX3_copyFrom 34 = .ok (.getfield 17, 3) := by decide +kernel
theorem dX3_copyFrom_37 : decode cX3_copyFrom 37 = .ok (.iconst 0, 1) := by decide +kernel
theorem dX3_copyFrom_38 : decode cX3_copyFrom 38 = .ok (.iconst 3, 1) := by decide +kernel
theorem dX3_copyFrom_39 : decode cX3_copyFrom 39 = .ok (.invokestatic 54, 3) := by decide +kernel
theorem dX3_copyFrom_42 : decode cX3_copyFrom 42 = .ok (.aload_n 1, 1) := by decide +kernel
theorem dX3_copyFrom_43 : decode cX3_copyFrom 43 = .ok (.getfield 21, 3) := by decide +kernel
theorem dX3_copyFrom_46 : decode cX3_copyFrom 46 = .ok (.iconst 0, 1) := by decide +kernel
theorem dX3_copyFrom_47 : decode cX3_copyFrom 47 = .ok (.aload_n 0, 1) := by decide +kernel
theorem dX3_copyFrom_48 : decode cX3_copyFrom 48 = .ok (.getfield 21, 3) := by decide +kernel
theorem dX3_copyFrom_51 : decode cX3_copyFrom 51 = .ok (.iconst 0, 1) := by decide +kernel
theorem dX3_copyFrom_52 : decode cX3_copyFrom 52 = .ok (.iconst 3, 1) := by decide +kernel
theorem dX3_copyFrom_53 : decode cX3_copyFrom 53 = .ok (.invokestatic 54, 3) := by decide +kernel
theorem dX3_copyFrom_56 : decode cX3_copyFrom 56 = .ok (.aload_n 1, 1) := by decide +kernel
theorem dX3_copyFrom_57 : decode cX3_copyFrom 57 = .ok (.getfield 24, 3) := by decide +kernel
theorem dX3_copyFrom_60 : decode cX3_copyFrom 60 = .ok (.iconst 0, 1) := by decide +kernel
theorem dX3_copyFrom_61 : decode cX3_copyFrom 61 = .ok (.aload_n 0, 1) := by decide +kernel
theorem dX3_copyFrom_62 : decode cX3_copyFrom 62 = .ok (.getfield 24, 3) := by decide +kernel
theorem dX3_copyFrom_65 : decode cX3_copyFrom 65 = .ok (.iconst 0, 1) := by decide +kernel
theorem dX3_copyFrom_66 : decode cX3_copyFrom 66 = .ok (.iconst 3, 1) := by decide +kernel
theorem dX3_copyFrom_67 : decode cX3_copyFrom 67 = .ok (.invokestatic 54, 3) := by decide +kernel
theorem dX3_copyFrom_70 : decode cX3_copyFrom 70 = .ok (.aload_n 0, 1) := by decide +kernel
theorem dX3_copyFrom_71 : decode cX3_copyFrom 71 = .ok (.aload_n 1, 1) := by decide +kernel
theorem dX3_copyFrom_72 : decode cX3_copyFrom 72 = .ok (.getfield 27, 3) := by decide +kernel
theorem dX3_copyFrom_75 : decode cX3_copyFrom 75 = .ok (.putfield 27, 3) := by decide +kernel
theorem dX3_copyFrom_78 : decode cX3_copyFrom 78 = .ok (.aload_n 0, 1) := by decide +kernel
theorem dX3_copyFrom_79 : decode cX3_copyFrom 79 = .ok (.aload_n 1, 1) := by decide +kernel
theorem dX3_copyFrom_80 : decode cX3_copyFrom 80 = .ok (.getfield 31, 3) := by decide +kernel
theorem dX3_copyFrom_83 : decode cX3_copyFrom 83 = .ok (.putfield 31, 3) := by decide +kernel
theorem dX3_copyFrom_86 : decode cX3_copyFrom 86 = .ok (.aload_n 0, 1) := by decide +kernel
theorem dX3_copyFrom_87 : decode cX3_copyFrom 87 = .ok (.aload_n 1, 1) := by decide +kernel
theorem dX3_copyFrom_88 : decode cX3_copyFrom 88 = .ok (.getfield 34, 3) := by decide +kernel
theorem dX3_copyFrom_91 : decode cX3_copyFrom 91 = .ok (.putfield 34, 3) := by decide +kernel
theorem dX3_copyFrom_94 : decode cX3_copyFrom 94 = .ok (.aload_n 0, 1) := by decide +kernel
theorem dX3_copyFrom_95 : decode cX3_copyFrom 95 = .ok (.aload_n 1, 1) := by decide +kernel
theorem dX3_copyFrom_96 : decode cX3_copyFrom 96 = .ok (.getfield 37, 3) := by decide +kernel
theorem dX3_copyFrom_99 : decode cX3_copyFrom 99 = .ok (.putfield 37, 3) := by decide +kernel
theorem dX3_copyFrom_102 : decode cX3_copyFrom 102 = .ok (.aload_n 0, 1) := by decide +kernel
theorem dX3_copyFrom_103 : decode cX3_copyFrom 103 = .ok (.aload_n 1, 1) := by decide +kernel
theorem dX3_copyFrom_104 : decode cX3_copyFrom 104 = .ok (.getfield 40, 3) := by decide +kernel
theorem dX3_copyFrom_107 : decode cX3_copyFrom 107 = .ok (.putfield 40, 3) := by decide +kernel
theorem dX3_copyFrom_110 : decode cX3_copyFrom 110 = .ok (.aload_n 0, 1) := by decide +kernel
theorem dX3_copyFrom_111 : decode cX3_copyFrom 111 = .ok (.aload_n 1, 1) := by decide +kernel
theorem dX3_copyFrom_112 : decode cX3_copyFrom 112 = .ok (.getfield 43, 3) := by decide +kernel
theorem dX3_copyFrom_115 : decode cX3_copyFrom 115 = .ok (.putfield 43, 3) := by decide +kernel
theorem dX3_copyFrom_118 : decode cX3_copyFrom 118 = .ok (.aload_n 0, 1) := by decide +kernel
theorem dX3_copyFrom_119 : decode cX3_copyFrom 119 = .ok (.aload_n 1, 1) := by decide +kernel
theorem dX3_copyFrom_120 : decode cX3_copyFrom 120 = .ok (.getfield 46, 3) := by decide +kernel
theorem dX3_copyFrom_123 : decode cX3_copyFrom 123 = .ok (.putfield 46, 3) := by decide +kernel
theorem dX3_copyFrom_126 : decode cX3_copyFrom 126 = .ok (.return_, 1) := by decide +kernel
theorem dX3_hasVault_0 : decode cX3_hasVault 0 = .ok (.iload_n 1, 1) := by decide +kernel
theorem dX3_hasVault_1 : decode cX3_hasVault 1 = .ok (.ifCond .lt 20, 3) := by decide +kernel
theorem dX3_hasVault_4 : decode cX3_hasVault 4 = .ok (.iload_n 1, 1) := by decide +kernel
theorem dX3_hasVault_5 : decode cX3_hasVault 5 = .ok (.aload_n 0, 1) := by decide +kernel
theorem dX3_hasVault_6 : decode cX3_hasVault 6 = .ok (.getfield 27, 3) := by decide +kernel
theorem dX3_hasVault_9 : decode cX3_hasVault 9 = .ok (.if_icmp .ge 12, 3) := by decide +kernel
theorem dX3_hasVault_12 : decode cX3_hasVault 12 = .ok (.iload_n 1, 1) := by decide +kernel
theorem dX3_hasVault_13 : decode cX3_hasVault 13 = .ok (.iconst 5, 1) := by decide +kernel
theorem dX3_hasVault_14 : decode cX3_hasVault 14 = .ok (.if_icmp .ge 7, 3) := by decide +kernel
theorem dX3_hasVault_17 : decode cX3_hasVault 17 = .ok (.iconst 1, 1) := by decide +kernel
theorem dX3_hasVault_18 : decode cX3_hasVault 18 = .ok (.goto 4, 3) := by decide +kernel
theorem dX3_hasVault_21 : decode cX3_hasVault 21 = .ok (.iconst 0, 1) := by decide +kernel
theorem dX3_hasVault_22 : decode cX3_hasVault 22 = .ok (.ireturn, 1) := by decide +kernel
theorem dX3_refusalToOpen_0 : decode cX3_refusalToOpen 0 = .ok (.iload_n 1, 1) := by decide +kernel
theorem dX3_refusalToOpen_1 : decode cX3_refusalToOpen 1 = .ok (.iconst 0, 1) := by decide +kernel
theorem dX3_refusalToOpen_2 : decode cX3_refusalToOpen 2 = .ok (.bipush 9, 2) := by decide +kernel
theorem dX3_refusalToOpen_4 : decode cX3_refusalToOpen 4 = .ok (.invokestatic 60, 3) := by decide +kernel
theorem dX3_refusalToOpen_7 : decode cX3_refusalToOpen 7 = .ok (.ifCond .ne 7, 3) := by decide +kernel
theorem dX3_refusalToOpen_10 : decode cX3_refusalToOpen 10 = .ok (.getstatic 64, 3) := by decide +kernel
theorem dX3_refusalToOpen_13 : decode cX3_refusalToOpen 13 = .ok (.areturn, 1) := by decide +kernel
theorem dX3_refusalToOpen_14 : decode cX3_refusalToOpen 14 = .ok (.aload_n 0, 1) := by decide +kernel
theorem dX3_refusalToOpen_15 : decode cX3_refusalToOpen 15 = .ok (.getfield 27, 3) := by decide +kernel
theorem dX3_refusalToOpen_18 : decode cX3_refusalToOpen 18 = .ok (.iconst 5, 1) := by decide +kernel
theorem dX3_refusalToOpen_19 : decode cX3_refusalToOpen 19 = .ok (.if_icmp .lt 9, 3) := by decide +kernel
theorem dX3_refusalToOpen_22 : decode cX3_refusalToOpen 22 = .ok (.getstatic 70, 3) := by decide +kernel
theorem dX3_refusalToOpen_25 : decode cX3_refusalToOpen 25 = .ok (.goto 6, 3) := by decide +kernel
theorem dX3_refusalToOpen_28 : decode cX3_refusalToOpen 28 = .ok (.getstatic 73, 3) := by decide +kernel
theorem dX3_refusalToOpen_31 : decode cX3_refusalToOpen 31 = .ok (.areturn, 1) := by decide +kernel
theorem dX3_open_0 : decode cX3_open 0 = .ok (.aload_n 0, 1) := by decide +kernel
theorem dX3_open_1 : decode cX3_open 1 = .ok (.getfield 27, 3) := by decide +kernel
theorem dX3_open_4 : decode cX3_open 4 = .ok (.istore_n 2, 1) := by decide +kernel
theorem dX3_open_5 : decode cX3_open 5 = .ok (.aload_n 0, 1) := by decide +kernel
theorem dX3_open_6 : decode cX3_open 6 = .ok (.getfield 11, 3) := by decide +kernel
theorem dX3_open_9 : decode cX3_open 9 = .ok (.iload_n 2, 1) := by decide +kernel
theorem dX3_open_10 : decode cX3_open 10 = .ok (.aaload, 1) := by decide +kernel
theorem dX3_open_11 : decode cX3_open 11 = .ok (.iload_n 1, 1) := by decide +kernel
theorem dX3_open_12 : decode cX3_open 12 = .ok (.putfield 76, 3) := by decide +kernel
theorem dX3_open_15 : decode cX3_open 15 = .ok (.aload_n 0, 1) := by decide +kernel
theorem dX3_open_16 : decode cX3_open 16 = .ok (.dup, 1) := by decide +kernel
theorem dX3_open_17 : decode cX3_open 17 = .ok (.getfield 27, 3) := by decide +kernel
theorem dX3_open_20 : decode cX3_open 20 = .ok (.iconst 1, 1) := by decide +kernel
theorem dX3_open_21 : decode cX3_open 21 = .ok (.iadd, 1) := by decide +kernel
theorem dX3_open_22 : decode cX3_open 22 = .ok (.putfield 27, 3) := by decide +kernel
theorem dX3_open_25 : decode cX3_open 25 = .ok (.iload_n 2, 1) := by decide +kernel
theorem dX3_open_26 : decode cX3_open 26 = .ok (.ireturn, 1) := by decide +kernel
theorem dX3_refusalToPut_0 : decode cX3_refusalToPut 0 = .ok (.aload_n 0, 1) := by decide +kernel
theorem dX3_refusalToPut_1 : decode cX3_refusalToPut 1 = .ok (.iload_n 1, 1) := by decide +kernel
theorem dX3_refusalToPut_2 : decode cX3_refusalToPut 2 = .ok (.invokevirtual 79, 3) := by decide +kernel
theorem dX3_refusalToPut_5 : decode cX3_refusalToPut 5 = .ok (.ifCond .ne 7, 3) := by decide +kernel
theorem dX3_refusalToPut_8 : decode cX3_refusalToPut 8 = .ok (.getstatic 83, 3) := by decide +kernel
theorem dX3_refusalToPut_11 : decode cX3_refusalToPut 11 = .ok (.areturn, 1) := by decide +kernel
theorem dX3_refusalToPut_12 : decode cX3_refusalToPut 12 = .ok (.ldc 86, 2) := by decide +kernel
theorem dX3_refusalToPut_14 : decode cX3_refusalToPut 14 = .ok (.iload_n 2, 1) := by decide +kernel
theorem dX3_refusalToPut_15 : decode cX3_refusalToPut 15 = .ok (.invokevirtual 88, 3) := by decide +kernel
theorem dX3_refusalToPut_18 : decode cX3_refusalToPut 18 = .ok (.istore 4, 2) := by decide +kernel
theorem dX3_refusalToPut_20 : decode cX3_refusalToPut 20 = .ok (.iload 4, 2) := by decide +kernel
theorem dX3_refusalToPut_22 : decode cX3_refusalToPut 22 = .ok (.ifCond .lt 13, 3) := by decide +kernel
theorem dX3_refusalToPut_25 : decode cX3_refusalToPut 25 = .ok (.iload_n 3, 1) := by decide +kernel
theorem dX3_refusalToPut_26 : decode cX3_refusalToPut 26 = .ok (.iconst 1, 1) := by decide +kernel
theorem dX3_refusalToPut_27 : decode cX3_refusalToPut 27 = .ok (.bipush 30, 2) := by decide +kernel
theorem dX3_refusalToPut_29 : decode cX3_refusalToPut 29 = .ok (.invokestatic 60, 3) := by decide +kernel
theorem dX3_refusalToPut_32 : decode cX3_refusalToPut 32 = .ok (.ifCond .ne 7, 3) := by decide +kernel
theorem dX3_refusalToPut_35 : decode cX3_refusalToPut 35 = .ok (.getstatic 64, 3) := by decide +kernel
theorem dX3_refusalToPut_38 : decode cX3_refusalToPut 38 = .ok (.areturn, 1) := by decide +kernel
theorem dX3_refusalToPut_39 : decode cX3_refusalToPut 39 = .ok (.aload_n 0, 1) := by decide +kernel
theorem dX3_refusalToPut_40 : decode cX3_refusalToPut 40 = .ok (.getfield 11, 3) := by decide +kernel
theorem dX3_refusalToPut_43 : decode cX3_refusalToPut 43 = .ok (.iload_n 1, 1) := by decide +kernel
theorem dX3_refusalToPut_44 : decode cX3_refusalToPut 44 = .ok (.aaload, 1) := by decide +kernel
theorem dX3_refusalToPut_45 : decode cX3_refusalToPut 45 = .ok (.getfield 94, 3) := by decide +kernel
theorem dX3_refusalToPut_48 : decode cX3_refusalToPut 48 = .ok (.iload 4, 2) := by decide +kernel
theorem dX3_refusalToPut_50 : decode cX3_refusalToPut 50 = .ok (.iaload, 1) := by decide +kernel
theorem dX3_refusalToPut_51 : decode cX3_refusalToPut 51 = .ok (.iload_n 3, 1) := by decide +kernel
theorem dX3_refusalToPut_52 : decode cX3_refusalToPut 52 = .ok (.iadd, 1) := by decide +kernel
theorem dX3_refusalToPut_53 : decode cX3_refusalToPut 53 = .ok (.bipush 99, 2) := by decide +kernel
theorem dX3_refusalToPut_55 : decode cX3_refusalToPut 55 = .ok (.if_icmp .le 9, 3) := by decide +kernel
theorem dX3_refusalToPut_58 : decode cX3_refusalToPut 58 = .ok (.getstatic 70, 3) := by decide +kernel
theorem dX3_refusalToPut_61 : decode cX3_refusalToPut 61 = .ok (.goto 6, 3) := by decide +kernel
theorem dX3_refusalToPut_64 : decode cX3_refusalToPut 64 = .ok (.getstatic 73, 3) := by decide +kernel
theorem dX3_refusalToPut_67 : decode cX3_refusalToPut 67 = .ok (.areturn, 1) := by decide +kernel
theorem dX3_put_0 : decode cX3_put 0 = .ok (.ldc 86, 2) := by decide +kernel
theorem dX3_put_2 : decode cX3_put 2 = .ok (.iload_n 2, 1) := by decide +kernel
theorem dX3_put_3 : decode cX3_put 3 = .ok (.invokevirtual 88, 3) := by decide +kernel
theorem dX3_put_6 : decode cX3_put 6 = .ok (.istore 4, 2) := by decide +kernel
theorem dX3_put_8 : decode cX3_put 8 = .ok (.aload_n 0, 1) := by decide +kernel
theorem dX3_put_9 : decode cX3_put 9 = .ok (.getfield 11, 3) := by decide +kernel
theorem dX3_put_12 : decode cX3_put 12 = .ok (.iload_n 1, 1) := by decide +kernel
theorem dX3_put_13 : decode cX3_put 13 = .ok (.aaload, 1) := by decide +kernel
theorem dX3_put_14 : decode cX3_put 14 = .ok (.getfield 94, 3) := by decide +kernel
theorem dX3_put_17 : decode cX3_put 17 = .ok (.iload 4, 2) := by decide +kernel
theorem dX3_put_19 : decode cX3_put 19 = .ok (.dup2, 1) := by decide +kernel
theorem dX3_put_20 : decode cX3_put 20 = .ok (.iaload, 1) := by decide +kernel
theorem dX3_put_21 : decode cX3_put 21 = .ok (.iload_n 3, 1) := by decide +kernel
theorem dX3_put_22 : decode cX3_put 22 = .ok (.iadd, 1) := by decide +kernel
theorem dX3_put_23 : decode cX3_put 23 = .ok (.iastore, 1) := by decide +kernel
theorem dX3_put_24 : decode cX3_put 24 = .ok (.aload_n 0, 1) := by decide +kernel
theorem dX3_put_25 : decode cX3_put 25 = .ok (.getfield 21, 3) := by decide +kernel
theorem dX3_put_28 : decode cX3_put 28 = .ok (.iload 4, 2) := by decide +kernel
theorem dX3_put_30 : decode cX3_put 30 = .ok (.dup2, 1) := by decide +kernel
theorem dX3_put_31 : decode cX3_put 31 = .ok (.iaload, 1) := by decide +kernel
theorem dX3_put_32 : decode cX3_put 32 = .ok (.iload_n 3, 1) := by decide +kernel
theorem dX3_put_33 : decode cX3_put 33 = .ok (.iadd, 1) := by decide +kernel
theorem dX3_put_34 : decode cX3_put 34 = .ok (.iastore, 1) := by decide +kernel
theorem dX3_put_35 : decode cX3_put 35 = .ok (.aload_n 0, 1) := by decide +kernel
theorem dX3_put_36 : decode cX3_put 36 = .ok (.getfield 11, 3) := by decide +kernel
theorem dX3_put_39 : decode cX3_put 39 = .ok (.iload_n 1, 1) := by decide +kernel
theorem dX3_put_40 : decode cX3_put 40 = .ok (.aaload, 1) := by decide +kernel
theorem dX3_put_41 : decode cX3_put 41 = .ok (.getfield 94, 3) := by decide +kernel
theorem dX3_put_44 : decode cX3_put 44 = .ok (.iload 4, 2) := by decide +kernel
theorem dX3_put_46 : decode cX3_put 46 = .ok (.iaload, 1) := by decide +kernel
theorem dX3_put_47 : decode cX3_put 47 = .ok (.ireturn, 1) := by decide +kernel
theorem dX3_refusalToTake_0 : decode cX3_refusalToTake 0 = .ok (.aload_n 0, 1) := by decide +kernel
theorem dX3_refusalToTake_1 : decode cX3_refusalToTake 1 = .ok (.iload_n 1, 1) := by decide +kernel
theorem dX3_refusalToTake_2 : decode cX3_refusalToTake 2 = .ok (.invokevirtual 79, 3) := by decide +kernel
theorem dX3_refusalToTake_5 : decode cX3_refusalToTake 5 = .ok (.ifCond .ne 7, 3) := by decide +kernel
theorem dX3_refusalToTake_8 : decode cX3_refusalToTake 8 = .ok (.getstatic 83, 3) := by decide +kernel
theorem dX3_refusalToTake_11 : decode cX3_refusalToTake 11 = .ok (.areturn, 1) := by decide +kernel
theorem dX3_refusalToTake_12 : decode cX3_refusalToTake 12 = .ok (.ldc 86, 2) := by decide +kernel
theorem dX3_refusalToTake_14 : decode cX3_refusalToTake 14 = .ok (.iload_n 2, 1) := by decide +kernel
theorem dX3_refusalToTake_15 : decode cX3_refusalToTake 15 = .ok (.invokevirtual 88, 3) := by decide +kernel
theorem dX3_refusalToTake_18 : decode cX3_refusalToTake 18 = .ok (.istore 4, 2) := by decide +kernel
theorem dX3_refusalToTake_20 : decode cX3_refusalToTake 20 = .ok (.iload 4, 2) := by decide +kernel
theorem dX3_refusalToTake_22 : decode cX3_refusalToTake 22 = .ok (.ifCond .lt 13, 3) := by decide +kernel
theorem dX3_refusalToTake_25 : decode cX3_refusalToTake 25 = .ok (.iload_n 3, 1) := by decide +kernel
theorem dX3_refusalToTake_26 : decode cX3_refusalToTake 26 = .ok (.iconst 1, 1) := by decide +kernel
theorem dX3_refusalToTake_27 : decode cX3_refusalToTake 27 = .ok (.bipush 30, 2) := by decide +kernel
theorem dX3_refusalToTake_29 : decode cX3_refusalToTake 29 = .ok (.invokestatic 60, 3) := by decide +kernel
theorem dX3_refusalToTake_32 : decode cX3_refusalToTake 32 = .ok (.ifCond .ne 7, 3) := by decide +kernel
theorem dX3_refusalToTake_35 : decode cX3_refusalToTake 35 = .ok (.getstatic 64, 3) := by decide +kernel
theorem dX3_refusalToTake_38 : decode cX3_refusalToTake 38 = .ok (.areturn, 1) := by decide +kernel
theorem dX3_refusalToTake_39 : decode cX3_refusalToTake 39 = .ok (.aload_n 0, 1) := by decide +kernel
theorem dX3_refusalToTake_40 : decode cX3_refusalToTake 40 = .ok (.getfield 11, 3) := by decide +kernel
theorem dX3_refusalToTake_43 : decode cX3_refusalToTake 43 = .ok (.iload_n 1, 1) := by decide +kernel
theorem dX3_refusalToTake_44 : decode cX3_refusalToTake 44 = .ok (.aaload, 1) := by decide +kernel
theorem dX3_refusalToTake_45 : decode cX3_refusalToTake 45 = .ok (.astore 5, 2) := by decide +kernel
theorem dX3_refusalToTake_47 : decode cX3_refusalToTake 47 = .ok (.aload 5, 2) := by decide +kernel
theorem dX3_refusalToTake_49 : decode cX3_refusalToTake 49 = .ok (.invokevirtual 97, 3) := by decide +kernel
theorem dX3_refusalToTake_52 : decode cX3_refusalToTake 52 = .ok (.ifCond .eq 7, 3) := by decide +kernel
theorem dX3_refusalToTake_55 : decode cX3_refusalToTake 55 = .ok (.getstatic 70, 3) := by decide +kernel
theorem dX3_refusalToTake_58 : decode cX3_refusalToTake 58 = .ok (.areturn, 1) := by decide +kernel
theorem dX3_refusalToTake_59 : decode cX3_refusalToTake 59 = .ok (.aload 5, 2) := by decide +kernel
theorem dX3_refusalToTake_61 : decode cX3_refusalToTake 61 = .ok (.aload_n 0, 1) := by decide +kernel
theorem dX3_refusalToTake_62 : decode cX3_refusalToTake 62 = .ok (.getfield 17, 3) := by decide +kernel
theorem dX3_refusalToTake_65 : decode cX3_refusalToTake 65 = .ok (.invokevirtual 101, 3) := by decide +kernel
theorem dX3_refusalToTake_68 : decode cX3_refusalToTake 68 = .ok (.iload_n 3, 1) := by decide +kernel
theorem dX3_refusalToTake_69 : decode cX3_refusalToTake 69 = .ok (.aload_n 0, 1) := by decide +kernel
theorem dX3_refusalToTake_70 : decode cX3_refusalToTake 70 = .ok (.getfield 17, 3) := by decide +kernel
theorem dX3_refusalToTake_73 : decode cX3_refusalToTake 73 = .ok (.iload 4, 2) := by decide +kernel
theorem dX3_refusalToTake_75 : decode cX3_refusalToTake 75 = .ok (.iaload, 1) := by decide +kernel
theorem dX3_refusalToTake_76 : decode cX3_refusalToTake 76 = .ok (.imul, 1) := by decide +kernel
theorem dX3_refusalToTake_77 : decode cX3_refusalToTake 77 = .ok (.isub, 1) := by decide +kernel
theorem dX3_refusalToTake_78 : decode cX3_refusalToTake 78 = .ok (.istore 6, 2) := by decide +kernel
theorem dX3_refusalToTake_80 : decode cX3_refusalToTake 80 = .ok (.aload 5, 2) := by decide +kernel
theorem dX3_refusalToTake_82 : decode cX3_refusalToTake 82 = .ok (.getfield 94, 3) := by decide +kernel
theorem dX3_refusalToTake_85 : decode cX3_refusalToTake 85 = .ok (.iload 4, 2) := by decide +kernel
theorem dX3_refusalToTake_87 : decode cX3_refusalToTake 87 = .ok (.iaload, 1) := by decide +kernel
theorem dX3_refusalToTake_88 : decode cX3_refusalToTake 88 = .ok (.iload_n 3, 1) := by decide +kernel
theorem dX3_refusalToTake_89 : decode cX3_refusalToTake 89 = .ok (.if_icmp .lt 22, 3) := by decide +kernel
theorem dX3_refusalToTake_92 : decode cX3_refusalToTake 92 = .ok (.aload 5, 2) := by decide +kernel
theorem dX3_refusalToTake_94 : decode cX3_refusalToTake 94 = .ok (.getfield 105, 3) := by decide +kernel
theorem dX3_refusalToTake_97 : decode cX3_refusalToTake 97 = .ok (.aload 5, 2) := by decide +kernel
theorem dX3_refusalToTake_99 : decode cX3_refusalToTake 99 = .ok (.iload 6, 2) := by decide +kernel
theorem dX3_refusalToTake_101 : decode cX3_refusalToTake 101 = .ok (.invokevirtual 108, 3) := by decide +kernel
theorem dX3_refusalToTake_104 : decode cX3_refusalToTake 104 = .ok (.if_icmp .gt 7, 3) := by decide +kernel
theorem dX3_refusalToTake_107 : decode cX3_refusalToTake 107 = .ok (.iconst 1, 1) := by decide +kernel
theorem dX3_refusalToTake_108 : decode cX3_refusalToTake 108 = .ok (.goto 4, 3) := by decide +kernel
theorem dX3_refusalToTake_111 : decode cX3_refusalToTake 111 = .ok (.iconst 0, 1) := by decide +kernel
theorem dX3_refusalToTake_112 : decode cX3_refusalToTake 112 = .ok (.istore 7, 2) := by decide +kernel
theorem dX3_refusalToTake_114 : decode cX3_refusalToTake 114 = .ok (.iload 7, 2) := by decide +kernel
theorem dX3_refusalToTake_116 : decode cX3_refusalToTake 116 = .ok (.ifCond .eq 9, 3) := by decide +kernel
theorem dX3_refusalToTake_119 : decode cX3_refusalToTake 119 = .ok (.getstatic 73, 3) := by decide +kernel
theorem dX3_refusalToTake_122 : decode cX3_refusalToTake 122 = .ok (.goto 6, 3) := by decide +kernel
theorem dX3_refusalToTake_125 : decode cX3_refusalToTake 125 = .ok (.getstatic 111, 3) := by decide +kernel
theorem dX3_refusalToTake_128 : decode cX3_refusalToTake 128 = .ok (.areturn, 1) := by decide +kernel
theorem dX3_take_0 : decode cX3_take 0 = .ok (.ldc 86, 2) := by decide +kernel
theorem dX3_take_2 : decode cX3_take 2 = .ok (.iload_n 2, 1) := by decide +kernel
theorem dX3_take_3 : decode cX3_take 3 = .ok (.invokevirtual 88, 3) := by decide +kernel
theorem dX3_take_6 : decode cX3_take 6 = .ok (.istore 4, 2) := by decide +kernel
theorem dX3_take_8 : decode cX3_take 8 = .ok (.aload_n 0, 1) := by decide +kernel
theorem dX3_take_9 : decode cX3_take 9 = .ok (.getfield 11, 3) := by decide +kernel
theorem dX3_take_12 : decode cX3_take 12 = .ok (.iload_n 1, 1) := by decide +kernel
theorem dX3_take_13 : decode cX3_take 13 = .ok (.aaload, 1) := by decide +kernel
theorem dX3_take_14 : decode cX3_take 14 = .ok (.getfield 94, 3) := by decide +kernel
theorem dX3_take_17 : decode cX3_take 17 = .ok (.iload 4, 2) := by decide +kernel
theorem dX3_take_19 : decode cX3_take 19 = .ok (.dup2, 1) := by decide +kernel
theorem dX3_take_20 : decode cX3_take 20 = .ok (.iaload, 1) := by decide +kernel
theorem dX3_take_21 : decode cX3_take 21 = .ok (.iload_n 3, 1) := by decide +kernel
theorem dX3_take_22 : decode cX3_take 22 = .ok (.isub, 1) := by decide +kernel
theorem dX3_take_23 : decode cX3_take 23 = .ok (.iastore, 1) := by decide +kernel
theorem dX3_take_24 : decode cX3_take 24 = .ok (.aload_n 0, 1) := by decide +kernel
theorem dX3_take_25 : decode cX3_take 25 = .ok (.getfield 24, 3) := by decide +kernel
theorem dX3_take_28 : decode cX3_take 28 = .ok (.iload 4, 2) := by decide +kernel
theorem dX3_take_30 : decode cX3_take 30 = .ok (.dup2, 1) := by decide +kernel
theorem dX3_take_31 : decode cX3_take 31 = .ok (.iaload, 1) := by decide +kernel
theorem dX3_take_32 : decode cX3_take 32 = .ok (.iload_n 3, 1) := by decide +kernel
theorem dX3_take_33 : decode cX3_take 33 = .ok (.iadd, 1) := by decide +kernel
theorem dX3_take_34 : decode cX3_take 34 = .ok (.iastore, 1) := by decide +kernel
theorem dX3_take_35 : decode cX3_take 35 = .ok (.aload_n 0, 1) := by decide +kernel
theorem dX3_take_36 : decode cX3_take 36 = .ok (.getfield 11, 3) := by decide +kernel
theorem dX3_take_39 : decode cX3_take 39 = .ok (.iload_n 1, 1) := by decide +kernel
theorem dX3_take_40 : decode cX3_take 40 = .ok (.aaload, 1) := by decide +kernel
theorem dX3_take_41 : decode cX3_take 41 = .ok (.getfield 94, 3) := by decide +kernel
theorem dX3_take_44 : decode cX3_take 44 = .ok (.iload 4, 2) := by decide +kernel
theorem dX3_take_46 : decode cX3_take 46 = .ok (.iaload, 1) := by decide +kernel
theorem dX3_take_47 : decode cX3_take 47 = .ok (.ireturn, 1) := by decide +kernel
theorem dX3_refusalToSwap_0 : decode cX3_refusalToSwap 0 = .ok (.aload_n 0, 1) := by decide +kernel
theorem dX3_refusalToSwap_1 : decode cX3_refusalToSwap 1 = .ok (.iload_n 1, 1) := by decide +kernel
theorem dX3_refusalToSwap_2 : decode cX3_refusalToSwap 2 = .ok (.invokevirtual 79, 3) := by decide +kernel
theorem dX3_refusalToSwap_5 : decode cX3_refusalToSwap 5 = .ok (.ifCond .ne 7, 3) := by decide +kernel
theorem dX3_refusalToSwap_8 : decode cX3_refusalToSwap 8 = .ok (.getstatic 83, 3) := by decide +kernel
theorem dX3_refusalToSwap_11 : decode cX3_refusalToSwap 11 = .ok (.areturn, 1) := by decide +kernel
theorem dX3_refusalToSwap_12 : decode cX3_refusalToSwap 12 = .ok (.ldc 86, 2) := by decide +kernel
theorem dX3_refusalToSwap_14 : decode cX3_refusalToSwap 14 = .ok (.iload_n 2, 1) := by decide +kernel
theorem dX3_refusalToSwap_15 : decode cX3_refusalToSwap 15 = .ok (.invokevirtual 88, 3) := by decide +kernel
theorem dX3_refusalToSwap_18 : decode cX3_refusalToSwap 18 = .ok (.istore 5, 2) := by decide +kernel
theorem dX3_refusalToSwap_20 : decode cX3_refusalToSwap 20 = .ok (.ldc 86, 2) := by decide +kernel
theorem dX3_refusalToSwap_22 : decode cX3_refusalToSwap 22 = .ok (.iload_n 3, 1) := by decide +kernel
theorem dX3_refusalToSwap_23 : decode cX3_refusalToSwap 23 = .ok (.invokevirtual 88, 3) := by decide +kernel
theorem dX3_refusalToSwap_26 : decode cX3_refusalToSwap 26 = .ok (.istore 6, 2) := by decide +kernel
theorem dX3_refusalToSwap_28 : decode cX3_refusalToSwap 28 = .ok (.iload 5, 2) := by decide +kernel
theorem dX3_refusalToSwap_30 : decode cX3_refusalToSwap 30 = .ok (.ifCond .lt 26, 3) := by decide +kernel
theorem dX3_refusalToSwap_33 : decode cX3_refusalToSwap 33 = .ok (.iload 6, 2) := by decide +kernel
theorem dX3_refusalToSwap_35 : decode cX3_refusalToSwap 35 = .ok (.ifCond .lt 21, 3) := by decide +kernel
theorem dX3_refusalToSwap_38 : decode cX3_refusalToSwap 38 = .ok (.iload 5, 2) := by decide +kernel
theorem dX3_refusalToSwap_40 : decode cX3_refusalToSwap 40 = .ok (.iload 6, 2) := by decide +kernel
theorem dX3_refusalToSwap_42 : decode cX3_refusalToSwap 42 = .ok (.if_icmp .eq 14, 3) := by decide +kernel
theorem dX3_refusalToSwap_45 : decode cX3_refusalToSwap 45 = .ok (.iload 4, 2) := by decide +kernel
theorem dX3_refusalToSwap_47 : decode cX3_refusalToSwap 47 = .ok (.iconst 1, 1) := by decide +kernel
theorem dX3_refusalToSwap_48 : decode cX3_refusalToSwap 48 = .ok (.bipush 30, 2) := by decide +kernel
theorem dX3_refusalToSwap_50 : decode cX3_refusalToSwap 50 = .ok (.invokestatic 60, 3) := by decide +kernel
theorem dX3_refusalToSwap_53 : decode cX3_refusalToSwap 53 = .ok (.ifCond .ne 7, 3) := by decide +kernel
theorem dX3_refusalToSwap_56 : decode cX3_refusalToSwap 56 = .ok (.getstatic 64, 3) := by decide +kernel
theorem dX3_refusalToSwap_59 : decode cX3_refusalToSwap 59 = .ok (.areturn, 1) := by decide +kernel
theorem dX3_refusalToSwap_60 : decode cX3_refusalToSwap 60 = .ok (.aload_n 0, 1) := by decide +kernel
theorem dX3_refusalToSwap_61 : decode cX3_refusalToSwap 61 = .ok (.getfield 11, 3) := by decide +kernel
theorem dX3_refusalToSwap_64 : decode cX3_refusalToSwap 64 = .ok (.iload_n 1, 1) := by decide +kernel
theorem dX3_refusalToSwap_65 : decode cX3_refusalToSwap 65 = .ok (.aaload, 1) := by decide +kernel
theorem dX3_refusalToSwap_66 : decode cX3_refusalToSwap 66 = .ok (.astore 7, 2) := by decide +kernel
theorem dX3_refusalToSwap_68 : decode cX3_refusalToSwap 68 = .ok (.aload 7, 2) := by decide +kernel
theorem dX3_refusalToSwap_70 : decode cX3_refusalToSwap 70 = .ok (.invokevirtual 97, 3) := by decide +kernel
theorem dX3_refusalToSwap_73 : decode cX3_refusalToSwap 73 = .ok (.ifCond .eq 7, 3) := by decide +kernel
theorem dX3_refusalToSwap_76 : decode cX3_refusalToSwap 76 = .ok (.getstatic 70, 3) := by decide +kernel
theorem dX3_refusalToSwap_79 : decode cX3_refusalToSwap 79 = .ok (.areturn, 1) := by decide +kernel
theorem dX3_refusalToSwap_80 : decode cX3_refusalToSwap 80 = .ok (.iload 4, 2) := by decide +kernel
theorem dX3_refusalToSwap_82 : decode cX3_refusalToSwap 82 = .ok (.aload_n 0, 1) := by decide +kernel
theorem dX3_refusalToSwap_83 : decode cX3_refusalToSwap 83 = .ok (.getfield 17, 3) := by decide +kernel
theorem dX3_refusalToSwap_86 : decode cX3_refusalToSwap 86 = .ok (.iload 5, 2) := by decide +kernel
theorem dX3_refusalToSwap_88 : decode cX3_refusalToSwap 88 = .ok (.iaload, 1) := by decide +kernel
theorem dX3_refusalToSwap_89 : decode cX3_refusalToSwap 89 = .ok (.imul, 1) := by decide +kernel
theorem dX3_refusalToSwap_90 : decode cX3_refusalToSwap 90 = .ok (.aload 7, 2) := by decide +kernel
theorem dX3_refusalToSwap_92 : decode cX3_refusalToSwap 92 = .ok (.getfield 114, 3) := by decide +kernel
theorem dX3_refusalToSwap_95 : decode cX3_refusalToSwap 95 = .ok (.iadd, 1) := by decide +kernel
theorem dX3_refusalToSwap_96 : decode cX3_refusalToSwap 96 = .ok (.aload_n 0, 1) := by decide +kernel
theorem dX3_refusalToSwap_97 : decode cX3_refusalToSwap 97 = .ok (.getfield 17, 3) := by decide +kernel
theorem dX3_refusalToSwap_100 : decode cX3_refusalToSwap 100 = .ok (.iload 6, 2) := by decide +kernel
theorem dX3_refusalToSwap_102 : decode cX3_refusalToSwap 102 = .ok (.iaload, 1) := by decide +kernel
theorem dX3_refusalToSwap_103 : decode cX3_refusalToSwap 103 = .ok (.invokestatic 117, 3) := by decide +kernel
theorem dX3_refusalToSwap_106 : decode cX3_refusalToSwap 106 = .ok (.istore 8, 2) := by decide +kernel
theorem dX3_refusalToSwap_108 : decode cX3_refusalToSwap 108 = .ok (.aload 7, 2) := by decide +kernel
theorem dX3_refusalToSwap_110 : decode cX3_refusalToSwap 110 = .ok (.getfield 94, 3) := by decide +kernel
theorem dX3_refusalToSwap_113 : decode cX3_refusalToSwap 113 = .ok (.iload 5, 2) := by decide +kernel
theorem dX3_refusalToSwap_115 : decode cX3_refusalToSwap 115 = .ok (.iaload, 1) := by decide +kernel
theorem dX3_refusalToSwap_116 : decode cX3_refusalToSwap 116 = .ok (.iload 4, 2) := by decide +kernel
theorem dX3_refusalToSwap_118 : decode cX3_refusalToSwap 118 = .ok (.if_icmp .lt 23, 3) := by decide +kernel
theorem dX3_refusalToSwap_121 : decode cX3_refusalToSwap 121 = .ok (.aload 7, 2) := by decide +kernel
theorem dX3_refusalToSwap_123 : decode cX3_refusalToSwap 123 = .ok (.getfield 94, 3) := by decide +kernel
theorem dX3_refusalToSwap_126 : decode cX3_refusalToSwap 126 = .ok (.iload 6, 2) := by decide +kernel
theorem dX3_refusalToSwap_128 : decode cX3_refusalToSwap 128 = .ok (.iaload, 1) := by decide +kernel
theorem dX3_refusalToSwap_129 : decode cX3_refusalToSwap 129 = .ok (.iload 8, 2) := by decide +kernel
theorem dX3_refusalToSwap_131 : decode cX3_refusalToSwap 131 = .ok (.iadd, 1) := by decide +kernel
theorem dX3_refusalToSwap_132 : decode cX3_refusalToSwap 132 = .ok (.bipush 99, 2) := by decide +kernel
theorem dX3_refusalToSwap_134 : decode cX3_refusalToSwap 134 = .ok (.if_icmp .gt 7, 3) := by decide +kernel
theorem dX3_refusalToSwap_137 : decode cX3_refusalToSwap 137 = .ok (.iconst 1, 1) := by decide +kernel
theorem dX3_refusalToSwap_138 : decode cX3_refusalToSwap 138 = .ok (.goto 4, 3) := by decide +kernel
theorem dX3_refusalToSwap_141 : decode cX3_refusalToSwap 141 = .ok (.iconst 0, 1) := by decide +kernel
theorem dX3_refusalToSwap_142 : decode cX3_refusalToSwap 142 = .ok (.istore 9, 2) := by decide +kernel
theorem dX3_refusalToSwap_144 : decode cX3_refusalToSwap 144 = .ok (.iload 9, 2) := by decide +kernel
theorem dX3_refusalToSwap_146 : decode cX3_refusalToSwap 146 = .ok (.ifCond .eq 9, 3) := by decide +kernel
theorem dX3_refusalToSwap_149 : decode cX3_refusalToSwap 149 = .ok (.getstatic 73, 3) := by decide +kernel
theorem dX3_refusalToSwap_152 : decode cX3_refusalToSwap 152 = .ok (.goto 6, 3) := by decide +kernel
theorem dX3_refusalToSwap_155 : decode cX3_refusalToSwap 155 = .ok (.getstatic 111, 3) := by decide +kernel
theorem dX3_refusalToSwap_158 : decode cX3_refusalToSwap 158 = .ok (.areturn, 1) := by decide +kernel
theorem dX3_swap_0 : decode cX3_swap 0 = .ok (.ldc 86, 2) := by decide +kernel
theorem dX3_swap_2 : decode cX3_swap 2 = .ok (.iload_n 2, 1) := by decide +kernel
theorem dX3_swap_3 : decode cX3_swap 3 = .ok (.invokevirtual 88, 3) := by decide +kernel
theorem dX3_swap_6 : decode cX3_swap 6 = .ok (.istore 5, 2) := by decide +kernel
theorem dX3_swap_8 : decode cX3_swap 8 = .ok (.ldc 86, 2) := by decide +kernel
theorem dX3_swap_10 : decode cX3_swap 10 = .ok (.iload_n 3, 1) := by decide +kernel
theorem dX3_swap_11 : decode cX3_swap 11 = .ok (.invokevirtual 88, 3) := by decide +kernel
theorem dX3_swap_14 : decode cX3_swap 14 = .ok (.istore 6, 2) := by decide +kernel
theorem dX3_swap_16 : decode cX3_swap 16 = .ok (.aload_n 0, 1) := by decide +kernel
theorem dX3_swap_17 : decode cX3_swap 17 = .ok (.getfield 11, 3) := by decide +kernel
theorem dX3_swap_20 : decode cX3_swap 20 = .ok (.iload_n 1, 1) := by decide +kernel
theorem dX3_swap_21 : decode cX3_swap 21 = .ok (.aaload, 1) := by decide +kernel
theorem dX3_swap_22 : decode cX3_swap 22 = .ok (.astore 7, 2) := by decide +kernel
theorem dX3_swap_24 : decode cX3_swap 24 = .ok (.iload 4, 2) := by decide +kernel
theorem dX3_swap_26 : decode cX3_swap 26 = .ok (.aload_n 0, 1) := by decide +kernel
theorem dX3_swap_27 : decode cX3_swap 27 = .ok (.getfield 17, 3) := by decide +kernel
theorem dX3_swap_30 : decode cX3_swap 30 = .ok (.iload 5, 2) := by decide +kernel
theorem dX3_swap_32 : decode cX3_swap 32 = .ok (.iaload, 1) := by decide +kernel
theorem dX3_swap_33 : decode cX3_swap 33 = .ok (.imul, 1) := by decide +kernel
theorem dX3_swap_34 : decode cX3_swap 34 = .ok (.aload 7, 2) := by decide +kernel
theorem dX3_swap_36 : decode cX3_swap 36 = .ok (.getfield 114, 3) := by decide +kernel
theorem dX3_swap_39 : decode cX3_swap 39 = .ok (.iadd, 1) := by decide +kernel
theorem dX3_swap_40 : decode cX3_swap 40 = .ok (.istore 8, 2) := by decide +kernel
theorem dX3_swap_42 : decode cX3_swap 42 = .ok (.iload 8, 2) := by decide +kernel
theorem dX3_swap_44 : decode cX3_swap 44 = .ok (.aload_n 0, 1) := by decide +kernel
theorem dX3_swap_45 : decode cX3_swap 45 = .ok (.getfield 17, 3) := by decide +kernel
theorem dX3_swap_48 : decode cX3_swap 48 = .ok (.iload 6, 2) := by decide +kernel
theorem dX3_swap_50 : decode cX3_swap 50 = .ok (.iaload, 1) := by decide +kernel
theorem dX3_swap_51 : decode cX3_swap 51 = .ok (.invokestatic 117, 3) := by decide +kernel
theorem dX3_swap_54 : decode cX3_swap 54 = .ok (.istore 9, 2) := by decide +kernel
theorem dX3_swap_56 : decode cX3_swap 56 = .ok (.aload 7, 2) := by decide +kernel
theorem dX3_swap_58 : decode cX3_swap 58 = .ok (.getfield 94, 3) := by decide +kernel
theorem dX3_swap_61 : decode cX3_swap 61 = .ok (.iload 5, 2) := by decide +kernel
theorem dX3_swap_63 : decode cX3_swap 63 = .ok (.dup2, 1) := by decide +kernel
theorem dX3_swap_64 : decode cX3_swap 64 = .ok (.iaload, 1) := by decide +kernel
theorem dX3_swap_65 : decode cX3_swap 65 = .ok (.iload 4, 2) := by decide +kernel
theorem dX3_swap_67 : decode cX3_swap 67 = .ok (.isub, 1) := by decide +kernel
theorem dX3_swap_68 : decode cX3_swap 68 = .ok (.iastore, 1) := by decide +kernel
theorem dX3_swap_69 : decode cX3_swap 69 = .ok (.aload 7, 2) := by decide +kernel
theorem dX3_swap_71 : decode cX3_swap 71 = .ok (.getfield 94, 3) := by decide +kernel
theorem dX3_swap_74 : decode cX3_swap 74 = .ok (.iload 6, 2) := by decide +kernel
theorem dX3_swap_76 : decode cX3_swap 76 = .ok (.dup2, 1) := by decide +kernel
theorem dX3_swap_77 : decode cX3_swap 77 = .ok (.iaload, 1) := by decide +kernel
theorem dX3_swap_78 : decode cX3_swap 78 = .ok (.iload 9, 2) := by decide +kernel
theorem dX3_swap_80 : decode cX3_swap 80 = .ok (.iadd, 1) := by decide +kernel
theorem dX3_swap_81 : decode cX3_swap 81 = .ok (.iastore, 1) := by decide +kernel
theorem dX3_swap_82 : decode cX3_swap 82 = .ok (.aload 7, 2) := by decide +kernel
theorem dX3_swap_84 : decode cX3_swap 84 = .ok (.iload 8, 2) := by decide +kernel
theorem dX3_swap_86 : decode cX3_swap 86 = .ok (.iload 9, 2) := by decide +kernel
theorem dX3_swap_88 : decode cX3_swap 88 = .ok (.aload_n 0, 1) := by decide +kernel
theorem dX3_swap_89 : decode cX3_swap 89 = .ok (.getfield 17, 3) := by decide +kernel
theorem dX3_swap_92 : decode cX3_swap 92 = .ok (.iload 6, 2) := by decide +kernel
theorem dX3_swap_94 : decode cX3_swap 94 = .ok (.iaload, 1) := by decide +kernel
theorem dX3_swap_95 : decode cX3_swap 95 = .ok (.imul, 1) := by decide +kernel
theorem dX3_swap_96 : decode cX3_swap 96 = .ok (.isub, 1) := by decide +kernel
theorem dX3_swap_97 : decode cX3_swap 97 = .ok (.putfield 114, 3) := by decide +kernel
theorem dX3_swap_100 : decode cX3_swap 100 = .ok (.aload_n 0, 1) := by decide +kernel
theorem dX3_swap_101 : decode cX3_swap 101 = .ok (.getfield 24, 3) := by decide +kernel
theorem dX3_swap_104 : decode cX3_swap 104 = .ok (.iload 5, 2) := by decide +kernel
theorem dX3_swap_106 : decode cX3_swap 106 = .ok (.dup2, 1) := by decide +kernel
theorem dX3_swap_107 : decode cX3_swap 107 = .ok (.iaload, 1) := by decide +kernel
theorem dX3_swap_108 : decode cX3_swap 108 = .ok (.iload 4, 2) := by decide +kernel
theorem dX3_swap_110 : decode cX3_swap 110 = .ok (.iadd, 1) := by decide +kernel
theorem dX3_swap_111 : decode cX3_swap 111 = .ok (.iastore, 1) := by decide +kernel
theorem dX3_swap_112 : decode cX3_swap 112 = .ok (.aload_n 0, 1) := by decide +kernel
theorem dX3_swap_113 : decode cX3_swap 113 = .ok (.getfield 21, 3) := by decide +kernel
theorem dX3_swap_116 : decode cX3_swap 116 = .ok (.iload 6, 2) := by decide +kernel
theorem dX3_swap_118 : decode cX3_swap 118 = .ok (.dup2, 1) := by decide +kernel
theorem dX3_swap_119 : decode cX3_swap 119 = .ok (.iaload, 1) := by decide +kernel
theorem dX3_swap_120 : decode cX3_swap 120 = .ok (.iload 9, 2) := by decide +kernel
theorem dX3_swap_122 : decode cX3_swap 122 = .ok (.iadd, 1) := by decide +kernel
theorem dX3_swap_123 : decode cX3_swap 123 = .ok (.iastore, 1) := by decide +kernel
theorem dX3_swap_124 : decode cX3_swap 124 = .ok (.iload 9, 2) := by decide +kernel
theorem dX3_swap_126 : decode cX3_swap 126 = .ok (.ireturn, 1) := by decide +kernel
theorem dX3_refusalToIssue_0 : decode cX3_refusalToIssue 0 = .ok (.aload_n 0, 1) := by decide +kernel
theorem dX3_refusalToIssue_1 : decode cX3_refusalToIssue 1 = .ok (.iload_n 1, 1) := by decide +kernel
theorem dX3_refusalToIssue_2 : decode cX3_refusalToIssue 2 = .ok (.invokevirtual 79, 3) := by decide +kernel
theorem dX3_refusalToIssue_5 : decode cX3_refusalToIssue 5 = .ok (.ifCond .ne 7, 3) := by decide +kernel
theorem dX3_refusalToIssue_8 : decode cX3_refusalToIssue 8 = .ok (.getstatic 83, 3) := by decide +kernel
theorem dX3_refusalToIssue_11 : decode cX3_refusalToIssue 11 = .ok (.areturn, 1) := by decide +kernel
theorem dX3_refusalToIssue_12 : decode cX3_refusalToIssue 12 = .ok (.iload_n 2, 1) := by decide +kernel
theorem dX3_refusalToIssue_13 : decode cX3_refusalToIssue 13 = .ok (.iconst 1, 1) := by decide +kernel
theorem dX3_refusalToIssue_14 : decode cX3_refusalToIssue 14 = .ok (.bipush 99, 2) := by decide +kernel
theorem dX3_refusalToIssue_16 : decode cX3_refusalToIssue 16 = .ok (.invokestatic 60, 3) := by decide +kernel
theorem dX3_refusalToIssue_19 : decode cX3_refusalToIssue 19 = .ok (.ifCond .ne 7, 3) := by decide +kernel
theorem dX3_refusalToIssue_22 : decode cX3_refusalToIssue 22 = .ok (.getstatic 64, 3) := by decide +kernel
theorem dX3_refusalToIssue_25 : decode cX3_refusalToIssue 25 = .ok (.areturn, 1) := by decide +kernel
theorem dX3_refusalToIssue_26 : decode cX3_refusalToIssue 26 = .ok (.aload_n 0, 1) := by decide +kernel
theorem dX3_refusalToIssue_27 : decode cX3_refusalToIssue 27 = .ok (.getfield 11, 3) := by decide +kernel
theorem dX3_refusalToIssue_30 : decode cX3_refusalToIssue 30 = .ok (.iload_n 1, 1) := by decide +kernel
theorem dX3_refusalToIssue_31 : decode cX3_refusalToIssue 31 = .ok (.aaload, 1) := by decide +kernel
theorem dX3_refusalToIssue_32 : decode cX3_refusalToIssue 32 = .ok (.invokevirtual 97, 3) := by decide +kernel
theorem dX3_refusalToIssue_35 : decode cX3_refusalToIssue 35 = .ok (.ifCond .eq 7, 3) := by decide +kernel
theorem dX3_refusalToIssue_38 : decode cX3_refusalToIssue 38 = .ok (.getstatic 70, 3) := by decide +kernel
theorem dX3_refusalToIssue_41 : decode cX3_refusalToIssue 41 = .ok (.areturn, 1) := by decide +kernel
theorem dX3_refusalToIssue_42 : decode cX3_refusalToIssue 42 = .ok (.iload_n 2, 1) := by decide +kernel
theorem dX3_refusalToIssue_43 : decode cX3_refusalToIssue 43 = .ok (.aload_n 0, 1) := by decide +kernel
theorem dX3_refusalToIssue_44 : decode cX3_refusalToIssue 44 = .ok (.getfield 11, 3) := by decide +kernel
theorem dX3_refusalToIssue_47 : decode cX3_refusalToIssue 47 = .ok (.iload_n 1, 1) := by decide +kernel
theorem dX3_refusalToIssue_48 : decode cX3_refusalToIssue 48 = .ok (.aaload, 1) := by decide +kernel
theorem dX3_refusalToIssue_49 : decode cX3_refusalToIssue 49 = .ok (.aload_n 0, 1) := by decide +kernel
theorem dX3_refusalToIssue_50 : decode cX3_refusalToIssue 50 = .ok (.getfield 17, 3) := by decide +kernel
theorem dX3_refusalToIssue_53 : decode cX3_refusalToIssue 53 = .ok (.invokevirtual 121, 3) := by decide +kernel
theorem dX3_refusalToIssue_56 : decode cX3_refusalToIssue 56 = .ok (.if_icmp .le 9, 3) := by decide +kernel
theorem dX3_refusalToIssue_59 : decode cX3_refusalToIssue 59 = .ok (.getstatic 111, 3) := by decide +kernel
theorem dX3_refusalToIssue_62 : decode cX3_refusalToIssue 62 = .ok (.goto 6, 3) := by decide +kernel
theorem dX3_refusalToIssue_65 : decode cX3_refusalToIssue 65 = .ok (.getstatic 73, 3) := by decide +kernel
theorem dX3_refusalToIssue_68 : decode cX3_refusalToIssue 68 = .ok (.areturn, 1) := by decide +kernel
theorem dX3_issue_0 : decode cX3_issue 0 = .ok (.aload_n 0, 1) := by decide +kernel
theorem dX3_issue_1 : decode cX3_issue 1 = .ok (.getfield 11, 3) := by decide +kernel
theorem dX3_issue_4 : decode cX3_issue 4 = .ok (.iload_n 1, 1) := by decide +kernel
theorem dX3_issue_5 : decode cX3_issue 5 = .ok (.aaload, 1) := by decide +kernel
theorem dX3_issue_6 : decode cX3_issue 6 = .ok (.dup, 1) := by decide +kernel
theorem dX3_issue_7 : decode cX3_issue 7 = .ok (.getfield 105, 3) := by decide +kernel
theorem dX3_issue_10 : decode cX3_issue 10 = .ok (.iload_n 2, 1) := by decide +kernel
theorem dX3_issue_11 : decode cX3_issue 11 = .ok (.iadd, 1) := by decide +kernel
theorem dX3_issue_12 : decode cX3_issue 12 = .ok (.putfield 105, 3) := by decide +kernel
theorem dX3_issue_15 : decode cX3_issue 15 = .ok (.aload_n 0, 1) := by decide +kernel
theorem dX3_issue_16 : decode cX3_issue 16 = .ok (.dup, 1) := by decide +kernel
theorem dX3_issue_17 : decode cX3_issue 17 = .ok (.getfield 34, 3) := by decide +kernel
theorem dX3_issue_20 : decode cX3_issue 20 = .ok (.iload_n 2, 1) := by decide +kernel
theorem dX3_issue_21 : decode cX3_issue 21 = .ok (.iadd, 1) := by decide +kernel
theorem dX3_issue_22 : decode cX3_issue 22 = .ok (.putfield 34, 3) := by decide +kernel
theorem dX3_issue_25 : decode cX3_issue 25 = .ok (.aload_n 0, 1) := by decide +kernel
theorem dX3_issue_26 : decode cX3_issue 26 = .ok (.getfield 11, 3) := by decide +kernel
theorem dX3_issue_29 : decode cX3_issue 29 = .ok (.iload_n 1, 1) := by decide +kernel
theorem dX3_issue_30 : decode cX3_issue 30 = .ok (.aaload, 1) := by decide +kernel
theorem dX3_issue_31 : decode cX3_issue 31 = .ok (.getfield 105, 3) := by decide +kernel
theorem dX3_issue_34 : decode cX3_issue 34 = .ok (.ireturn, 1) := by decide +kernel
theorem dX3_refusalToMelt_0 : decode cX3_refusalToMelt 0 = .ok (.aload_n 0, 1) := by decide +kernel
theorem dX3_refusalToMelt_1 : decode cX3_refusalToMelt 1 = .ok (.iload_n 1, 1) := by decide +kernel
theorem dX3_refusalToMelt_2 : decode cX3_refusalToMelt 2 = .ok (.invokevirtual 79, 3) := by decide +kernel
theorem dX3_refusalToMelt_5 : decode cX3_refusalToMelt 5 = .ok (.ifCond .ne 7, 3) := by decide +kernel
theorem dX3_refusalToMelt_8 : decode cX3_refusalToMelt 8 = .ok (.getstatic 83, 3) := by decide +kernel
theorem dX3_refusalToMelt_11 : decode cX3_refusalToMelt 11 = .ok (.areturn, 1) := by decide +kernel
theorem dX3_refusalToMelt_12 : decode cX3_refusalToMelt 12 = .ok (.iload_n 2, 1) := by decide +kernel
theorem dX3_refusalToMelt_13 : decode cX3_refusalToMelt 13 = .ok (.iconst 1, 1) := by decide +kernel
theorem dX3_refusalToMelt_14 : decode cX3_refusalToMelt 14 = .ok (.bipush 99, 2) := by decide +kernel
theorem dX3_refusalToMelt_16 : decode cX3_refusalToMelt 16 = .ok (.invokestatic 60, 3) := by decide +kernel
theorem dX3_refusalToMelt_19 : decode cX3_refusalToMelt 19 = .ok (.ifCond .ne 7, 3) := by decide +kernel
theorem dX3_refusalToMelt_22 : decode cX3_refusalToMelt 22 = .ok (.getstatic 64, 3) := by decide +kernel
theorem dX3_refusalToMelt_25 : decode cX3_refusalToMelt 25 = .ok (.areturn, 1) := by decide +kernel
theorem dX3_refusalToMelt_26 : decode cX3_refusalToMelt 26 = .ok (.aload_n 0, 1) := by decide +kernel
theorem dX3_refusalToMelt_27 : decode cX3_refusalToMelt 27 = .ok (.getfield 11, 3) := by decide +kernel
theorem dX3_refusalToMelt_30 : decode cX3_refusalToMelt 30 = .ok (.iload_n 1, 1) := by decide +kernel
theorem dX3_refusalToMelt_31 : decode cX3_refusalToMelt 31 = .ok (.aaload, 1) := by decide +kernel
theorem dX3_refusalToMelt_32 : decode cX3_refusalToMelt 32 = .ok (.getfield 105, 3) := by decide +kernel
theorem dX3_refusalToMelt_35 : decode cX3_refusalToMelt 35 = .ok (.iload_n 2, 1) := by decide +kernel
theorem dX3_refusalToMelt_36 : decode cX3_refusalToMelt 36 = .ok (.if_icmp .ge 9, 3) := by decide +kernel
theorem dX3_refusalToMelt_39 : decode cX3_refusalToMelt 39 = .ok (.getstatic 111, 3) := by decide +kernel
theorem dX3_refusalToMelt_42 : decode cX3_refusalToMelt 42 = .ok (.goto 6, 3) := by decide +kernel
theorem dX3_refusalToMelt_45 : decode cX3_refusalToMelt 45 = .ok (.getstatic 73, 3) := by decide +kernel
theorem dX3_refusalToMelt_48 : decode cX3_refusalToMelt 48 = .ok (.areturn, 1) := by decide +kernel
theorem dX3_melt_0 : decode cX3_melt 0 = .ok (.aload_n 0, 1) := by decide +kernel
theorem dX3_melt_1 : decode cX3_melt 1 = .ok (.getfield 11, 3) := by decide +kernel
theorem dX3_melt_4 : decode cX3_melt 4 = .ok (.iload_n 1, 1) := by decide +kernel
theorem dX3_melt_5 : decode cX3_melt 5 = .ok (.aaload, 1) := by decide +kernel
theorem dX3_melt_6 : decode cX3_melt 6 = .ok (.dup, 1) := by decide +kernel
theorem dX3_melt_7 : decode cX3_melt 7 = .ok (.getfield 105, 3) := by decide +kernel
theorem dX3_melt_10 : decode cX3_melt 10 = .ok (.iload_n 2, 1) := by decide +kernel
theorem dX3_melt_11 : decode cX3_melt 11 = .ok (.isub, 1) := by decide +kernel
theorem dX3_melt_12 : decode cX3_melt 12 = .ok (.putfield 105, 3) := by decide +kernel
theorem dX3_melt_15 : decode cX3_melt 15 = .ok (.aload_n 0, 1) := by decide +kernel
theorem dX3_melt_16 : decode cX3_melt 16 = .ok (.dup, 1) := by decide +kernel
theorem dX3_melt_17 : decode cX3_melt 17 = .ok (.getfield 37, 3) := by decide +kernel
theorem dX3_melt_20 : decode cX3_melt 20 = .ok (.iload_n 2, 1) := by decide +kernel
theorem dX3_melt_21 : decode cX3_melt 21 = .ok (.iadd, 1) := by decide +kernel
theorem dX3_melt_22 : decode cX3_melt 22 = .ok (.putfield 37, 3) := by decide +kernel
theorem dX3_melt_25 : decode cX3_melt 25 = .ok (.aload_n 0, 1) := by decide +kernel
theorem dX3_melt_26 : decode cX3_melt 26 = .ok (.getfield 11, 3) := by decide +kernel
theorem dX3_melt_29 : decode cX3_melt 29 = .ok (.iload_n 1, 1) := by decide +kernel
theorem dX3_melt_30 : decode cX3_melt 30 = .ok (.aaload, 1) := by decide +kernel
theorem dX3_melt_31 : decode cX3_melt 31 = .ok (.getfield 105, 3) := by decide +kernel
theorem dX3_melt_34 : decode cX3_melt 34 = .ok (.ireturn, 1) := by decide +kernel
theorem dX3_refusalToInspect_0 : decode cX3_refusalToInspect 0 = .ok (.aload_n 0, 1) := by decide +kernel
theorem dX3_refusalToInspect_1 : decode cX3_refusalToInspect 1 = .ok (.iload_n 1, 1) := by decide +kernel
theorem dX3_refusalToInspect_2 : decode cX3_refusalToInspect 2 = .ok (.invokevirtual 79, 3) := by decide +kernel
theorem dX3_refusalToInspect_5 : decode cX3_refusalToInspect 5 = .ok (.ifCond .ne 7, 3) := by decide +kernel
theorem dX3_refusalToInspect_8 : decode cX3_refusalToInspect 8 = .ok (.getstatic 83, 3) := by decide +kernel
theorem dX3_refusalToInspect_11 : decode cX3_refusalToInspect 11 = .ok (.areturn, 1) := by decide +kernel
theorem dX3_refusalToInspect_12 : decode cX3_refusalToInspect 12 = .ok (.aload_n 0, 1) := by decide +kernel
theorem dX3_refusalToInspect_13 : decode cX3_refusalToInspect 13 = .ok (.getfield 11, 3) := by decide +kernel
theorem dX3_refusalToInspect_16 : decode cX3_refusalToInspect 16 = .ok (.iload_n 1, 1) := by decide +kernel
theorem dX3_refusalToInspect_17 : decode cX3_refusalToInspect 17 = .ok (.aaload, 1) := by decide +kernel
theorem dX3_refusalToInspect_18 : decode cX3_refusalToInspect 18 = .ok (.invokevirtual 97, 3) := by decide +kernel
theorem dX3_refusalToInspect_21 : decode cX3_refusalToInspect 21 = .ok (.ifCond .eq 9, 3) := by decide +kernel
theorem dX3_refusalToInspect_24 : decode cX3_refusalToInspect 24 = .ok (.getstatic 70, 3) := by decide +kernel
theorem dX3_refusalToInspect_27 : decode cX3_refusalToInspect 27 = .ok (.goto 6, 3) := by decide +kernel
theorem dX3_refusalToInspect_30 : decode cX3_refusalToInspect 30 = .ok (.getstatic 73, 3) := by decide +kernel
theorem dX3_refusalToInspect_33 : decode cX3_refusalToInspect 33 = .ok (.areturn, 1) := by decide +kernel
theorem dX3_inspect_0 : decode cX3_inspect 0 = .ok (.aload_n 0, 1) := by decide +kernel
theorem dX3_inspect_1 : decode cX3_inspect 1 = .ok (.getfield 11, 3) := by decide +kernel
theorem dX3_inspect_4 : decode cX3_inspect 4 = .ok (.iload_n 1, 1) := by decide +kernel
theorem dX3_inspect_5 : decode cX3_inspect 5 = .ok (.aaload, 1) := by decide +kernel
theorem dX3_inspect_6 : decode cX3_inspect 6 = .ok (.aload_n 0, 1) := by decide +kernel
theorem dX3_inspect_7 : decode cX3_inspect 7 = .ok (.getfield 17, 3) := by decide +kernel
theorem dX3_inspect_10 : decode cX3_inspect 10 = .ok (.invokevirtual 124, 3) := by decide +kernel
theorem dX3_inspect_13 : decode cX3_inspect 13 = .ok (.istore_n 2, 1) := by decide +kernel
theorem dX3_inspect_14 : decode cX3_inspect 14 = .ok (.aload_n 0, 1) := by decide +kernel
theorem dX3_inspect_15 : decode cX3_inspect 15 = .ok (.dup, 1) := by decide +kernel
theorem dX3_inspect_16 : decode cX3_inspect 16 = .ok (.getfield 43, 3) := by decide +kernel
theorem dX3_inspect_19 : decode cX3_inspect 19 = .ok (.iconst 1, 1) := by decide +kernel
theorem dX3_inspect_20 : decode cX3_inspect 20 = .ok (.iadd, 1) := by decide +kernel
theorem dX3_inspect_21 : decode cX3_inspect 21 = .ok (.putfield 43, 3) := by decide +kernel
theorem dX3_inspect_24 : decode cX3_inspect 24 = .ok (.iload_n 2, 1) := by decide +kernel
theorem dX3_inspect_25 : decode cX3_inspect 25 = .ok (.ifCond .eq 25, 3) := by decide +kernel
theorem dX3_inspect_28 : decode cX3_inspect 28 = .ok (.aload_n 0, 1) := by decide +kernel
theorem dX3_inspect_29 : decode cX3_inspect 29 = .ok (.dup, 1) := by decide +kernel
theorem dX3_inspect_30 : decode cX3_inspect 30 = .ok (.getfield 46, 3) := by decide +kernel
theorem dX3_inspect_33 : decode cX3_inspect 33 = .ok (.iconst 1, 1) := by decide +kernel
theorem dX3_inspect_34 : decode cX3_inspect 34 = .ok (.iadd, 1) := by decide +kernel
theorem dX3_inspect_35 : decode cX3_inspect 35 = .ok (.putfield 46, 3) := by decide +kernel
theorem dX3_inspect_38 : decode cX3_inspect 38 = .ok (.aload_n 0, 1) := by decide +kernel
theorem dX3_inspect_39 : decode cX3_inspect 39 = .ok (.getfield 11, 3) := by decide +kernel
theorem dX3_inspect_42 : decode cX3_inspect 42 = .ok (.iload_n 1, 1) := by decide +kernel
theorem dX3_inspect_43 : decode cX3_inspect 43 = .ok (.aaload, 1) := by decide +kernel
theorem dX3_inspect_44 : decode cX3_inspect 44 = .ok (.invokevirtual 128, 3) := by decide +kernel
theorem dX3_inspect_47 : decode cX3_inspect 47 = .ok (.goto 12, 3) := by decide +kernel
theorem dX3_inspect_50 : decode cX3_inspect 50 = .ok (.aload_n 0, 1) := by decide +kernel
theorem dX3_inspect_51 : decode cX3_inspect 51 = .ok (.getfield 11, 3) := by decide +kernel
theorem dX3_inspect_54 : decode cX3_inspect 54 = .ok (.iload_n 1, 1) := by decide +kernel
theorem dX3_inspect_55 : decode cX3_inspect 55 = .ok (.aaload, 1) := by decide +kernel
theorem dX3_inspect_56 : decode cX3_inspect 56 = .ok (.invokevirtual 131, 3) := by decide +kernel
theorem dX3_inspect_59 : decode cX3_inspect 59 = .ok (.iload_n 2, 1) := by decide +kernel
theorem dX3_inspect_60 : decode cX3_inspect 60 = .ok (.ireturn, 1) := by decide +kernel
theorem dX3_refusalToRate_0 : decode cX3_refusalToRate 0 = .ok (.ldc 86, 2) := by decide +kernel
theorem dX3_refusalToRate_2 : decode cX3_refusalToRate 2 = .ok (.iload_n 1, 1) := by decide +kernel
theorem dX3_refusalToRate_3 : decode cX3_refusalToRate 3 = .ok (.invokevirtual 88, 3) := by decide +kernel
theorem dX3_refusalToRate_6 : decode cX3_refusalToRate 6 = .ok (.ifCond .lt 17, 3) := by decide +kernel
theorem dX3_refusalToRate_9 : decode cX3_refusalToRate 9 = .ok (.iload_n 2, 1) := by decide +kernel
theorem dX3_refusalToRate_10 : decode cX3_refusalToRate 10 = .ok (.iconst 1, 1) := by decide +kernel
theorem dX3_refusalToRate_11 : decode cX3_refusalToRate 11 = .ok (.bipush 50, 2) := by decide +kernel
theorem dX3_refusalToRate_13 : decode cX3_refusalToRate 13 = .ok (.invokestatic 60, 3) := by decide +kernel
theorem dX3_refusalToRate_16 : decode cX3_refusalToRate 16 = .ok (.ifCond .eq 7, 3) := by decide +kernel
theorem dX3_refusalToRate_19 : decode cX3_refusalToRate 19 = .ok (.iconst 1, 1) := by decide +kernel
theorem dX3_refusalToRate_20 : decode cX3_refusalToRate 20 = .ok (.goto 4, 3) := by decide +kernel
theorem dX3_refusalToRate_23 : decode cX3_refusalToRate 23 = .ok (.iconst 0, 1) := by decide +kernel
theorem dX3_refusalToRate_24 : decode cX3_refusalToRate 24 = .ok (.istore_n 3, 1) := by decide +kernel
theorem dX3_refusalToRate_25 : decode cX3_refusalToRate 25 = .ok (.iload_n 3, 1) := by decide +kernel
theorem dX3_refusalToRate_26 : decode cX3_refusalToRate 26 = .ok (.ifCond .eq 9, 3) := by decide +kernel
theorem dX3_refusalToRate_29 : decode cX3_refusalToRate 29 = .ok (.getstatic 73, 3) := by decide +kernel
theorem dX3_refusalToRate_32 : decode cX3_refusalToRate 32 = .ok (.goto 6, 3) := by decide +kernel
theorem dX3_refusalToRate_35 : decode cX3_refusalToRate 35 = .ok (.getstatic 64, 3) := by decide +kernel
theorem dX3_refusalToRate_38 : decode cX3_refusalToRate 38 = .ok (.areturn, 1) := by decide +kernel
theorem dX3_changeRate_0 : decode cX3_changeRate 0 = .ok (.ldc 86, 2) := by decide +kernel
theorem dX3_changeRate_2 : decode cX3_changeRate 2 = .ok (.iload_n 1, 1) := by decide +kernel
theorem dX3_changeRate_3 : decode cX3_changeRate 3 = .ok (.invokevirtual 88, 3) := by decide +kernel
theorem dX3_changeRate_6 : decode cX3_changeRate 6 = .ok (.istore_n 3, 1) := by decide +kernel
theorem dX3_changeRate_7 : decode cX3_changeRate 7 = .ok (.aload_n 0, 1) := by decide +kernel
theorem dX3_changeRate_8 : decode cX3_changeRate 8 = .ok (.getfield 17, 3) := by decide +kernel
theorem dX3_changeRate_11 : decode cX3_changeRate 11 = .ok (.iload_n 3, 1) := by decide +kernel
theorem dX3_changeRate_12 : decode cX3_changeRate 12 = .ok (.iaload, 1) := by decide +kernel
theorem dX3_changeRate_13 : decode cX3_changeRate 13 = .ok (.istore 4, 2) := by decide +kernel
theorem dX3_changeRate_15 : decode cX3_changeRate 15 = .ok (.aload_n 0, 1) := by decide +kernel
theorem dX3_changeRate_16 : decode cX3_changeRate 16 = .ok (.getfield 17, 3) := by decide +kernel
theorem dX3_changeRate_19 : decode cX3_changeRate 19 = .ok (.iload_n 3, 1) := by decide +kernel
theorem dX3_changeRate_20 : decode cX3_changeRate 20 = .ok (.iload_n 2, 1) := by decide +kernel
theorem dX3_changeRate_21 : decode cX3_changeRate 21 = .ok (.iastore, 1) := by decide +kernel
theorem dX3_changeRate_22 : decode cX3_changeRate 22 = .ok (.iload 4, 2) := by decide +kernel
theorem dX3_changeRate_24 : decode cX3_changeRate 24 = .ok (.ireturn, 1) := by decide +kernel
theorem dX3_refusalToStick_0 : decode cX3_refusalToStick 0 = .ok (.aload_n 0, 1) := by decide +kernel
theorem dX3_refusalToStick_1 : decode cX3_refusalToStick 1 = .ok (.iload_n 1, 1) := by decide +kernel
theorem dX3_refusalToStick_2 : decode cX3_refusalToStick 2 = .ok (.invokevirtual 79, 3) := by decide +kernel
theorem dX3_refusalToStick_5 : decode cX3_refusalToStick 5 = .ok (.ifCond .ne 7, 3) := by decide +kernel
theorem dX3_refusalToStick_8 : decode cX3_refusalToStick 8 = .ok (.getstatic 83, 3) := by decide +kernel
theorem dX3_refusalToStick_11 : decode cX3_refusalToStick 11 = .ok (.areturn, 1) := by decide +kernel
theorem dX3_refusalToStick_12 : decode cX3_refusalToStick 12 = .ok (.iload_n 2, 1) := by decide +kernel
theorem dX3_refusalToStick_13 : decode cX3_refusalToStick 13 = .ok (.iconst 0, 1) := by decide +kernel
theorem dX3_refusalToStick_14 : decode cX3_refusalToStick 14 = .ok (.bipush 9, 2) := by decide +kernel
theorem dX3_refusalToStick_16 : decode cX3_refusalToStick 16 = .ok (.invokestatic 60, 3) := by decide +kernel
theorem dX3_refusalToStick_19 : decode cX3_refusalToStick 19 = .ok (.ifCond .eq 9, 3) := by decide +kernel
theorem dX3_refusalToStick_22 : decode cX3_refusalToStick 22 = .ok (.getstatic 73, 3) := by decide +kernel
theorem dX3_refusalToStick_25 : decode cX3_refusalToStick 25 = .ok (.goto 6, 3) := by decide +kernel
theorem dX3_refusalToStick_28 : decode cX3_refusalToStick 28 = .ok (.getstatic 64, 3) := by decide +kernel
theorem dX3_refusalToStick_31 : decode cX3_refusalToStick 31 = .ok (.areturn, 1) := by decide +kernel
theorem dX3_changeStickiness_0 : decode cX3_changeStickiness 0 = .ok (.aload_n 0, 1) := by decide +kernel
theorem dX3_changeStickiness_1 : decode cX3_changeStickiness 1 = .ok (.getfield 11, 3) := by decide +kernel
theorem dX3_changeStickiness_4 : decode cX3_changeStickiness 4 = .ok (.iload_n 1, 1) := by decide +kernel
theorem dX3_changeStickiness_5 : decode cX3_changeStickiness 5 = .ok (.aaload, 1) := by decide +kernel
theorem dX3_changeStickiness_6 : decode cX3_changeStickiness 6 = .ok (.getfield 76, 3) := by decide +kernel
theorem dX3_changeStickiness_9 : decode cX3_changeStickiness 9 = .ok (.istore_n 3, 1) := by decide +kernel
theorem dX3_changeStickiness_10 : decode cX3_changeStickiness 10 = .ok (.aload_n 0, 1) := by decide +kernel
theorem dX3_changeStickiness_11 : decode cX3_changeStickiness 11 = .ok (.getfield 11, 3) := by decide +kernel
theorem dX3_changeStickiness_14 : decode cX3_changeStickiness 14 = .ok (.iload_n 1, 1) := by decide +kernel
theorem dX3_changeStickiness_15 : decode cX3_changeStickiness 15 = .ok (.aaload, 1) := by decide +kernel
theorem dX3_changeStickiness_16 : decode cX3_changeStickiness 16 = .ok (.iload_n 2, 1) := by decide +kernel
theorem dX3_changeStickiness_17 : decode cX3_changeStickiness 17 = .ok (.putfield 76, 3) := by decide +kernel
theorem dX3_changeStickiness_20 : decode cX3_changeStickiness 20 = .ok (.iload_n 3, 1) := by decide +kernel
theorem dX3_changeStickiness_21 : decode cX3_changeStickiness 21 = .ok (.ireturn, 1) := by decide +kernel
theorem dX3_refusalToWait_0 : decode cX3_refusalToWait 0 = .ok (.iload_n 1, 1) := by decide +kernel
theorem dX3_refusalToWait_1 : decode cX3_refusalToWait 1 = .ok (.iconst 1, 1) := by decide +kernel
theorem dX3_refusalToWait_2 : decode cX3_refusalToWait 2 = .ok (.bipush 30, 2) := by decide +kernel
theorem dX3_refusalToWait_4 : decode cX3_refusalToWait 4 = .ok (.invokestatic 60, 3) := by decide +kernel
theorem dX3_refusalToWait_7 : decode cX3_refusalToWait 7 = .ok (.ifCond .eq 9, 3) := by decide +kernel
theorem dX3_refusalToWait_10 : decode cX3_refusalToWait 10 = .ok (.getstatic 73, 3) := by decide +kernel
theorem dX3_refusalToWait_13 : decode cX3_refusalToWait 13 = .ok (.goto 6, 3) := by decide +kernel
theorem dX3_refusalToWait_16 : decode cX3_refusalToWait 16 = .ok (.getstatic 64, 3) := by decide +kernel
theorem dX3_refusalToWait_19 : decode cX3_refusalToWait 19 = .ok (.areturn, 1) := by decide +kernel
theorem dX3_letPass_0 : decode cX3_letPass 0 = .ok (.iconst 0, 1) := by decide +kernel
theorem dX3_letPass_1 : decode cX3_letPass 1 = .ok (.istore_n 2, 1) := by decide +kernel
theorem dX3_letPass_2 : decode cX3_letPass 2 = .ok (.iconst 0, 1) := by decide +kernel
theorem dX3_letPass_3 : decode cX3_letPass 3 = .ok (.istore_n 3, 1) := by decide +kernel
theorem dX3_letPass_4 : decode cX3_letPass 4 = .ok (.iload_n 3, 1) := by decide +kernel
theorem dX3_letPass_5 : decode cX3_letPass 5 = .ok (.iload_n 1, 1) := by decide +kernel
theorem dX3_letPass_6 : decode cX3_letPass 6 = .ok (.if_icmp .ge 16, 3) := by decide +kernel
theorem dX3_letPass_9 : decode cX3_letPass 9 = .ok (.iload_n 2, 1) := by decide +kernel
theorem dX3_letPass_10 : decode cX3_letPass 10 = .ok (.aload_n 0, 1) := by decide +kernel
theorem dX3_letPass_11 : decode cX3_letPass 11 = .ok (.invokevirtual 134, 3) := by decide +kernel
theorem dX3_letPass_14 : decode cX3_letPass 14 = .ok (.iadd, 1) := by decide +kernel
theorem dX3_letPass_15 : decode cX3_letPass 15 = .ok (.istore_n 2, 1) := by decide +kernel
theorem dX3_letPass_16 : decode cX3_letPass 16 = .ok (.iinc 3 1, 3) := by decide +kernel
theorem dX3_letPass_19 : decode cX3_letPass 19 = .ok (.goto (-15), 3) := by decide +kernel
theorem dX3_letPass_22 : decode cX3_letPass 22 = .ok (.iload_n 2, 1) := by decide +kernel
theorem dX3_letPass_23 : decode cX3_letPass 23 = .ok (.ireturn, 1) := by decide +kernel
theorem dX3_letOneDayPass_0 : decode cX3_letOneDayPass 0 = .ok (.iconst 0, 1) := by decide +kernel
theorem dX3_letOneDayPass_1 : decode cX3_letOneDayPass 1 = .ok (.istore_n 1, 1) := by decide +kernel
theorem dX3_letOneDayPass_2 : decode cX3_letOneDayPass 2 = .ok (.aload_n 0, 1) := by decide +kernel
theorem dX3_letOneDayPass_3 : decode cX3_letOneDayPass 3 = .ok (.dup, 1) := by decide +kernel
theorem dX3_letOneDayPass_4 : decode cX3_letOneDayPass 4 = .ok (.getfield 31, 3) := by decide +kernel
theorem dX3_letOneDayPass_7 : decode cX3_letOneDayPass 7 = .ok (.iconst 1, 1) := by decide +kernel
theorem dX3_letOneDayPass_8 : decode cX3_letOneDayPass 8 = .ok (.iadd, 1) := by decide +kernel
theorem dX3_letOneDayPass_9 : decode cX3_letOneDayPass 9 = .ok (.putfield 31, 3) := by decide +kernel
theorem dX3_letOneDayPass_12 : decode cX3_letOneDayPass 12 = .ok (.iconst 0, 1) := by decide +kernel
theorem dX3_letOneDayPass_13 : decode cX3_letOneDayPass 13 = .ok (.istore_n 2, 1) := by decide +kernel
theorem dX3_letOneDayPass_14 : decode cX3_letOneDayPass 14 = .ok (.iload_n 2, 1) := by decide +kernel
theorem dX3_letOneDayPass_15 : decode cX3_letOneDayPass 15 = .ok (.iconst 5, 1) := by decide +kernel
theorem dX3_letOneDayPass_16 : decode cX3_letOneDayPass 16 = .ok (.if_icmp .ge 30, 3) := by decide +kernel
theorem dX3_letOneDayPass_19 : decode cX3_letOneDayPass 19 = .ok (.iload_n 1, 1) := by decide +kernel
theorem dX3_letOneDayPass_20 : decode cX3_letOneDayPass 20 = .ok (.aload_n 0, 1) := by decide +kernel
theorem dX3_letOneDayPass_21 : decode cX3_letOneDayPass 21 = .ok (.getfield 11, 3) := by decide +kernel
theorem dX3_letOneDayPass_24 : decode cX3_letOneDayPass 24 = .ok (.iload_n 2, 1) := by decide +kernel
theorem dX3_letOneDayPass_25 : decode cX3_letOneDayPass 25 = .ok (.aaload, 1) := by decide +kernel
theorem dX3_letOneDayPass_26 : decode cX3_letOneDayPass 26 = .ok (.invokevirtual 138, 3) := by decide +kernel
theorem dX3_letOneDayPass_29 : decode cX3_letOneDayPass 29 = .ok (.iadd, 1) := by decide +kernel
theorem dX3_letOneDayPass_30 : decode cX3_letOneDayPass 30 = .ok (.istore_n 1, 1) := by decide +kernel
theorem dX3_letOneDayPass_31 : decode cX3_letOneDayPass 31 = .ok (.aload_n 0, 1) := by decide +kernel
theorem dX3_letOneDayPass_32 : decode cX3_letOneDayPass 32 = .ok (.getfield 11, 3) := by decide +kernel
theorem dX3_letOneDayPass_35 : decode cX3_letOneDayPass 35 = .ok (.iload_n 2, 1) := by decide +kernel
theorem dX3_letOneDayPass_36 : decode cX3_letOneDayPass 36 = .ok (.aaload, 1) := by decide +kernel
theorem dX3_letOneDayPass_37 : decode cX3_letOneDayPass 37 = .ok (.invokevirtual 141, 3) := by decide +kernel
theorem dX3_letOneDayPass_40 : decode cX3_letOneDayPass 40 = .ok (.iinc 2 1, 3) := by decide +kernel
theorem dX3_letOneDayPass_43 : decode cX3_letOneDayPass 43 = .ok (.goto (-29), 3) := by decide +kernel
theorem dX3_letOneDayPass_46 : decode cX3_letOneDayPass 46 = .ok (.aload_n 0, 1) := by decide +kernel
theorem dX3_letOneDayPass_47 : decode cX3_letOneDayPass 47 = .ok (.dup, 1) := by decide +kernel
theorem dX3_letOneDayPass_48 : decode cX3_letOneDayPass 48 = .ok (.getfield 40, 3) := by decide +kernel
theorem dX3_letOneDayPass_51 : decode cX3_letOneDayPass 51 = .ok (.iload_n 1, 1) := by decide +kernel
theorem dX3_letOneDayPass_52 : decode cX3_letOneDayPass 52 = .ok (.iadd, 1) := by decide +kernel
theorem dX3_letOneDayPass_53 : decode cX3_letOneDayPass 53 = .ok (.putfield 40, 3) := by decide +kernel
theorem dX3_letOneDayPass_56 : decode cX3_letOneDayPass 56 = .ok (.iload_n 1, 1) := by decide +kernel
theorem dX3_letOneDayPass_57 : decode cX3_letOneDayPass 57 = .ok (.ireturn, 1) := by decide +kernel
theorem dX3_fliesByVaults_0 : decode cX3_fliesByVaults 0 = .ok (.iconst 0, 1) := by decide +kernel
theorem dX3_fliesByVaults_1 : decode cX3_fliesByVaults 1 = .ok (.istore_n 2, 1) := by decide +kernel
theorem dX3_fliesByVaults_2 : decode cX3_fliesByVaults 2 = .ok (.iconst 0, 1) := by decide +kernel
theorem dX3_fliesByVaults_3 : decode cX3_fliesByVaults 3 = .ok (.istore_n 3, 1) := by decide +kernel
theorem dX3_fliesByVaults_4 : decode cX3_fliesByVaults 4 = .ok (.iload_n 3, 1) := by decide +kernel
theorem dX3_fliesByVaults_5 : decode cX3_fliesByVaults 5 = .ok (.iconst 5, 1) := by decide +kernel
theorem dX3_fliesByVaults_6 : decode cX3_fliesByVaults 6 = .ok (.if_icmp .ge 23, 3) := by decide +kernel
theorem dX3_fliesByVaults_9 : decode cX3_fliesByVaults 9 = .ok (.iload_n 2, 1) := by decide +kernel
theorem dX3_fliesByVaults_10 : decode cX3_fliesByVaults 10 = .ok (.aload_n 0, 1) := by decide +kernel
theorem dX3_fliesByVaults_11 : decode cX3_fliesByVaults 11 = .ok (.getfield 11, 3) := by decide +kernel
theorem dX3_fliesByVaults_14 : decode cX3_fliesByVaults 14 = .ok (.iload_n 3, 1) := by decide +kernel
theorem dX3_fliesByVaults_15 : decode cX3_fliesByVaults 15 = .ok (.aaload, 1) := by decide +kernel
theorem dX3_fliesByVaults_16 : decode cX3_fliesByVaults 16 = .ok (.getfield 94, 3) := by decide +kernel
theorem dX3_fliesByVaults_19 : decode cX3_fliesByVaults 19 = .ok (.iload_n 1, 1) := by decide +kernel
theorem dX3_fliesByVaults_20 : decode cX3_fliesByVaults 20 = .ok (.iaload, 1) := by decide +kernel
theorem dX3_fliesByVaults_21 : decode cX3_fliesByVaults 21 = .ok (.iadd, 1) := by decide +kernel
theorem dX3_fliesByVaults_22 : decode cX3_fliesByVaults 22 = .ok (.istore_n 2, 1) := by decide +kernel
theorem dX3_fliesByVaults_23 : decode cX3_fliesByVaults 23 = .ok (.iinc 3 1, 3) := by decide +kernel
theorem dX3_fliesByVaults_26 : decode cX3_fliesByVaults 26 = .ok (.goto (-22), 3) := by decide +kernel
theorem dX3_fliesByVaults_29 : decode cX3_fliesByVaults 29 = .ok (.iload_n 2, 1) := by decide +kernel
theorem dX3_fliesByVaults_30 : decode cX3_fliesByVaults 30 = .ok (.ireturn, 1) := by decide +kernel
theorem dX3_fliesByAccounts_0 : decode cX3_fliesByAccounts 0 = .ok (.aload_n 0, 1) := by decide +kernel
theorem dX3_fliesByAccounts_1 : decode cX3_fliesByAccounts 1 = .ok (.getfield 21, 3) := by decide +kernel
theorem dX3_fliesByAccounts_4 : decode cX3_fliesByAccounts 4 = .ok (.iload_n 1, 1) := by decide +kernel
theorem dX3_fliesByAccounts_5 : decode cX3_fliesByAccounts 5 = .ok (.iaload, 1) := by decide +kernel
theorem dX3_fliesByAccounts_6 : decode cX3_fliesByAccounts 6 = .ok (.aload_n 0, 1) := by decide +kernel
theorem dX3_fliesByAccounts_7 : decode cX3_fliesByAccounts 7 = .ok (.getfield 24, 3) := by decide +kernel
theorem dX3_fliesByAccounts_10 : decode cX3_fliesByAccounts 10 = .ok (.iload_n 1, 1) := by decide +kernel
theorem dX3_fliesByAccounts_11 : decode cX3_fliesByAccounts 11 = .ok (.iaload, 1) := by decide +kernel
theorem dX3_fliesByAccounts_12 : decode cX3_fliesByAccounts 12 = .ok (.isub, 1) := by decide +kernel
theorem dX3_fliesByAccounts_13 : decode cX3_fliesByAccounts 13 = .ok (.ireturn, 1) := by decide +kernel
theorem dX3_valueByVaults_0 : decode cX3_valueByVaults 0 = .ok (.iconst 0, 1) := by decide +kernel
theorem dX3_valueByVaults_1 : decode cX3_valueByVaults 1 = .ok (.istore_n 1, 1) := by decide +kernel
theorem dX3_valueByVaults_2 : decode cX3_valueByVaults 2 = .ok (.iconst 0, 1) := by decide +kernel
theorem dX3_valueByVaults_3 : decode cX3_valueByVaults 3 = .ok (.istore_n 2, 1) := by decide +kernel
theorem dX3_valueByVaults_4 : decode cX3_valueByVaults 4 = .ok (.iload_n 2, 1) := by decide +kernel
theorem dX3_valueByVaults_5 : decode cX3_valueByVaults 5 = .ok (.iconst 5, 1) := by decide +kernel
theorem dX3_valueByVaults_6 : decode cX3_valueByVaults 6 = .ok (.if_icmp .ge 25, 3) := by decide +kernel
theorem dX3_valueByVaults_9 : decode cX3_valueByVaults 9 = .ok (.iload_n 1, 1) := by decide +kernel
theorem dX3_valueByVaults_10 : decode cX3_valueByVaults 10 = .ok (.aload_n 0, 1) := by decide +kernel
theorem dX3_valueByVaults_11 : decode cX3_valueByVaults 11 = .ok (.getfield 11, 3) := by decide +kernel
theorem dX3_valueByVaults_14 : decode cX3_valueByVaults 14 = .ok (.iload_n 2, 1) := by decide +kernel
theorem dX3_valueByVaults_15 : decode cX3_valueByVaults 15 = .ok (.aaload, 1) := by decide +kernel
theorem dX3_valueByVaults_16 : decode cX3_valueByVaults 16 = .ok (.aload_n 0, 1) := by decide +kernel
theorem dX3_valueByVaults_17 : decode cX3_valueByVaults 17 = .ok (.getfield 17, 3) := by decide +kernel
theorem dX3_valueByVaults_20 : decode cX3_valueByVaults 20 = .ok (.invokevirtual 101, 3) := by decide +kernel
theorem dX3_valueByVaults_23 : decode cX3_valueByVaults 23 = .ok (.iadd, 1) := by decide +kernel
theorem dX3_valueByVaults_24 : decode cX3_valueByVaults 24 = .ok (.istore_n 1, 1) := by decide +kernel
theorem dX3_valueByVaults_25 : decode cX3_valueByVaults 25 = .ok (.iinc 2 1, 3) := by decide +kernel
theorem dX3_valueByVaults_28 : decode cX3_valueByVaults 28 = .ok (.goto (-24), 3) := by decide +kernel
theorem dX3_valueByVaults_31 : decode cX3_valueByVaults 31 = .ok (.iload_n 1, 1) := by decide +kernel
theorem dX3_valueByVaults_32 : decode cX3_valueByVaults 32 = .ok (.ireturn, 1) := by decide +kernel
theorem dX3_valueByKinds_0 : decode cX3_valueByKinds 0 = .ok (.iconst 0, 1) := by decide +kernel
theorem dX3_valueByKinds_1 : decode cX3_valueByKinds 1 = .ok (.istore_n 1, 1) := by decide +kernel
theorem dX3_valueByKinds_2 : decode cX3_valueByKinds 2 = .ok (.iconst 0, 1) := by decide +kernel
theorem dX3_valueByKinds_3 : decode cX3_valueByKinds 3 = .ok (.istore_n 2, 1) := by decide +kernel
theorem dX3_valueByKinds_4 : decode cX3_valueByKinds 4 = .ok (.iload_n 2, 1) := by decide +kernel
theorem dX3_valueByKinds_5 : decode cX3_valueByKinds 5 = .ok (.iconst 3, 1) := by decide +kernel
theorem dX3_valueByKinds_6 : decode cX3_valueByKinds 6 = .ok (.if_icmp .ge 17, 3) := by decide +kernel
theorem dX3_valueByKinds_9 : decode cX3_valueByKinds 9 = .ok (.iload_n 1, 1) := by decide +kernel
theorem dX3_valueByKinds_10 : decode cX3_valueByKinds 10 = .ok (.aload_n 0, 1) := by decide +kernel
theorem dX3_valueByKinds_11 : decode cX3_valueByKinds 11 = .ok (.iload_n 2, 1) := by decide +kernel
theorem dX3_valueByKinds_12 : decode cX3_valueByKinds 12 = .ok (.invokevirtual 144, 3) := by decide +kernel
theorem dX3_valueByKinds_15 : decode cX3_valueByKinds 15 = .ok (.iadd, 1) := by decide +kernel
theorem dX3_valueByKinds_16 : decode cX3_valueByKinds 16 = .ok (.istore_n 1, 1) := by decide +kernel
theorem dX3_valueByKinds_17 : decode cX3_valueByKinds 17 = .ok (.iinc 2 1, 3) := by decide +kernel
theorem dX3_valueByKinds_20 : decode cX3_valueByKinds 20 = .ok (.goto (-16), 3) := by decide +kernel
theorem dX3_valueByKinds_23 : decode cX3_valueByKinds 23 = .ok (.iconst 0, 1) := by decide +kernel
theorem dX3_valueByKinds_24 : decode cX3_valueByKinds 24 = .ok (.istore_n 2, 1) := by decide +kernel
theorem dX3_valueByKinds_25 : decode cX3_valueByKinds 25 = .ok (.iload_n 2, 1) := by decide +kernel
theorem dX3_valueByKinds_26 : decode cX3_valueByKinds 26 = .ok (.iconst 5, 1) := by decide +kernel
theorem dX3_valueByKinds_27 : decode cX3_valueByKinds 27 = .ok (.if_icmp .ge 21, 3) := by decide +kernel
theorem dX3_valueByKinds_30 : decode cX3_valueByKinds 30 = .ok (.iload_n 1, 1) := by decide +kernel
theorem dX3_valueByKinds_31 : decode cX3_valueByKinds 31 = .ok (.aload_n 0, 1) := by decide +kernel
theorem dX3_valueByKinds_32 : decode cX3_valueByKinds 32 = .ok (.getfield 11, 3) := by decide +kernel
theorem dX3_valueByKinds_35 : decode cX3_valueByKinds 35 = .ok (.iload_n 2, 1) := by decide +kernel
theorem dX3_valueByKinds_36 : decode cX3_valueByKinds 36 = .ok (.aaload, 1) := by decide +kernel
theorem dX3_valueByKinds_37 : decode cX3_valueByKinds 37 = .ok (.getfield 114, 3) := by decide +kernel
theorem dX3_valueByKinds_40 : decode cX3_valueByKinds 40 = .ok (.iadd, 1) := by decide +kernel
theorem dX3_valueByKinds_41 : decode cX3_valueByKinds 41 = .ok (.istore_n 1, 1) := by decide +kernel
theorem dX3_valueByKinds_42 : decode cX3_valueByKinds 42 = .ok (.iinc 2 1, 3) := by decide +kernel
theorem dX3_valueByKinds_45 : decode cX3_valueByKinds 45 = .ok (.goto (-20), 3) := by decide +kernel
theorem dX3_valueByKinds_48 : decode cX3_valueByKinds 48 = .ok (.iload_n 1, 1) := by decide +kernel
theorem dX3_valueByKinds_49 : decode cX3_valueByKinds 49 = .ok (.ireturn, 1) := by decide +kernel
theorem dX3_valueOfKind_0 : decode cX3_valueOfKind 0 = .ok (.aload_n 0, 1) := by decide +kernel
theorem dX3_valueOfKind_1 : decode cX3_valueOfKind 1 = .ok (.iload_n 1, 1) := by decide +kernel
theorem dX3_valueOfKind_2 : decode cX3_valueOfKind 2 = .ok (.invokevirtual 147, 3) := by decide +kernel
theorem dX3_valueOfKind_5 : decode cX3_valueOfKind 5 = .ok (.aload_n 0, 1) := by decide +kernel
theorem dX3_valueOfKind_6 : decode cX3_valueOfKind 6 = .ok (.getfield 17, 3) := by decide +kernel
theorem dX3_valueOfKind_9 : decode cX3_valueOfKind 9 = .ok (.iload_n 1, 1) := by decide +kernel
theorem dX3_valueOfKind_10 : decode cX3_valueOfKind 10 = .ok (.iaload, 1) := by decide +kernel
theorem dX3_valueOfKind_11 : decode cX3_valueOfKind 11 = .ok (.imul, 1) := by decide +kernel
theorem dX3_valueOfKind_12 : decode cX3_valueOfKind 12 = .ok (.ireturn, 1) := by decide +kernel
theorem dX3_vaultAtRank_0 : decode cX3_vaultAtRank 0 = .ok (.iconst 0, 1) := by decide +kernel
theorem dX3_vaultAtRank_1 : decode cX3_vaultAtRank 1 = .ok (.istore_n 2, 1) := by decide +kernel
theorem dX3_vaultAtRank_2 : decode cX3_vaultAtRank 2 = .ok (.iload_n 2, 1) := by decide +kernel
theorem dX3_vaultAtRank_3 : decode cX3_vaultAtRank 3 = .ok (.aload_n 0, 1) := by decide +kernel
theorem dX3_vaultAtRank_4 : decode cX3_vaultAtRank 4 = .ok (.getfield 27, 3) := by decide +kernel
theorem dX3_vaultAtRank_7 : decode cX3_vaultAtRank 7 = .ok (.if_icmp .ge 54, 3) := by decide +kernel
theorem dX3_vaultAtRank_10 : decode cX3_vaultAtRank 10 = .ok (.iconst 0, 1) := by decide +kernel
theorem dX3_vaultAtRank_11 : decode cX3_vaultAtRank 11 = .ok (.istore_n 3, 1) := by decide +kernel
theorem dX3_vaultAtRank_12 : decode cX3_vaultAtRank 12 = .ok (.iconst 0, 1) := by decide +kernel
theorem dX3_vaultAtRank_13 : decode cX3_vaultAtRank 13 = .ok (.istore 4, 2) := by decide +kernel
theorem dX3_vaultAtRank_15 : decode cX3_vaultAtRank 15 = .ok (.iload 4, 2) := by decide +kernel
theorem dX3_vaultAtRank_17 : decode cX3_vaultAtRank 17 = .ok (.aload_n 0, 1) := by decide +kernel
theorem dX3_vaultAtRank_18 : decode cX3_vaultAtRank 18 = .ok (.getfield 27, 3) := by decide +kernel
theorem dX3_vaultAtRank_21 : decode cX3_vaultAtRank 21 = .ok (.if_icmp .ge 27, 3) := by decide +kernel
theorem dX3_vaultAtRank_24 : decode cX3_vaultAtRank 24 = .ok (.iload_n 3, 1) := by decide +kernel
theorem dX3_vaultAtRank_25 : decode cX3_vaultAtRank 25 = .ok (.aload_n 0, 1) := by decide +kernel
theorem dX3_vaultAtRank_26 : decode cX3_vaultAtRank 26 = .ok (.iload 4, 2) := by decide +kernel
theorem dX3_vaultAtRank_28 : decode cX3_vaultAtRank 28 = .ok (.iload_n 2, 1) := by decide +kernel
theorem dX3_vaultAtRank_29 : decode cX3_vaultAtRank 29 = .ok (.invokevirtual 150, 3) := by decide +kernel
theorem dX3_vaultAtRank_32 : decode cX3_vaultAtRank 32 = .ok (.ifCond .eq 7, 3) := by decide +kernel
theorem dX3_vaultAtRank_35 : decode cX3_vaultAtRank 35 = .ok (.iconst 1, 1) := by decide +kernel
theorem dX3_vaultAtRank_36 : decode cX3_vaultAtRank 36 = .ok (.goto 4, 3) := by decide +kernel
theorem dX3_vaultAtRank_39 : decode cX3_vaultAtRank 39 = .ok (.iconst 0, 1) := by decide +kernel
theorem dX3_vaultAtRank_40 : decode cX3_vaultAtRank 40 = .ok (.iadd, 1) := by decide +kernel
theorem dX3_vaultAtRank_41 : decode cX3_vaultAtRank 41 = .ok (.istore_n 3, 1) := by decide +kernel
theorem dX3_vaultAtRank_42 : decode cX3_vaultAtRank 42 = .ok (.iinc 4 1, 3) := by decide +kernel
theorem dX3_vaultAtRank_45 : decode cX3_vaultAtRank 45 = .ok (.goto (-30), 3) := by decide +kernel
theorem dX3_vaultAtRank_48 : decode cX3_vaultAtRank 48 = .ok (.iload_n 3, 1) := by decide +kernel
theorem dX3_vaultAtRank_49 : decode cX3_vaultAtRank 49 = .ok (.iload_n 1, 1) := by decide +kernel
theorem dX3_vaultAtRank_50 : decode cX3_vaultAtRank 50 = .ok (.if_icmp .ne 5, 3) := by decide +kernel
theorem dX3_vaultAtRank_53 : decode cX3_vaultAtRank 53 = .ok (.iload_n 2, 1) := by decide +kernel
theorem dX3_vaultAtRank_54 : decode cX3_vaultAtRank 54 = .ok (.ireturn, 1) := by decide +kernel
theorem dX3_vaultAtRank_55 : decode cX3_vaultAtRank 55 = .ok (.iinc 2 1, 3) := by decide +kernel
theorem dX3_vaultAtRank_58 : decode cX3_vaultAtRank 58 = .ok (.goto (-56), 3) := by decide +kernel
theorem dX3_vaultAtRank_61 : decode cX3_vaultAtRank 61 = .ok (.iconst (-1), 1) := by decide +kernel
theorem dX3_vaultAtRank_62 : decode cX3_vaultAtRank 62 = .ok (.ireturn, 1) := by decide +kernel
theorem dX3_ranksBefore_0 : decode cX3_ranksBefore 0 = .ok (.aload_n 0, 1) := by decide +kernel
theorem dX3_ranksBefore_1 : decode cX3_ranksBefore 1 = .ok (.getfield 11, 3) := by decide +kernel
theorem dX3_ranksBefore_4 : decode cX3_ranksBefore 4 = .ok (.iload_n 1, 1) := by decide +kernel
theorem dX3_ranksBefore_5 : decode cX3_ranksBefore 5 = .ok (.aaload, 1) := by decide +kernel
theorem dX3_ranksBefore_6 : decode cX3_ranksBefore 6 = .ok (.aload_n 0, 1) := by decide +kernel
theorem dX3_ranksBefore_7 : decode cX3_ranksBefore 7 = .ok (.getfield 17, 3) := by decide +kernel
theorem dX3_ranksBefore_10 : decode cX3_ranksBefore 10 = .ok (.invokevirtual 101, 3) := by decide +kernel
theorem dX3_ranksBefore_13 : decode cX3_ranksBefore 13 = .ok (.istore_n 3, 1) := by decide +kernel
theorem dX3_ranksBefore_14 : decode cX3_ranksBefore 14 = .ok (.aload_n 0, 1) := by decide +kernel
theorem dX3_ranksBefore_15 : decode cX3_ranksBefore 15 = .ok (.getfield 11, 3) := by decide +kernel
theorem dX3_ranksBefore_18 : decode cX3_ranksBefore 18 = .ok (.iload_n 2, 1) := by decide +kernel
theorem dX3_ranksBefore_19 : decode cX3_ranksBefore 19 = .ok (.aaload, 1) := by decide +kernel
theorem dX3_ranksBefore_20 : decode cX3_ranksBefore 20 = .ok (.aload_n 0, 1) := by decide +kernel
theorem dX3_ranksBefore_21 : decode cX3_ranksBefore 21 = .ok (.getfield 17, 3) := by decide +kernel
theorem dX3_ranksBefore_24 : decode cX3_ranksBefore 24 = .ok (.invokevirtual 101, 3) := by decide +kernel
theorem dX3_ranksBefore_27 : decode cX3_ranksBefore 27 = .ok (.istore 4, 2) := by decide +kernel
theorem dX3_ranksBefore_29 : decode cX3_ranksBefore 29 = .ok (.iload_n 3, 1) := by decide +kernel
theorem dX3_ranksBefore_30 : decode cX3_ranksBefore 30 = .ok (.iload 4, 2) := by decide +kernel
theorem dX3_ranksBefore_32 : decode cX3_ranksBefore 32 = .ok (.if_icmp .eq 15, 3) := by decide +kernel
theorem dX3_ranksBefore_35 : decode cX3_ranksBefore 35 = .ok (.iload_n 3, 1) := by decide +kernel
theorem dX3_ranksBefore_36 : decode cX3_ranksBefore 36 = .ok (.iload 4, 2) := by decide +kernel
theorem dX3_ranksBefore_38 : decode cX3_ranksBefore 38 = .ok (.if_icmp .le 7, 3) := by decide +kernel
theorem dX3_ranksBefore_41 : decode cX3_ranksBefore 41 = .ok (.iconst 1, 1) := by decide +kernel
theorem dX3_ranksBefore_42 : decode cX3_ranksBefore 42 = .ok (.goto 4, 3) := by decide +kernel
theorem dX3_ranksBefore_45 : decode cX3_ranksBefore 45 = .ok (.iconst 0, 1) := by decide +kernel
theorem dX3_ranksBefore_46 : decode cX3_ranksBefore 46 = .ok (.ireturn, 1) := by decide +kernel
theorem dX3_ranksBefore_47 : decode cX3_ranksBefore 47 = .ok (.aload_n 0, 1) := by decide +kernel
theorem dX3_ranksBefore_48 : decode cX3_ranksBefore 48 = .ok (.getfield 11, 3) := by decide +kernel
theorem dX3_ranksBefore_51 : decode cX3_ranksBefore 51 = .ok (.iload_n 1, 1) := by decide +kernel
theorem dX3_ranksBefore_52 : decode cX3_ranksBefore 52 = .ok (.aaload, 1) := by decide +kernel
theorem dX3_ranksBefore_53 : decode cX3_ranksBefore 53 = .ok (.getfield 105, 3) := by decide +kernel
theorem dX3_ranksBefore_56 : decode cX3_ranksBefore 56 = .ok (.aload_n 0, 1) := by decide +kernel
theorem dX3_ranksBefore_57 : decode cX3_ranksBefore 57 = .ok (.getfield 11, 3) := by decide +kernel
theorem dX3_ranksBefore_60 : decode cX3_ranksBefore 60 = .ok (.iload_n 2, 1) := by decide +kernel
theorem dX3_ranksBefore_61 : decode cX3_ranksBefore 61 = .ok (.aaload, 1) := by decide +kernel
theorem dX3_ranksBefore_62 : decode cX3_ranksBefore 62 = .ok (.getfield 105, 3) := by decide +kernel
theorem dX3_ranksBefore_65 : decode cX3_ranksBefore 65 = .ok (.if_icmp .eq 30, 3) := by decide +kernel
theorem dX3_ranksBefore_68 : decode cX3_ranksBefore 68 = .ok (.aload_n 0, 1) := by decide +kernel
theorem dX3_ranksBefore_69 : decode cX3_ranksBefore 69 = .ok (.getfield 11, 3) := by decide +kernel
theorem dX3_ranksBefore_72 : decode cX3_ranksBefore 72 = .ok (.iload_n 1, 1) := by decide +kernel
theorem dX3_ranksBefore_73 : decode cX3_ranksBefore 73 = .ok (.aaload, 1) := by decide +kernel
theorem dX3_ranksBefore_74 : decode cX3_ranksBefore 74 = .ok (.getfield 105, 3) := by decide +kernel
theorem dX3_ranksBefore_77 : decode cX3_ranksBefore 77 = .ok (.aload_n 0, 1) := by decide +kernel
theorem dX3_ranksBefore_78 : decode cX3_ranksBefore 78 = .ok (.getfield 11, 3) := by decide +kernel
theorem dX3_ranksBefore_81 : decode cX3_ranksBefore 81 = .ok (.iload_n 2, 1) := by decide +kernel
theorem dX3_ranksBefore_82 : decode cX3_ranksBefore 82 = .ok (.aaload, 1) := by decide +kernel
theorem dX3_ranksBefore_83 : decode cX3_ranksBefore 83 = .ok (.getfield 105, 3) := by decide +kernel
theorem dX3_ranksBefore_86 : decode cX3_ranksBefore 86 = .ok (.if_icmp .ge 7, 3) := by decide +kernel
theorem dX3_ranksBefore_89 : decode cX3_ranksBefore 89 = .ok (.iconst 1, 1) := by decide +kernel
theorem dX3_ranksBefore_90 : decode cX3_ranksBefore 90 = .ok (.goto 4, 3) := by decide +kernel
theorem dX3_ranksBefore_93 : decode cX3_ranksBefore 93 = .ok (.iconst 0, 1) := by decide +kernel
theorem dX3_ranksBefore_94 : decode cX3_ranksBefore 94 = .ok (.ireturn, 1) := by decide +kernel
theorem dX3_ranksBefore_95 : decode cX3_ranksBefore 95 = .ok (.iload_n 1, 1) := by decide +kernel
theorem dX3_ranksBefore_96 : decode cX3_ranksBefore 96 = .ok (.iload_n 2, 1) := by decide +kernel
theorem dX3_ranksBefore_97 : decode cX3_ranksBefore 97 = .ok (.if_icmp .ge 7, 3) := by decide +kernel
theorem dX3_ranksBefore_100 : decode cX3_ranksBefore 100 = .ok (.iconst 1, 1) := by decide +kernel
theorem dX3_ranksBefore_101 : decode cX3_ranksBefore 101 = .ok (.goto 4, 3) := by decide +kernel
theorem dX3_ranksBefore_104 : decode cX3_ranksBefore 104 = .ok (.iconst 0, 1) := by decide +kernel
theorem dX3_ranksBefore_105 : decode cX3_ranksBefore 105 = .ok (.ireturn, 1) := by decide +kernel
theorem dX3_kindAtRank_0 : decode cX3_kindAtRank 0 = .ok (.iconst 0, 1) := by decide +kernel
theorem dX3_kindAtRank_1 : decode cX3_kindAtRank 1 = .ok (.istore_n 2, 1) := by decide +kernel
theorem dX3_kindAtRank_2 : decode cX3_kindAtRank 2 = .ok (.iload_n 2, 1) := by decide +kernel
theorem dX3_kindAtRank_3 : decode cX3_kindAtRank 3 = .ok (.iconst 3, 1) := by decide +kernel
theorem dX3_kindAtRank_4 : decode cX3_kindAtRank 4 = .ok (.if_icmp .ge 51, 3) := by decide +kernel
theorem dX3_kindAtRank_7 : decode cX3_kindAtRank 7 = .ok (.iconst 0, 1) := by decide +kernel
theorem dX3_kindAtRank_8 : decode cX3_kindAtRank 8 = .ok (.istore_n 3, 1) := by decide +kernel
theorem dX3_kindAtRank_9 : decode cX3_kindAtRank 9 = .ok (.iconst 0, 1) := by decide +kernel
theorem dX3_kindAtRank_10 : decode cX3_kindAtRank 10 = .ok (.istore 4, 2) := by decide +kernel
theorem dX3_kindAtRank_12 : decode cX3_kindAtRank 12 = .ok (.iload 4, 2) := by decide +kernel
theorem dX3_kindAtRank_14 : decode cX3_kindAtRank 14 = .ok (.iconst 3, 1) := by decide +kernel
theorem dX3_kindAtRank_15 : decode cX3_kindAtRank 15 = .ok (.if_icmp .ge 27, 3) := by decide +kernel
theorem dX3_kindAtRank_18 : decode cX3_kindAtRank 18 = .ok (.iload_n 3, 1) := by decide +kernel
theorem dX3_kindAtRank_19 : decode cX3_kindAtRank 19 = .ok (.aload_n 0, 1) := by decide +kernel
theorem dX3_kindAtRank_20 : decode cX3_kindAtRank 20 = .ok (.iload 4, 2) := by decide +kernel
theorem dX3_kindAtRank_22 : decode cX3_kindAtRank 22 = .ok (.iload_n 2, 1) := by decide +kernel
theorem dX3_kindAtRank_23 : decode cX3_kindAtRank 23 = .ok (.invokevirtual 154, 3) := by decide +kernel
theorem dX3_kindAtRank_26 : decode cX3_kindAtRank 26 = .ok (.ifCond .eq 7, 3) := by decide +kernel
theorem dX3_kindAtRank_29 : decode cX3_kindAtRank 29 = .ok (.iconst 1, 1) := by decide +kernel
theorem dX3_kindAtRank_30 : decode cX3_kindAtRank 30 = .ok (.goto 4, 3) := by decide +kernel
theorem dX3_kindAtRank_33 : decode cX3_kindAtRank 33 = .ok (.iconst 0, 1) := by decide +kernel
theorem dX3_kindAtRank_34 : decode cX3_kindAtRank 34 = .ok (.iadd, 1) := by decide +kernel
theorem dX3_kindAtRank_35 : decode cX3_kindAtRank 35 = .ok (.istore_n 3, 1) := by decide +kernel
theorem dX3_kindAtRank_36 : decode cX3_kindAtRank 36 = .ok (.iinc 4 1, 3) := by decide +kernel
theorem dX3_kindAtRank_39 : decode cX3_kindAtRank 39 = .ok (.goto (-27), 3) := by decide +kernel
theorem dX3_kindAtRank_42 : decode cX3_kindAtRank 42 = .ok (.iload_n 3, 1) := by decide +kernel
theorem dX3_kindAtRank_43 : decode cX3_kindAtRank 43 = .ok (.iload_n 1, 1) := by decide +kernel
theorem dX3_kindAtRank_44 : decode cX3_kindAtRank 44 = .ok (.if_icmp .ne 5, 3) := by decide +kernel
theorem dX3_kindAtRank_47 : decode cX3_kindAtRank 47 = .ok (.iload_n 2, 1) := by decide +kernel
theorem dX3_kindAtRank_48 : decode cX3_kindAtRank 48 = .ok (.ireturn, 1) := by decide +kernel
theorem dX3_kindAtRank_49 : decode cX3_kindAtRank 49 = .ok (.iinc 2 1, 3) := by decide +kernel
theorem dX3_kindAtRank_52 : decode cX3_kindAtRank 52 = .ok (.goto (-50), 3) := by decide +kernel
theorem dX3_kindAtRank_55 : decode cX3_kindAtRank 55 = .ok (.iconst (-1), 1) := by decide +kernel
theorem dX3_kindAtRank_56 : decode cX3_kindAtRank 56 = .ok (.ireturn, 1) := by decide +kernel
theorem dX3_kindRanksBefore_0 : decode cX3_kindRanksBefore 0 = .ok (.aload_n 0, 1) := by decide +kernel
theorem dX3_kindRanksBefore_1 : decode cX3_kindRanksBefore 1 = .ok (.iload_n 1, 1) := by decide +kernel
theorem dX3_kindRanksBefore_2 : decode cX3_kindRanksBefore 2 = .ok (.invokevirtual 144, 3) := by decide +kernel
theorem dX3_kindRanksBefore_5 : decode cX3_kindRanksBefore 5 = .ok (.istore_n 3, 1) := by decide +kernel
theorem dX3_kindRanksBefore_6 : decode cX3_kindRanksBefore 6 = .ok (.aload_n 0, 1) := by decide +kernel
theorem dX3_kindRanksBefore_7 : decode cX3_kindRanksBefore 7 = .ok (.iload_n 2, 1) := by decide +kernel
theorem dX3_kindRanksBefore_8 : decode cX3_kindRanksBefore 8 = .ok (.invokevirtual 144, 3) := by decide +kernel
theorem dX3_kindRanksBefore_11 : decode cX3_kindRanksBefore 11 = .ok (.istore 4, 2) := by decide +kernel
theorem dX3_kindRanksBefore_13 : decode cX3_kindRanksBefore 13 = .ok (.iload_n 3, 1) := by decide +kernel
theorem dX3_kindRanksBefore_14 : decode cX3_kindRanksBefore 14 = .ok (.iload 4, 2) := by decide +kernel
theorem dX3_kindRanksBefore_16 : decode cX3_kindRanksBefore 16 = .ok (.if_icmp .gt 14, 3) := by decide +kernel
theorem dX3_kindRanksBefore_19 : decode cX3_kindRanksBefore 19 = .ok (.iload_n 3, 1) := by decide +kernel
theorem dX3_kindRanksBefore_20 : decode cX3_kindRanksBefore 20 = .ok (.iload 4, 2) := by decide +kernel
theorem dX3_kindRanksBefore_22 : decode cX3_kindRanksBefore 22 = .ok (.if_icmp .ne 12, 3) := by decide +kernel
theorem dX3_kindRanksBefore_25 : decode cX3_kindRanksBefore 25 = .ok (.iload_n 1, 1) := by decide +kernel
theorem dX3_kindRanksBefore_26 : decode cX3_kindRanksBefore 26 = .ok (.iload_n 2, 1) := by decide +kernel
theorem dX3_kindRanksBefore_27 : decode cX3_kindRanksBefore 27 = .ok (.if_icmp .ge 7, 3) := by decide +kernel
theorem dX3_kindRanksBefore_30 : decode cX3_kindRanksBefore 30 = .ok (.iconst 1, 1) := by decide +kernel
theorem dX3_kindRanksBefore_31 : decode cX3_kindRanksBefore 31 = .ok (.goto 4, 3) := by decide +kernel
theorem dX3_kindRanksBefore_34 : decode cX3_kindRanksBefore 34 = .ok (.iconst 0, 1) := by decide +kernel
theorem dX3_kindRanksBefore_35 : decode cX3_kindRanksBefore 35 = .ok (.ireturn, 1) := by decide +kernel
theorem dX3_fliesAgree_0 : decode cX3_fliesAgree 0 = .ok (.iconst 0, 1) := by decide +kernel
theorem dX3_fliesAgree_1 : decode cX3_fliesAgree 1 = .ok (.istore_n 1, 1) := by decide +kernel
theorem dX3_fliesAgree_2 : decode cX3_fliesAgree 2 = .ok (.iload_n 1, 1) := by decide +kernel
theorem dX3_fliesAgree_3 : decode cX3_fliesAgree 3 = .ok (.iconst 3, 1) := by decide +kernel
theorem dX3_fliesAgree_4 : decode cX3_fliesAgree 4 = .ok (.if_icmp .ge 24, 3) := by decide +kernel
theorem dX3_fliesAgree_7 : decode cX3_fliesAgree 7 = .ok (.aload_n 0, 1) := by decide +kernel
theorem dX3_fliesAgree_8 : decode cX3_fliesAgree 8 = .ok (.iload_n 1, 1) := by decide +kernel
theorem dX3_fliesAgree_9 : decode cX3_fliesAgree 9 = .ok (.invokevirtual 147, 3) := by decide +kernel
theorem dX3_fliesAgree_12 : decode cX3_fliesAgree 12 = .ok (.aload_n 0, 1) := by decide +kernel
theorem dX3_fliesAgree_13 : decode cX3_fliesAgree 13 = .ok (.iload_n 1, 1) := by decide +kernel
theorem dX3_fliesAgree_14 : decode cX3_fliesAgree 14 = .ok (.invokevirtual 157, 3) := by decide +kernel
theorem dX3_fliesAgree_17 : decode cX3_fliesAgree 17 = .ok (.if_icmp .eq 5, 3) := by decide +kernel
theorem dX3_fliesAgree_20 : decode cX3_fliesAgree 20 = .ok (.iconst 0, 1) := by decide +kernel
theorem dX3_fliesAgree_21 : decode cX3_fliesAgree 21 = .ok (.ireturn, 1) := by decide +kernel
theorem dX3_fliesAgree_22 : decode cX3_fliesAgree 22 = .ok (.iinc 1 1, 3) := by decide +kernel
theorem dX3_fliesAgree_25 : decode cX3_fliesAgree 25 = .ok (.goto (-23), 3) := by decide +kernel
theorem dX3_fliesAgree_28 : decode cX3_fliesAgree 28 = .ok (.iconst 1, 1) := by decide +kernel
theorem dX3_fliesAgree_29 : decode cX3_fliesAgree 29 = .ok (.ireturn, 1) := by decide +kernel
theorem dX3_valuesAgree_0 : decode cX3_valuesAgree 0 = .ok (.aload_n 0, 1) := by decide +kernel
theorem dX3_valuesAgree_1 : decode cX3_valuesAgree 1 = .ok (.invokevirtual 160, 3) := by decide +kernel
theorem dX3_valuesAgree_4 : decode cX3_valuesAgree 4 = .ok (.aload_n 0, 1) := by decide +kernel
theorem dX3_valuesAgree_5 : decode cX3_valuesAgree 5 = .ok (.invokevirtual 163, 3) := by decide +kernel
theorem dX3_valuesAgree_8 : decode cX3_valuesAgree 8 = .ok (.if_icmp .ne 7, 3) := by decide +kernel
theorem dX3_valuesAgree_11 : decode cX3_valuesAgree 11 = .ok (.iconst 1, 1) := by decide +kernel
theorem dX3_valuesAgree_12 : decode cX3_valuesAgree 12 = .ok (.goto 4, 3) := by decide +kernel
theorem dX3_valuesAgree_15 : decode cX3_valuesAgree 15 = .ok (.iconst 0, 1) := by decide +kernel
theorem dX3_valuesAgree_16 : decode cX3_valuesAgree 16 = .ok (.ireturn, 1) := by decide +kernel
theorem dX3_predictionsAgree_0 : decode cX3_predictionsAgree 0 = .ok (.iconst 0, 1) := by decide +kernel
theorem dX3_predictionsAgree_1 : decode cX3_predictionsAgree 1 = .ok (.istore_n 1, 1) := by decide +kernel
theorem dX3_predictionsAgree_2 : decode cX3_predictionsAgree 2 = .ok (.iload_n 1, 1) := by decide +kernel
theorem dX3_predictionsAgree_3 : decode cX3_predictionsAgree 3 = .ok (.iconst 5, 1) := by decide +kernel
theorem dX3_predictionsAgree_4 : decode cX3_predictionsAgree 4 = .ok (.if_icmp .ge 40, 3) := by decide +kernel
theorem dX3_predictionsAgree_7 : decode cX3_predictionsAgree 7 = .ok (.aload_n 0, 1) := by decide +kernel
theorem dX3_predictionsAgree_8 : decode cX3_predictionsAgree 8 = .ok (.getfield 11, 3) := by decide +kernel
theorem dX3_predictionsAgree_11 : decode cX3_predictionsAgree 11 = .ok (.iload_n 1, 1) := by decide +kernel
theorem dX3_predictionsAgree_12 : decode cX3_predictionsAgree 12 = .ok (.aaload, 1) := by decide +kernel
theorem dX3_predictionsAgree_13 : decode cX3_predictionsAgree 13 = .ok (.aload_n 0, 1) := by decide +kernel
theorem dX3_predictionsAgree_14 : decode cX3_predictionsAgree 14 = .ok (.getfield 17, 3) := by decide +kernel
theorem dX3_predictionsAgree_17 : decode cX3_predictionsAgree 17 = .ok (.invokevirtual 166, 3) := by decide +kernel
theorem dX3_predictionsAgree_20 : decode cX3_predictionsAgree 20 = .ok (.aload_n 0, 1) := by decide +kernel
theorem dX3_predictionsAgree_21 : decode cX3_predictionsAgree 21 = .ok (.getfield 11, 3) := by decide +kernel
theorem dX3_predictionsAgree_24 : decode cX3_predictionsAgree 24 = .ok (.iload_n 1, 1) := by decide +kernel
theorem dX3_predictionsAgree_25 : decode cX3_predictionsAgree 25 = .ok (.aaload, 1) := by decide +kernel
theorem dX3_predictionsAgree_26 : decode cX3_predictionsAgree 26 = .ok (.aload_n 0, 1) := by decide +kernel
theorem dX3_predictionsAgree_27 : decode cX3_predictionsAgree 27 = .ok (.getfield 17, 3) := by decide +kernel
theorem dX3_predictionsAgree_30 : decode cX3_predictionsAgree 30 = .ok (.invokevirtual 169, 3) := by decide +kernel
theorem dX3_predictionsAgree_33 : decode cX3_predictionsAgree 33 = .ok (.if_icmp .eq 5, 3) := by decide +kernel
theorem dX3_predictionsAgree_36 : decode cX3_predictionsAgree 36 = .ok (.iconst 0, 1) := by decide +kernel
theorem dX3_predictionsAgree_37 : decode cX3_predictionsAgree 37 = .ok (.ireturn, 1) := by decide +kernel
theorem dX3_predictionsAgree_38 : decode cX3_predictionsAgree 38 = .ok (.iinc 1 1, 3) := by decide +kernel
theorem dX3_predictionsAgree_41 : decode cX3_predictionsAgree 41 = .ok (.goto (-39), 3) := by decide +kernel
theorem dX3_predictionsAgree_44 : decode cX3_predictionsAgree 44 = .ok (.iconst 1, 1) := by decide +kernel
theorem dX3_predictionsAgree_45 : decode cX3_predictionsAgree 45 = .ok (.ireturn, 1) := by decide +kernel
theorem dX3_dewAgrees_0 : decode cX3_dewAgrees 0 = .ok (.iconst 0, 1) := by decide +kernel
theorem dX3_dewAgrees_1 : decode cX3_dewAgrees 1 = .ok (.istore_n 1, 1) := by decide +kernel
theorem dX3_dewAgrees_2 : decode cX3_dewAgrees 2 = .ok (.iconst 0, 1) := by decide +kernel
theorem dX3_dewAgrees_3 : decode cX3_dewAgrees 3 = .ok (.istore_n 2, 1) := by decide +kernel
theorem dX3_dewAgrees_4 : decode cX3_dewAgrees 4 = .ok (.iload_n 2, 1) := by decide +kernel
theorem dX3_dewAgrees_5 : decode cX3_dewAgrees 5 = .ok (.iconst 5, 1) := by decide +kernel
theorem dX3_dewAgrees_6 : decode cX3_dewAgrees 6 = .ok (.if_icmp .ge 21, 3) := by decide +kernel
theorem dX3_dewAgrees_9 : decode cX3_dewAgrees 9 = .ok (.iload_n 1, 1) := by decide +kernel
theorem dX3_dewAgrees_10 : decode cX3_dewAgrees 10 = .ok (.aload_n 0, 1) := by decide +kernel
theorem dX3_dewAgrees_11 : decode cX3_dewAgrees 11 = .ok (.getfield 11, 3) := by decide +kernel
theorem dX3_dewAgrees_14 : decode cX3_dewAgrees 14 = .ok (.iload_n 2, 1) := by decide +kernel
theorem dX3_dewAgrees_15 : decode cX3_dewAgrees 15 = .ok (.aaload, 1) := by decide +kernel
theorem dX3_dewAgrees_16 : decode cX3_dewAgrees 16 = .ok (.getfield 105, 3) := by decide +kernel
theorem dX3_dewAgrees_19 : decode cX3_dewAgrees 19 = .ok (.iadd, 1) := by decide +kernel
theorem dX3_dewAgrees_20 : decode cX3_dewAgrees 20 = .ok (.istore_n 1, 1) := by decide +kernel
theorem dX3_dewAgrees_21 : decode cX3_dewAgrees 21 = .ok (.iinc 2 1, 3) := by decide +kernel
theorem dX3_dewAgrees_24 : decode cX3_dewAgrees 24 = .ok (.goto (-20), 3) := by decide +kernel
theorem dX3_dewAgrees_27 : decode cX3_dewAgrees 27 = .ok (.aload_n 0, 1) := by decide +kernel
theorem dX3_dewAgrees_28 : decode cX3_dewAgrees 28 = .ok (.getfield 34, 3) := by decide +kernel
theorem dX3_dewAgrees_31 : decode cX3_dewAgrees 31 = .ok (.aload_n 0, 1) := by decide +kernel
theorem dX3_dewAgrees_32 : decode cX3_dewAgrees 32 = .ok (.getfield 37, 3) := by decide +kernel
theorem dX3_dewAgrees_35 : decode cX3_dewAgrees 35 = .ok (.aload_n 0, 1) := by decide +kernel
theorem dX3_dewAgrees_36 : decode cX3_dewAgrees 36 = .ok (.getfield 40, 3) := by decide +kernel
theorem dX3_dewAgrees_39 : decode cX3_dewAgrees 39 = .ok (.iadd, 1) := by decide +kernel
theorem dX3_dewAgrees_40 : decode cX3_dewAgrees 40 = .ok (.iload_n 1, 1) := by decide +kernel
theorem dX3_dewAgrees_41 : decode cX3_dewAgrees 41 = .ok (.iadd, 1) := by decide +kernel
theorem dX3_dewAgrees_42 : decode cX3_dewAgrees 42 = .ok (.if_icmp .ne 7, 3) := by decide +kernel
theorem dX3_dewAgrees_45 : decode cX3_dewAgrees 45 = .ok (.iconst 1, 1) := by decide +kernel
theorem dX3_dewAgrees_46 : decode cX3_dewAgrees 46 = .ok (.goto 4, 3) := by decide +kernel
theorem dX3_dewAgrees_49 : decode cX3_dewAgrees 49 = .ok (.iconst 0, 1) := by decide +kernel
theorem dX3_dewAgrees_50 : decode cX3_dewAgrees 50 = .ok (.ireturn, 1) := by decide +kernel
theorem dX3_within_0 : decode cX3_within 0 = .ok (.iload_n 0, 1) := by decide +kernel
theorem dX3_within_1 : decode cX3_within 1 = .ok (.iload_n 1, 1) := by decide +kernel
theorem dX3_within_2 : decode cX3_within 2 = .ok (.if_icmp .lt 12, 3) := by decide +kernel
theorem dX3_within_5 : decode cX3_within 5 = .ok (.iload_n 0, 1) := by decide +kernel
theorem dX3_within_6 : decode cX3_within 6 = .ok (.iload_n 2, 1) := by decide +kernel
theorem dX3_within_7 : decode cX3_within 7 = .ok (.if_icmp .gt 7, 3) := by decide +kernel
theorem dX3_within_10 : decode cX3_within 10 = .ok (.iconst 1, 1) := by decide +kernel
theorem dX3_within_11 : decode cX3_within 11 = .ok (.goto 4, 3) := by decide +kernel
theorem dX3_within_14 : decode cX3_within 14 = .ok (.iconst 0, 1) := by decide +kernel
theorem dX3_within_15 : decode cX3_within 15 = .ok (.ireturn, 1) := by decide +kernel
theorem dX4_init_0 : decode cX4_init 0 = .ok (.aload_n 0, 1) := by decide +kernel
theorem dX4_init_1 : decode cX4_init 1 = .ok (.invokespecial 1, 3) := by decide +kernel
theorem dX4_init_4 : decode cX4_init 4 = .ok (.aload_n 0, 1) := by decide +kernel
theorem dX4_init_5 : decode cX4_init 5 = .ok (.getstatic 7, 3) := by decide +kernel
theorem dX4_init_8 : decode cX4_init 8 = .ok (.putfield 13, 3) := by decide +kernel
theorem dX4_init_11 : decode cX4_init 11 = .ok (.aload_n 0, 1) := by decide +kernel
theorem dX4_init_12 : decode cX4_init 12 = .ok (.iconst 0, 1) := by decide +kernel
theorem dX4_init_13 : decode cX4_init 13 = .ok (.putfield 18, 3) := by decide +kernel
theorem dX4_init_16 : decode cX4_init 16 = .ok (.aload_n 0, 1) := by decide +kernel
theorem dX4_init_17 : decode cX4_init 17 = .ok (.bipush 103, 2) := by decide +kernel
theorem dX4_init_19 : decode cX4_init 19 = .ok (.putfield 22, 3) := by decide +kernel
theorem dX4_init_22 : decode cX4_init 22 = .ok (.aload_n 0, 1) := by decide +kernel
theorem dX4_init_23 : decode cX4_init 23 = .ok (.bipush 109, 2) := by decide +kernel
theorem dX4_init_25 : decode cX4_init 25 = .ok (.putfield 26, 3) := by decide +kernel
theorem dX4_init_28 : decode cX4_init 28 = .ok (.aload_n 0, 1) := by decide +kernel
theorem dX4_init_29 : decode cX4_init 29 = .ok (.iconst 0, 1) := by decide +kernel
theorem dX4_init_30 : decode cX4_init 30 = .ok (.putfield 29, 3) := by decide +kernel
theorem dX4_init_33 : decode cX4_init 33 = .ok (.return_, 1) := by decide +kernel
theorem dX6_init_0 : decode cX6_init 0 = .ok (.aload_n 0, 1) := by decide +kernel
theorem dX6_init_1 : decode cX6_init 1 = .ok (.invokespecial 3, 3) := by decide +kernel
theorem dX6_init_4 : decode cX6_init 4 = .ok (.aload_n 0, 1) := by decide +kernel
theorem dX6_init_5 : decode cX6_init 5 = .ok (.bipush 60, 2) := by decide +kernel
theorem dX6_init_7 : decode cX6_init 7 = .ok (.newarray .char, 2) := by decide +kernel
theorem dX6_init_9 : decode cX6_init 9 = .ok (.putfield 9, 3) := by decide +kernel
theorem dX6_init_12 : decode cX6_init 12 = .ok (.aload_n 0, 1) := by decide +kernel
theorem dX6_init_13 : decode cX6_init 13 = .ok (.bipush 16, 2) := by decide +kernel
theorem dX6_init_15 : decode cX6_init 15 = .ok (.anewarray 15, 3) := by decide +kernel
theorem dX6_init_18 : decode cX6_init 18 = .ok (.putfield 17, 3) := by decide +kernel
theorem dX6_init_21 : decode cX6_init 21 = .ok (.aload_n 0, 1) := by decide +kernel
theorem dX6_init_22 : decode cX6_init 22 = .ok (.iconst 0, 1) := by decide +kernel
theorem dX6_init_23 : decode cX6_init 23 = .ok (.putfield 21, 3) := by decide +kernel
theorem dX6_init_26 : decode cX6_init 26 = .ok (.aload_n 0, 1) := by decide +kernel
theorem dX6_init_27 : decode cX6_init 27 = .ok (.iconst 0, 1) := by decide +kernel
theorem dX6_init_28 : decode cX6_init 28 = .ok (.putfield 25, 3) := by decide +kernel
theorem dX6_init_31 : decode cX6_init 31 = .ok (.aload_n 0, 1) := by decide +kernel
theorem dX6_init_32 : decode cX6_init 32 = .ok (.iconst 0, 1) := by decide +kernel
theorem dX6_init_33 : decode cX6_init 33 = .ok (.putfield 28, 3) := by decide +kernel
theorem dX6_init_36 : decode cX6_init 36 = .ok (.iconst 0, 1) := by decide +kernel
theorem dX6_init_37 : decode cX6_init 37 = .ok (.istore_n 1, 1) := by decide +kernel
theorem dX6_init_38 : decode cX6_init 38 = .ok (.iload_n 1, 1) := by decide +kernel
theorem dX6_init_39 : decode cX6_init 39 = .ok (.bipush 16, 2) := by decide +kernel
theorem dX6_init_41 : decode cX6_init 41 = .ok (.if_icmp .ge 22, 3) := by decide +kernel
theorem dX6_init_44 : decode cX6_init 44 = .ok (.aload_n 0, 1) := by decide +kernel
theorem dX6_init_45 : decode cX6_init 45 = .ok (.getfield 17, 3) := by decide +kernel
theorem dX6_init_48 : decode cX6_init 48 = .ok (.iload_n 1, 1) := by decide +kernel
theorem dX6_init_49 : decode cX6_init 49 = .ok (.new 15, 3) := by decide +kernel
theorem dX6_init_52 : decode cX6_init 52 = .ok (.dup, 1) := by decide +kernel
theorem dX6_init_53 : decode cX6_init 53 = .ok (.invokespecial 31, 3) := by decide +kernel
theorem dX6_init_56 : decode cX6_init 56 = .ok (.aastore, 1) := by decide +kernel
theorem dX6_init_57 : decode cX6_init 57 = .ok (.iinc 1 1, 3) := by decide +kernel
theorem dX6_init_60 : decode cX6_init 60 = .ok (.goto (-22), 3) := by decide +kernel
theorem dX6_init_63 : decode cX6_init 63 = .ok (.return_, 1) := by decide +kernel
theorem dX6_append_0 : decode cX6_append 0 = .ok (.aload_n 0, 1) := by decide +kernel
theorem dX6_append_1 : decode cX6_append 1 = .ok (.getfield 21, 3) := by decide +kernel
theorem dX6_append_4 : decode cX6_append 4 = .ok (.bipush 60, 2) := by decide +kernel
theorem dX6_append_6 : decode cX6_append 6 = .ok (.if_icmp .ge 23, 3) := by decide +kernel
theorem dX6_append_9 : decode cX6_append 9 = .ok (.aload_n 0, 1) := by decide +kernel
theorem dX6_append_10 : decode cX6_append 10 = .ok (.getfield 9, 3) := by decide +kernel
theorem dX6_append_13 : decode cX6_append 13 = .ok (.aload_n 0, 1) := by decide +kernel
theorem dX6_append_14 : decode cX6_append 14 = .ok (.getfield 21, 3) := by decide +kernel
theorem dX6_append_17 : decode cX6_append 17 = .ok (.iload_n 1, 1) := by decide +kernel
theorem dX6_append_18 : decode cX6_append 18 = .ok (.castore, 1) := by decide +kernel
theorem dX6_append_19 : decode cX6_append 19 = .ok (.aload_n 0, 1) := by decide +kernel
theorem dX6_append_20 : decode cX6_append 20 = .ok (.dup, 1) := by decide +kernel
theorem dX6_append_21 : decode cX6_append 21 = .ok (.getfield 21, 3) := by decide +kernel
theorem dX6_append_24 : decode cX6_append 24 = .ok (.iconst 1, 1) := by decide +kernel
theorem dX6_append_25 : decode cX6_append 25 = .ok (.iadd, 1) := by decide +kernel
theorem dX6_append_26 : decode cX6_append 26 = .ok (.putfield 21, 3) := by decide +kernel
theorem dX6_append_29 : decode cX6_append 29 = .ok (.return_, 1) := by decide +kernel
theorem dX6_parse_0 : decode cX6_parse 0 = .ok (.aload_n 0, 1) := by decide +kernel
theorem dX6_parse_1 : decode cX6_parse 1 = .ok (.iconst 0, 1) := by decide +kernel
theorem dX6_parse_2 : decode cX6_parse 2 = .ok (.putfield 25, 3) := by decide +kernel
theorem dX6_parse_5 : decode cX6_parse 5 = .ok (.aload_n 0, 1) := by decide +kernel
theorem dX6_parse_6 : decode cX6_parse 6 = .ok (.iconst 0, 1) := by decide +kernel
theorem dX6_parse_7 : decode cX6_parse 7 = .ok (.putfield 28, 3) := by decide +kernel
theorem dX6_parse_10 : decode cX6_parse 10 = .ok (.aload_n 0, 1) := by decide +kernel
theorem dX6_parse_11 : decode cX6_parse 11 = .ok (.getfield 28, 3) := by decide +kernel
theorem dX6_parse_14 : decode cX6_parse 14 = .ok (.bipush 16, 2) := by decide +kernel
theorem dX6_parse_16 : decode cX6_parse 16 = .ok (.if_icmp .ge 55, 3) := by decide +kernel
theorem dX6_parse_19 : decode cX6_parse 19 = .ok (.aload_n 0, 1) := by decide +kernel
theorem dX6_parse_20 : decode cX6_parse 20 = .ok (.aload_n 0, 1) := by decide +kernel
theorem dX6_parse_21 : decode cX6_parse 21 = .ok (.getfield 17, 3) := by decide +kernel
theorem dX6_parse_24 : decode cX6_parse 24 = .ok (.aload_n 0, 1) := by decide +kernel
theorem dX6_parse_25 : decode cX6_parse 25 = .ok (.getfield 28, 3) := by decide +kernel
theorem dX6_parse_28 : decode cX6_parse 28 = .ok (.aaload, 1) := by decide +kernel
theorem dX6_parse_29 : decode cX6_parse 29 = .ok (.invokevirtual 32, 3) := by decide +kernel
theorem dX6_parse_32 : decode cX6_parse 32 = .ok (.ifCond .ne 5, 3) := by decide +kernel
theorem dX6_parse_35 : decode cX6_parse 35 = .ok (.iconst 0, 1) := by decide +kernel
theorem dX6_parse_36 : decode cX6_parse 36 = .ok (.ireturn, 1) := by decide +kernel
theorem dX6_parse_37 : decode cX6_parse 37 = .ok (.aload_n 0, 1) := by decide +kernel
theorem dX6_parse_38 : decode cX6_parse 38 = .ok (.dup, 1) := by decide +kernel
theorem dX6_parse_39 : decode cX6_parse 39 = .ok (.getfield 28, 3) := by decide +kernel
theorem dX6_parse_42 : decode cX6_parse 42 = .ok (.iconst 1, 1) := by decide +kernel
theorem dX6_parse_43 : decode cX6_parse 43 = .ok (.iadd, 1) := by decide +kernel
theorem dX6_parse_44 : decode cX6_parse 44 = .ok (.putfield 28, 3) := by decide +kernel
theorem dX6_parse_47 : decode cX6_parse 47 = .ok (.aload_n 0, 1) := by decide +kernel
theorem dX6_parse_48 : decode cX6_parse 48 = .ok (.getfield 25, 3) := by decide +kernel
theorem dX6_parse_51 : decode cX6_parse 51 = .ok (.aload_n 0, 1) := by decide +kernel
theorem dX6_parse_52 : decode cX6_parse 52 = .ok (.getfield 21, 3) := by decide +kernel
theorem dX6_parse_55 : decode cX6_parse 55 = .ok (.if_icmp .ne 5, 3) := by decide +kernel
theorem dX6_parse_58 : decode cX6_parse 58 = .ok (.iconst 1, 1) := by decide +kernel
theorem dX6_parse_59 : decode cX6_parse 59 = .ok (.ireturn, 1) := by decide +kernel
theorem dX6_parse_60 : decode cX6_parse 60 = .ok (.aload_n 0, 1) := by decide +kernel
theorem dX6_parse_61 : decode cX6_parse 61 = .ok (.bipush 59, 2) := by decide +kernel
theorem dX6_parse_63 : decode cX6_parse 63 = .ok (.invokevirtual 36, 3) := by decide +kernel
theorem dX6_parse_66 : decode cX6_parse 66 = .ok (.ifCond .ne (-56), 3) := by decide +kernel
theorem dX6_parse_69 : decode cX6_parse 69 = .ok (.iconst 0, 1) := by decide +kernel
theorem dX6_parse_70 : decode cX6_parse 70 = .ok (.ireturn, 1) := by decide +kernel
theorem dX6_parse_71 : decode cX6_parse 71 = .ok (.iconst 0, 1) := by decide +kernel
theorem dX6_parse_72 : decode cX6_parse 72 = .ok (.ireturn, 1) := by decide +kernel
theorem dX6_readOrder_0 : decode cX6_readOrder 0 = .ok (.aload_n 0, 1) := by decide +kernel
theorem dX6_readOrder_1 : decode cX6_readOrder 1 = .ok (.aload_n 1, 1) := by decide +kernel
theorem dX6_readOrder_2 : decode cX6_readOrder 2 = .ok (.invokevirtual 40, 3) := by decide +kernel
theorem dX6_readOrder_5 : decode cX6_readOrder 5 = .ok (.ifCond .ne 5, 3) := by decide +kernel
theorem dX6_readOrder_8 : decode cX6_readOrder 8 = .ok (.iconst 0, 1) := by decide +kernel
theorem dX6_readOrder_9 : decode cX6_readOrder 9 = .ok (.ireturn, 1) := by decide +kernel
theorem dX6_readOrder_10 : decode cX6_readOrder 10 = .ok (.aload_n 1, 1) := by decide +kernel
theorem dX6_readOrder_11 : decode cX6_readOrder 11 = .ok (.getfield 43, 3) := by decide +kernel
theorem dX6_readOrder_14 : decode cX6_readOrder 14 = .ok (.getstatic 47, 3) := by decide +kernel
theorem dX6_readOrder_17 : decode cX6_readOrder 17 = .ok (.if_acmp .ne 9, 3) := by decide +kernel
theorem dX6_readOrder_20 : decode cX6_readOrder 20 = .ok (.aload_n 0, 1) := by decide +kernel
theorem dX6_readOrder_21 : decode cX6_readOrder 21 = .ok (.aload_n 1, 1) := by decide +kernel
theorem dX6_readOrder_22 : decode cX6_readOrder 22 = .ok (.invokevirtual 52, 3) := by decide +kernel
theorem dX6_readOrder_25 : decode cX6_readOrder 25 = .ok (.ireturn, 1) := by decide +kernel
theorem dX6_readOrder_26 : decode cX6_readOrder 26 = .ok (.aload_n 1, 1) := by decide +kernel
theorem dX6_readOrder_27 : decode cX6_readOrder 27 = .ok (.getfield 43, 3) := by decide +kernel
theorem dX6_readOrder_30 : decode cX6_readOrder 30 = .ok (.getfield 55, 3) := by decide +kernel
theorem dX6_readOrder_33 : decode cX6_readOrder 33 = .ok (.astore_n 2, 1) := by decide +kernel
theorem dX6_readOrder_34 : decode cX6_readOrder 34 = .ok (.iconst 0, 1) := by decide +kernel
theorem dX6_readOrder_35 : decode cX6_readOrder 35 = .ok (.istore_n 3, 1) := by decide +kernel
theorem dX6_readOrder_36 : decode cX6_readOrder 36 = .ok (.iload_n 3, 1) := by decide +kernel
theorem dX6_readOrder_37 : decode cX6_readOrder 37 = .ok (.aload_n 2, 1) := by decide +kernel
theorem dX6_readOrder_38 : decode cX6_readOrder 38 = .ok (.invokevirtual 59, 3) := by decide +kernel
theorem dX6_readOrder_41 : decode cX6_readOrder 41 = .ok (.if_icmp .ge 24, 3) := by decide +kernel
theorem dX6_readOrder_44 : decode cX6_readOrder 44 = .ok (.aload_n 0, 1) := by decide +kernel
theorem dX6_readOrder_45 : decode cX6_readOrder 45 = .ok (.aload_n 2, 1) := by decide +kernel
theorem dX6_readOrder_46 : decode cX6_readOrder 46 = .ok (.iload_n 3, 1) := by decide +kernel
theorem dX6_readOrder_47 : decode cX6_readOrder 47 = .ok (.invokevirtual 64, 3) := by decide +kernel
theorem dX6_readOrder_50 : decode cX6_readOrder 50 = .ok (.aload_n 1, 1) := by decide +kernel
theorem dX6_readOrder_51 : decode cX6_readOrder 51 = .ok (.invokevirtual 68, 3) := by decide +kernel
theorem dX6_readOrder_54 : decode cX6_readOrder 54 = .ok (.ifCond .ne 5, 3) := by decide +kernel
theorem dX6_readOrder_57 : decode cX6_readOrder 57 = .ok (.iconst 0, 1) := by decide +kernel
theorem dX6_readOrder_58 : decode cX6_readOrder 58 = .ok (.ireturn, 1) := by decide +kernel
theorem dX6_readOrder_59 : decode cX6_readOrder 59 = .ok (.iinc 3 1, 3) := by decide +kernel
theorem dX6_readOrder_62 : decode cX6_readOrder 62 = .ok (.goto (-26), 3) := by decide +kernel
theorem dX6_readOrder_65 : decode cX6_readOrder 65 = .ok (.iconst 1, 1) := by decide +kernel
theorem dX6_readOrder_66 : decode cX6_readOrder 66 = .ok (.ireturn, 1) := by decide +kernel
theorem dX6_readWord_0 : decode cX6_readWord 0 = .ok (.iconst 0, 1) := by decide +kernel
theorem dX6_readWord_1 : decode cX6_readWord 1 = .ok (.istore_n 2, 1) := by decide +kernel
theorem dX6_readWord_2 : decode cX6_readWord 2 = .ok (.getstatic 72, 3) := by decide +kernel
theorem dX6_readWord_5 : decode cX6_readWord 5 = .ok (.astore_n 3, 1) := by decide +kernel
theorem dX6_readWord_6 : decode cX6_readWord 6 = .ok (.aload_n 3, 1) := by decide +kernel
theorem dX6_readWord_7 : decode cX6_readWord 7 = .ok (.arraylength, 1) := by decide +kernel
theorem dX6_readWord_8 : decode cX6_readWord 8 = .ok (.istore 4, 2) := by decide +kernel
theorem dX6_readWord_10 : decode cX6_readWord 10 = .ok (.iconst 0, 1) := by decide +kernel
theorem dX6_readWord_11 : decode cX6_readWord 11 = .ok (.istore 5, 2) := by decide +kernel
theorem dX6_readWord_13 : decode cX6_readWord 13 = .ok (.iload 5, 2) := by decide +kernel
theorem dX6_readWord_15 : decode cX6_readWord 15 = .ok (.iload 4, 2) := by decide +kernel
theorem dX6_readWord_17 : decode cX6_readWord 17 = .ok (.if_icmp .ge 65, 3) := by decide +kernel
theorem dX6_readWord_20 : decode cX6_readWord 20 = .ok (.aload_n 3, 1) := by decide +kernel
theorem dX6_readWord_21 : decode cX6_readWord 21 = .ok (.iload 5, 2) := by decide +kernel
theorem dX6_readWord_23 : decode cX6_readWord 23 = .ok (.aaload, 1) := by decide +kernel
theorem dX6_readWord_24 : decode cX6_readWord 24 = .ok (.astore 6, 2) := by decide +kernel
theorem dX6_readWord_26 : decode cX6_readWord 26 = .ok (.aload_n 0, 1) := by decide +kernel
theorem dX6_readWord_27 : decode cX6_readWord 27 = .ok (.aload 6, 2) := by decide +kernel
theorem dX6_readWord_29 : decode cX6_readWord 29 = .ok (.getfield 76, 3) := by decide +kernel
theorem dX6_readWord_32 : decode cX6_readWord 32 = .ok (.invokevirtual 79, 3) := by decide +kernel
theorem dX6_readWord_35 : decode cX6_readWord 35 = .ok (.istore 7, 2) := by decide +kernel
theorem dX6_readWord_37 : decode cX6_readWord 37 = .ok (.iload 7, 2) := by decide +kernel
theorem dX6_readWord_39 : decode cX6_readWord 39 = .ok (.aload 6, 2) := by decide +kernel
theorem dX6_readWord_41 : decode cX6_readWord 41 = .ok (.getfield 76, 3) := by decide +kernel
theorem dX6_readWord_44 : decode cX6_readWord 44 = .ok (.invokevirtual 59, 3) := by decide +kernel
theorem dX6_readWord_47 : decode cX6_readWord 47 = .ok (.if_icmp .ne 22, 3) := by decide +kernel
theorem dX6_readWord_50 : decode cX6_readWord 50 = .ok (.aload_n 1, 1) := by decide +kernel
theorem dX6_readWord_51 : decode cX6_readWord 51 = .ok (.aload 6, 2) := by decide +kernel
theorem dX6_readWord_53 : decode cX6_readWord 53 = .ok (.putfield 43, 3) := by decide +kernel
theorem dX6_readWord_56 : decode cX6_readWord 56 = .ok (.aload_n 0, 1) := by decide +kernel
theorem dX6_readWord_57 : decode cX6_readWord 57 = .ok (.dup, 1) := by decide +kernel
theorem dX6_readWord_58 : decode cX6_readWord 58 = .ok (.getfield 25, 3) := by decide +kernel
theorem dX6_readWord_61 : decode cX6_readWord 61 = .ok (.iload 7, 2) := by decide +kernel
theorem dX6_readWord_63 : decode cX6_readWord 63 = .ok (.iadd, 1) := by decide +kernel
theorem dX6_readWord_64 : decode cX6_readWord 64 = .ok (.putfield 25, 3) := by decide +kernel
theorem dX6_readWord_67 : decode cX6_readWord 67 = .ok (.iconst 1, 1) := by decide +kernel
theorem dX6_readWord_68 : decode cX6_readWord 68 = .ok (.ireturn, 1) := by decide +kernel
theorem dX6_readWord_69 : decode cX6_readWord 69 = .ok (.iload_n 2, 1) := by decide +kernel
theorem dX6_readWord_70 : decode cX6_readWord 70 = .ok (.iload 7, 2) := by decide +kernel
theorem dX6_readWord_72 : decode cX6_readWord 72 = .ok (.invokestatic 83, 3) := by decide +kernel
theorem dX6_readWord_75 : decode cX6_readWord 75 = .ok (.istore_n 2, 1) := by decide +kernel
theorem dX6_readWord_76 : decode cX6_readWord 76 = .ok (.iinc 5 1, 3) := by decide +kernel
theorem dX6_readWord_79 : decode cX6_readWord 79 = .ok (.goto (-66), 3) := by decide +kernel
theorem dX6_readWord_82 : decode cX6_readWord 82 = .ok (.aload_n 0, 1) := by decide +kernel
theorem dX6_readWord_83 : decode cX6_readWord 83 = .ok (.dup, 1) := by decide +kernel
theorem dX6_readWord_84 : decode cX6_readWord 84 = .ok (.getfield 25, 3) := by decide +kernel
theorem dX6_readWord_87 : decode cX6_readWord 87 = .ok (.iload_n 2, 1) := by decide +kernel
theorem dX6_readWord_88 : decode cX6_readWord 88 = .ok (.iadd, 1) := by decide +kernel
theorem dX6_readWord_89 : decode cX6_readWord 89 = .ok (.putfield 25, 3) := by decide +kernel
theorem dX6_readWord_92 : decode cX6_readWord 92 = .ok (.iconst 0, 1) := by decide +kernel
theorem dX6_readWord_93 : decode cX6_readWord 93 = .ok (.ireturn, 1) := by decide +kernel
theorem dX6_fitOf_0 : decode cX6_fitOf 0 = .ok (.iconst 0, 1) := by decide +kernel
theorem dX6_fitOf_1 : decode cX6_fitOf 1 = .ok (.istore_n 2, 1) := by decide +kernel
theorem dX6_fitOf_2 : decode cX6_fitOf 2 = .ok (.iload_n 2, 1) := by decide +kernel
theorem dX6_fitOf_3 : decode cX6_fitOf 3 = .ok (.aload_n 1, 1) := by decide +kernel
theorem dX6_fitOf_4 : decode cX6_fitOf 4 = .ok (.invokevirtual 59, 3) := by decide +kernel
theorem dX6_fitOf_7 : decode cX6_fitOf 7 = .ok (.if_icmp .ge 27, 3) := by decide +kernel
theorem dX6_fitOf_10 : decode cX6_fitOf 10 = .ok (.aload_n 0, 1) := by decide +kernel
theorem dX6_fitOf_11 : decode cX6_fitOf 11 = .ok (.aload_n 0, 1) := by decide +kernel
theorem dX6_fitOf_12 : decode cX6_fitOf 12 = .ok (.getfield 25, 3) := by decide +kernel
theorem dX6_fitOf_15 : decode cX6_fitOf 15 = .ok (.iload_n 2, 1) := by decide +kernel
theorem dX6_fitOf_16 : decode cX6_fitOf 16 = .ok (.iadd, 1) := by decide +kernel
theorem dX6_fitOf_17 : decode cX6_fitOf 17 = .ok (.invokevirtual 89, 3) := by decide +kernel
theorem dX6_fitOf_20 : decode cX6_fitOf 20 = .ok (.aload_n 1, 1) := by decide +kernel
theorem dX6_fitOf_21 : decode cX6_fitOf 21 = .ok (.iload_n 2, 1) := by decide +kernel
theorem dX6_fitOf_22 : decode cX6_fitOf 22 = .ok (.invokevirtual 64, 3) := by decide +kernel
theorem dX6_fitOf_25 : decode cX6_fitOf 25 = .ok (.if_icmp .ne 9, 3) := by decide +kernel
theorem dX6_fitOf_28 : decode cX6_fitOf 28 = .ok (.iinc 2 1, 3) := by decide +kernel
theorem dX6_fitOf_31 : decode cX6_fitOf 31 = .ok (.goto (-29), 3) := by decide +kernel
theorem dX6_fitOf_34 : decode cX6_fitOf 34 = .ok (.iload_n 2, 1) := by decide +kernel
theorem dX6_fitOf_35 : decode cX6_fitOf 35 = .ok (.ireturn, 1) := by decide +kernel
theorem dX6_readDays_0 : decode cX6_readDays 0 = .ok (.aload_n 1, 1) := by decide +kernel
theorem dX6_readDays_1 : decode cX6_readDays 1 = .ok (.iconst 1, 1) := by decide +kernel
theorem dX6_readDays_2 : decode cX6_readDays 2 = .ok (.putfield 92, 3) := by decide +kernel
theorem dX6_readDays_5 : decode cX6_readDays 5 = .ok (.aload_n 0, 1) := by decide +kernel
theorem dX6_readDays_6 : decode cX6_readDays 6 = .ok (.bipush 32, 2) := by decide +kernel
theorem dX6_readDays_8 : decode cX6_readDays 8 = .ok (.invokevirtual 36, 3) := by decide +kernel
theorem dX6_readDays_11 : decode cX6_readDays 11 = .ok (.ifCond .ne 5, 3) := by decide +kernel
theorem dX6_readDays_14 : decode cX6_readDays 14 = .ok (.iconst 1, 1) := by decide +kernel
theorem dX6_readDays_15 : decode cX6_readDays 15 = .ok (.ireturn, 1) := by decide +kernel
theorem dX6_readDays_16 : decode cX6_readDays 16 = .ok (.aload_n 0, 1) := by decide +kernel
theorem dX6_readDays_17 : decode cX6_readDays 17 = .ok (.bipush 110, 2) := by decide +kernel
theorem dX6_readDays_19 : decode cX6_readDays 19 = .ok (.aload_n 1, 1) := by decide +kernel
theorem dX6_readDays_20 : decode cX6_readDays 20 = .ok (.invokevirtual 68, 3) := by decide +kernel
theorem dX6_readDays_23 : decode cX6_readDays 23 = .ok (.ireturn, 1) := by decide +kernel
theorem dX6_readPart_0 : decode cX6_readPart 0 = .ok (.iload_n 1, 1) := by decide +kernel
theorem dX6_readPart_1 : decode cX6_readPart 1 = .ok (.lookupswitch 156 #[(100, 72), (107, 114), (110, 93), (111, 135), (118, 51)], 51) := by decide +kernel
theorem dX6_readPart_52 : decode cX6_readPart 52 = .ok (.aload_n 2, 1) := by decide +kernel
theorem dX6_readPart_53 : decode cX6_readPart 53 = .ok (.aload_n 0, 1) := by decide +kernel
theorem dX6_readPart_54 : decode cX6_readPart 54 = .ok (.invokevirtual 95, 3) := by decide +kernel
theorem dX6_readPart_57 : decode cX6_readPart 57 = .ok (.putfield 98, 3) := by decide +kernel
theorem dX6_readPart_60 : decode cX6_readPart 60 = .ok (.aload_n 2, 1) := by decide +kernel
theorem dX6_readPart_61 : decode cX6_readPart 61 = .ok (.getfield 98, 3) := by decide +kernel
theorem dX6_readPart_64 : decode cX6_readPart 64 = .ok (.ifCond .lt 7, 3) := by decide +kernel
theorem dX6_readPart_67 : decode cX6_readPart 67 = .ok (.iconst 1, 1) := by decide +kernel
theorem dX6_readPart_68 : decode cX6_readPart 68 = .ok (.goto 4, 3) := by decide +kernel
theorem dX6_readPart_71 : decode cX6_readPart 71 = .ok (.iconst 0, 1) := by decide +kernel
theorem dX6_readPart_72 : decode cX6_readPart 72 = .ok (.ireturn, 1) := by decide +kernel
theorem dX6_readPart_73 : decode cX6_readPart 73 = .ok (.aload_n 2, 1) := by decide +kernel
theorem dX6_readPart_74 : decode cX6_readPart 74 = .ok (.aload_n 0, 1) := by decide +kernel
theorem dX6_readPart_75 : decode cX6_readPart 75 = .ok (.invokevirtual 95, 3) := by decide +kernel
theorem dX6_readPart_78 : decode cX6_readPart 78 = .ok (.putfield 92, 3) := by decide +kernel
theorem dX6_readPart_81 : decode cX6_readPart 81 = .ok (.aload_n 2, 1) := by decide +kernel
theorem dX6_readPart_82 : decode cX6_readPart 82 = .ok (.getfield 92, 3) := by decide +kernel
theorem dX6_readPart_85 : decode cX6_readPart 85 = .ok (.ifCond .lt 7, 3) := by decide +kernel
theorem dX6_readPart_88 : decode cX6_readPart 88 = .ok (.iconst 1, 1) := by decide +kernel
theorem dX6_readPart_89 : decode cX6_readPart 89 = .ok (.goto 4, 3) := by decide +kernel
theorem dX6_readPart_92 : decode cX6_readPart 92 = .ok (.iconst 0, 1) := by decide +kernel
theorem dX6_readPart_93 : decode cX6_readPart 93 = .ok (.ireturn, 1) := by decide +kernel
theorem dX6_readPart_94 : decode cX6_readPart 94 = .ok (.aload_n 2, 1) := by decide +kernel
theorem dX6_readPart_95 : decode cX6_readPart 95 = .ok (.aload_n 0, 1) := by decide +kernel
theorem dX6_readPart_96 : decode cX6_readPart 96 = .ok (.invokevirtual 101, 3) := by decide +kernel
theorem dX6_readPart_99 : decode cX6_readPart 99 = .ok (.putfield 92, 3) := by decide +kernel
theorem dX6_readPart_102 : decode cX6_readPart 102 = .ok (.aload_n 2, 1) := by decide +kernel
theorem dX6_readPart_103 : decode cX6_readPart 103 = .ok (.getfield 92, 3) := by decide +kernel
theorem dX6_readPart_106 : decode cX6_readPart 106 = .ok (.ifCond .lt 7, 3) := by decide +kernel
theorem dX6_readPart_109 : decode cX6_readPart 109 = .ok (.iconst 1, 1) := by decide +kernel
theorem dX6_readPart_110 : decode cX6_readPart 110 = .ok (.goto 4, 3) := by decide +kernel
theorem dX6_readPart_113 : decode cX6_readPart 113 = .ok (.iconst 0, 1) := by decide +kernel
theorem dX6_readPart_114 : decode cX6_readPart 114 = .ok (.ireturn, 1) := by decide +kernel
theorem dX6_readPart_115 : decode cX6_readPart 115 = .ok (.aload_n 2, 1) := by decide +kernel
theorem dX6_readPart_116 : decode cX6_readPart 116 = .ok (.aload_n 0, 1) := by decide +kernel
theorem dX6_readPart_117 : decode cX6_readPart 117 = .ok (.invokevirtual 104, 3) := by decide +kernel
theorem dX6_readPart_120 : decode cX6_readPart 120 = .ok (.putfield 108, 3) := by decide +kernel
theorem dX6_readPart_123 : decode cX6_readPart 123 = .ok (.aload_n 2, 1) := by decide +kernel
theorem dX6_readPart_124 : decode cX6_readPart 124 = .ok (.getfield 108, 3) := by decide +kernel
theorem dX6_readPart_127 : decode cX6_readPart 127 = .ok (.ifCond .eq 7, 3) := by decide +kernel
theorem dX6_readPart_130 : decode cX6_readPart 130 = .ok (.iconst 1, 1) := by decide +kernel
theorem dX6_readPart_131 : decode cX6_readPart 131 = .ok (.goto 4, 3) := by decide +kernel
theorem dX6_readPart_134 : decode cX6_readPart 134 = .ok (.iconst 0, 1) := by decide +kernel
theorem dX6_readPart_135 : decode cX6_readPart 135 = .ok (.ireturn, 1) := by decide +kernel
theorem dX6_readPart_136 : decode cX6_readPart 136 = .ok (.aload_n 2, 1) := by decide +kernel
theorem dX6_readPart_137 : decode cX6_readPart 137 = .ok (.aload_n 0, 1) := by decide +kernel
theorem dX6_readPart_138 : decode cX6_readPart 138 = .ok (.invokevirtual 104, 3) := by decide +kernel
theorem dX6_readPart_141 : decode cX6_readPart 141 = .ok (.putfield 112, 3) := by decide +kernel
theorem dX6_readPart_144 : decode cX6_readPart 144 = .ok (.aload_n 2, 1) := by decide +kernel
theorem dX6_readPart_145 : decode cX6_readPart 145 = .ok (.getfield 112, 3) := by decide +kernel
theorem dX6_readPart_148 : decode cX6_readPart 148 = .ok (.ifCond .eq 7, 3) := by decide +kernel
theorem dX6_readPart_151 : decode cX6_readPart 151 = .ok (.iconst 1, 1) := by decide +kernel
theorem dX6_readPart_152 : decode cX6_readPart 152 = .ok (.goto 4, 3) := by decide +kernel
theorem dX6_readPart_155 : decode cX6_readPart 155 = .ok (.iconst 0, 1) := by decide +kernel
theorem dX6_readPart_156 : decode cX6_readPart 156 = .ok (.ireturn, 1) := by decide +kernel
theorem dX6_readPart_157 : decode cX6_readPart 157 = .ok (.aload_n 0, 1) := by decide +kernel
theorem dX6_readPart_158 : decode cX6_readPart 158 = .ok (.iload_n 1, 1) := by decide +kernel
theorem dX6_readPart_159 : decode cX6_readPart 159 = .ok (.invokevirtual 36, 3) := by decide +kernel
theorem dX6_readPart_162 : decode cX6_readPart 162 = .ok (.ireturn, 1) := by decide +kernel
theorem dX6_readSign_0 : decode cX6_readSign 0 = .ok (.aload_n 0, 1) := by decide +kernel
theorem dX6_readSign_1 : decode cX6_readSign 1 = .ok (.aload_n 0, 1) := by decide +kernel
theorem dX6_readSign_2 : decode cX6_readSign 2 = .ok (.getfield 25, 3) := by decide +kernel
theorem dX6_readSign_5 : decode cX6_readSign 5 = .ok (.invokevirtual 89, 3) := by decide +kernel
theorem dX6_readSign_8 : decode cX6_readSign 8 = .ok (.iload_n 1, 1) := by decide +kernel
theorem dX6_readSign_9 : decode cX6_readSign 9 = .ok (.if_icmp .eq 5, 3) := by decide +kernel
theorem dX6_readSign_12 : decode cX6_readSign 12 = .ok (.iconst 0, 1) := by decide +kernel
theorem dX6_readSign_13 : decode cX6_readSign 13 = .ok (.ireturn, 1) := by decide +kernel
theorem dX6_readSign_14 : decode cX6_readSign 14 = .ok (.aload_n 0, 1) := by decide +kernel
theorem dX6_readSign_15 : decode cX6_readSign 15 = .ok (.dup, 1) := by decide +kernel
theorem dX6_readSign_16 : decode cX6_readSign 16 = .ok (.getfield 25, 3) := by decide +kernel
theorem dX6_readSign_19 : decode cX6_readSign 19 = .ok (.iconst 1, 1) := by decide +kernel
theorem dX6_readSign_20 : decode cX6_readSign 20 = .ok (.iadd, 1) := by decide +kernel
theorem dX6_readSign_21 : decode cX6_readSign 21 = .ok (.putfield 25, 3) := by decide +kernel
theorem dX6_readSign_24 : decode cX6_readSign 24 = .ok (.iconst 1, 1) := by decide +kernel
theorem dX6_readSign_25 : decode cX6_readSign 25 = .ok (.ireturn, 1) := by decide +kernel
theorem dX6_readDigit_0 : decode cX6_readDigit 0 = .ok (.aload_n 0, 1) := by decide +kernel
theorem dX6_readDigit_1 : decode cX6_readDigit 1 = .ok (.aload_n 0, 1) := by decide +kernel
theorem dX6_readDigit_2 : decode cX6_readDigit 2 = .ok (.getfield 25, 3) := by decide +kernel
theorem dX6_readDigit_5 : decode cX6_readDigit 5 = .ok (.invokevirtual 89, 3) := by decide +kernel
theorem dX6_readDigit_8 : decode cX6_readDigit 8 = .ok (.istore_n 1, 1) := by decide +kernel
theorem dX6_readDigit_9 : decode cX6_readDigit 9 = .ok (.iload_n 1, 1) := by decide +kernel
theorem dX6_readDigit_10 : decode cX6_readDigit 10 = .ok (.bipush 48, 2) := by decide +kernel
theorem dX6_readDigit_12 : decode cX6_readDigit 12 = .ok (.if_icmp .lt 9, 3) := by decide +kernel
theorem dX6_readDigit_15 : decode cX6_readDigit 15 = .ok (.iload_n 1, 1) := by decide +kernel
theorem dX6_readDigit_16 : decode cX6_readDigit 16 = .ok (.bipush 57, 2) := by decide +kernel
theorem dX6_readDigit_18 : decode cX6_readDigit 18 = .ok (.if_icmp .le 5, 3) := by decide +kernel
theorem dX6_readDigit_21 : decode cX6_readDigit 21 = .ok (.iconst (-1), 1) := by decide +kernel
theorem dX6_readDigit_22 : decode cX6_readDigit 22 = .ok (.ireturn, 1) := by decide +kernel
theorem dX6_readDigit_23 : decode cX6_readDigit 23 = .ok (.aload_n 0, 1) := by decide +kernel
theorem dX6_readDigit_24 : decode cX6_readDigit 24 = .ok (.dup, 1) := by decide +kernel
theorem dX6_readDigit_25 : decode cX6_readDigit 25 = .ok (.getfield 25, 3) := by decide +kernel
theorem dX6_readDigit_28 : decode cX6_readDigit 28 = .ok (.iconst 1, 1) := by decide +kernel
theorem dX6_readDigit_29 : decode cX6_readDigit 29 = .ok (.iadd, 1) := by decide +kernel
theorem dX6_readDigit_30 : decode cX6_readDigit 30 = .ok (.putfield 25, 3) := by decide +kernel
theorem dX6_readDigit_33 : decode cX6_readDigit 33 = .ok (.iload_n 1, 1) := by decide +kernel
theorem dX6_readDigit_34 : decode cX6_readDigit 34 = .ok (.bipush 48, 2) := by decide +kernel
theorem dX6_readDigit_36 : decode cX6_readDigit 36 = .ok (.isub, 1) := by decide +kernel
theorem dX6_readDigit_37 : decode cX6_readDigit 37 = .ok (.ireturn, 1) := by decide +kernel
theorem dX6_readNumber_0 : decode cX6_readNumber 0 = .ok (.aload_n 0, 1) := by decide +kernel
theorem dX6_readNumber_1 : decode cX6_readNumber 1 = .ok (.invokevirtual 95, 3) := by decide +kernel
theorem dX6_readNumber_4 : decode cX6_readNumber 4 = .ok (.istore_n 1, 1) := by decide +kernel
theorem dX6_readNumber_5 : decode cX6_readNumber 5 = .ok (.iload_n 1, 1) := by decide +kernel
theorem dX6_readNumber_6 : decode cX6_readNumber 6 = .ok (.ifCond .ge 5, 3) := by decide +kernel
theorem dX6_readNumber_9 : decode cX6_readNumber 9 = .ok (.iconst (-1), 1) := by decide +kernel
theorem dX6_readNumber_10 : decode cX6_readNumber 10 = .ok (.ireturn, 1) := by decide +kernel
theorem dX6_readNumber_11 : decode cX6_readNumber 11 = .ok (.aload_n 0, 1) := by decide +kernel
theorem dX6_readNumber_12 : decode cX6_readNumber 12 = .ok (.invokevirtual 95, 3) := by decide +kernel
theorem dX6_readNumber_15 : decode cX6_readNumber 15 = .ok (.istore_n 2, 1) := by decide +kernel
theorem dX6_readNumber_16 : decode cX6_readNumber 16 = .ok (.iload_n 2, 1) := by decide +kernel
theorem dX6_readNumber_17 : decode cX6_readNumber 17 = .ok (.ifCond .ge 7, 3) := by decide +kernel
theorem dX6_readNumber_20 : decode cX6_readNumber 20 = .ok (.iload_n 1, 1) := by decide +kernel
theorem dX6_readNumber_21 : decode cX6_readNumber 21 = .ok (.goto 9, 3) := by decide +kernel
theorem dX6_readNumber_24 : decode cX6_readNumber 24 = .ok (.bipush 10, 2) := by decide +kernel
theorem dX6_readNumber_26 : decode cX6_readNumber 26 = .ok (.iload_n 1, 1) := by decide +kernel
theorem dX6_readNumber_27 : decode cX6_readNumber 27 = .ok (.imul, 1) := by decide +kernel
theorem dX6_readNumber_28 : decode cX6_readNumber 28 = .ok (.iload_n 2, 1) := by decide +kernel
theorem dX6_readNumber_29 : decode cX6_readNumber 29 = .ok (.iadd, 1) := by decide +kernel
theorem dX6_readNumber_30 : decode cX6_readNumber 30 = .ok (.ireturn, 1) := by decide +kernel
theorem dX6_readKind_0 : decode cX6_readKind 0 = .ok (.aload_n 0, 1) := by decide +kernel
theorem dX6_readKind_1 : decode cX6_readKind 1 = .ok (.aload_n 0, 1) := by decide +kernel
theorem dX6_readKind_2 : decode cX6_readKind 2 = .ok (.getfield 25, 3) := by decide +kernel
theorem dX6_readKind_5 : decode cX6_readKind 5 = .ok (.invokevirtual 89, 3) := by decide +kernel
theorem dX6_readKind_8 : decode cX6_readKind 8 = .ok (.istore_n 1, 1) := by decide +kernel
theorem dX6_readKind_9 : decode cX6_readKind 9 = .ok (.ldc 115, 2) := by decide +kernel
theorem dX6_readKind_11 : decode cX6_readKind 11 = .ok (.iload_n 1, 1) := by decide +kernel
theorem dX6_readKind_12 : decode cX6_readKind 12 = .ok (.invokevirtual 117, 3) := by decide +kernel
theorem dX6_readKind_15 : decode cX6_readKind 15 = .ok (.ifCond .ge 5, 3) := by decide +kernel
theorem dX6_readKind_18 : decode cX6_readKind 18 = .ok (.iconst 0, 1) := by decide +kernel
theorem dX6_readKind_19 : decode cX6_readKind 19 = .ok (.ireturn, 1) := by decide +kernel
theorem dX6_readKind_20 : decode cX6_readKind 20 = .ok (.aload_n 0, 1) := by decide +kernel
theorem dX6_readKind_21 : decode cX6_readKind 21 = .ok (.dup, 1) := by decide +kernel
theorem dX6_readKind_22 : decode cX6_readKind 22 = .ok (.getfield 25, 3) := by decide +kernel
theorem dX6_readKind_25 : decode cX6_readKind 25 = .ok (.iconst 1, 1) := by decide +kernel
theorem dX6_readKind_26 : decode cX6_readKind 26 = .ok (.iadd, 1) := by decide +kernel
theorem dX6_readKind_27 : decode cX6_readKind 27 = .ok (.putfield 25, 3) := by decide +kernel
theorem dX6_readKind_30 : decode cX6_readKind 30 = .ok (.iload_n 1, 1) := by decide +kernel
theorem dX6_readKind_31 : decode cX6_readKind 31 = .ok (.ireturn, 1) := by decide +kernel
theorem dX6_signAt_0 : decode cX6_signAt 0 = .ok (.iload_n 1, 1) := by decide +kernel
theorem dX6_signAt_1 : decode cX6_signAt 1 = .ok (.ifCond .lt 17, 3) := by decide +kernel
theorem dX6_signAt_4 : decode cX6_signAt 4 = .ok (.iload_n 1, 1) := by decide +kernel
theorem dX6_signAt_5 : decode cX6_signAt 5 = .ok (.aload_n 0, 1) := by decide +kernel
theorem dX6_signAt_6 : decode cX6_signAt 6 = .ok (.getfield 21, 3) := by decide +kernel
theorem dX6_signAt_9 : decode cX6_signAt 9 = .ok (.if_icmp .ge 9, 3) := by decide +kernel
theorem dX6_signAt_12 : decode cX6_signAt 12 = .ok (.iload_n 1, 1) := by decide +kernel
theorem dX6_signAt_13 : decode cX6_signAt 13 = .ok (.bipush 60, 2) := by decide +kernel
theorem dX6_signAt_15 : decode cX6_signAt 15 = .ok (.if_icmp .lt 7, 3) := by decide +kernel
theorem dX6_signAt_18 : decode cX6_signAt 18 = .ok (.iconst 0, 1) := by decide +kernel
theorem dX6_signAt_19 : decode cX6_signAt 19 = .ok (.goto 9, 3) := by decide +kernel
theorem dX6_signAt_22 : decode cX6_signAt 22 = .ok (.aload_n 0, 1) := by decide +kernel
theorem dX6_signAt_23 : decode cX6_signAt 23 = .ok (.getfield 9, 3) := by decide +kernel
theorem dX6_signAt_26 : decode cX6_signAt 26 = .ok (.iload_n 1, 1) := by decide +kernel
theorem dX6_signAt_27 : decode cX6_signAt 27 = .ok (.caload, 1) := by decide +kernel
theorem dX6_signAt_28 : decode cX6_signAt 28 = .ok (.ireturn, 1) := by decide +kernel
theorem dX7_init_0 : decode cX7_init 0 = .ok (.aload_n 0, 1) := by decide +kernel
theorem dX7_init_1 : decode cX7_init 1 = .ok (.invokespecial 3, 3) := by decide +kernel
theorem dX7_init_4 : decode cX7_init 4 = .ok (.aload_n 0, 1) := by decide +kernel
theorem dX7_init_5 : decode cX7_init 5 = .ok (.iconst 3, 1) := by decide +kernel
theorem dX7_init_6 : decode cX7_init 6 = .ok (.newarray .int, 2) := by decide +kernel
theorem dX7_init_8 : decode cX7_init 8 = .ok (.putfield 9, 3) := by decide +kernel
theorem dX7_init_11 : decode cX7_init 11 = .ok (.aload_n 0, 1) := by decide +kernel
theorem dX7_init_12 : decode cX7_init 12 = .ok (.iconst 0, 1) := by decide +kernel
theorem dX7_init_13 : decode cX7_init 13 = .ok (.putfield 15, 3) := by decide +kernel
theorem dX7_init_16 : decode cX7_init 16 = .ok (.aload_n 0, 1) := by decide +kernel
theorem dX7_init_17 : decode cX7_init 17 = .ok (.iconst 0, 1) := by decide +kernel
theorem dX7_init_18 : decode cX7_init 18 = .ok (.putfield 19, 3) := by decide +kernel
theorem dX7_init_21 : decode cX7_init 21 = .ok (.aload_n 0, 1) := by decide +kernel
theorem dX7_init_22 : decode cX7_init 22 = .ok (.iconst 1, 1) := by decide +kernel
theorem dX7_init_23 : decode cX7_init 23 = .ok (.putfield 22, 3) := by decide +kernel
theorem dX7_init_26 : decode cX7_init 26 = .ok (.aload_n 0, 1) := by decide +kernel
theorem dX7_init_27 : decode cX7_init 27 = .ok (.iconst 0, 1) := by decide +kernel
theorem dX7_init_28 : decode cX7_init 28 = .ok (.putfield 25, 3) := by decide +kernel
theorem dX7_init_31 : decode cX7_init 31 = .ok (.aload_n 0, 1) := by decide +kernel
theorem dX7_init_32 : decode cX7_init 32 = .ok (.iconst 0, 1) := by decide +kernel
theorem dX7_init_33 : decode cX7_init 33 = .ok (.putfield 28, 3) := by decide +kernel
theorem dX7_init_36 : decode cX7_init 36 = .ok (.return_, 1) := by decide +kernel
theorem dX7_copyFrom_0 : decode cX7_copyFrom 0 = .ok (.aload_n 1, 1) := by decide +kernel
theorem dX7_copyFrom_1 : decode cX7_copyFrom 1 = .ok (.getfield 9, 3) := by decide +kernel
theorem dX7_copyFrom_4 : decode cX7_copyFrom 4 = .ok (.iconst 0, 1) := by decide +kernel
theorem dX7_copyFrom_5 : decode cX7_copyFrom 5 = .ok (.aload_n 0, 1) := by decide +kernel
theorem dX7_copyFrom_6 : decode cX7_copyFrom 6 = .ok (.getfield 9, 3) := by decide +kernel
theorem dX7_copyFrom_9 : decode cX7_copyFrom 9 = .ok (.iconst 0, 1) := by decide +kernel
theorem dX7_copyFrom_10 : decode cX7_copyFrom 10 = .ok (.iconst 3, 1) := by decide +kernel
theorem dX7_copyFrom_11 : decode cX7_copyFrom 11 = .ok (.invokestatic 31, 3) := by decide +kernel
theorem dX7_copyFrom_14 : decode cX7_copyFrom 14 = .ok (.aload_n 0, 1) := by decide +kernel
theorem dX7_copyFrom_15 : decode cX7_copyFrom 15 = .ok (.aload_n 1, 1) := by decide +kernel
theorem dX7_copyFrom_16 : decode cX7_copyFrom 16 = .ok (.getfield 15, 3) := by decide +kernel
theorem dX7_copyFrom_19 : decode cX7_copyFrom 19 = .ok (.putfield 15, 3) := by decide +kernel
theorem dX7_copyFrom_22 : decode cX7_copyFrom 22 = .ok (.aload_n 0, 1) := by decide +kernel
theorem dX7_copyFrom_23 : decode cX7_copyFrom 23 = .ok (.aload_n 1, 1) := by decide +kernel
theorem dX7_copyFrom_24 : decode cX7_copyFrom 24 = .ok (.getfield 19, 3) := by decide +kernel
theorem dX7_copyFrom_27 : decode cX7_copyFrom 27 = .ok (.putfield 19, 3) := by decide +kernel
theorem dX7_copyFrom_30 : decode cX7_copyFrom 30 = .ok (.aload_n 0, 1) := by decide +kernel
theorem dX7_copyFrom_31 : decode cX7_copyFrom 31 = .ok (.aload_n 1, 1) := by decide +kernel
theorem dX7_copyFrom_32 : decode cX7_copyFrom 32 = .ok (.getfield 22, 3) := by decide +kernel
theorem dX7_copyFrom_35 : decode cX7_copyFrom 35 = .ok (.putfield 22, 3) := by decide +kernel
theorem dX7_copyFrom_38 : decode cX7_copyFrom 38 = .ok (.aload_n 0, 1) := by decide +kernel
theorem dX7_copyFrom_39 : decode cX7_copyFrom 39 = .ok (.aload_n 1, 1) := by decide +kernel
theorem dX7_copyFrom_40 : decode cX7_copyFrom 40 = .ok (.getfield 25, 3) := by decide +kernel
theorem dX7_copyFrom_43 : decode cX7_copyFrom 43 = .ok (.putfield 25, 3) := by decide +kernel
theorem dX7_copyFrom_46 : decode cX7_copyFrom 46 = .ok (.aload_n 0, 1) := by decide +kernel
theorem dX7_copyFrom_47 : decode cX7_copyFrom 47 = .ok (.aload_n 1, 1) := by decide +kernel
theorem dX7_copyFrom_48 : decode cX7_copyFrom 48 = .ok (.getfield 28, 3) := by decide +kernel
theorem dX7_copyFrom_51 : decode cX7_copyFrom 51 = .ok (.putfield 28, 3) := by decide +kernel
theorem dX7_copyFrom_54 : decode cX7_copyFrom 54 = .ok (.return_, 1) := by decide +kernel
theorem dX7_legsAt_0 : decode cX7_legsAt 0 = .ok (.aload_n 0, 1) := by decide +kernel
theorem dX7_legsAt_1 : decode cX7_legsAt 1 = .ok (.getfield 15, 3) := by decide +kernel
theorem dX7_legsAt_4 : decode cX7_legsAt 4 = .ok (.istore_n 2, 1) := by decide +kernel
theorem dX7_legsAt_5 : decode cX7_legsAt 5 = .ok (.iconst 0, 1) := by decide +kernel
theorem dX7_legsAt_6 : decode cX7_legsAt 6 = .ok (.istore_n 3, 1) := by decide +kernel
theorem dX7_legsAt_7 : decode cX7_legsAt 7 = .ok (.iload_n 3, 1) := by decide +kernel
theorem dX7_legsAt_8 : decode cX7_legsAt 8 = .ok (.iconst 3, 1) := by decide +kernel
theorem dX7_legsAt_9 : decode cX7_legsAt 9 = .ok (.if_icmp .ge 22, 3) := by decide +kernel
theorem dX7_legsAt_12 : decode cX7_legsAt 12 = .ok (.iload_n 2, 1) := by decide +kernel
theorem dX7_legsAt_13 : decode cX7_legsAt 13 = .ok (.aload_n 0, 1) := by decide +kernel
theorem dX7_legsAt_14 : decode cX7_legsAt 14 = .ok (.getfield 9, 3) := by decide +kernel
theorem dX7_legsAt_17 : decode cX7_legsAt 17 = .ok (.iload_n 3, 1) := by decide +kernel
theorem dX7_legsAt_18 : decode cX7_legsAt 18 = .ok (.iaload, 1) := by decide +kernel
theorem dX7_legsAt_19 : decode cX7_legsAt 19 = .ok (.aload_n 1, 1) := by decide +kernel
theorem dX7_legsAt_20 : decode cX7_legsAt 20 = .ok (.iload_n 3, 1) := by decide +kernel
theorem dX7_legsAt_21 : decode cX7_legsAt 21 = .ok (.iaload, 1) := by decide +kernel
theorem dX7_legsAt_22 : decode cX7_legsAt 22 = .ok (.imul, 1) := by decide +kernel
theorem dX7_legsAt_23 : decode cX7_legsAt 23 = .ok (.iadd, 1) := by decide +kernel
theorem dX7_legsAt_24 : decode cX7_legsAt 24 = .ok (.istore_n 2, 1) := by decide +kernel
theorem dX7_legsAt_25 : decode cX7_legsAt 25 = .ok (.iinc 3 1, 3) := by decide +kernel
theorem dX7_legsAt_28 : decode cX7_legsAt 28 = .ok (.goto (-21), 3) := by decide +kernel
theorem dX7_legsAt_31 : decode cX7_legsAt 31 = .ok (.iload_n 2, 1) := by decide +kernel
theorem dX7_legsAt_32 : decode cX7_legsAt 32 = .ok (.ireturn, 1) := by decide +kernel
theorem dX7_reserveOf_0 : decode cX7_reserveOf 0 = .ok (.iload_n 1, 1) := by decide +kernel
theorem dX7_reserveOf_1 : decode cX7_reserveOf 1 = .ok (.aload_n 0, 1) := by decide +kernel
theorem dX7_reserveOf_2 : decode cX7_reserveOf 2 = .ok (.getfield 25, 3) := by decide +kernel
theorem dX7_reserveOf_5 : decode cX7_reserveOf 5 = .ok (.imul, 1) := by decide +kernel
theorem dX7_reserveOf_6 : decode cX7_reserveOf 6 = .ok (.bipush 10, 2) := by decide +kernel
theorem dX7_reserveOf_8 : decode cX7_reserveOf 8 = .ok (.idiv, 1) := by decide +kernel
theorem dX7_reserveOf_9 : decode cX7_reserveOf 9 = .ok (.ireturn, 1) := by decide +kernel
theorem dX7_backingOf_0 : decode cX7_backingOf 0 = .ok (.iload_n 1, 1) := by decide +kernel
theorem dX7_backingOf_1 : decode cX7_backingOf 1 = .ok (.aload_n 0, 1) := by decide +kernel
theorem dX7_backingOf_2 : decode cX7_backingOf 2 = .ok (.iload_n 1, 1) := by decide +kernel
theorem dX7_backingOf_3 : decode cX7_backingOf 3 = .ok (.invokevirtual 37, 3) := by decide +kernel
theorem dX7_backingOf_6 : decode cX7_backingOf 6 = .ok (.isub, 1) := by decide +kernel
theorem dX7_backingOf_7 : decode cX7_backingOf 7 = .ok (.ireturn, 1) := by decide +kernel
theorem dX7_soundAt_0 : decode cX7_soundAt 0 = .ok (.aload_n 0, 1) := by decide +kernel
theorem dX7_soundAt_1 : decode cX7_soundAt 1 = .ok (.getfield 19, 3) := by decide +kernel
theorem dX7_soundAt_4 : decode cX7_soundAt 4 = .ok (.aload_n 0, 1) := by decide +kernel
theorem dX7_soundAt_5 : decode cX7_soundAt 5 = .ok (.aload_n 0, 1) := by decide +kernel
theorem dX7_soundAt_6 : decode cX7_soundAt 6 = .ok (.aload_n 1, 1) := by decide +kernel
theorem dX7_soundAt_7 : decode cX7_soundAt 7 = .ok (.invokevirtual 41, 3) := by decide +kernel
theorem dX7_soundAt_10 : decode cX7_soundAt 10 = .ok (.invokevirtual 45, 3) := by decide +kernel
theorem dX7_soundAt_13 : decode cX7_soundAt 13 = .ok (.if_icmp .gt 7, 3) := by decide +kernel
theorem dX7_soundAt_16 : decode cX7_soundAt 16 = .ok (.iconst 1, 1) := by decide +kernel
theorem dX7_soundAt_17 : decode cX7_soundAt 17 = .ok (.goto 4, 3) := by decide +kernel
theorem dX7_soundAt_20 : decode cX7_soundAt 20 = .ok (.iconst 0, 1) := by decide +kernel
theorem dX7_soundAt_21 : decode cX7_soundAt 21 = .ok (.ireturn, 1) := by decide +kernel
theorem dX7_dropsFreeAt_0 : decode cX7_dropsFreeAt 0 = .ok (.iconst 0, 1) := by decide +kernel
theorem dX7_dropsFreeAt_1 : decode cX7_dropsFreeAt 1 = .ok (.aload_n 0, 1) := by decide +kernel
theorem dX7_dropsFreeAt_2 : decode cX7_dropsFreeAt 2 = .ok (.aload_n 0, 1) := by decide +kernel
theorem dX7_dropsFreeAt_3 : decode cX7_dropsFreeAt 3 = .ok (.aload_n 1, 1) := by decide +kernel
theorem dX7_dropsFreeAt_4 : decode cX7_dropsFreeAt 4 = .ok (.invokevirtual 41, 3) := by decide +kernel
theorem dX7_dropsFreeAt_7 : decode cX7_dropsFreeAt 7 = .ok (.invokevirtual 45, 3) := by decide +kernel
theorem dX7_dropsFreeAt_10 : decode cX7_dropsFreeAt 10 = .ok (.aload_n 0, 1) := by decide +kernel
theorem dX7_dropsFreeAt_11 : decode cX7_dropsFreeAt 11 = .ok (.getfield 19, 3) := by decide +kernel
theorem dX7_dropsFreeAt_14 : decode cX7_dropsFreeAt 14 = .ok (.isub, 1) := by decide +kernel
theorem dX7_dropsFreeAt_15 : decode cX7_dropsFreeAt 15 = .ok (.invokestatic 48, 3) := by decide +kernel
theorem dX7_dropsFreeAt_18 : decode cX7_dropsFreeAt 18 = .ok (.ireturn, 1) := by decide +kernel
theorem dX7_daysBySubtraction_0 : decode cX7_daysBySubtraction 0 = .ok (.iconst 0, 1) := by decide +kernel
theorem dX7_daysBySubtraction_1 : decode cX7_daysBySubtraction 1 = .ok (.aload_n 0, 1) := by decide +kernel
theorem dX7_daysBySubtraction_2 : decode cX7_daysBySubtraction 2 = .ok (.getfield 19, 3) := by decide +kernel
theorem dX7_daysBySubtraction_5 : decode cX7_daysBySubtraction 5 = .ok (.aload_n 0, 1) := by decide +kernel
theorem dX7_daysBySubtraction_6 : decode cX7_daysBySubtraction 6 = .ok (.aload_n 0, 1) := by decide +kernel
theorem dX7_daysBySubtraction_7 : decode cX7_daysBySubtraction 7 = .ok (.aload_n 1, 1) := by decide +kernel
theorem dX7_daysBySubtraction_8 : decode cX7_daysBySubtraction 8 = .ok (.invokevirtual 41, 3) := by decide +kernel
theorem dX7_daysBySubtraction_11 : decode cX7_daysBySubtraction 11 = .ok (.invokevirtual 45, 3) := by decide +kernel
theorem dX7_daysBySubtraction_14 : decode cX7_daysBySubtraction 14 = .ok (.isub, 1) := by decide +kernel
theorem dX7_daysBySubtraction_15 : decode cX7_daysBySubtraction 15 = .ok (.invokestatic 48, 3) := by decide +kernel
theorem dX7_daysBySubtraction_18 : decode cX7_daysBySubtraction 18 = .ok (.ireturn, 1) := by decide +kernel
theorem dX7_daysByCounting_0 : decode cX7_daysByCounting 0 = .ok (.aload_n 0, 1) := by decide +kernel
theorem dX7_daysByCounting_1 : decode cX7_daysByCounting 1 = .ok (.aload_n 0, 1) := by decide +kernel
theorem dX7_daysByCounting_2 : decode cX7_daysByCounting 2 = .ok (.aload_n 1, 1) := by decide +kernel
theorem dX7_daysByCounting_3 : decode cX7_daysByCounting 3 = .ok (.invokevirtual 41, 3) := by decide +kernel
theorem dX7_daysByCounting_6 : decode cX7_daysByCounting 6 = .ok (.invokevirtual 45, 3) := by decide +kernel
theorem dX7_daysByCounting_9 : decode cX7_daysByCounting 9 = .ok (.istore_n 2, 1) := by decide +kernel
theorem dX7_daysByCounting_10 : decode cX7_daysByCounting 10 = .ok (.iconst 0, 1) := by decide +kernel
theorem dX7_daysByCounting_11 : decode cX7_daysByCounting 11 = .ok (.istore_n 3, 1) := by decide +kernel
theorem dX7_daysByCounting_12 : decode cX7_daysByCounting 12 = .ok (.aload_n 0, 1) := by decide +kernel
theorem dX7_daysByCounting_13 : decode cX7_daysByCounting 13 = .ok (.getfield 19, 3) := by decide +kernel
theorem dX7_daysByCounting_16 : decode cX7_daysByCounting 16 = .ok (.istore 4, 2) := by decide +kernel
theorem dX7_daysByCounting_18 : decode cX7_daysByCounting 18 = .ok (.iload 4, 2) := by decide +kernel
theorem dX7_daysByCounting_20 : decode cX7_daysByCounting 20 = .ok (.iload_n 2, 1) := by decide +kernel
theorem dX7_daysByCounting_21 : decode cX7_daysByCounting 21 = .ok (.if_icmp .le 17, 3) := by decide +kernel
theorem dX7_daysByCounting_24 : decode cX7_daysByCounting 24 = .ok (.iload 4, 2) := by decide +kernel
theorem dX7_daysByCounting_26 : decode cX7_daysByCounting 26 = .ok (.ifCond .le 12, 3) := by decide +kernel
theorem dX7_daysByCounting_29 : decode cX7_daysByCounting 29 = .ok (.iinc 3 1, 3) := by decide +kernel
theorem dX7_daysByCounting_32 : decode cX7_daysByCounting 32 = .ok (.iinc 4 (-1), 3) := by decide +kernel
theorem dX7_daysByCounting_35 : decode cX7_daysByCounting 35 = .ok (.goto (-17), 3) := by decide +kernel
theorem dX7_daysByCounting_38 : decode cX7_daysByCounting 38 = .ok (.iload_n 3, 1) := by decide +kernel
theorem dX7_daysByCounting_39 : decode cX7_daysByCounting 39 = .ok (.ireturn, 1) := by decide +kernel
theorem dX7_mostByValue_0 : decode cX7_mostByValue 0 = .ok (.aload_n 0, 1) := by decide +kernel
theorem dX7_mostByValue_1 : decode cX7_mostByValue 1 = .ok (.aload_n 2, 1) := by decide +kernel
theorem dX7_mostByValue_2 : decode cX7_mostByValue 2 = .ok (.invokevirtual 41, 3) := by decide +kernel
theorem dX7_mostByValue_5 : decode cX7_mostByValue 5 = .ok (.aload_n 2, 1) := by decide +kernel
theorem dX7_mostByValue_6 : decode cX7_mostByValue 6 = .ok (.iload_n 1, 1) := by decide +kernel
theorem dX7_mostByValue_7 : decode cX7_mostByValue 7 = .ok (.iaload, 1) := by decide +kernel
theorem dX7_mostByValue_8 : decode cX7_mostByValue 8 = .ok (.invokestatic 54, 3) := by decide +kernel
theorem dX7_mostByValue_11 : decode cX7_mostByValue 11 = .ok (.ireturn, 1) := by decide +kernel
theorem dX7_mostBySwaps_0 : decode cX7_mostBySwaps 0 = .ok (.aload_n 0, 1) := by decide +kernel
theorem dX7_mostBySwaps_1 : decode cX7_mostBySwaps 1 = .ok (.getfield 9, 3) := by decide +kernel
theorem dX7_mostBySwaps_4 : decode cX7_mostBySwaps 4 = .ok (.iload_n 1, 1) := by decide +kernel
theorem dX7_mostBySwaps_5 : decode cX7_mostBySwaps 5 = .ok (.iaload, 1) := by decide +kernel
theorem dX7_mostBySwaps_6 : decode cX7_mostBySwaps 6 = .ok (.istore_n 3, 1) := by decide +kernel
theorem dX7_mostBySwaps_7 : decode cX7_mostBySwaps 7 = .ok (.aload_n 0, 1) := by decide +kernel
theorem dX7_mostBySwaps_8 : decode cX7_mostBySwaps 8 = .ok (.getfield 15, 3) := by decide +kernel
theorem dX7_mostBySwaps_11 : decode cX7_mostBySwaps 11 = .ok (.istore 4, 2) := by decide +kernel
theorem dX7_mostBySwaps_13 : decode cX7_mostBySwaps 13 = .ok (.iconst 0, 1) := by decide +kernel
theorem dX7_mostBySwaps_14 : decode cX7_mostBySwaps 14 = .ok (.istore 5, 2) := by decide +kernel
theorem dX7_mostBySwaps_16 : decode cX7_mostBySwaps 16 = .ok (.iconst 0, 1) := by decide +kernel
theorem dX7_mostBySwaps_17 : decode cX7_mostBySwaps 17 = .ok (.istore 6, 2) := by decide +kernel
theorem dX7_mostBySwaps_19 : decode cX7_mostBySwaps 19 = .ok (.iload 6, 2) := by decide +kernel
theorem dX7_mostBySwaps_21 : decode cX7_mostBySwaps 21 = .ok (.iconst 3, 1) := by decide +kernel
theorem dX7_mostBySwaps_22 : decode cX7_mostBySwaps 22 = .ok (.if_icmp .ge 71, 3) := by decide +kernel
theorem dX7_mostBySwaps_25 : decode cX7_mostBySwaps 25 = .ok (.iload 6, 2) := by decide +kernel
theorem dX7_mostBySwaps_27 : decode cX7_mostBySwaps 27 = .ok (.iload_n 1, 1) := by decide +kernel
theorem dX7_mostBySwaps_28 : decode cX7_mostBySwaps 28 = .ok (.if_icmp .eq 59, 3) := by decide +kernel
theorem dX7_mostBySwaps_31 : decode cX7_mostBySwaps 31 = .ok (.aload_n 0, 1) := by decide +kernel
theorem dX7_mostBySwaps_32 : decode cX7_mostBySwaps 32 = .ok (.getfield 9, 3) := by decide +kernel
theorem dX7_mostBySwaps_35 : decode cX7_mostBySwaps 35 = .ok (.iload 6, 2) := by decide +kernel
theorem dX7_mostBySwaps_37 : decode cX7_mostBySwaps 37 = .ok (.iaload, 1) := by decide +kernel
theorem dX7_mostBySwaps_38 : decode cX7_mostBySwaps 38 = .ok (.ifCond .le 49, 3) := by decide +kernel
theorem dX7_mostBySwaps_41 : decode cX7_mostBySwaps 41 = .ok (.aload_n 0, 1) := by decide +kernel
theorem dX7_mostBySwaps_42 : decode cX7_mostBySwaps 42 = .ok (.getfield 9, 3) := by decide +kernel
theorem dX7_mostBySwaps_45 : decode cX7_mostBySwaps 45 = .ok (.iload 6, 2) := by decide +kernel
theorem dX7_mostBySwaps_47 : decode cX7_mostBySwaps 47 = .ok (.iaload, 1) := by decide +kernel
theorem dX7_mostBySwaps_48 : decode cX7_mostBySwaps 48 = .ok (.aload_n 2, 1) := by decide +kernel
theorem dX7_mostBySwaps_49 : decode cX7_mostBySwaps 49 = .ok (.iload 6, 2) := by decide +kernel
theorem dX7_mostBySwaps_51 : decode cX7_mostBySwaps 51 = .ok (.iaload, 1) := by decide +kernel
theorem dX7_mostBySwaps_52 : decode cX7_mostBySwaps 52 = .ok (.imul, 1) := by decide +kernel
theorem dX7_mostBySwaps_53 : decode cX7_mostBySwaps 53 = .ok (.iload 4, 2) := by decide +kernel
theorem dX7_mostBySwaps_55 : decode cX7_mostBySwaps 55 = .ok (.iadd, 1) := by decide +kernel
theorem dX7_mostBySwaps_56 : decode cX7_mostBySwaps 56 = .ok (.istore 7, 2) := by decide +kernel
theorem dX7_mostBySwaps_58 : decode cX7_mostBySwaps 58 = .ok (.iload 7, 2) := by decide +kernel
theorem dX7_mostBySwaps_60 : decode cX7_mostBySwaps 60 = .ok (.aload_n 2, 1) := by decide +kernel
theorem dX7_mostBySwaps_61 : decode cX7_mostBySwaps 61 = .ok (.iload_n 1, 1) := by decide +kernel
theorem dX7_mostBySwaps_62 : decode cX7_mostBySwaps 62 = .ok (.iaload, 1) := by decide +kernel
theorem dX7_mostBySwaps_63 : decode cX7_mostBySwaps 63 = .ok (.invokestatic 54, 3) := by decide +kernel
theorem dX7_mostBySwaps_66 : decode cX7_mostBySwaps 66 = .ok (.istore 8, 2) := by decide +kernel
theorem dX7_mostBySwaps_68 : decode cX7_mostBySwaps 68 = .ok (.iload_n 3, 1) := by decide +kernel
theorem dX7_mostBySwaps_69 : decode cX7_mostBySwaps 69 = .ok (.iload 8, 2) := by decide +kernel
theorem dX7_mostBySwaps_71 : decode cX7_mostBySwaps 71 = .ok (.iadd, 1) := by decide +kernel
theorem dX7_mostBySwaps_72 : decode cX7_mostBySwaps 72 = .ok (.istore_n 3, 1) := by decide +kernel
theorem dX7_mostBySwaps_73 : decode cX7_mostBySwaps 73 = .ok (.iload 7, 2) := by decide +kernel
theorem dX7_mostBySwaps_75 : decode cX7_mostBySwaps 75 = .ok (.iload 8, 2) := by decide +kernel
theorem dX7_mostBySwaps_77 : decode cX7_mostBySwaps 77 = .ok (.aload_n 2, 1) := by decide +kernel
theorem dX7_mostBySwaps_78 : decode cX7_mostBySwaps 78 = .ok (.iload_n 1, 1) := by decide +kernel
theorem dX7_mostBySwaps_79 : decode cX7_mostBySwaps 79 = .ok (.iaload, 1) := by decide +kernel
theorem dX7_mostBySwaps_80 : decode cX7_mostBySwaps 80 = .ok (.imul, 1) := by decide +kernel
theorem dX7_mostBySwaps_81 : decode cX7_mostBySwaps 81 = .ok (.isub, 1) := by decide +kernel
theorem dX7_mostBySwaps_82 : decode cX7_mostBySwaps 82 = .ok (.istore 4, 2) := by decide +kernel
theorem dX7_mostBySwaps_84 : decode cX7_mostBySwaps 84 = .ok (.iconst 1, 1) := by decide +kernel
theorem dX7_mostBySwaps_85 : decode cX7_mostBySwaps 85 = .ok (.istore 5, 2) := by decide +kernel
theorem dX7_mostBySwaps_87 : decode cX7_mostBySwaps 87 = .ok (.iinc 6 1, 3) := by decide +kernel
theorem dX7_mostBySwaps_90 : decode cX7_mostBySwaps 90 = .ok (.goto (-71), 3) := by decide +kernel
theorem dX7_mostBySwaps_93 : decode cX7_mostBySwaps 93 = .ok (.iload 5, 2) := by decide +kernel
theorem dX7_mostBySwaps_95 : decode cX7_mostBySwaps 95 = .ok (.ifCond .eq 7, 3) := by decide +kernel
theorem dX7_mostBySwaps_98 : decode cX7_mostBySwaps 98 = .ok (.iload_n 3, 1) := by decide +kernel
theorem dX7_mostBySwaps_99 : decode cX7_mostBySwaps 99 = .ok (.goto 13, 3) := by decide +kernel
theorem dX7_mostBySwaps_102 : decode cX7_mostBySwaps 102 = .ok (.iload_n 3, 1) := by decide +kernel
theorem dX7_mostBySwaps_103 : decode cX7_mostBySwaps 103 = .ok (.iload 4, 2) := by decide +kernel
theorem dX7_mostBySwaps_105 : decode cX7_mostBySwaps 105 = .ok (.aload_n 2, 1) := by decide +kernel
theorem dX7_mostBySwaps_106 : decode cX7_mostBySwaps 106 = .ok (.iload_n 1, 1) := by decide +kernel
theorem dX7_mostBySwaps_107 : decode cX7_mostBySwaps 107 = .ok (.iaload, 1) := by decide +kernel
theorem dX7_mostBySwaps_108 : decode cX7_mostBySwaps 108 = .ok (.invokestatic 54, 3) := by decide +kernel
theorem dX7_mostBySwaps_111 : decode cX7_mostBySwaps 111 = .ok (.iadd, 1) := by decide +kernel
theorem dX7_mostBySwaps_112 : decode cX7_mostBySwaps 112 = .ok (.ireturn, 1) := by decide +kernel
theorem dX7_frozen_0 : decode cX7_frozen 0 = .ok (.aload_n 0, 1) := by decide +kernel
theorem dX7_frozen_1 : decode cX7_frozen 1 = .ok (.getfield 28, 3) := by decide +kernel
theorem dX7_frozen_4 : decode cX7_frozen 4 = .ok (.ifCond .le 7, 3) := by decide +kernel
theorem dX7_frozen_7 : decode cX7_frozen 7 = .ok (.iconst 1, 1) := by decide +kernel
theorem dX7_frozen_8 : decode cX7_frozen 8 = .ok (.goto 4, 3) := by decide +kernel
theorem dX7_frozen_11 : decode cX7_frozen 11 = .ok (.iconst 0, 1) := by decide +kernel
theorem dX7_frozen_12 : decode cX7_frozen 12 = .ok (.ireturn, 1) := by decide +kernel
theorem dX7_reward_0 : decode cX7_reward 0 = .ok (.aload_n 0, 1) := by decide +kernel
theorem dX7_reward_1 : decode cX7_reward 1 = .ok (.aload_n 0, 1) := by decide +kernel
theorem dX7_reward_2 : decode cX7_reward 2 = .ok (.getfield 22, 3) := by decide +kernel
theorem dX7_reward_5 : decode cX7_reward 5 = .ok (.iconst 1, 1) := by decide +kernel
theorem dX7_reward_6 : decode cX7_reward 6 = .ok (.iadd, 1) := by decide +kernel
theorem dX7_reward_7 : decode cX7_reward 7 = .ok (.iconst 3, 1) := by decide +kernel
theorem dX7_reward_8 : decode cX7_reward 8 = .ok (.invokestatic 57, 3) := by decide +kernel
theorem dX7_reward_11 : decode cX7_reward 11 = .ok (.putfield 22, 3) := by decide +kernel
theorem dX7_reward_14 : decode cX7_reward 14 = .ok (.return_, 1) := by decide +kernel
theorem dX7_punish_0 : decode cX7_punish 0 = .ok (.aload_n 0, 1) := by decide +kernel
theorem dX7_punish_1 : decode cX7_punish 1 = .ok (.aload_n 0, 1) := by decide +kernel
theorem dX7_punish_2 : decode cX7_punish 2 = .ok (.getfield 22, 3) := by decide +kernel
theorem dX7_punish_5 : decode cX7_punish 5 = .ok (.iconst 1, 1) := by decide +kernel
theorem dX7_punish_6 : decode cX7_punish 6 = .ok (.isub, 1) := by decide +kernel
theorem dX7_punish_7 : decode cX7_punish 7 = .ok (.iconst 0, 1) := by decide +kernel
theorem dX7_punish_8 : decode cX7_punish 8 = .ok (.invokestatic 48, 3) := by decide +kernel
theorem dX7_punish_11 : decode cX7_punish 11 = .ok (.putfield 22, 3) := by decide +kernel
theorem dX7_punish_14 : decode cX7_punish 14 = .ok (.aload_n 0, 1) := by decide +kernel
theorem dX7_punish_15 : decode cX7_punish 15 = .ok (.getfield 22, 3) := by decide +kernel
theorem dX7_punish_18 : decode cX7_punish 18 = .ok (.ifCond .ne 8, 3) := by decide +kernel
theorem dX7_punish_21 : decode cX7_punish 21 = .ok (.aload_n 0, 1) := by decide +kernel
theorem dX7_punish_22 : decode cX7_punish 22 = .ok (.iconst 5, 1) := by decide +kernel
theorem dX7_punish_23 : decode cX7_punish 23 = .ok (.putfield 28, 3) := by decide +kernel
theorem dX7_punish_26 : decode cX7_punish 26 = .ok (.return_, 1) := by decide +kernel
theorem dX7_evaporate_0 : decode cX7_evaporate 0 = .ok (.aload_n 0, 1) := by decide +kernel
theorem dX7_evaporate_1 : decode cX7_evaporate 1 = .ok (.getfield 19, 3) := by decide +kernel
theorem dX7_evaporate_4 : decode cX7_evaporate 4 = .ok (.ifCond .ne 5, 3) := by decide +kernel
theorem dX7_evaporate_7 : decode cX7_evaporate 7 = .ok (.iconst 0, 1) := by decide +kernel
theorem dX7_evaporate_8 : decode cX7_evaporate 8 = .ok (.ireturn, 1) := by decide +kernel
theorem dX7_evaporate_9 : decode cX7_evaporate 9 = .ok (.aload_n 0, 1) := by decide +kernel
theorem dX7_evaporate_10 : decode cX7_evaporate 10 = .ok (.dup, 1) := by decide +kernel
theorem dX7_evaporate_11 : decode cX7_evaporate 11 = .ok (.getfield 19, 3) := by decide +kernel
theorem dX7_evaporate_14 : decode cX7_evaporate 14 = .ok (.iconst 1, 1) := by decide +kernel
theorem dX7_evaporate_15 : decode cX7_evaporate 15 = .ok (.isub, 1) := by decide +kernel
theorem dX7_evaporate_16 : decode cX7_evaporate 16 = .ok (.putfield 19, 3) := by decide +kernel
theorem dX7_evaporate_19 : decode cX7_evaporate 19 = .ok (.iconst 1, 1) := by decide +kernel
theorem dX7_evaporate_20 : decode cX7_evaporate 20 = .ok (.ireturn, 1) := by decide +kernel
theorem dX7_thaw_0 : decode cX7_thaw 0 = .ok (.aload_n 0, 1) := by decide +kernel
theorem dX7_thaw_1 : decode cX7_thaw 1 = .ok (.getfield 28, 3) := by decide +kernel
theorem dX7_thaw_4 : decode cX7_thaw 4 = .ok (.ifCond .le 13, 3) := by decide +kernel
theorem dX7_thaw_7 : decode cX7_thaw 7 = .ok (.aload_n 0, 1) := by decide +kernel
theorem dX7_thaw_8 : decode cX7_thaw 8 = .ok (.dup, 1) := by decide +kernel
theorem dX7_thaw_9 : decode cX7_thaw 9 = .ok (.getfield 28, 3) := by decide +kernel
theorem dX7_thaw_12 : decode cX7_thaw 12 = .ok (.iconst 1, 1) := by decide +kernel
theorem dX7_thaw_13 : decode cX7_thaw 13 = .ok (.isub, 1) := by decide +kernel
theorem dX7_thaw_14 : decode cX7_thaw 14 = .ok (.putfield 28, 3) := by decide +kernel
theorem dX7_thaw_17 : decode cX7_thaw 17 = .ok (.return_, 1) := by decide +kernel
theorem dX8_init_0 : decode cX8_init 0 = .ok (.aload_n 0, 1) := by decide +kernel
theorem dX8_init_1 : decode cX8_init 1 = .ok (.invokespecial 3, 3) := by decide +kernel
theorem dX8_init_4 : decode cX8_init 4 = .ok (.aload_n 0, 1) := by decide +kernel
theorem dX8_init_5 : decode cX8_init 5 = .ok (.new 9, 3) := by decide +kernel
theorem dX8_init_8 : decode cX8_init 8 = .ok (.dup, 1) := by decide +kernel
theorem dX8_init_9 : decode cX8_init 9 = .ok (.invokespecial 11, 3) := by decide +kernel
theorem dX8_init_12 : decode cX8_init 12 = .ok (.putfield 12, 3) := by decide +kernel
theorem dX8_init_15 : decode cX8_init 15 = .ok (.aload_n 0, 1) := by decide +kernel
theorem dX8_init_16 : decode cX8_init 16 = .ok (.new 9, 3) := by decide +kernel
theorem dX8_init_19 : decode cX8_init 19 = .ok (.dup, 1) := by decide +kernel
theorem dX8_init_20 : decode cX8_init 20 = .ok (.invokespecial 11, 3) := by decide +kernel
theorem dX8_init_23 : decode cX8_init 23 = .ok (.putfield 16, 3) := by decide +kernel
theorem dX8_init_26 : decode cX8_init 26 = .ok (.aload_n 0, 1) := by decide +kernel
theorem dX8_init_27 : decode cX8_init 27 = .ok (.new 9, 3) := by decide +kernel
theorem dX8_init_30 : decode cX8_init 30 = .ok (.dup, 1) := by decide +kernel
theorem dX8_init_31 : decode cX8_init 31 = .ok (.invokespecial 11, 3) := by decide +kernel
theorem dX8_init_34 : decode cX8_init 34 = .ok (.putfield 19, 3) := by decide +kernel
theorem dX8_init_37 : decode cX8_init 37 = .ok (.aload_n 0, 1) := by decide +kernel
theorem dX8_init_38 : decode cX8_init 38 = .ok (.new 22, 3) := by decide +kernel
theorem dX8_init_41 : decode cX8_init 41 = .ok (.dup, 1) := by decide +kernel
theorem dX8_init_42 : decode cX8_init 42 = .ok (.invokespecial 24, 3) := by decide +kernel
theorem dX8_init_45 : decode cX8_init 45 = .ok (.putfield 25, 3) := by decide +kernel
theorem dX8_init_48 : decode cX8_init 48 = .ok (.aload_n 0, 1) := by decide +kernel
theorem dX8_init_49 : decode cX8_init 49 = .ok (.new 29, 3) := by decide +kernel
theorem dX8_init_52 : decode cX8_init 52 = .ok (.dup, 1) := by decide +kernel
theorem dX8_init_53 : decode cX8_init 53 = .ok (.invokespecial 31, 3) := by decide +kernel
theorem dX8_init_56 : decode cX8_init 56 = .ok (.putfield 32, 3) := by decide +kernel
theorem dX8_init_59 : decode cX8_init 59 = .ok (.aload_n 0, 1) := by decide +kernel
theorem dX8_init_60 : decode cX8_init 60 = .ok (.new 36, 3) := by decide +kernel
theorem dX8_init_63 : decode cX8_init 63 = .ok (.dup, 1) := by decide +kernel
theorem dX8_init_64 : decode cX8_init 64 = .ok (.invokespecial 38, 3) := by decide +kernel
theorem dX8_init_67 : decode cX8_init 67 = .ok (.putfield 39, 3) := by decide +kernel
theorem dX8_init_70 : decode cX8_init 70 = .ok (.aload_n 0, 1) := by decide +kernel
theorem dX8_init_71 : decode cX8_init 71 = .ok (.iconst 0, 1) := by decide +kernel
theorem dX8_init_72 : decode cX8_init 72 = .ok (.putfield 43, 3) := by decide +kernel
theorem dX8_init_75 : decode cX8_init 75 = .ok (.aload_n 0, 1) := by decide +kernel
theorem dX8_init_76 : decode cX8_init 76 = .ok (.iconst (-1), 1) := by decide +kernel
theorem dX8_init_77 : decode cX8_init 77 = .ok (.putfield 47, 3) := by decide +kernel
theorem dX8_init_80 : decode cX8_init 80 = .ok (.aload_n 0, 1) := by decide +kernel
theorem dX8_init_81 : decode cX8_init 81 = .ok (.iconst (-1), 1) := by decide +kernel
theorem dX8_init_82 : decode cX8_init 82 = .ok (.putfield 51, 3) := by decide +kernel
theorem dX8_init_85 : decode cX8_init 85 = .ok (.return_, 1) := by decide +kernel
theorem dX8_addVault_0 : decode cX8_addVault 0 = .ok (.aload_n 0, 1) := by decide +kernel
theorem dX8_addVault_1 : decode cX8_addVault 1 = .ok (.getfield 12, 3) := by decide +kernel
theorem dX8_addVault_4 : decode cX8_addVault 4 = .ok (.iload_n 1, 1) := by decide +kernel
theorem dX8_addVault_5 : decode cX8_addVault 5 = .ok (.invokevirtual 54, 3) := by decide +kernel
theorem dX8_addVault_8 : decode cX8_addVault 8 = .ok (.invokestatic 58, 3) := by decide +kernel
theorem dX8_addVault_11 : decode cX8_addVault 11 = .ok (.aload_n 0, 1) := by decide +kernel
theorem dX8_addVault_12 : decode cX8_addVault 12 = .ok (.getfield 25, 3) := by decide +kernel
theorem dX8_addVault_15 : decode cX8_addVault 15 = .ok (.aload_n 0, 1) := by decide +kernel
theorem dX8_addVault_16 : decode cX8_addVault 16 = .ok (.getfield 12, 3) := by decide +kernel
theorem dX8_addVault_19 : decode cX8_addVault 19 = .ok (.invokevirtual 62, 3) := by decide +kernel
theorem dX8_addVault_22 : decode cX8_addVault 22 = .ok (.aload_n 0, 1) := by decide +kernel
theorem dX8_addVault_23 : decode cX8_addVault 23 = .ok (.getfield 12, 3) := by decide +kernel
theorem dX8_addVault_26 : decode cX8_addVault 26 = .ok (.iload_n 1, 1) := by decide +kernel
theorem dX8_addVault_27 : decode cX8_addVault 27 = .ok (.invokevirtual 66, 3) := by decide +kernel
theorem dX8_addVault_30 : decode cX8_addVault 30 = .ok (.ireturn, 1) := by decide +kernel
theorem dX8_deposit_0 : decode cX8_deposit 0 = .ok (.aload_n 0, 1) := by decide +kernel
theorem dX8_deposit_1 : decode cX8_deposit 1 = .ok (.getfield 12, 3) := by decide +kernel
theorem dX8_deposit_4 : decode cX8_deposit 4 = .ok (.iload_n 1, 1) := by decide +kernel
theorem dX8_deposit_5 : decode cX8_deposit 5 = .ok (.iload_n 2, 1) := by decide +kernel
theorem dX8_deposit_6 : decode cX8_deposit 6 = .ok (.iload_n 3, 1) := by decide +kernel
theorem dX8_deposit_7 : decode cX8_deposit 7 = .ok (.invokevirtual 70, 3) := by decide +kernel
theorem dX8_deposit_10 : decode cX8_deposit 10 = .ok (.invokestatic 58, 3) := by decide +kernel
theorem dX8_deposit_13 : decode cX8_deposit 13 = .ok (.aload_n 0, 1) := by decide +kernel
theorem dX8_deposit_14 : decode cX8_deposit 14 = .ok (.getfield 25, 3) := by decide +kernel
theorem dX8_deposit_17 : decode cX8_deposit 17 = .ok (.aload_n 0, 1) := by decide +kernel
theorem dX8_deposit_18 : decode cX8_deposit 18 = .ok (.getfield 12, 3) := by decide +kernel
theorem dX8_deposit_21 : decode cX8_deposit 21 = .ok (.invokevirtual 62, 3) := by decide +kernel
theorem dX8_deposit_24 : decode cX8_deposit 24 = .ok (.aload_n 0, 1) := by decide +kernel
theorem dX8_deposit_25 : decode cX8_deposit 25 = .ok (.getfield 12, 3) := by decide +kernel
theorem dX8_deposit_28 : decode cX8_deposit 28 = .ok (.iload_n 1, 1) := by decide +kernel
theorem dX8_deposit_29 : decode cX8_deposit 29 = .ok (.iload_n 2, 1) := by decide +kernel
theorem dX8_deposit_30 : decode cX8_deposit 30 = .ok (.iload_n 3, 1) := by decide +kernel
theorem dX8_deposit_31 : decode cX8_deposit 31 = .ok (.invokevirtual 74, 3) := by decide +kernel
theorem dX8_deposit_34 : decode cX8_deposit 34 = .ok (.ireturn, 1) := by decide +kernel
theorem dX8_withdraw_0 : decode cX8_withdraw 0 = .ok (.aload_n 0, 1) := by decide +kernel
theorem dX8_withdraw_1 : decode cX8_withdraw 1 = .ok (.getfield 12, 3) := by decide +kernel
theorem dX8_withdraw_4 : decode cX8_withdraw 4 = .ok (.iload_n 1, 1) := by decide +kernel
theorem dX8_withdraw_5 : decode cX8_withdraw 5 = .ok (.iload_n 2, 1) := by decide +kernel
theorem dX8_withdraw_6 : decode cX8_withdraw 6 = .ok (.iload_n 3, 1) := by decide +kernel
theorem dX8_withdraw_7 : decode cX8_withdraw 7 = .ok (.invokevirtual 78, 3) := by decide +kernel
theorem dX8_withdraw_10 : decode cX8_withdraw 10 = .ok (.invokestatic 58, 3) := by decide +kernel
theorem dX8_withdraw_13 : decode cX8_withdraw 13 = .ok (.aload_n 0, 1) := by decide +kernel
theorem dX8_withdraw_14 : decode cX8_withdraw 14 = .ok (.getfield 25, 3) := by decide +kernel
theorem dX8_withdraw_17 : decode cX8_withdraw 17 = .ok (.aload_n 0, 1) := by decide +kernel
theorem dX8_withdraw_18 : decode cX8_withdraw 18 = .ok (.getfield 12, 3) := by decide +kernel
theorem dX8_withdraw_21 : decode cX8_withdraw 21 = .ok (.invokevirtual 62, 3) := by decide +kernel
theorem dX8_withdraw_24 : decode cX8_withdraw 24 = .ok (.aload_n 0, 1) := by decide +kernel
theorem dX8_withdraw_25 : decode cX8_withdraw 25 = .ok (.getfield 12, 3) := by decide +kernel
theorem dX8_withdraw_28 : decode cX8_withdraw 28 = .ok (.iload_n 1, 1) := by decide +kernel
theorem dX8_withdraw_29 : decode cX8_withdraw 29 = .ok (.iload_n 2, 1) := by decide +kernel
theorem dX8_withdraw_30 : decode cX8_withdraw 30 = .ok (.iload_n 3, 1) := by decide +kernel
theorem dX8_withdraw_31 : decode cX8_withdraw 31 = .ok (.invokevirtual 81, 3) := by decide +kernel
theorem dX8_withdraw_34 : decode cX8_withdraw 34 = .ok (.ireturn, 1) := by decide +kernel
theorem dX8_exchange_0 : decode cX8_exchange 0 = .ok (.aload_n 0, 1) := by decide +kernel
theorem dX8_exchange_1 : decode cX8_exchange 1 = .ok (.getfield 12, 3) := by decide +kernel
theorem dX8_exchange_4 : decode cX8_exchange 4 = .ok (.iload_n 1, 1) := by decide +kernel
theorem dX8_exchange_5 : decode cX8_exchange 5 = .ok (.iload_n 2, 1) := by decide +kernel
theorem dX8_exchange_6 : decode cX8_exchange 6 = .ok (.iload_n 3, 1) := by decide +kernel
theorem dX8_exchange_7 : decode cX8_exchange 7 = .ok (.iload 4, 2) := by decide +kernel
theorem dX8_exchange_9 : decode cX8_exchange 9 = .ok (.invokevirtual 84, 3) := by decide +kernel
theorem dX8_exchange_12 : decode cX8_exchange 12 = .ok (.invokestatic 58, 3) := by decide +kernel
theorem dX8_exchange_15 : decode cX8_exchange 15 = .ok (.aload_n 0, 1) := by decide +kernel
theorem dX8_exchange_16 : decode cX8_exchange 16 = .ok (.getfield 25, 3) := by decide +kernel
theorem dX8_exchange_19 : decode cX8_exchange 19 = .ok (.aload_n 0, 1) := by decide +kernel
theorem dX8_exchange_20 : decode cX8_exchange 20 = .ok (.getfield 12, 3) := by decide +kernel
theorem dX8_exchange_23 : decode cX8_exchange 23 = .ok (.invokevirtual 62, 3) := by decide +kernel
theorem dX8_exchange_26 : decode cX8_exchange 26 = .ok (.aload_n 0, 1) := by decide +kernel
theorem dX8_exchange_27 : decode cX8_exchange 27 = .ok (.getfield 12, 3) := by decide +kernel
theorem dX8_exchange_30 : decode cX8_exchange 30 = .ok (.iload_n 1, 1) := by decide +kernel
theorem dX8_exchange_31 : decode cX8_exchange 31 = .ok (.iload_n 2, 1) := by decide +kernel
theorem dX8_exchange_32 : decode cX8_exchange 32 = .ok (.iload_n 3, 1) := by decide +kernel
theorem dX8_exchange_33 : decode cX8_exchange 33 = .ok (.iload 4, 2) := by decide +kernel
theorem dX8_exchange_35 : decode cX8_exchange 35 = .ok (.invokevirtual 88, 3) := by decide +kernel
theorem dX8_exchange_38 : decode cX8_exchange 38 = .ok (.ireturn, 1) := by decide +kernel
theorem dX8_mint_0 : decode cX8_mint 0 = .ok (.aload_n 0, 1) := by decide +kernel
theorem dX8_mint_1 : decode cX8_mint 1 = .ok (.getfield 12, 3) := by decide +kernel
theorem dX8_mint_4 : decode cX8_mint 4 = .ok (.iload_n 1, 1) := by decide +kernel
theorem dX8_mint_5 : decode cX8_mint 5 = .ok (.iload_n 2, 1) := by decide +kernel
theorem dX8_mint_6 : decode cX8_mint 6 = .ok (.invokevirtual 92, 3) := by decide +kernel
theorem dX8_mint_9 : decode cX8_mint 9 = .ok (.invokestatic 58, 3) := by decide +kernel
theorem dX8_mint_12 : decode cX8_mint 12 = .ok (.aload_n 0, 1) := by decide +kernel
theorem dX8_mint_13 : decode cX8_mint 13 = .ok (.getfield 25, 3) := by decide +kernel
theorem dX8_mint_16 : decode cX8_mint 16 = .ok (.aload_n 0, 1) := by decide +kernel
theorem dX8_mint_17 : decode cX8_mint 17 = .ok (.getfield 12, 3) := by decide +kernel
theorem dX8_mint_20 : decode cX8_mint 20 = .ok (.invokevirtual 62, 3) := by decide +kernel
theorem dX8_mint_23 : decode cX8_mint 23 = .ok (.aload_n 0, 1) := by decide +kernel
theorem dX8_mint_24 : decode cX8_mint 24 = .ok (.getfield 12, 3) := by decide +kernel
theorem dX8_mint_27 : decode cX8_mint 27 = .ok (.iload_n 1, 1) := by decide +kernel
theorem dX8_mint_28 : decode cX8_mint 28 = .ok (.iload_n 2, 1) := by decide +kernel
theorem dX8_mint_29 : decode cX8_mint 29 = .ok (.invokevirtual 96, 3) := by decide +kernel
theorem dX8_mint_32 : decode cX8_mint 32 = .ok (.ireturn, 1) := by decide +kernel
theorem dX8_redeem_0 : decode cX8_redeem 0 = .ok (.aload_n 0, 1) := by decide +kernel
theorem dX8_redeem_1 : decode cX8_redeem 1 = .ok (.getfield 12, 3) := by decide +kernel
theorem dX8_redeem_4 : decode cX8_redeem 4 = .ok (.iload_n 1, 1) := by decide +kernel
theorem dX8_redeem_5 : decode cX8_redeem 5 = .ok (.iload_n 2, 1) := by decide +kernel
theorem dX8_redeem_6 : decode cX8_redeem 6 = .ok (.invokevirtual 100, 3) := by decide +kernel
theorem dX8_redeem_9 : decode cX8_redeem 9 = .ok (.invokestatic 58, 3) := by decide +kernel
theorem dX8_redeem_12 : decode cX8_redeem 12 = .ok (.aload_n 0, 1) := by decide +kernel
theorem dX8_redeem_13 : decode cX8_redeem 13 = .ok (.getfield 25, 3) := by decide +kernel
theorem dX8_redeem_16 : decode cX8_redeem 16 = .ok (.aload_n 0, 1) := by decide +kernel
theorem dX8_redeem_17 : decode cX8_redeem 17 = .ok (.getfield 12, 3) := by decide +kernel
theorem dX8_redeem_20 : decode cX8_redeem 20 = .ok (.invokevirtual 62, 3) := by decide +kernel
theorem dX8_redeem_23 : decode cX8_redeem 23 = .ok (.aload_n 0, 1) := by decide +kernel
theorem dX8_redeem_24 : decode cX8_redeem 24 = .ok (.getfield 12, 3) := by decide +kernel
theorem dX8_redeem_27 : decode cX8_redeem 27 = .ok (.iload_n 1, 1) := by decide +kernel
theorem dX8_redeem_28 : decode cX8_redeem 28 = .ok (.iload_n 2, 1) := by decide +kernel
theorem dX8_redeem_29 : decode cX8_redeem 29 = .ok (.invokevirtual 103, 3) := by decide +kernel
theorem dX8_redeem_32 : decode cX8_redeem 32 = .ok (.ireturn, 1) := by decide +kernel
theorem dX8_audit_0 : decode cX8_audit 0 = .ok (.aload_n 0, 1) := by decide +kernel
theorem dX8_audit_1 : decode cX8_audit 1 = .ok (.getfield 12, 3) := by decide +kernel
theorem dX8_audit_4 : decode cX8_audit 4 = .ok (.iload_n 1, 1) := by decide +kernel
theorem dX8_audit_5 : decode cX8_audit 5 = .ok (.invokevirtual 106, 3) := by decide +kernel
theorem dX8_audit_8 : decode cX8_audit 8 = .ok (.invokestatic 58, 3) := by decide +kernel
theorem dX8_audit_11 : decode cX8_audit 11 = .ok (.aload_n 0, 1) := by decide +kernel
theorem dX8_audit_12 : decode cX8_audit 12 = .ok (.getfield 25, 3) := by decide +kernel
theorem dX8_audit_15 : decode cX8_audit 15 = .ok (.aload_n 0, 1) := by decide +kernel
theorem dX8_audit_16 : decode cX8_audit 16 = .ok (.getfield 12, 3) := by decide +kernel
theorem dX8_audit_19 : decode cX8_audit 19 = .ok (.invokevirtual 62, 3) := by decide +kernel
theorem dX8_audit_22 : decode cX8_audit 22 = .ok (.aload_n 0, 1) := by decide +kernel
theorem dX8_audit_23 : decode cX8_audit 23 = .ok (.getfield 12, 3) := by decide +kernel
theorem dX8_audit_26 : decode cX8_audit 26 = .ok (.iload_n 1, 1) := by decide +kernel
theorem dX8_audit_27 : decode cX8_audit 27 = .ok (.invokevirtual 109, 3) := by decide +kernel
theorem dX8_audit_30 : decode cX8_audit 30 = .ok (.ireturn, 1) := by decide +kernel
theorem dX8_setRate_0 : decode cX8_setRate 0 = .ok (.aload_n 0, 1) := by decide +kernel
theorem dX8_setRate_1 : decode cX8_setRate 1 = .ok (.getfield 12, 3) := by decide +kernel
theorem dX8_setRate_4 : decode cX8_setRate 4 = .ok (.iload_n 1, 1) := by decide +kernel
theorem dX8_setRate_5 : decode cX8_setRate 5 = .ok (.iload_n 2, 1) := by decide +kernel
theorem dX8_setRate_6 : decode cX8_setRate 6 = .ok (.invokevirtual 113, 3) := by decide +kernel
theorem dX8_setRate_9 : decode cX8_setRate 9 = .ok (.invokestatic 58, 3) := by decide +kernel
theorem dX8_setRate_12 : decode cX8_setRate 12 = .ok (.aload_n 0, 1) := by decide +kernel
theorem dX8_setRate_13 : decode cX8_setRate 13 = .ok (.getfield 25, 3) := by decide +kernel
theorem dX8_setRate_16 : decode cX8_setRate 16 = .ok (.aload_n 0, 1) := by decide +kernel
theorem dX8_setRate_17 : decode cX8_setRate 17 = .ok (.getfield 12, 3) := by decide +kernel
theorem dX8_setRate_20 : decode cX8_setRate 20 = .ok (.invokevirtual 62, 3) := by decide +kernel
theorem dX8_setRate_23 : decode cX8_setRate 23 = .ok (.aload_n 0, 1) := by decide +kernel
theorem dX8_setRate_24 : decode cX8_setRate 24 = .ok (.getfield 12, 3) := by decide +kernel
theorem dX8_setRate_27 : decode cX8_setRate 27 = .ok (.iload_n 1, 1) := by decide +kernel
theorem dX8_setRate_28 : decode cX8_setRate 28 = .ok (.iload_n 2, 1) := by decide +kernel
theorem dX8_setRate_29 : decode cX8_setRate 29 = .ok (.invokevirtual 117, 3) := by decide +kernel
theorem dX8_setRate_32 : decode cX8_setRate 32 = .ok (.ireturn, 1) := by decide +kernel
theorem dX8_setStickiness_0 : decode cX8_setStickiness 0 = .ok (.aload_n 0, 1) := by decide +kernel
theorem dX8_setStickiness_1 : decode cX8_setStickiness 1 = .ok (.getfield 12, 3) := by decide +kernel
theorem dX8_setStickiness_4 : decode cX8_setStickiness 4 = .ok (.iload_n 1, 1) := by decide +kernel
theorem dX8_setStickiness_5 : decode cX8_setStickiness 5 = .ok (.iload_n 2, 1) := by decide +kernel
theorem dX8_setStickiness_6 : decode cX8_setStickiness 6 = .ok (.invokevirtual 121, 3) := by decide +kernel
theorem dX8_setStickiness_9 : decode cX8_setStickiness 9 = .ok (.invokestatic 58, 3) := by decide +kernel
theorem dX8_setStickiness_12 : decode cX8_setStickiness 12 = .ok (.aload_n 0, 1) := by decide +kernel
theorem dX8_setStickiness_13 : decode cX8_setStickiness 13 = .ok (.getfield 25, 3) := by decide +kernel
theorem dX8_setStickiness_16 : decode cX8_setStickiness 16 = .ok (.aload_n 0, 1) := by decide +kernel
theorem dX8_setStickiness_17 : decode cX8_setStickiness 17 = .ok (.getfield 12, 3) := by decide +kernel
theorem dX8_setStickiness_20 : decode cX8_setStickiness 20 = .ok (.invokevirtual 62, 3) := by decide +kernel
theorem dX8_setStickiness_23 : decode cX8_setStickiness 23 = .ok (.aload_n 0, 1) := by decide +kernel
theorem dX8_setStickiness_24 : decode cX8_setStickiness 24 = .ok (.getfield 12, 3) := by decide +kernel
theorem dX8_setStickiness_27 : decode cX8_setStickiness 27 = .ok (.iload_n 1, 1) := by decide +kernel
theorem dX8_setStickiness_28 : decode cX8_setStickiness 28 = .ok (.iload_n 2, 1) := by decide +kernel
theorem dX8_setStickiness_29 : decode cX8_setStickiness 29 = .ok (.invokevirtual 124, 3) := by decide +kernel
theorem dX8_setStickiness_32 : decode cX8_setStickiness 32 = .ok (.ireturn, 1) := by decide +kernel
theorem dX8_passDays_0 : decode cX8_passDays 0 = .ok (.aload_n 0, 1) := by decide +kernel
theorem dX8_passDays_1 : decode cX8_passDays 1 = .ok (.getfield 12, 3) := by decide +kernel
theorem dX8_passDays_4 : decode cX8_passDays 4 = .ok (.iload_n 1, 1) := by decide +kernel
theorem dX8_passDays_5 : decode cX8_passDays 5 = .ok (.invokevirtual 127, 3) := by decide +kernel
theorem dX8_passDays_8 : decode cX8_passDays 8 = .ok (.invokestatic 58, 3) := by decide +kernel
theorem dX8_passDays_11 : decode cX8_passDays 11 = .ok (.aload_n 0, 1) := by decide +kernel
theorem dX8_passDays_12 : decode cX8_passDays 12 = .ok (.getfield 25, 3) := by decide +kernel
theorem dX8_passDays_15 : decode cX8_passDays 15 = .ok (.aload_n 0, 1) := by decide +kernel
theorem dX8_passDays_16 : decode cX8_passDays 16 = .ok (.getfield 12, 3) := by decide +kernel
theorem dX8_passDays_19 : decode cX8_passDays 19 = .ok (.invokevirtual 62, 3) := by decide +kernel
theorem dX8_passDays_22 : decode cX8_passDays 22 = .ok (.aload_n 0, 1) := by decide +kernel
theorem dX8_passDays_23 : decode cX8_passDays 23 = .ok (.getfield 12, 3) := by decide +kernel
theorem dX8_passDays_26 : decode cX8_passDays 26 = .ok (.iload_n 1, 1) := by decide +kernel
theorem dX8_passDays_27 : decode cX8_passDays 27 = .ok (.invokevirtual 130, 3) := by decide +kernel
theorem dX8_passDays_30 : decode cX8_passDays 30 = .ok (.ireturn, 1) := by decide +kernel
theorem dX8_vaultCount_0 : decode cX8_vaultCount 0 = .ok (.aload_n 0, 1) := by decide +kernel
theorem dX8_vaultCount_1 : decode cX8_vaultCount 1 = .ok (.getfield 12, 3) := by decide +kernel
theorem dX8_vaultCount_4 : decode cX8_vaultCount 4 = .ok (.getfield 133, 3) := by decide +kernel
theorem dX8_vaultCount_7 : decode cX8_vaultCount 7 = .ok (.ireturn, 1) := by decide +kernel
theorem dX8_flies_0 : decode cX8_flies 0 = .ok (.aload_n 0, 1) := by decide +kernel
theorem dX8_flies_1 : decode cX8_flies 1 = .ok (.iload_n 1, 1) := by decide +kernel
theorem dX8_flies_2 : decode cX8_flies 2 = .ok (.invokevirtual 136, 3) := by decide +kernel
theorem dX8_flies_5 : decode cX8_flies 5 = .ok (.astore_n 3, 1) := by decide +kernel
theorem dX8_flies_6 : decode cX8_flies 6 = .ok (.aload_n 3, 1) := by decide +kernel
theorem dX8_flies_7 : decode cX8_flies 7 = .ok (.getfield 140, 3) := by decide +kernel
theorem dX8_flies_10 : decode cX8_flies 10 = .ok (.iload_n 2, 1) := by decide +kernel
theorem dX8_flies_11 : decode cX8_flies 11 = .ok (.invokestatic 146, 3) := by decide +kernel
theorem dX8_flies_14 : decode cX8_flies 14 = .ok (.iaload, 1) := by decide +kernel
theorem dX8_flies_15 : decode cX8_flies 15 = .ok (.ireturn, 1) := by decide +kernel
theorem dX8_crumbs_0 : decode cX8_crumbs 0 = .ok (.aload_n 0, 1) := by decide +kernel
theorem dX8_crumbs_1 : decode cX8_crumbs 1 = .ok (.iload_n 1, 1) := by decide +kernel
theorem dX8_crumbs_2 : decode cX8_crumbs 2 = .ok (.invokevirtual 136, 3) := by decide +kernel
theorem dX8_crumbs_5 : decode cX8_crumbs 5 = .ok (.getfield 150, 3) := by decide +kernel
theorem dX8_crumbs_8 : decode cX8_crumbs 8 = .ok (.ireturn, 1) := by decide +kernel
theorem dX8_dew_0 : decode cX8_dew 0 = .ok (.aload_n 0, 1) := by decide +kernel
theorem dX8_dew_1 : decode cX8_dew 1 = .ok (.iload_n 1, 1) := by decide +kernel
theorem dX8_dew_2 : decode cX8_dew 2 = .ok (.invokevirtual 136, 3) := by decide +kernel
theorem dX8_dew_5 : decode cX8_dew 5 = .ok (.getfield 153, 3) := by decide +kernel
theorem dX8_dew_8 : decode cX8_dew 8 = .ok (.ireturn, 1) := by decide +kernel
theorem dX8_wings_0 : decode cX8_wings 0 = .ok (.aload_n 0, 1) := by decide +kernel
theorem dX8_wings_1 : decode cX8_wings 1 = .ok (.iload_n 1, 1) := by decide +kernel
theorem dX8_wings_2 : decode cX8_wings 2 = .ok (.invokevirtual 136, 3) := by decide +kernel
theorem dX8_wings_5 : decode cX8_wings 5 = .ok (.getfield 156, 3) := by decide +kernel
theorem dX8_wings_8 : decode cX8_wings 8 = .ok (.ireturn, 1) := by decide +kernel
theorem dX8_stickiness_0 : decode cX8_stickiness 0 = .ok (.aload_n 0, 1) := by decide +kernel
theorem dX8_stickiness_1 : decode cX8_stickiness 1 = .ok (.iload_n 1, 1) := by decide +kernel
theorem dX8_stickiness_2 : decode cX8_stickiness 2 = .ok (.invokevirtual 136, 3) := by decide +kernel
theorem dX8_stickiness_5 : decode cX8_stickiness 5 = .ok (.getfield 159, 3) := by decide +kernel
theorem dX8_stickiness_8 : decode cX8_stickiness 8 = .ok (.ireturn, 1) := by decide +kernel
theorem dX8_isFrozen_0 : decode cX8_isFrozen 0 = .ok (.aload_n 0, 1) := by decide +kernel
theorem dX8_isFrozen_1 : decode cX8_isFrozen 1 = .ok (.iload_n 1, 1) := by decide +kernel
theorem dX8_isFrozen_2 : decode cX8_isFrozen 2 = .ok (.invokevirtual 136, 3) := by decide +kernel
theorem dX8_isFrozen_5 : decode cX8_isFrozen 5 = .ok (.invokevirtual 162, 3) := by decide +kernel
theorem dX8_isFrozen_8 : decode cX8_isFrozen 8 = .ok (.ireturn, 1) := by decide +kernel
theorem dX8_daysUntilThaw_0 : decode cX8_daysUntilThaw 0 = .ok (.aload_n 0, 1) := by decide +kernel
theorem dX8_daysUntilThaw_1 : decode cX8_daysUntilThaw 1 = .ok (.iload_n 1, 1) := by decide +kernel
theorem dX8_daysUntilThaw_2 : decode cX8_daysUntilThaw 2 = .ok (.invokevirtual 136, 3) := by decide +kernel
theorem dX8_daysUntilThaw_5 : decode cX8_daysUntilThaw 5 = .ok (.astore_n 2, 1) := by decide +kernel
theorem dX8_daysUntilThaw_6 : decode cX8_daysUntilThaw 6 = .ok (.aload_n 2, 1) := by decide +kernel
theorem dX8_daysUntilThaw_7 : decode cX8_daysUntilThaw 7 = .ok (.invokevirtual 162, 3) := by decide +kernel
theorem dX8_daysUntilThaw_10 : decode cX8_daysUntilThaw 10 = .ok (.ifCond .ne 13, 3) := by decide +kernel
theorem dX8_daysUntilThaw_13 : decode cX8_daysUntilThaw 13 = .ok (.new 166, 3) := by decide +kernel
theorem dX8_daysUntilThaw_16 : decode cX8_daysUntilThaw 16 = .ok (.dup, 1) := by decide +kernel
theorem dX8_daysUntilThaw_17 : decode cX8_daysUntilThaw 17 = .ok (.ldc 168, 2) := by decide +kernel
theorem dX8_daysUntilThaw_19 : decode cX8_daysUntilThaw 19 = .ok (.invokespecial 170, 3) := by decide +kernel
theorem dX8_daysUntilThaw_22 : decode cX8_daysUntilThaw 22 = .ok (.athrow, 1) := by decide +kernel
theorem dX8_daysUntilThaw_23 : decode cX8_daysUntilThaw 23 = .ok (.aload_n 2, 1) := by decide +kernel
theorem dX8_daysUntilThaw_24 : decode cX8_daysUntilThaw 24 = .ok (.getfield 173, 3) := by decide +kernel
theorem dX8_daysUntilThaw_27 : decode cX8_daysUntilThaw 27 = .ok (.ireturn, 1) := by decide +kernel
theorem dX8_value_0 : decode cX8_value 0 = .ok (.aload_n 0, 1) := by decide +kernel
theorem dX8_value_1 : decode cX8_value 1 = .ok (.iload_n 1, 1) := by decide +kernel
theorem dX8_value_2 : decode cX8_value 2 = .ok (.invokevirtual 136, 3) := by decide +kernel
theorem dX8_value_5 : decode cX8_value 5 = .ok (.aload_n 0, 1) := by decide +kernel
theorem dX8_value_6 : decode cX8_value 6 = .ok (.getfield 12, 3) := by decide +kernel
theorem dX8_value_9 : decode cX8_value 9 = .ok (.getfield 176, 3) := by decide +kernel
theorem dX8_value_12 : decode cX8_value 12 = .ok (.invokevirtual 179, 3) := by decide +kernel
theorem dX8_value_15 : decode cX8_value 15 = .ok (.ireturn, 1) := by decide +kernel
theorem dX8_reserve_0 : decode cX8_reserve 0 = .ok (.aload_n 0, 1) := by decide +kernel
theorem dX8_reserve_1 : decode cX8_reserve 1 = .ok (.iload_n 1, 1) := by decide +kernel
theorem dX8_reserve_2 : decode cX8_reserve 2 = .ok (.invokevirtual 136, 3) := by decide +kernel
theorem dX8_reserve_5 : decode cX8_reserve 5 = .ok (.astore_n 2, 1) := by decide +kernel
theorem dX8_reserve_6 : decode cX8_reserve 6 = .ok (.aload_n 2, 1) := by decide +kernel
theorem dX8_reserve_7 : decode cX8_reserve 7 = .ok (.aload_n 2, 1) := by decide +kernel
theorem dX8_reserve_8 : decode cX8_reserve 8 = .ok (.aload_n 0, 1) := by decide +kernel
theorem dX8_reserve_9 : decode cX8_reserve 9 = .ok (.getfield 12, 3) := by decide +kernel
theorem dX8_reserve_12 : decode cX8_reserve 12 = .ok (.getfield 176, 3) := by decide +kernel
theorem dX8_reserve_15 : decode cX8_reserve 15 = .ok (.invokevirtual 179, 3) := by decide +kernel
theorem dX8_reserve_18 : decode cX8_reserve 18 = .ok (.invokevirtual 183, 3) := by decide +kernel
theorem dX8_reserve_21 : decode cX8_reserve 21 = .ok (.ireturn, 1) := by decide +kernel
theorem dX8_isSound_0 : decode cX8_isSound 0 = .ok (.aload_n 0, 1) := by decide +kernel
theorem dX8_isSound_1 : decode cX8_isSound 1 = .ok (.iload_n 1, 1) := by decide +kernel
theorem dX8_isSound_2 : decode cX8_isSound 2 = .ok (.invokevirtual 136, 3) := by decide +kernel
theorem dX8_isSound_5 : decode cX8_isSound 5 = .ok (.aload_n 0, 1) := by decide +kernel
theorem dX8_isSound_6 : decode cX8_isSound 6 = .ok (.getfield 12, 3) := by decide +kernel
theorem dX8_isSound_9 : decode cX8_isSound 9 = .ok (.getfield 176, 3) := by decide +kernel
theorem dX8_isSound_12 : decode cX8_isSound 12 = .ok (.invokevirtual 186, 3) := by decide +kernel
theorem dX8_isSound_15 : decode cX8_isSound 15 = .ok (.ireturn, 1) := by decide +kernel
theorem dX8_mintable_0 : decode cX8_mintable 0 = .ok (.aload_n 0, 1) := by decide +kernel
theorem dX8_mintable_1 : decode cX8_mintable 1 = .ok (.iload_n 1, 1) := by decide +kernel
theorem dX8_mintable_2 : decode cX8_mintable 2 = .ok (.invokevirtual 136, 3) := by decide +kernel
theorem dX8_mintable_5 : decode cX8_mintable 5 = .ok (.aload_n 0, 1) := by decide +kernel
theorem dX8_mintable_6 : decode cX8_mintable 6 = .ok (.getfield 12, 3) := by decide +kernel
theorem dX8_mintable_9 : decode cX8_mintable 9 = .ok (.getfield 176, 3) := by decide +kernel
theorem dX8_mintable_12 : decode cX8_mintable 12 = .ok (.invokevirtual 190, 3) := by decide +kernel
theorem dX8_mintable_15 : decode cX8_mintable 15 = .ok (.ireturn, 1) := by decide +kernel
theorem dX8_daysUntilSound_0 : decode cX8_daysUntilSound 0 = .ok (.aload_n 0, 1) := by decide +kernel
theorem dX8_daysUntilSound_1 : decode cX8_daysUntilSound 1 = .ok (.iload_n 1, 1) := by decide +kernel
theorem dX8_daysUntilSound_2 : decode cX8_daysUntilSound 2 = .ok (.invokevirtual 136, 3) := by decide +kernel
theorem dX8_daysUntilSound_5 : decode cX8_daysUntilSound 5 = .ok (.aload_n 0, 1) := by decide +kernel
theorem dX8_daysUntilSound_6 : decode cX8_daysUntilSound 6 = .ok (.getfield 12, 3) := by decide +kernel
theorem dX8_daysUntilSound_9 : decode cX8_daysUntilSound 9 = .ok (.getfield 176, 3) := by decide +kernel
theorem dX8_daysUntilSound_12 : decode cX8_daysUntilSound 12 = .ok (.invokevirtual 193, 3) := by decide +kernel
theorem dX8_daysUntilSound_15 : decode cX8_daysUntilSound 15 = .ok (.ireturn, 1) := by decide +kernel
theorem dX8_daysUntilSoundByCounting_0 : decode cX8_daysUntilSoundByCounting 0 = .ok (.aload_n 0, 1) := by decide +kernel
theorem dX8_daysUntilSoundByCounting_1 : decode cX8_daysUntilSoundByCounting 1 = .ok (.iload_n 1, 1) := by decide +kernel
theorem dX8_daysUntilSoundByCounting_2 : decode cX8_daysUntilSoundByCounting 2 = .ok (.invokevirtual 136, 3) := by decide +kernel
theorem dX8_daysUntilSoundByCounting_5 : decode cX8_daysUntilSoundByCounting 5 = .ok (.aload_n 0, 1) := by decide +kernel
theorem dX8_daysUntilSoundByCounting_6 : decode cX8_daysUntilSoundByCounting 6 = .ok (.getfield 12, 3) := by decide +kernel
theorem dX8_daysUntilSoundByCounting_9 : decode cX8_daysUntilSoundByCounting 9 = .ok (.getfield 176, 3) := by decide +kernel
theorem dX8_daysUntilSoundByCounting_12 : decode cX8_daysUntilSoundByCounting 12 = .ok (.invokevirtual 196, 3) := by decide +kernel
theorem dX8_daysUntilSoundByCounting_15 : decode cX8_daysUntilSoundByCounting 15 = .ok (.ireturn, 1) := by decide +kernel
theorem dX8_mostFlies_0 : decode cX8_mostFlies 0 = .ok (.aload_n 0, 1) := by decide +kernel
theorem dX8_mostFlies_1 : decode cX8_mostFlies 1 = .ok (.iload_n 1, 1) := by decide +kernel
theorem dX8_mostFlies_2 : decode cX8_mostFlies 2 = .ok (.invokevirtual 136, 3) := by decide +kernel
theorem dX8_mostFlies_5 : decode cX8_mostFlies 5 = .ok (.astore_n 3, 1) := by decide +kernel
theorem dX8_mostFlies_6 : decode cX8_mostFlies 6 = .ok (.aload_n 3, 1) := by decide +kernel
theorem dX8_mostFlies_7 : decode cX8_mostFlies 7 = .ok (.iload_n 2, 1) := by decide +kernel
theorem dX8_mostFlies_8 : decode cX8_mostFlies 8 = .ok (.invokestatic 146, 3) := by decide +kernel
theorem dX8_mostFlies_11 : decode cX8_mostFlies 11 = .ok (.aload_n 0, 1) := by decide +kernel
theorem dX8_mostFlies_12 : decode cX8_mostFlies 12 = .ok (.getfield 12, 3) := by decide +kernel
theorem dX8_mostFlies_15 : decode cX8_mostFlies 15 = .ok (.getfield 176, 3) := by decide +kernel
theorem dX8_mostFlies_18 : decode cX8_mostFlies 18 = .ok (.invokevirtual 199, 3) := by decide +kernel
theorem dX8_mostFlies_21 : decode cX8_mostFlies 21 = .ok (.ireturn, 1) := by decide +kernel
theorem dX8_mostFliesByExchanges_0 : decode cX8_mostFliesByExchanges 0 = .ok (.aload_n 0, 1) := by decide +kernel
theorem dX8_mostFliesByExchanges_1 : decode cX8_mostFliesByExchanges 1 = .ok (.iload_n 1, 1) := by decide +kernel
theorem dX8_mostFliesByExchanges_2 : decode cX8_mostFliesByExchanges 2 = .ok (.invokevirtual 136, 3) := by decide +kernel
theorem dX8_mostFliesByExchanges_5 : decode cX8_mostFliesByExchanges 5 = .ok (.astore_n 3, 1) := by decide +kernel
theorem dX8_mostFliesByExchanges_6 : decode cX8_mostFliesByExchanges 6 = .ok (.aload_n 3, 1) := by decide +kernel
theorem dX8_mostFliesByExchanges_7 : decode cX8_mostFliesByExchanges 7 = .ok (.iload_n 2, 1) := by decide +kernel
theorem dX8_mostFliesByExchanges_8 : decode cX8_mostFliesByExchanges 8 = .ok (.invokestatic 146, 3) := by decide +kernel
theorem dX8_mostFliesByExchanges_11 : decode cX8_mostFliesByExchanges 11 = .ok (.aload_n 0, 1) := by decide +kernel
theorem dX8_mostFliesByExchanges_12 : decode cX8_mostFliesByExchanges 12 = .ok (.getfield 12, 3) := by decide +kernel
theorem dX8_mostFliesByExchanges_15 : decode cX8_mostFliesByExchanges 15 = .ok (.getfield 176, 3) := by decide +kernel
theorem dX8_mostFliesByExchanges_18 : decode cX8_mostFliesByExchanges 18 = .ok (.invokevirtual 203, 3) := by decide +kernel
theorem dX8_mostFliesByExchanges_21 : decode cX8_mostFliesByExchanges 21 = .ok (.ireturn, 1) := by decide +kernel
theorem dX8_rate_0 : decode cX8_rate 0 = .ok (.aload_n 0, 1) := by decide +kernel
theorem dX8_rate_1 : decode cX8_rate 1 = .ok (.getfield 12, 3) := by decide +kernel
theorem dX8_rate_4 : decode cX8_rate 4 = .ok (.getfield 176, 3) := by decide +kernel
theorem dX8_rate_7 : decode cX8_rate 7 = .ok (.iload_n 1, 1) := by decide +kernel
theorem dX8_rate_8 : decode cX8_rate 8 = .ok (.invokestatic 146, 3) := by decide +kernel
theorem dX8_rate_11 : decode cX8_rate 11 = .ok (.iaload, 1) := by decide +kernel
theorem dX8_rate_12 : decode cX8_rate 12 = .ok (.ireturn, 1) := by decide +kernel
theorem dX8_totalFlies_0 : decode cX8_totalFlies 0 = .ok (.aload_n 0, 1) := by decide +kernel
theorem dX8_totalFlies_1 : decode cX8_totalFlies 1 = .ok (.getfield 12, 3) := by decide +kernel
theorem dX8_totalFlies_4 : decode cX8_totalFlies 4 = .ok (.iload_n 1, 1) := by decide +kernel
theorem dX8_totalFlies_5 : decode cX8_totalFlies 5 = .ok (.invokestatic 146, 3) := by decide +kernel
theorem dX8_totalFlies_8 : decode cX8_totalFlies 8 = .ok (.invokevirtual 206, 3) := by decide +kernel
theorem dX8_totalFlies_11 : decode cX8_totalFlies 11 = .ok (.ireturn, 1) := by decide +kernel
theorem dX8_totalFliesByAccounts_0 : decode cX8_totalFliesByAccounts 0 = .ok (.aload_n 0, 1) := by decide +kernel
theorem dX8_totalFliesByAccounts_1 : decode cX8_totalFliesByAccounts 1 = .ok (.getfield 12, 3) := by decide +kernel
theorem dX8_totalFliesByAccounts_4 : decode cX8_totalFliesByAccounts 4 = .ok (.iload_n 1, 1) := by decide +kernel
theorem dX8_totalFliesByAccounts_5 : decode cX8_totalFliesByAccounts 5 = .ok (.invokestatic 146, 3) := by decide +kernel
theorem dX8_totalFliesByAccounts_8 : decode cX8_totalFliesByAccounts 8 = .ok (.invokevirtual 209, 3) := by decide +kernel
theorem dX8_totalFliesByAccounts_11 : decode cX8_totalFliesByAccounts 11 = .ok (.ireturn, 1) := by decide +kernel
theorem dX8_totalValue_0 : decode cX8_totalValue 0 = .ok (.aload_n 0, 1) := by decide +kernel
theorem dX8_totalValue_1 : decode cX8_totalValue 1 = .ok (.getfield 12, 3) := by decide +kernel
theorem dX8_totalValue_4 : decode cX8_totalValue 4 = .ok (.invokevirtual 212, 3) := by decide +kernel
theorem dX8_totalValue_7 : decode cX8_totalValue 7 = .ok (.ireturn, 1) := by decide +kernel
theorem dX8_totalValueByKinds_0 : decode cX8_totalValueByKinds 0 = .ok (.aload_n 0, 1) := by decide +kernel
theorem dX8_totalValueByKinds_1 : decode cX8_totalValueByKinds 1 = .ok (.getfield 12, 3) := by decide +kernel
theorem dX8_totalValueByKinds_4 : decode cX8_totalValueByKinds 4 = .ok (.invokevirtual 216, 3) := by decide +kernel
theorem dX8_totalValueByKinds_7 : decode cX8_totalValueByKinds 7 = .ok (.ireturn, 1) := by decide +kernel
theorem dX8_vaultByValue_0 : decode cX8_vaultByValue 0 = .ok (.aload_n 0, 1) := by decide +kernel
theorem dX8_vaultByValue_1 : decode cX8_vaultByValue 1 = .ok (.getfield 12, 3) := by decide +kernel
theorem dX8_vaultByValue_4 : decode cX8_vaultByValue 4 = .ok (.iload_n 1, 1) := by decide +kernel
theorem dX8_vaultByValue_5 : decode cX8_vaultByValue 5 = .ok (.invokevirtual 219, 3) := by decide +kernel
theorem dX8_vaultByValue_8 : decode cX8_vaultByValue 8 = .ok (.istore_n 2, 1) := by decide +kernel
theorem dX8_vaultByValue_9 : decode cX8_vaultByValue 9 = .ok (.iload_n 2, 1) := by decide +kernel
theorem dX8_vaultByValue_10 : decode cX8_vaultByValue 10 = .ok (.ifCond .ge 13, 3) := by decide +kernel
theorem dX8_vaultByValue_13 : decode cX8_vaultByValue 13 = .ok (.new 166, 3) := by decide +kernel
theorem dX8_vaultByValue_16 : decode cX8_vaultByValue 16 = .ok (.dup, 1) := by decide +kernel
theorem dX8_vaultByValue_17 : decode cX8_vaultByValue 17 = .ok (.ldc 222, 2) := by decide +kernel
theorem dX8_vaultByValue_19 : decode cX8_vaultByValue 19 = .ok (.invokespecial 170, 3) := by decide +kernel
theorem dX8_vaultByValue_22 : decode cX8_vaultByValue 22 = .ok (.athrow, 1) := by decide +kernel
theorem dX8_vaultByValue_23 : decode cX8_vaultByValue 23 = .ok (.iload_n 2, 1) := by decide +kernel
theorem dX8_vaultByValue_24 : decode cX8_vaultByValue 24 = .ok (.ireturn, 1) := by decide +kernel
theorem dX8_kindByValue_0 : decode cX8_kindByValue 0 = .ok (.aload_n 0, 1) := by decide +kernel
theorem dX8_kindByValue_1 : decode cX8_kindByValue 1 = .ok (.getfield 12, 3) := by decide +kernel
theorem dX8_kindByValue_4 : decode cX8_kindByValue 4 = .ok (.iload_n 1, 1) := by decide +kernel
theorem dX8_kindByValue_5 : decode cX8_kindByValue 5 = .ok (.invokevirtual 224, 3) := by decide +kernel
theorem dX8_kindByValue_8 : decode cX8_kindByValue 8 = .ok (.istore_n 2, 1) := by decide +kernel
theorem dX8_kindByValue_9 : decode cX8_kindByValue 9 = .ok (.iload_n 2, 1) := by decide +kernel
theorem dX8_kindByValue_10 : decode cX8_kindByValue 10 = .ok (.ifCond .ge 13, 3) := by decide +kernel
theorem dX8_kindByValue_13 : decode cX8_kindByValue 13 = .ok (.new 166, 3) := by decide +kernel
theorem dX8_kindByValue_16 : decode cX8_kindByValue 16 = .ok (.dup, 1) := by decide +kernel
theorem dX8_kindByValue_17 : decode cX8_kindByValue 17 = .ok (.ldc 222, 2) := by decide +kernel
theorem dX8_kindByValue_19 : decode cX8_kindByValue 19 = .ok (.invokespecial 170, 3) := by decide +kernel
theorem dX8_kindByValue_22 : decode cX8_kindByValue 22 = .ok (.athrow, 1) := by decide +kernel
theorem dX8_kindByValue_23 : decode cX8_kindByValue 23 = .ok (.ldc 227, 2) := by decide +kernel
theorem dX8_kindByValue_25 : decode cX8_kindByValue 25 = .ok (.iload_n 2, 1) := by decide +kernel
theorem dX8_kindByValue_26 : decode cX8_kindByValue 26 = .ok (.invokevirtual 229, 3) := by decide +kernel
theorem dX8_kindByValue_29 : decode cX8_kindByValue 29 = .ok (.ireturn, 1) := by decide +kernel
theorem dX8_day_0 : decode cX8_day 0 = .ok (.aload_n 0, 1) := by decide +kernel
theorem dX8_day_1 : decode cX8_day 1 = .ok (.getfield 12, 3) := by decide +kernel
theorem dX8_day_4 : decode cX8_day 4 = .ok (.getfield 235, 3) := by decide +kernel
theorem dX8_day_7 : decode cX8_day 7 = .ok (.ireturn, 1) := by decide +kernel
theorem dX8_mintedTotal_0 : decode cX8_mintedTotal 0 = .ok (.aload_n 0, 1) := by decide +kernel
theorem dX8_mintedTotal_1 : decode cX8_mintedTotal 1 = .ok (.getfield 12, 3) := by decide +kernel
theorem dX8_mintedTotal_4 : decode cX8_mintedTotal 4 = .ok (.getfield 238, 3) := by decide +kernel
theorem dX8_mintedTotal_7 : decode cX8_mintedTotal 7 = .ok (.ireturn, 1) := by decide +kernel
theorem dX8_redeemedTotal_0 : decode cX8_redeemedTotal 0 = .ok (.aload_n 0, 1) := by decide +kernel
theorem dX8_redeemedTotal_1 : decode cX8_redeemedTotal 1 = .ok (.getfield 12, 3) := by decide +kernel
theorem dX8_redeemedTotal_4 : decode cX8_redeemedTotal 4 = .ok (.getfield 241, 3) := by decide +kernel
theorem dX8_redeemedTotal_7 : decode cX8_redeemedTotal 7 = .ok (.ireturn, 1) := by decide +kernel
theorem dX8_evaporatedTotal_0 : decode cX8_evaporatedTotal 0 = .ok (.aload_n 0, 1) := by decide +kernel
theorem dX8_evaporatedTotal_1 : decode cX8_evaporatedTotal 1 = .ok (.getfield 12, 3) := by decide +kernel
theorem dX8_evaporatedTotal_4 : decode cX8_evaporatedTotal 4 = .ok (.getfield 244, 3) := by decide +kernel
theorem dX8_evaporatedTotal_7 : decode cX8_evaporatedTotal 7 = .ok (.ireturn, 1) := by decide +kernel
theorem dX8_auditTotal_0 : decode cX8_auditTotal 0 = .ok (.aload_n 0, 1) := by decide +kernel
theorem dX8_auditTotal_1 : decode cX8_auditTotal 1 = .ok (.getfield 12, 3) := by decide +kernel
theorem dX8_auditTotal_4 : decode cX8_auditTotal 4 = .ok (.getfield 247, 3) := by decide +kernel
theorem dX8_auditTotal_7 : decode cX8_auditTotal 7 = .ok (.ireturn, 1) := by decide +kernel
theorem dX8_soundAuditTotal_0 : decode cX8_soundAuditTotal 0 = .ok (.aload_n 0, 1) := by decide +kernel
theorem dX8_soundAuditTotal_1 : decode cX8_soundAuditTotal 1 = .ok (.getfield 12, 3) := by decide +kernel
theorem dX8_soundAuditTotal_4 : decode cX8_soundAuditTotal 4 = .ok (.getfield 250, 3) := by decide +kernel
theorem dX8_soundAuditTotal_7 : decode cX8_soundAuditTotal 7 = .ok (.ireturn, 1) := by decide +kernel
theorem dX8_meanValue_0 : decode cX8_meanValue 0 = .ok (.aload_n 0, 1) := by decide +kernel
theorem dX8_meanValue_1 : decode cX8_meanValue 1 = .ok (.getfield 12, 3) := by decide +kernel
theorem dX8_meanValue_4 : decode cX8_meanValue 4 = .ok (.getfield 133, 3) := by decide +kernel
theorem dX8_meanValue_7 : decode cX8_meanValue 7 = .ok (.ifCond .ne 13, 3) := by decide +kernel
theorem dX8_meanValue_10 : decode cX8_meanValue 10 = .ok (.new 253, 3) := by decide +kernel
theorem dX8_meanValue_13 : decode cX8_meanValue 13 = .ok (.dup, 1) := by decide +kernel
theorem dX8_meanValue_14 : decode cX8_meanValue 14 = .ok (.ldc 255, 2) := by decide +kernel
theorem dX8_meanValue_16 : decode cX8_meanValue 16 = .ok (.invokespecial 257, 3) := by decide +kernel
theorem dX8_meanValue_19 : decode cX8_meanValue 19 = .ok (.athrow, 1) := by decide +kernel
theorem dX8_meanValue_20 : decode cX8_meanValue 20 = .ok (.aload_n 0, 1) := by decide +kernel
theorem dX8_meanValue_21 : decode cX8_meanValue 21 = .ok (.getfield 12, 3) := by decide +kernel
theorem dX8_meanValue_24 : decode cX8_meanValue 24 = .ok (.invokevirtual 212, 3) := by decide +kernel
theorem dX8_meanValue_27 : decode cX8_meanValue 27 = .ok (.i2d, 1) := by decide +kernel
theorem dX8_meanValue_28 : decode cX8_meanValue 28 = .ok (.aload_n 0, 1) := by decide +kernel
theorem dX8_meanValue_29 : decode cX8_meanValue 29 = .ok (.getfield 12, 3) := by decide +kernel
theorem dX8_meanValue_32 : decode cX8_meanValue 32 = .ok (.getfield 133, 3) := by decide +kernel
theorem dX8_meanValue_35 : decode cX8_meanValue 35 = .ok (.i2d, 1) := by decide +kernel
theorem dX8_meanValue_36 : decode cX8_meanValue 36 = .ok (.ddiv, 1) := by decide +kernel
theorem dX8_meanValue_37 : decode cX8_meanValue 37 = .ok (.dreturn, 1) := by decide +kernel
theorem dX8_soundShare_0 : decode cX8_soundShare 0 = .ok (.aload_n 0, 1) := by decide +kernel
theorem dX8_soundShare_1 : decode cX8_soundShare 1 = .ok (.getfield 12, 3) := by decide +kernel
theorem dX8_soundShare_4 : decode cX8_soundShare 4 = .ok (.getfield 247, 3) := by decide +kernel
theorem dX8_soundShare_7 : decode cX8_soundShare 7 = .ok (.ifCond .ne 14, 3) := by decide +kernel
theorem dX8_soundShare_10 : decode cX8_soundShare 10 = .ok (.new 253, 3) := by decide +kernel
theorem dX8_soundShare_13 : decode cX8_soundShare 13 = .ok (.dup, 1) := by decide +kernel
theorem dX8_soundShare_14 : decode cX8_soundShare 14 = .ok (.ldc_w 258, 3) := by decide +kernel
theorem dX8_soundShare_17 : decode cX8_soundShare 17 = .ok (.invokespecial 257, 3) := by decide +kernel
theorem dX8_soundShare_20 : decode cX8_soundShare 20 = .ok (.athrow, 1) := by decide +kernel
theorem dX8_soundShare_21 : decode cX8_soundShare 21 = .ok (.aload_n 0, 1) := by decide +kernel
theorem dX8_soundShare_22 : decode cX8_soundShare 22 = .ok (.getfield 12, 3) := by decide +kernel
theorem dX8_soundShare_25 : decode cX8_soundShare 25 = .ok (.getfield 250, 3) := by decide +kernel
theorem dX8_soundShare_28 : decode cX8_soundShare 28 = .ok (.i2f, 1) := by decide +kernel
theorem dX8_soundShare_29 : decode cX8_soundShare 29 = .ok (.aload_n 0, 1) := by decide +kernel
theorem dX8_soundShare_30 : decode cX8_soundShare 30 = .ok (.getfield 12, 3) := by decide +kernel
theorem dX8_soundShare_33 : decode cX8_soundShare 33 = .ok (.getfield 247, 3) := by decide +kernel
theorem dX8_soundShare_36 : decode cX8_soundShare 36 = .ok (.i2f, 1) := by decide +kernel
theorem dX8_soundShare_37 : decode cX8_soundShare 37 = .ok (.fdiv, 1) := by decide +kernel
theorem dX8_soundShare_38 : decode cX8_soundShare 38 = .ok (.freturn, 1) := by decide +kernel
theorem dX8_isConsistent_0 : decode cX8_isConsistent 0 = .ok (.aload_n 0, 1) := by decide +kernel
theorem dX8_isConsistent_1 : decode cX8_isConsistent 1 = .ok (.getfield 12, 3) := by decide +kernel
theorem dX8_isConsistent_4 : decode cX8_isConsistent 4 = .ok (.invokevirtual 260, 3) := by decide +kernel
theorem dX8_isConsistent_7 : decode cX8_isConsistent 7 = .ok (.ifCond .eq 37, 3) := by decide +kernel
theorem dX8_isConsistent_10 : decode cX8_isConsistent 10 = .ok (.aload_n 0, 1) := by decide +kernel
theorem dX8_isConsistent_11 : decode cX8_isConsistent 11 = .ok (.getfield 12, 3) := by decide +kernel
theorem dX8_isConsistent_14 : decode cX8_isConsistent 14 = .ok (.invokevirtual 263, 3) := by decide +kernel
theorem dX8_isConsistent_17 : decode cX8_isConsistent 17 = .ok (.ifCond .eq 27, 3) := by decide +kernel
theorem dX8_isConsistent_20 : decode cX8_isConsistent 20 = .ok (.aload_n 0, 1) := by decide +kernel
theorem dX8_isConsistent_21 : decode cX8_isConsistent 21 = .ok (.getfield 12, 3) := by decide +kernel
theorem dX8_isConsistent_24 : decode cX8_isConsistent 24 = .ok (.invokevirtual 266, 3) := by decide +kernel
theorem dX8_isConsistent_27 : decode cX8_isConsistent 27 = .ok (.ifCond .eq 17, 3) := by decide +kernel
theorem dX8_isConsistent_30 : decode cX8_isConsistent 30 = .ok (.aload_n 0, 1) := by decide +kernel
theorem dX8_isConsistent_31 : decode cX8_isConsistent 31 = .ok (.getfield 12, 3) := by decide +kernel
theorem dX8_isConsistent_34 : decode cX8_isConsistent 34 = .ok (.invokevirtual 269, 3) := by decide +kernel
theorem dX8_isConsistent_37 : decode cX8_isConsistent 37 = .ok (.ifCond .eq 7, 3) := by decide +kernel
theorem dX8_isConsistent_40 : decode cX8_isConsistent 40 = .ok (.iconst 1, 1) := by decide +kernel
theorem dX8_isConsistent_41 : decode cX8_isConsistent 41 = .ok (.goto 4, 3) := by decide +kernel
theorem dX8_isConsistent_44 : decode cX8_isConsistent 44 = .ok (.iconst 0, 1) := by decide +kernel
theorem dX8_isConsistent_45 : decode cX8_isConsistent 45 = .ok (.ireturn, 1) := by decide +kernel
theorem dX8_renderVault_0 : decode cX8_renderVault 0 = .ok (.aload_n 0, 1) := by decide +kernel
theorem dX8_renderVault_1 : decode cX8_renderVault 1 = .ok (.iload_n 1, 1) := by decide +kernel
theorem dX8_renderVault_2 : decode cX8_renderVault 2 = .ok (.invokevirtual 136, 3) := by decide +kernel
theorem dX8_renderVault_5 : decode cX8_renderVault 5 = .ok (.astore_n 2, 1) := by decide +kernel
theorem dX8_renderVault_6 : decode cX8_renderVault 6 = .ok (.aload_n 0, 1) := by decide +kernel
theorem dX8_renderVault_7 : decode cX8_renderVault 7 = .ok (.getfield 39, 3) := by decide +kernel
theorem dX8_renderVault_10 : decode cX8_renderVault 10 = .ok (.iconst 0, 1) := by decide +kernel
theorem dX8_renderVault_11 : decode cX8_renderVault 11 = .ok (.invokevirtual 272, 3) := by decide +kernel
theorem dX8_renderVault_14 : decode cX8_renderVault 14 = .ok (.iconst 0, 1) := by decide +kernel
theorem dX8_renderVault_15 : decode cX8_renderVault 15 = .ok (.istore_n 3, 1) := by decide +kernel
theorem dX8_renderVault_16 : decode cX8_renderVault 16 = .ok (.iload_n 3, 1) := by decide +kernel
theorem dX8_renderVault_17 : decode cX8_renderVault 17 = .ok (.iconst 3, 1) := by decide +kernel
theorem dX8_renderVault_18 : decode cX8_renderVault 18 = .ok (.if_icmp .ge 32, 3) := by decide +kernel
theorem dX8_renderVault_21 : decode cX8_renderVault 21 = .ok (.aload_n 0, 1) := by decide +kernel
theorem dX8_renderVault_22 : decode cX8_renderVault 22 = .ok (.getfield 39, 3) := by decide +kernel
theorem dX8_renderVault_25 : decode cX8_renderVault 25 = .ok (.ldc 227, 2) := by decide +kernel
theorem dX8_renderVault_27 : decode cX8_renderVault 27 = .ok (.iload_n 3, 1) := by decide +kernel
theorem dX8_renderVault_28 : decode cX8_renderVault 28 = .ok (.invokevirtual 229, 3) := by decide +kernel
theorem dX8_renderVault_31 : decode cX8_renderVault 31 = .ok (.invokevirtual 276, 3) := by decide +kernel
theorem dX8_renderVault_34 : decode cX8_renderVault 34 = .ok (.aload_n 2, 1) := by decide +kernel
theorem dX8_renderVault_35 : decode cX8_renderVault 35 = .ok (.getfield 140, 3) := by decide +kernel
theorem dX8_renderVault_38 : decode cX8_renderVault 38 = .ok (.iload_n 3, 1) := by decide +kernel
theorem dX8_renderVault_39 : decode cX8_renderVault 39 = .ok (.iaload, 1) := by decide +kernel
theorem dX8_renderVault_40 : decode cX8_renderVault 40 = .ok (.invokevirtual 280, 3) := by decide +kernel
theorem dX8_renderVault_43 : decode cX8_renderVault 43 = .ok (.pop, 1) := by decide +kernel
theorem dX8_renderVault_44 : decode cX8_renderVault 44 = .ok (.iinc 3 1, 3) := by decide +kernel
theorem dX8_renderVault_47 : decode cX8_renderVault 47 = .ok (.goto (-31), 3) := by decide +kernel
theorem dX8_renderVault_50 : decode cX8_renderVault 50 = .ok (.aload_n 0, 1) := by decide +kernel
theorem dX8_renderVault_51 : decode cX8_renderVault 51 = .ok (.getfield 39, 3) := by decide +kernel
theorem dX8_renderVault_54 : decode cX8_renderVault 54 = .ok (.bipush 43, 2) := by decide +kernel
theorem dX8_renderVault_56 : decode cX8_renderVault 56 = .ok (.invokevirtual 276, 3) := by decide +kernel
theorem dX8_renderVault_59 : decode cX8_renderVault 59 = .ok (.aload_n 2, 1) := by decide +kernel
theorem dX8_renderVault_60 : decode cX8_renderVault 60 = .ok (.getfield 150, 3) := by decide +kernel
theorem dX8_renderVault_63 : decode cX8_renderVault 63 = .ok (.invokevirtual 280, 3) := by decide +kernel
theorem dX8_renderVault_66 : decode cX8_renderVault 66 = .ok (.pop, 1) := by decide +kernel
theorem dX8_renderVault_67 : decode cX8_renderVault 67 = .ok (.aload_n 0, 1) := by decide +kernel
theorem dX8_renderVault_68 : decode cX8_renderVault 68 = .ok (.getfield 39, 3) := by decide +kernel
theorem dX8_renderVault_71 : decode cX8_renderVault 71 = .ok (.bipush 126, 2) := by decide +kernel
theorem dX8_renderVault_73 : decode cX8_renderVault 73 = .ok (.invokevirtual 276, 3) := by decide +kernel
theorem dX8_renderVault_76 : decode cX8_renderVault 76 = .ok (.aload_n 2, 1) := by decide +kernel
theorem dX8_renderVault_77 : decode cX8_renderVault 77 = .ok (.getfield 153, 3) := by decide +kernel
theorem dX8_renderVault_80 : decode cX8_renderVault 80 = .ok (.invokevirtual 280, 3) := by decide +kernel
theorem dX8_renderVault_83 : decode cX8_renderVault 83 = .ok (.pop, 1) := by decide +kernel
theorem dX8_renderVault_84 : decode cX8_renderVault 84 = .ok (.aload_n 0, 1) := by decide +kernel
theorem dX8_renderVault_85 : decode cX8_renderVault 85 = .ok (.getfield 39, 3) := by decide +kernel
theorem dX8_renderVault_88 : decode cX8_renderVault 88 = .ok (.bipush 119, 2) := by decide +kernel
theorem dX8_renderVault_90 : decode cX8_renderVault 90 = .ok (.invokevirtual 276, 3) := by decide +kernel
theorem dX8_renderVault_93 : decode cX8_renderVault 93 = .ok (.aload_n 2, 1) := by decide +kernel
theorem dX8_renderVault_94 : decode cX8_renderVault 94 = .ok (.getfield 156, 3) := by decide +kernel
theorem dX8_renderVault_97 : decode cX8_renderVault 97 = .ok (.invokevirtual 280, 3) := by decide +kernel
