theorem dX12_init_0 : decode cX12_init 0 = .ok (.aload_n 0, 1) := by decide +kernel
theorem dX12_init_1 : decode cX12_init 1 = .ok (.invokespecial 1, 3) := by decide +kernel
theorem dX12_init_4 : decode cX12_init 4 = .ok (.aload_n 0, 1) := by decide +kernel
theorem dX12_init_5 : decode cX12_init 5 = .ok (.new 7, 3) := by decide +kernel
theorem dX12_init_8 : decode cX12_init 8 = .ok (.dup, 1) := by decide +kernel
theorem dX12_init_9 : decode cX12_init 9 = .ok (.invokespecial 9, 3) := by decide +kernel
theorem dX12_init_12 : decode cX12_init 12 = .ok (.putfield 10, 3) := by decide +kernel
theorem dX12_init_15 : decode cX12_init 15 = .ok (.aload_n 0, 1) := by decide +kernel
theorem dX12_init_16 : decode cX12_init 16 = .ok (.new 7, 3) := by decide +kernel
theorem dX12_init_19 : decode cX12_init 19 = .ok (.dup, 1) := by decide +kernel
theorem dX12_init_20 : decode cX12_init 20 = .ok (.invokespecial 9, 3) := by decide +kernel
theorem dX12_init_23 : decode cX12_init 23 = .ok (.putfield 16, 3) := by decide +kernel
theorem dX12_init_26 : decode cX12_init 26 = .ok (.aload_n 0, 1) := by decide +kernel
theorem dX12_init_27 : decode cX12_init 27 = .ok (.new 7, 3) := by decide +kernel
theorem dX12_init_30 : decode cX12_init 30 = .ok (.dup, 1) := by decide +kernel
theorem dX12_init_31 : decode cX12_init 31 = .ok (.invokespecial 9, 3) := by decide +kernel
theorem dX12_init_34 : decode cX12_init 34 = .ok (.putfield 19, 3) := by decide +kernel
theorem dX12_init_37 : decode cX12_init 37 = .ok (.aload_n 0, 1) := by decide +kernel
theorem dX12_init_38 : decode cX12_init 38 = .ok (.new 22, 3) := by decide +kernel
theorem dX12_init_41 : decode cX12_init 41 = .ok (.dup, 1) := by decide +kernel
theorem dX12_init_42 : decode cX12_init 42 = .ok (.invokespecial 24, 3) := by decide +kernel
theorem dX12_init_45 : decode cX12_init 45 = .ok (.putfield 25, 3) := by decide +kernel
theorem dX12_init_48 : decode cX12_init 48 = .ok (.aload_n 0, 1) := by decide +kernel
theorem dX12_init_49 : decode cX12_init 49 = .ok (.new 29, 3) := by decide +kernel
theorem dX12_init_52 : decode cX12_init 52 = .ok (.dup, 1) := by decide +kernel
theorem dX12_init_53 : decode cX12_init 53 = .ok (.invokespecial 31, 3) := by decide +kernel
theorem dX12_init_56 : decode cX12_init 56 = .ok (.putfield 32, 3) := by decide +kernel
theorem dX12_init_59 : decode cX12_init 59 = .ok (.aload_n 0, 1) := by decide +kernel
theorem dX12_init_60 : decode cX12_init 60 = .ok (.new 36, 3) := by decide +kernel
theorem dX12_init_63 : decode cX12_init 63 = .ok (.dup, 1) := by decide +kernel
theorem dX12_init_64 : decode cX12_init 64 = .ok (.invokespecial 38, 3) := by decide +kernel
theorem dX12_init_67 : decode cX12_init 67 = .ok (.putfield 39, 3) := by decide +kernel
theorem dX12_init_70 : decode cX12_init 70 = .ok (.aload_n 0, 1) := by decide +kernel
theorem dX12_init_71 : decode cX12_init 71 = .ok (.new 43, 3) := by decide +kernel
theorem dX12_init_74 : decode cX12_init 74 = .ok (.dup, 1) := by decide +kernel
theorem dX12_init_75 : decode cX12_init 75 = .ok (.invokespecial 45, 3) := by decide +kernel
theorem dX12_init_78 : decode cX12_init 78 = .ok (.putfield 46, 3) := by decide +kernel
theorem dX12_init_81 : decode cX12_init 81 = .ok (.aload_n 0, 1) := by decide +kernel
theorem dX12_init_82 : decode cX12_init 82 = .ok (.new 50, 3) := by decide +kernel
theorem dX12_init_85 : decode cX12_init 85 = .ok (.dup, 1) := by decide +kernel
theorem dX12_init_86 : decode cX12_init 86 = .ok (.invokespecial 52, 3) := by decide +kernel
theorem dX12_init_89 : decode cX12_init 89 = .ok (.putfield 53, 3) := by decide +kernel
theorem dX12_init_92 : decode cX12_init 92 = .ok (.aload_n 0, 1) := by decide +kernel
theorem dX12_init_93 : decode cX12_init 93 = .ok (.new 57, 3) := by decide +kernel
theorem dX12_init_96 : decode cX12_init 96 = .ok (.dup, 1) := by decide +kernel
theorem dX12_init_97 : decode cX12_init 97 = .ok (.invokespecial 59, 3) := by decide +kernel
theorem dX12_init_100 : decode cX12_init 100 = .ok (.putfield 60, 3) := by decide +kernel
theorem dX12_init_103 : decode cX12_init 103 = .ok (.aload_n 0, 1) := by decide +kernel
theorem dX12_init_104 : decode cX12_init 104 = .ok (.new 64, 3) := by decide +kernel
theorem dX12_init_107 : decode cX12_init 107 = .ok (.dup, 1) := by decide +kernel
theorem dX12_init_108 : decode cX12_init 108 = .ok (.invokespecial 66, 3) := by decide +kernel
theorem dX12_init_111 : decode cX12_init 111 = .ok (.putfield 67, 3) := by decide +kernel
theorem dX12_init_114 : decode cX12_init 114 = .ok (.aload_n 0, 1) := by decide +kernel
theorem dX12_init_115 : decode cX12_init 115 = .ok (.new 71, 3) := by decide +kernel
theorem dX12_init_118 : decode cX12_init 118 = .ok (.dup, 1) := by decide +kernel
theorem dX12_init_119 : decode cX12_init 119 = .ok (.invokespecial 73, 3) := by decide +kernel
theorem dX12_init_122 : decode cX12_init 122 = .ok (.putfield 74, 3) := by decide +kernel
theorem dX12_init_125 : decode cX12_init 125 = .ok (.aload_n 0, 1) := by decide +kernel
theorem dX12_init_126 : decode cX12_init 126 = .ok (.new 78, 3) := by decide +kernel
theorem dX12_init_129 : decode cX12_init 129 = .ok (.dup, 1) := by decide +kernel
theorem dX12_init_130 : decode cX12_init 130 = .ok (.invokespecial 80, 3) := by decide +kernel
theorem dX12_init_133 : decode cX12_init 133 = .ok (.putfield 81, 3) := by decide +kernel
theorem dX12_init_136 : decode cX12_init 136 = .ok (.aload_n 0, 1) := by decide +kernel
theorem dX12_init_137 : decode cX12_init 137 = .ok (.iconst (-1), 1) := by decide +kernel
theorem dX12_init_138 : decode cX12_init 138 = .ok (.putfield 85, 3) := by decide +kernel
theorem dX12_init_141 : decode cX12_init 141 = .ok (.aload_n 0, 1) := by decide +kernel
theorem dX12_init_142 : decode cX12_init 142 = .ok (.iconst (-1), 1) := by decide +kernel
theorem dX12_init_143 : decode cX12_init 143 = .ok (.putfield 89, 3) := by decide +kernel
theorem dX12_init_146 : decode cX12_init 146 = .ok (.return_, 1) := by decide +kernel
theorem dX12_setHardness_0 : decode cX12_setHardness 0 = .ok (.aload_n 0, 1) := by decide +kernel
theorem dX12_setHardness_1 : decode cX12_setHardness 1 = .ok (.getfield 10, 3) := by decide +kernel
theorem dX12_setHardness_4 : decode cX12_setHardness 4 = .ok (.iload_n 1, 1) := by decide +kernel
theorem dX12_setHardness_5 : decode cX12_setHardness 5 = .ok (.iload_n 2, 1) := by decide +kernel
theorem dX12_setHardness_6 : decode cX12_setHardness 6 = .ok (.iload_n 3, 1) := by decide +kernel
theorem dX12_setHardness_7 : decode cX12_setHardness 7 = .ok (.invokevirtual 92, 3) := by decide +kernel
theorem dX12_setHardness_10 : decode cX12_setHardness 10 = .ok (.istore 4, 2) := by decide +kernel
theorem dX12_setHardness_12 : decode cX12_setHardness 12 = .ok (.iload 4, 2) := by decide +kernel
theorem dX12_setHardness_14 : decode cX12_setHardness 14 = .ok (.iconst 1, 1) := by decide +kernel
theorem dX12_setHardness_15 : decode cX12_setHardness 15 = .ok (.if_icmp .ne 13, 3) := by decide +kernel
theorem dX12_setHardness_18 : decode cX12_setHardness 18 = .ok (.new 96, 3) := by decide +kernel
theorem dX12_setHardness_21 : decode cX12_setHardness 21 = .ok (.dup, 1) := by decide +kernel
theorem dX12_setHardness_22 : decode cX12_setHardness 22 = .ok (.ldc 98, 2) := by decide +kernel
theorem dX12_setHardness_24 : decode cX12_setHardness 24 = .ok (.invokespecial 100, 3) := by decide +kernel
theorem dX12_setHardness_27 : decode cX12_setHardness 27 = .ok (.athrow, 1) := by decide +kernel
theorem dX12_setHardness_28 : decode cX12_setHardness 28 = .ok (.iload 4, 2) := by decide +kernel
theorem dX12_setHardness_30 : decode cX12_setHardness 30 = .ok (.iconst 2, 1) := by decide +kernel
theorem dX12_setHardness_31 : decode cX12_setHardness 31 = .ok (.if_icmp .ne 13, 3) := by decide +kernel
theorem dX12_setHardness_34 : decode cX12_setHardness 34 = .ok (.new 103, 3) := by decide +kernel
theorem dX12_setHardness_37 : decode cX12_setHardness 37 = .ok (.dup, 1) := by decide +kernel
theorem dX12_setHardness_38 : decode cX12_setHardness 38 = .ok (.ldc 105, 2) := by decide +kernel
theorem dX12_setHardness_40 : decode cX12_setHardness 40 = .ok (.invokespecial 107, 3) := by decide +kernel
theorem dX12_setHardness_43 : decode cX12_setHardness 43 = .ok (.athrow, 1) := by decide +kernel
theorem dX12_setHardness_44 : decode cX12_setHardness 44 = .ok (.aload_n 0, 1) := by decide +kernel
theorem dX12_setHardness_45 : decode cX12_setHardness 45 = .ok (.getfield 25, 3) := by decide +kernel
theorem dX12_setHardness_48 : decode cX12_setHardness 48 = .ok (.aload_n 0, 1) := by decide +kernel
theorem dX12_setHardness_49 : decode cX12_setHardness 49 = .ok (.getfield 10, 3) := by decide +kernel
theorem dX12_setHardness_52 : decode cX12_setHardness 52 = .ok (.invokevirtual 108, 3) := by decide +kernel
theorem dX12_setHardness_55 : decode cX12_setHardness 55 = .ok (.aload_n 0, 1) := by decide +kernel
theorem dX12_setHardness_56 : decode cX12_setHardness 56 = .ok (.getfield 10, 3) := by decide +kernel
theorem dX12_setHardness_59 : decode cX12_setHardness 59 = .ok (.iload_n 1, 1) := by decide +kernel
theorem dX12_setHardness_60 : decode cX12_setHardness 60 = .ok (.iload_n 2, 1) := by decide +kernel
theorem dX12_setHardness_61 : decode cX12_setHardness 61 = .ok (.invokestatic 112, 3) := by decide +kernel
theorem dX12_setHardness_64 : decode cX12_setHardness 64 = .ok (.iload_n 3, 1) := by decide +kernel
theorem dX12_setHardness_65 : decode cX12_setHardness 65 = .ok (.invokevirtual 116, 3) := by decide +kernel
theorem dX12_setHardness_68 : decode cX12_setHardness 68 = .ok (.ireturn, 1) := by decide +kernel
theorem dX12_dig_0 : decode cX12_dig 0 = .ok (.aload_n 0, 1) := by decide +kernel
theorem dX12_dig_1 : decode cX12_dig 1 = .ok (.getfield 10, 3) := by decide +kernel
theorem dX12_dig_4 : decode cX12_dig 4 = .ok (.iload_n 1, 1) := by decide +kernel
theorem dX12_dig_5 : decode cX12_dig 5 = .ok (.iload_n 2, 1) := by decide +kernel
theorem dX12_dig_6 : decode cX12_dig 6 = .ok (.invokevirtual 119, 3) := by decide +kernel
theorem dX12_dig_9 : decode cX12_dig 9 = .ok (.istore_n 3, 1) := by decide +kernel
theorem dX12_dig_10 : decode cX12_dig 10 = .ok (.iload_n 3, 1) := by decide +kernel
theorem dX12_dig_11 : decode cX12_dig 11 = .ok (.iconst 1, 1) := by decide +kernel
theorem dX12_dig_12 : decode cX12_dig 12 = .ok (.if_icmp .ne 13, 3) := by decide +kernel
theorem dX12_dig_15 : decode cX12_dig 15 = .ok (.new 96, 3) := by decide +kernel
theorem dX12_dig_18 : decode cX12_dig 18 = .ok (.dup, 1) := by decide +kernel
theorem dX12_dig_19 : decode cX12_dig 19 = .ok (.ldc 122, 2) := by decide +kernel
theorem dX12_dig_21 : decode cX12_dig 21 = .ok (.invokespecial 100, 3) := by decide +kernel
theorem dX12_dig_24 : decode cX12_dig 24 = .ok (.athrow, 1) := by decide +kernel
theorem dX12_dig_25 : decode cX12_dig 25 = .ok (.iload_n 3, 1) := by decide +kernel
theorem dX12_dig_26 : decode cX12_dig 26 = .ok (.iconst 2, 1) := by decide +kernel
theorem dX12_dig_27 : decode cX12_dig 27 = .ok (.if_icmp .ne 13, 3) := by decide +kernel
theorem dX12_dig_30 : decode cX12_dig 30 = .ok (.new 103, 3) := by decide +kernel
theorem dX12_dig_33 : decode cX12_dig 33 = .ok (.dup, 1) := by decide +kernel
theorem dX12_dig_34 : decode cX12_dig 34 = .ok (.ldc 124, 2) := by decide +kernel
theorem dX12_dig_36 : decode cX12_dig 36 = .ok (.invokespecial 107, 3) := by decide +kernel
theorem dX12_dig_39 : decode cX12_dig 39 = .ok (.athrow, 1) := by decide +kernel
theorem dX12_dig_40 : decode cX12_dig 40 = .ok (.iload_n 3, 1) := by decide +kernel
theorem dX12_dig_41 : decode cX12_dig 41 = .ok (.iconst 3, 1) := by decide +kernel
theorem dX12_dig_42 : decode cX12_dig 42 = .ok (.if_icmp .ne 13, 3) := by decide +kernel
theorem dX12_dig_45 : decode cX12_dig 45 = .ok (.new 126, 3) := by decide +kernel
theorem dX12_dig_48 : decode cX12_dig 48 = .ok (.dup, 1) := by decide +kernel
theorem dX12_dig_49 : decode cX12_dig 49 = .ok (.ldc 128, 2) := by decide +kernel
theorem dX12_dig_51 : decode cX12_dig 51 = .ok (.invokespecial 130, 3) := by decide +kernel
theorem dX12_dig_54 : decode cX12_dig 54 = .ok (.athrow, 1) := by decide +kernel
theorem dX12_dig_55 : decode cX12_dig 55 = .ok (.aload_n 0, 1) := by decide +kernel
theorem dX12_dig_56 : decode cX12_dig 56 = .ok (.getfield 25, 3) := by decide +kernel
theorem dX12_dig_59 : decode cX12_dig 59 = .ok (.aload_n 0, 1) := by decide +kernel
theorem dX12_dig_60 : decode cX12_dig 60 = .ok (.getfield 10, 3) := by decide +kernel
theorem dX12_dig_63 : decode cX12_dig 63 = .ok (.invokevirtual 108, 3) := by decide +kernel
theorem dX12_dig_66 : decode cX12_dig 66 = .ok (.aload_n 0, 1) := by decide +kernel
theorem dX12_dig_67 : decode cX12_dig 67 = .ok (.getfield 10, 3) := by decide +kernel
theorem dX12_dig_70 : decode cX12_dig 70 = .ok (.iload_n 1, 1) := by decide +kernel
theorem dX12_dig_71 : decode cX12_dig 71 = .ok (.iload_n 2, 1) := by decide +kernel
theorem dX12_dig_72 : decode cX12_dig 72 = .ok (.invokestatic 112, 3) := by decide +kernel
theorem dX12_dig_75 : decode cX12_dig 75 = .ok (.invokevirtual 131, 3) := by decide +kernel
theorem dX12_dig_78 : decode cX12_dig 78 = .ok (.lreturn, 1) := by decide +kernel
theorem dX12_hardnessOf_0 : decode cX12_hardnessOf 0 = .ok (.iload_n 1, 1) := by decide +kernel
theorem dX12_hardnessOf_1 : decode cX12_hardnessOf 1 = .ok (.iload_n 2, 1) := by decide +kernel
theorem dX12_hardnessOf_2 : decode cX12_hardnessOf 2 = .ok (.invokestatic 112, 3) := by decide +kernel
theorem dX12_hardnessOf_5 : decode cX12_hardnessOf 5 = .ok (.istore_n 3, 1) := by decide +kernel
theorem dX12_hardnessOf_6 : decode cX12_hardnessOf 6 = .ok (.iload_n 3, 1) := by decide +kernel
theorem dX12_hardnessOf_7 : decode cX12_hardnessOf 7 = .ok (.iconst (-1), 1) := by decide +kernel
theorem dX12_hardnessOf_8 : decode cX12_hardnessOf 8 = .ok (.if_icmp .ne 13, 3) := by decide +kernel
theorem dX12_hardnessOf_11 : decode cX12_hardnessOf 11 = .ok (.new 96, 3) := by decide +kernel
theorem dX12_hardnessOf_14 : decode cX12_hardnessOf 14 = .ok (.dup, 1) := by decide +kernel
theorem dX12_hardnessOf_15 : decode cX12_hardnessOf 15 = .ok (.ldc 122, 2) := by decide +kernel
theorem dX12_hardnessOf_17 : decode cX12_hardnessOf 17 = .ok (.invokespecial 100, 3) := by decide +kernel
theorem dX12_hardnessOf_20 : decode cX12_hardnessOf 20 = .ok (.athrow, 1) := by decide +kernel
theorem dX12_hardnessOf_21 : decode cX12_hardnessOf 21 = .ok (.aload_n 0, 1) := by decide +kernel
theorem dX12_hardnessOf_22 : decode cX12_hardnessOf 22 = .ok (.getfield 10, 3) := by decide +kernel
theorem dX12_hardnessOf_25 : decode cX12_hardnessOf 25 = .ok (.iload_n 3, 1) := by decide +kernel
theorem dX12_hardnessOf_26 : decode cX12_hardnessOf 26 = .ok (.invokevirtual 135, 3) := by decide +kernel
theorem dX12_hardnessOf_29 : decode cX12_hardnessOf 29 = .ok (.ifCond .eq 13, 3) := by decide +kernel
theorem dX12_hardnessOf_32 : decode cX12_hardnessOf 32 = .ok (.new 103, 3) := by decide +kernel
theorem dX12_hardnessOf_35 : decode cX12_hardnessOf 35 = .ok (.dup, 1) := by decide +kernel
theorem dX12_hardnessOf_36 : decode cX12_hardnessOf 36 = .ok (.ldc 105, 2) := by decide +kernel
theorem dX12_hardnessOf_38 : decode cX12_hardnessOf 38 = .ok (.invokespecial 107, 3) := by decide +kernel
theorem dX12_hardnessOf_41 : decode cX12_hardnessOf 41 = .ok (.athrow, 1) := by decide +kernel
theorem dX12_hardnessOf_42 : decode cX12_hardnessOf 42 = .ok (.aload_n 0, 1) := by decide +kernel
theorem dX12_hardnessOf_43 : decode cX12_hardnessOf 43 = .ok (.getfield 10, 3) := by decide +kernel
theorem dX12_hardnessOf_46 : decode cX12_hardnessOf 46 = .ok (.iload_n 3, 1) := by decide +kernel
theorem dX12_hardnessOf_47 : decode cX12_hardnessOf 47 = .ok (.invokevirtual 139, 3) := by decide +kernel
theorem dX12_hardnessOf_50 : decode cX12_hardnessOf 50 = .ok (.ireturn, 1) := by decide +kernel
theorem dX12_isOpen_0 : decode cX12_isOpen 0 = .ok (.iload_n 1, 1) := by decide +kernel
theorem dX12_isOpen_1 : decode cX12_isOpen 1 = .ok (.iload_n 2, 1) := by decide +kernel
theorem dX12_isOpen_2 : decode cX12_isOpen 2 = .ok (.invokestatic 112, 3) := by decide +kernel
theorem dX12_isOpen_5 : decode cX12_isOpen 5 = .ok (.istore_n 3, 1) := by decide +kernel
theorem dX12_isOpen_6 : decode cX12_isOpen 6 = .ok (.iload_n 3, 1) := by decide +kernel
theorem dX12_isOpen_7 : decode cX12_isOpen 7 = .ok (.iconst (-1), 1) := by decide +kernel
theorem dX12_isOpen_8 : decode cX12_isOpen 8 = .ok (.if_icmp .ne 13, 3) := by decide +kernel
theorem dX12_isOpen_11 : decode cX12_isOpen 11 = .ok (.new 96, 3) := by decide +kernel
theorem dX12_isOpen_14 : decode cX12_isOpen 14 = .ok (.dup, 1) := by decide +kernel
theorem dX12_isOpen_15 : decode cX12_isOpen 15 = .ok (.ldc 122, 2) := by decide +kernel
theorem dX12_isOpen_17 : decode cX12_isOpen 17 = .ok (.invokespecial 100, 3) := by decide +kernel
theorem dX12_isOpen_20 : decode cX12_isOpen 20 = .ok (.athrow, 1) := by decide +kernel
theorem dX12_isOpen_21 : decode cX12_isOpen 21 = .ok (.aload_n 0, 1) := by decide +kernel
theorem dX12_isOpen_22 : decode cX12_isOpen 22 = .ok (.getfield 10, 3) := by decide +kernel
theorem dX12_isOpen_25 : decode cX12_isOpen 25 = .ok (.iload_n 3, 1) := by decide +kernel
theorem dX12_isOpen_26 : decode cX12_isOpen 26 = .ok (.invokevirtual 135, 3) := by decide +kernel
theorem dX12_isOpen_29 : decode cX12_isOpen 29 = .ok (.ireturn, 1) := by decide +kernel
theorem dX12_openCount_0 : decode cX12_openCount 0 = .ok (.aload_n 0, 1) := by decide +kernel
theorem dX12_openCount_1 : decode cX12_openCount 1 = .ok (.getfield 10, 3) := by decide +kernel
theorem dX12_openCount_4 : decode cX12_openCount 4 = .ok (.invokevirtual 143, 3) := by decide +kernel
theorem dX12_openCount_7 : decode cX12_openCount 7 = .ok (.ireturn, 1) := by decide +kernel
theorem dX12_veinCount_0 : decode cX12_veinCount 0 = .ok (.iload_n 1, 1) := by decide +kernel
theorem dX12_veinCount_1 : decode cX12_veinCount 1 = .ok (.iconst 1, 1) := by decide +kernel
theorem dX12_veinCount_2 : decode cX12_veinCount 2 = .ok (.bipush 9, 2) := by decide +kernel
theorem dX12_veinCount_4 : decode cX12_veinCount 4 = .ok (.invokestatic 147, 3) := by decide +kernel
theorem dX12_veinCount_7 : decode cX12_veinCount 7 = .ok (.ifCond .ne 13, 3) := by decide +kernel
theorem dX12_veinCount_10 : decode cX12_veinCount 10 = .ok (.new 96, 3) := by decide +kernel
theorem dX12_veinCount_13 : decode cX12_veinCount 13 = .ok (.dup, 1) := by decide +kernel
theorem dX12_veinCount_14 : decode cX12_veinCount 14 = .ok (.ldc 151, 2) := by decide +kernel
theorem dX12_veinCount_16 : decode cX12_veinCount 16 = .ok (.invokespecial 100, 3) := by decide +kernel
theorem dX12_veinCount_19 : decode cX12_veinCount 19 = .ok (.athrow, 1) := by decide +kernel
theorem dX12_veinCount_20 : decode cX12_veinCount 20 = .ok (.aload_n 0, 1) := by decide +kernel
theorem dX12_veinCount_21 : decode cX12_veinCount 21 = .ok (.getfield 32, 3) := by decide +kernel
theorem dX12_veinCount_24 : decode cX12_veinCount 24 = .ok (.aload_n 0, 1) := by decide +kernel
theorem dX12_veinCount_25 : decode cX12_veinCount 25 = .ok (.getfield 10, 3) := by decide +kernel
theorem dX12_veinCount_28 : decode cX12_veinCount 28 = .ok (.iload_n 1, 1) := by decide +kernel
theorem dX12_veinCount_29 : decode cX12_veinCount 29 = .ok (.invokevirtual 153, 3) := by decide +kernel
theorem dX12_veinCount_32 : decode cX12_veinCount 32 = .ok (.ireturn, 1) := by decide +kernel
theorem dX12_veinSize_0 : decode cX12_veinSize 0 = .ok (.iload_n 1, 1) := by decide +kernel
theorem dX12_veinSize_1 : decode cX12_veinSize 1 = .ok (.iload_n 2, 1) := by decide +kernel
theorem dX12_veinSize_2 : decode cX12_veinSize 2 = .ok (.invokestatic 112, 3) := by decide +kernel
theorem dX12_veinSize_5 : decode cX12_veinSize 5 = .ok (.istore_n 3, 1) := by decide +kernel
theorem dX12_veinSize_6 : decode cX12_veinSize 6 = .ok (.iload_n 3, 1) := by decide +kernel
theorem dX12_veinSize_7 : decode cX12_veinSize 7 = .ok (.iconst (-1), 1) := by decide +kernel
theorem dX12_veinSize_8 : decode cX12_veinSize 8 = .ok (.if_icmp .ne 13, 3) := by decide +kernel
theorem dX12_veinSize_11 : decode cX12_veinSize 11 = .ok (.new 96, 3) := by decide +kernel
theorem dX12_veinSize_14 : decode cX12_veinSize 14 = .ok (.dup, 1) := by decide +kernel
theorem dX12_veinSize_15 : decode cX12_veinSize 15 = .ok (.ldc 122, 2) := by decide +kernel
theorem dX12_veinSize_17 : decode cX12_veinSize 17 = .ok (.invokespecial 100, 3) := by decide +kernel
theorem dX12_veinSize_20 : decode cX12_veinSize 20 = .ok (.athrow, 1) := by decide +kernel
theorem dX12_veinSize_21 : decode cX12_veinSize 21 = .ok (.aload_n 0, 1) := by decide +kernel
theorem dX12_veinSize_22 : decode cX12_veinSize 22 = .ok (.getfield 10, 3) := by decide +kernel
theorem dX12_veinSize_25 : decode cX12_veinSize 25 = .ok (.iload_n 3, 1) := by decide +kernel
theorem dX12_veinSize_26 : decode cX12_veinSize 26 = .ok (.invokevirtual 135, 3) := by decide +kernel
theorem dX12_veinSize_29 : decode cX12_veinSize 29 = .ok (.ifCond .eq 13, 3) := by decide +kernel
theorem dX12_veinSize_32 : decode cX12_veinSize 32 = .ok (.new 103, 3) := by decide +kernel
theorem dX12_veinSize_35 : decode cX12_veinSize 35 = .ok (.dup, 1) := by decide +kernel
theorem dX12_veinSize_36 : decode cX12_veinSize 36 = .ok (.ldc 105, 2) := by decide +kernel
theorem dX12_veinSize_38 : decode cX12_veinSize 38 = .ok (.invokespecial 107, 3) := by decide +kernel
theorem dX12_veinSize_41 : decode cX12_veinSize 41 = .ok (.athrow, 1) := by decide +kernel
theorem dX12_veinSize_42 : decode cX12_veinSize 42 = .ok (.aload_n 0, 1) := by decide +kernel
theorem dX12_veinSize_43 : decode cX12_veinSize 43 = .ok (.getfield 32, 3) := by decide +kernel
theorem dX12_veinSize_46 : decode cX12_veinSize 46 = .ok (.aload_n 0, 1) := by decide +kernel
theorem dX12_veinSize_47 : decode cX12_veinSize 47 = .ok (.getfield 10, 3) := by decide +kernel
theorem dX12_veinSize_50 : decode cX12_veinSize 50 = .ok (.iload_n 3, 1) := by decide +kernel
theorem dX12_veinSize_51 : decode cX12_veinSize 51 = .ok (.invokevirtual 157, 3) := by decide +kernel
theorem dX12_veinSize_54 : decode cX12_veinSize 54 = .ok (.ireturn, 1) := by decide +kernel
theorem dX12_addCharge_0 : decode cX12_addCharge 0 = .ok (.aload_n 0, 1) := by decide +kernel
theorem dX12_addCharge_1 : decode cX12_addCharge 1 = .ok (.getfield 10, 3) := by decide +kernel
theorem dX12_addCharge_4 : decode cX12_addCharge 4 = .ok (.iload_n 1, 1) := by decide +kernel
theorem dX12_addCharge_5 : decode cX12_addCharge 5 = .ok (.iload_n 2, 1) := by decide +kernel
theorem dX12_addCharge_6 : decode cX12_addCharge 6 = .ok (.iload_n 3, 1) := by decide +kernel
theorem dX12_addCharge_7 : decode cX12_addCharge 7 = .ok (.invokevirtual 160, 3) := by decide +kernel
theorem dX12_addCharge_10 : decode cX12_addCharge 10 = .ok (.istore 4, 2) := by decide +kernel
theorem dX12_addCharge_12 : decode cX12_addCharge 12 = .ok (.iload 4, 2) := by decide +kernel
theorem dX12_addCharge_14 : decode cX12_addCharge 14 = .ok (.iconst 1, 1) := by decide +kernel
theorem dX12_addCharge_15 : decode cX12_addCharge 15 = .ok (.if_icmp .ne 13, 3) := by decide +kernel
theorem dX12_addCharge_18 : decode cX12_addCharge 18 = .ok (.new 96, 3) := by decide +kernel
theorem dX12_addCharge_21 : decode cX12_addCharge 21 = .ok (.dup, 1) := by decide +kernel
theorem dX12_addCharge_22 : decode cX12_addCharge 22 = .ok (.ldc 163, 2) := by decide +kernel
theorem dX12_addCharge_24 : decode cX12_addCharge 24 = .ok (.invokespecial 100, 3) := by decide +kernel
theorem dX12_addCharge_27 : decode cX12_addCharge 27 = .ok (.athrow, 1) := by decide +kernel
theorem dX12_addCharge_28 : decode cX12_addCharge 28 = .ok (.iload 4, 2) := by decide +kernel
theorem dX12_addCharge_30 : decode cX12_addCharge 30 = .ok (.iconst 2, 1) := by decide +kernel
theorem dX12_addCharge_31 : decode cX12_addCharge 31 = .ok (.if_icmp .ne 13, 3) := by decide +kernel
theorem dX12_addCharge_34 : decode cX12_addCharge 34 = .ok (.new 103, 3) := by decide +kernel
theorem dX12_addCharge_37 : decode cX12_addCharge 37 = .ok (.dup, 1) := by decide +kernel
theorem dX12_addCharge_38 : decode cX12_addCharge 38 = .ok (.ldc 165, 2) := by decide +kernel
theorem dX12_addCharge_40 : decode cX12_addCharge 40 = .ok (.invokespecial 107, 3) := by decide +kernel
theorem dX12_addCharge_43 : decode cX12_addCharge 43 = .ok (.athrow, 1) := by decide +kernel
theorem dX12_addCharge_44 : decode cX12_addCharge 44 = .ok (.aload_n 0, 1) := by decide +kernel
theorem dX12_addCharge_45 : decode cX12_addCharge 45 = .ok (.getfield 25, 3) := by decide +kernel
theorem dX12_addCharge_48 : decode cX12_addCharge 48 = .ok (.aload_n 0, 1) := by decide +kernel
theorem dX12_addCharge_49 : decode cX12_addCharge 49 = .ok (.getfield 10, 3) := by decide +kernel
theorem dX12_addCharge_52 : decode cX12_addCharge 52 = .ok (.invokevirtual 108, 3) := by decide +kernel
theorem dX12_addCharge_55 : decode cX12_addCharge 55 = .ok (.aload_n 0, 1) := by decide +kernel
theorem dX12_addCharge_56 : decode cX12_addCharge 56 = .ok (.getfield 10, 3) := by decide +kernel
theorem dX12_addCharge_59 : decode cX12_addCharge 59 = .ok (.iload_n 1, 1) := by decide +kernel
theorem dX12_addCharge_60 : decode cX12_addCharge 60 = .ok (.iload_n 2, 1) := by decide +kernel
theorem dX12_addCharge_61 : decode cX12_addCharge 61 = .ok (.invokestatic 112, 3) := by decide +kernel
theorem dX12_addCharge_64 : decode cX12_addCharge 64 = .ok (.iload_n 3, 1) := by decide +kernel
theorem dX12_addCharge_65 : decode cX12_addCharge 65 = .ok (.invokevirtual 167, 3) := by decide +kernel
theorem dX12_addCharge_68 : decode cX12_addCharge 68 = .ok (.ireturn, 1) := by decide +kernel
theorem dX12_removeCharge_0 : decode cX12_removeCharge 0 = .ok (.aload_n 0, 1) := by decide +kernel
theorem dX12_removeCharge_1 : decode cX12_removeCharge 1 = .ok (.getfield 10, 3) := by decide +kernel
theorem dX12_removeCharge_4 : decode cX12_removeCharge 4 = .ok (.iload_n 1, 1) := by decide +kernel
theorem dX12_removeCharge_5 : decode cX12_removeCharge 5 = .ok (.invokevirtual 170, 3) := by decide +kernel
theorem dX12_removeCharge_8 : decode cX12_removeCharge 8 = .ok (.ifCond .ne 13, 3) := by decide +kernel
theorem dX12_removeCharge_11 : decode cX12_removeCharge 11 = .ok (.new 173, 3) := by decide +kernel
theorem dX12_removeCharge_14 : decode cX12_removeCharge 14 = .ok (.dup, 1) := by decide +kernel
theorem dX12_removeCharge_15 : decode cX12_removeCharge 15 = .ok (.ldc 175, 2) := by decide +kernel
theorem dX12_removeCharge_17 : decode cX12_removeCharge 17 = .ok (.invokespecial 177, 3) := by decide +kernel
theorem dX12_removeCharge_20 : decode cX12_removeCharge 20 = .ok (.athrow, 1) := by decide +kernel
theorem dX12_removeCharge_21 : decode cX12_removeCharge 21 = .ok (.aload_n 0, 1) := by decide +kernel
theorem dX12_removeCharge_22 : decode cX12_removeCharge 22 = .ok (.getfield 25, 3) := by decide +kernel
theorem dX12_removeCharge_25 : decode cX12_removeCharge 25 = .ok (.aload_n 0, 1) := by decide +kernel
theorem dX12_removeCharge_26 : decode cX12_removeCharge 26 = .ok (.getfield 10, 3) := by decide +kernel
theorem dX12_removeCharge_29 : decode cX12_removeCharge 29 = .ok (.invokevirtual 108, 3) := by decide +kernel
theorem dX12_removeCharge_32 : decode cX12_removeCharge 32 = .ok (.aload_n 0, 1) := by decide +kernel
theorem dX12_removeCharge_33 : decode cX12_removeCharge 33 = .ok (.getfield 10, 3) := by decide +kernel
theorem dX12_removeCharge_36 : decode cX12_removeCharge 36 = .ok (.iload_n 1, 1) := by decide +kernel
theorem dX12_removeCharge_37 : decode cX12_removeCharge 37 = .ok (.invokevirtual 178, 3) := by decide +kernel
theorem dX12_removeCharge_40 : decode cX12_removeCharge 40 = .ok (.ireturn, 1) := by decide +kernel
theorem dX12_ignite_0 : decode cX12_ignite 0 = .ok (.aload_n 0, 1) := by decide +kernel
theorem dX12_ignite_1 : decode cX12_ignite 1 = .ok (.getfield 10, 3) := by decide +kernel
theorem dX12_ignite_4 : decode cX12_ignite 4 = .ok (.iload_n 1, 1) := by decide +kernel
theorem dX12_ignite_5 : decode cX12_ignite 5 = .ok (.invokevirtual 170, 3) := by decide +kernel
theorem dX12_ignite_8 : decode cX12_ignite 8 = .ok (.ifCond .ne 13, 3) := by decide +kernel
theorem dX12_ignite_11 : decode cX12_ignite 11 = .ok (.new 173, 3) := by decide +kernel
theorem dX12_ignite_14 : decode cX12_ignite 14 = .ok (.dup, 1) := by decide +kernel
theorem dX12_ignite_15 : decode cX12_ignite 15 = .ok (.ldc 175, 2) := by decide +kernel
theorem dX12_ignite_17 : decode cX12_ignite 17 = .ok (.invokespecial 177, 3) := by decide +kernel
theorem dX12_ignite_20 : decode cX12_ignite 20 = .ok (.athrow, 1) := by decide +kernel
theorem dX12_ignite_21 : decode cX12_ignite 21 = .ok (.aload_n 0, 1) := by decide +kernel
theorem dX12_ignite_22 : decode cX12_ignite 22 = .ok (.getfield 25, 3) := by decide +kernel
theorem dX12_ignite_25 : decode cX12_ignite 25 = .ok (.aload_n 0, 1) := by decide +kernel
theorem dX12_ignite_26 : decode cX12_ignite 26 = .ok (.getfield 10, 3) := by decide +kernel
theorem dX12_ignite_29 : decode cX12_ignite 29 = .ok (.invokevirtual 108, 3) := by decide +kernel
theorem dX12_ignite_32 : decode cX12_ignite 32 = .ok (.aload_n 0, 1) := by decide +kernel
theorem dX12_ignite_33 : decode cX12_ignite 33 = .ok (.iload_n 1, 1) := by decide +kernel
theorem dX12_ignite_34 : decode cX12_ignite 34 = .ok (.invokevirtual 181, 3) := by decide +kernel
theorem dX12_ignite_37 : decode cX12_ignite 37 = .ok (.ireturn, 1) := by decide +kernel
theorem dX12_chargeCount_0 : decode cX12_chargeCount 0 = .ok (.aload_n 0, 1) := by decide +kernel
theorem dX12_chargeCount_1 : decode cX12_chargeCount 1 = .ok (.getfield 10, 3) := by decide +kernel
theorem dX12_chargeCount_4 : decode cX12_chargeCount 4 = .ok (.getfield 184, 3) := by decide +kernel
theorem dX12_chargeCount_7 : decode cX12_chargeCount 7 = .ok (.ireturn, 1) := by decide +kernel
theorem dX12_chargeRow_0 : decode cX12_chargeRow 0 = .ok (.aload_n 0, 1) := by decide +kernel
theorem dX12_chargeRow_1 : decode cX12_chargeRow 1 = .ok (.getfield 10, 3) := by decide +kernel
theorem dX12_chargeRow_4 : decode cX12_chargeRow 4 = .ok (.iload_n 1, 1) := by decide +kernel
theorem dX12_chargeRow_5 : decode cX12_chargeRow 5 = .ok (.invokevirtual 170, 3) := by decide +kernel
theorem dX12_chargeRow_8 : decode cX12_chargeRow 8 = .ok (.ifCond .ne 13, 3) := by decide +kernel
theorem dX12_chargeRow_11 : decode cX12_chargeRow 11 = .ok (.new 173, 3) := by decide +kernel
theorem dX12_chargeRow_14 : decode cX12_chargeRow 14 = .ok (.dup, 1) := by decide +kernel
theorem dX12_chargeRow_15 : decode cX12_chargeRow 15 = .ok (.ldc 175, 2) := by decide +kernel
theorem dX12_chargeRow_17 : decode cX12_chargeRow 17 = .ok (.invokespecial 177, 3) := by decide +kernel
theorem dX12_chargeRow_20 : decode cX12_chargeRow 20 = .ok (.athrow, 1) := by decide +kernel
theorem dX12_chargeRow_21 : decode cX12_chargeRow 21 = .ok (.aload_n 0, 1) := by decide +kernel
theorem dX12_chargeRow_22 : decode cX12_chargeRow 22 = .ok (.getfield 10, 3) := by decide +kernel
theorem dX12_chargeRow_25 : decode cX12_chargeRow 25 = .ok (.iload_n 1, 1) := by decide +kernel
theorem dX12_chargeRow_26 : decode cX12_chargeRow 26 = .ok (.invokevirtual 187, 3) := by decide +kernel
theorem dX12_chargeRow_29 : decode cX12_chargeRow 29 = .ok (.bipush 6, 2) := by decide +kernel
theorem dX12_chargeRow_31 : decode cX12_chargeRow 31 = .ok (.idiv, 1) := by decide +kernel
theorem dX12_chargeRow_32 : decode cX12_chargeRow 32 = .ok (.ireturn, 1) := by decide +kernel
theorem dX12_chargeColumn_0 : decode cX12_chargeColumn 0 = .ok (.aload_n 0, 1) := by decide +kernel
theorem dX12_chargeColumn_1 : decode cX12_chargeColumn 1 = .ok (.getfield 10, 3) := by decide +kernel
theorem dX12_chargeColumn_4 : decode cX12_chargeColumn 4 = .ok (.iload_n 1, 1) := by decide +kernel
theorem dX12_chargeColumn_5 : decode cX12_chargeColumn 5 = .ok (.invokevirtual 170, 3) := by decide +kernel
theorem dX12_chargeColumn_8 : decode cX12_chargeColumn 8 = .ok (.ifCond .ne 13, 3) := by decide +kernel
theorem dX12_chargeColumn_11 : decode cX12_chargeColumn 11 = .ok (.new 173, 3) := by decide +kernel
theorem dX12_chargeColumn_14 : decode cX12_chargeColumn 14 = .ok (.dup, 1) := by decide +kernel
theorem dX12_chargeColumn_15 : decode cX12_chargeColumn 15 = .ok (.ldc 175, 2) := by decide +kernel
theorem dX12_chargeColumn_17 : decode cX12_chargeColumn 17 = .ok (.invokespecial 177, 3) := by decide +kernel
theorem dX12_chargeColumn_20 : decode cX12_chargeColumn 20 = .ok (.athrow, 1) := by decide +kernel
theorem dX12_chargeColumn_21 : decode cX12_chargeColumn 21 = .ok (.aload_n 0, 1) := by decide +kernel
theorem dX12_chargeColumn_22 : decode cX12_chargeColumn 22 = .ok (.getfield 10, 3) := by decide +kernel
theorem dX12_chargeColumn_25 : decode cX12_chargeColumn 25 = .ok (.iload_n 1, 1) := by decide +kernel
theorem dX12_chargeColumn_26 : decode cX12_chargeColumn 26 = .ok (.invokevirtual 187, 3) := by decide +kernel
theorem dX12_chargeColumn_29 : decode cX12_chargeColumn 29 = .ok (.bipush 6, 2) := by decide +kernel
theorem dX12_chargeColumn_31 : decode cX12_chargeColumn 31 = .ok (.irem, 1) := by decide +kernel
theorem dX12_chargeColumn_32 : decode cX12_chargeColumn 32 = .ok (.ireturn, 1) := by decide +kernel
theorem dX12_chargeStrength_0 : decode cX12_chargeStrength 0 = .ok (.aload_n 0, 1) := by decide +kernel
theorem dX12_chargeStrength_1 : decode cX12_chargeStrength 1 = .ok (.getfield 10, 3) := by decide +kernel
theorem dX12_chargeStrength_4 : decode cX12_chargeStrength 4 = .ok (.iload_n 1, 1) := by decide +kernel
theorem dX12_chargeStrength_5 : decode cX12_chargeStrength 5 = .ok (.invokevirtual 170, 3) := by decide +kernel
theorem dX12_chargeStrength_8 : decode cX12_chargeStrength 8 = .ok (.ifCond .ne 13, 3) := by decide +kernel
theorem dX12_chargeStrength_11 : decode cX12_chargeStrength 11 = .ok (.new 173, 3) := by decide +kernel
theorem dX12_chargeStrength_14 : decode cX12_chargeStrength 14 = .ok (.dup, 1) := by decide +kernel
theorem dX12_chargeStrength_15 : decode cX12_chargeStrength 15 = .ok (.ldc 175, 2) := by decide +kernel
theorem dX12_chargeStrength_17 : decode cX12_chargeStrength 17 = .ok (.invokespecial 177, 3) := by decide +kernel
theorem dX12_chargeStrength_20 : decode cX12_chargeStrength 20 = .ok (.athrow, 1) := by decide +kernel
theorem dX12_chargeStrength_21 : decode cX12_chargeStrength 21 = .ok (.aload_n 0, 1) := by decide +kernel
theorem dX12_chargeStrength_22 : decode cX12_chargeStrength 22 = .ok (.getfield 10, 3) := by decide +kernel
theorem dX12_chargeStrength_25 : decode cX12_chargeStrength 25 = .ok (.iload_n 1, 1) := by decide +kernel
theorem dX12_chargeStrength_26 : decode cX12_chargeStrength 26 = .ok (.invokevirtual 190, 3) := by decide +kernel
theorem dX12_chargeStrength_29 : decode cX12_chargeStrength 29 = .ok (.ireturn, 1) := by decide +kernel
theorem dX12_chainOf_0 : decode cX12_chainOf 0 = .ok (.aload_n 0, 1) := by decide +kernel
theorem dX12_chainOf_1 : decode cX12_chainOf 1 = .ok (.getfield 10, 3) := by decide +kernel
theorem dX12_chainOf_4 : decode cX12_chainOf 4 = .ok (.iload_n 1, 1) := by decide +kernel
theorem dX12_chainOf_5 : decode cX12_chainOf 5 = .ok (.invokevirtual 170, 3) := by decide +kernel
theorem dX12_chainOf_8 : decode cX12_chainOf 8 = .ok (.ifCond .ne 13, 3) := by decide +kernel
theorem dX12_chainOf_11 : decode cX12_chainOf 11 = .ok (.new 173, 3) := by decide +kernel
theorem dX12_chainOf_14 : decode cX12_chainOf 14 = .ok (.dup, 1) := by decide +kernel
theorem dX12_chainOf_15 : decode cX12_chainOf 15 = .ok (.ldc 175, 2) := by decide +kernel
theorem dX12_chainOf_17 : decode cX12_chainOf 17 = .ok (.invokespecial 177, 3) := by decide +kernel
theorem dX12_chainOf_20 : decode cX12_chainOf 20 = .ok (.athrow, 1) := by decide +kernel
theorem dX12_chainOf_21 : decode cX12_chainOf 21 = .ok (.aload_n 0, 1) := by decide +kernel
theorem dX12_chainOf_22 : decode cX12_chainOf 22 = .ok (.getfield 39, 3) := by decide +kernel
theorem dX12_chainOf_25 : decode cX12_chainOf 25 = .ok (.aload_n 0, 1) := by decide +kernel
theorem dX12_chainOf_26 : decode cX12_chainOf 26 = .ok (.getfield 10, 3) := by decide +kernel
theorem dX12_chainOf_29 : decode cX12_chainOf 29 = .ok (.iload_n 1, 1) := by decide +kernel
theorem dX12_chainOf_30 : decode cX12_chainOf 30 = .ok (.invokevirtual 193, 3) := by decide +kernel
theorem dX12_chainOf_33 : decode cX12_chainOf 33 = .ok (.aload_n 0, 1) := by decide +kernel
theorem dX12_chainOf_34 : decode cX12_chainOf 34 = .ok (.getfield 39, 3) := by decide +kernel
theorem dX12_chainOf_37 : decode cX12_chainOf 37 = .ok (.getfield 197, 3) := by decide +kernel
theorem dX12_chainOf_40 : decode cX12_chainOf 40 = .ok (.ireturn, 1) := by decide +kernel
theorem dX12_chainByRounds_0 : decode cX12_chainByRounds 0 = .ok (.aload_n 0, 1) := by decide +kernel
theorem dX12_chainByRounds_1 : decode cX12_chainByRounds 1 = .ok (.getfield 10, 3) := by decide +kernel
theorem dX12_chainByRounds_4 : decode cX12_chainByRounds 4 = .ok (.iload_n 1, 1) := by decide +kernel
theorem dX12_chainByRounds_5 : decode cX12_chainByRounds 5 = .ok (.invokevirtual 170, 3) := by decide +kernel
theorem dX12_chainByRounds_8 : decode cX12_chainByRounds 8 = .ok (.ifCond .ne 13, 3) := by decide +kernel
theorem dX12_chainByRounds_11 : decode cX12_chainByRounds 11 = .ok (.new 173, 3) := by decide +kernel
theorem dX12_chainByRounds_14 : decode cX12_chainByRounds 14 = .ok (.dup, 1) := by decide +kernel
theorem dX12_chainByRounds_15 : decode cX12_chainByRounds 15 = .ok (.ldc 175, 2) := by decide +kernel
theorem dX12_chainByRounds_17 : decode cX12_chainByRounds 17 = .ok (.invokespecial 177, 3) := by decide +kernel
theorem dX12_chainByRounds_20 : decode cX12_chainByRounds 20 = .ok (.athrow, 1) := by decide +kernel
theorem dX12_chainByRounds_21 : decode cX12_chainByRounds 21 = .ok (.aload_n 0, 1) := by decide +kernel
theorem dX12_chainByRounds_22 : decode cX12_chainByRounds 22 = .ok (.getfield 39, 3) := by decide +kernel
theorem dX12_chainByRounds_25 : decode cX12_chainByRounds 25 = .ok (.aload_n 0, 1) := by decide +kernel
theorem dX12_chainByRounds_26 : decode cX12_chainByRounds 26 = .ok (.getfield 10, 3) := by decide +kernel
theorem dX12_chainByRounds_29 : decode cX12_chainByRounds 29 = .ok (.iload_n 1, 1) := by decide +kernel
theorem dX12_chainByRounds_30 : decode cX12_chainByRounds 30 = .ok (.invokevirtual 200, 3) := by decide +kernel
theorem dX12_chainByRounds_33 : decode cX12_chainByRounds 33 = .ok (.ireturn, 1) := by decide +kernel
theorem dX12_opensOf_0 : decode cX12_opensOf 0 = .ok (.aload_n 0, 1) := by decide +kernel
theorem dX12_opensOf_1 : decode cX12_opensOf 1 = .ok (.getfield 10, 3) := by decide +kernel
theorem dX12_opensOf_4 : decode cX12_opensOf 4 = .ok (.iload_n 1, 1) := by decide +kernel
theorem dX12_opensOf_5 : decode cX12_opensOf 5 = .ok (.invokevirtual 170, 3) := by decide +kernel
theorem dX12_opensOf_8 : decode cX12_opensOf 8 = .ok (.ifCond .ne 13, 3) := by decide +kernel
theorem dX12_opensOf_11 : decode cX12_opensOf 11 = .ok (.new 173, 3) := by decide +kernel
theorem dX12_opensOf_14 : decode cX12_opensOf 14 = .ok (.dup, 1) := by decide +kernel
theorem dX12_opensOf_15 : decode cX12_opensOf 15 = .ok (.ldc 175, 2) := by decide +kernel
theorem dX12_opensOf_17 : decode cX12_opensOf 17 = .ok (.invokespecial 177, 3) := by decide +kernel
theorem dX12_opensOf_20 : decode cX12_opensOf 20 = .ok (.athrow, 1) := by decide +kernel
theorem dX12_opensOf_21 : decode cX12_opensOf 21 = .ok (.aload_n 0, 1) := by decide +kernel
theorem dX12_opensOf_22 : decode cX12_opensOf 22 = .ok (.getfield 39, 3) := by decide +kernel
theorem dX12_opensOf_25 : decode cX12_opensOf 25 = .ok (.aload_n 0, 1) := by decide +kernel
theorem dX12_opensOf_26 : decode cX12_opensOf 26 = .ok (.getfield 10, 3) := by decide +kernel
theorem dX12_opensOf_29 : decode cX12_opensOf 29 = .ok (.iload_n 1, 1) := by decide +kernel
theorem dX12_opensOf_30 : decode cX12_opensOf 30 = .ok (.invokevirtual 193, 3) := by decide +kernel
theorem dX12_opensOf_33 : decode cX12_opensOf 33 = .ok (.aload_n 0, 1) := by decide +kernel
theorem dX12_opensOf_34 : decode cX12_opensOf 34 = .ok (.getfield 39, 3) := by decide +kernel
theorem dX12_opensOf_37 : decode cX12_opensOf 37 = .ok (.getfield 203, 3) := by decide +kernel
theorem dX12_opensOf_40 : decode cX12_opensOf 40 = .ok (.ireturn, 1) := by decide +kernel
theorem dX12_bestCharge_0 : decode cX12_bestCharge 0 = .ok (.aload_n 0, 1) := by decide +kernel
theorem dX12_bestCharge_1 : decode cX12_bestCharge 1 = .ok (.getfield 10, 3) := by decide +kernel
theorem dX12_bestCharge_4 : decode cX12_bestCharge 4 = .ok (.getfield 184, 3) := by decide +kernel
theorem dX12_bestCharge_7 : decode cX12_bestCharge 7 = .ok (.ifCond .ne 13, 3) := by decide +kernel
theorem dX12_bestCharge_10 : decode cX12_bestCharge 10 = .ok (.new 206, 3) := by decide +kernel
theorem dX12_bestCharge_13 : decode cX12_bestCharge 13 = .ok (.dup, 1) := by decide +kernel
theorem dX12_bestCharge_14 : decode cX12_bestCharge 14 = .ok (.ldc 208, 2) := by decide +kernel
theorem dX12_bestCharge_16 : decode cX12_bestCharge 16 = .ok (.invokespecial 210, 3) := by decide +kernel
theorem dX12_bestCharge_19 : decode cX12_bestCharge 19 = .ok (.athrow, 1) := by decide +kernel
theorem dX12_bestCharge_20 : decode cX12_bestCharge 20 = .ok (.iconst 0, 1) := by decide +kernel
theorem dX12_bestCharge_21 : decode cX12_bestCharge 21 = .ok (.istore_n 1, 1) := by decide +kernel
theorem dX12_bestCharge_22 : decode cX12_bestCharge 22 = .ok (.iconst (-1), 1) := by decide +kernel
theorem dX12_bestCharge_23 : decode cX12_bestCharge 23 = .ok (.istore_n 2, 1) := by decide +kernel
theorem dX12_bestCharge_24 : decode cX12_bestCharge 24 = .ok (.iconst 0, 1) := by decide +kernel
theorem dX12_bestCharge_25 : decode cX12_bestCharge 25 = .ok (.istore_n 3, 1) := by decide +kernel
theorem dX12_bestCharge_26 : decode cX12_bestCharge 26 = .ok (.iload_n 3, 1) := by decide +kernel
theorem dX12_bestCharge_27 : decode cX12_bestCharge 27 = .ok (.aload_n 0, 1) := by decide +kernel
theorem dX12_bestCharge_28 : decode cX12_bestCharge 28 = .ok (.getfield 10, 3) := by decide +kernel
theorem dX12_bestCharge_31 : decode cX12_bestCharge 31 = .ok (.getfield 184, 3) := by decide +kernel
theorem dX12_bestCharge_34 : decode cX12_bestCharge 34 = .ok (.if_icmp .ge 42, 3) := by decide +kernel
theorem dX12_bestCharge_37 : decode cX12_bestCharge 37 = .ok (.aload_n 0, 1) := by decide +kernel
theorem dX12_bestCharge_38 : decode cX12_bestCharge 38 = .ok (.getfield 39, 3) := by decide +kernel
theorem dX12_bestCharge_41 : decode cX12_bestCharge 41 = .ok (.aload_n 0, 1) := by decide +kernel
theorem dX12_bestCharge_42 : decode cX12_bestCharge 42 = .ok (.getfield 10, 3) := by decide +kernel
theorem dX12_bestCharge_45 : decode cX12_bestCharge 45 = .ok (.iload_n 3, 1) := by decide +kernel
theorem dX12_bestCharge_46 : decode cX12_bestCharge 46 = .ok (.invokevirtual 193, 3) := by decide +kernel
theorem dX12_bestCharge_49 : decode cX12_bestCharge 49 = .ok (.aload_n 0, 1) := by decide +kernel
theorem dX12_bestCharge_50 : decode cX12_bestCharge 50 = .ok (.getfield 39, 3) := by decide +kernel
theorem dX12_bestCharge_53 : decode cX12_bestCharge 53 = .ok (.getfield 203, 3) := by decide +kernel
theorem dX12_bestCharge_56 : decode cX12_bestCharge 56 = .ok (.iload_n 2, 1) := by decide +kernel
theorem dX12_bestCharge_57 : decode cX12_bestCharge 57 = .ok (.if_icmp .le 13, 3) := by decide +kernel
theorem dX12_bestCharge_60 : decode cX12_bestCharge 60 = .ok (.aload_n 0, 1) := by decide +kernel
theorem dX12_bestCharge_61 : decode cX12_bestCharge 61 = .ok (.getfield 39, 3) := by decide +kernel
theorem dX12_bestCharge_64 : decode cX12_bestCharge 64 = .ok (.getfield 203, 3) := by decide +kernel
theorem dX12_bestCharge_67 : decode cX12_bestCharge 67 = .ok (.istore_n 2, 1) := by decide +kernel
theorem dX12_bestCharge_68 : decode cX12_bestCharge 68 = .ok (.iload_n 3, 1) := by decide +kernel
theorem dX12_bestCharge_69 : decode cX12_bestCharge 69 = .ok (.istore_n 1, 1) := by decide +kernel
theorem dX12_bestCharge_70 : decode cX12_bestCharge 70 = .ok (.iinc 3 1, 3) := by decide +kernel
theorem dX12_bestCharge_73 : decode cX12_bestCharge 73 = .ok (.goto (-47), 3) := by decide +kernel
theorem dX12_bestCharge_76 : decode cX12_bestCharge 76 = .ok (.iload_n 1, 1) := by decide +kernel
theorem dX12_bestCharge_77 : decode cX12_bestCharge 77 = .ok (.ireturn, 1) := by decide +kernel
theorem dX12_tunnelCost_0 : decode cX12_tunnelCost 0 = .ok (.aload_n 0, 1) := by decide +kernel
theorem dX12_tunnelCost_1 : decode cX12_tunnelCost 1 = .ok (.getfield 46, 3) := by decide +kernel
theorem dX12_tunnelCost_4 : decode cX12_tunnelCost 4 = .ok (.aload_n 0, 1) := by decide +kernel
theorem dX12_tunnelCost_5 : decode cX12_tunnelCost 5 = .ok (.getfield 10, 3) := by decide +kernel
theorem dX12_tunnelCost_8 : decode cX12_tunnelCost 8 = .ok (.invokevirtual 211, 3) := by decide +kernel
theorem dX12_tunnelCost_11 : decode cX12_tunnelCost 11 = .ok (.ireturn, 1) := by decide +kernel
theorem dX12_tunnelByRounds_0 : decode cX12_tunnelByRounds 0 = .ok (.aload_n 0, 1) := by decide +kernel
theorem dX12_tunnelByRounds_1 : decode cX12_tunnelByRounds 1 = .ok (.getfield 46, 3) := by decide +kernel
theorem dX12_tunnelByRounds_4 : decode cX12_tunnelByRounds 4 = .ok (.aload_n 0, 1) := by decide +kernel
theorem dX12_tunnelByRounds_5 : decode cX12_tunnelByRounds 5 = .ok (.getfield 10, 3) := by decide +kernel
theorem dX12_tunnelByRounds_8 : decode cX12_tunnelByRounds 8 = .ok (.invokevirtual 215, 3) := by decide +kernel
theorem dX12_tunnelByRounds_11 : decode cX12_tunnelByRounds 11 = .ok (.ireturn, 1) := by decide +kernel
theorem dX12_mostSlabs_0 : decode cX12_mostSlabs 0 = .ok (.aload_n 0, 1) := by decide +kernel
theorem dX12_mostSlabs_1 : decode cX12_mostSlabs 1 = .ok (.getfield 53, 3) := by decide +kernel
theorem dX12_mostSlabs_4 : decode cX12_mostSlabs 4 = .ok (.aload_n 0, 1) := by decide +kernel
theorem dX12_mostSlabs_5 : decode cX12_mostSlabs 5 = .ok (.getfield 10, 3) := by decide +kernel
theorem dX12_mostSlabs_8 : decode cX12_mostSlabs 8 = .ok (.invokevirtual 218, 3) := by decide +kernel
theorem dX12_mostSlabs_11 : decode cX12_mostSlabs 11 = .ok (.ireturn, 1) := by decide +kernel
theorem dX12_slabsByCells_0 : decode cX12_slabsByCells 0 = .ok (.aload_n 0, 1) := by decide +kernel
theorem dX12_slabsByCells_1 : decode cX12_slabsByCells 1 = .ok (.getfield 53, 3) := by decide +kernel
theorem dX12_slabsByCells_4 : decode cX12_slabsByCells 4 = .ok (.aload_n 0, 1) := by decide +kernel
theorem dX12_slabsByCells_5 : decode cX12_slabsByCells 5 = .ok (.getfield 10, 3) := by decide +kernel
theorem dX12_slabsByCells_8 : decode cX12_slabsByCells 8 = .ok (.invokevirtual 221, 3) := by decide +kernel
theorem dX12_slabsByCells_11 : decode cX12_slabsByCells 11 = .ok (.ireturn, 1) := by decide +kernel
theorem dX12_largestBlock_0 : decode cX12_largestBlock 0 = .ok (.aload_n 0, 1) := by decide +kernel
theorem dX12_largestBlock_1 : decode cX12_largestBlock 1 = .ok (.getfield 60, 3) := by decide +kernel
theorem dX12_largestBlock_4 : decode cX12_largestBlock 4 = .ok (.aload_n 0, 1) := by decide +kernel
theorem dX12_largestBlock_5 : decode cX12_largestBlock 5 = .ok (.getfield 10, 3) := by decide +kernel
theorem dX12_largestBlock_8 : decode cX12_largestBlock 8 = .ok (.invokevirtual 224, 3) := by decide +kernel
theorem dX12_largestBlock_11 : decode cX12_largestBlock 11 = .ok (.ireturn, 1) := by decide +kernel
theorem dX12_blockByHeights_0 : decode cX12_blockByHeights 0 = .ok (.aload_n 0, 1) := by decide +kernel
theorem dX12_blockByHeights_1 : decode cX12_blockByHeights 1 = .ok (.getfield 60, 3) := by decide +kernel
theorem dX12_blockByHeights_4 : decode cX12_blockByHeights 4 = .ok (.aload_n 0, 1) := by decide +kernel
theorem dX12_blockByHeights_5 : decode cX12_blockByHeights 5 = .ok (.getfield 10, 3) := by decide +kernel
theorem dX12_blockByHeights_8 : decode cX12_blockByHeights 8 = .ok (.invokevirtual 227, 3) := by decide +kernel
theorem dX12_blockByHeights_11 : decode cX12_blockByHeights 11 = .ok (.ireturn, 1) := by decide +kernel
theorem dX12_setPrice_0 : decode cX12_setPrice 0 = .ok (.aload_n 0, 1) := by decide +kernel
theorem dX12_setPrice_1 : decode cX12_setPrice 1 = .ok (.getfield 10, 3) := by decide +kernel
theorem dX12_setPrice_4 : decode cX12_setPrice 4 = .ok (.iload_n 1, 1) := by decide +kernel
theorem dX12_setPrice_5 : decode cX12_setPrice 5 = .ok (.iload_n 2, 1) := by decide +kernel
theorem dX12_setPrice_6 : decode cX12_setPrice 6 = .ok (.invokevirtual 230, 3) := by decide +kernel
theorem dX12_setPrice_9 : decode cX12_setPrice 9 = .ok (.ifCond .eq 13, 3) := by decide +kernel
theorem dX12_setPrice_12 : decode cX12_setPrice 12 = .ok (.new 96, 3) := by decide +kernel
theorem dX12_setPrice_15 : decode cX12_setPrice 15 = .ok (.dup, 1) := by decide +kernel
theorem dX12_setPrice_16 : decode cX12_setPrice 16 = .ok (.ldc 233, 2) := by decide +kernel
theorem dX12_setPrice_18 : decode cX12_setPrice 18 = .ok (.invokespecial 100, 3) := by decide +kernel
theorem dX12_setPrice_21 : decode cX12_setPrice 21 = .ok (.athrow, 1) := by decide +kernel
theorem dX12_setPrice_22 : decode cX12_setPrice 22 = .ok (.aload_n 0, 1) := by decide +kernel
theorem dX12_setPrice_23 : decode cX12_setPrice 23 = .ok (.getfield 25, 3) := by decide +kernel
theorem dX12_setPrice_26 : decode cX12_setPrice 26 = .ok (.aload_n 0, 1) := by decide +kernel
theorem dX12_setPrice_27 : decode cX12_setPrice 27 = .ok (.getfield 10, 3) := by decide +kernel
theorem dX12_setPrice_30 : decode cX12_setPrice 30 = .ok (.invokevirtual 108, 3) := by decide +kernel
theorem dX12_setPrice_33 : decode cX12_setPrice 33 = .ok (.aload_n 0, 1) := by decide +kernel
theorem dX12_setPrice_34 : decode cX12_setPrice 34 = .ok (.getfield 10, 3) := by decide +kernel
theorem dX12_setPrice_37 : decode cX12_setPrice 37 = .ok (.iload_n 1, 1) := by decide +kernel
theorem dX12_setPrice_38 : decode cX12_setPrice 38 = .ok (.iload_n 2, 1) := by decide +kernel
theorem dX12_setPrice_39 : decode cX12_setPrice 39 = .ok (.invokevirtual 235, 3) := by decide +kernel
theorem dX12_setPrice_42 : decode cX12_setPrice 42 = .ok (.ireturn, 1) := by decide +kernel
theorem dX12_priceOf_0 : decode cX12_priceOf 0 = .ok (.iload_n 1, 1) := by decide +kernel
theorem dX12_priceOf_1 : decode cX12_priceOf 1 = .ok (.iconst 1, 1) := by decide +kernel
theorem dX12_priceOf_2 : decode cX12_priceOf 2 = .ok (.bipush 10, 2) := by decide +kernel
theorem dX12_priceOf_4 : decode cX12_priceOf 4 = .ok (.invokestatic 147, 3) := by decide +kernel
theorem dX12_priceOf_7 : decode cX12_priceOf 7 = .ok (.ifCond .ne 13, 3) := by decide +kernel
theorem dX12_priceOf_10 : decode cX12_priceOf 10 = .ok (.new 96, 3) := by decide +kernel
theorem dX12_priceOf_13 : decode cX12_priceOf 13 = .ok (.dup, 1) := by decide +kernel
theorem dX12_priceOf_14 : decode cX12_priceOf 14 = .ok (.ldc 238, 2) := by decide +kernel
theorem dX12_priceOf_16 : decode cX12_priceOf 16 = .ok (.invokespecial 100, 3) := by decide +kernel
theorem dX12_priceOf_19 : decode cX12_priceOf 19 = .ok (.athrow, 1) := by decide +kernel
theorem dX12_priceOf_20 : decode cX12_priceOf 20 = .ok (.aload_n 0, 1) := by decide +kernel
theorem dX12_priceOf_21 : decode cX12_priceOf 21 = .ok (.getfield 10, 3) := by decide +kernel
theorem dX12_priceOf_24 : decode cX12_priceOf 24 = .ok (.iload_n 1, 1) := by decide +kernel
theorem dX12_priceOf_25 : decode cX12_priceOf 25 = .ok (.invokevirtual 240, 3) := by decide +kernel
theorem dX12_priceOf_28 : decode cX12_priceOf 28 = .ok (.ireturn, 1) := by decide +kernel
theorem dX12_bestCut_0 : decode cX12_bestCut 0 = .ok (.iload_n 1, 1) := by decide +kernel
theorem dX12_bestCut_1 : decode cX12_bestCut 1 = .ok (.iconst 1, 1) := by decide +kernel
theorem dX12_bestCut_2 : decode cX12_bestCut 2 = .ok (.bipush 30, 2) := by decide +kernel
theorem dX12_bestCut_4 : decode cX12_bestCut 4 = .ok (.invokestatic 147, 3) := by decide +kernel
theorem dX12_bestCut_7 : decode cX12_bestCut 7 = .ok (.ifCond .ne 13, 3) := by decide +kernel
theorem dX12_bestCut_10 : decode cX12_bestCut 10 = .ok (.new 96, 3) := by decide +kernel
theorem dX12_bestCut_13 : decode cX12_bestCut 13 = .ok (.dup, 1) := by decide +kernel
theorem dX12_bestCut_14 : decode cX12_bestCut 14 = .ok (.ldc 238, 2) := by decide +kernel
theorem dX12_bestCut_16 : decode cX12_bestCut 16 = .ok (.invokespecial 100, 3) := by decide +kernel
theorem dX12_bestCut_19 : decode cX12_bestCut 19 = .ok (.athrow, 1) := by decide +kernel
theorem dX12_bestCut_20 : decode cX12_bestCut 20 = .ok (.aload_n 0, 1) := by decide +kernel
theorem dX12_bestCut_21 : decode cX12_bestCut 21 = .ok (.getfield 67, 3) := by decide +kernel
theorem dX12_bestCut_24 : decode cX12_bestCut 24 = .ok (.aload_n 0, 1) := by decide +kernel
theorem dX12_bestCut_25 : decode cX12_bestCut 25 = .ok (.getfield 10, 3) := by decide +kernel
theorem dX12_bestCut_28 : decode cX12_bestCut 28 = .ok (.iload_n 1, 1) := by decide +kernel
theorem dX12_bestCut_29 : decode cX12_bestCut 29 = .ok (.invokevirtual 243, 3) := by decide +kernel
theorem dX12_bestCut_32 : decode cX12_bestCut 32 = .ok (.ireturn, 1) := by decide +kernel
theorem dX12_bestCutByTrial_0 : decode cX12_bestCutByTrial 0 = .ok (.iload_n 1, 1) := by decide +kernel
theorem dX12_bestCutByTrial_1 : decode cX12_bestCutByTrial 1 = .ok (.iconst 1, 1) := by decide +kernel
theorem dX12_bestCutByTrial_2 : decode cX12_bestCutByTrial 2 = .ok (.bipush 30, 2) := by decide +kernel
theorem dX12_bestCutByTrial_4 : decode cX12_bestCutByTrial 4 = .ok (.invokestatic 147, 3) := by decide +kernel
theorem dX12_bestCutByTrial_7 : decode cX12_bestCutByTrial 7 = .ok (.ifCond .ne 13, 3) := by decide +kernel
theorem dX12_bestCutByTrial_10 : decode cX12_bestCutByTrial 10 = .ok (.new 96, 3) := by decide +kernel
theorem dX12_bestCutByTrial_13 : decode cX12_bestCutByTrial 13 = .ok (.dup, 1) := by decide +kernel
theorem dX12_bestCutByTrial_14 : decode cX12_bestCutByTrial 14 = .ok (.ldc 238, 2) := by decide +kernel
theorem dX12_bestCutByTrial_16 : decode cX12_bestCutByTrial 16 = .ok (.invokespecial 100, 3) := by decide +kernel
theorem dX12_bestCutByTrial_19 : decode cX12_bestCutByTrial 19 = .ok (.athrow, 1) := by decide +kernel
theorem dX12_bestCutByTrial_20 : decode cX12_bestCutByTrial 20 = .ok (.aload_n 0, 1) := by decide +kernel
theorem dX12_bestCutByTrial_21 : decode cX12_bestCutByTrial 21 = .ok (.getfield 10, 3) := by decide +kernel
theorem dX12_bestCutByTrial_24 : decode cX12_bestCutByTrial 24 = .ok (.iload_n 1, 1) := by decide +kernel
theorem dX12_bestCutByTrial_25 : decode cX12_bestCutByTrial 25 = .ok (.invokestatic 246, 3) := by decide +kernel
theorem dX12_bestCutByTrial_28 : decode cX12_bestCutByTrial 28 = .ok (.ireturn, 1) := by decide +kernel
theorem dX12_fewestPieces_0 : decode cX12_fewestPieces 0 = .ok (.iload_n 1, 1) := by decide +kernel
theorem dX12_fewestPieces_1 : decode cX12_fewestPieces 1 = .ok (.iconst 1, 1) := by decide +kernel
theorem dX12_fewestPieces_2 : decode cX12_fewestPieces 2 = .ok (.bipush 30, 2) := by decide +kernel
theorem dX12_fewestPieces_4 : decode cX12_fewestPieces 4 = .ok (.invokestatic 147, 3) := by decide +kernel
theorem dX12_fewestPieces_7 : decode cX12_fewestPieces 7 = .ok (.ifCond .ne 13, 3) := by decide +kernel
theorem dX12_fewestPieces_10 : decode cX12_fewestPieces 10 = .ok (.new 96, 3) := by decide +kernel
theorem dX12_fewestPieces_13 : decode cX12_fewestPieces 13 = .ok (.dup, 1) := by decide +kernel
theorem dX12_fewestPieces_14 : decode cX12_fewestPieces 14 = .ok (.ldc 238, 2) := by decide +kernel
theorem dX12_fewestPieces_16 : decode cX12_fewestPieces 16 = .ok (.invokespecial 100, 3) := by decide +kernel
theorem dX12_fewestPieces_19 : decode cX12_fewestPieces 19 = .ok (.athrow, 1) := by decide +kernel
theorem dX12_fewestPieces_20 : decode cX12_fewestPieces 20 = .ok (.aload_n 0, 1) := by decide +kernel
theorem dX12_fewestPieces_21 : decode cX12_fewestPieces 21 = .ok (.getfield 67, 3) := by decide +kernel
theorem dX12_fewestPieces_24 : decode cX12_fewestPieces 24 = .ok (.aload_n 0, 1) := by decide +kernel
theorem dX12_fewestPieces_25 : decode cX12_fewestPieces 25 = .ok (.getfield 10, 3) := by decide +kernel
theorem dX12_fewestPieces_28 : decode cX12_fewestPieces 28 = .ok (.iload_n 1, 1) := by decide +kernel
theorem dX12_fewestPieces_29 : decode cX12_fewestPieces 29 = .ok (.invokevirtual 249, 3) := by decide +kernel
theorem dX12_fewestPieces_32 : decode cX12_fewestPieces 32 = .ok (.ireturn, 1) := by decide +kernel
theorem dX12_sell_0 : decode cX12_sell 0 = .ok (.aload_n 0, 1) := by decide +kernel
theorem dX12_sell_1 : decode cX12_sell 1 = .ok (.getfield 10, 3) := by decide +kernel
theorem dX12_sell_4 : decode cX12_sell 4 = .ok (.iload_n 1, 1) := by decide +kernel
theorem dX12_sell_5 : decode cX12_sell 5 = .ok (.invokevirtual 252, 3) := by decide +kernel
theorem dX12_sell_8 : decode cX12_sell 8 = .ok (.istore_n 2, 1) := by decide +kernel
theorem dX12_sell_9 : decode cX12_sell 9 = .ok (.iload_n 2, 1) := by decide +kernel
theorem dX12_sell_10 : decode cX12_sell 10 = .ok (.iconst 1, 1) := by decide +kernel
theorem dX12_sell_11 : decode cX12_sell 11 = .ok (.if_icmp .ne 13, 3) := by decide +kernel
theorem dX12_sell_14 : decode cX12_sell 14 = .ok (.new 96, 3) := by decide +kernel
theorem dX12_sell_17 : decode cX12_sell 17 = .ok (.dup, 1) := by decide +kernel
theorem dX12_sell_18 : decode cX12_sell 18 = .ok (.ldc 238, 2) := by decide +kernel
theorem dX12_sell_20 : decode cX12_sell 20 = .ok (.invokespecial 100, 3) := by decide +kernel
theorem dX12_sell_23 : decode cX12_sell 23 = .ok (.athrow, 1) := by decide +kernel
theorem dX12_sell_24 : decode cX12_sell 24 = .ok (.iload_n 2, 1) := by decide +kernel
theorem dX12_sell_25 : decode cX12_sell 25 = .ok (.iconst 3, 1) := by decide +kernel
theorem dX12_sell_26 : decode cX12_sell 26 = .ok (.if_icmp .ne 13, 3) := by decide +kernel
theorem dX12_sell_29 : decode cX12_sell 29 = .ok (.new 126, 3) := by decide +kernel
theorem dX12_sell_32 : decode cX12_sell 32 = .ok (.dup, 1) := by decide +kernel
theorem dX12_sell_33 : decode cX12_sell 33 = .ok (.ldc 255, 2) := by decide +kernel
theorem dX12_sell_35 : decode cX12_sell 35 = .ok (.invokespecial 130, 3) := by decide +kernel
theorem dX12_sell_38 : decode cX12_sell 38 = .ok (.athrow, 1) := by decide +kernel
theorem dX12_sell_39 : decode cX12_sell 39 = .ok (.aload_n 0, 1) := by decide +kernel
theorem dX12_sell_40 : decode cX12_sell 40 = .ok (.getfield 25, 3) := by decide +kernel
theorem dX12_sell_43 : decode cX12_sell 43 = .ok (.aload_n 0, 1) := by decide +kernel
theorem dX12_sell_44 : decode cX12_sell 44 = .ok (.getfield 10, 3) := by decide +kernel
theorem dX12_sell_47 : decode cX12_sell 47 = .ok (.invokevirtual 108, 3) := by decide +kernel
theorem dX12_sell_50 : decode cX12_sell 50 = .ok (.aload_n 0, 1) := by decide +kernel
theorem dX12_sell_51 : decode cX12_sell 51 = .ok (.iload_n 1, 1) := by decide +kernel
theorem dX12_sell_52 : decode cX12_sell 52 = .ok (.invokevirtual 257, 3) := by decide +kernel
theorem dX12_sell_55 : decode cX12_sell 55 = .ok (.ireturn, 1) := by decide +kernel
theorem dX12_stone_0 : decode cX12_stone 0 = .ok (.aload_n 0, 1) := by decide +kernel
theorem dX12_stone_1 : decode cX12_stone 1 = .ok (.getfield 10, 3) := by decide +kernel
theorem dX12_stone_4 : decode cX12_stone 4 = .ok (.getfield 260, 3) := by decide +kernel
theorem dX12_stone_7 : decode cX12_stone 7 = .ok (.ireturn, 1) := by decide +kernel
theorem dX12_quarried_0 : decode cX12_quarried 0 = .ok (.aload_n 0, 1) := by decide +kernel
theorem dX12_quarried_1 : decode cX12_quarried 1 = .ok (.getfield 10, 3) := by decide +kernel
theorem dX12_quarried_4 : decode cX12_quarried 4 = .ok (.getfield 263, 3) := by decide +kernel
theorem dX12_quarried_7 : decode cX12_quarried 7 = .ok (.ireturn, 1) := by decide +kernel
theorem dX12_sold_0 : decode cX12_sold 0 = .ok (.aload_n 0, 1) := by decide +kernel
theorem dX12_sold_1 : decode cX12_sold 1 = .ok (.getfield 10, 3) := by decide +kernel
theorem dX12_sold_4 : decode cX12_sold 4 = .ok (.getfield 266, 3) := by decide +kernel
theorem dX12_sold_7 : decode cX12_sold 7 = .ok (.ireturn, 1) := by decide +kernel
theorem dX12_coins_0 : decode cX12_coins 0 = .ok (.aload_n 0, 1) := by decide +kernel
theorem dX12_coins_1 : decode cX12_coins 1 = .ok (.getfield 10, 3) := by decide +kernel
theorem dX12_coins_4 : decode cX12_coins 4 = .ok (.getfield 269, 3) := by decide +kernel
theorem dX12_coins_7 : decode cX12_coins 7 = .ok (.lreturn, 1) := by decide +kernel
theorem dX12_meanHardness_0 : decode cX12_meanHardness 0 = .ok (.bipush 36, 2) := by decide +kernel
theorem dX12_meanHardness_2 : decode cX12_meanHardness 2 = .ok (.aload_n 0, 1) := by decide +kernel
theorem dX12_meanHardness_3 : decode cX12_meanHardness 3 = .ok (.getfield 10, 3) := by decide +kernel
theorem dX12_meanHardness_6 : decode cX12_meanHardness 6 = .ok (.invokevirtual 143, 3) := by decide +kernel
theorem dX12_meanHardness_9 : decode cX12_meanHardness 9 = .ok (.isub, 1) := by decide +kernel
theorem dX12_meanHardness_10 : decode cX12_meanHardness 10 = .ok (.istore_n 1, 1) := by decide +kernel
theorem dX12_meanHardness_11 : decode cX12_meanHardness 11 = .ok (.iload_n 1, 1) := by decide +kernel
theorem dX12_meanHardness_12 : decode cX12_meanHardness 12 = .ok (.ifCond .ne 14, 3) := by decide +kernel
theorem dX12_meanHardness_15 : decode cX12_meanHardness 15 = .ok (.new 273, 3) := by decide +kernel
theorem dX12_meanHardness_18 : decode cX12_meanHardness 18 = .ok (.dup, 1) := by decide +kernel
theorem dX12_meanHardness_19 : decode cX12_meanHardness 19 = .ok (.ldc_w 275, 3) := by decide +kernel
theorem dX12_meanHardness_22 : decode cX12_meanHardness 22 = .ok (.invokespecial 277, 3) := by decide +kernel
theorem dX12_meanHardness_25 : decode cX12_meanHardness 25 = .ok (.athrow, 1) := by decide +kernel
theorem dX12_meanHardness_26 : decode cX12_meanHardness 26 = .ok (.aload_n 0, 1) := by decide +kernel
theorem dX12_meanHardness_27 : decode cX12_meanHardness 27 = .ok (.getfield 10, 3) := by decide +kernel
theorem dX12_meanHardness_30 : decode cX12_meanHardness 30 = .ok (.invokevirtual 278, 3) := by decide +kernel
theorem dX12_meanHardness_33 : decode cX12_meanHardness 33 = .ok (.i2d, 1) := by decide +kernel
theorem dX12_meanHardness_34 : decode cX12_meanHardness 34 = .ok (.iload_n 1, 1) := by decide +kernel
theorem dX12_meanHardness_35 : decode cX12_meanHardness 35 = .ok (.i2d, 1) := by decide +kernel
theorem dX12_meanHardness_36 : decode cX12_meanHardness 36 = .ok (.ddiv, 1) := by decide +kernel
theorem dX12_meanHardness_37 : decode cX12_meanHardness 37 = .ok (.dreturn, 1) := by decide +kernel
theorem dX12_openShare_0 : decode cX12_openShare 0 = .ok (.aload_n 0, 1) := by decide +kernel
theorem dX12_openShare_1 : decode cX12_openShare 1 = .ok (.getfield 10, 3) := by decide +kernel
theorem dX12_openShare_4 : decode cX12_openShare 4 = .ok (.invokevirtual 143, 3) := by decide +kernel
theorem dX12_openShare_7 : decode cX12_openShare 7 = .ok (.i2f, 1) := by decide +kernel
theorem dX12_openShare_8 : decode cX12_openShare 8 = .ok (.ldc_w 281, 3) := by decide +kernel
theorem dX12_openShare_11 : decode cX12_openShare 11 = .ok (.fdiv, 1) := by decide +kernel
theorem dX12_openShare_12 : decode cX12_openShare 12 = .ok (.freturn, 1) := by decide +kernel
theorem dX12_writeRow_0 : decode cX12_writeRow 0 = .ok (.iload_n 1, 1) := by decide +kernel
theorem dX12_writeRow_1 : decode cX12_writeRow 1 = .ok (.iconst 0, 1) := by decide +kernel
theorem dX12_writeRow_2 : decode cX12_writeRow 2 = .ok (.iconst 5, 1) := by decide +kernel
theorem dX12_writeRow_3 : decode cX12_writeRow 3 = .ok (.invokestatic 147, 3) := by decide +kernel
theorem dX12_writeRow_6 : decode cX12_writeRow 6 = .ok (.ifCond .ne 14, 3) := by decide +kernel
theorem dX12_writeRow_9 : decode cX12_writeRow 9 = .ok (.new 96, 3) := by decide +kernel
theorem dX12_writeRow_12 : decode cX12_writeRow 12 = .ok (.dup, 1) := by decide +kernel
theorem dX12_writeRow_13 : decode cX12_writeRow 13 = .ok (.ldc_w 282, 3) := by decide +kernel
theorem dX12_writeRow_16 : decode cX12_writeRow 16 = .ok (.invokespecial 100, 3) := by decide +kernel
theorem dX12_writeRow_19 : decode cX12_writeRow 19 = .ok (.athrow, 1) := by decide +kernel
theorem dX12_writeRow_20 : decode cX12_writeRow 20 = .ok (.aload_n 0, 1) := by decide +kernel
theorem dX12_writeRow_21 : decode cX12_writeRow 21 = .ok (.getfield 74, 3) := by decide +kernel
theorem dX12_writeRow_24 : decode cX12_writeRow 24 = .ok (.aload_n 0, 1) := by decide +kernel
theorem dX12_writeRow_25 : decode cX12_writeRow 25 = .ok (.getfield 10, 3) := by decide +kernel
theorem dX12_writeRow_28 : decode cX12_writeRow 28 = .ok (.iload_n 1, 1) := by decide +kernel
theorem dX12_writeRow_29 : decode cX12_writeRow 29 = .ok (.invokevirtual 284, 3) := by decide +kernel
theorem dX12_writeRow_32 : decode cX12_writeRow 32 = .ok (.ireturn, 1) := by decide +kernel
theorem dX12_writeCharge_0 : decode cX12_writeCharge 0 = .ok (.aload_n 0, 1) := by decide +kernel
theorem dX12_writeCharge_1 : decode cX12_writeCharge 1 = .ok (.getfield 10, 3) := by decide +kernel
theorem dX12_writeCharge_4 : decode cX12_writeCharge 4 = .ok (.iload_n 1, 1) := by decide +kernel
theorem dX12_writeCharge_5 : decode cX12_writeCharge 5 = .ok (.invokevirtual 170, 3) := by decide +kernel
theorem dX12_writeCharge_8 : decode cX12_writeCharge 8 = .ok (.ifCond .ne 13, 3) := by decide +kernel
theorem dX12_writeCharge_11 : decode cX12_writeCharge 11 = .ok (.new 173, 3) := by decide +kernel
theorem dX12_writeCharge_14 : decode cX12_writeCharge 14 = .ok (.dup, 1) := by decide +kernel
theorem dX12_writeCharge_15 : decode cX12_writeCharge 15 = .ok (.ldc 175, 2) := by decide +kernel
theorem dX12_writeCharge_17 : decode cX12_writeCharge 17 = .ok (.invokespecial 177, 3) := by decide +kernel
theorem dX12_writeCharge_20 : decode cX12_writeCharge 20 = .ok (.athrow, 1) := by decide +kernel
theorem dX12_writeCharge_21 : decode cX12_writeCharge 21 = .ok (.aload_n 0, 1) := by decide +kernel
theorem dX12_writeCharge_22 : decode cX12_writeCharge 22 = .ok (.getfield 74, 3) := by decide +kernel
theorem dX12_writeCharge_25 : decode cX12_writeCharge 25 = .ok (.aload_n 0, 1) := by decide +kernel
theorem dX12_writeCharge_26 : decode cX12_writeCharge 26 = .ok (.getfield 10, 3) := by decide +kernel
theorem dX12_writeCharge_29 : decode cX12_writeCharge 29 = .ok (.iload_n 1, 1) := by decide +kernel
theorem dX12_writeCharge_30 : decode cX12_writeCharge 30 = .ok (.invokevirtual 287, 3) := by decide +kernel
theorem dX12_writeCharge_33 : decode cX12_writeCharge 33 = .ok (.ireturn, 1) := by decide +kernel
theorem dX12_lineAt_0 : decode cX12_lineAt 0 = .ok (.aload_n 0, 1) := by decide +kernel
theorem dX12_lineAt_1 : decode cX12_lineAt 1 = .ok (.getfield 74, 3) := by decide +kernel
theorem dX12_lineAt_4 : decode cX12_lineAt 4 = .ok (.iload_n 1, 1) := by decide +kernel
theorem dX12_lineAt_5 : decode cX12_lineAt 5 = .ok (.invokevirtual 290, 3) := by decide +kernel
theorem dX12_lineAt_8 : decode cX12_lineAt 8 = .ok (.ifCond .ne 14, 3) := by decide +kernel
theorem dX12_lineAt_11 : decode cX12_lineAt 11 = .ok (.new 173, 3) := by decide +kernel
theorem dX12_lineAt_14 : decode cX12_lineAt 14 = .ok (.dup, 1) := by decide +kernel
theorem dX12_lineAt_15 : decode cX12_lineAt 15 = .ok (.ldc_w 293, 3) := by decide +kernel
theorem dX12_lineAt_18 : decode cX12_lineAt 18 = .ok (.invokespecial 177, 3) := by decide +kernel
theorem dX12_lineAt_21 : decode cX12_lineAt 21 = .ok (.athrow, 1) := by decide +kernel
theorem dX12_lineAt_22 : decode cX12_lineAt 22 = .ok (.aload_n 0, 1) := by decide +kernel
theorem dX12_lineAt_23 : decode cX12_lineAt 23 = .ok (.getfield 74, 3) := by decide +kernel
theorem dX12_lineAt_26 : decode cX12_lineAt 26 = .ok (.iload_n 1, 1) := by decide +kernel
theorem dX12_lineAt_27 : decode cX12_lineAt 27 = .ok (.invokevirtual 295, 3) := by decide +kernel
theorem dX12_lineAt_30 : decode cX12_lineAt 30 = .ok (.ireturn, 1) := by decide +kernel
theorem dX12_isConsistent_0 : decode cX12_isConsistent 0 = .ok (.aload_n 0, 1) := by decide +kernel
theorem dX12_isConsistent_1 : decode cX12_isConsistent 1 = .ok (.invokevirtual 299, 3) := by decide +kernel
theorem dX12_isConsistent_4 : decode cX12_isConsistent 4 = .ok (.ifCond .eq 46, 3) := by decide +kernel
theorem dX12_isConsistent_7 : decode cX12_isConsistent 7 = .ok (.aload_n 0, 1) := by decide +kernel
theorem dX12_isConsistent_8 : decode cX12_isConsistent 8 = .ok (.invokevirtual 303, 3) := by decide +kernel
theorem dX12_isConsistent_11 : decode cX12_isConsistent 11 = .ok (.ifCond .eq 39, 3) := by decide +kernel
theorem dX12_isConsistent_14 : decode cX12_isConsistent 14 = .ok (.aload_n 0, 1) := by decide +kernel
theorem dX12_isConsistent_15 : decode cX12_isConsistent 15 = .ok (.invokevirtual 306, 3) := by decide +kernel
theorem dX12_isConsistent_18 : decode cX12_isConsistent 18 = .ok (.ifCond .eq 32, 3) := by decide +kernel
theorem dX12_isConsistent_21 : decode cX12_isConsistent 21 = .ok (.aload_n 0, 1) := by decide +kernel
theorem dX12_isConsistent_22 : decode cX12_isConsistent 22 = .ok (.getfield 10, 3) := by decide +kernel
theorem dX12_isConsistent_25 : decode cX12_isConsistent 25 = .ok (.getfield 260, 3) := by decide +kernel
theorem dX12_isConsistent_28 : decode cX12_isConsistent 28 = .ok (.aload_n 0, 1) := by decide +kernel
theorem dX12_isConsistent_29 : decode cX12_isConsistent 29 = .ok (.getfield 10, 3) := by decide +kernel
theorem dX12_isConsistent_32 : decode cX12_isConsistent 32 = .ok (.getfield 263, 3) := by decide +kernel
theorem dX12_isConsistent_35 : decode cX12_isConsistent 35 = .ok (.aload_n 0, 1) := by decide +kernel
theorem dX12_isConsistent_36 : decode cX12_isConsistent 36 = .ok (.getfield 10, 3) := by decide +kernel
theorem dX12_isConsistent_39 : decode cX12_isConsistent 39 = .ok (.getfield 266, 3) := by decide +kernel
theorem dX12_isConsistent_42 : decode cX12_isConsistent 42 = .ok (.isub, 1) := by decide +kernel
theorem dX12_isConsistent_43 : decode cX12_isConsistent 43 = .ok (.if_icmp .ne 7, 3) := by decide +kernel
theorem dX12_isConsistent_46 : decode cX12_isConsistent 46 = .ok (.iconst 1, 1) := by decide +kernel
theorem dX12_isConsistent_47 : decode cX12_isConsistent 47 = .ok (.goto 4, 3) := by decide +kernel
theorem dX12_isConsistent_50 : decode cX12_isConsistent 50 = .ok (.iconst 0, 1) := by decide +kernel
theorem dX12_isConsistent_51 : decode cX12_isConsistent 51 = .ok (.ireturn, 1) := by decide +kernel
theorem dX12_type_0 : decode cX12_type 0 = .ok (.iload_n 1, 1) := by decide +kernel
theorem dX12_type_1 : decode cX12_type 1 = .ok (.bipush 32, 2) := by decide +kernel
theorem dX12_type_3 : decode cX12_type 3 = .ok (.if_icmp .lt 9, 3) := by decide +kernel
theorem dX12_type_6 : decode cX12_type 6 = .ok (.iload_n 1, 1) := by decide +kernel
theorem dX12_type_7 : decode cX12_type 7 = .ok (.bipush 126, 2) := by decide +kernel
theorem dX12_type_9 : decode cX12_type 9 = .ok (.if_icmp .le 14, 3) := by decide +kernel
theorem dX12_type_12 : decode cX12_type 12 = .ok (.new 96, 3) := by decide +kernel
theorem dX12_type_15 : decode cX12_type 15 = .ok (.dup, 1) := by decide +kernel
theorem dX12_type_16 : decode cX12_type 16 = .ok (.ldc_w 293, 3) := by decide +kernel
theorem dX12_type_19 : decode cX12_type 19 = .ok (.invokespecial 100, 3) := by decide +kernel
theorem dX12_type_22 : decode cX12_type 22 = .ok (.athrow, 1) := by decide +kernel
theorem dX12_type_23 : decode cX12_type 23 = .ok (.aload_n 0, 1) := by decide +kernel
theorem dX12_type_24 : decode cX12_type 24 = .ok (.getfield 81, 3) := by decide +kernel
theorem dX12_type_27 : decode cX12_type 27 = .ok (.invokevirtual 309, 3) := by decide +kernel
theorem dX12_type_30 : decode cX12_type 30 = .ok (.ifCond .eq 14, 3) := by decide +kernel
theorem dX12_type_33 : decode cX12_type 33 = .ok (.new 103, 3) := by decide +kernel
theorem dX12_type_36 : decode cX12_type 36 = .ok (.dup, 1) := by decide +kernel
theorem dX12_type_37 : decode cX12_type 37 = .ok (.ldc_w 312, 3) := by decide +kernel
theorem dX12_type_40 : decode cX12_type 40 = .ok (.invokespecial 107, 3) := by decide +kernel
theorem dX12_type_43 : decode cX12_type 43 = .ok (.athrow, 1) := by decide +kernel
theorem dX12_type_44 : decode cX12_type 44 = .ok (.aload_n 0, 1) := by decide +kernel
theorem dX12_type_45 : decode cX12_type 45 = .ok (.getfield 81, 3) := by decide +kernel
theorem dX12_type_48 : decode cX12_type 48 = .ok (.iload_n 1, 1) := by decide +kernel
theorem dX12_type_49 : decode cX12_type 49 = .ok (.invokevirtual 314, 3) := by decide +kernel
theorem dX12_type_52 : decode cX12_type 52 = .ok (.ireturn, 1) := by decide +kernel
theorem dX12_execute_0 : decode cX12_execute 0 = .ok (.aload_n 0, 1) := by decide +kernel
theorem dX12_execute_1 : decode cX12_execute 1 = .ok (.getfield 81, 3) := by decide +kernel
theorem dX12_execute_4 : decode cX12_execute 4 = .ok (.invokevirtual 318, 3) := by decide +kernel
theorem dX12_execute_7 : decode cX12_execute 7 = .ok (.istore_n 1, 1) := by decide +kernel
theorem dX12_execute_8 : decode cX12_execute 8 = .ok (.aload_n 0, 1) := by decide +kernel
theorem dX12_execute_9 : decode cX12_execute 9 = .ok (.getfield 81, 3) := by decide +kernel
theorem dX12_execute_12 : decode cX12_execute 12 = .ok (.invokevirtual 321, 3) := by decide +kernel
theorem dX12_execute_15 : decode cX12_execute 15 = .ok (.iload_n 1, 1) := by decide +kernel
theorem dX12_execute_16 : decode cX12_execute 16 = .ok (.iconst (-1), 1) := by decide +kernel
theorem dX12_execute_17 : decode cX12_execute 17 = .ok (.if_icmp .eq 19, 3) := by decide +kernel
theorem dX12_execute_20 : decode cX12_execute 20 = .ok (.aload_n 0, 1) := by decide +kernel
theorem dX12_execute_21 : decode cX12_execute 21 = .ok (.iload_n 1, 1) := by decide +kernel
theorem dX12_execute_22 : decode cX12_execute 22 = .ok (.putfield 85, 3) := by decide +kernel
theorem dX12_execute_25 : decode cX12_execute 25 = .ok (.new 96, 3) := by decide +kernel
theorem dX12_execute_28 : decode cX12_execute 28 = .ok (.dup, 1) := by decide +kernel
theorem dX12_execute_29 : decode cX12_execute 29 = .ok (.ldc_w 324, 3) := by decide +kernel
theorem dX12_execute_32 : decode cX12_execute 32 = .ok (.invokespecial 100, 3) := by decide +kernel
theorem dX12_execute_35 : decode cX12_execute 35 = .ok (.athrow, 1) := by decide +kernel
theorem dX12_execute_36 : decode cX12_execute 36 = .ok (.aload_n 0, 1) := by decide +kernel
theorem dX12_execute_37 : decode cX12_execute 37 = .ok (.getfield 16, 3) := by decide +kernel
theorem dX12_execute_40 : decode cX12_execute 40 = .ok (.aload_n 0, 1) := by decide +kernel
theorem dX12_execute_41 : decode cX12_execute 41 = .ok (.getfield 10, 3) := by decide +kernel
theorem dX12_execute_44 : decode cX12_execute 44 = .ok (.invokevirtual 326, 3) := by decide +kernel
theorem dX12_execute_47 : decode cX12_execute 47 = .ok (.iconst 0, 1) := by decide +kernel
theorem dX12_execute_48 : decode cX12_execute 48 = .ok (.istore_n 2, 1) := by decide +kernel
theorem dX12_execute_49 : decode cX12_execute 49 = .ok (.iload_n 2, 1) := by decide +kernel
theorem dX12_execute_50 : decode cX12_execute 50 = .ok (.aload_n 0, 1) := by decide +kernel
theorem dX12_execute_51 : decode cX12_execute 51 = .ok (.getfield 81, 3) := by decide +kernel
theorem dX12_execute_54 : decode cX12_execute 54 = .ok (.getfield 329, 3) := by decide +kernel
theorem dX12_execute_57 : decode cX12_execute 57 = .ok (.if_icmp .ge 52, 3) := by decide +kernel
theorem dX12_execute_60 : decode cX12_execute 60 = .ok (.aload_n 0, 1) := by decide +kernel
theorem dX12_execute_61 : decode cX12_execute 61 = .ok (.aload_n 0, 1) := by decide +kernel
theorem dX12_execute_62 : decode cX12_execute 62 = .ok (.getfield 81, 3) := by decide +kernel
theorem dX12_execute_65 : decode cX12_execute 65 = .ok (.iload_n 2, 1) := by decide +kernel
theorem dX12_execute_66 : decode cX12_execute 66 = .ok (.invokevirtual 332, 3) := by decide +kernel
theorem dX12_execute_69 : decode cX12_execute 69 = .ok (.iload_n 2, 1) := by decide +kernel
theorem dX12_execute_70 : decode cX12_execute 70 = .ok (.invokevirtual 336, 3) := by decide +kernel
theorem dX12_execute_73 : decode cX12_execute 73 = .ok (.ifCond .ne 30, 3) := by decide +kernel
theorem dX12_execute_76 : decode cX12_execute 76 = .ok (.aload_n 0, 1) := by decide +kernel
theorem dX12_execute_77 : decode cX12_execute 77 = .ok (.getfield 10, 3) := by decide +kernel
theorem dX12_execute_80 : decode cX12_execute 80 = .ok (.aload_n 0, 1) := by decide +kernel
theorem dX12_execute_81 : decode cX12_execute 81 = .ok (.getfield 16, 3) := by decide +kernel
theorem dX12_execute_84 : decode cX12_execute 84 = .ok (.invokevirtual 326, 3) := by decide +kernel
theorem dX12_execute_87 : decode cX12_execute 87 = .ok (.aload_n 0, 1) := by decide +kernel
theorem dX12_execute_88 : decode cX12_execute 88 = .ok (.iload_n 2, 1) := by decide +kernel
theorem dX12_execute_89 : decode cX12_execute 89 = .ok (.putfield 89, 3) := by decide +kernel
theorem dX12_execute_92 : decode cX12_execute 92 = .ok (.new 103, 3) := by decide +kernel
theorem dX12_execute_95 : decode cX12_execute 95 = .ok (.dup, 1) := by decide +kernel
theorem dX12_execute_96 : decode cX12_execute 96 = .ok (.ldc_w 340, 3) := by decide +kernel
theorem dX12_execute_99 : decode cX12_execute 99 = .ok (.invokespecial 107, 3) := by decide +kernel
theorem dX12_execute_102 : decode cX12_execute 102 = .ok (.athrow, 1) := by decide +kernel
theorem dX12_execute_103 : decode cX12_execute 103 = .ok (.iinc 2 1, 3) := by decide +kernel
theorem dX12_execute_106 : decode cX12_execute 106 = .ok (.goto (-57), 3) := by decide +kernel
theorem dX12_execute_109 : decode cX12_execute 109 = .ok (.aload_n 0, 1) := by decide +kernel
theorem dX12_execute_110 : decode cX12_execute 110 = .ok (.getfield 25, 3) := by decide +kernel
theorem dX12_execute_113 : decode cX12_execute 113 = .ok (.aload_n 0, 1) := by decide +kernel
theorem dX12_execute_114 : decode cX12_execute 114 = .ok (.getfield 16, 3) := by decide +kernel
theorem dX12_execute_117 : decode cX12_execute 117 = .ok (.invokevirtual 108, 3) := by decide +kernel
theorem dX12_execute_120 : decode cX12_execute 120 = .ok (.aload_n 0, 1) := by decide +kernel
theorem dX12_execute_121 : decode cX12_execute 121 = .ok (.getfield 81, 3) := by decide +kernel
theorem dX12_execute_124 : decode cX12_execute 124 = .ok (.getfield 329, 3) := by decide +kernel
theorem dX12_execute_127 : decode cX12_execute 127 = .ok (.ireturn, 1) := by decide +kernel
theorem dX12_errorPosition_0 : decode cX12_errorPosition 0 = .ok (.aload_n 0, 1) := by decide +kernel
theorem dX12_errorPosition_1 : decode cX12_errorPosition 1 = .ok (.getfield 85, 3) := by decide +kernel
theorem dX12_errorPosition_4 : decode cX12_errorPosition 4 = .ok (.iconst (-1), 1) := by decide +kernel
theorem dX12_errorPosition_5 : decode cX12_errorPosition 5 = .ok (.if_icmp .ne 14, 3) := by decide +kernel
theorem dX12_errorPosition_8 : decode cX12_errorPosition 8 = .ok (.new 206, 3) := by decide +kernel
theorem dX12_errorPosition_11 : decode cX12_errorPosition 11 = .ok (.dup, 1) := by decide +kernel
theorem dX12_errorPosition_12 : decode cX12_errorPosition 12 = .ok (.ldc_w 342, 3) := by decide +kernel
theorem dX12_errorPosition_15 : decode cX12_errorPosition 15 = .ok (.invokespecial 210, 3) := by decide +kernel
theorem dX12_errorPosition_18 : decode cX12_errorPosition 18 = .ok (.athrow, 1) := by decide +kernel
theorem dX12_errorPosition_19 : decode cX12_errorPosition 19 = .ok (.aload_n 0, 1) := by decide +kernel
theorem dX12_errorPosition_20 : decode cX12_errorPosition 20 = .ok (.getfield 85, 3) := by decide +kernel
theorem dX12_errorPosition_23 : decode cX12_errorPosition 23 = .ok (.ireturn, 1) := by decide +kernel
theorem dX12_failedCommand_0 : decode cX12_failedCommand 0 = .ok (.aload_n 0, 1) := by decide +kernel
theorem dX12_failedCommand_1 : decode cX12_failedCommand 1 = .ok (.getfield 89, 3) := by decide +kernel
theorem dX12_failedCommand_4 : decode cX12_failedCommand 4 = .ok (.iconst (-1), 1) := by decide +kernel
theorem dX12_failedCommand_5 : decode cX12_failedCommand 5 = .ok (.if_icmp .ne 14, 3) := by decide +kernel
theorem dX12_failedCommand_8 : decode cX12_failedCommand 8 = .ok (.new 206, 3) := by decide +kernel
theorem dX12_failedCommand_11 : decode cX12_failedCommand 11 = .ok (.dup, 1) := by decide +kernel
theorem dX12_failedCommand_12 : decode cX12_failedCommand 12 = .ok (.ldc_w 344, 3) := by decide +kernel
theorem dX12_failedCommand_15 : decode cX12_failedCommand 15 = .ok (.invokespecial 210, 3) := by decide +kernel
theorem dX12_failedCommand_18 : decode cX12_failedCommand 18 = .ok (.athrow, 1) := by decide +kernel
theorem dX12_failedCommand_19 : decode cX12_failedCommand 19 = .ok (.aload_n 0, 1) := by decide +kernel
theorem dX12_failedCommand_20 : decode cX12_failedCommand 20 = .ok (.getfield 89, 3) := by decide +kernel
theorem dX12_failedCommand_23 : decode cX12_failedCommand 23 = .ok (.ireturn, 1) := by decide +kernel
theorem dX12_undo_0 : decode cX12_undo 0 = .ok (.aload_n 0, 1) := by decide +kernel
theorem dX12_undo_1 : decode cX12_undo 1 = .ok (.getfield 25, 3) := by decide +kernel
theorem dX12_undo_4 : decode cX12_undo 4 = .ok (.getfield 346, 3) := by decide +kernel
theorem dX12_undo_7 : decode cX12_undo 7 = .ok (.ifCond .ne 14, 3) := by decide +kernel
theorem dX12_undo_10 : decode cX12_undo 10 = .ok (.new 103, 3) := by decide +kernel
theorem dX12_undo_13 : decode cX12_undo 13 = .ok (.dup, 1) := by decide +kernel
theorem dX12_undo_14 : decode cX12_undo 14 = .ok (.ldc_w 349, 3) := by decide +kernel
theorem dX12_undo_17 : decode cX12_undo 17 = .ok (.invokespecial 107, 3) := by decide +kernel
theorem dX12_undo_20 : decode cX12_undo 20 = .ok (.athrow, 1) := by decide +kernel
theorem dX12_undo_21 : decode cX12_undo 21 = .ok (.aload_n 0, 1) := by decide +kernel
theorem dX12_undo_22 : decode cX12_undo 22 = .ok (.getfield 25, 3) := by decide +kernel
theorem dX12_undo_25 : decode cX12_undo 25 = .ok (.aload_n 0, 1) := by decide +kernel
theorem dX12_undo_26 : decode cX12_undo 26 = .ok (.getfield 10, 3) := by decide +kernel
theorem dX12_undo_29 : decode cX12_undo 29 = .ok (.invokevirtual 351, 3) := by decide +kernel
theorem dX12_undo_32 : decode cX12_undo 32 = .ok (.ireturn, 1) := by decide +kernel
theorem dX12_save_0 : decode cX12_save 0 = .ok (.aload_n 0, 1) := by decide +kernel
theorem dX12_save_1 : decode cX12_save 1 = .ok (.getfield 19, 3) := by decide +kernel
theorem dX12_save_4 : decode cX12_save 4 = .ok (.aload_n 0, 1) := by decide +kernel
theorem dX12_save_5 : decode cX12_save 5 = .ok (.getfield 10, 3) := by decide +kernel
theorem dX12_save_8 : decode cX12_save 8 = .ok (.invokevirtual 326, 3) := by decide +kernel
theorem dX12_save_11 : decode cX12_save 11 = .ok (.aload_n 0, 1) := by decide +kernel
theorem dX12_save_12 : decode cX12_save 12 = .ok (.iconst 1, 1) := by decide +kernel
theorem dX12_save_13 : decode cX12_save 13 = .ok (.putfield 354, 3) := by decide +kernel
theorem dX12_save_16 : decode cX12_save 16 = .ok (.aload_n 0, 1) := by decide +kernel
theorem dX12_save_17 : decode cX12_save 17 = .ok (.getfield 10, 3) := by decide +kernel
theorem dX12_save_20 : decode cX12_save 20 = .ok (.getfield 184, 3) := by decide +kernel
theorem dX12_save_23 : decode cX12_save 23 = .ok (.ireturn, 1) := by decide +kernel
theorem dX12_restore_0 : decode cX12_restore 0 = .ok (.aload_n 0, 1) := by decide +kernel
theorem dX12_restore_1 : decode cX12_restore 1 = .ok (.getfield 354, 3) := by decide +kernel
theorem dX12_restore_4 : decode cX12_restore 4 = .ok (.ifCond .ne 14, 3) := by decide +kernel
theorem dX12_restore_7 : decode cX12_restore 7 = .ok (.new 103, 3) := by decide +kernel
theorem dX12_restore_10 : decode cX12_restore 10 = .ok (.dup, 1) := by decide +kernel
theorem dX12_restore_11 : decode cX12_restore 11 = .ok (.ldc_w 358, 3) := by decide +kernel
theorem dX12_restore_14 : decode cX12_restore 14 = .ok (.invokespecial 107, 3) := by decide +kernel
theorem dX12_restore_17 : decode cX12_restore 17 = .ok (.athrow, 1) := by decide +kernel
theorem dX12_restore_18 : decode cX12_restore 18 = .ok (.aload_n 0, 1) := by decide +kernel
theorem dX12_restore_19 : decode cX12_restore 19 = .ok (.getfield 10, 3) := by decide +kernel
theorem dX12_restore_22 : decode cX12_restore 22 = .ok (.aload_n 0, 1) := by decide +kernel
theorem dX12_restore_23 : decode cX12_restore 23 = .ok (.getfield 19, 3) := by decide +kernel
theorem dX12_restore_26 : decode cX12_restore 26 = .ok (.invokevirtual 326, 3) := by decide +kernel
theorem dX12_restore_29 : decode cX12_restore 29 = .ok (.aload_n 0, 1) := by decide +kernel
theorem dX12_restore_30 : decode cX12_restore 30 = .ok (.getfield 25, 3) := by decide +kernel
theorem dX12_restore_33 : decode cX12_restore 33 = .ok (.invokevirtual 360, 3) := by decide +kernel
theorem dX12_restore_36 : decode cX12_restore 36 = .ok (.aload_n 0, 1) := by decide +kernel
theorem dX12_restore_37 : decode cX12_restore 37 = .ok (.getfield 10, 3) := by decide +kernel
theorem dX12_restore_40 : decode cX12_restore 40 = .ok (.getfield 184, 3) := by decide +kernel
theorem dX12_restore_43 : decode cX12_restore 43 = .ok (.ireturn, 1) := by decide +kernel
theorem dX12_blowUp_0 : decode cX12_blowUp 0 = .ok (.aload_n 0, 1) := by decide +kernel
theorem dX12_blowUp_1 : decode cX12_blowUp 1 = .ok (.getfield 39, 3) := by decide +kernel
theorem dX12_blowUp_4 : decode cX12_blowUp 4 = .ok (.aload_n 0, 1) := by decide +kernel
theorem dX12_blowUp_5 : decode cX12_blowUp 5 = .ok (.getfield 10, 3) := by decide +kernel
theorem dX12_blowUp_8 : decode cX12_blowUp 8 = .ok (.iload_n 1, 1) := by decide +kernel
theorem dX12_blowUp_9 : decode cX12_blowUp 9 = .ok (.invokevirtual 193, 3) := by decide +kernel
theorem dX12_blowUp_12 : decode cX12_blowUp 12 = .ok (.aload_n 0, 1) := by decide +kernel
theorem dX12_blowUp_13 : decode cX12_blowUp 13 = .ok (.getfield 10, 3) := by decide +kernel
theorem dX12_blowUp_16 : decode cX12_blowUp 16 = .ok (.aload_n 0, 1) := by decide +kernel
theorem dX12_blowUp_17 : decode cX12_blowUp 17 = .ok (.getfield 39, 3) := by decide +kernel
theorem dX12_blowUp_20 : decode cX12_blowUp 20 = .ok (.invokevirtual 363, 3) := by decide +kernel
theorem dX12_blowUp_23 : decode cX12_blowUp 23 = .ok (.aload_n 0, 1) := by decide +kernel
theorem dX12_blowUp_24 : decode cX12_blowUp 24 = .ok (.getfield 39, 3) := by decide +kernel
theorem dX12_blowUp_27 : decode cX12_blowUp 27 = .ok (.getfield 203, 3) := by decide +kernel
theorem dX12_blowUp_30 : decode cX12_blowUp 30 = .ok (.ireturn, 1) := by decide +kernel
theorem dX12_sellBar_0 : decode cX12_sellBar 0 = .ok (.aload_n 0, 1) := by decide +kernel
theorem dX12_sellBar_1 : decode cX12_sellBar 1 = .ok (.getfield 67, 3) := by decide +kernel
theorem dX12_sellBar_4 : decode cX12_sellBar 4 = .ok (.aload_n 0, 1) := by decide +kernel
theorem dX12_sellBar_5 : decode cX12_sellBar 5 = .ok (.getfield 10, 3) := by decide +kernel
theorem dX12_sellBar_8 : decode cX12_sellBar 8 = .ok (.iload_n 1, 1) := by decide +kernel
theorem dX12_sellBar_9 : decode cX12_sellBar 9 = .ok (.invokevirtual 243, 3) := by decide +kernel
theorem dX12_sellBar_12 : decode cX12_sellBar 12 = .ok (.istore_n 2, 1) := by decide +kernel
theorem dX12_sellBar_13 : decode cX12_sellBar 13 = .ok (.aload_n 0, 1) := by decide +kernel
theorem dX12_sellBar_14 : decode cX12_sellBar 14 = .ok (.getfield 10, 3) := by decide +kernel
theorem dX12_sellBar_17 : decode cX12_sellBar 17 = .ok (.iload_n 1, 1) := by decide +kernel
theorem dX12_sellBar_18 : decode cX12_sellBar 18 = .ok (.iload_n 2, 1) := by decide +kernel
theorem dX12_sellBar_19 : decode cX12_sellBar 19 = .ok (.invokevirtual 367, 3) := by decide +kernel
theorem dX12_sellBar_22 : decode cX12_sellBar 22 = .ok (.iload_n 2, 1) := by decide +kernel
theorem dX12_sellBar_23 : decode cX12_sellBar 23 = .ok (.ireturn, 1) := by decide +kernel
theorem dX12_chainsAgree_0 : decode cX12_chainsAgree 0 = .ok (.iconst 0, 1) := by decide +kernel
theorem dX12_chainsAgree_1 : decode cX12_chainsAgree 1 = .ok (.istore_n 1, 1) := by decide +kernel
theorem dX12_chainsAgree_2 : decode cX12_chainsAgree 2 = .ok (.iload_n 1, 1) := by decide +kernel
theorem dX12_chainsAgree_3 : decode cX12_chainsAgree 3 = .ok (.aload_n 0, 1) := by decide +kernel
theorem dX12_chainsAgree_4 : decode cX12_chainsAgree 4 = .ok (.getfield 10, 3) := by decide +kernel
theorem dX12_chainsAgree_7 : decode cX12_chainsAgree 7 = .ok (.getfield 184, 3) := by decide +kernel
theorem dX12_chainsAgree_10 : decode cX12_chainsAgree 10 = .ok (.if_icmp .ge 47, 3) := by decide +kernel
theorem dX12_chainsAgree_13 : decode cX12_chainsAgree 13 = .ok (.aload_n 0, 1) := by decide +kernel
theorem dX12_chainsAgree_14 : decode cX12_chainsAgree 14 = .ok (.getfield 39, 3) := by decide +kernel
theorem dX12_chainsAgree_17 : decode cX12_chainsAgree 17 = .ok (.aload_n 0, 1) := by decide +kernel
theorem dX12_chainsAgree_18 : decode cX12_chainsAgree 18 = .ok (.getfield 10, 3) := by decide +kernel
theorem dX12_chainsAgree_21 : decode cX12_chainsAgree 21 = .ok (.iload_n 1, 1) := by decide +kernel
theorem dX12_chainsAgree_22 : decode cX12_chainsAgree 22 = .ok (.invokevirtual 200, 3) := by decide +kernel
theorem dX12_chainsAgree_25 : decode cX12_chainsAgree 25 = .ok (.istore_n 2, 1) := by decide +kernel
theorem dX12_chainsAgree_26 : decode cX12_chainsAgree 26 = .ok (.aload_n 0, 1) := by decide +kernel
theorem dX12_chainsAgree_27 : decode cX12_chainsAgree 27 = .ok (.getfield 39, 3) := by decide +kernel
theorem dX12_chainsAgree_30 : decode cX12_chainsAgree 30 = .ok (.aload_n 0, 1) := by decide +kernel
theorem dX12_chainsAgree_31 : decode cX12_chainsAgree 31 = .ok (.getfield 10, 3) := by decide +kernel
theorem dX12_chainsAgree_34 : decode cX12_chainsAgree 34 = .ok (.iload_n 1, 1) := by decide +kernel
theorem dX12_chainsAgree_35 : decode cX12_chainsAgree 35 = .ok (.invokevirtual 193, 3) := by decide +kernel
theorem dX12_chainsAgree_38 : decode cX12_chainsAgree 38 = .ok (.aload_n 0, 1) := by decide +kernel
theorem dX12_chainsAgree_39 : decode cX12_chainsAgree 39 = .ok (.getfield 39, 3) := by decide +kernel
theorem dX12_chainsAgree_42 : decode cX12_chainsAgree 42 = .ok (.getfield 197, 3) := by decide +kernel
theorem dX12_chainsAgree_45 : decode cX12_chainsAgree 45 = .ok (.iload_n 2, 1) := by decide +kernel
theorem dX12_chainsAgree_46 : decode cX12_chainsAgree 46 = .ok (.if_icmp .eq 5, 3) := by decide +kernel
theorem dX12_chainsAgree_49 : decode cX12_chainsAgree 49 = .ok (.iconst 0, 1) := by decide +kernel
theorem dX12_chainsAgree_50 : decode cX12_chainsAgree 50 = .ok (.ireturn, 1) := by decide +kernel
theorem dX12_chainsAgree_51 : decode cX12_chainsAgree 51 = .ok (.iinc 1 1, 3) := by decide +kernel
theorem dX12_chainsAgree_54 : decode cX12_chainsAgree 54 = .ok (.goto (-52), 3) := by decide +kernel
theorem dX12_chainsAgree_57 : decode cX12_chainsAgree 57 = .ok (.iconst 1, 1) := by decide +kernel
theorem dX12_chainsAgree_58 : decode cX12_chainsAgree 58 = .ok (.ireturn, 1) := by decide +kernel
theorem dX12_wallAnswersAgree_0 : decode cX12_wallAnswersAgree 0 = .ok (.aload_n 0, 1) := by decide +kernel
theorem dX12_wallAnswersAgree_1 : decode cX12_wallAnswersAgree 1 = .ok (.getfield 46, 3) := by decide +kernel
theorem dX12_wallAnswersAgree_4 : decode cX12_wallAnswersAgree 4 = .ok (.aload_n 0, 1) := by decide +kernel
theorem dX12_wallAnswersAgree_5 : decode cX12_wallAnswersAgree 5 = .ok (.getfield 10, 3) := by decide +kernel
theorem dX12_wallAnswersAgree_8 : decode cX12_wallAnswersAgree 8 = .ok (.invokevirtual 211, 3) := by decide +kernel
theorem dX12_wallAnswersAgree_11 : decode cX12_wallAnswersAgree 11 = .ok (.aload_n 0, 1) := by decide +kernel
theorem dX12_wallAnswersAgree_12 : decode cX12_wallAnswersAgree 12 = .ok (.getfield 46, 3) := by decide +kernel
theorem dX12_wallAnswersAgree_15 : decode cX12_wallAnswersAgree 15 = .ok (.aload_n 0, 1) := by decide +kernel
theorem dX12_wallAnswersAgree_16 : decode cX12_wallAnswersAgree 16 = .ok (.getfield 10, 3) := by decide +kernel
theorem dX12_wallAnswersAgree_19 : decode cX12_wallAnswersAgree 19 = .ok (.invokevirtual 215, 3) := by decide +kernel
theorem dX12_wallAnswersAgree_22 : decode cX12_wallAnswersAgree 22 = .ok (.if_icmp .ne 57, 3) := by decide +kernel
theorem dX12_wallAnswersAgree_25 : decode cX12_wallAnswersAgree 25 = .ok (.aload_n 0, 1) := by decide +kernel
theorem dX12_wallAnswersAgree_26 : decode cX12_wallAnswersAgree 26 = .ok (.getfield 53, 3) := by decide +kernel
theorem dX12_wallAnswersAgree_29 : decode cX12_wallAnswersAgree 29 = .ok (.aload_n 0, 1) := by decide +kernel
theorem dX12_wallAnswersAgree_30 : decode cX12_wallAnswersAgree 30 = .ok (.getfield 10, 3) := by decide +kernel
theorem dX12_wallAnswersAgree_33 : decode cX12_wallAnswersAgree 33 = .ok (.invokevirtual 218, 3) := by decide +kernel
theorem dX12_wallAnswersAgree_36 : decode cX12_wallAnswersAgree 36 = .ok (.aload_n 0, 1) := by decide +kernel
theorem dX12_wallAnswersAgree_37 : decode cX12_wallAnswersAgree 37 = .ok (.getfield 53, 3) := by decide +kernel
theorem dX12_wallAnswersAgree_40 : decode cX12_wallAnswersAgree 40 = .ok (.aload_n 0, 1) := by decide +kernel
theorem dX12_wallAnswersAgree_41 : decode cX12_wallAnswersAgree 41 = .ok (.getfield 10, 3) := by decide +kernel
theorem dX12_wallAnswersAgree_44 : decode cX12_wallAnswersAgree 44 = .ok (.invokevirtual 221, 3) := by decide +kernel
theorem dX12_wallAnswersAgree_47 : decode cX12_wallAnswersAgree 47 = .ok (.if_icmp .ne 32, 3) := by decide +kernel
theorem dX12_wallAnswersAgree_50 : decode cX12_wallAnswersAgree 50 = .ok (.aload_n 0, 1) := by decide +kernel
theorem dX12_wallAnswersAgree_51 : decode cX12_wallAnswersAgree 51 = .ok (.getfield 60, 3) := by decide +kernel
theorem dX12_wallAnswersAgree_54 : decode cX12_wallAnswersAgree 54 = .ok (.aload_n 0, 1) := by decide +kernel
theorem dX12_wallAnswersAgree_55 : decode cX12_wallAnswersAgree 55 = .ok (.getfield 10, 3) := by decide +kernel
theorem dX12_wallAnswersAgree_58 : decode cX12_wallAnswersAgree 58 = .ok (.invokevirtual 224, 3) := by decide +kernel
theorem dX12_wallAnswersAgree_61 : decode cX12_wallAnswersAgree 61 = .ok (.aload_n 0, 1) := by decide +kernel
theorem dX12_wallAnswersAgree_62 : decode cX12_wallAnswersAgree 62 = .ok (.getfield 60, 3) := by decide +kernel
theorem dX12_wallAnswersAgree_65 : decode cX12_wallAnswersAgree 65 = .ok (.aload_n 0, 1) := by decide +kernel
theorem dX12_wallAnswersAgree_66 : decode cX12_wallAnswersAgree 66 = .ok (.getfield 10, 3) := by decide +kernel
theorem dX12_wallAnswersAgree_69 : decode cX12_wallAnswersAgree 69 = .ok (.invokevirtual 227, 3) := by decide +kernel
theorem dX12_wallAnswersAgree_72 : decode cX12_wallAnswersAgree 72 = .ok (.if_icmp .ne 7, 3) := by decide +kernel
theorem dX12_wallAnswersAgree_75 : decode cX12_wallAnswersAgree 75 = .ok (.iconst 1, 1) := by decide +kernel
theorem dX12_wallAnswersAgree_76 : decode cX12_wallAnswersAgree 76 = .ok (.goto 4, 3) := by decide +kernel
theorem dX12_wallAnswersAgree_79 : decode cX12_wallAnswersAgree 79 = .ok (.iconst 0, 1) := by decide +kernel
theorem dX12_wallAnswersAgree_80 : decode cX12_wallAnswersAgree 80 = .ok (.ireturn, 1) := by decide +kernel
theorem dX12_cutsAgree_0 : decode cX12_cutsAgree 0 = .ok (.iconst 1, 1) := by decide +kernel
theorem dX12_cutsAgree_1 : decode cX12_cutsAgree 1 = .ok (.istore_n 1, 1) := by decide +kernel
theorem dX12_cutsAgree_2 : decode cX12_cutsAgree 2 = .ok (.iload_n 1, 1) := by decide +kernel
theorem dX12_cutsAgree_3 : decode cX12_cutsAgree 3 = .ok (.bipush 12, 2) := by decide +kernel
theorem dX12_cutsAgree_5 : decode cX12_cutsAgree 5 = .ok (.if_icmp .gt 36, 3) := by decide +kernel
theorem dX12_cutsAgree_8 : decode cX12_cutsAgree 8 = .ok (.aload_n 0, 1) := by decide +kernel
theorem dX12_cutsAgree_9 : decode cX12_cutsAgree 9 = .ok (.getfield 10, 3) := by decide +kernel
theorem dX12_cutsAgree_12 : decode cX12_cutsAgree 12 = .ok (.iload_n 1, 1) := by decide +kernel
theorem dX12_cutsAgree_13 : decode cX12_cutsAgree 13 = .ok (.invokestatic 246, 3) := by decide +kernel
theorem dX12_cutsAgree_16 : decode cX12_cutsAgree 16 = .ok (.istore_n 2, 1) := by decide +kernel
theorem dX12_cutsAgree_17 : decode cX12_cutsAgree 17 = .ok (.aload_n 0, 1) := by decide +kernel
theorem dX12_cutsAgree_18 : decode cX12_cutsAgree 18 = .ok (.getfield 67, 3) := by decide +kernel
theorem dX12_cutsAgree_21 : decode cX12_cutsAgree 21 = .ok (.aload_n 0, 1) := by decide +kernel
theorem dX12_cutsAgree_22 : decode cX12_cutsAgree 22 = .ok (.getfield 10, 3) := by decide +kernel
theorem dX12_cutsAgree_25 : decode cX12_cutsAgree 25 = .ok (.iload_n 1, 1) := by decide +kernel
theorem dX12_cutsAgree_26 : decode cX12_cutsAgree 26 = .ok (.invokevirtual 243, 3) := by decide +kernel
theorem dX12_cutsAgree_29 : decode cX12_cutsAgree 29 = .ok (.iload_n 2, 1) := by decide +kernel
theorem dX12_cutsAgree_30 : decode cX12_cutsAgree 30 = .ok (.if_icmp .eq 5, 3) := by decide +kernel
theorem dX12_cutsAgree_33 : decode cX12_cutsAgree 33 = .ok (.iconst 0, 1) := by decide +kernel
theorem dX12_cutsAgree_34 : decode cX12_cutsAgree 34 = .ok (.ireturn, 1) := by decide +kernel
theorem dX12_cutsAgree_35 : decode cX12_cutsAgree 35 = .ok (.iinc 1 1, 3) := by decide +kernel
theorem dX12_cutsAgree_38 : decode cX12_cutsAgree 38 = .ok (.goto (-36), 3) := by decide +kernel
theorem dX12_cutsAgree_41 : decode cX12_cutsAgree 41 = .ok (.iconst 1, 1) := by decide +kernel
theorem dX12_cutsAgree_42 : decode cX12_cutsAgree 42 = .ok (.ireturn, 1) := by decide +kernel
theorem dX12_carryOut_0 : decode cX12_carryOut 0 = .ok (.aload_n 1, 1) := by decide +kernel
theorem dX12_carryOut_1 : decode cX12_carryOut 1 = .ok (.ifnonnull 5, 3) := by decide +kernel
theorem dX12_carryOut_4 : decode cX12_carryOut 4 = .ok (.iconst 0, 1) := by decide +kernel
theorem dX12_carryOut_5 : decode cX12_carryOut 5 = .ok (.ireturn, 1) := by decide +kernel
theorem dX12_carryOut_6 : decode cX12_carryOut 6 = .ok (.aload_n 0, 1) := by decide +kernel
theorem dX12_carryOut_7 : decode cX12_carryOut 7 = .ok (.getfield 81, 3) := by decide +kernel
theorem dX12_carryOut_10 : decode cX12_carryOut 10 = .ok (.iload_n 2, 1) := by decide +kernel
theorem dX12_carryOut_11 : decode cX12_carryOut 11 = .ok (.iconst 0, 1) := by decide +kernel
theorem dX12_carryOut_12 : decode cX12_carryOut 12 = .ok (.invokevirtual 371, 3) := by decide +kernel
theorem dX12_carryOut_15 : decode cX12_carryOut 15 = .ok (.istore_n 3, 1) := by decide +kernel
theorem dX12_carryOut_16 : decode cX12_carryOut 16 = .ok (.aload_n 0, 1) := by decide +kernel
theorem dX12_carryOut_17 : decode cX12_carryOut 17 = .ok (.getfield 81, 3) := by decide +kernel
theorem dX12_carryOut_20 : decode cX12_carryOut 20 = .ok (.iload_n 2, 1) := by decide +kernel
theorem dX12_carryOut_21 : decode cX12_carryOut 21 = .ok (.iconst 1, 1) := by decide +kernel
theorem dX12_carryOut_22 : decode cX12_carryOut 22 = .ok (.invokevirtual 371, 3) := by decide +kernel
theorem dX12_carryOut_25 : decode cX12_carryOut 25 = .ok (.istore 4, 2) := by decide +kernel
theorem dX12_carryOut_27 : decode cX12_carryOut 27 = .ok (.aload_n 0, 1) := by decide +kernel
theorem dX12_carryOut_28 : decode cX12_carryOut 28 = .ok (.getfield 81, 3) := by decide +kernel
theorem dX12_carryOut_31 : decode cX12_carryOut 31 = .ok (.iload_n 2, 1) := by decide +kernel
theorem dX12_carryOut_32 : decode cX12_carryOut 32 = .ok (.iconst 2, 1) := by decide +kernel
theorem dX12_carryOut_33 : decode cX12_carryOut 33 = .ok (.invokevirtual 371, 3) := by decide +kernel
theorem dX12_carryOut_36 : decode cX12_carryOut 36 = .ok (.istore 5, 2) := by decide +kernel
theorem dX12_carryOut_38 : decode cX12_carryOut 38 = .ok (.aload_n 0, 1) := by decide +kernel
theorem dX12_carryOut_39 : decode cX12_carryOut 39 = .ok (.aload_n 1, 1) := by decide +kernel
theorem dX12_carryOut_40 : decode cX12_carryOut 40 = .ok (.iload_n 3, 1) := by decide +kernel
theorem dX12_carryOut_41 : decode cX12_carryOut 41 = .ok (.iload 4, 2) := by decide +kernel
theorem dX12_carryOut_43 : decode cX12_carryOut 43 = .ok (.iload 5, 2) := by decide +kernel
theorem dX12_carryOut_45 : decode cX12_carryOut 45 = .ok (.invokevirtual 374, 3) := by decide +kernel
theorem dX12_carryOut_48 : decode cX12_carryOut 48 = .ok (.ifCond .eq 5, 3) := by decide +kernel
theorem dX12_carryOut_51 : decode cX12_carryOut 51 = .ok (.iconst 0, 1) := by decide +kernel
theorem dX12_carryOut_52 : decode cX12_carryOut 52 = .ok (.ireturn, 1) := by decide +kernel
theorem dX12_carryOut_53 : decode cX12_carryOut 53 = .ok (.getstatic 378, 3) := by decide +kernel
theorem dX12_carryOut_56 : decode cX12_carryOut 56 = .ok (.aload_n 1, 1) := by decide +kernel
theorem dX12_carryOut_57 : decode cX12_carryOut 57 = .ok (.invokevirtual 384, 3) := by decide +kernel
theorem dX12_carryOut_60 : decode cX12_carryOut 60 = .ok (.iaload, 1) := by decide +kernel
theorem dX12_carryOut_61 : decode cX12_carryOut 61 = .ok (.tableswitch 129 1 6 #[39, 58, 77, 89, 98, 115], 39) := by decide +kernel
theorem dX12_carryOut_100 : decode cX12_carryOut 100 = .ok (.aload_n 0, 1) := by decide +kernel
theorem dX12_carryOut_101 : decode cX12_carryOut 101 = .ok (.getfield 10, 3) := by decide +kernel
theorem dX12_carryOut_104 : decode cX12_carryOut 104 = .ok (.iload_n 3, 1) := by decide +kernel
theorem dX12_carryOut_105 : decode cX12_carryOut 105 = .ok (.iload 4, 2) := by decide +kernel
theorem dX12_carryOut_107 : decode cX12_carryOut 107 = .ok (.invokestatic 112, 3) := by decide +kernel
theorem dX12_carryOut_110 : decode cX12_carryOut 110 = .ok (.iload 5, 2) := by decide +kernel
theorem dX12_carryOut_112 : decode cX12_carryOut 112 = .ok (.invokevirtual 116, 3) := by decide +kernel
theorem dX12_carryOut_115 : decode cX12_carryOut 115 = .ok (.pop, 1) := by decide +kernel
theorem dX12_carryOut_116 : decode cX12_carryOut 116 = .ok (.goto 80, 3) := by decide +kernel
theorem dX12_carryOut_119 : decode cX12_carryOut 119 = .ok (.aload_n 0, 1) := by decide +kernel
theorem dX12_carryOut_120 : decode cX12_carryOut 120 = .ok (.getfield 10, 3) := by decide +kernel
theorem dX12_carryOut_123 : decode cX12_carryOut 123 = .ok (.iload_n 3, 1) := by decide +kernel
theorem dX12_carryOut_124 : decode cX12_carryOut 124 = .ok (.iload 4, 2) := by decide +kernel
theorem dX12_carryOut_126 : decode cX12_carryOut 126 = .ok (.invokestatic 112, 3) := by decide +kernel
theorem dX12_carryOut_129 : decode cX12_carryOut 129 = .ok (.iload 5, 2) := by decide +kernel
theorem dX12_carryOut_131 : decode cX12_carryOut 131 = .ok (.invokevirtual 167, 3) := by decide +kernel
theorem dX12_carryOut_134 : decode cX12_carryOut 134 = .ok (.pop, 1) := by decide +kernel
theorem dX12_carryOut_135 : decode cX12_carryOut 135 = .ok (.goto 61, 3) := by decide +kernel
theorem dX12_carryOut_138 : decode cX12_carryOut 138 = .ok (.aload_n 0, 1) := by decide +kernel
theorem dX12_carryOut_139 : decode cX12_carryOut 139 = .ok (.getfield 10, 3) := by decide +kernel
theorem dX12_carryOut_142 : decode cX12_carryOut 142 = .ok (.iload_n 3, 1) := by decide +kernel
theorem dX12_carryOut_143 : decode cX12_carryOut 143 = .ok (.invokevirtual 178, 3) := by decide +kernel
theorem dX12_carryOut_146 : decode cX12_carryOut 146 = .ok (.pop, 1) := by decide +kernel
theorem dX12_carryOut_147 : decode cX12_carryOut 147 = .ok (.goto 49, 3) := by decide +kernel
theorem dX12_carryOut_150 : decode cX12_carryOut 150 = .ok (.aload_n 0, 1) := by decide +kernel
theorem dX12_carryOut_151 : decode cX12_carryOut 151 = .ok (.iload_n 3, 1) := by decide +kernel
theorem dX12_carryOut_152 : decode cX12_carryOut 152 = .ok (.invokevirtual 181, 3) := by decide +kernel
theorem dX12_carryOut_155 : decode cX12_carryOut 155 = .ok (.pop, 1) := by decide +kernel
theorem dX12_carryOut_156 : decode cX12_carryOut 156 = .ok (.goto 40, 3) := by decide +kernel
theorem dX12_carryOut_159 : decode cX12_carryOut 159 = .ok (.aload_n 0, 1) := by decide +kernel
theorem dX12_carryOut_160 : decode cX12_carryOut 160 = .ok (.getfield 10, 3) := by decide +kernel
theorem dX12_carryOut_163 : decode cX12_carryOut 163 = .ok (.iload_n 3, 1) := by decide +kernel
theorem dX12_carryOut_164 : decode cX12_carryOut 164 = .ok (.iload 4, 2) := by decide +kernel
theorem dX12_carryOut_166 : decode cX12_carryOut 166 = .ok (.invokestatic 112, 3) := by decide +kernel
theorem dX12_carryOut_169 : decode cX12_carryOut 169 = .ok (.invokevirtual 131, 3) := by decide +kernel
theorem dX12_carryOut_172 : decode cX12_carryOut 172 = .ok (.pop2, 1) := by decide +kernel
theorem dX12_carryOut_173 : decode cX12_carryOut 173 = .ok (.goto 23, 3) := by decide +kernel
theorem dX12_carryOut_176 : decode cX12_carryOut 176 = .ok (.aload_n 0, 1) := by decide +kernel
theorem dX12_carryOut_177 : decode cX12_carryOut 177 = .ok (.getfield 10, 3) := by decide +kernel
theorem dX12_carryOut_180 : decode cX12_carryOut 180 = .ok (.iload_n 3, 1) := by decide +kernel
theorem dX12_carryOut_181 : decode cX12_carryOut 181 = .ok (.iload 4, 2) := by decide +kernel
theorem dX12_carryOut_183 : decode cX12_carryOut 183 = .ok (.invokevirtual 235, 3) := by decide +kernel
theorem dX12_carryOut_186 : decode cX12_carryOut 186 = .ok (.pop, 1) := by decide +kernel
theorem dX12_carryOut_187 : decode cX12_carryOut 187 = .ok (.goto 9, 3) := by decide +kernel
theorem dX12_carryOut_190 : decode cX12_carryOut 190 = .ok (.aload_n 0, 1) := by decide +kernel
theorem dX12_carryOut_191 : decode cX12_carryOut 191 = .ok (.iload_n 3, 1) := by decide +kernel
theorem dX12_carryOut_192 : decode cX12_carryOut 192 = .ok (.invokevirtual 257, 3) := by decide +kernel
theorem dX12_carryOut_195 : decode cX12_carryOut 195 = .ok (.pop, 1) := by decide +kernel
theorem dX12_carryOut_196 : decode cX12_carryOut 196 = .ok (.iconst 1, 1) := by decide +kernel
theorem dX12_carryOut_197 : decode cX12_carryOut 197 = .ok (.ireturn, 1) := by decide +kernel
theorem dX12_faultOfCommand_0 : decode cX12_faultOfCommand 0 = .ok (.getstatic 378, 3) := by decide +kernel
theorem dX12_faultOfCommand_3 : decode cX12_faultOfCommand 3 = .ok (.aload_n 1, 1) := by decide +kernel
theorem dX12_faultOfCommand_4 : decode cX12_faultOfCommand 4 = .ok (.invokevirtual 384, 3) := by decide +kernel
theorem dX12_faultOfCommand_7 : decode cX12_faultOfCommand 7 = .ok (.iaload, 1) := by decide +kernel
theorem dX12_faultOfCommand_8 : decode cX12_faultOfCommand 8 = .ok (.tableswitch 101 1 6 #[40, 52, 64, 64, 81, 91], 40) := by decide +kernel
theorem dX12_faultOfCommand_48 : decode cX12_faultOfCommand 48 = .ok (.aload_n 0, 1) := by decide +kernel
theorem dX12_faultOfCommand_49 : decode cX12_faultOfCommand 49 = .ok (.getfield 10, 3) := by decide +kernel
theorem dX12_faultOfCommand_52 : decode cX12_faultOfCommand 52 = .ok (.iload_n 2, 1) := by decide +kernel
theorem dX12_faultOfCommand_53 : decode cX12_faultOfCommand 53 = .ok (.iload_n 3, 1) := by decide +kernel
theorem dX12_faultOfCommand_54 : decode cX12_faultOfCommand 54 = .ok (.iload 4, 2) := by decide +kernel
theorem dX12_faultOfCommand_56 : decode cX12_faultOfCommand 56 = .ok (.invokevirtual 92, 3) := by decide +kernel
theorem dX12_faultOfCommand_59 : decode cX12_faultOfCommand 59 = .ok (.ireturn, 1) := by decide +kernel
theorem dX12_faultOfCommand_60 : decode cX12_faultOfCommand 60 = .ok (.aload_n 0, 1) := by decide +kernel
theorem dX12_faultOfCommand_61 : decode cX12_faultOfCommand 61 = .ok (.getfield 10, 3) := by decide +kernel
theorem dX12_faultOfCommand_64 : decode cX12_faultOfCommand 64 = .ok (.iload_n 2, 1) := by decide +kernel
theorem dX12_faultOfCommand_65 : decode cX12_faultOfCommand 65 = .ok (.iload_n 3, 1) := by decide +kernel
theorem dX12_faultOfCommand_66 : decode cX12_faultOfCommand 66 = .ok (.iload 4, 2) := by decide +kernel
theorem dX12_faultOfCommand_68 : decode cX12_faultOfCommand 68 = .ok (.invokevirtual 160, 3) := by decide +kernel
theorem dX12_faultOfCommand_71 : decode cX12_faultOfCommand 71 = .ok (.ireturn, 1) := by decide +kernel
theorem dX12_faultOfCommand_72 : decode cX12_faultOfCommand 72 = .ok (.aload_n 0, 1) := by decide +kernel
theorem dX12_faultOfCommand_73 : decode cX12_faultOfCommand 73 = .ok (.getfield 10, 3) := by decide +kernel
theorem dX12_faultOfCommand_76 : decode cX12_faultOfCommand 76 = .ok (.iload_n 2, 1) := by decide +kernel
theorem dX12_faultOfCommand_77 : decode cX12_faultOfCommand 77 = .ok (.invokevirtual 170, 3) := by decide +kernel
theorem dX12_faultOfCommand_80 : decode cX12_faultOfCommand 80 = .ok (.ifCond .eq 7, 3) := by decide +kernel
theorem dX12_faultOfCommand_83 : decode cX12_faultOfCommand 83 = .ok (.iconst 0, 1) := by decide +kernel
theorem dX12_faultOfCommand_84 : decode cX12_faultOfCommand 84 = .ok (.goto 4, 3) := by decide +kernel
theorem dX12_faultOfCommand_87 : decode cX12_faultOfCommand 87 = .ok (.iconst 1, 1) := by decide +kernel
theorem dX12_faultOfCommand_88 : decode cX12_faultOfCommand 88 = .ok (.ireturn, 1) := by decide +kernel
theorem dX12_faultOfCommand_89 : decode cX12_faultOfCommand 89 = .ok (.aload_n 0, 1) := by decide +kernel
theorem dX12_faultOfCommand_90 : decode cX12_faultOfCommand 90 = .ok (.getfield 10, 3) := by decide +kernel
theorem dX12_faultOfCommand_93 : decode cX12_faultOfCommand 93 = .ok (.iload_n 2, 1) := by decide +kernel
theorem dX12_faultOfCommand_94 : decode cX12_faultOfCommand 94 = .ok (.iload_n 3, 1) := by decide +kernel
theorem dX12_faultOfCommand_95 : decode cX12_faultOfCommand 95 = .ok (.invokevirtual 119, 3) := by decide +kernel
theorem dX12_faultOfCommand_98 : decode cX12_faultOfCommand 98 = .ok (.ireturn, 1) := by decide +kernel
theorem dX12_faultOfCommand_99 : decode cX12_faultOfCommand 99 = .ok (.aload_n 0, 1) := by decide +kernel
theorem dX12_faultOfCommand_100 : decode cX12_faultOfCommand 100 = .ok (.getfield 10, 3) := by decide +kernel
theorem dX12_faultOfCommand_103 : decode cX12_faultOfCommand 103 = .ok (.iload_n 2, 1) := by decide +kernel
theorem dX12_faultOfCommand_104 : decode cX12_faultOfCommand 104 = .ok (.iload_n 3, 1) := by decide +kernel
theorem dX12_faultOfCommand_105 : decode cX12_faultOfCommand 105 = .ok (.invokevirtual 230, 3) := by decide +kernel
theorem dX12_faultOfCommand_108 : decode cX12_faultOfCommand 108 = .ok (.ireturn, 1) := by decide +kernel
theorem dX12_faultOfCommand_109 : decode cX12_faultOfCommand 109 = .ok (.aload_n 0, 1) := by decide +kernel
theorem dX12_faultOfCommand_110 : decode cX12_faultOfCommand 110 = .ok (.getfield 10, 3) := by decide +kernel
theorem dX12_faultOfCommand_113 : decode cX12_faultOfCommand 113 = .ok (.iload_n 2, 1) := by decide +kernel
theorem dX12_faultOfCommand_114 : decode cX12_faultOfCommand 114 = .ok (.invokevirtual 252, 3) := by decide +kernel
theorem dX12_faultOfCommand_117 : decode cX12_faultOfCommand 117 = .ok (.ireturn, 1) := by decide +kernel
theorem dX12_inRange_0 : decode cX12_inRange 0 = .ok (.iload_n 0, 1) := by decide +kernel
theorem dX12_inRange_1 : decode cX12_inRange 1 = .ok (.iload_n 1, 1) := by decide +kernel
theorem dX12_inRange_2 : decode cX12_inRange 2 = .ok (.if_icmp .lt 12, 3) := by decide +kernel
theorem dX12_inRange_5 : decode cX12_inRange 5 = .ok (.iload_n 0, 1) := by decide +kernel
theorem dX12_inRange_6 : decode cX12_inRange 6 = .ok (.iload_n 2, 1) := by decide +kernel
theorem dX12_inRange_7 : decode cX12_inRange 7 = .ok (.if_icmp .gt 7, 3) := by decide +kernel
theorem dX12_inRange_10 : decode cX12_inRange 10 = .ok (.iconst 1, 1) := by decide +kernel
theorem dX12_inRange_11 : decode cX12_inRange 11 = .ok (.goto 4, 3) := by decide +kernel
theorem dX12_inRange_14 : decode cX12_inRange 14 = .ok (.iconst 0, 1) := by decide +kernel
theorem dX12_inRange_15 : decode cX12_inRange 15 = .ok (.ireturn, 1) := by decide +kernel
theorem dX12_isCell_0 : decode cX12_isCell 0 = .ok (.iload_n 0, 1) := by decide +kernel
theorem dX12_isCell_1 : decode cX12_isCell 1 = .ok (.ifCond .lt 13, 3) := by decide +kernel
theorem dX12_isCell_4 : decode cX12_isCell 4 = .ok (.iload_n 0, 1) := by decide +kernel
theorem dX12_isCell_5 : decode cX12_isCell 5 = .ok (.bipush 36, 2) := by decide +kernel
theorem dX12_isCell_7 : decode cX12_isCell 7 = .ok (.if_icmp .ge 7, 3) := by decide +kernel
theorem dX12_isCell_10 : decode cX12_isCell 10 = .ok (.iconst 1, 1) := by decide +kernel
theorem dX12_isCell_11 : decode cX12_isCell 11 = .ok (.goto 4, 3) := by decide +kernel
theorem dX12_isCell_14 : decode cX12_isCell 14 = .ok (.iconst 0, 1) := by decide +kernel
theorem dX12_isCell_15 : decode cX12_isCell 15 = .ok (.ireturn, 1) := by decide +kernel
theorem dX12_cellAt_0 : decode cX12_cellAt 0 = .ok (.iload_n 0, 1) := by decide +kernel
theorem dX12_cellAt_1 : decode cX12_cellAt 1 = .ok (.ifCond .lt 19, 3) := by decide +kernel
theorem dX12_cellAt_4 : decode cX12_cellAt 4 = .ok (.iload_n 0, 1) := by decide +kernel
theorem dX12_cellAt_5 : decode cX12_cellAt 5 = .ok (.bipush 6, 2) := by decide +kernel
theorem dX12_cellAt_7 : decode cX12_cellAt 7 = .ok (.if_icmp .ge 13, 3) := by decide +kernel
theorem dX12_cellAt_10 : decode cX12_cellAt 10 = .ok (.iload_n 1, 1) := by decide +kernel
theorem dX12_cellAt_11 : decode cX12_cellAt 11 = .ok (.ifCond .lt 9, 3) := by decide +kernel
theorem dX12_cellAt_14 : decode cX12_cellAt 14 = .ok (.iload_n 1, 1) := by decide +kernel
theorem dX12_cellAt_15 : decode cX12_cellAt 15 = .ok (.bipush 6, 2) := by decide +kernel
theorem dX12_cellAt_17 : decode cX12_cellAt 17 = .ok (.if_icmp .lt 5, 3) := by decide +kernel
theorem dX12_cellAt_20 : decode cX12_cellAt 20 = .ok (.iconst (-1), 1) := by decide +kernel
theorem dX12_cellAt_21 : decode cX12_cellAt 21 = .ok (.ireturn, 1) := by decide +kernel
theorem dX12_cellAt_22 : decode cX12_cellAt 22 = .ok (.iload_n 0, 1) := by decide +kernel
theorem dX12_cellAt_23 : decode cX12_cellAt 23 = .ok (.bipush 6, 2) := by decide +kernel
theorem dX12_cellAt_25 : decode cX12_cellAt 25 = .ok (.imul, 1) := by decide +kernel
theorem dX12_cellAt_26 : decode cX12_cellAt 26 = .ok (.iload_n 1, 1) := by decide +kernel
theorem dX12_cellAt_27 : decode cX12_cellAt 27 = .ok (.iadd, 1) := by decide +kernel
theorem dX12_cellAt_28 : decode cX12_cellAt 28 = .ok (.ireturn, 1) := by decide +kernel
theorem dX12_neighbourOf_0 : decode cX12_neighbourOf 0 = .ok (.iload_n 0, 1) := by decide +kernel
theorem dX12_neighbourOf_1 : decode cX12_neighbourOf 1 = .ok (.bipush 6, 2) := by decide +kernel
theorem dX12_neighbourOf_3 : decode cX12_neighbourOf 3 = .ok (.idiv, 1) := by decide +kernel
theorem dX12_neighbourOf_4 : decode cX12_neighbourOf 4 = .ok (.istore_n 2, 1) := by decide +kernel
theorem dX12_neighbourOf_5 : decode cX12_neighbourOf 5 = .ok (.iload_n 0, 1) := by decide +kernel
theorem dX12_neighbourOf_6 : decode cX12_neighbourOf 6 = .ok (.bipush 6, 2) := by decide +kernel
theorem dX12_neighbourOf_8 : decode cX12_neighbourOf 8 = .ok (.irem, 1) := by decide +kernel
theorem dX12_neighbourOf_9 : decode cX12_neighbourOf 9 = .ok (.istore_n 3, 1) := by decide +kernel
theorem dX12_neighbourOf_10 : decode cX12_neighbourOf 10 = .ok (.iload_n 1, 1) := by decide +kernel
theorem dX12_neighbourOf_11 : decode cX12_neighbourOf 11 = .ok (.tableswitch 61 0 3 #[29, 37, 45, 53], 29) := by decide +kernel
theorem dX12_neighbourOf_40 : decode cX12_neighbourOf 40 = .ok (.iload_n 2, 1) := by decide +kernel
theorem dX12_neighbourOf_41 : decode cX12_neighbourOf 41 = .ok (.iconst 1, 1) := by decide +kernel
theorem dX12_neighbourOf_42 : decode cX12_neighbourOf 42 = .ok (.isub, 1) := by decide +kernel
theorem dX12_neighbourOf_43 : decode cX12_neighbourOf 43 = .ok (.iload_n 3, 1) := by decide +kernel
theorem dX12_neighbourOf_44 : decode cX12_neighbourOf 44 = .ok (.invokestatic 112, 3) := by decide +kernel
theorem dX12_neighbourOf_47 : decode cX12_neighbourOf 47 = .ok (.ireturn, 1) := by decide +kernel
theorem dX12_neighbourOf_48 : decode cX12_neighbourOf 48 = .ok (.iload_n 2, 1) := by decide +kernel
theorem dX12_neighbourOf_49 : decode cX12_neighbourOf 49 = .ok (.iload_n 3, 1) := by decide +kernel
theorem dX12_neighbourOf_50 : decode cX12_neighbourOf 50 = .ok (.iconst 1, 1) := by decide +kernel
theorem dX12_neighbourOf_51 : decode cX12_neighbourOf 51 = .ok (.iadd, 1) := by decide +kernel
theorem dX12_neighbourOf_52 : decode cX12_neighbourOf 52 = .ok (.invokestatic 112, 3) := by decide +kernel
theorem dX12_neighbourOf_55 : decode cX12_neighbourOf 55 = .ok (.ireturn, 1) := by decide +kernel
theorem dX12_neighbourOf_56 : decode cX12_neighbourOf 56 = .ok (.iload_n 2, 1) := by decide +kernel
theorem dX12_neighbourOf_57 : decode cX12_neighbourOf 57 = .ok (.iconst 1, 1) := by decide +kernel
theorem dX12_neighbourOf_58 : decode cX12_neighbourOf 58 = .ok (.iadd, 1) := by decide +kernel
theorem dX12_neighbourOf_59 : decode cX12_neighbourOf 59 = .ok (.iload_n 3, 1) := by decide +kernel
theorem dX12_neighbourOf_60 : decode cX12_neighbourOf 60 = .ok (.invokestatic 112, 3) := by decide +kernel
theorem dX12_neighbourOf_63 : decode cX12_neighbourOf 63 = .ok (.ireturn, 1) := by decide +kernel
theorem dX12_neighbourOf_64 : decode cX12_neighbourOf 64 = .ok (.iload_n 2, 1) := by decide +kernel
theorem dX12_neighbourOf_65 : decode cX12_neighbourOf 65 = .ok (.iload_n 3, 1) := by decide +kernel
theorem dX12_neighbourOf_66 : decode cX12_neighbourOf 66 = .ok (.iconst 1, 1) := by decide +kernel
theorem dX12_neighbourOf_67 : decode cX12_neighbourOf 67 = .ok (.isub, 1) := by decide +kernel
theorem dX12_neighbourOf_68 : decode cX12_neighbourOf 68 = .ok (.invokestatic 112, 3) := by decide +kernel
theorem dX12_neighbourOf_71 : decode cX12_neighbourOf 71 = .ok (.ireturn, 1) := by decide +kernel
theorem dX12_neighbourOf_72 : decode cX12_neighbourOf 72 = .ok (.iconst (-1), 1) := by decide +kernel
theorem dX12_neighbourOf_73 : decode cX12_neighbourOf 73 = .ok (.ireturn, 1) := by decide +kernel
theorem dX12_distance_0 : decode cX12_distance 0 = .ok (.iload_n 0, 1) := by decide +kernel
theorem dX12_distance_1 : decode cX12_distance 1 = .ok (.bipush 6, 2) := by decide +kernel
theorem dX12_distance_3 : decode cX12_distance 3 = .ok (.idiv, 1) := by decide +kernel
theorem dX12_distance_4 : decode cX12_distance 4 = .ok (.iload_n 1, 1) := by decide +kernel
theorem dX12_distance_5 : decode cX12_distance 5 = .ok (.bipush 6, 2) := by decide +kernel
theorem dX12_distance_7 : decode cX12_distance 7 = .ok (.idiv, 1) := by decide +kernel
theorem dX12_distance_8 : decode cX12_distance 8 = .ok (.isub, 1) := by decide +kernel
theorem dX12_distance_9 : decode cX12_distance 9 = .ok (.invokestatic 389, 3) := by decide +kernel
theorem dX12_distance_12 : decode cX12_distance 12 = .ok (.iload_n 0, 1) := by decide +kernel
theorem dX12_distance_13 : decode cX12_distance 13 = .ok (.bipush 6, 2) := by decide +kernel
theorem dX12_distance_15 : decode cX12_distance 15 = .ok (.irem, 1) := by decide +kernel
theorem dX12_distance_16 : decode cX12_distance 16 = .ok (.iload_n 1, 1) := by decide +kernel
theorem dX12_distance_17 : decode cX12_distance 17 = .ok (.bipush 6, 2) := by decide +kernel
theorem dX12_distance_19 : decode cX12_distance 19 = .ok (.irem, 1) := by decide +kernel
theorem dX12_distance_20 : decode cX12_distance 20 = .ok (.isub, 1) := by decide +kernel
theorem dX12_distance_21 : decode cX12_distance 21 = .ok (.invokestatic 389, 3) := by decide +kernel
theorem dX12_distance_24 : decode cX12_distance 24 = .ok (.iadd, 1) := by decide +kernel
theorem dX12_distance_25 : decode cX12_distance 25 = .ok (.ireturn, 1) := by decide +kernel
theorem dX12_clear_0 : decode cX12_clear 0 = .ok (.iconst 0, 1) := by decide +kernel
theorem dX12_clear_1 : decode cX12_clear 1 = .ok (.istore_n 1, 1) := by decide +kernel
theorem dX12_clear_2 : decode cX12_clear 2 = .ok (.iload_n 1, 1) := by decide +kernel
theorem dX12_clear_3 : decode cX12_clear 3 = .ok (.aload_n 0, 1) := by decide +kernel
theorem dX12_clear_4 : decode cX12_clear 4 = .ok (.arraylength, 1) := by decide +kernel
theorem dX12_clear_5 : decode cX12_clear 5 = .ok (.if_icmp .ge 13, 3) := by decide +kernel
theorem dX12_clear_8 : decode cX12_clear 8 = .ok (.aload_n 0, 1) := by decide +kernel
theorem dX12_clear_9 : decode cX12_clear 9 = .ok (.iload_n 1, 1) := by decide +kernel
theorem dX12_clear_10 : decode cX12_clear 10 = .ok (.iconst 0, 1) := by decide +kernel
theorem dX12_clear_11 : decode cX12_clear 11 = .ok (.bastore, 1) := by decide +kernel
theorem dX12_clear_12 : decode cX12_clear 12 = .ok (.iinc 1 1, 3) := by decide +kernel
theorem dX12_clear_15 : decode cX12_clear 15 = .ok (.goto (-13), 3) := by decide +kernel
theorem dX12_clear_18 : decode cX12_clear 18 = .ok (.return_, 1) := by decide +kernel
